/-- what tell changes of the reference -/
def MOf (mo mo' : MOt) : Prop := ∃ (f : Nat → Int64) (a b c d : Int32), mo' = sMO_lately (sMO_early (sMO_firings (sMO_kept (sMO_told mo f) a) b) c) d
/-- a firing is told: both keep the same firings -/
theorem p_tell (k : Nat) (hk : 5000 ≤ k) (key : Int32) (b e : Int64) (how which : Int32) {fs : FSt} {co : COt} {mo : MOt} {T : Nat} (h : FR fs mo T) (hC : CR co mo) (hT : T + 1 ≤ 4000000) :
    ∃ fs' mo', f_FS_add k key b e how which fs co = some fs' ∧ f_MO_tell k key b e how which mo = some mo' ∧ FR fs' mo' (T + 1) ∧ MOf mo mo' := by
  obtain ⟨h1, h2, h3, h4, h5, h6, h7⟩ := h
  obtain ⟨f, f1, f2⟩ := p_FSadd k (by omega) key b e how which fs co T h1 h6
  obtain ⟨g, g1, g2⟩ := p_MOtell k hk key b e how which mo T h2 h3
  refine ⟨_, _, f1, g1, ?_, ⟨g, _, _, _, _, rfl⟩⟩
  have hn : ∀ w : Nat, w < 10 → nw key b e how which (fun i => f_CO_part (nI (4 + i)) co) w = nw key b e how which (MO_got mo) w := by
    intro w hw
    unfold nw
    by_cases q : 4 ≤ w ∧ w < 9
    · have := hC (w - 4) (by omega)
      simp only [this]
    · simp only [if_neg q]
  have cells : ∀ j w : Nat, j < min (T + 1) 400 → w < 10 → f ((T + 1 - min (T + 1) 400 + j) % 400 * 10 + w) = g (10 * j + w) := by
    intro j w hj hw
    rw [f2, g2]
    by_cases hl : j + 1 = min (T + 1) 400
    · have e1 : (T + 1 - min (T + 1) 400 + j) % 400 = T % 400 := by rw [show T + 1 - min (T + 1) 400 + j = T by omega]
      rw [e1, if_pos (by omega), if_pos (by omega), show T % 400 * 10 + w - T % 400 * 10 = w by omega, show 10 * j + w - 10 * (min (T + 1) 400 - 1) = w by omega]
      exact hn w hw
    · have e2 : (T + 1 - min (T + 1) 400 + j) % 400 ≠ T % 400 := by omega
      rw [if_neg (by omega), if_neg (by omega)]
      by_cases h400 : 400 ≤ T
      · rw [if_pos ⟨h400, by omega⟩]
        have := h7 (j + 1) w (by omega) hw
        rw [show T - min T 400 + (j + 1) = T + 1 - min (T + 1) 400 + j by omega] at this
        rw [this, show 10 * (j + 1) + w = 10 * j + w + 10 by omega]
      · rw [if_neg (fun z => h400 z.1)]
        have := h7 j w (by omega) hw
        rw [show T - min T 400 + j = T + 1 - min (T + 1) 400 + j by omega] at this
        exact this
  by_cases a : how = 0
  · have a2 : ¬ how = 2 := by rw [a]; decide
    simp only [if_pos a, if_neg a2]
    exact ⟨rfl, rfl, rfl, by show FS_early fs + 1 = MO_early mo + 1; rw [h4], by show FS_lately fs = MO_lately mo + 0; rw [h5, Int32.add_zero], hT, cells⟩
  · by_cases c : how = 2
    · simp only [if_neg a, if_pos c]
      exact ⟨rfl, rfl, rfl, by show FS_early fs = MO_early mo + 0; rw [h4, Int32.add_zero], by show FS_lately fs + 1 = MO_lately mo + 1; rw [h5], hT, cells⟩
    · simp only [if_neg a, if_neg c]
      exact ⟨rfl, rfl, rfl, by show FS_early fs = MO_early mo + 0; rw [h4, Int32.add_zero], by show FS_lately fs = MO_lately mo + 0; rw [h5, Int32.add_zero], hT, cells⟩
