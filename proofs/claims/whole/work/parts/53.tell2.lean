theorem p_B7 (k : Nat) (hk : 5000 ≤ k) (mo : MOt) (T : Nat) (hK : MO_kept mo = nI (min T 400)) : ∃ g : Nat → Int64, f_MO_tell_B7 k mo = some (sMO_kept (sMO_told mo g) (nI (min (T + 1) 400 - 1))) ∧ ∀ j : Nat, g j = if 400 ≤ T ∧ j < 3990 then MO_told mo (j + 10) else MO_told mo j := by
  have h400 : (400 : Int32) = nI 400 := rfl
  have h1 : (1 : Int32) = nI 1 := rfl
  unfold f_MO_tell_B7
  by_cases hT : 400 ≤ T
  · rw [hK, show min T 400 = 400 by omega, if_pos h400.symm]
    obtain ⟨f, f1, f2⟩ := p_L13 k 0 mo (by omega) (by omega)
    rw [nI_0] at f1
    rw [f1]
    refine ⟨f, ?_, fun j => ?_⟩
    · show some (sMO_kept (sMO_told mo f) (MO_kept mo - 1)) = _
      rw [hK, show min T 400 = 400 by omega, show min (T + 1) 400 - 1 = 399 by omega]
      rfl
    · rw [f2 j]
      by_cases q : j < 3990
      · rw [if_pos ⟨by omega, q⟩, if_pos ⟨hT, q⟩]
      · rw [if_neg (fun z => q z.2), if_neg (fun z => q z.2)]
  · rw [if_neg (by rw [hK, h400, nI_eq (by omega) (by omega)]; omega)]
    refine ⟨MO_told mo, ?_, fun j => by rw [if_neg (fun z => hT z.1)]⟩
    rw [show min (T + 1) 400 - 1 = min T 400 by omega, ← hK]
theorem p_MOtell (k : Nat) (hk : 5000 ≤ k) (key : Int32) (b e : Int64) (how which : Int32) (mo : MOt) (T : Nat) (hF : MO_firings mo = nI T) (hK : MO_kept mo = nI (min T 400)) :
    ∃ f : Nat → Int64, f_MO_tell k key b e how which mo = some (sMO_lately (sMO_early (sMO_firings (sMO_kept (sMO_told mo f) (nI (min (T + 1) 400))) (nI (T + 1))) (MO_early mo + (if how = 0 then 1 else 0))) (MO_lately mo + (if how = 2 then 1 else 0))) ∧
      ∀ j : Nat, f j = if 10 * (min (T + 1) 400 - 1) ≤ j ∧ j < 10 * (min (T + 1) 400 - 1) + 10 then nw key b e how which (MO_got mo) (j - 10 * (min (T + 1) 400 - 1)) else if 400 ≤ T ∧ j < 3990 then MO_told mo (j + 10) else MO_told mo j := by
  have h10 : (10 : Int32) = nI 10 := rfl
  have h2 : (2 : Int32) = nI 2 := rfl
  have h3 : (3 : Int32) = nI 3 := rfl
  have h9 : (9 : Int32) = nI 9 := rfl
  obtain ⟨g, g1, g2⟩ := p_B7 k hk mo T hK
  have hKn : nI (min (T + 1) 400 - 1) + 1 = nI (min (T + 1) 400) := by rw [nI_1, show min (T + 1) 400 - 1 + 1 = min (T + 1) 400 by omega]
  have hM : min (T + 1) 400 - 1 ≤ 399 := by omega
  generalize min (T + 1) 400 = K1 at g1 hKn hM ⊢
  unfold f_MO_tell
  rw [g1]
  dsimp only [gl_let, Option.bind]
  have eb : 10 * MO_kept (sMO_kept (sMO_told mo g) (nI (K1 - 1))) = nI (10 * (K1 - 1)) := by
    show 10 * nI (K1 - 1) = _
    rw [h10, pk_mul]
  rw [eb]
  have hb : 10 * (K1 - 1) + 9 < 4000 := by omega
  generalize 10 * (K1 - 1) = B at hb ⊢
  have e1 : nI B + 1 = nI (B + 1) := nI_1 B
  have e2 : nI B + 2 = nI (B + 2) := by rw [h2, nI_add]
  have e3 : nI B + 3 = nI (B + 3) := by rw [h3, nI_add]
  have e9 : nI B + 9 = nI (B + 9) := by rw [h9, nI_add]
  rw [e1, e2, e3, e9, if_neg (nI_in (by omega) (by omega)), if_neg (nI_in (by omega) (by omega)), if_neg (nI_in (by omega) (by omega)), if_neg (nI_in (by omega) (by omega)), nI_clamp (by omega), nI_clamp (by omega), nI_clamp (by omega), nI_clamp (by omega)]
  obtain ⟨f, f1, f2⟩ := p_L108 B hb k 0 (sMO_told (sMO_kept (sMO_told mo g) (nI (K1 - 1))) (vp_updL (vp_updL (vp_updL (vp_updL g B key.toInt64) (B + 1) b) (B + 2) e) (B + 3) how.toInt64)) (by omega) (by omega)
  rw [nI_0] at f1
  have f1 : f_MO_tell_L108 (nI B) k 0 (sMO_told (sMO_kept (sMO_told mo g) (nI (K1 - 1))) (vp_updL (vp_updL (vp_updL (vp_updL (MO_told (sMO_kept (sMO_told mo g) (nI (K1 - 1)))) B key.toInt64) (B + 1) b) (B + 2) e) (B + 3) how.toInt64)) = _ := f1
  rw [f1]
  dsimp only
  rw [if_neg (nI_in (by omega) (by omega)), nI_clamp (by omega)]
  refine ⟨vp_updL f (B + 9) which.toInt64, ?_, fun j => ?_⟩
  · unfold f_MO_tell_B179
    by_cases c : how = 2
    · rw [if_pos c, if_pos c]
      show some (sMO_lately (sMO_early (sMO_firings (sMO_kept (sMO_told mo _) (nI (K1 - 1) + 1)) (MO_firings mo + 1)) (MO_early mo + _)) (MO_lately mo + 1)) = _
      rw [hKn, hF, nI_1]
    · rw [if_neg c, if_neg c]
      show some (sMO_lately (sMO_early (sMO_firings (sMO_kept (sMO_told mo _) (nI (K1 - 1) + 1)) (MO_firings mo + 1)) (MO_early mo + _)) (MO_lately mo + 0)) = _
      rw [hKn, hF, nI_1]
  · have f2j : f j = if B + 4 + 0 ≤ j ∧ j < B + 9 then MO_got mo (j - (B + 4)) else vp_updL (vp_updL (vp_updL (vp_updL g B key.toInt64) (B + 1) b) (B + 2) e) (B + 3) how.toInt64 j := f2 j
    show (if j = B + 9 then which.toInt64 else f j) = _
    rw [f2j, ← g2 j]
    unfold nw vp_updL
    by_cases hin : B ≤ j ∧ j < B + 10
    · rw [if_pos hin]
      obtain ⟨w, hw⟩ : ∃ w, j = B + w := ⟨j - B, by omega⟩
      subst hw
      rw [show B + w - B = w by omega, show B + w - (B + 4) = w - 4 by omega]
      rcases (show w = 0 ∨ w = 1 ∨ w = 2 ∨ w = 3 ∨ w = 4 ∨ w = 5 ∨ w = 6 ∨ w = 7 ∨ w = 8 ∨ w = 9 by omega) with rfl | rfl | rfl | rfl | rfl | rfl | rfl | rfl | rfl | rfl <;> simp <;> (intro h; omega)
    · rw [if_neg hin, if_neg (by omega), if_neg (by omega), if_neg (by omega), if_neg (by omega), if_neg (by omega), if_neg (by omega)]
