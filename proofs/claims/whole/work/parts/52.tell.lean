def FR (fs : FSt) (mo : MOt) (T : Nat) : Prop := FS_total fs = nI T ∧ MO_firings mo = nI T ∧ MO_kept mo = nI (min T 400) ∧ FS_early fs = MO_early mo ∧ FS_lately fs = MO_lately mo ∧ T ≤ 4000000 ∧ ∀ j w : Nat, j < min T 400 → w < 10 → FS_cells fs ((T - min T 400 + j) % 400 * 10 + w) = MO_told mo (10 * j + w)
def CR (co : COt) (mo : MOt) : Prop := ∀ i : Nat, i < 5 → f_CO_part (nI (4 + i)) co = MO_got mo i
/-- one firing's ten cells -/
def nw (key : Int32) (b e : Int64) (how which : Int32) (g : Nat → Int64) (w : Nat) : Int64 := if w = 9 then which.toInt64 else if 4 ≤ w ∧ w < 9 then g (w - 4) else if w = 3 then how.toInt64 else if w = 2 then e else if w = 1 then b else key.toInt64
theorem p_FSadd (k : Nat) (hk : 10 ≤ k) (key : Int32) (b e : Int64) (how which : Int32) (fs : FSt) (co : COt) (T : Nat) (hT : FS_total fs = nI T) (hT2 : T ≤ 4000000) :
    ∃ f : Nat → Int64, f_FS_add k key b e how which fs co = some (if how = 0 then sFS_early (sFS_total (sFS_cells fs f) (nI (T + 1))) (FS_early fs + 1) else if how = 2 then sFS_lately (sFS_total (sFS_cells fs f) (nI (T + 1))) (FS_lately fs + 1) else sFS_total (sFS_cells fs f) (nI (T + 1))) ∧
      ∀ j : Nat, f j = if T % 400 * 10 ≤ j ∧ j < T % 400 * 10 + 10 then nw key b e how which (fun i => f_CO_part (nI (4 + i)) co) (j - T % 400 * 10) else FS_cells fs j := by
  have h400 : (400 : Int32) = nI 400 := rfl
  have h10 : (10 : Int32) = nI 10 := rfl
  have h1 : (1 : Int32) = nI 1 := rfl
  have h2 : (2 : Int32) = nI 2 := rfl
  have h3 : (3 : Int32) = nI 3 := rfl
  have h4 : (4 : Int32) = nI 4 := rfl
  have h9 : (9 : Int32) = nI 9 := rfl
  have eb : (FS_total fs - FS_total fs / 400 * 400) * 10 = nI (T % 400 * 10) := by rw [hT, h400, pk_rem (by omega) (by omega) (by omega), h10, pk_mul]
  have hb : T % 400 * 10 + 9 < 4000 := by omega
  unfold f_FS_add
  dsimp only [gl_let]
  rw [eb]
  generalize T % 400 * 10 = B at hb
  have e1 : nI B + 1 = nI (B + 1) := nI_1 B
  have e2 : nI B + 2 = nI (B + 2) := by rw [h2, nI_add]
  have e3 : nI B + 3 = nI (B + 3) := by rw [h3, nI_add]
  have e9 : nI B + 9 = nI (B + 9) := by rw [h9, nI_add]
  rw [e1, e2, e3, e9, if_neg (nI_in (by omega) (by omega)), if_neg (nI_in (by omega) (by omega)), if_neg (nI_in (by omega) (by omega)), if_neg (nI_in (by omega) (by omega)), nI_clamp (by omega), nI_clamp (by omega), nI_clamp (by omega), nI_clamp (by omega)]
  obtain ⟨f, f1, f2⟩ := p_L58 co B hb k 4 (sFS_cells fs (vp_updL (vp_updL (vp_updL (vp_updL (FS_cells fs) B key.toInt64) (B + 1) b) (B + 2) e) (B + 3) how.toInt64)) (by omega) (by omega)
  rw [h4, f1]
  dsimp only [Option.bind]
  rw [if_neg (nI_in (by omega) (by omega)), nI_clamp (by omega)]
  refine ⟨vp_updL f (B + 9) which.toInt64, ?_, fun j => ?_⟩
  · have et : FS_total fs + 1 = nI (T + 1) := by rw [hT, nI_1]
    by_cases a : how = 0
    · rw [if_pos a, if_pos a]
      show some (sFS_early (sFS_total (sFS_cells fs _) (FS_total fs + 1)) _) = _
      rw [et]
    · rw [if_neg a, if_neg a]
      by_cases c : how = 2
      · rw [if_pos c, if_pos c]
        show some (sFS_lately (sFS_total (sFS_cells fs _) (FS_total fs + 1)) _) = _
        rw [et]
      · rw [if_neg c, if_neg c]
        show some (sFS_total (sFS_cells fs _) (FS_total fs + 1)) = _
        rw [et]
  · have f2j : f j = if B + 4 ≤ j ∧ j < B + 9 then f_CO_part (nI (j - B)) co else vp_updL (vp_updL (vp_updL (vp_updL (FS_cells fs) B key.toInt64) (B + 1) b) (B + 2) e) (B + 3) how.toInt64 j := f2 j
    show (if j = B + 9 then which.toInt64 else f j) = _
    rw [f2j]
    unfold nw vp_updL
    by_cases hin : B ≤ j ∧ j < B + 10
    · rw [if_pos hin]
      obtain ⟨w, hw⟩ : ∃ w, j = B + w := ⟨j - B, by omega⟩
      subst hw
      rw [show B + w - B = w by omega]
      rcases (show w = 0 ∨ w = 1 ∨ w = 2 ∨ w = 3 ∨ w = 4 ∨ w = 5 ∨ w = 6 ∨ w = 7 ∨ w = 8 ∨ w = 9 by omega) with rfl | rfl | rfl | rfl | rfl | rfl | rfl | rfl | rfl | rfl <;> simp <;> (intro h; omega)
    · rw [if_neg hin, if_neg (by omega), if_neg (by omega), if_neg (by omega), if_neg (by omega), if_neg (by omega), if_neg (by omega)]
