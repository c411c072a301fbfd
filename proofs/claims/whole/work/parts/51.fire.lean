/-! PURE PART E: firings: the loops of tell and add -/
theorem p_L13 : ∀ (n i : Nat) (mo : MOt), i ≤ 3990 → 3990 - i < n → ∃ f : Nat → Int64, f_MO_tell_L13 n (nI i) mo = some (sMO_told mo f) ∧ ∀ j : Nat, f j = if i ≤ j ∧ j < 3990 then MO_told mo (j + 10) else MO_told mo j := by
  intro n
  induction n with
  | zero => intro i mo _ h; omega
  | succ n ih =>
    intro i mo hi hn
    have h10 : (10 : Int32) = nI 10 := rfl
    rw [f_MO_tell_L13]
    by_cases hc : i = 3990
    · subst hc
      rw [if_pos (show (3990 : Int32) ≤ nI 3990 from by decide)]
      exact ⟨MO_told mo, rfl, fun j => by rw [if_neg (by omega)]⟩
    · have e1 : nI i + 10 = nI (i + 10) := by rw [h10, nI_add]
      rw [if_neg (show ¬ (3990 : Int32) ≤ nI i from nI_ge (a := i) (b := 3990) (by omega) (by omega)), e1, if_neg (nI_in (by omega) (by omega)), if_neg (nI_in (by omega) (by omega)), nI_clamp (by omega), nI_clamp (by omega)]
      dsimp only [gl_let]
      rw [nI_1]
      obtain ⟨f, f1, f2⟩ := ih (i + 1) (sMO_told mo (vp_updL (MO_told mo) i (MO_told mo (i + 10)))) (by omega) (by omega)
      refine ⟨f, f1, fun j => ?_⟩
      rw [f2 j]
      show (if i + 1 ≤ j ∧ j < 3990 then vp_updL (MO_told mo) i (MO_told mo (i + 10)) (j + 10) else vp_updL (MO_told mo) i (MO_told mo (i + 10)) j) = _
      by_cases hj : j = i
      · subst hj
        rw [if_neg (by omega), if_pos (by omega), pk_uLs]
      · by_cases hq : i ≤ j ∧ j < 3990
        · rw [if_pos (by omega), if_pos hq, pk_uLn (by omega)]
        · rw [if_neg (by omega), if_neg hq, pk_uLn hj]
theorem p_L108 (b : Nat) (hb : b + 9 < 4000) : ∀ (n i : Nat) (mo : MOt), i ≤ 5 → 5 - i < n → ∃ f : Nat → Int64, f_MO_tell_L108 (nI b) n (nI i) mo = some (sMO_told mo f) ∧ ∀ j : Nat, f j = if b + 4 + i ≤ j ∧ j < b + 9 then MO_got mo (j - (b + 4)) else MO_told mo j := by
  intro n
  induction n with
  | zero => intro i mo _ h; omega
  | succ n ih =>
    intro i mo hi hn
    have h4 : (4 : Int32) = nI 4 := rfl
    rw [f_MO_tell_L108]
    by_cases hc : i = 5
    · subst hc
      rw [if_pos (show (5 : Int32) ≤ nI 5 from by decide)]
      exact ⟨MO_told mo, rfl, fun j => by rw [if_neg (by omega)]⟩
    · have e1 : nI b + 4 + nI i = nI (b + 4 + i) := by rw [h4, nI_add, nI_add]
      rw [if_neg (show ¬ (5 : Int32) ≤ nI i from nI_ge (a := i) (b := 5) (by omega) (by omega)), e1, if_neg (nI_in (by omega) (by omega)), if_neg (nI_in (by omega) (by omega)), nI_clamp (by omega), nI_clamp (by omega)]
      dsimp only [gl_let]
      rw [nI_1]
      obtain ⟨f, f1, f2⟩ := ih (i + 1) (sMO_told mo (vp_updL (MO_told mo) (b + 4 + i) (MO_got mo i))) (by omega) (by omega)
      refine ⟨f, f1, fun j => ?_⟩
      rw [f2 j]
      show (if b + 4 + (i + 1) ≤ j ∧ j < b + 9 then MO_got mo (j - (b + 4)) else vp_updL (MO_told mo) (b + 4 + i) (MO_got mo i) j) = _
      by_cases hj : j = b + 4 + i
      · subst hj
        rw [if_neg (by omega), if_pos (by omega), pk_uLs, show b + 4 + i - (b + 4) = i by omega]
      · rw [pk_uLn hj]
        by_cases hq : b + 4 + i ≤ j ∧ j < b + 9
        · rw [if_pos (by omega), if_pos hq]
        · rw [if_neg (by omega), if_neg hq]
theorem p_L58 (co : COt) (b : Nat) (hb : b + 9 < 4000) : ∀ (n i : Nat) (fs : FSt), i ≤ 9 → 9 - i < n → ∃ f : Nat → Int64, f_FS_add_L58 co (nI b) n (nI i) fs = some (sFS_cells fs f) ∧ ∀ j : Nat, f j = if b + i ≤ j ∧ j < b + 9 then f_CO_part (nI (j - b)) co else FS_cells fs j := by
  intro n
  induction n with
  | zero => intro i fs _ h; omega
  | succ n ih =>
    intro i fs hi hn
    rw [f_FS_add_L58]
    by_cases hc : i = 9
    · subst hc
      rw [if_pos (show (8 : Int32) < nI 9 from by decide)]
      exact ⟨FS_cells fs, rfl, fun j => by rw [if_neg (by omega)]⟩
    · have e1 : nI b + nI i = nI (b + i) := nI_add b i
      rw [if_neg (show ¬ (8 : Int32) < nI i from nI_nlt (a := 8) (b := i) (by omega) (by omega)), e1, if_neg (nI_in (by omega) (by omega)), nI_clamp (by omega)]
      dsimp only [gl_let]
      rw [nI_1]
      obtain ⟨f, f1, f2⟩ := ih (i + 1) (sFS_cells fs (vp_updL (FS_cells fs) (b + i) (f_CO_part (nI i) co))) (by omega) (by omega)
      refine ⟨f, f1, fun j => ?_⟩
      rw [f2 j]
      show (if b + (i + 1) ≤ j ∧ j < b + 9 then f_CO_part (nI (j - b)) co else vp_updL (FS_cells fs) (b + i) (f_CO_part (nI i) co) j) = _
      by_cases hj : j = b + i
      · subst hj
        rw [if_neg (by omega), if_pos (by omega), pk_uLs, show b + i - b = i by omega]
      · rw [pk_uLn hj]
        by_cases hq : b + i ≤ j ∧ j < b + 9
        · rw [if_pos (by omega), if_pos hq]
        · rw [if_neg (by omega), if_neg hq]
