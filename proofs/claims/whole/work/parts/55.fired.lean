theorem p_kept {fs : FSt} {T : Nat} (h : FS_total fs = nI T) (hT : T ≤ 4000000) : f_FS_kept fs = nI (min T 400) := by
  have h400 : (400 : Int32) = nI 400 := rfl
  unfold f_FS_kept
  rw [h, h400]
  by_cases q : 400 < T
  · rw [if_pos (nI_lt q (by omega)), show min T 400 = 400 by omega]
  · rw [if_neg (nI_nlt (by omega) (by omega)), show min T 400 = T by omega]
theorem p_w0 (v a b : Int64) : (f_SR_isWithin v a b = 0) ↔ ¬ (a.toInt ≤ v.toInt ∧ v.toInt ≤ b.toInt) := by
  rw [p_within]
  by_cases h : a.toInt ≤ v.toInt ∧ v.toInt ≤ b.toInt
  · rw [if_pos h]
    exact ⟨fun z => absurd z (by decide), fun z => absurd h z⟩
  · rw [if_neg h]
    exact ⟨fun _ => h, fun _ => rfl⟩
/-- promise 11, the pure part -/
theorem p_fired {fs : FSt} {mo : MOt} {T : Nat} (h : FR fs mo T) (x y : Int32) (sr : SRt) : ∃ a : Int64, f_SR_fired x y sr fs = some a ∧ f_MO_fired x y mo = some (a, sMO_thrown mo 0) := by
  obtain ⟨h1, h2, h3, h4, h5, h6, h7⟩ := h
  have hk := p_kept h1 h6
  have c0 : (0 : Int64).toInt = 0 := rfl
  have c9 : (9 : Int64).toInt = 9 := rfl
  have z0 : (0 : Int32).toInt = 0 := rfl
  have z1 : (1 : Int32).toInt = 1 := rfl
  have z9 : (9 : Int32).toInt = 9 := rfl
  have hKI : (nI (min T 400)).toInt = ((min T 400 : Nat) : Int) := nI_toInt (by omega)
  have hK1 : ((nI (min T 400) - 1).toInt64).toInt = ((min T 400 : Nat) : Int) - 1 := by rw [pi_l, pi_sub, hKI, z1] <;> rw [hKI, z1] <;> omega
  unfold f_SR_fired f_MO_fired
  have w1 := p_w0 x.toInt64 0 (f_FS_kept fs - 1).toInt64
  have w2 := p_w0 y.toInt64 0 9
  rw [hk, hK1, c0, pi_l] at w1
  rw [c0, c9, pi_l] at w2
  rw [hk, h3]
  by_cases a : x.toInt < 0
  · rw [if_pos (w1.mpr (by omega)), if_pos (show x < 0 by rw [pi_lt, z0]; exact a)]
    exact ⟨_, rfl, rfl⟩
  · rw [if_neg (show ¬ x < 0 by rw [pi_lt, z0]; exact a)]
    by_cases b : x.toInt < ((min T 400 : Nat) : Int)
    · rw [if_neg (fun z => w1.mp z (by omega)), if_pos (show x < nI (min T 400) by rw [pi_lt, hKI]; exact b)]
      by_cases c : y.toInt < 0
      · rw [if_pos (w2.mpr (by omega)), if_pos (show y < 0 by rw [pi_lt, z0]; exact c)]
        exact ⟨_, rfl, rfl⟩
      · rw [if_neg (show ¬ y < 0 by rw [pi_lt, z0]; exact c)]
        by_cases d : y.toInt ≤ 9
        · rw [if_neg (fun z => w2.mp z (by omega)), if_pos (show y ≤ 9 by rw [pi_le, z9]; exact d)]
          obtain ⟨j, hj, rfl⟩ : ∃ j : Nat, j < min T 400 ∧ x = nI j := ⟨x.toInt.toNat, by omega, by rw [pi_eq, nI_toInt (by omega)]; omega⟩
          obtain ⟨w, hw, rfl⟩ : ∃ w : Nat, w < 10 ∧ y = nI w := ⟨y.toInt.toNat, by omega, by rw [pi_eq, nI_toInt (by omega)]; omega⟩
          have h10 : (10 : Int32) = nI 10 := rfl
          have h400 : (400 : Int32) = nI 400 := rfl
          have e1 : 10 * nI j + nI w = nI (10 * j + w) := by rw [h10, pk_mul, nI_add]
          have e2 : FS_total fs - f_FS_kept fs + nI j = nI (T - min T 400 + j) := by rw [h1, hk, pk_sub (by omega), nI_add]
          have e3 : (FS_total fs - f_FS_kept fs + nI j - (FS_total fs - f_FS_kept fs + nI j) / 400 * 400) * 10 + nI w = nI ((T - min T 400 + j) % 400 * 10 + w) := by
            rw [e2, h400, pk_rem (by omega) (by omega) (by omega), h10, pk_mul, nI_add]
          unfold f_FS_cell
          rw [e3, e1, if_neg (nI_in (by omega) (by omega)), if_neg (nI_in (by omega) (by omega)), nI_clamp (by omega), nI_clamp (by omega), h7 j w hj hw]
          exact ⟨_, rfl, rfl⟩
        · rw [if_pos (w2.mpr (by omega)), if_neg (show ¬ y ≤ 9 by rw [pi_le, z9]; exact d)]
          exact ⟨_, rfl, rfl⟩
    · rw [if_pos (w1.mpr (by omega)), if_neg (show ¬ x < nI (min T 400) by rw [pi_lt, hKI]; exact b)]
      exact ⟨_, rfl, rfl⟩
