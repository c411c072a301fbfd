theorem p_pow {i : Nat} (h : i ≤ 41) : 0 < (2 : Int) ^ i ∧ (2 : Int) ^ i ≤ 2199023255552 := by
  refine ⟨Int.pow_pos (by omega), ?_⟩
  have h1 : 2 ^ i ≤ 2 ^ 41 := Nat.pow_le_pow_right (by omega) h
  have h2 : ((2 ^ i : Nat) : Int) ≤ ((2 ^ 41 : Nat) : Int) := Int.ofNat_le.mpr h1
  simpa using h2
theorem p_powS (i : Nat) : (2 : Int) ^ (i + 1) = 2 * 2 ^ i := by rw [Int.pow_succ, Int.mul_comm]
/-- the least I with d < 2^I -/
theorem p_least (d : Int) (h0 : 0 ≤ d) (h1 : d ≤ 1100000000000) : ∃ I : Nat, I ≤ 41 ∧ d < 2 ^ I ∧ ∀ j : Nat, j < I → (2 : Int) ^ j ≤ d := by
  obtain ⟨I, hI, hl⟩ := pk_least (fun I => d < (2 : Int) ^ I) ⟨41, by show d < (2 : Int) ^ 41; omega⟩
  refine ⟨I, ?_, hI, fun j hj => by have := hl j hj; omega⟩
  rcases Nat.lt_or_ge 41 I with q | q
  · exact absurd (show d < (2 : Int) ^ 41 by omega) (hl 41 q)
  · exact q
theorem p_LAdbl (t : Int64) (I : Nat) (hI : I ≤ 41) (h1 : t.toInt < 2 ^ I) (h2 : ∀ j : Nat, j < I → (2 : Int) ^ j ≤ t.toInt) : ∀ (n i : Nat) (a b : Int64), i ≤ I → I - i < n → b.toInt = 2 ^ i → a.toInt = (if i = 0 then 0 else 2 ^ (i - 1)) →
    ∃ a' b', f_LA_doubling_L33 t n a b (nI i) = some (a', b') ∧ b'.toInt = 2 ^ I ∧ a'.toInt = (if I = 0 then 0 else 2 ^ (I - 1)) := by
  intro n
  induction n with
  | zero => intro i a b _ h; omega
  | succ n ih =>
    intro i a b hi hn hb ha
    have c2 : (2 : Int64).toInt = 2 := rfl
    rw [f_LA_doubling_L33, if_neg (show ¬ (62 : Int32) ≤ nI i from nI_ge (a := i) (b := 62) (by omega) (by omega))]
    by_cases hc : i = I
    · subst hc
      rw [if_pos (by rw [pl_lt, hb]; exact h1)]
      exact ⟨a, b, rfl, hb, ha⟩
    · have hp := p_pow (i := i) (by omega)
      rw [if_neg (by rw [pl_lt, hb]; have := h2 i (by omega); omega)]
      unfold gl_let
      dsimp only
      rw [nI_1]
      exact ih (i + 1) b (2 * b) (by omega) (by omega) (by rw [pl_mul, c2, hb, p_powS] <;> rw [c2, hb] <;> omega) (by rw [if_neg (by omega), hb]; rfl)
theorem p_MOup22 (t : Int64) (I : Nat) (hI : I ≤ 41) (h1 : t.toInt < 2 ^ I) (h2 : ∀ j : Nat, j < I → (2 : Int) ^ j ≤ t.toInt) : ∀ (n i : Nat) (b : Int64), i ≤ I → I - i < n → b.toInt = 2 ^ i → ∃ b', f_MO_double0_L22 t n b = some b' ∧ b'.toInt = 2 ^ I := by
  intro n
  induction n with
  | zero => intro i b _ h; omega
  | succ n ih =>
    intro i b hi hn hb
    have c2 : (2 : Int64).toInt = 2 := rfl
    rw [f_MO_double0_L22]
    by_cases hc : i = I
    · subst hc
      rw [if_pos (by rw [pl_lt, hb]; exact h1)]
      exact ⟨b, rfl, hb⟩
    · have hp := p_pow (i := i) (by omega)
      rw [if_neg (by rw [pl_lt, hb]; have := h2 i (by omega); omega)]
      unfold gl_let
      dsimp only
      exact ih (i + 1) (b * 2) (by omega) (by omega) (by rw [pl_mul, c2, hb, p_powS, Int.mul_comm] <;> rw [c2, hb] <;> omega)
theorem p_MOup75 (t : Int64) (I : Nat) (hI : I ≤ 41) (h1 : t.toInt ≤ 2 ^ I) (h2 : ∀ j : Nat, j < I → (2 : Int) ^ j < t.toInt) : ∀ (n i : Nat) (b : Int64), i ≤ I → I - i < n → b.toInt = 2 ^ i → ∃ b', f_MO_double0_L75 t n b = some b' ∧ b'.toInt = 2 ^ I := by
  intro n
  induction n with
  | zero => intro i b _ h; omega
  | succ n ih =>
    intro i b hi hn hb
    have c2 : (2 : Int64).toInt = 2 := rfl
    rw [f_MO_double0_L75]
    by_cases hc : i = I
    · subst hc
      rw [if_pos (by rw [pl_le, hb]; exact h1)]
      exact ⟨b, rfl, hb⟩
    · have hp := p_pow (i := i) (by omega)
      rw [if_neg (by rw [pl_le, hb]; have := h2 i (by omega); omega)]
      unfold gl_let
      dsimp only
      exact ih (i + 1) (b * 2) (by omega) (by omega) (by rw [pl_mul, c2, hb, p_powS, Int.mul_comm] <;> rw [c2, hb] <;> omega)
theorem p_half (b : Int64) (I : Nat) (hI : I ≤ 41) (hb : b.toInt = 2 ^ I) (h0 : I ≠ 0) : (b / 2).toInt = 2 ^ (I - 1) := by
  have c2 : (2 : Int64).toInt = 2 := rfl
  have hp := p_pow hI
  rw [pl_div (by rw [c2]; omega), c2, Int.tdiv_eq_ediv_of_nonneg (by omega), hb]
  obtain ⟨J, rfl⟩ : ∃ J, I = J + 1 := ⟨I - 1, by omega⟩
  rw [p_powS, Nat.add_sub_cancel]
  omega
