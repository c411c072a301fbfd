/-! PURE PART A: longs and ints as whole numbers -/
theorem pl_bm {x : Int} (h1 : -9223372036854775808 ≤ x) (h2 : x < 9223372036854775808) : x.bmod 18446744073709551616 = x := by
  rw [Int.bmod_def]
  split <;> omega
theorem pi_bm {x : Int} (h1 : -2147483648 ≤ x) (h2 : x < 2147483648) : x.bmod 4294967296 = x := by
  rw [Int.bmod_def]
  split <;> omega
theorem pl_rng (a : Int64) : -9223372036854775808 ≤ a.toInt ∧ a.toInt < 9223372036854775808 := ⟨Int64.le_toInt a, Int64.toInt_lt a⟩
theorem pi_rng (a : Int32) : -2147483648 ≤ a.toInt ∧ a.toInt < 2147483648 := ⟨Int32.le_toInt a, Int32.toInt_lt a⟩
theorem pl_add {a b : Int64} (h1 : -9223372036854775808 ≤ a.toInt + b.toInt) (h2 : a.toInt + b.toInt < 9223372036854775808) : (a + b).toInt = a.toInt + b.toInt := by
  rw [Int64.toInt_add]; exact pl_bm h1 h2
theorem pl_sub {a b : Int64} (h1 : -9223372036854775808 ≤ a.toInt - b.toInt) (h2 : a.toInt - b.toInt < 9223372036854775808) : (a - b).toInt = a.toInt - b.toInt := by
  rw [Int64.toInt_sub]; exact pl_bm h1 h2
theorem pl_mul {a b : Int64} (h1 : -9223372036854775808 ≤ a.toInt * b.toInt) (h2 : a.toInt * b.toInt < 9223372036854775808) : (a * b).toInt = a.toInt * b.toInt := by
  rw [Int64.toInt_mul]; exact pl_bm h1 h2
theorem pl_neg {a : Int64} (h1 : -9223372036854775808 < a.toInt) : (-a).toInt = -a.toInt := by
  rw [Int64.toInt_neg]; exact pl_bm (by have := pl_rng a; omega) (by omega)
theorem pi_add {a b : Int32} (h1 : -2147483648 ≤ a.toInt + b.toInt) (h2 : a.toInt + b.toInt < 2147483648) : (a + b).toInt = a.toInt + b.toInt := by
  rw [Int32.toInt_add]; exact pi_bm h1 h2
theorem pi_sub {a b : Int32} (h1 : -2147483648 ≤ a.toInt - b.toInt) (h2 : a.toInt - b.toInt < 2147483648) : (a - b).toInt = a.toInt - b.toInt := by
  rw [Int32.toInt_sub]; exact pi_bm h1 h2
theorem pi_mul {a b : Int32} (h1 : -2147483648 ≤ a.toInt * b.toInt) (h2 : a.toInt * b.toInt < 2147483648) : (a * b).toInt = a.toInt * b.toInt := by
  rw [Int32.toInt_mul]; exact pi_bm h1 h2
theorem pl_tdiv_bound (x : Int) {d : Int} (hd : 0 < d) : (0 ≤ x → 0 ≤ x.tdiv d ∧ x.tdiv d ≤ x) ∧ (x ≤ 0 → x ≤ x.tdiv d ∧ x.tdiv d ≤ 0) := by
  constructor
  · intro h
    rw [Int.tdiv_eq_ediv_of_nonneg h]
    exact ⟨Int.ediv_nonneg h (by omega), Int.ediv_le_self d h⟩
  · intro h
    have e : x = -(-x) := by omega
    rw [e, Int.neg_tdiv, Int.tdiv_eq_ediv_of_nonneg (by omega : 0 ≤ -x)]
    have h1 := Int.ediv_nonneg (a := -x) (b := d) (by omega) (by omega)
    have h2 := Int.ediv_le_self (a := -x) d (by omega)
    omega
theorem pl_div {a b : Int64} (hb : 0 < b.toInt) : (a / b).toInt = a.toInt.tdiv b.toInt := by
  rw [Int64.toInt_div]
  have h := pl_rng a
  have h2 := pl_tdiv_bound a.toInt hb
  exact pl_bm (by rcases Int.le_total 0 a.toInt with q | q; have := h2.1 q; omega; have := h2.2 q; omega) (by rcases Int.le_total 0 a.toInt with q | q; have := h2.1 q; omega; have := h2.2 q; omega)
theorem pi_l (a : Int32) : a.toInt64.toInt = a.toInt := Int32.toInt_toInt64 a
/-- floor division out of truncated division, for a divisor above 0 -/
theorem pl_floor (x : Int) {d : Int} (hd : 0 < d) : x / d = if 0 ≤ x then x.tdiv d else if x.tdiv d * d = x then x.tdiv d else x.tdiv d - 1 := by
  split
  · rename_i h
    exact (Int.tdiv_eq_ediv_of_nonneg h).symm
  · rename_i h
    have e := Int.tdiv_eq_ediv (a := x) (b := d)
    have hs : d.sign = 1 := Int.sign_eq_one_of_pos hd
    by_cases hdv : d ∣ x
    · have e2 : x.tdiv d = x / d := by rw [e, if_pos (Or.inr hdv)]; omega
      rw [if_pos (by rw [e2]; exact Int.ediv_mul_cancel hdv), e2]
    · have e2 : x.tdiv d = x / d + 1 := by rw [e, if_neg (by intro z; rcases z with z | z; exact h z; exact hdv z), hs]
      rw [if_neg (by intro z; exact hdv ⟨x.tdiv d, by rw [Int.mul_comm]; exact z.symm⟩), e2]
      omega
theorem pl_le {a b : Int64} : a ≤ b ↔ a.toInt ≤ b.toInt := Int64.le_iff_toInt_le
theorem pl_lt {a b : Int64} : a < b ↔ a.toInt < b.toInt := Int64.lt_iff_toInt_lt
theorem pl_eq {a b : Int64} : a = b ↔ a.toInt = b.toInt := Int64.toInt_inj.symm
theorem pi_le {a b : Int32} : a ≤ b ↔ a.toInt ≤ b.toInt := Int32.le_iff_toInt_le
theorem pi_lt {a b : Int32} : a < b ↔ a.toInt < b.toInt := Int32.lt_iff_toInt_lt
theorem pi_eq {a b : Int32} : a = b ↔ a.toInt = b.toInt := Int32.toInt_inj.symm
theorem pl_xor_sign {x y : Int64} (hy : 0 ≤ y.toInt) : (0 ≤ x ^^^ y) ↔ 0 ≤ x := by
  rw [pl_le, pl_le]
  have hy' : y.toBitVec.msb = false := by
    have h : y.toBitVec.toInt = y.toInt := rfl
    rw [BitVec.msb_eq_false_iff_two_mul_lt]
    rw [BitVec.toInt_eq_toNat_cond] at h
    split at h
    · assumption
    · have := y.toBitVec.isLt
      omega
  have hk : ∀ z : Int64, (0 : Int64).toInt ≤ z.toInt ↔ z.toBitVec.msb = false := by
    intro z
    have h0 : (0 : Int64).toInt = 0 := rfl
    rw [h0]
    have h : z.toBitVec.toInt = z.toInt := rfl
    rw [BitVec.msb_eq_false_iff_two_mul_lt, ← h, BitVec.toInt_eq_toNat_cond]
    have := z.toBitVec.isLt
    split <;> omega
  rw [hk, hk]
  have e : (x ^^^ y).toBitVec = x.toBitVec ^^^ y.toBitVec := rfl
  rw [e, BitVec.msb_xor, hy']
  simp
theorem pl_tm (x : Int) {d : Int} (hd : 0 < d) : (0 ≤ x → 0 ≤ x.tdiv d * d ∧ x.tdiv d * d ≤ x) ∧ (x ≤ 0 → x ≤ x.tdiv d * d ∧ x.tdiv d * d ≤ 0) := by
  have e := Int.mul_tdiv_add_tmod x d
  have hz : d * x.tdiv d = x.tdiv d * d := Int.mul_comm _ _
  have hb := pl_tdiv_bound x hd
  constructor
  · intro h
    have h1 := Int.mul_nonneg (hb.1 h).1 (Int.le_of_lt hd)
    have h2 := Int.tmod_nonneg (a := x) d h
    omega
  · intro h
    have h1 := Int.mul_le_mul_of_nonneg_right (hb.2 h).2 (Int.le_of_lt hd)
    have hsg : x.tmod d ≤ 0 := by
      have e2 : x = -(-x) := by omega
      rw [e2, Int.neg_tmod]
      have := Int.tmod_nonneg (a := -x) d (by omega)
      omega
    omega
theorem p_dm {x y : Int64} (hy : 0 < y.toInt) : (x / y * y).toInt = x.toInt.tdiv y.toInt * y.toInt := by
  have hd := pl_div (a := x) hy
  have h := pl_tm x.toInt hy
  have hr := pl_rng x
  rw [← hd] at h ⊢
  rcases Int.le_total 0 x.toInt with q | q
  · have := h.1 q
    exact pl_mul (by omega) (by omega)
  · have := h.2 q
    exact pl_mul (by omega) (by omega)
/-- Math.floorDiv, for a divisor above 0 -/
theorem p_floorDiv (x y : Int64) (hy : 0 < y.toInt) : ∃ q, f_MA_floorDiv x y = some q ∧ q.toInt = x.toInt / y.toInt := by
  have hd := pl_div (a := x) hy
  have hf := pl_floor x.toInt hy
  have hb := pl_tdiv_bound x.toInt hy
  have hr := pl_rng x
  have hne : ¬ y = 0 := by intro z; rw [z] at hy; exact absurd hy (by decide)
  unfold f_MA_floorDiv gl_let
  dsimp only
  rw [if_neg hne]
  by_cases hx : 0 ≤ x
  · rw [if_pos ((pl_xor_sign (y := y) (by omega)).mpr hx)]
    have hx' : 0 ≤ x.toInt := pl_le.mp hx
    exact ⟨_, rfl, by rw [hd, hf, if_pos hx']⟩
  · rw [if_neg (fun z => hx ((pl_xor_sign (y := y) (by omega)).mp z))]
    have hx' : ¬ 0 ≤ x.toInt := fun z => hx (pl_le.mpr z)
    have hb2 := hb.2 (by omega)
    have hm := p_dm (x := x) hy
    by_cases hq : x / y * y = x
    · rw [if_pos hq]
      refine ⟨_, rfl, ?_⟩
      rw [hd, hf, if_neg hx', if_pos (by rw [← hm, hq])]
    · rw [if_neg hq]
      refine ⟨_, rfl, ?_⟩
      have hlo : x.toInt ≤ x.toInt / y.toInt := by
        apply Int.le_ediv_of_mul_le hy
        have := Int.mul_le_mul_of_nonpos_left (a := x.toInt) (b := y.toInt) (c := 1) (by omega) (by omega)
        omega
      have h1 : (1 : Int64).toInt = 1 := rfl
      rw [hf, if_neg hx', if_neg (by rw [← hm]; exact fun z => hq (pl_eq.mpr z))] at hlo
      rw [hf, if_neg hx', if_neg (by rw [← hm]; exact fun z => hq (pl_eq.mpr z)), ← hd]
      exact pl_sub (by rw [hd]; omega) (by rw [hd]; omega)
/-- SpanRules.by and the reference's by -/
theorem p_by (a b : Int64) (hb : 0 < b.toInt) : ∃ q, f_SR_by a b = some q ∧ q.toInt = a.toInt / b.toInt := by
  obtain ⟨q, h1, h2⟩ := p_floorDiv a b hb
  refine ⟨q, ?_, h2⟩
  unfold f_SR_by
  have h0 : (1 : Int64).toInt = 1 := rfl
  rw [if_pos (by rw [pl_le, h0]; omega), h1]
  rfl
theorem p_MOby (x y : Int64) (hy : 0 < y.toInt) : ∃ q, f_MO_by x y = some q ∧ q.toInt = x.toInt / y.toInt := by
  have hd := pl_div (a := x) hy
  have hf := pl_floor x.toInt hy
  have hm := p_dm (x := x) hy
  have hp := pl_tm x.toInt hy
  have hb := pl_tdiv_bound x.toInt hy
  have hr := pl_rng x
  have hne : ¬ y = 0 := by intro z; rw [z] at hy; exact absurd hy (by decide)
  unfold f_MO_by gl_let
  dsimp only
  rw [if_neg hne]
  by_cases hx : 0 ≤ x.toInt
  · rw [if_pos (by rw [pl_le, hm]; exact (hp.1 hx).2)]
    exact ⟨_, rfl, by rw [hd, hf, if_pos hx]⟩
  · have h2 := hp.2 (by omega)
    by_cases hq : x.toInt.tdiv y.toInt * y.toInt = x.toInt
    · rw [if_pos (by rw [pl_le, hm]; omega)]
      exact ⟨_, rfl, by rw [hd, hf, if_neg hx, if_pos hq]⟩
    · rw [if_neg (by rw [pl_le, hm]; omega)]
      refine ⟨_, rfl, ?_⟩
      have hlo : x.toInt ≤ x.toInt / y.toInt := by
        apply Int.le_ediv_of_mul_le hy
        have := Int.mul_le_mul_of_nonpos_left (a := x.toInt) (b := y.toInt) (c := 1) (by omega) (by omega)
        omega
      have h1 : (1 : Int64).toInt = 1 := rfl
      rw [hf, if_neg hx, if_neg hq] at hlo
      rw [hf, if_neg hx, if_neg hq, ← hd]
      have hb2 := hb.2 (by omega)
      exact pl_sub (by rw [hd]; omega) (by rw [hd]; omega)
theorem p_by_eq (x y : Int64) (hy : 0 < y.toInt) : f_SR_by x y = f_MO_by x y := by
  obtain ⟨q, h1, h2⟩ := p_by x y hy
  obtain ⟨r, h3, h4⟩ := p_MOby x y hy
  rw [h1, h3, pl_eq.mpr (h2.trans h4.symm)]
theorem p_within (v a b : Int64) : f_SR_isWithin v a b = if a.toInt ≤ v.toInt ∧ v.toInt ≤ b.toInt then 1 else 0 := by
  unfold f_SR_isWithin
  simp only [pl_lt]
  split
  · rw [if_neg (by omega)]
  · split
    · rw [if_neg (by omega)]
    · rw [if_pos (by omega)]
theorem p_in (v a b : Int64) : f_MO_in v a b = if a.toInt ≤ v.toInt ∧ v.toInt ≤ b.toInt then 1 else 0 := by
  unfold f_MO_in
  simp only [pl_lt]
  split
  · rw [if_neg (by omega)]
  · split
    · rw [if_neg (by omega)]
    · rw [if_pos (by omega)]
