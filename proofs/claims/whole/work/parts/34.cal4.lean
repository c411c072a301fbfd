theorem p_monthEx (x : Int) : ∃ M : Int, FD M ≤ x ∧ x < FD (M + 1) ∧ 4800 * x / 146097 - 1 ≤ M ∧ M ≤ 4800 * x / 146097 + 1 := by
  generalize he : 4800 * x / 146097 = e
  have h1 := (p_FDnear (e - 1)).2
  have h2 := (p_FDnear (e + 2)).1
  by_cases a : x < FD e
  · exact ⟨e - 1, by omega, by rw [show e - 1 + 1 = e by omega]; exact a, by omega, by omega⟩
  · by_cases b : x < FD (e + 1)
    · exact ⟨e, by omega, b, by omega, by omega⟩
    · exact ⟨e + 1, by omega, by rw [show e + 1 + 1 = e + 2 by omega]; omega, by omega, by omega⟩
theorem p_CAloop (x : Int64) (M : Int) (h1 : FD M ≤ x.toInt) (h2 : x.toInt < FD (M + 1)) (hM1 : -9000000 ≤ M) (hM2 : M ≤ 9000000) : ∀ (n j : Nat) (v : Int64), j ≤ 5 → v.toInt ≤ M → M - v.toInt ≤ 5 - (j : Int) → 5 - j < n →
    ∃ r, f_CA_monthOf_L19 x n v (nI j) = some r ∧ r.toInt = M := by
  intro n
  induction n with
  | zero => intro j v _ _ _ h; omega
  | succ n ih =>
    intro j v hj hv hd hn
    have c1 : (1 : Int64).toInt = 1 := rfl
    rw [f_CA_monthOf_L19]
    by_cases h5 : j = 5
    · subst h5
      rw [if_pos (show (5 : Int32) ≤ nI 5 from by decide)]
      exact ⟨v, rfl, by omega⟩
    · rw [if_neg (show ¬ (5 : Int32) ≤ nI j from nI_ge (a := j) (b := 5) (by omega) (by omega))]
      have ev : (v + 1).toInt = v.toInt + 1 := by rw [pl_add, c1] <;> rw [c1] <;> omega
      obtain ⟨d, hd1, hd2⟩ := p_firstDay (v + 1) (by rw [ev]; omega) (by rw [ev]; omega)
      rw [ev] at hd2
      rw [hd1]
      dsimp only [Option.bind]
      by_cases hx : x < d
      · rw [if_pos hx]
        refine ⟨v, rfl, ?_⟩
        rw [pl_lt, hd2] at hx
        rcases Int.lt_or_eq_of_le hv with q | q
        · have := p_FDmono (a := v.toInt + 1) (b := M) (by omega)
          omega
        · exact q
      · rw [if_neg hx]
        unfold gl_let
        dsimp only
        rw [nI_1]
        rw [pl_lt, hd2] at hx
        have hlt : v.toInt < M := by
          rcases Int.lt_or_eq_of_le hv with q | q
          · exact q
          · rw [q] at hx; omega
        exact ih (j + 1) (v + 1) (by omega) (by rw [ev]; omega) (by rw [ev]; omega) (by omega)
theorem p_CAmonthOf (k : Nat) (hk : 7 ≤ k) (x : Int64) (hx1 : -100000000 ≤ x.toInt) (hx2 : x.toInt ≤ 100000000) : ∃ r, f_CA_monthOf k x = some r ∧ FD r.toInt ≤ x.toInt ∧ x.toInt < FD (r.toInt + 1) ∧ -4000000 ≤ r.toInt ∧ r.toInt ≤ 4000000 := by
  obtain ⟨M, h1, h2, h3, h4⟩ := p_monthEx x.toInt
  have c1 : (4800 : Int64).toInt = 4800 := rfl
  have c2 : (146097 : Int64).toInt = 146097 := rfl
  have c3 : (2 : Int64).toInt = 2 := rfl
  have e1 : (x * 4800).toInt = 4800 * x.toInt := by rw [pl_mul, c1, Int.mul_comm] <;> rw [c1] <;> omega
  obtain ⟨q, hq, eq⟩ := p_floorDiv (x * 4800) 146097 (by rw [c2]; omega)
  rw [e1, c2] at eq
  unfold f_CA_monthOf gl_let
  dsimp only
  rw [hq]
  dsimp only [Option.bind]
  have e2 : (q - 2).toInt = q.toInt - 2 := by rw [pl_sub, c3] <;> rw [c3] <;> omega
  obtain ⟨r, hr, er⟩ := p_CAloop x M h1 h2 (by omega) (by omega) k 0 (q - 2) (by omega) (by rw [e2]; omega) (by rw [e2]; omega) (by omega)
  rw [nI_0] at hr
  rw [hr]
  exact ⟨r, rfl, by rw [er]; exact h1, by rw [er]; exact h2, by omega, by omega⟩
theorem p_MOdown (k : Nat) (hk : 12 ≤ k) (x : Int64) (M : Int) (h1 : FD M ≤ x.toInt) (h2 : x.toInt < FD (M + 1)) (hM1 : -4000000 ≤ M) : ∀ (n : Nat) (v : Int64), -5000000 ≤ v.toInt → v.toInt ≤ 5000000 → v.toInt - M < n →
    0 < n → ∃ r, f_MO_monthOf_L12 k x n v = some r ∧ r.toInt ≤ M ∧ (v.toInt ≤ M → r = v) ∧ (M < v.toInt → r.toInt = M) := by
  intro n
  induction n with
  | zero => intro v _ _ _ h; omega
  | succ n ih =>
    intro v hv1 hv2 hn _
    have c1 : (1 : Int64).toInt = 1 := rfl
    rw [f_MO_monthOf_L12]
    obtain ⟨d, hd1, hd2⟩ := p_monthAt k hk v (by omega) (by omega)
    rw [hd1]
    dsimp only [Option.bind]
    by_cases hvM : v.toInt ≤ M
    · rw [if_pos (by rw [pl_le, hd2]; have := p_FDmono hvM; omega)]
      exact ⟨v, rfl, hvM, fun _ => rfl, fun h => by omega⟩
    · rw [if_neg (by rw [pl_le, hd2]; have := p_FDmono (a := M + 1) (b := v.toInt) (by omega); omega)]
      unfold gl_let
      dsimp only
      have ev : (v - 1).toInt = v.toInt - 1 := by rw [pl_sub, c1] <;> rw [c1] <;> omega
      obtain ⟨r, hr1, hr2, hr3, hr4⟩ := ih (v - 1) (by rw [ev]; omega) (by rw [ev]; omega) (by rw [ev]; omega) (by omega)
      refine ⟨r, hr1, hr2, fun h => absurd h hvM, fun _ => ?_⟩
      by_cases hz : (v - 1).toInt ≤ M
      · rw [hr3 hz, ev]
        rw [ev] at hz
        omega
      · exact hr4 (by omega)
theorem p_MOup (k : Nat) (hk : 12 ≤ k) (x : Int64) (M : Int) (h1 : FD M ≤ x.toInt) (h2 : x.toInt < FD (M + 1)) (hM2 : M ≤ 4000000) : ∀ (n : Nat) (v : Int64), -5000000 ≤ v.toInt → v.toInt ≤ M → M - v.toInt < n →
    ∃ r, f_MO_monthOf_L28 k x n v = some r ∧ r.toInt = M := by
  intro n
  induction n with
  | zero => intro v _ _ h; omega
  | succ n ih =>
    intro v hv1 hv2 hn
    have c1 : (1 : Int64).toInt = 1 := rfl
    have ev : (v + 1).toInt = v.toInt + 1 := by rw [pl_add, c1] <;> rw [c1] <;> omega
    rw [f_MO_monthOf_L28]
    obtain ⟨d, hd1, hd2⟩ := p_monthAt k hk (v + 1) (by rw [ev]; omega) (by rw [ev]; omega)
    rw [ev] at hd2
    rw [hd1]
    dsimp only [Option.bind]
    by_cases hx : x < d
    · rw [if_pos hx]
      refine ⟨v, rfl, ?_⟩
      rw [pl_lt, hd2] at hx
      rcases Int.lt_or_eq_of_le hv2 with q | q
      · have := p_FDmono (a := v.toInt + 1) (b := M) (by omega)
        omega
      · exact q
    · rw [if_neg hx]
      unfold gl_let
      dsimp only
      rw [pl_lt, hd2] at hx
      have hlt : v.toInt < M := by
        rcases Int.lt_or_eq_of_le hv2 with q | q
        · exact q
        · rw [q] at hx; omega
      exact ih (v + 1) (by rw [ev]; omega) (by rw [ev]; omega) (by rw [ev]; omega)
theorem p_MOmonthOf (k : Nat) (hk : 2000 ≤ k) (x : Int64) (hx1 : -100000000 ≤ x.toInt) (hx2 : x.toInt ≤ 100000000) : ∃ r, f_MO_monthOf k x = some r ∧ FD r.toInt ≤ x.toInt ∧ x.toInt < FD (r.toInt + 1) ∧ -4000000 ≤ r.toInt ∧ r.toInt ≤ 4000000 := by
  obtain ⟨M, h1, h2, h3, h4⟩ := p_monthEx x.toInt
  have c1 : (100 : Int64).toInt = 100 := rfl
  have c2 : (3044 : Int64).toInt = 3044 := rfl
  have e1 : (x * 100).toInt = 100 * x.toInt := by rw [pl_mul, c1, Int.mul_comm] <;> rw [c1] <;> omega
  obtain ⟨q, hq, eq⟩ := p_MOby (x * 100) 3044 (by rw [c2]; omega)
  rw [e1, c2] at eq
  unfold f_MO_monthOf
  rw [hq]
  dsimp only [Option.bind]
  obtain ⟨v, hv, hv1, hv2, hv3⟩ := p_MOdown k (by omega) x M h1 h2 (by omega) k q (by omega) (by omega) (by omega) (by omega)
  rw [hv]
  dsimp only [Option.bind]
  have hvb : -5000000 ≤ v.toInt ∧ M - v.toInt < k := by
    by_cases hz : q.toInt ≤ M
    · rw [hv2 hz]; omega
    · have := hv3 (by omega); omega
  obtain ⟨r, hr, er⟩ := p_MOup k (by omega) x M h1 h2 (by omega) k v hvb.1 hv1 hvb.2
  rw [hr]
  exact ⟨r, rfl, by rw [er]; exact h1, by rw [er]; exact h2, by omega, by omega⟩
theorem p_monthOf_eq (k : Nat) (hk : 2000 ≤ k) (x : Int64) (hx1 : -100000000 ≤ x.toInt) (hx2 : x.toInt ≤ 100000000) : ∃ r, f_CA_monthOf k x = some r ∧ f_MO_monthOf k x = some r ∧ -4000000 ≤ r.toInt ∧ r.toInt ≤ 4000000 := by
  obtain ⟨r, h1, h2, h3, h4, h5⟩ := p_CAmonthOf k (by omega) x hx1 hx2
  obtain ⟨q, g1, g2, g3, g4, g5⟩ := p_MOmonthOf k hk x hx1 hx2
  have e := p_FDuniq h2 h3 g2 g3
  rw [← pl_eq] at e
  subst e
  exact ⟨r, h1, g1, h4, h5⟩
theorem p_firstDay_eq (k : Nat) (hk : 12 ≤ k) (m : Int64) (h1 : -9000000 ≤ m.toInt) (h2 : m.toInt ≤ 9000000) : ∃ d, f_CA_firstDay m = some d ∧ f_MO_monthAt k m = some d ∧ d.toInt = FD m.toInt := by
  obtain ⟨d, a1, a2⟩ := p_firstDay m (by omega) (by omega)
  obtain ⟨d', b1, b2⟩ := p_monthAt k hk m h1 h2
  have e : d = d' := pl_eq.mpr (a2.trans b2.symm)
  subst e
  exact ⟨d, a1, b1, a2⟩
