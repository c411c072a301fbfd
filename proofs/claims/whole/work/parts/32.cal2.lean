theorem p_rem0 (x d : Int64) (hd : 0 < d.toInt) : (x - x / d * d = 0) ↔ x.toInt % d.toInt = 0 := by
  have hm := p_dm (x := x) hd
  have ht := pl_tm x.toInt hd
  have hr := pl_rng x
  have c0 : (0 : Int64).toInt = 0 := rfl
  have hs : (x - x / d * d).toInt = x.toInt - x.toInt.tdiv d.toInt * d.toInt := by
    rw [pl_sub, hm]
    · rw [hm]; rcases Int.le_total 0 x.toInt with q | q; have := ht.1 q; omega; have := ht.2 q; omega
    · rw [hm]; rcases Int.le_total 0 x.toInt with q | q; have := ht.1 q; omega; have := ht.2 q; omega
  rw [pl_eq, c0, hs]
  constructor
  · intro h
    have e : x.toInt = d.toInt * x.toInt.tdiv d.toInt := by rw [Int.mul_comm]; omega
    exact Int.emod_eq_zero_of_dvd ⟨_, e⟩
  · intro h
    have hdv := Int.dvd_of_emod_eq_zero h
    have := Int.tdiv_mul_cancel hdv
    omega
theorem p_isLeap (x : Int64) : f_MO_isLeap x = if x.toInt % 4 = 0 ∧ (x.toInt % 100 ≠ 0 ∨ x.toInt % 400 = 0) then 1 else 0 := by
  have h4 := p_rem0 x 4 (by decide)
  have h100 := p_rem0 x 100 (by decide)
  have h400 := p_rem0 x 400 (by decide)
  have c2 : (4 : Int64).toInt = 4 := rfl
  have c3 : (100 : Int64).toInt = 100 := rfl
  have c4 : (400 : Int64).toInt = 400 := rfl
  rw [c2] at h4
  rw [c3] at h100
  rw [c4] at h400
  unfold f_MO_isLeap
  by_cases a : x.toInt % 4 = 0
  · rw [if_pos (h4.mpr a)]
    by_cases b : x.toInt % 100 = 0
    · rw [if_pos (h100.mpr b)]
      by_cases c : x.toInt % 400 = 0
      · rw [if_pos (h400.mpr c), if_pos ⟨a, Or.inr c⟩]
      · rw [if_neg (fun z => c (h400.mp z)), if_neg (by rintro ⟨_, z | z⟩; exact z b; exact c z)]
    · rw [if_neg (fun z => b (h100.mp z)), if_pos ⟨a, Or.inl b⟩]
  · rw [if_neg (fun z => a (h4.mp z)), if_neg (fun z => a z.1)]
theorem p_daysIn (y : Int64) (k : Nat) (hk : k < 12) : (f_MO_daysIn y (nI k)).toInt = DI y.toInt k := by
  have hl := p_isLeap y
  unfold f_MO_daysIn DI
  by_cases a : y.toInt % 4 = 0 ∧ (y.toInt % 100 ≠ 0 ∨ y.toInt % 400 = 0)
  · rw [hl, if_pos a, if_pos a]
    rcases (show k = 0 ∨ k = 1 ∨ k = 2 ∨ k = 3 ∨ k = 4 ∨ k = 5 ∨ k = 6 ∨ k = 7 ∨ k = 8 ∨ k = 9 ∨ k = 10 ∨ k = 11 by omega) with rfl | rfl | rfl | rfl | rfl | rfl | rfl | rfl | rfl | rfl | rfl | rfl <;> rfl
  · rw [hl, if_neg a, if_neg a]
    rcases (show k = 0 ∨ k = 1 ∨ k = 2 ∨ k = 3 ∨ k = 4 ∨ k = 5 ∨ k = 6 ∨ k = 7 ∨ k = 8 ∨ k = 9 ∨ k = 10 ∨ k = 11 by omega) with rfl | rfl | rfl | rfl | rfl | rfl | rfl | rfl | rfl | rfl | rfl | rfl <;> rfl
theorem p_yearAt (y : Int64) (h1 : -10000000 ≤ y.toInt) (h2 : y.toInt ≤ 10000000) : ∃ d, f_MO_yearAt (1970 + y) = some d ∧ d.toInt = YA y.toInt := by
  have c0 : (1970 : Int64).toInt = 1970 := rfl
  have c1 : (1 : Int64).toInt = 1 := rfl
  have c2 : (4 : Int64).toInt = 4 := rfl
  have c3 : (100 : Int64).toInt = 100 := rfl
  have c4 : (400 : Int64).toInt = 400 := rfl
  have c5 : (492 : Int64).toInt = 492 := rfl
  have c6 : (19 : Int64).toInt = 19 := rfl
  have c8 : (365 : Int64).toInt = 365 := rfl
  unfold f_MO_yearAt gl_let
  dsimp only
  have e0 : (1970 + y).toInt = 1970 + y.toInt := by rw [pl_add, c0] <;> rw [c0] <;> omega
  have e1 : (1970 + y - 1).toInt = 1969 + y.toInt := by rw [pl_sub, e0, c1] <;> (try rw [e0, c1]) <;> omega
  obtain ⟨r1, hr1, er1⟩ := p_MOby (1970 + y - 1) 4 (by rw [c2]; omega)
  rw [c2, e1] at er1
  obtain ⟨r2, hr2, er2⟩ := p_MOby (1970 + y - 1) 100 (by rw [c3]; omega)
  rw [c3, e1] at er2
  obtain ⟨r3, hr3, er3⟩ := p_MOby (1970 + y - 1) 400 (by rw [c4]; omega)
  rw [c4, e1] at er3
  rw [hr1]
  dsimp only [Option.bind]
  rw [hr2]
  dsimp only [Option.bind]
  rw [hr3]
  dsimp only [Option.bind]
  refine ⟨_, rfl, ?_⟩
  have e2 : (1970 + y - 1970).toInt = y.toInt := by rw [pl_sub, e0, c0] <;> (try rw [e0, c0]) <;> omega
  have e3 : (365 * (1970 + y - 1970)).toInt = 365 * y.toInt := by rw [pl_mul, e2, c8] <;> rw [e2, c8] <;> omega
  have e4 : (r1 - 492).toInt = r1.toInt - 492 := by rw [pl_sub, c5] <;> rw [c5] <;> omega
  have e5 : (r2 - 19).toInt = r2.toInt - 19 := by rw [pl_sub, c6] <;> rw [c6] <;> omega
  have e6 : (r3 - 4).toInt = r3.toInt - 4 := by rw [pl_sub, c2] <;> rw [c2] <;> omega
  have e7 : (365 * (1970 + y - 1970) + (r1 - 492)).toInt = 365 * y.toInt + (r1.toInt - 492) := by rw [pl_add, e3, e4] <;> rw [e3, e4] <;> omega
  have e8 : (365 * (1970 + y - 1970) + (r1 - 492) - (r2 - 19)).toInt = 365 * y.toInt + (r1.toInt - 492) - (r2.toInt - 19) := by rw [pl_sub, e7, e5] <;> rw [e7, e5] <;> omega
  rw [pl_add, e8, e6]
  · unfold YA
    rw [er1, er2, er3]
  · rw [e8, e6]; omega
  · rw [e8, e6]; omega
theorem p_DI (Y : Int) (k : Nat) : 28 ≤ DI Y k ∧ DI Y k ≤ 31 := by
  unfold DI
  split
  · split <;> omega
  · split <;> omega
theorem p_DS (Y : Int) : ∀ k : Nat, 0 ≤ DS Y k ∧ DS Y k ≤ 31 * k
  | 0 => by simp [DS]
  | k + 1 => by
    have := p_DS Y k
    have := p_DI Y k
    simp only [DS]
    omega
theorem p_monthLoop (y : Int64) (hy1 : -10000000 ≤ y.toInt) (hy2 : y.toInt ≤ 10000000) (r : Nat) (hr : r < 12) : ∀ (j : Nat) (n : Nat) (v : Int64), j ≤ r → r - j < n → -10000000000 ≤ v.toInt → v.toInt ≤ 10000000000 + 31 * (j : Int) →
    ∃ d, f_MO_monthAt_L31 y (nI r) n v (nI j) = some d ∧ d.toInt = v.toInt + DS (1970 + y.toInt) r - DS (1970 + y.toInt) j := by
  have c0 : (1970 : Int64).toInt = 1970 := rfl
  have e0 : (1970 + y).toInt = 1970 + y.toInt := by rw [pl_add, c0] <;> rw [c0] <;> omega
  intro j n
  induction n generalizing j with
  | zero => intro v _ h; omega
  | succ n ih =>
    intro v hj hn h1 h2
    rw [f_MO_monthAt_L31]
    by_cases hjr : j = r
    · subst hjr
      rw [if_pos (nI_le (Nat.le_refl _) (by omega))]
      exact ⟨v, rfl, by omega⟩
    · rw [if_neg (nI_ge (by omega) (by omega))]
      unfold gl_let
      dsimp only
      rw [nI_1]
      have hd := p_daysIn (1970 + y) j (by omega)
      rw [e0] at hd
      have hb := p_DI (1970 + y.toInt) j
      have ev : (v + (f_MO_daysIn (1970 + y) (nI j)).toInt64).toInt = v.toInt + DI (1970 + y.toInt) j := by
        rw [pl_add, pi_l, hd] <;> rw [pi_l, hd] <;> omega
      obtain ⟨d, hd1, hd2⟩ := ih (j + 1) (v + (f_MO_daysIn (1970 + y) (nI j)).toInt64) (by omega) (by omega) (by rw [ev]; omega) (by rw [ev]; omega)
      refine ⟨d, hd1, ?_⟩
      rw [hd2, ev]
      simp only [DS]
      omega
theorem p_l2i {x : Int64} {n : Nat} (h : x.toInt = n) (hn : n < 2147483648) : x.toInt32 = nI n := by
  rw [pi_eq, nI_toInt (by omega), Int64.toInt_toInt32, h]
  exact pi_bm (by omega) (by omega)
/-- the reference's first day of a month is the class's -/
theorem p_monthAt (k : Nat) (hk : 12 ≤ k) (m : Int64) (h1 : -9000000 ≤ m.toInt) (h2 : m.toInt ≤ 9000000) : ∃ d, f_MO_monthAt k m = some d ∧ d.toInt = FD m.toInt := by
  have c1 : (12 : Int64).toInt = 12 := rfl
  obtain ⟨y, hy, ey⟩ := p_MOby m 12 (by rw [c1]; omega)
  rw [c1] at ey
  obtain ⟨d0, hd0, ed0⟩ := p_yearAt y (by omega) (by omega)
  unfold f_MO_monthAt gl_let
  dsimp only
  rw [hy]
  dsimp only [Option.bind]
  rw [hd0]
  dsimp only [Option.bind]
  have e2 : (12 * y).toInt = 12 * y.toInt := by rw [pl_mul, c1] <;> rw [c1] <;> omega
  have e3 : (m - 12 * y).toInt = m.toInt - 12 * y.toInt := by rw [pl_sub, e2] <;> rw [e2] <;> omega
  obtain ⟨r, hr⟩ : ∃ r : Nat, (r : Int) = m.toInt - 12 * y.toInt := ⟨(m.toInt - 12 * y.toInt).toNat, by omega⟩
  have hr12 : r < 12 := by omega
  rw [p_l2i (n := r) (by rw [e3, hr]) (by omega)]
  have hya : -5000000000 ≤ YA y.toInt ∧ YA y.toInt ≤ 5000000000 := by unfold YA; omega
  obtain ⟨d, hd, ed⟩ := p_monthLoop y (by omega) (by omega) r hr12 0 k d0 (by omega) (by omega) (by omega) (by omega)
  rw [nI_0] at hd
  rw [hd]
  refine ⟨d, rfl, ?_⟩
  have hc := p_cal y.toInt r hr12
  rw [show 12 * y.toInt + (r : Int) = m.toInt by omega] at hc
  rw [ed, ed0, ← hc]
  simp only [DS]
  omega
