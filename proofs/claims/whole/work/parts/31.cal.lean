/-! PURE PART B: the calendar -/
def FD (m : Int) : Int := 365 * ((m + 23638) / 12) + ((m + 23638) / 12 / 4 - (m + 23638) / 12 / 100 + (m + 23638) / 12 / 400) + (153 * ((m + 23638) - 12 * ((m + 23638) / 12)) + 2) / 5 - 719468
theorem p_firstDay (m : Int64) (h1 : -10000000 ≤ m.toInt) (h2 : m.toInt ≤ 10000000) : ∃ d, f_CA_firstDay m = some d ∧ d.toInt = FD m.toInt := by
  have c0 : (23638 : Int64).toInt = 23638 := rfl
  have c1 : (12 : Int64).toInt = 12 := rfl
  have c2 : (4 : Int64).toInt = 4 := rfl
  have c3 : (100 : Int64).toInt = 100 := rfl
  have c4 : (400 : Int64).toInt = 400 := rfl
  have c5 : (153 : Int64).toInt = 153 := rfl
  have c6 : (2 : Int64).toInt = 2 := rfl
  have c7 : (5 : Int64).toInt = 5 := rfl
  have c8 : (365 : Int64).toInt = 365 := rfl
  have c9 : (719468 : Int64).toInt = 719468 := rfl
  unfold f_CA_firstDay gl_let
  dsimp only
  have e1 : (m + 23638).toInt = m.toInt + 23638 := by rw [pl_add, c0] <;> rw [c0] <;> omega
  obtain ⟨y, hy, ey⟩ := p_floorDiv (m + 23638) 12 (by rw [c1]; omega)
  rw [e1, c1] at ey
  obtain ⟨r1, hr1, er1⟩ := p_floorDiv y 4 (by rw [c2]; omega)
  rw [c2] at er1
  obtain ⟨r2, hr2, er2⟩ := p_floorDiv y 100 (by rw [c3]; omega)
  rw [c3] at er2
  obtain ⟨r3, hr3, er3⟩ := p_floorDiv y 400 (by rw [c4]; omega)
  rw [c4] at er3
  rw [hy]
  dsimp only [Option.bind]
  rw [hr1]
  dsimp only [Option.bind]
  rw [hr2]
  dsimp only [Option.bind]
  rw [hr3]
  dsimp only [Option.bind]
  refine ⟨_, rfl, ?_⟩
  have e2 : (12 * y).toInt = 12 * y.toInt := by rw [pl_mul, c1] <;> rw [c1] <;> omega
  have e3 : (m + 23638 - 12 * y).toInt = m.toInt + 23638 - 12 * y.toInt := by rw [pl_sub, e1, e2] <;> rw [e1, e2] <;> omega
  have e4 : (153 * (m + 23638 - 12 * y)).toInt = 153 * (m.toInt + 23638 - 12 * y.toInt) := by rw [pl_mul, e3, c5] <;> rw [e3, c5] <;> omega
  have e5 : (153 * (m + 23638 - 12 * y) + 2).toInt = 153 * (m.toInt + 23638 - 12 * y.toInt) + 2 := by rw [pl_add, e4, c6] <;> rw [e4, c6] <;> omega
  have e6 : ((153 * (m + 23638 - 12 * y) + 2) / 5).toInt = (153 * (m.toInt + 23638 - 12 * y.toInt) + 2) / 5 := by
    rw [pl_div (by rw [c7]; omega), e5, c7, Int.tdiv_eq_ediv_of_nonneg (by omega)]
  have e7 : (r1 - r2).toInt = r1.toInt - r2.toInt := pl_sub (by omega) (by omega)
  have e8 : (r1 - r2 + r3).toInt = r1.toInt - r2.toInt + r3.toInt := by rw [pl_add, e7] <;> rw [e7] <;> omega
  have e9 : (365 * y).toInt = 365 * y.toInt := by rw [pl_mul, c8] <;> rw [c8] <;> omega
  have e10 : (365 * y + (r1 - r2 + r3)).toInt = 365 * y.toInt + (r1.toInt - r2.toInt + r3.toInt) := by rw [pl_add, e9, e8] <;> rw [e9, e8] <;> omega
  have e11 : (365 * y + (r1 - r2 + r3) + (153 * (m + 23638 - 12 * y) + 2) / 5).toInt = 365 * y.toInt + (r1.toInt - r2.toInt + r3.toInt) + (153 * (m.toInt + 23638 - 12 * y.toInt) + 2) / 5 := by rw [pl_add, e10, e6] <;> rw [e10, e6] <;> omega
  rw [pl_sub, e11, c9]
  · unfold FD
    rw [er1, er2, er3, ey]
  · rw [e11, c9]; omega
  · rw [e11, c9]; omega
/-- days of month k (0: January) of the year Y -/
def DI (Y : Int) (k : Nat) : Int := if k = 1 then (if Y % 4 = 0 ∧ (Y % 100 ≠ 0 ∨ Y % 400 = 0) then 29 else 28) else if k = 3 ∨ k = 5 ∨ k = 8 ∨ k = 10 then 30 else 31
def DS (Y : Int) : Nat → Int
  | 0 => 0
  | k + 1 => DS Y k + DI Y k
def YA (y : Int) : Int := 365 * y + ((1969 + y) / 4 - 492) - ((1969 + y) / 100 - 19) + ((1969 + y) / 400 - 4)
theorem p_cal (y : Int) (r : Nat) (hr : r < 12) : YA y + DS (1970 + y) r = FD (12 * y + r) := by
  have hq : (12 * y + (r : Int) + 23638) / 12 = y + 1969 + (if r < 2 then 0 else 1) := by split <;> omega
  unfold FD YA
  rw [hq]
  by_cases hl : (1970 + y) % 4 = 0 ∧ ((1970 + y) % 100 ≠ 0 ∨ (1970 + y) % 400 = 0)
  · rcases (show r = 0 ∨ r = 1 ∨ r = 2 ∨ r = 3 ∨ r = 4 ∨ r = 5 ∨ r = 6 ∨ r = 7 ∨ r = 8 ∨ r = 9 ∨ r = 10 ∨ r = 11 by omega) with rfl | rfl | rfl | rfl | rfl | rfl | rfl | rfl | rfl | rfl | rfl | rfl <;> simp [DS, DI, hl] <;> omega
  · rcases (show r = 0 ∨ r = 1 ∨ r = 2 ∨ r = 3 ∨ r = 4 ∨ r = 5 ∨ r = 6 ∨ r = 7 ∨ r = 8 ∨ r = 9 ∨ r = 10 ∨ r = 11 by omega) with rfl | rfl | rfl | rfl | rfl | rfl | rfl | rfl | rfl | rfl | rfl | rfl <;> simp [DS, DI, hl] <;> omega
