theorem p_FDstep (m : Int) : FD m + 28 ≤ FD (m + 1) ∧ FD (m + 1) ≤ FD m + 31 := by
  obtain ⟨r, hr⟩ : ∃ r : Nat, (r : Int) = m % 12 := ⟨(m % 12).toNat, by omega⟩
  have hr12 : r < 12 := by omega
  have hm : m = 12 * (m / 12) + r := by omega
  have h1 := p_cal (m / 12) r hr12
  rw [← hm] at h1
  have hb := p_DI (1970 + m / 12) r
  by_cases h : r + 1 < 12
  · have h2 := p_cal (m / 12) (r + 1) h
    rw [show 12 * (m / 12) + ((r + 1 : Nat) : Int) = m + 1 by omega] at h2
    simp only [DS] at h2
    omega
  · have e11 : r = 11 := by omega
    subst e11
    have h2 := p_cal (m / 12 + 1) 0 (by omega)
    rw [show 12 * (m / 12 + 1) + ((0 : Nat) : Int) = m + 1 by omega] at h2
    have h3 : YA (m / 12 + 1) = YA (m / 12) + DS (1970 + m / 12) 11 + 31 := by
      unfold YA
      generalize m / 12 = y
      by_cases hl : (1970 + y) % 4 = 0 ∧ ((1970 + y) % 100 ≠ 0 ∨ (1970 + y) % 400 = 0)
      · simp [DS, DI, hl]
        omega
      · simp [DS, DI, hl]
        omega
    simp only [DS] at h2
    omega
theorem p_FDmono {a b : Int} (h : a ≤ b) : FD a ≤ FD b := by
  obtain ⟨n, hn⟩ : ∃ n : Nat, (n : Int) = b - a := ⟨(b - a).toNat, by omega⟩
  have : ∀ n : Nat, FD a ≤ FD (a + n) := by
    intro n
    induction n with
    | zero => simp
    | succ n ih =>
      have := p_FDstep (a + n)
      rw [show a + ((n + 1 : Nat) : Int) = a + n + 1 by omega]
      omega
  have h2 := this n
  rw [show a + (n : Int) = b by omega] at h2
  exact h2
theorem p_FDuniq {a b x : Int} (h1 : FD a ≤ x) (h2 : x < FD (a + 1)) (h3 : FD b ≤ x) (h4 : x < FD (b + 1)) : a = b := by
  rcases Int.lt_trichotomy a b with h | h | h
  · have := p_FDmono (a := a + 1) (b := b) (by omega)
    omega
  · exact h
  · have := p_FDmono (a := b + 1) (b := a) (by omega)
    omega
theorem p_FDnear (m : Int) : 146097 * m - 20000 ≤ 4800 * FD m ∧ 4800 * FD m ≤ 146097 * m + 20000 := by
  unfold FD
  generalize hy : (m + 23638) / 12 = y
  have h1 : 12 * y ≤ m + 23638 := by omega
  have h2 : m + 23638 < 12 * y + 12 := by omega
  constructor <;> omega
