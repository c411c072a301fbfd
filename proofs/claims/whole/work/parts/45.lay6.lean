theorem p_slideLoop (t r : Int64) (lo : Int) (ht1 : -1000000000000 ≤ t.toInt) (ht2 : t.toInt ≤ 1000000000000) (hrb : r.toInt ≤ 100000000000000) : ∀ (d n n' m : Nat) (v : Int64) (la : LAt) (mo : MOt), ST la mo → LW la mo m → m + d ≤ 16 → r.toInt + 1 - v.toInt = d → d < n → d < n' → lo < v.toInt →
    (∀ i : Int, (MO_offset mo).toInt + (MO_step mo).toInt * i + (MO_size mo).toInt ≤ t.toInt ↔ i ≤ lo) → (MO_offset mo).toInt + (MO_step mo).toInt * r.toInt ≤ t.toInt → -1000000000000000 ≤ v.toInt →
    ∃ la' mo', f_LA_slide_L36 r n v la = some la' ∧ f_MO_wantFor_L92 t r n' v mo = some mo' ∧ LW la' mo' (m + d) ∧ LAx la la' ∧ MOx mo mo' := by
  intro d
  induction d with
  | zero =>
    intro n n' m v la mo hS hW hm hd hn hn' hlo hi hr hv1
    obtain ⟨n, rfl⟩ : ∃ q, n = q + 1 := ⟨n - 1, by omega⟩
    obtain ⟨n', rfl⟩ : ∃ q, n' = q + 1 := ⟨n' - 1, by omega⟩
    rw [f_LA_slide_L36, f_MO_wantFor_L92, if_pos (by rw [pl_lt]; omega), if_pos (by rw [pl_lt]; omega)]
    exact ⟨la, mo, rfl, rfl, hW, LAx.rf la, MOx.rf mo⟩
  | succ d ih =>
    intro n n' m v la mo hS hW hm hd hn hn' hlo hi hr hv1
    obtain ⟨n, rfl⟩ : ∃ q, n = q + 1 := ⟨n - 1, by omega⟩
    obtain ⟨n', rfl⟩ : ∃ q, n' = q + 1 := ⟨n' - 1, by omega⟩
    have hS' := hS
    obtain ⟨⟨a1, a2, a3, a4, a5⟩, -, ⟨s1, s2⟩, ⟨p1, p2⟩, -, -, ⟨o1, o2⟩, -⟩ := hS
    have c1 : (1 : Int64).toInt = 1 := rfl
    have es := p_toL (x := MO_size mo)
    have ep := p_toL (x := MO_step mo)
    have hmono : (MO_step mo).toInt * v.toInt ≤ (MO_step mo).toInt * r.toInt := Int.mul_le_mul_of_nonneg_left (by omega) (by omega)
    have hnot : ¬ (MO_offset mo).toInt + (MO_step mo).toInt * v.toInt + (MO_size mo).toInt ≤ t.toInt := fun z => by have := (hi v.toInt).mp z; omega
    have e1 : ((MO_step mo).toInt64 * v).toInt = (MO_step mo).toInt * v.toInt := by rw [pl_mul, ep] <;> rw [ep] <;> omega
    have e2 : (MO_offset mo + (MO_step mo).toInt64 * v).toInt = (MO_offset mo).toInt + (MO_step mo).toInt * v.toInt := by rw [pl_add, e1] <;> rw [e1] <;> omega
    have e3 : (MO_offset mo + (MO_step mo).toInt64 * v + (MO_size mo).toInt64).toInt = (MO_offset mo).toInt + (MO_step mo).toInt * v.toInt + (MO_size mo).toInt := by rw [pl_add, e2, es] <;> rw [e2, es] <;> omega
    have e4 : (v + 1).toInt = v.toInt + 1 := by rw [pl_add, c1] <;> rw [c1] <;> omega
    obtain ⟨la1, mo1, g1, g2, g3, g4, g5⟩ := p_addwant hW (by omega) (MO_offset mo + (MO_step mo).toInt64 * v) (MO_offset mo + (MO_step mo).toInt64 * v + (MO_size mo).toInt64) (by omega) (by omega) (by omega) (by omega)
    have hS1 := hS'.x g4 g5
    obtain ⟨w, b, e, hmo1⟩ := id g5
    have q1 : MO_offset mo1 = MO_offset mo := by rw [hmo1]
    have q2 : MO_step mo1 = MO_step mo := by rw [hmo1]
    have q3 : MO_size mo1 = MO_size mo := by rw [hmo1]
    obtain ⟨la', mo', k1, k2, k3, k4, k5⟩ := ih n n' (m + 1) (v + 1) la1 mo1 hS1 g3 (by omega) (by rw [e4]; omega) (by omega) (by omega) (by rw [e4]; omega) (by rw [q1, q2, q3]; exact hi) (by rw [q1, q2]; exact hr) (by omega)
    refine ⟨la', mo', ?_, ?_, by rw [show m + (d + 1) = m + 1 + d by omega]; exact k3, g4.tr k4, g5.tr k5⟩
    · rw [f_LA_slide_L36, if_neg (by rw [pl_lt]; omega), a2, a3, a4, g1]
      dsimp only [Option.bind, gl_let]
      exact k1
    · rw [f_MO_wantFor_L92, if_neg (by rw [pl_lt]; omega)]
      dsimp only [gl_let]
      unfold f_MO_wantFor_B124
      rw [if_neg (by rw [pl_le, e3]; exact hnot), g2]
      dsimp only [Option.bind]
      exact k2
theorem p_first (t : Int64) (lo : Int) {mo : MOt} (s1 : 1 ≤ (MO_size mo).toInt) (s2 : (MO_size mo).toInt ≤ 65536) (p1 : 1 ≤ (MO_step mo).toInt) (p2 : (MO_step mo).toInt ≤ 65536) (o1 : -1000000000 ≤ (MO_offset mo).toInt) (o2 : (MO_offset mo).toInt ≤ 1000000000) (ht1 : -1000000000000 ≤ t.toInt) (ht2 : t.toInt ≤ 1000000000000)
    (hi : ∀ i : Int, (MO_offset mo).toInt + (MO_step mo).toInt * i + (MO_size mo).toInt ≤ t.toInt ↔ i ≤ lo) : ∀ (n : Nat) (v : Int64), (MO_offset mo).toInt + (MO_step mo).toInt * v.toInt ≤ t.toInt → -100000000000000 ≤ v.toInt → v.toInt ≤ 100000000000000 → -100000000000000 ≤ lo → v.toInt - lo ≤ n → 0 < n → lo ≤ v.toInt →
    ∃ f, f_MO_wantFor_L53 t mo n v = some f ∧ (lo < v.toInt → f.toInt = lo + 1) ∧ (v.toInt = lo → f = v) := by
  intro n
  induction n with
  | zero => intro v _ _ _ _ _ h; omega
  | succ n ih =>
    intro v hv hv1 hv2 hl hn _ hlv
    have c1 : (1 : Int64).toInt = 1 := rfl
    have es := p_toL (x := MO_size mo)
    have ep := p_toL (x := MO_step mo)
    have e0 : (v - 1).toInt = v.toInt - 1 := by rw [pl_sub, c1] <;> rw [c1] <;> omega
    have hx : (MO_step mo).toInt * (v.toInt - 1) = (MO_step mo).toInt * v.toInt - (MO_step mo).toInt := by rw [Int.mul_sub, Int.mul_one]
    have hlow : -7000000000000000000 ≤ (MO_step mo).toInt * v.toInt := by
      have a := Int.mul_le_mul_of_nonneg_left (a := -100000000000000) (b := v.toInt) (c := (MO_step mo).toInt) hv1 (by omega)
      have b : (MO_step mo).toInt * -100000000000000 = -((MO_step mo).toInt * 100000000000000) := by omega
      omega
    have e1 : ((MO_step mo).toInt64 * (v - 1)).toInt = (MO_step mo).toInt * v.toInt - (MO_step mo).toInt := by rw [pl_mul, ep, e0, hx] <;> rw [ep, e0, hx] <;> omega
    have e2 : (MO_offset mo + (MO_step mo).toInt64 * (v - 1)).toInt = (MO_offset mo).toInt + ((MO_step mo).toInt * v.toInt - (MO_step mo).toInt) := by rw [pl_add, e1] <;> rw [e1] <;> omega
    have e3 : (MO_offset mo + (MO_step mo).toInt64 * (v - 1) + (MO_size mo).toInt64).toInt = (MO_offset mo).toInt + ((MO_step mo).toInt * v.toInt - (MO_step mo).toInt) + (MO_size mo).toInt := by rw [pl_add, e2, es] <;> rw [e2, es] <;> omega
    have hI := hi (v.toInt - 1)
    rw [hx] at hI
    rw [f_MO_wantFor_L53]
    by_cases hc : v.toInt - 1 ≤ lo
    · rw [if_pos (by rw [pl_le, e3]; have := hI.mpr hc; omega)]
      exact ⟨v, rfl, fun h => by omega, fun _ => rfl⟩
    · rw [if_neg (by rw [pl_le, e3]; intro z; exact hc (hI.mp (by omega)))]
      dsimp only [gl_let]
      obtain ⟨f, f1, f2, f3⟩ := ih (v - 1) (by rw [e0, hx]; omega) (by omega) (by omega) hl (by omega) (by omega) (by omega)
      exact ⟨f, f1, fun _ => f2 (by omega), fun h => by omega⟩
