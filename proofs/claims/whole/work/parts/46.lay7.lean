theorem p_slide (k : Nat) (hk : 100 ≤ k) {la : LAt} {mo : MOt} (hS : ST la mo) (h1k : MO_kind mo = 1) (t : Int64) (ht1 : -1000000000000 ≤ t.toInt) (ht2 : t.toInt ≤ 1000000000000) (hW : LW la mo 0) :
    ∃ r f, f_MO_by (t - MO_offset mo) (MO_step mo).toInt64 = some r ∧ f_MO_wantFor_L53 t mo k r = some f ∧ ∃ la' mo' n, f_LA_slide k t la = some la' ∧ f_MO_wantFor_L92 t r k f mo = some mo' ∧ LW la' mo' n ∧ LAx la la' ∧ MOx mo mo' := by
  have hS' := hS
  obtain ⟨⟨a1, a2, a3, a4, a5⟩, -, ⟨s1, s2⟩, ⟨p1, p2⟩, h16, -, ⟨o1, o2⟩, -⟩ := hS
  have h16 := h16 h1k
  have c1 : (1 : Int64).toInt = 1 := rfl
  have es := p_toL (x := MO_size mo)
  have ep := p_toL (x := MO_step mo)
  obtain ⟨r, r1, r2, r3, r4, r5, r6⟩ := p_grid t (MO_offset mo) (MO_step mo).toInt64 (by omega) (by omega) o1 o2 (by omega) (by omega)
  rw [ep] at r3 r4 r6
  have e1 : (t - MO_offset mo).toInt = t.toInt - (MO_offset mo).toInt := pl_sub (by omega) (by omega)
  have e2 : (t - MO_offset mo - (MO_size mo).toInt64).toInt = t.toInt - (MO_offset mo).toInt - (MO_size mo).toInt := by rw [pl_sub, e1, es] <;> rw [e1, es] <;> omega
  obtain ⟨q, q1, q2⟩ := p_by (t - MO_offset mo - (MO_size mo).toInt64) (MO_step mo).toInt64 (by omega)
  rw [e2, ep] at q2
  have hi : ∀ i : Int, (MO_offset mo).toInt + (MO_step mo).toInt * i + (MO_size mo).toInt ≤ t.toInt ↔ i ≤ q.toInt := by
    intro i
    rw [q2, Int.le_ediv_iff_mul_le (by omega), Int.mul_comm i]
    omega
  have hlt := Int.lt_ediv_add_one_mul_self (t.toInt - (MO_offset mo).toInt - (MO_size mo).toInt) (b := (MO_step mo).toInt) (by omega)
  rw [← q2, Int.add_mul, Int.one_mul, Int.mul_comm] at hlt
  have hle := Int.ediv_mul_le (t.toInt - (MO_offset mo).toInt - (MO_size mo).toInt) (b := (MO_step mo).toInt) (by omega)
  rw [← q2, Int.mul_comm] at hle
  have hqr : q.toInt ≤ r.toInt := by
    rw [q2, r3]
    exact Int.ediv_le_ediv (by omega) (by omega)
  have hrq : r.toInt - q.toInt ≤ 16 := by
    rcases Int.lt_or_le (r.toInt - q.toInt) 17 with z | z
    · omega
    · have := Int.mul_le_mul_of_nonneg_left (a := q.toInt + 17) (b := r.toInt) (c := (MO_step mo).toInt) (by omega) (by omega)
      rw [Int.mul_add] at this
      omega
  have hrb : -2000000000000 ≤ r.toInt ∧ r.toInt ≤ 2000000000000 := by
    have b1 := pl_tdiv_bound (t.toInt - (MO_offset mo).toInt) (d := (MO_step mo).toInt) (by omega)
    have b2 := Int.ediv_le_ediv (a := t.toInt - (MO_offset mo).toInt) (b := 1100000000000) (c := (MO_step mo).toInt) (by omega) (by omega)
    have b3 := Int.ediv_le_self (a := 1100000000000) (MO_step mo).toInt (by omega)
    have b4 : -1100000000000 ≤ (t.toInt - (MO_offset mo).toInt) / (MO_step mo).toInt := by
      rw [Int.le_ediv_iff_mul_le (by omega)]
      omega
    omega
  obtain ⟨f, f1, f2, f3⟩ := p_first t q.toInt (mo := mo) s1 s2 p1 p2 o1 o2 ht1 ht2 hi k r (by omega) (by omega) (by omega) (by omega) (by omega) (by omega) hqr
  have ev : (q + 1).toInt = q.toInt + 1 := by rw [pl_add, c1] <;> rw [c1] <;> omega
  refine ⟨r, f, r2, f1, ?_⟩
  have hLA : f_LA_slide k t la = f_LA_slide_L36 r k (q + 1) la := by
    unfold f_LA_slide gl_let
    dsimp only
    rw [a2, a3, a4, r1]
    dsimp only [Option.bind]
    rw [q1]
    dsimp only [Option.bind]
    cases f_LA_slide_L36 r k (q + 1) la <;> rfl
  rw [hLA]
  rcases Int.lt_or_eq_of_le hqr with z | z
  · have hf : f = q + 1 := by rw [pl_eq, f2 z, ev]
    subst hf
    obtain ⟨d, hd⟩ : ∃ d : Nat, (d : Int) = r.toInt - q.toInt := ⟨(r.toInt - q.toInt).toNat, by omega⟩
    obtain ⟨la', mo', k1, k2, k3, k4, k5⟩ := p_slideLoop t r q.toInt ht1 ht2 (by omega) d k k 0 (q + 1) la mo hS' hW (by omega) (by omega) (by omega) (by omega) (by omega) hi (by omega) (by omega)
    exact ⟨la', mo', 0 + d, k1, k2, k3, k4, k5⟩
  · have hf : f = r := f3 z.symm
    subst hf
    obtain ⟨k, rfl⟩ : ∃ j, k = j + 2 := ⟨k - 2, by omega⟩
    have e3 : ((MO_step mo).toInt64 * f).toInt = (MO_step mo).toInt * f.toInt := by rw [pl_mul, ep] <;> rw [ep] <;> omega
    have e4 : (MO_offset mo + (MO_step mo).toInt64 * f).toInt = (MO_offset mo).toInt + (MO_step mo).toInt * f.toInt := r4
    have e5 : (MO_offset mo + (MO_step mo).toInt64 * f + (MO_size mo).toInt64).toInt = (MO_offset mo).toInt + (MO_step mo).toInt * f.toInt + (MO_size mo).toInt := by rw [pl_add, e4, es] <;> rw [e4, es] <;> omega
    have e6 : (f + 1).toInt = f.toInt + 1 := by rw [pl_add, c1] <;> rw [c1] <;> omega
    refine ⟨la, mo, 0, ?_, ?_, hW, LAx.rf la, MOx.rf mo⟩
    · rw [f_LA_slide_L36, if_pos (by rw [pl_lt]; omega)]
    · rw [f_MO_wantFor_L92, if_neg (by rw [pl_lt]; omega)]
      dsimp only [gl_let]
      unfold f_MO_wantFor_B124
      rw [if_pos (by rw [pl_le, e5]; exact (hi f.toInt).mpr (by omega))]
      dsimp only [Option.bind]
      rw [f_MO_wantFor_L92, if_pos (by rw [pl_lt]; omega)]
