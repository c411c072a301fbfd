theorem p_toL {x : Int32} : x.toInt64.toInt = x.toInt := pi_l x
theorem p_turns {la : LAt} {mo : MOt} (hS : ST la mo) (t : Int64) (ht1 : -1000000000000 ≤ t.toInt) (ht2 : t.toInt ≤ 1000000000000) (hW : LW la mo 0) :
    ∃ q, f_MO_by (t - MO_offset mo) ((MO_size mo).toInt64 + (MO_step mo).toInt64) = some q ∧ ∃ la' mo', f_LA_byTurns t la = some la' ∧
      (if (MO_offset mo + ((MO_size mo).toInt64 + (MO_step mo).toInt64) * q) + (MO_size mo).toInt64 ≤ t then f_MO_want ((MO_offset mo + ((MO_size mo).toInt64 + (MO_step mo).toInt64) * q) + (MO_size mo).toInt64) ((MO_offset mo + ((MO_size mo).toInt64 + (MO_step mo).toInt64) * q) + ((MO_size mo).toInt64 + (MO_step mo).toInt64)) mo else f_MO_want (MO_offset mo + ((MO_size mo).toInt64 + (MO_step mo).toInt64) * q) ((MO_offset mo + ((MO_size mo).toInt64 + (MO_step mo).toInt64) * q) + (MO_size mo).toInt64) mo) = some mo' ∧ LW la' mo' 1 ∧ LAx la la' ∧ MOx mo mo' := by
  obtain ⟨⟨a1, a2, a3, a4, a5⟩, -, ⟨s1, s2⟩, ⟨p1, p2⟩, -, -, ⟨o1, o2⟩, -⟩ := hS
  have es := p_toL (x := MO_size mo)
  have ep := p_toL (x := MO_step mo)
  have el : ((MO_size mo).toInt64 + (MO_step mo).toInt64).toInt = (MO_size mo).toInt + (MO_step mo).toInt := by rw [pl_add, es, ep] <;> rw [es, ep] <;> omega
  obtain ⟨q, h1, h2, -, -, h4, h5⟩ := p_grid t (MO_offset mo) ((MO_size mo).toInt64 + (MO_step mo).toInt64) (by omega) (by omega) o1 o2 (by omega) (by omega)
  refine ⟨q, h2, ?_⟩
  generalize hB : MO_offset mo + ((MO_size mo).toInt64 + (MO_step mo).toInt64) * q = B at h4 h5 ⊢
  have e1 : (B + (MO_size mo).toInt64).toInt = B.toInt + (MO_size mo).toInt := by rw [pl_add, es] <;> rw [es] <;> omega
  have e2 : (B + ((MO_size mo).toInt64 + (MO_step mo).toInt64)).toInt = B.toInt + ((MO_size mo).toInt + (MO_step mo).toInt) := by rw [pl_add, el] <;> rw [el] <;> omega
  have eL : f_LA_byTurns t la = if (B + (MO_size mo).toInt64) ≤ t then f_LA_add (B + (MO_size mo).toInt64) (B + ((MO_size mo).toInt64 + (MO_step mo).toInt64)) la else f_LA_add B (B + (MO_size mo).toInt64) la := by
    unfold f_LA_byTurns gl_let
    dsimp only
    rw [a2, a3, a4, h1]
    dsimp only [Option.bind]
    rw [hB, Int64.add_assoc]
    split
    · cases f_LA_add (B + (MO_size mo).toInt64) (B + ((MO_size mo).toInt64 + (MO_step mo).toInt64)) la <;> rfl
    · cases f_LA_add B (B + (MO_size mo).toInt64) la <;> rfl
  rw [eL]
  by_cases hc : B + (MO_size mo).toInt64 ≤ t
  · rw [if_pos hc, if_pos hc]
    obtain ⟨la', mo', g1, g2, g3, g4, g5⟩ := p_addwant hW (by omega) (B + (MO_size mo).toInt64) (B + ((MO_size mo).toInt64 + (MO_step mo).toInt64)) (by omega) (by omega) (by omega) (by omega)
    exact ⟨la', mo', g1, g2, g3, g4, g5⟩
  · rw [if_neg hc, if_neg hc]
    obtain ⟨la', mo', g1, g2, g3, g4, g5⟩ := p_addwant hW (by omega) B (B + (MO_size mo).toInt64) (by omega) (by omega) (by omega) (by omega)
    exact ⟨la', mo', g1, g2, g3, g4, g5⟩
theorem p_FDbound {m : Int} (h1 : -5000000 ≤ m) (h2 : m ≤ 5000000) : -1000000000 ≤ FD m ∧ FD m ≤ 1000000000 := by
  have := p_FDnear m
  omega
theorem p_months (k : Nat) (hk : 2000 ≤ k) {la : LAt} {mo : MOt} (hS : ST la mo) (h4 : MO_kind mo = 4) (t : Int64) (ht1 : -100000000 ≤ t.toInt) (ht2 : t.toInt ≤ 100000000) (hW : LW la mo 0) :
    ∃ r q d1 d2, f_MO_monthOf k t = some r ∧ f_MO_by (r - MO_offset mo) (MO_size mo).toInt64 = some q ∧ f_MO_monthAt k (MO_offset mo + (MO_size mo).toInt64 * q) = some d1 ∧ f_MO_monthAt k (MO_offset mo + (MO_size mo).toInt64 * q + (MO_size mo).toInt64) = some d2 ∧
      ∃ la' mo', f_LA_inMonths k t la = some la' ∧ f_MO_want d1 d2 mo = some mo' ∧ LW la' mo' 1 ∧ LAx la la' ∧ MOx mo mo' := by
  obtain ⟨⟨a1, a2, a3, a4, a5⟩, -, ⟨s1, s2⟩, -, -, hm, ⟨o1, o2⟩, -⟩ := hS
  have es := p_toL (x := MO_size mo)
  have hm := hm h4
  obtain ⟨r, r1, r2, r3, r4⟩ := p_monthOf_eq k hk t ht1 ht2
  obtain ⟨q, h1, h2, -, -, h5, h6⟩ := p_grid r (MO_offset mo) (MO_size mo).toInt64 (by omega) (by omega) o1 o2 (by omega) (by omega)
  generalize hB : MO_offset mo + (MO_size mo).toInt64 * q = B at h5 h6
  have e1 : (B + (MO_size mo).toInt64).toInt = B.toInt + (MO_size mo).toInt := by rw [pl_add, es] <;> rw [es] <;> omega
  obtain ⟨d1, x1, x2, x3⟩ := p_firstDay_eq k (by omega) B (by omega) (by omega)
  obtain ⟨d2, y1, y2, y3⟩ := p_firstDay_eq k (by omega) (B + (MO_size mo).toInt64) (by omega) (by omega)
  have b1 := p_FDbound (m := B.toInt) (by omega) (by omega)
  have b2 := p_FDbound (m := (B + (MO_size mo).toInt64).toInt) (by omega) (by omega)
  obtain ⟨la', mo', g1, g2, g3, g4, g5⟩ := p_addwant hW (by omega) d1 d2 (by omega) (by omega) (by omega) (by omega)
  refine ⟨r, q, d1, d2, r2, h2, by rw [hB]; exact x2, by rw [hB]; exact y2, la', mo', ?_, g2, g3, g4, g5⟩
  unfold f_LA_inMonths gl_let
  dsimp only
  rw [a2, a4, r1]
  dsimp only [Option.bind]
  rw [h1]
  dsimp only [Option.bind]
  rw [hB, x1]
  dsimp only [Option.bind]
  rw [y1]
  dsimp only [Option.bind]
  rw [g1]
