theorem p_bindsome {α : Type} (o : Option α) : (o.bind fun x => some x) = o := by cases o <;> rfl
/-- a row's spans: class and reference find the same -/
theorem p_seek (k : Nat) (hk : 2000 ≤ k) {la : LAt} {mo : MOt} (hS : ST la mo) (t v : Int64) (h2 : MO_kind mo ≠ 2) (h3 : MO_kind mo ≠ 3) (ht1 : -1000000000000 ≤ t.toInt) (ht2 : t.toInt ≤ 1000000000000) (ht4 : MO_kind mo = 4 → -100000000 ≤ t.toInt ∧ t.toInt ≤ 100000000) :
    ∃ la' mo' n, f_LA_seek k t v la = some la' ∧ f_MO_wantFor k t v mo = some mo' ∧ LW la' mo' n ∧ LAx la la' ∧ MOx mo mo' ∧ (n = 1 ∨ f_LA_slide k t (sLA_found la 0) = some la') := by
  have x1 : LAx la (sLA_found la 0) := ⟨rfl, rfl, rfl, rfl, rfl⟩
  have x2 : MOx mo (sMO_wanted mo 0) := ⟨0, MO_wBegin mo, MO_wEnd mo, rfl⟩
  have hS0 := hS.x x1 x2
  have hW0 : LW (sLA_found la 0) (sMO_wanted mo 0) 0 := ⟨rfl, rfl, by omega, fun i h => absurd h (by omega)⟩
  obtain ⟨⟨a1, a2, a3, a4, a5⟩, ⟨k1, k2⟩, ⟨s1, s2⟩, ⟨p1, p2⟩, -, -, -, ⟨u1, u2⟩⟩ := id hS
  have es := p_toL (x := MO_size mo)
  have ep := p_toL (x := MO_step mo)
  have z0 : (0 : Int32).toInt = 0 := rfl
  have z1 : (1 : Int32).toInt = 1 := rfl
  have z2 : (2 : Int32).toInt = 2 := rfl
  have z3 : (3 : Int32).toInt = 3 := rfl
  have z4 : (4 : Int32).toInt = 4 := rfl
  have z5 : (5 : Int32).toInt = 5 := rfl
  have hcase : MO_kind mo = 0 ∨ MO_kind mo = 1 ∨ MO_kind mo = 4 ∨ MO_kind mo = 5 := by
    rw [Ne, pi_eq] at h2 h3
    rw [pi_eq, pi_eq, pi_eq, pi_eq]
    omega
  unfold f_LA_seek f_MO_wantFor
  rw [← a1]
  rcases hcase with h | h | h | h
  · rw [h]
    dsimp only [gl_let]
    rw [if_neg (by decide), if_neg (by decide), if_neg (by decide), if_pos rfl, a2, p_bindsome, p_bindsome]
    obtain ⟨la', mo', g1, g2, g3, g4, g5⟩ := p_beside hS0 hW0 t (MO_size mo).toInt64 ht1 ht2 (by omega) (by omega)
    exact ⟨la', mo', 1, g1, g2, g3, x1.tr g4, x2.tr g5, Or.inl rfl⟩
  · obtain ⟨r, f, q1, q2, la', mo', n, g1, g2, g3, g4, g5⟩ := p_slide k (by omega) hS0 h t ht1 ht2 hW0
    have q1 : f_MO_by (t - MO_offset mo) (MO_step mo).toInt64 = some r := q1
    rw [h]
    dsimp only [gl_let]
    rw [if_pos rfl, if_neg (by decide), if_pos rfl, p_bindsome, q1]
    dsimp only [Option.bind]
    rw [q2]
    dsimp only [Option.bind]
    rw [g2]
    exact ⟨la', mo', n, g1, rfl, g3, x1.tr g4, x2.tr g5, Or.inr g1⟩
  · obtain ⟨r, q, d1, d2, q1, q2, q3, q4, la', mo', g1, g2, g3, g4, g5⟩ := p_months k hk hS0 h t (ht4 h).1 (ht4 h).2 hW0
    have q2 : f_MO_by (r - MO_offset mo) (MO_size mo).toInt64 = some q := q2
    have q3 : f_MO_monthAt k (MO_offset mo + (MO_size mo).toInt64 * q) = some d1 := q3
    have q4 : f_MO_monthAt k (MO_offset mo + (MO_size mo).toInt64 * q + (MO_size mo).toInt64) = some d2 := q4
    rw [h]
    dsimp only [gl_let]
    rw [if_neg (by decide), if_pos rfl, if_neg (by decide), if_neg (by decide), if_neg (by decide), if_pos rfl, p_bindsome, q1]
    dsimp only [Option.bind]
    rw [q2]
    dsimp only [Option.bind]
    rw [q3]
    dsimp only [Option.bind]
    rw [q4]
    dsimp only [Option.bind]
    rw [g2]
    exact ⟨la', mo', 1, g1, rfl, g3, x1.tr g4, x2.tr g5, Or.inl rfl⟩
  · rw [h]
    dsimp only [gl_let]
    rw [if_neg (by decide), if_neg (by decide), if_pos rfl, if_neg (by decide), if_neg (by decide), if_neg (by decide), if_neg (by decide), p_bindsome]
    unfold f_LA_byOwnRule
    rw [show LA_ownRule (sLA_found la 0) = MO_rule mo from a5]
    by_cases r0 : MO_rule mo = 0
    · rw [if_pos r0, if_pos r0, p_bindsome]
      obtain ⟨q, q1, la', mo', g1, g2, g3, g4, g5⟩ := p_turns hS0 t ht1 ht2 hW0
      have q1 : f_MO_by (t - MO_offset mo) ((MO_size mo).toInt64 + (MO_step mo).toInt64) = some q := q1
      rw [q1]
      dsimp only [Option.bind]
      refine ⟨la', mo', 1, g1, ?_, g3, x1.tr g4, x2.tr g5, Or.inl rfl⟩
      rw [← g2]
      show (if _ then _ else _) = (if _ then _ else _)
      split
      · cases f_MO_want (MO_offset mo + ((MO_size mo).toInt64 + (MO_step mo).toInt64) * q + (MO_size mo).toInt64) (MO_offset mo + ((MO_size mo).toInt64 + (MO_step mo).toInt64) * q + ((MO_size mo).toInt64 + (MO_step mo).toInt64)) (sMO_wanted mo 0) <;> rfl
      · cases f_MO_want (MO_offset mo + ((MO_size mo).toInt64 + (MO_step mo).toInt64) * q) (MO_offset mo + ((MO_size mo).toInt64 + (MO_step mo).toInt64) * q + (MO_size mo).toInt64) (sMO_wanted mo 0) <;> rfl
    · rw [if_neg r0, if_neg r0]
      by_cases r1 : MO_rule mo = 1
      · rw [if_pos r1, if_pos r1]
        by_cases hv : 0 ≤ v
        · rw [if_pos hv, if_pos hv, p_bindsome, p_bindsome, show LA_size (sLA_found la 0) = (MO_size mo).toInt64 from a2]
          obtain ⟨la', mo', g1, g2, g3, g4, g5⟩ := p_beside hS0 hW0 t (MO_size mo).toInt64 ht1 ht2 (by omega) (by omega)
          exact ⟨la', mo', 1, g1, g2, g3, x1.tr g4, x2.tr g5, Or.inl rfl⟩
        · rw [if_neg hv, if_neg hv, p_bindsome, p_bindsome, show LA_step (sLA_found la 0) = (MO_step mo).toInt64 from a3]
          obtain ⟨la', mo', g1, g2, g3, g4, g5⟩ := p_beside hS0 hW0 t (MO_step mo).toInt64 ht1 ht2 (by omega) (by omega)
          exact ⟨la', mo', 1, g1, g2, g3, x1.tr g4, x2.tr g5, Or.inl rfl⟩
      · rw [if_neg r1, if_neg r1, p_bindsome, p_bindsome]
        obtain ⟨la', mo', g1, g2, g3, g4, g5⟩ := p_double k (by omega) hS0 t ht1 ht2 hW0
        exact ⟨la', mo', 1, g1, g2, g3, x1.tr g4, x2.tr g5, Or.inl rfl⟩
