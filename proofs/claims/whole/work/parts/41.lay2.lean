theorem p_grid (t sh len : Int64) (ht1 : -2000000000000 ≤ t.toInt) (ht2 : t.toInt ≤ 2000000000000) (hs1 : -1000000000 ≤ sh.toInt) (hs2 : sh.toInt ≤ 1000000000) (hl1 : 1 ≤ len.toInt) (hl2 : len.toInt ≤ 200000) :
    ∃ q, f_SR_by (t - sh) len = some q ∧ f_MO_by (t - sh) len = some q ∧ q.toInt = (t.toInt - sh.toInt) / len.toInt ∧ (sh + len * q).toInt = sh.toInt + len.toInt * q.toInt ∧ (sh + len * q).toInt ≤ t.toInt ∧ t.toInt < (sh + len * q).toInt + len.toInt := by
  have e1 : (t - sh).toInt = t.toInt - sh.toInt := pl_sub (by omega) (by omega)
  obtain ⟨q, hq, eq⟩ := p_by (t - sh) len (by omega)
  have hq2 : f_MO_by (t - sh) len = some q := by rw [← p_by_eq _ _ (by omega)]; exact hq
  rw [e1] at eq
  have h1 : len.toInt * q.toInt ≤ t.toInt - sh.toInt := by
    rw [eq, Int.mul_comm]
    exact Int.ediv_mul_le _ (by omega)
  have h2 : t.toInt - sh.toInt < len.toInt * q.toInt + len.toInt := by
    rw [eq]
    have := Int.lt_ediv_add_one_mul_self (t.toInt - sh.toInt) (b := len.toInt) (by omega)
    rw [Int.add_mul, Int.one_mul, Int.mul_comm] at this
    exact this
  have e2 : (len * q).toInt = len.toInt * q.toInt := pl_mul (by omega) (by omega)
  have e3 : (sh + len * q).toInt = sh.toInt + len.toInt * q.toInt := by rw [pl_add, e2] <;> rw [e2] <;> omega
  exact ⟨q, hq, hq2, eq, e3, by omega, by omega⟩
/-- the settings of a row's spans -/
def ST (la : LAt) (mo : MOt) : Prop := (MO_kind mo = LA_kind la ∧ LA_size la = (MO_size mo).toInt64 ∧ LA_step la = (MO_step mo).toInt64 ∧ LA_shift la = MO_offset mo ∧ LA_ownRule la = MO_rule mo) ∧
  (0 ≤ (MO_kind mo).toInt ∧ (MO_kind mo).toInt ≤ 5) ∧ (1 ≤ (MO_size mo).toInt ∧ (MO_size mo).toInt ≤ 65536) ∧ (1 ≤ (MO_step mo).toInt ∧ (MO_step mo).toInt ≤ 65536) ∧ (MO_kind mo = 1 → (MO_size mo).toInt ≤ 16 * (MO_step mo).toInt) ∧ (MO_kind mo = 4 → (MO_size mo).toInt ≤ 12) ∧
  (-1000000000 ≤ (MO_offset mo).toInt ∧ (MO_offset mo).toInt ≤ 1000000000) ∧ (0 ≤ (MO_rule mo).toInt ∧ (MO_rule mo).toInt ≤ 2)
theorem ST.x {la la' : LAt} {mo mo' : MOt} (h : ST la mo) (h1 : LAx la la') (h2 : MOx mo mo') : ST la' mo' := by
  obtain ⟨w, b, e, rfl⟩ := h2
  obtain ⟨⟨a1, a2, a3, a4, a5⟩, r⟩ := h
  exact ⟨⟨a1.trans h1.1.symm, h1.2.1.trans a2, h1.2.2.1.trans a3, h1.2.2.2.1.trans a4, h1.2.2.2.2.trans a5⟩, r⟩
theorem p_beside {la : LAt} {mo : MOt} (hS : ST la mo) (hW : LW la mo 0) (t len : Int64) (ht1 : -1000000000000 ≤ t.toInt) (ht2 : t.toInt ≤ 1000000000000) (hl1 : 1 ≤ len.toInt) (hl2 : len.toInt ≤ 65536) :
    ∃ la' mo', f_LA_beside t len la = some la' ∧ f_MO_beside t len mo = some mo' ∧ LW la' mo' 1 ∧ LAx la la' ∧ MOx mo mo' := by
  obtain ⟨⟨a1, a2, a3, a4, a5⟩, -, -, -, -, -, ⟨o1, o2⟩, -⟩ := hS
  obtain ⟨q, h1, h2, -, -, h4, h5⟩ := p_grid t (MO_offset mo) len (by omega) (by omega) o1 o2 hl1 (by omega)
  have e : (MO_offset mo + len * q + len).toInt = (MO_offset mo + len * q).toInt + len.toInt := pl_add (by omega) (by omega)
  obtain ⟨la', mo', g1, g2, g3, g4, g5⟩ := p_addwant hW (by omega) (MO_offset mo + len * q) (MO_offset mo + len * q + len) (by omega) (by omega) (by omega) (by omega)
  refine ⟨la', mo', ?_, ?_, g3, g4, g5⟩
  · unfold f_LA_beside gl_let
    dsimp only
    rw [a4, h1]
    dsimp only [Option.bind]
    rw [g1]
  · unfold f_MO_beside gl_let
    dsimp only
    rw [h2]
    dsimp only [Option.bind]
    rw [g2]
