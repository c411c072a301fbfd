/-! PURE PART F: the settings, promises 2 to 6 -/
def SX (sr : SRt) (mo : MOt) : Prop := (SR_lateBy sr = MO_lateness mo ∧ SR_theMark sr = MO_now mo ∧ SR_every sr = MO_every mo ∧ SR_latelyOn sr = MO_fires mo ∧ SR_clearsOn sr = MO_clears mo ∧ SR_came sr = MO_came mo ∧ SR_dropped sr = MO_late mo) ∧
  (0 ≤ (MO_lateness mo).toInt ∧ (MO_lateness mo).toInt ≤ 1000000000) ∧ (-10000000000000 ≤ (MO_now mo).toInt ∧ (MO_now mo).toInt ≤ 10000000000000) ∧ (0 ≤ (MO_every mo).toInt ∧ (MO_every mo).toInt ≤ 1000) ∧ (MO_fires mo = 0 ∨ MO_fires mo = 1) ∧ (MO_clears mo = 0 ∨ MO_clears mo = 1)
theorem p_win (v a b : Int64) : f_SR_isWithin v a b = f_MO_in v a b := by rw [p_within, p_in]
theorem p_inIf {v a b : Int64} (h : ¬ f_MO_in v a b = 0) : a.toInt ≤ v.toInt ∧ v.toInt ≤ b.toInt := by
  rw [← p_win, p_w0] at h
  exact Classical.not_not.mp h
theorem p_offset {sr : SRt} {la : LAt} {mo : MOt} (hS : ST la mo) (hX : SX sr mo) (v : Int64) : ∃ (a : Int32) (o : Int64), f_SR_offset v sr la = (a, sLA_shift la o) ∧ f_MO_offset v mo = (a, sMO_thrown (sMO_offset mo o) 0) ∧ ST (sLA_shift la o) (sMO_thrown (sMO_offset mo o) 0) ∧ SX sr (sMO_thrown (sMO_offset mo o) 0) := by
  have hS' := hS
  obtain ⟨⟨a1, a2, a3, a4, a5⟩, r1, r2, r3, r4, r5, r6, r7⟩ := hS
  have h6 := hX.1.2.2.2.2.2.1
  have keep : ST (sLA_shift la (MO_offset mo)) (sMO_thrown (sMO_offset mo (MO_offset mo)) 0) := ⟨⟨a1, a2, a3, rfl, a5⟩, r1, r2, r3, r4, r5, r6, r7⟩
  have same : sLA_shift la (MO_offset mo) = la := by rw [← a4]
  unfold f_SR_offset f_MO_offset
  rw [p_win, h6]
  by_cases h : f_MO_in v (-1000000000) 1000000000 = 0
  · rw [if_pos h, if_pos h]
    exact ⟨_, MO_offset mo, by rw [same], rfl, keep, hX⟩
  · rw [if_neg h, if_neg h]
    by_cases c : MO_came mo ≤ 0
    · rw [if_pos c, if_pos c]
      have hb := p_inIf h
      have c1 : (-1000000000 : Int64).toInt = -1000000000 := rfl
      have c2 : (1000000000 : Int64).toInt = 1000000000 := rfl
      rw [c1, c2] at hb
      exact ⟨_, v, rfl, rfl, ⟨⟨a1, a2, a3, rfl, a5⟩, r1, r2, r3, r4, r5, hb, r7⟩, hX⟩
    · rw [if_neg c, if_neg c]
      exact ⟨_, MO_offset mo, by rw [same], rfl, keep, hX⟩
theorem p_lateness {sr : SRt} {la : LAt} {mo : MOt} (hS : ST la mo) (hX : SX sr mo) (v : Int64) : ∃ (a : Int32) (o : Int64), f_SR_lateness v sr la = (a, sSR_lateBy sr o) ∧ f_MO_lateness v mo = (a, sMO_thrown (sMO_lateness mo o) 0) ∧ ST la (sMO_thrown (sMO_lateness mo o) 0) ∧ SX (sSR_lateBy sr o) (sMO_thrown (sMO_lateness mo o) 0) := by
  obtain ⟨⟨b1, b2, b3, b4, b5, b6, b7⟩, q1, q2, q3, q4, q5⟩ := hX
  have hk := hS.1.1
  have same : sSR_lateBy sr (MO_lateness mo) = sr := by rw [← b1]
  have keep : SX (sSR_lateBy sr (MO_lateness mo)) (sMO_thrown (sMO_lateness mo (MO_lateness mo)) 0) := ⟨⟨rfl, b2, b3, b4, b5, b6, b7⟩, q1, q2, q3, q4, q5⟩
  unfold f_SR_lateness f_MO_lateness
  rw [p_win, b6, ← hk]
  by_cases h : f_MO_in v 0 1000000000 = 0
  · rw [if_pos h, if_pos h]
    exact ⟨_, MO_lateness mo, by rw [same], rfl, hS, keep⟩
  · rw [if_neg h, if_neg h]
    by_cases c : 0 < MO_came mo
    · rw [if_pos c, if_pos c]
      exact ⟨_, MO_lateness mo, by rw [same], rfl, hS, keep⟩
    · rw [if_neg c, if_neg c]
      by_cases d : MO_kind mo = 3
      · rw [if_pos d, if_pos d]
        exact ⟨_, MO_lateness mo, by rw [same], rfl, hS, keep⟩
      · rw [if_neg d, if_neg d]
        have hb := p_inIf h
        have c1 : (0 : Int64).toInt = 0 := rfl
        have c2 : (1000000000 : Int64).toInt = 1000000000 := rfl
        rw [c1, c2] at hb
        exact ⟨_, v, rfl, rfl, hS, ⟨rfl, b2, b3, b4, b5, b6, b7⟩, hb, q2, q3, q4, q5⟩
