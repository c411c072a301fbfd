theorem p_trigger {sr : SRt} {la : LAt} {mo : MOt} (hS : ST la mo) (hX : SX sr mo) (x y : Int32) (hy : y = 0 ∨ y = 1) : ∃ (a : Int32) (n o : Int32), f_SR_trigger x y sr la = some (a, sSR_latelyOn (sSR_every sr n) o) ∧ f_MO_trigger x y mo = some (a, sMO_thrown (sMO_fires (sMO_every mo n) o) 0) ∧ ST la (sMO_thrown (sMO_fires (sMO_every mo n) o) 0) ∧ SX (sSR_latelyOn (sSR_every sr n) o) (sMO_thrown (sMO_fires (sMO_every mo n) o) 0) := by
  obtain ⟨⟨b1, b2, b3, b4, b5, b6, b7⟩, q1, q2, q3, q4, q5⟩ := hX
  have hk := hS.1.1
  have same : sSR_latelyOn (sSR_every sr (MO_every mo)) (MO_fires mo) = sr := by rw [← b3, ← b4]
  have keep : SX (sSR_latelyOn (sSR_every sr (MO_every mo)) (MO_fires mo)) (sMO_thrown (sMO_fires (sMO_every mo (MO_every mo)) (MO_fires mo)) 0) := ⟨⟨b1, b2, rfl, rfl, b5, b6, b7⟩, q1, q2, q3, q4, q5⟩
  unfold f_SR_trigger f_MO_trigger
  rw [p_win, ← hk]
  by_cases h : f_MO_in x.toInt64 0 1000 = 0
  · rw [if_pos h, if_pos h]
    exact ⟨_, MO_every mo, MO_fires mo, by rw [same], rfl, hS, keep⟩
  · rw [if_neg h, if_neg h]
    by_cases d : MO_kind mo = 3
    · rw [if_pos d, if_pos d]
      exact ⟨_, MO_every mo, MO_fires mo, by rw [same], rfl, hS, keep⟩
    · rw [if_neg d, if_neg d, if_neg (fun z => z hy), if_neg (fun z => z hy)]
      have hb := p_inIf h
      have c1 : (0 : Int64).toInt = 0 := rfl
      have c2 : (1000 : Int64).toInt = 1000 := rfl
      rw [c1, c2, pi_l] at hb
      exact ⟨_, x, y, rfl, rfl, hS, ⟨b1, b2, rfl, rfl, b5, b6, b7⟩, q1, q2, hb, hy, q5⟩
theorem p_clears {sr : SRt} {la : LAt} {mo : MOt} (hS : ST la mo) (hX : SX sr mo) (y : Int32) (hy : y = 0 ∨ y = 1) : ∃ (a : Int32) (o : Int32), f_SR_clears y sr la = some (a, sSR_clearsOn sr o) ∧ f_MO_clears y mo = some (a, sMO_clears (sMO_thrown mo 0) o) ∧ ST la (sMO_clears (sMO_thrown mo 0) o) ∧ SX (sSR_clearsOn sr o) (sMO_clears (sMO_thrown mo 0) o) := by
  obtain ⟨⟨b1, b2, b3, b4, b5, b6, b7⟩, q1, q2, q3, q4, q5⟩ := hX
  have hk := hS.1.1
  have same : sSR_clearsOn sr (MO_clears mo) = sr := by rw [← b5]
  have keep : SX (sSR_clearsOn sr (MO_clears mo)) (sMO_clears (sMO_thrown mo 0) (MO_clears mo)) := ⟨⟨b1, b2, b3, b4, rfl, b6, b7⟩, q1, q2, q3, q4, q5⟩
  unfold f_SR_clears f_MO_clears f_MO_clears_B21
  dsimp only [gl_let]
  rw [← hk, b5]
  by_cases d : MO_kind mo = 3
  · rw [if_pos d, if_pos d]
    exact ⟨_, MO_clears mo, by rw [same], rfl, hS, keep⟩
  · have hny : ¬ ¬ (y = 0 ∨ y = 1) := fun z => z hy
    rw [if_neg d, if_neg d]
    by_cases c : MO_clears mo = y
    · rw [if_pos c, if_neg hny, if_pos c]
      subst c
      exact ⟨_, MO_clears mo, by rw [same], rfl, hS, keep⟩
    · rw [if_neg c, if_neg hny, if_neg hny, if_neg c]
      exact ⟨_, y, rfl, rfl, hS, ⟨b1, b2, b3, b4, rfl, b6, b7⟩, q1, q2, q3, q4, hy⟩
theorem p_rule {sr : SRt} {la : LAt} {mo : MOt} (hS : ST la mo) (hX : SX sr mo) (x : Int32) : ∃ (a : Int32) (o : Int32), f_SR_rule x sr la = (a, sLA_ownRule la o) ∧ f_MO_rule x mo = (a, sMO_thrown (sMO_rule mo o) 0) ∧ ST (sLA_ownRule la o) (sMO_thrown (sMO_rule mo o) 0) ∧ SX sr (sMO_thrown (sMO_rule mo o) 0) := by
  obtain ⟨⟨a1, a2, a3, a4, a5⟩, r1, r2, r3, r4, r5, r6, r7⟩ := hS
  have same : sLA_ownRule la (MO_rule mo) = la := by rw [← a5]
  have keep : ST (sLA_ownRule la (MO_rule mo)) (sMO_thrown (sMO_rule mo (MO_rule mo)) 0) := ⟨⟨a1, a2, a3, a4, rfl⟩, r1, r2, r3, r4, r5, r6, r7⟩
  unfold f_SR_rule f_MO_rule
  dsimp only [gl_let]
  rw [p_win, ← a1]
  by_cases h : f_MO_in x.toInt64 0 2 = 0
  · rw [if_pos h, if_pos h]
    exact ⟨_, MO_rule mo, by rw [same], rfl, keep, hX⟩
  · rw [if_neg h, if_neg h]
    by_cases d : MO_kind mo = 5
    · rw [if_pos d, if_pos d, a5]
      have hb := p_inIf h
      have c1 : (0 : Int64).toInt = 0 := rfl
      have c2 : (2 : Int64).toInt = 2 := rfl
      rw [c1, c2, pi_l] at hb
      exact ⟨_, x, rfl, rfl, ⟨⟨a1, a2, a3, a4, rfl⟩, r1, r2, r3, r4, r5, r6, hb⟩, hX⟩
    · rw [if_neg d, if_neg d]
      exact ⟨_, MO_rule mo, by rw [same], rfl, keep, hX⟩
theorem p_month (k : Nat) (hk : 12 ≤ k) (x : Int32) (sr : SRt) (mo : MOt) : ∃ a : Int32, f_SR_month x sr = some a ∧ f_MO_month k x mo = some (a, sMO_thrown mo 0) := by
  unfold f_SR_month f_MO_month
  rw [p_win]
  by_cases h : f_MO_in x.toInt64 (-3000000) 3000000 = 0
  · rw [if_pos h, if_pos h]
    exact ⟨_, rfl, rfl⟩
  · rw [if_neg h, if_neg h]
    have hb := p_inIf h
    have c1 : (-3000000 : Int64).toInt = -3000000 := rfl
    have c2 : (3000000 : Int64).toInt = 3000000 := rfl
    rw [c1, c2] at hb
    obtain ⟨d, d1, d2, -⟩ := p_firstDay_eq k hk x.toInt64 (by omega) (by omega)
    rw [d1, d2]
    exact ⟨_, rfl, rfl⟩
