theorem p_double (k : Nat) (hk : 100 ≤ k) {la : LAt} {mo : MOt} (hS : ST la mo) (t : Int64) (ht1 : -1000000000000 ≤ t.toInt) (ht2 : t.toInt ≤ 1000000000000) (hW : LW la mo 0) :
    ∃ la' mo', f_LA_doubling k t la = some la' ∧ f_MO_double0 k (t - MO_offset mo) mo = some mo' ∧ LW la' mo' 1 ∧ LAx la la' ∧ MOx mo mo' := by
  obtain ⟨⟨a1, a2, a3, a4, a5⟩, -, -, -, -, -, ⟨o1, o2⟩, -⟩ := hS
  have c0 : (0 : Int64).toInt = 0 := rfl
  have c1 : (1 : Int64).toInt = 1 := rfl
  have cm : (-1 : Int64).toInt = -1 := rfl
  have eu : (t - MO_offset mo).toInt = t.toInt - (MO_offset mo).toInt := pl_sub (by omega) (by omega)
  unfold f_LA_doubling f_MO_double0 gl_let
  dsimp only
  rw [a4]
  generalize hu : t - MO_offset mo = u at eu
  by_cases hneg : 0 ≤ u
  · have hneg' : 0 ≤ u.toInt := by rw [pl_le, c0] at hneg; exact hneg
    have hb9 : f_LA_doubling_B9 u = u := by unfold f_LA_doubling_B9; rw [if_pos hneg]
    have hb2 : f_MO_double0_B2 u = u := by unfold f_MO_double0_B2; rw [if_pos hneg]
    obtain ⟨I, hI, i1, i2⟩ := p_least u.toInt hneg' (by omega)
    obtain ⟨a, b, e1, e2, e3⟩ := p_LAdbl u I hI i1 i2 k 0 0 1 (by omega) (by omega) (by rw [c1]; rfl) (by rw [c0]; rfl)
    obtain ⟨b', f1, f2⟩ := p_MOup22 u I hI i1 i2 k 0 1 (by omega) (by omega) (by rw [c1]; rfl)
    have ebb : b' = b := pl_eq.mpr (f2.trans e2.symm)
    subst ebb
    have hp := p_pow hI
    have hq : f_MO_double0_B47 u b' = a := by
      unfold f_MO_double0_B47
      by_cases hz : u = 0
      · have hI0 : I = 0 := by
          rcases Nat.eq_zero_or_pos I with q | q
          · exact q
          · have := i2 0 q
            rw [hz, c0] at this
            exact absurd this (by decide)
        rw [if_pos hz, pl_eq, e3, if_pos hI0, c0]
      · have hI0 : I ≠ 0 := by
          intro z
          rw [z] at i1
          have : u.toInt ≠ 0 := fun y => hz (pl_eq.mpr (y.trans c0.symm))
          simp at i1
          omega
        rw [if_neg hz, pl_eq, p_half b' I hI e2 hI0, e3, if_neg hI0]
    rw [nI_0] at e1
    rw [hb9, hb2, e1]
    dsimp only [Option.bind]
    rw [if_pos hneg, if_neg (by rw [pl_lt, c0]; omega), f1]
    dsimp only [Option.bind]
    rw [hq]
    have ha : 0 ≤ a.toInt ∧ a.toInt ≤ 2199023255552 := by
      rw [e3]
      split
      · omega
      · have := p_pow (i := I - 1) (by omega); omega
    have s1 : (MO_offset mo + a).toInt = (MO_offset mo).toInt + a.toInt := pl_add (by omega) (by omega)
    have s2 : (MO_offset mo + b').toInt = (MO_offset mo).toInt + b'.toInt := pl_add (by omega) (by omega)
    obtain ⟨la', mo', g1, g2, g3, g4, g5⟩ := p_addwant hW (by omega) (MO_offset mo + a) (MO_offset mo + b') (by omega) (by omega) (by omega) (by omega)
    rw [g1, g2]
    exact ⟨la', mo', rfl, rfl, g3, g4, g5⟩
  · have hneg' : u.toInt < 0 := by rw [pl_le, c0] at hneg; omega
    have hb9 : f_LA_doubling_B9 u = (-1) - u := by unfold f_LA_doubling_B9; rw [if_neg hneg]
    have hb2 : f_MO_double0_B2 u = -u := by unfold f_MO_double0_B2; rw [if_neg hneg]
    have ed : ((-1) - u).toInt = -1 - u.toInt := by rw [pl_sub, cm] <;> rw [cm] <;> omega
    have ev : (-u).toInt = -u.toInt := pl_neg (by omega)
    obtain ⟨I, hI, i1, i2⟩ := p_least ((-1) - u).toInt (by omega) (by omega)
    obtain ⟨a, b, e1, e2, e3⟩ := p_LAdbl ((-1) - u) I hI i1 i2 k 0 0 1 (by omega) (by omega) (by rw [c1]; rfl) (by rw [c0]; rfl)
    obtain ⟨b', f1, f2⟩ := p_MOup75 (-u) I hI (by omega) (fun j hj => by have := i2 j hj; omega) k 0 1 (by omega) (by omega) (by rw [c1]; rfl)
    have ebb : b' = b := pl_eq.mpr (f2.trans e2.symm)
    subst ebb
    have hp := p_pow hI
    rw [nI_0] at e1
    rw [hb9, hb2, e1]
    dsimp only [Option.bind]
    rw [if_neg hneg, if_pos (by rw [pl_lt, c0]; omega), f1]
    dsimp only [Option.bind]
    have ha : 0 ≤ a.toInt ∧ a.toInt ≤ 2199023255552 := by
      rw [e3]
      split
      · omega
      · have := p_pow (i := I - 1) (by omega); omega
    have s1 : (MO_offset mo - a).toInt = (MO_offset mo).toInt - a.toInt := pl_sub (by omega) (by omega)
    have s2 : (MO_offset mo - b').toInt = (MO_offset mo).toInt - b'.toInt := pl_sub (by omega) (by omega)
    obtain ⟨la', mo', g1, g2, g3, g4, g5⟩ := p_addwant hW (by omega) (MO_offset mo - b') (MO_offset mo - a) (by omega) (by omega) (by omega) (by omega)
    by_cases hz : -u = 1
    · have hI0 : I = 0 := by
        rcases Nat.eq_zero_or_pos I with q | q
        · exact q
        · have := i2 0 q
          rw [pl_eq, ev, c1] at hz
          rw [ed] at this
          have p0 : (2 : Int) ^ 0 = 1 := rfl
          omega
      have ha0 : a = 0 := by rw [pl_eq, e3, if_pos hI0, c0]
      rw [if_pos hz, g1, ← ha0, g2]
      exact ⟨la', mo', rfl, rfl, g3, g4, g5⟩
    · have hI0 : I ≠ 0 := by
        intro z
        rw [z, ed] at i1
        have : (-u).toInt ≠ 1 := fun y => hz (pl_eq.mpr (y.trans c1.symm))
        have p0 : (2 : Int) ^ 0 = 1 := rfl
        omega
      have ha0 : b' / 2 = a := by rw [pl_eq, p_half b' I hI e2 hI0, e3, if_neg hI0]
      rw [if_neg hz, ha0, g1, g2]
      exact ⟨la', mo', rfl, rfl, g3, g4, g5⟩
