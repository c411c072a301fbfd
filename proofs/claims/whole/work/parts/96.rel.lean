/-! PURE PART K: the relation between class and reference, kept by every call -/
def REL (L P : List (Nat × Nat)) (T C M : Nat) (sr : SRt) (la : LAt) (fb : FBt) (rs : RSt) (ss : SSt) (nu : NUt) (fs : FSt) (mo : MOt) : Prop :=
  ST la mo ∧ SX sr mo ∧ FBr fb mo ∧ RR L rs mo ∧ SP P ss mo ∧ BT L P (SS_had ss) (SS_untold ss) (MO_has mo) (MO_toldOf mo) ∧ FR fs mo T ∧ MO_came mo = nI C ∧ (MO_kind mo = 2 → GP P mo) ∧ (MO_kind mo = 3 → NR nu mo L M ∧ P = [])
def RL (B : Nat) (sr : SRt) (la : LAt) (fb : FBt) (rs : RSt) (ss : SSt) (nu : NUt) (fs : FSt) (mo : MOt) : Prop := ∃ L P T C M, REL L P T C M sr la fb rs ss nu fs mo ∧ T ≤ 2400 * B ∧ C ≤ B ∧ M ≤ B
section SIM
variable {B : Nat} {sr : SRt} {la : LAt} {fb : FBt} {rs : RSt} {ss : SSt} {nu : NUt} {fs : FSt} {mo : MOt}
theorem s_offset (h : RL B sr la fb rs ss nu fs mo) (v : Int64) : ∃ a la' mo', f_SR_offset v sr la = (a, la') ∧ f_MO_offset v mo = (a, mo') ∧ RL (B + 1) sr la' fb rs ss nu fs mo' := by
  obtain ⟨L, P, T, C, M, ⟨hA, hX, hB, hR, hS, hT, hF, hC, hG, hN⟩, b1, b2, b3⟩ := h
  obtain ⟨a, o, e1, e2, e3, e4⟩ := p_offset hA hX v
  exact ⟨a, _, _, e1, e2, L, P, T, C, M, ⟨e3, e4, hB, hR, hS, hT, hF, hC, hG, hN⟩, by omega, by omega, by omega⟩
theorem s_lateness (h : RL B sr la fb rs ss nu fs mo) (v : Int64) : ∃ a sr' mo', f_SR_lateness v sr la = (a, sr') ∧ f_MO_lateness v mo = (a, mo') ∧ RL (B + 1) sr' la fb rs ss nu fs mo' := by
  obtain ⟨L, P, T, C, M, ⟨hA, hX, hB, hR, hS, hT, hF, hC, hG, hN⟩, b1, b2, b3⟩ := h
  obtain ⟨a, o, e1, e2, e3, e4⟩ := p_lateness hA hX v
  exact ⟨a, _, _, e1, e2, L, P, T, C, M, ⟨e3, e4, hB, hR, hS, hT, hF, hC, hG, hN⟩, by omega, by omega, by omega⟩
theorem s_trigger (h : RL B sr la fb rs ss nu fs mo) (x y : Int32) (hy : y = 0 ∨ y = 1) : ∃ a sr' mo', f_SR_trigger x y sr la = some (a, sr') ∧ f_MO_trigger x y mo = some (a, mo') ∧ RL (B + 1) sr' la fb rs ss nu fs mo' := by
  obtain ⟨L, P, T, C, M, ⟨hA, hX, hB, hR, hS, hT, hF, hC, hG, hN⟩, b1, b2, b3⟩ := h
  obtain ⟨a, n, o, e1, e2, e3, e4⟩ := p_trigger hA hX x y hy
  exact ⟨a, _, _, e1, e2, L, P, T, C, M, ⟨e3, e4, hB, hR, hS, hT, hF, hC, hG, hN⟩, by omega, by omega, by omega⟩
theorem s_clears (h : RL B sr la fb rs ss nu fs mo) (y : Int32) (hy : y = 0 ∨ y = 1) : ∃ a sr' mo', f_SR_clears y sr la = some (a, sr') ∧ f_MO_clears y mo = some (a, mo') ∧ RL (B + 1) sr' la fb rs ss nu fs mo' := by
  obtain ⟨L, P, T, C, M, ⟨hA, hX, hB, hR, hS, hT, hF, hC, hG, hN⟩, b1, b2, b3⟩ := h
  obtain ⟨a, o, e1, e2, e3, e4⟩ := p_clears hA hX y hy
  exact ⟨a, _, _, e1, e2, L, P, T, C, M, ⟨e3, e4, hB, hR, hS, hT, hF, hC, hG, hN⟩, by omega, by omega, by omega⟩
theorem s_rule (h : RL B sr la fb rs ss nu fs mo) (x : Int32) : ∃ a la' mo', f_SR_rule x sr la = (a, la') ∧ f_MO_rule x mo = (a, mo') ∧ RL (B + 1) sr la' fb rs ss nu fs mo' := by
  obtain ⟨L, P, T, C, M, ⟨hA, hX, hB, hR, hS, hT, hF, hC, hG, hN⟩, b1, b2, b3⟩ := h
  obtain ⟨a, o, e1, e2, e3, e4⟩ := p_rule hA hX x
  exact ⟨a, _, _, e1, e2, L, P, T, C, M, ⟨e3, e4, hB, hR, hS, hT, hF, hC, hG, hN⟩, by omega, by omega, by omega⟩
theorem s_forbid (h : RL B sr la fb rs ss nu fs mo) (k : Nat) (hk : 5000 ≤ k) (x : Int32) (v : Int64) : ∃ a fb' mo', f_SR_forbid k x v sr la fb = some (a, fb') ∧ f_MO_forbid k x v mo = some (a, mo') ∧ RL (B + 1) sr la fb' rs ss nu fs mo' := by
  obtain ⟨L, P, T, C, M, ⟨hA, hX, hB, hR, hS, hT, hF, hC, hG, hN⟩, b1, b2, b3⟩ := h
  obtain ⟨a, fb', mo', e1, e2, e3, fb1, ff1, rfl⟩ := p_forbid hB k (by omega) x v (sr := sr) (la := la) hA.1.1
  exact ⟨a, _, _, e1, e2, L, P, T, C, M, ⟨hA, hX, e3, hR, hS, hT, hF, hC, hG, hN⟩, by omega, by omega, by omega⟩
theorem s_count (h : RL B sr la fb rs ss nu fs mo) (x : Int32) (hB : B ≤ 600) : ∃ a mo', f_SR_count x sr rs ss fs = a ∧ f_MO_count x mo = (a, mo') ∧ RL (B + 1) sr la fb rs ss nu fs mo' := by
  obtain ⟨L, P, T, C, M, ⟨hA, hX, hB', hR, hS, hT, hF, hC, hG, hN⟩, b1, b2, b3⟩ := h
  have hk := p_kept hF.1 (by omega)
  have key : f_MO_count x mo = (f_SR_count x sr rs ss fs, sMO_thrown mo 0) := by
    unfold f_MO_count f_SR_count
    rw [hR.rows, hS.spans, hF.2.1, ← hX.1.2.2.2.2.2.2, ← hX.1.2.2.2.2.2.1, hF.2.2.1, ← hF.2.2.2.1, ← hF.2.2.2.2.1, hR.kept, hS.kept, hF.1, hk]
    by_cases c0 : x = 0
    · rw [if_pos c0, if_pos c0]
    rw [if_neg c0, if_neg c0]
    by_cases c1 : x = 1
    · rw [if_pos c1, if_pos c1]
    rw [if_neg c1, if_neg c1]
    by_cases c2 : x = 2
    · rw [if_pos c2, if_pos c2]
    rw [if_neg c2, if_neg c2]
    by_cases c3 : x = 3
    · rw [if_pos c3, if_pos c3]
    rw [if_neg c3, if_neg c3]
    by_cases c4 : x = 4
    · rw [if_pos c4, if_pos c4]
    rw [if_neg c4, if_neg c4]
    by_cases c5 : x = 5
    · rw [if_pos c5, if_pos c5]
    rw [if_neg c5, if_neg c5]
    by_cases c6 : x = 6
    · rw [if_pos c6, if_pos c6]
    rw [if_neg c6, if_neg c6]
    by_cases c7 : x = 7
    · rw [if_pos c7, if_pos c7]
    rw [if_neg c7, if_neg c7]
  exact ⟨_, _, rfl, key, L, P, T, C, M, ⟨hA, hX, hB', hR, hS, hT, hF, hC, hG, hN⟩, by omega, by omega, by omega⟩
theorem s_fired (h : RL B sr la fb rs ss nu fs mo) (x y : Int32) : ∃ a mo', f_SR_fired x y sr fs = some a ∧ f_MO_fired x y mo = some (a, mo') ∧ RL (B + 1) sr la fb rs ss nu fs mo' := by
  obtain ⟨L, P, T, C, M, ⟨hA, hX, hB, hR, hS, hT, hF, hC, hG, hN⟩, b1, b2, b3⟩ := h
  obtain ⟨a, e1, e2⟩ := p_fired hF x y sr
  exact ⟨a, _, e1, e2, L, P, T, C, M, ⟨hA, hX, hB, hR, hS, hT, hF, hC, hG, hN⟩, by omega, by omega, by omega⟩
theorem s_spans (h : RL B sr la fb rs ss nu fs mo) (k : Nat) (hk : 5000 ≤ k) (x : Int32) : ∃ a mo', f_SR_spans k x sr la ss nu = some a ∧ f_MO_spans k x mo = some (a, mo') ∧ RL (B + 1) sr la fb rs ss nu fs mo' := by
  obtain ⟨L, P, T, C, M, ⟨hA, hX, hB, hR, hS, hT, hF, hC, hG, hN⟩, b1, b2, b3⟩ := h
  have fin : RL (B + 1) sr la fb rs ss nu fs (sMO_thrown mo 0) := ⟨L, P, T, C, M, ⟨hA, hX, hB, hR, hS, hT, hF, hC, hG, hN⟩, by omega, by omega, by omega⟩
  unfold f_SR_spans f_MO_spans f_SR_isKey
  rw [p_win, ← hA.1.1]
  rcases p_key x with h0 | ⟨q, hq, rfl, h0⟩
  · rw [if_pos h0, if_pos h0]
    exact ⟨_, _, rfl, rfl, fin⟩
  · rw [if_neg h0, if_neg h0]
    by_cases c3 : MO_kind mo = 3
    · rw [if_pos c3, if_pos c3, if_neg (nI_in hq (by omega)), if_neg (nI_in hq (by omega)), nI_clamp (show q < 2 ^ 31 by omega)]
      obtain ⟨st, sz, N, -, -, -, -, s5, -⟩ := (hN c3).1
      exact ⟨_, _, rfl, by rw [(s5 q hq).1, (s5 q hq).2.1], fin⟩
    · rw [if_neg c3, if_neg c3]
      have hS0 : SP P ss (sMO_thrown mo 0) := hS
      obtain ⟨a, e1, e2⟩ := p_spansOf k hk hS0 hq
      dsimp only [gl_let]
      rw [e1, ob, e2, ob]
      exact ⟨_, _, rfl, rfl, fin⟩
theorem s_span (h : RL B sr la fb rs ss nu fs mo) (k : Nat) (hk : 5000 ≤ k) (x1 x2 x3 : Int32) (co : COt) : ∃ a co' mo', f_SR_span k x1 x2 x3 sr rs ss co = some (a, co') ∧ f_MO_span k x1 x2 x3 mo = some (a, mo') ∧ RL (B + 1) sr la fb rs ss nu fs mo' := by
  obtain ⟨L, P, T, C, M, ⟨hA, hX, hB, hR, hS, hT, hF, hC, hG, hN⟩, b1, b2, b3⟩ := h
  obtain ⟨a, co', g, J, e1, e2⟩ := p_span k hk (sr := sr) co hR hS hT x1 x2 x3
  exact ⟨a, co', _, e1, e2, L, P, T, C, M, ⟨hA, hX, hB, hR, hS, hT, hF, hC, hG, hN⟩, by omega, by omega, by omega⟩
theorem s_month (h : RL B sr la fb rs ss nu fs mo) (k : Nat) (hk : 5000 ≤ k) (x : Int32) : ∃ a mo', f_SR_month x sr = some a ∧ f_MO_month k x mo = some (a, mo') ∧ RL (B + 1) sr la fb rs ss nu fs mo' := by
  obtain ⟨L, P, T, C, M, ⟨hA, hX, hB, hR, hS, hT, hF, hC, hG, hN⟩, b1, b2, b3⟩ := h
  obtain ⟨a, e1, e2⟩ := p_month k (by omega) x sr mo
  exact ⟨a, _, e1, e2, L, P, T, C, M, ⟨hA, hX, hB, hR, hS, hT, hF, hC, hG, hN⟩, by omega, by omega, by omega⟩
theorem s_mark (h : RL B sr la fb rs ss nu fs mo) (hB600 : B ≤ 600) (k : Nat) (hk : 5000 ≤ k) (v : Int64) (co : COt) : ∃ a sr' rs' ss' nu' fs' co' mo', f_SR_mark k v sr la rs ss nu fs co = some (a, sr', rs', ss', nu', fs', co') ∧ f_MO_mark k v mo = some (a, mo') ∧ RL (B + 1) sr' la fb rs' ss' nu' fs' mo' := by
  obtain ⟨L, P, T, C, M, ⟨hA, hX, hB, hR, hS, hT, hF, hC, hG, hN⟩, b1, b2, b3⟩ := h
  unfold f_SR_mark f_MO_mark
  rw [p_win, ← hA.1.1]
  by_cases h0 : f_MO_in v (-10000000000000) 10000000000000 = 0
  · rw [if_pos h0, if_pos h0]
    exact ⟨_, _, _, _, _, _, _, _, rfl, rfl, L, P, T, C, M, ⟨hA, hX, hB, hR, hS, hT, hF, hC, hG, hN⟩, by omega, by omega, by omega⟩
  · rw [if_neg h0, if_neg h0, hX.1.2.1]
    have hv := p_inIf h0
    rw [show (-10000000000000 : Int64).toInt = -10000000000000 from rfl, show (10000000000000 : Int64).toInt = 10000000000000 from rfl] at hv
    by_cases h1 : MO_now mo ≤ v
    · rw [if_pos h1, if_pos h1]
      dsimp only [gl_let]
      obtain ⟨mo1, hmo1⟩ : ∃ mo1, mo1 = sMO_thrown (sMO_now mo v) 0 := ⟨_, rfl⟩
      rw [← hmo1]
      have hA1 : ST la mo1 := by rw [hmo1]; exact hA
      have hX1 : SX (sSR_theMark sr v) mo1 := by
        rw [hmo1]
        obtain ⟨⟨z1, z2, z3, z4, z5, z6, z7⟩, q1, q2, q3⟩ := hX
        exact ⟨⟨z1, rfl, z3, z4, z5, z6, z7⟩, q1, hv, q3⟩
      have hB1 : FBr fb mo1 := by rw [hmo1]; exact hB
      have hR1 : RR L rs mo1 := by rw [hmo1]; exact hR
      have hS1 : SP P ss mo1 := by rw [hmo1]; exact hS
      have hT1 : BT L P (SS_had ss) (SS_untold ss) (MO_has mo1) (MO_toldOf mo1) := by rw [hmo1]; exact hT
      have hF1 : FR fs mo1 T := by rw [hmo1]; exact hF
      have hC1 : MO_came mo1 = nI C := by rw [hmo1]; exact hC
      have hk1 : MO_kind mo1 = MO_kind mo := by rw [hmo1]
      by_cases c3 : MO_kind mo = 3
      · rw [if_pos c3, if_pos c3]
        obtain ⟨hN1, hP⟩ := hN c3
        have hN2 : NR nu mo1 L M := by rw [hmo1]; exact hN1
        obtain ⟨a, rs', nu', fs', co', mo', L', T', e1, e2, e3, e4, e5, e6, e7, e8⟩ := p_endCounted k hk (co := co) hA1 hX1 hR1 hN2 (by omega) hF1 (by omega)
        rw [e1, ob, e2, ob]
        have hA2 : ST la mo' := by have y := hA1.cong e8; exact y
        have hX2 : SX (sSR_theMark sr v) mo' := by have y := hX1.cong e8; exact y
        have hB2 : FBr fb mo' := by have y := hB1.cong e8; exact y
        have hC2 : MO_came mo' = nI C := ((moC.get e8).2.2.2.2.2.2.1).trans hC1
        have hk2 : MO_kind mo' = MO_kind mo1 := (moC.get e8).2.2.2.2.2.1
        have hS2 : SP P ss mo' := by
          have e := e7
          unfold moS at e
          injection e with y1 e
          injection e with y2 e
          injection e with y3 e
          injection e with y4 e
          injection e with y5 e
          injection e with y6 e
          injection e with y7 e
          injection e with y8 y9
          have h := hS1
          unfold SP at h ⊢
          rw [y1, y2, y3, y4, y5, y6, y9]
          exact h
        refine ⟨_, _, _, _, _, _, _, _, rfl, rfl, L', P, T', C, M + 1, ⟨hA2, hX2, hB2, e3, hS2, ?_, e5, hC2, fun z => ?_, fun _ => ⟨e4, hP⟩⟩, by omega, by omega, by omega⟩
        · rw [hP]
          exact ⟨fun p hp => absurd hp (by simp), fun p hp => absurd hp (by simp), fun p hp => absurd hp (by simp), fun p hp => absurd hp (by simp)⟩
        · rw [hk2, hk1, c3] at z
          exact absurd z (by decide)
      · rw [if_neg c3, if_neg c3]
        obtain ⟨a, rs', ss', fs', co', mo2, mo3, mo', L', P', T', e1, e2, e3, e4, e5, e6, e7, e8, e9, e10, ⟨fP, e11⟩, e12, e13, e14, e15⟩ := p_endSpans k hk (co := co) hX1 hR1 hS1 hT1 hF1 (by omega)
        rw [e1, ob, e2, ob]
        dsimp only
        rw [e3, ob, e4, ob]
        have hk2 : MO_kind mo' = MO_kind mo := ((moC.get e10).2.2.2.2.2.1).trans hk1
        refine ⟨_, _, _, _, _, _, _, _, rfl, rfl, L', P', T', C, M, ⟨hA1.cong e10, hX1.cong e10, hB1.cong e10, e5, e6, e7, e8, ((moC.get e10).2.2.2.2.2.2.1).trans hC1, fun z => ?_, fun z => absurd (hk2.symm.trans z) c3⟩, by omega, by omega, by omega⟩
        have hG1 : GP P mo1 := by rw [hmo1]; exact hG (hk2.symm.trans z)
        obtain ⟨g1, g2, g3⟩ := hG1
        have hsub : ∀ p ∈ P', p ∈ P := fun p hp => by rw [e11] at hp; exact (List.mem_filter.mp hp).1
        unfold GP
        rw [e13, e14, e15]
        refine ⟨?_, fun p hp => g2 p (hsub p hp), fun p hp p' hp' => g3 p (hsub p hp) p' (hsub p' hp')⟩
        have := g1.filter fP
        rw [← e11] at this
        refine this.imp_of_mem ?_
        intro x y hx hy hxy
        rw [e12 x hx, e12 y hy]
        exact hxy
    · rw [if_neg h1, if_neg h1]
      exact ⟨_, _, _, _, _, _, _, _, rfl, rfl, L, P, T, C, M, ⟨hA, hX, hB, hR, hS, hT, hF, hC, hG, hN⟩, by omega, by omega, by omega⟩
/-- row: it returns and the reference says so, or it throws and the reference says so -/
theorem s_row (h : RL B sr la fb rs ss nu fs mo) (hB600 : B ≤ 600) (k : Nat) (hk : 5000 ≤ k) (x : Int32) (t v : Int64) (co : COt) : ∃ o sr' la' rs' ss' fs' co' b mo', f_SR_row k x t v sr la fb rs ss fs co = some (o, sr', la', rs', ss', fs', co') ∧ f_MO_row k x t v mo = some (b, mo') ∧ RL (B + 1) sr' la' fb rs' ss' nu fs' mo' ∧ ((o = some b ∧ MO_thrown mo' = 0) ∨ (o = none ∧ MO_thrown mo' = 1 ∧ sr' = sr ∧ la' = la ∧ rs' = rs ∧ ss' = ss ∧ fs' = fs ∧ co' = co)) := by
  obtain ⟨L, P, T, C, M, ⟨hA, hX, hB, hR, hS, hT, hF, hC, hG, hN⟩, b1, b2, b3⟩ := h
  obtain ⟨mo1, hmo1⟩ : ∃ mo1, mo1 = sMO_thrown mo 0 := ⟨_, rfl⟩
  have hA1 : ST la mo1 := by rw [hmo1]; exact hA
  have hX1 : SX sr mo1 := by rw [hmo1]; exact hX
  have hB1 : FBr fb mo1 := by rw [hmo1]; exact hB
  have hR1 : RR L rs mo1 := by rw [hmo1]; exact hR
  have hS1 : SP P ss mo1 := by rw [hmo1]; exact hS
  have hT1 : BT L P (SS_had ss) (SS_untold ss) (MO_has mo1) (MO_toldOf mo1) := by rw [hmo1]; exact hT
  have hF1 : FR fs mo1 T := by rw [hmo1]; exact hF
  have hC1 : MO_came mo1 = nI C := by rw [hmo1]; exact hC
  have hG1 : MO_kind mo1 = 2 → GP P mo1 := by rw [hmo1]; exact hG
  have hN1 : MO_kind mo1 = 3 → NR nu mo1 L M ∧ P = [] := by rw [hmo1]; exact hN
  have hk1 : MO_kind mo1 = LA_kind la := hA1.1.1
  have hth : MO_thrown mo1 = 0 := by rw [hmo1]
  have stay : RL (B + 1) sr la fb rs ss nu fs mo1 := ⟨L, P, T, C, M, ⟨hA1, hX1, hB1, hR1, hS1, hT1, hF1, hC1, hG1, hN1⟩, by omega, by omega, by omega⟩
  have stay1 : RL (B + 1) sr la fb rs ss nu fs (sMO_thrown mo1 1) := ⟨L, P, T, C, M, ⟨hA1, hX1, hB1, hR1, hS1, hT1, hF1, hC1, hG1, hN1⟩, by omega, by omega, by omega⟩
  unfold f_SR_row f_MO_row f_SR_isKey
  dsimp only [gl_let]
  rw [← hmo1, p_win, p_win]
  have hBt : f_MO_row_B24 mo = f_SR_row_B17 la := by
    unfold f_MO_row_B24 f_SR_row_B17
    rw [show MO_kind mo = LA_kind la from hA.1.1]
  rw [hBt, hk1]
  rcases p_key x with h0 | ⟨q, hq, rfl, h0⟩
  · rw [if_pos h0, if_pos h0]
    exact ⟨_, _, _, _, _, _, _, _, _, rfl, rfl, stay, Or.inl ⟨rfl, hth⟩⟩
  · rw [if_neg h0, if_neg h0]
    by_cases c1 : f_MO_in t (-(f_SR_row_B17 la)) (f_SR_row_B17 la) = 0
    · rw [if_pos c1, if_pos c1]
      exact ⟨_, _, _, _, _, _, _, _, _, rfl, rfl, stay, Or.inl ⟨rfl, hth⟩⟩
    · rw [if_neg c1, if_neg c1]
      have ht0 := p_inIf c1
      have htb : -1000000000000 ≤ t.toInt ∧ t.toInt ≤ 1000000000000 ∧ (LA_kind la = 4 → -100000000 ≤ t.toInt ∧ t.toInt ≤ 100000000) := by
        unfold f_SR_row_B17 at ht0
        by_cases z : LA_kind la = 4
        · rw [if_pos z] at ht0
          rw [show (-100000000 : Int64).toInt = -100000000 from rfl, show (100000000 : Int64).toInt = 100000000 from rfl] at ht0
          exact ⟨by omega, by omega, fun _ => ht0⟩
        · rw [if_neg z] at ht0
          rw [show (-1000000000000 : Int64).toInt = -1000000000000 from rfl, show (1000000000000 : Int64).toInt = 1000000000000 from rfl] at ht0
          exact ⟨by omega, by omega, fun y => absurd y z⟩
      -- the three ways to put
      have layout : LA_kind la ≠ 2 → LA_kind la ≠ 3 → ∃ o sr' la' rs' ss' fs' co' b mo', ((f_SR_putByLayout k (nI q) t v sr la rs ss fs co).bind fun x => some (some x.1, x.2.1, x.2.2.1, x.2.2.2.1, x.2.2.2.2.1, x.2.2.2.2.2.1, x.2.2.2.2.2.2)) = some (o, sr', la', rs', ss', fs', co') ∧ ((f_MO_wantFor k t v mo1).bind fun mo_2 => if MO_kind mo_2 = 2 then (f_MO_gap k (nI q) t v mo_2).bind fun x => some (x.1, x.2) else (f_MO_plain k (nI q) t v mo_2).bind fun x => some (x.1, x.2)) = some (b, mo') ∧ RL (B + 1) sr' la' fb rs' ss' nu fs' mo' ∧ ((o = some b ∧ MO_thrown mo' = 0) ∨ (o = none ∧ MO_thrown mo' = 1 ∧ sr' = sr ∧ la' = la ∧ rs' = rs ∧ ss' = ss ∧ fs' = fs ∧ co' = co)) := by
        intro n2 n3
        obtain ⟨mo2, w1, w2, a, sr', la', rs', ss', fs', co', mo', L', P', T', C', e1, e2, e3, e4, e5, e6, e7, e8, e9, e10, e11, e12, e13, e14, e15⟩ := p_putByLayout k hk hq t v (co := co) (by rw [hk1]; exact n2) (by rw [hk1]; exact n3) htb.1 htb.2.1 (fun z => htb.2.2 (by rw [← hk1]; exact z)) hA1 hX1 hR1 hS1 hT1 hF1 (by omega) hC1 (by omega)
        rw [e1, ob, w1, ob, if_neg (by rw [w2, hk1]; exact n2), e2, ob]
        refine ⟨_, _, _, _, _, _, _, _, _, rfl, rfl, ⟨L', P', T', C', M, ⟨e3, e4, ?_, e5, e6, e7, e8, e10, fun z => ?_, fun z => ?_⟩, by omega, by omega, by omega⟩, Or.inl ⟨rfl, e14.trans hth⟩⟩
        · have h := hB1
          unfold FBr at h ⊢
          rw [e12, e13]
          exact h
        · rw [e15, hk1] at z; exact absurd z n2
        · rw [e15, hk1] at z; exact absurd z n3
      have waits : LA_kind la = 3 → ∃ o sr' la' rs' ss' fs' co' b mo', ((f_SR_putWaiting k (nI q) t v sr rs).bind fun x => some (some x.1, x.2.1, la, x.2.2, ss, fs, co)) = some (o, sr', la', rs', ss', fs', co') ∧ ((f_MO_counted k (nI q) t v mo1).bind fun x => some (x.1, x.2)) = some (b, mo') ∧ RL (B + 1) sr' la' fb rs' ss' nu fs' mo' ∧ ((o = some b ∧ MO_thrown mo' = 0) ∨ (o = none ∧ MO_thrown mo' = 1 ∧ sr' = sr ∧ la' = la ∧ rs' = rs ∧ ss' = ss ∧ fs' = fs ∧ co' = co)) := by
        intro n3
        obtain ⟨hN2, hP⟩ := hN1 (by rw [hk1]; exact n3)
        obtain ⟨a, sr', rs', mo', L', C', e1, e2, e3, e4, e5, e6, e7, e8, e9, e10⟩ := p_putWaiting k hk hq t v hX1 hR1 hN2 hC1 (by omega)
        rw [e1, ob, e2, ob]
        have hk2 : MO_kind mo' = MO_kind mo1 := (moC.get e10).2.2.2.2.2.1
        have hS2 : SP P ss mo' := by
          have e := e8
          unfold moS at e
          injection e with y1 e
          injection e with y2 e
          injection e with y3 e
          injection e with y4 e
          injection e with y5 e
          injection e with y6 e
          injection e with y7 e
          injection e with y8 y9
          have h := hS1
          unfold SP at h ⊢
          rw [y1, y2, y3, y4, y5, y6, y9]
          exact h
        have hA2 : ST la mo' := by have y := hA1.cong e10; exact y
        have hB2 : FBr fb mo' := by have y := hB1.cong e10; exact y
        have hth2 : MO_thrown mo' = MO_thrown mo1 := (moC.get e10).2.2.2.2.2.2.2.1
        refine ⟨_, _, _, _, _, _, _, _, _, rfl, rfl, ⟨L', P, T, C', M, ⟨hA2, e3, hB2, e4, hS2, ?_, hF1.cong e9, e6, fun z => ?_, fun _ => ⟨e5, hP⟩⟩, by omega, by omega, by omega⟩, Or.inl ⟨rfl, hth2.trans hth⟩⟩
        · rw [hP]
          exact ⟨fun p hp => absurd hp (by simp), fun p hp => absurd hp (by simp), fun p hp => absurd hp (by simp), fun p hp => absurd hp (by simp)⟩
        · rw [hk2, hk1, n3] at z
          exact absurd z (by decide)
      have gaps : LA_kind la = 2 → ∃ o sr' la' rs' ss' fs' co' b mo', ((f_SR_putByGap k (nI q) t v sr la rs ss fs co).bind fun x => some (some x.1, x.2.1, la, x.2.2.1, x.2.2.2.1, x.2.2.2.2.1, x.2.2.2.2.2)) = some (o, sr', la', rs', ss', fs', co') ∧ ((f_MO_wantFor k t v mo1).bind fun mo_2 => if MO_kind mo_2 = 2 then (f_MO_gap k (nI q) t v mo_2).bind fun x => some (x.1, x.2) else (f_MO_plain k (nI q) t v mo_2).bind fun x => some (x.1, x.2)) = some (b, mo') ∧ RL (B + 1) sr' la' fb rs' ss' nu fs' mo' ∧ ((o = some b ∧ MO_thrown mo' = 0) ∨ (o = none ∧ MO_thrown mo' = 1 ∧ sr' = sr ∧ la' = la ∧ rs' = rs ∧ ss' = ss ∧ fs' = fs ∧ co' = co)) := by
        intro n2
        have hk2 : MO_kind mo1 = 2 := by rw [hk1]; exact n2
        obtain ⟨mo2, w1, w2, a, sr', rs', ss', fs', co', mo', L', P', T', C', e1, e2, e3, e4, e5, e6, e7, e8, e9, e10, e11, e12, e13, e14, e15, e16⟩ := p_putByGap k hk hq t v (co := co) hk2 htb.1 htb.2.1 hA1 hX1 hR1 hS1 hT1 (hG1 hk2) hF1 (by omega) hC1 (by omega)
        rw [e1, ob, w1, ob, if_pos (by rw [w2, hk2]), e2, ob]
        refine ⟨_, _, _, _, _, _, _, _, _, rfl, rfl, ⟨L', P', T', C', M, ⟨e3, e4, ?_, e5, e6, e7, e9, e11, fun _ => e8, fun z => ?_⟩, by omega, by omega, by omega⟩, Or.inl ⟨rfl, e15.trans hth⟩⟩
        · have h := hB1
          unfold FBr at h ⊢
          rw [e13, e14]
          exact h
        · rw [e16, hk2] at z; exact absurd z (by decide)
      by_cases c5 : LA_kind la = 5
      · rw [if_pos c5, if_pos c5]
        obtain ⟨r, hr, er⟩ : ∃ r : Nat, r < 3 ∧ MO_rule mo1 = nI r := by
          have := hA1.2.2.2.2.2.2.2
          refine ⟨(MO_rule mo1).toInt.toNat, by omega, ?_⟩
          rw [pi_eq, nI_toInt (by omega)]
          omega
        obtain ⟨a, ha, e1, e2⟩ := p_has hB1 k (by omega) r hr v
        rw [hA1.1.2.2.2.2, er, e1, ob, e2, ob]
        rcases ha with rfl | rfl
        · rw [if_pos rfl, if_pos rfl, if_neg (show ¬ LA_kind la = 3 by rw [c5]; decide), if_neg (show ¬ LA_kind la = 3 by rw [c5]; decide), if_neg (show ¬ LA_kind la = 2 by rw [c5]; decide)]
          exact layout (by rw [c5]; decide) (by rw [c5]; decide)
        · rw [if_neg (by decide), if_neg (by decide)]
          exact ⟨_, _, _, _, _, _, _, _, _, rfl, rfl, stay1, Or.inr ⟨rfl, rfl, rfl, rfl, rfl, rfl, rfl, rfl⟩⟩
      · rw [if_neg c5, if_neg c5]
        by_cases c3 : LA_kind la = 3
        · rw [if_pos c3, if_pos c3]
          exact waits c3
        · rw [if_neg c3, if_neg c3]
          by_cases c2 : LA_kind la = 2
          · rw [if_pos c2]
            exact gaps c2
          · rw [if_neg c2]
            exact layout c2 c3
end SIM
