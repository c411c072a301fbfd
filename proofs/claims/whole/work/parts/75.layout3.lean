theorem SX.drop {sr : SRt} {mo : MOt} (h : SX sr mo) : SX (sSR_dropped (sSR_came sr (SR_came sr + 1)) (SR_dropped sr + 1)) (sMO_late (sMO_came mo (MO_came mo + 1)) (MO_late mo + 1)) := by
  obtain ⟨⟨x1, x2, x3, x4, x5, x6, x7⟩, h2⟩ := h
  refine ⟨⟨x1, x2, x3, x4, x5, ?_, ?_⟩, h2⟩
  · show SR_came sr + 1 = MO_came mo + 1
    rw [x6]
  · show SR_dropped sr + 1 = MO_late mo + 1
    rw [x7]
theorem RR.came {L : List (Nat × Nat)} {rs : RSt} {mo mo' : MOt} (h : RR L rs mo) {C : Nat} (hC : MO_came mo = nI C) (hC2 : C < 2000000) (e : (MO_rKey mo', MO_rTime mo', MO_rValue mo', MO_rNumber mo', MO_rCame mo', MO_rows mo') = (MO_rKey mo, MO_rTime mo, MO_rValue mo, MO_rNumber mo, MO_rCame mo, MO_rows mo)) (e2 : MO_came mo' = MO_came mo + 1) : RR L rs mo' := by
  injection e with a1 e
  injection e with a2 e
  injection e with a3 e
  injection e with a4 e
  injection e with a5 a6
  have hlt : MO_came mo < MO_came mo + 1 := by
    rw [hC, nI_1]
    exact nI_lt (by omega) (by omega)
  obtain ⟨h1, h2, h3, h4, h5, h6, h7, h8, h9, h10⟩ := h
  unfold RR
  rw [a1, a2, a3, a4, a5, a6, e2]
  refine ⟨h1, h2, h3, h4, h5, h6, h7, h8, h9, fun p hp => ?_⟩
  have := h10 p hp
  rw [pi_lt] at this hlt ⊢
  omega
theorem p_full {L : List (Nat × Nat)} {rs : RSt} {mo : MOt} (h : RR L rs mo) : (L.length < 300 ∧ f_RS_isFull rs = 0 ∧ ¬ MO_rows mo = 300) ∨ (¬ f_RS_isFull rs = 0 ∧ MO_rows mo = 300) := by
  have hl := h.len
  unfold f_RS_isFull
  rw [h.kept, h.rows]
  by_cases hc : L.length = 300
  · right
    rw [hc, if_neg (by decide)]
    exact ⟨by decide, rfl⟩
  · left
    rw [if_pos (show nI L.length < 300 from nI_lt (a := L.length) (b := 300) (by omega) (by omega))]
    exact ⟨by omega, rfl, fun z => hc ((nI_eq (b := 300) (by omega) (by omega)).mp z)⟩
theorem p_putByLayout (k : Nat) (hk : 5000 ≤ k) {q : Nat} (hq : q < 8) (t v : Int64) {L P : List (Nat × Nat)} {sr : SRt} {la : LAt} {rs : RSt} {ss : SSt} {fs : FSt} {co : COt} {mo : MOt} {T C : Nat} (h2 : MO_kind mo ≠ 2) (h3 : MO_kind mo ≠ 3) (ht1 : -1000000000000 ≤ t.toInt) (ht2 : t.toInt ≤ 1000000000000) (ht4 : MO_kind mo = 4 → -100000000 ≤ t.toInt ∧ t.toInt ≤ 100000000)
    (hA : ST la mo) (hX : SX sr mo) (hR : RR L rs mo) (hS : SP P ss mo) (hB : BT L P (SS_had ss) (SS_untold ss) (MO_has mo) (MO_toldOf mo)) (hF : FR fs mo T) (hT : T + 16 ≤ 4000000) (hC : MO_came mo = nI C) (hC2 : C < 2000000) :
    ∃ mo1 : MOt, f_MO_wantFor k t v mo = some mo1 ∧ MO_kind mo1 = MO_kind mo ∧ ∃ (a : Int32) (sr' : SRt) (la' : LAt) (rs' : RSt) (ss' : SSt) (fs' : FSt) (co' : COt) (mo' : MOt) (L' P' : List (Nat × Nat)) (T' C' : Nat), f_SR_putByLayout k (nI q) t v sr la rs ss fs co = some (a, sr', la', rs', ss', fs', co') ∧ f_MO_plain k (nI q) t v mo1 = some (a, mo') ∧
      ST la' mo' ∧ SX sr' mo' ∧ RR L' rs' mo' ∧ SP P' ss' mo' ∧ BT L' P' (SS_had ss') (SS_untold ss') (MO_has mo') (MO_toldOf mo') ∧ FR fs' mo' T' ∧ T' ≤ T + 16 ∧ MO_came mo' = nI C' ∧ C' ≤ C + 1 ∧ (MO_bad mo' = MO_bad mo ∧ MO_forbidden mo' = MO_forbidden mo ∧ MO_thrown mo' = MO_thrown mo ∧ MO_kind mo' = MO_kind mo) := by
  obtain ⟨la1, mo1, n, s1, s2, s3, s4, s5, s6⟩ := p_seek k (by omega) hA t v h2 h3 ht1 ht2 ht4
  have hA1 := hA.x s4 s5
  obtain ⟨ww, wb, we, rfl⟩ := s5
  obtain ⟨l1, l2, l3, l4⟩ := s3
  obtain ⟨mo1, hmo1⟩ : ∃ mo1, mo1 = sMO_wEnd (sMO_wBegin (sMO_wanted mo ww) wb) we := ⟨_, rfl⟩
  have hX1 : SX sr mo1 := by rw [hmo1]; exact hX
  have hR1 : RR L rs mo1 := by rw [hmo1]; exact hR
  have hS1 : SP P ss mo1 := by rw [hmo1]; exact hS
  have hB1 : BT L P (SS_had ss) (SS_untold ss) (MO_has mo1) (MO_toldOf mo1) := by rw [hmo1]; exact hB
  have hF1 : FR fs mo1 T := by rw [hmo1]; exact hF
  have hC1 : MO_came mo1 = nI C := by rw [hmo1]; exact hC
  have hk1 : MO_kind mo1 = MO_kind mo ∧ MO_bad mo1 = MO_bad mo ∧ MO_forbidden mo1 = MO_forbidden mo ∧ MO_thrown mo1 = MO_thrown mo := by rw [hmo1]; exact ⟨rfl, rfl, rfl, rfl⟩
  rw [← hmo1] at s2 hA1 l2 l4
  have hW : ∃ W : List (Int64 × Int64), W.length = n ∧ LL (LA_begins la1) (LA_ends la1) W ∧ LL (MO_wBegin mo1) (MO_wEnd mo1) W ∧ (∀ w ∈ W, wok w) ∧ W.Nodup := by
    refine ⟨(List.range n).map (fun i => (LA_begins la1 i, LA_ends la1 i)), by simp, ?_, ?_, ?_, ?_⟩
    · intro i w hw
      rw [List.getElem?_map] at hw
      by_cases hi : i < n
      · rw [List.getElem?_range hi] at hw
        have := Option.some.inj hw
        rw [← this]
        exact ⟨rfl, rfl⟩
      · rw [List.getElem?_eq_none (by simp; omega)] at hw
        exact absurd hw (by simp)
    · intro i w hw
      rw [List.getElem?_map] at hw
      by_cases hi : i < n
      · rw [List.getElem?_range hi] at hw
        have := Option.some.inj hw
        rw [← this]
        obtain ⟨z1, z2, -⟩ := l4 i hi
        exact ⟨z1.symm, z2.symm⟩
      · rw [List.getElem?_eq_none (by simp; omega)] at hw
        exact absurd hw (by simp)
    · intro w hw
      obtain ⟨i, hi, rfl⟩ := List.mem_map.mp hw
      obtain ⟨-, -, z1, z2, z3, z4⟩ := l4 i (List.mem_range.mp hi)
      exact ⟨⟨z1, z2⟩, ⟨z3, z4⟩⟩
    · unfold List.Nodup
      rw [List.pairwise_map]
      refine List.pairwise_lt_range.imp_of_mem ?_
      intro i j hi hj hij e
      rcases s6 with rfl | s6
      · have := List.mem_range.mp hj
        omega
      · have := p_slideInc k hA t ht1 ht2 s6 n l3 l1 i j hij (List.mem_range.mp hj)
        have e1 : LA_begins la1 i = LA_begins la1 j := congrArg Prod.fst e
        rw [e1] at this
        omega
  obtain ⟨W, hn, w1, w2, w3, w4⟩ := hW
  rw [← hn] at l1 l2 l3
  have hbound : SR_theMark sr - SR_lateBy sr = MO_now mo1 - MO_lateness mo1 := by rw [hX1.1.2.1, hX1.1.1]
  obtain ⟨kb, ke, k1, k2⟩ := p_keep k hk (MO_now mo1 - MO_lateness mo1) l1 l3 w1
  have hkf : (fun w : Int64 × Int64 => decide (¬ w.2 ≤ MO_now mo1 - MO_lateness mo1)) = kpw mo1 := rfl
  rw [hkf] at k1 k2
  have hlk : (W.filter (kpw mo1)).length ≤ 16 := Nat.le_trans (List.length_filter_le _ _) l3
  obtain ⟨la2, hla2⟩ : ∃ la2, la2 = sLA_found (sLA_ends (sLA_begins la1 kb) ke) (nI (W.filter (kpw mo1)).length) := ⟨_, rfl⟩
  have hf2 : LA_found la2 = nI (W.filter (kpw mo1)).length := by rw [hla2]
  have hl2 : LL (LA_begins la2) (LA_ends la2) (W.filter (kpw mo1)) := by rw [hla2]; exact k2
  have hA2 : ST la2 mo1 := by rw [hla2]; exact hA1
  have p9 := p_plainL9 k hk hS1 hX1 hq W [] k 0 0 (by omega) l2 l3 w2 w3
  rw [List.length_nil, nI_0, Nat.zero_add, Nat.zero_add] at p9
  refine ⟨mo1, s2, hk1.1, ?_⟩
  unfold f_SR_putByLayout f_MO_plain
  rw [s1, ob, hbound, k1, ob, ← hla2, hf2, p9, ob]
  dsimp only
  have frame : ∀ {mo' : MOt}, MO_bad mo' = MO_bad mo1 ∧ MO_forbidden mo' = MO_forbidden mo1 ∧ MO_thrown mo' = MO_thrown mo1 ∧ MO_kind mo' = MO_kind mo1 → (MO_bad mo' = MO_bad mo ∧ MO_forbidden mo' = MO_forbidden mo ∧ MO_thrown mo' = MO_thrown mo ∧ MO_kind mo' = MO_kind mo) := fun h => ⟨h.1.trans hk1.2.1, h.2.1.trans hk1.2.2.1, h.2.2.1.trans hk1.2.2.2, h.2.2.2.trans hk1.1⟩
  by_cases c0 : (W.filter (kpw mo1)).length = 0
  · rw [c0, if_pos nI_0, if_pos nI_0]
    dsimp only [gl_let, f_SR_dropLate, f_MO_drop]
    refine ⟨_, _, _, _, _, _, _, _, L, P, T, C + 1, rfl, rfl, hA2, hX1.drop, hR1.came hC1 hC2 rfl rfl, hS1, hB1, hF1, by omega, ?_, Nat.le_refl _, frame ⟨rfl, rfl, rfl, rfl⟩⟩
    show MO_came mo1 + 1 = _
    rw [hC1, nI_1]
  · have hz : ¬ nI (W.filter (kpw mo1)).length = 0 := fun z => c0 ((nI_eq (b := 0) (by omega) (by omega)).mp z)
    rw [if_neg hz, if_neg hz]
    rcases p_full hR1 with ⟨f1, f2, f3⟩ | ⟨f2, f3⟩
    · rw [if_pos f2, if_neg f3]
      have pn := p_newOnesL k hk hS1 hq (la := la2) (W.filter (kpw mo1)) [] k 0 (by omega) hf2 hlk hl2
      rw [List.length_nil, nI_0, Nat.zero_add] at pn
      unfold f_SR_newOnes
      rw [pn, ob, ob, hS1.kept, hS1.spans, nI_add]
      have hl3 := hS1.len
      have hl4 : ((W.filter (kpw mo1)).filter (nwb P mo1 q)).length ≤ 16 := Nat.le_trans (List.length_filter_le _ _) hlk
      by_cases c1 : P.length + ((W.filter (kpw mo1)).filter (nwb P mo1 q)).length ≤ 200
      · have c1' : nI (P.length + ((W.filter (kpw mo1)).filter (nwb P mo1 q)).length) ≤ 200 := nI_le (b := 200) c1 (by omega)
        rw [if_pos c1', if_pos c1']
        obtain ⟨c, r, A, B, rs', mo2, x1, x2, x3, x4, x5, x6, x7, x8, x9, x10, x11, x12, -⟩ := p_addRow k hk hq t v hR1 f1 hC1 hC2
        rw [x6, ob, x7, ob]
        dsimp only [gl_let]
        obtain ⟨b1, b2⟩ := hB1.addRow x1 x2 x3 x4 x5
        obtain ⟨mo3, hmo3⟩ : ∃ mo3, mo3 = sMO_came mo2 (MO_came mo2 + 1) := ⟨_, rfl⟩
        rw [← hmo3] at x8 x9 ⊢
        have hC3 : MO_came mo3 = nI (C + 1) := by
          rw [hmo3]
          show MO_came mo2 + 1 = _
          rw [x10, hC1, nI_1]
        have hh3 : MO_has mo3 = MO_has mo1 ∧ MO_toldOf mo3 = MO_toldOf mo1 := by rw [hmo3]; exact ⟨x11, x12⟩
        obtain ⟨f1', f2', f3', f4', f5', nn, mm, hfr⟩ := x9
        have hS3 : SP P ss mo3 := by rw [hfr]; exact hS1
        have hF3 : FR fs mo3 T := by rw [hfr]; exact hF1
        have hA3 : ST la2 mo3 := by rw [hfr]; exact hA2
        have hmm : mm = MO_came mo1 + 1 := by
          have : MO_came mo3 = mm := by rw [hfr]
          rw [← this, hC3, hC1, nI_1]
        have hX3 : SX (sSR_came sr (SR_came sr + 1)) mo3 := by
          rw [hfr, hmm]
          obtain ⟨⟨z1, z2, z3, z4, z5, z6, z7⟩, z8⟩ := hX1
          refine ⟨⟨z1, z2, z3, z4, z5, ?_, z7⟩, z8⟩
          show SR_came sr + 1 = MO_came mo1 + 1
          rw [z6]
        have hw3 : MO_wanted mo3 = MO_wanted mo1 ∧ MO_wBegin mo3 = MO_wBegin mo1 ∧ MO_wEnd mo3 = MO_wEnd mo1 ∧ kpw mo3 = kpw mo1 := by rw [hfr]; exact ⟨rfl, rfl, rfl, rfl⟩
        have hnw : nwb P mo3 q = nwb P mo1 q := by rw [hfr]; rfl
        have hk3 : MO_bad mo3 = MO_bad mo1 ∧ MO_forbidden mo3 = MO_forbidden mo1 ∧ MO_thrown mo3 = MO_thrown mo1 ∧ MO_kind mo3 = MO_kind mo1 := by rw [hfr]; exact ⟨rfl, rfl, rfl, rfl⟩
        obtain ⟨ss', fs', co', mo', P', T', e1, e2, e3, e4, e5, e6, e7, e8⟩ := p_plainLoop k hk hq (la := la2) hX3 (c := c) (r := r) (L := A ++ (c, r) :: B) (by simp) W [] [] k k ss fs co mo3 P T (by omega) (by omega) rfl (by rw [hw3.1]; exact l2) l3 (by rw [hw3.2.1, hw3.2.2.1]; exact w2) w3 (by rw [hw3.2.2.2]; exact hf2) (by rw [hw3.2.2.2]; exact hlk) (by rw [hw3.2.2.2]; exact hl2) (by rw [hw3.2.2.2]; exact w4.filter _) x8 hS3 (by rw [hh3.1, hh3.2]; exact b1) hF3 (by omega) (by rw [hw3.2.2.2, hnw]; exact c1) (fun p hp z => absurd (by rw [hh3.1]; exact b2 p hp) z)
        rw [List.length_nil, nI_0] at e1 e2
        rw [e1, ob, e2, ob]
        have hk4 : MO_bad mo' = MO_bad mo3 ∧ MO_forbidden mo' = MO_forbidden mo3 ∧ MO_thrown mo' = MO_thrown mo3 ∧ MO_kind mo' = MO_kind mo3 := by
          have e := e8
          unfold moC at e
          injection e with y1 e
          injection e with y2 e
          injection e with y3 y4
          injection y1 with z1 y1
          injection y2 with u1 y2
          injection y2 with u2 y2
          injection y2 with u3 y2
          injection y2 with u4 y2
          injection y2 with u5 u6
          injection y3 with v1 y3
          injection y3 with v2 y3
          injection y3 with v3 v4
          exact ⟨u5, u4, v4, z1⟩
        refine ⟨_, _, _, _, _, _, _, mo', A ++ (c, r) :: B, P', T', C + 1, rfl, rfl, hA3.cong e8, hX3.cong e8, e3, e4, e5, e6, by omega, ?_, Nat.le_refl _, frame ⟨hk4.1.trans hk3.1, hk4.2.1.trans hk3.2.1, hk4.2.2.1.trans hk3.2.2.1, hk4.2.2.2.trans hk3.2.2.2⟩⟩
        rw [(moC.get e8).2.2.2.2.2.2.1, hC3]
      · have c1' : ¬ nI (P.length + ((W.filter (kpw mo1)).filter (nwb P mo1 q)).length) ≤ 200 := nI_ge (a := 200) (by omega) (by omega)
        rw [if_neg c1', if_neg c1']
        exact ⟨_, _, _, _, _, _, _, mo1, L, P, T, C, rfl, rfl, hA2, hX1, hR1, hS1, hB1, hF1, by omega, hC1, by omega, frame ⟨rfl, rfl, rfl, rfl⟩⟩
    · rw [if_neg f2, if_pos f3]
      exact ⟨_, _, _, _, _, _, _, mo1, L, P, T, C, rfl, rfl, hA2, hX1, hR1, hS1, hB1, hF1, by omega, hC1, by omega, frame ⟨rfl, rfl, rfl, rfl⟩⟩
