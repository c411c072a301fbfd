theorem upd_same (f : Nat → Int32) {s : Nat} {x : Int32} (h : f s = x) : upd f s x = f := by
  funext j
  by_cases e : j = s
  · rw [e, pk_us, h]
  · rw [pk_un e]
theorem updL_same (f : Nat → Int64) {s : Nat} {x : Int64} (h : f s = x) : vp_updL f s x = f := by
  funext j
  by_cases e : j = s
  · rw [e, pk_uLs, h]
  · rw [pk_uLn e]
theorem GP.put {P : List (Nat × Nat)} {ss : SSt} {mo mo' : MOt} (hG : GP P mo) (hS : SP P ss mo) {p0 : Nat × Nat} (hp0 : p0 ∈ P) {r : Nat} (hr : r < 300) (h0 : ∀ p ∈ P, MO_has mo (300 * p.2 + r) = 0) (e1 : MO_sKey mo' = MO_sKey mo) (e2 : MO_sBegin mo' = MO_sBegin mo) (e3 : MO_sEnd mo' = MO_sEnd mo) (e4 : MO_has mo' = upd (MO_has mo) (300 * p0.2 + r) 1) : GP P mo' := by
  obtain ⟨g1, g2, g3⟩ := hG
  unfold GP
  rw [e1, e2, e3, e4]
  refine ⟨g1, g2, fun p hp q hq hne x hx => ?_⟩
  by_cases e : x = r
  · subst e
    rcases hS.sep hp0 hp with z | ⟨_, z⟩
    · rcases hS.sep hp0 hq with y | ⟨_, y⟩
      · exact absurd (z.trans y.symm) hne
      · right
        rw [pk_un (by omega)]
        exact h0 q hq
    · left
      rw [pk_un (by omega)]
      exact h0 p hp
  · rw [pk_un (by omega), pk_un (by omega)]
    exact g3 p hp q hq hne x hx
theorem p_putByGap (k : Nat) (hk : 5000 ≤ k) {q : Nat} (hq : q < 8) (t v : Int64) {L P : List (Nat × Nat)} {sr : SRt} {la : LAt} {rs : RSt} {ss : SSt} {fs : FSt} {co : COt} {mo : MOt} {T C : Nat} (h2 : MO_kind mo = 2) (ht1 : -1000000000000 ≤ t.toInt) (ht2 : t.toInt ≤ 1000000000000)
    (hA : ST la mo) (hX : SX sr mo) (hR : RR L rs mo) (hS : SP P ss mo) (hB : BT L P (SS_had ss) (SS_untold ss) (MO_has mo) (MO_toldOf mo)) (hG : GP P mo) (hF : FR fs mo T) (hT : T + 1 ≤ 4000000) (hC : MO_came mo = nI C) (hC2 : C < 2000000) :
    ∃ mo1 : MOt, f_MO_wantFor k t v mo = some mo1 ∧ MO_kind mo1 = MO_kind mo ∧ ∃ (a : Int32) (sr' : SRt) (rs' : RSt) (ss' : SSt) (fs' : FSt) (co' : COt) (mo' : MOt) (L' P' : List (Nat × Nat)) (T' C' : Nat), f_SR_putByGap k (nI q) t v sr la rs ss fs co = some (a, sr', rs', ss', fs', co') ∧ f_MO_gap k (nI q) t v mo1 = some (a, mo') ∧
      ST la mo' ∧ SX sr' mo' ∧ RR L' rs' mo' ∧ SP P' ss' mo' ∧ BT L' P' (SS_had ss') (SS_untold ss') (MO_has mo') (MO_toldOf mo') ∧ GP P' mo' ∧ FR fs' mo' T' ∧ T' ≤ T + 1 ∧ MO_came mo' = nI C' ∧ C' ≤ C + 1 ∧ (MO_bad mo' = MO_bad mo ∧ MO_forbidden mo' = MO_forbidden mo ∧ MO_thrown mo' = MO_thrown mo ∧ MO_kind mo' = MO_kind mo) := by
  obtain ⟨⟨a1, a2, a3, a4, a5⟩, ⟨k1, k2⟩, ⟨z1, z2⟩, -⟩ := id hA
  have k0 : (0 : Int32).toNatClampNeg = 0 := rfl
  obtain ⟨e, hee⟩ : ∃ e : Int64, e = t + (MO_size mo).toInt64 := ⟨_, rfl⟩
  have hei : e.toInt = t.toInt + (MO_size mo).toInt := by rw [hee, pl_add (by rw [pi_l]; omega) (by rw [pi_l]; omega), pi_l]
  have hte : t < e := by rw [pl_lt]; omega
  obtain ⟨wb, hwb⟩ : ∃ wb, wb = vp_updL (MO_wBegin mo) 0 t := ⟨_, rfl⟩
  obtain ⟨we, hwe⟩ : ∃ we, we = vp_updL (MO_wEnd mo) 0 e := ⟨_, rfl⟩
  obtain ⟨mo1, hmo1⟩ : ∃ mo1, mo1 = sMO_wEnd (sMO_wBegin (sMO_wanted mo 1) wb) we := ⟨_, rfl⟩
  have hwant : f_MO_wantFor k t v mo = some mo1 := by
    unfold f_MO_wantFor
    rw [h2, if_neg (by decide), if_neg (by decide), if_pos rfl]
    dsimp only [gl_let]
    rw [p_bindsome, ← hee, hmo1, hwb, hwe]
    rfl
  have hX1 : SX sr mo1 := by rw [hmo1]; exact hX
  have hA1 : ST la mo1 := by rw [hmo1]; exact hA
  have hR1 : RR L rs mo1 := by rw [hmo1]; exact hR
  have hS1 : SP P ss mo1 := by rw [hmo1]; exact hS
  have hB1 : BT L P (SS_had ss) (SS_untold ss) (MO_has mo1) (MO_toldOf mo1) := by rw [hmo1]; exact hB
  have hG1 : GP P mo1 := by rw [hmo1]; exact hG
  have hF1 : FR fs mo1 T := by rw [hmo1]; exact hF
  have hC1 : MO_came mo1 = nI C := by rw [hmo1]; exact hC
  have hwb1 : MO_wBegin mo1 0 = t := by rw [hmo1]; show wb 0 = t; rw [hwb, pk_uLs]
  have hwe1 : MO_wEnd mo1 0 = e := by rw [hmo1]; show we 0 = e; rw [hwe, pk_uLs]
  have hk1 : MO_bad mo1 = MO_bad mo ∧ MO_forbidden mo1 = MO_forbidden mo ∧ MO_thrown mo1 = MO_thrown mo ∧ MO_kind mo1 = MO_kind mo := by rw [hmo1]; exact ⟨rfl, rfl, rfl, rfl⟩
  have frame : ∀ {mo' : MOt}, MO_bad mo' = MO_bad mo1 ∧ MO_forbidden mo' = MO_forbidden mo1 ∧ MO_thrown mo' = MO_thrown mo1 ∧ MO_kind mo' = MO_kind mo1 → (MO_bad mo' = MO_bad mo ∧ MO_forbidden mo' = MO_forbidden mo ∧ MO_thrown mo' = MO_thrown mo ∧ MO_kind mo' = MO_kind mo) := fun h => ⟨h.1.trans hk1.1, h.2.1.trans hk1.2.1, h.2.2.1.trans hk1.2.2.1, h.2.2.2.trans hk1.2.2.2⟩
  refine ⟨mo1, hwant, hk1.2.2.2, ?_⟩
  have hlen := hS1.len
  -- the questions
  obtain ⟨b', e', g1, g2, g3⟩ := p_gapL22 mo1 q hwb1 hwe1 200 k 0 t e (by omega) (by omega) ⟨by simp, fun y hy => by simp [shw] at hy; rw [hy, pl_le]; omega⟩ ⟨by simp, fun y hy => by simp [shw] at hy; rw [hy, pl_le]; omega⟩
  rw [show (shw mo1 q t e 0).length = 0 from rfl, nI_0] at g1
  have hperm := shw_perm hS1 hq t e
  have hWP : ∀ w ∈ shw mo1 q t e 200, ∃ p ∈ P, p.2 = w ∧ shp mo1 q t e p = true := by
    intro w hw
    obtain ⟨p, hp, e⟩ := List.mem_map.mp (hperm.mem_iff.mp hw)
    obtain ⟨h1, h2⟩ := List.mem_filter.mp hp
    exact ⟨p, h1, e, h2⟩
  have hPW : ∀ p ∈ P, shp mo1 q t e p = true → p.2 ∈ shw mo1 q t e 200 := fun p hp hs => hperm.mem_iff.mpr (List.mem_map_of_mem (List.mem_filter.mpr ⟨hp, hs⟩))
  obtain ⟨j, j1, j2⟩ := p_joinedL hS1 q t e P [] k e rfl (by omega) ⟨by simp, fun y hy => by simp at hy; rw [hy, pl_le]; omega⟩
  rw [List.length_nil, nI_0] at j1
  have hje : j = e' := by
    refine isMx_eq ?_ j2 g3
    intro z
    rw [List.mem_cons, List.mem_cons, List.mem_map, List.mem_map]
    constructor
    · rintro (y | ⟨p, hp, y⟩)
      · exact Or.inl y
      · obtain ⟨h1, h2⟩ := List.mem_filter.mp hp
        exact Or.inr ⟨p.2, hPW p h1 h2, y⟩
    · rintro (y | ⟨w, hw, y⟩)
      · exact Or.inl y
      · obtain ⟨p, hp, e2, hs⟩ := hWP w hw
        exact Or.inr ⟨p, List.mem_filter.mpr ⟨hp, hs⟩, by rw [e2]; exact y⟩
  have hsh := p_sharingL hS1 q t e P [] k 0 rfl (by omega)
  rw [List.length_nil, nI_0, Nat.zero_add] at hsh
  have hWl : (shw mo1 q t e 200).length = (P.filter (shp mo1 q t e)).length := by rw [hperm.length_eq, List.length_map]
  have hQl : (P.filter (shp mo1 q t e)).length ≤ P.length := List.length_filter_le _ _
  rw [hWl] at g1
  unfold f_SR_putByGap f_MO_gap
  dsimp only [gl_let]
  rw [k0, hwb1, hwe1, a2, ← hee, g1, ob]
  unfold f_SS_joinedEnd
  rw [j1, ob, ob, hje]
  dsimp only
  have hgone : f_SR_isGone e' sr = 0 ↔ MO_now mo1 < e' + MO_lateness mo1 := by
    unfold f_SR_isGone
    rw [hX1.1.2.1, hX1.1.1]
    by_cases z : MO_now mo1 < e' + MO_lateness mo1
    · rw [if_pos z]; exact ⟨fun _ => z, fun _ => rfl⟩
    · rw [if_neg z]; exact ⟨fun y => absurd y (by decide), fun y => absurd y z⟩
  by_cases c0 : MO_now mo1 < e' + MO_lateness mo1
  · rw [if_pos (hgone.mpr c0), if_pos c0]
    rcases p_full hR1 with ⟨f1, f2, f3⟩ | ⟨f2, f3⟩
    · rw [if_pos f2, if_neg f3]
      unfold f_SS_sharing
      rw [hsh, ob, ob, hS1.kept, hS1.spans, pk_sub hQl, nI_1]
      by_cases c1 : P.length - (P.filter (shp mo1 q t e)).length < 200
      · rw [if_pos (show nI (P.length - (P.filter (shp mo1 q t e)).length) < 200 from nI_lt (b := 200) c1 (by omega)), if_pos (show nI (P.length - (P.filter (shp mo1 q t e)).length + 1) ≤ 200 from nI_le (b := 200) (by omega) (by omega))]
        obtain ⟨c, r, A, B, rs', mo2, x1, x2, x3, x4, x5, x6, x7, x8, x9, x10, x11, x12, -⟩ := p_addRow k hk hq t v hR1 f1 hC1 hC2
        rw [x7, ob]
        dsimp only
        obtain ⟨mo3, hmo3⟩ : ∃ mo3, mo3 = sMO_came mo2 (MO_came mo2 + 1) := ⟨_, rfl⟩
        rw [← hmo3] at x8 x9 ⊢
        have hC3 : MO_came mo3 = nI (C + 1) := by
          rw [hmo3]
          show MO_came mo2 + 1 = _
          rw [x10, hC1, nI_1]
        obtain ⟨f1', f2', f3', f4', f5', nn, mm, hfr⟩ := x9
        have hS3 : SP P ss mo3 := by rw [hfr]; exact hS1
        have hF3 : FR fs mo3 T := by rw [hfr]; exact hF1
        have hA3 : ST la mo3 := by rw [hfr]; exact hA1
        have hB3 : BT L P (SS_had ss) (SS_untold ss) (MO_has mo3) (MO_toldOf mo3) := by rw [hfr]; exact hB1
        have hG3 : GP P mo3 := by rw [hfr]; exact hG1
        have hmm : mm = MO_came mo1 + 1 := by
          have : MO_came mo3 = mm := by rw [hfr]
          rw [← this, hC3, hC1, nI_1]
        have hX3 : SX (sSR_came sr (SR_came sr + 1)) mo3 := by
          rw [hfr, hmm]
          obtain ⟨⟨y1, y2, y3, y4, y5, y6, y7⟩, y8⟩ := hX1
          refine ⟨⟨y1, y2, y3, y4, y5, ?_, y7⟩, y8⟩
          show SR_came sr + 1 = MO_came mo1 + 1
          rw [y6]
        have hw3 : MO_wBegin mo3 0 = t ∧ MO_wEnd mo3 0 = e := by rw [hfr]; exact ⟨hwb1, hwe1⟩
        have hsw : shw mo3 q t e 200 = shw mo1 q t e 200 ∧ MO_sBegin mo3 = MO_sBegin mo1 ∧ MO_sEnd mo3 = MO_sEnd mo1 ∧ shp mo3 q t e = shp mo1 q t e ∧ MO_now mo3 = MO_now mo1 := by rw [hfr]; exact ⟨rfl, rfl, rfl, rfl, rfl⟩
        have hk3 : MO_bad mo3 = MO_bad mo1 ∧ MO_forbidden mo3 = MO_forbidden mo1 ∧ MO_thrown mo3 = MO_thrown mo1 ∧ MO_kind mo3 = MO_kind mo1 := by rw [hfr]; exact ⟨rfl, rfl, rfl, rfl⟩
        have hcr : (c, r) ∈ A ++ (c, r) :: B := by simp
        -- the put, for a span and states that agree
        have fin : ∀ (aa m : Nat) (P' : List (Nat × Nat)) (ss2 : SSt) (mo5 : MOt), (aa, m) ∈ P' → SP P' ss2 mo5 → BT (A ++ (c, r) :: B) P' (SS_had ss2) (SS_untold ss2) (MO_has mo5) (MO_toldOf mo5) → (∀ p ∈ P', MO_has mo5 (300 * p.2 + r) = 0) → GP P' mo5 → moC mo5 = moC mo3 → moR mo5 = moR mo3 → moF mo5 = moF mo3 →
            ∃ (a : Int32) (sr' : SRt) (rs'' : RSt) (ss' : SSt) (fs' : FSt) (co' : COt) (mo' : MOt) (L' P'' : List (Nat × Nat)) (T' C' : Nat), ((f_SR_putAndFire k (nI aa) (nI c) (sSR_came sr (SR_came sr + 1)) rs' ss2 fs co).bind fun x => some ((1 : Int32), sSR_came sr (SR_came sr + 1), rs', x.1, x.2.1, x.2.2)) = some (a, sr', rs'', ss', fs', co') ∧ ((f_MO_putInto k (nI m) (nI r) mo5).bind fun mo_10 => some ((1 : Int32), mo_10)) = some (a, mo') ∧
              ST la mo' ∧ SX sr' mo' ∧ RR L' rs'' mo' ∧ SP P'' ss' mo' ∧ BT L' P'' (SS_had ss') (SS_untold ss') (MO_has mo') (MO_toldOf mo') ∧ GP P'' mo' ∧ FR fs' mo' T' ∧ T' ≤ T + 1 ∧ MO_came mo' = nI C' ∧ C' ≤ C + 1 ∧ (MO_bad mo' = MO_bad mo ∧ MO_forbidden mo' = MO_forbidden mo ∧ MO_thrown mo' = MO_thrown mo ∧ MO_kind mo' = MO_kind mo) := by
          intro aa m P' ss2 mo5 hm hs5 hb5 h05 hg5 hc5 hr5 hf5
          obtain ⟨ss', fs', co', mo', T', y1, y2, y3, y4, y5, y6, y7, y8, y9, ⟨w1, w2, w3, w4⟩⟩ := p_putFire k hk (sr := sSR_came sr (SR_came sr + 1)) co (x8.cong hr5) hs5 hb5 (hF3.cong hf5) hT (hX3.cong hc5) hm hcr (h05 _ hm)
          dsimp only at y1 y2
          rw [y1, ob, y2, ob]
          have hc6 : moC mo' = moC mo3 := y8.trans hc5
          have hk6 : MO_bad mo' = MO_bad mo3 ∧ MO_forbidden mo' = MO_forbidden mo3 ∧ MO_thrown mo' = MO_thrown mo3 ∧ MO_kind mo' = MO_kind mo3 := by
            have e := hc6
            unfold moC at e
            injection e with y1 e
            injection e with y2 e
            injection e with y3 y4
            injection y1 with z1 y1
            injection y2 with u1 y2
            injection y2 with u2 y2
            injection y2 with u3 y2
            injection y2 with u4 y2
            injection y2 with u5 u6
            injection y3 with v1 y3
            injection y3 with v2 y3
            injection y3 with v3 v4
            exact ⟨u5, u4, v4, z1⟩
          refine ⟨_, _, _, _, _, _, mo', A ++ (c, r) :: B, P', T', C + 1, rfl, rfl, hA3.cong hc6, hX3.cong hc6, y3, y4, y5, hg5.put hs5 hm x3 h05 w1 w2 w3 w4, y6, y7, ?_, Nat.le_refl _, frame ⟨hk6.1.trans hk3.1, hk6.2.1.trans hk3.2.1, hk6.2.2.1.trans hk3.2.2.1, hk6.2.2.2.trans hk3.2.2.2⟩⟩
          rw [(moC.get hc6).2.2.2.2.2.2.1, hC3]
        by_cases hQ : P.filter (shp mo1 q t e) = []
        · -- a new span
          obtain ⟨jv, jE, jF, jS, jD, jH, jU, jK, q1, q2⟩ := p_joinL k hk hS1 q t e P [] k (-1) (SS_ends ss) (SS_fires ss) (SS_since ss) (SS_ended ss) (SS_had ss) (SS_untold ss) (SS_keys ss) rfl (by omega) (Or.inl ⟨rfl, rfl, rfl⟩)
          rw [List.length_nil, nI_0, show js ss (SS_ends ss) (SS_fires ss) (SS_since ss) (SS_ended ss) (SS_had ss) (SS_untold ss) (SS_keys ss) = ss from rfl] at q1
          rcases q2 with ⟨_, q2, q3⟩ | ⟨p0, V', z, _⟩
          · rw [q2, q3] at q1
            have hW0 : shw mo1 q t e 200 = [] := by
              have : (shw mo1 q t e 200).length = 0 := by rw [hWl, hQ]; rfl
              exact List.length_eq_zero_iff.mp this
            have hb't : b' = t := by
              rw [hW0] at g2
              have := g2.1
              simpa using this
            have he'e : e' = e := by
              rw [hW0] at g3
              have := g3.1
              simpa using this
            obtain ⟨rv, rHa, rTl, rF, rS, rD, rK, rn, u1, u2⟩ := p_gapL212 k hk mo3 q hw3.1 hw3.2 P.length hS3.spans
              (fun s hs h => by
                have : s ∈ shw mo3 q t e 200 := List.mem_filter.mpr ⟨List.mem_range.mpr hs, h⟩
                rw [hsw.1, hW0] at this
                exact absurd this (by simp))
              (fun s s' hs _ _ h _ => by
                have : s ∈ shw mo3 q t e 200 := List.mem_filter.mpr ⟨List.mem_range.mpr hs, h⟩
                rw [hsw.1, hW0] at this
                exact absurd this (by simp))
              (by rw [hsw.1, hW0]; simp)
              200 k 0 (-1) (MO_has mo3) (MO_toldOf mo3) (MO_sFired mo3) (MO_sPut mo3) (MO_sEnded mo3) (MO_sKey mo3) (MO_spans mo3) (by omega) (by omega) (Or.inl ⟨rfl, rfl, rfl⟩)
            rw [nI_0, show jm mo3 (MO_has mo3) (MO_toldOf mo3) (MO_sFired mo3) (MO_sPut mo3) (MO_sEnded mo3) (MO_sKey mo3) (MO_spans mo3) = mo3 from rfl] at u1
            rcases u2 with ⟨_, u2, u3⟩ | ⟨m, W', z, _⟩
            · rw [u2, u3] at u1
              obtain ⟨b1, b2⟩ := hB3.addRow x1 x2 x3 x4 x5
              have hnew : ∀ p ∈ P, ¬ mtc mo3 (nI q) t e p.2 := by
                intro p hp hm
                have : p ∈ P.filter (shp mo1 q t e) := by
                  rw [← hsw.2.2.2.1]
                  exact List.mem_filter.mpr ⟨hp, shs_iff.mpr ⟨hm.1, by rw [hm.2.1]; exact hte, by rw [hm.2.2]; exact hte⟩⟩
                rw [hQ] at this
                exact absurd this (by simp)
              obtain ⟨c', s', A', B', ss1, mo4, w1, w2, w3, w4, w5, w6, w7, w8, w9, w10, w11, w12, w13, w14, w15, w16, w17, w18, w19⟩ := p_newSpan k hk hq t e (by omega) (by omega) x8 hS3 b1 (by rw [hQ] at c1; simpa using c1) hnew
              have hm' : (c', s') ∈ A' ++ (c', s') :: B' := by simp
              have hcls : f_SS_join k (nI q) t e ss = some (nI c', ss1) := by
                unfold f_SS_join
                rw [q1, ob]
                dsimp only
                rw [if_pos rfl, w6, ob]
              have hen : SS_ended ss1 c' = 0 := (w8.eqs (c', s') hm').2.2.2.2.2.trans w19
              rw [hcls, ob, u1, ob]
              dsimp only
              rw [if_neg (nI_in w2 (by omega))]
              unfold f_SR_putByGap_B99 f_MO_gap_B295
              rw [nI_clamp (show c' < 2 ^ 31 by omega), if_pos rfl, hb't, he'e, w7, ob, ob]
              dsimp only
              rw [if_neg (nI_in w3 (by omega)), nI_clamp (show s' < 2 ^ 31 by omega), updL_same (MO_sBegin mo4) w17, updL_same (MO_sEnd mo4) w18]
              have hst : sMO_sEnd (sMO_sBegin mo4 (MO_sBegin mo4)) (MO_sEnd mo4) = mo4 := rfl
              rw [hst]
              have hB34 : f_MO_gap_B340 e (nI s') mo4 mo4 = 0 := by
                unfold f_MO_gap_B340
                rw [nI_clamp (show s' < 2 ^ 31 by omega), if_pos w19]
              rw [hB34, nb0, upd_same (MO_sEnded mo4) w19]
              have hst2 : sMO_sEnded mo4 (MO_sEnded mo4) = mo4 := rfl
              have hst3 : sSS_ended ss1 (upd (SS_ended ss1) c' 0) = ss1 := by rw [upd_same (SS_ended ss1) hen]
              rw [hst2, hst3]
              have h04 : ∀ p ∈ A' ++ (c', s') :: B', MO_has mo4 (300 * p.2 + r) = 0 := by
                intro p hp
                rw [List.mem_append, List.mem_cons] at hp
                rcases hp with hp | rfl | hp
                · have hpP : p ∈ P := by rw [w1]; exact List.mem_append_left _ hp
                  rw [w14 p hpP r x3]; exact b2 p hpP
                · exact w13 r x3
                · have hpP : p ∈ P := by rw [w1]; exact List.mem_append_right _ hp
                  rw [w14 p hpP r x3]; exact b2 p hpP
              have hg4 : GP (A' ++ (c', s') :: B') mo4 := by
                obtain ⟨y1, y2, y3⟩ := hG3
                have hsrt := hS3.srt
                have hns : ∀ p ∈ P, MO_sKey mo3 p.2 = nI q → ¬ (MO_sBegin mo3 p.2 < e ∧ t < MO_sEnd mo3 p.2) := by
                  intro p hp hkp hz
                  have : p ∈ P.filter (shp mo1 q t e) := by
                    rw [← hsw.2.2.2.1]
                    exact List.mem_filter.mpr ⟨hp, shs_iff.mpr ⟨hkp, hz.1, hz.2⟩⟩
                  rw [hQ] at this
                  exact absurd this (by simp)
                have hin : ∀ p ∈ A' ++ B', p ∈ P := fun p hp => by rw [w1]; exact hp
                have hs8 := w8.srt
                rw [List.pairwise_append, List.pairwise_cons] at hs8
                refine ⟨?_, ?_, ?_⟩
                · have hy1 : (A' ++ B').Pairwise (fun p q => MO_sKey mo4 p.2 = MO_sKey mo4 q.2 → MO_sEnd mo4 p.2 ≤ MO_sBegin mo4 q.2) := by
                    rw [w1] at y1
                    refine y1.imp_of_mem ?_
                    intro a b ha hb hab
                    obtain ⟨v1, v2, v3⟩ := w15 a (hin a ha)
                    obtain ⟨v4, v5, v6⟩ := w15 b (hin b hb)
                    rw [v1, v3, v4, v5]
                    exact hab
                  rw [List.pairwise_append] at hy1
                  rw [List.pairwise_append, List.pairwise_cons]
                  refine ⟨hy1.1, ⟨?_, hy1.2.1⟩, ?_⟩
                  · intro b hb hkb
                    have hbP := hin b (List.mem_append_right _ hb)
                    obtain ⟨v4, v5, v6⟩ := w15 b hbP
                    have h1 := hs8.2.1.1 b hb
                    have h3 := y2 b hbP
                    dsimp only at hkb h1 ⊢
                    rw [w16, v4] at hkb
                    have h4 := hns b hbP hkb.symm
                    unfold sbf at h1
                    rw [w16, w17, w18, v4, v5, v6, hkb] at h1
                    rw [w18, v5, pl_le]
                    rw [pl_lt] at h3
                    rw [pl_lt, pl_lt] at h4
                    rw [pi_lt, pl_lt, pl_lt, pl_eq] at h1
                    omega
                  · intro a ha b hb
                    rcases List.mem_cons.mp hb with rfl | hb
                    · intro hka
                      have haP := hin a (List.mem_append_left _ ha)
                      obtain ⟨v4, v5, v6⟩ := w15 a haP
                      have h1 := hs8.2.2 a ha (c', s') (by simp)
                      have h3 := y2 a haP
                      dsimp only at hka h1 ⊢
                      rw [w16, v4] at hka
                      have h4 := hns a haP hka
                      unfold sbf at h1
                      rw [w16, w17, w18, v4, v5, v6, hka] at h1
                      rw [w17, v6, pl_le]
                      rw [pl_lt] at h3
                      rw [pl_lt, pl_lt] at h4
                      rw [pi_lt, pl_lt, pl_lt, pl_eq] at h1
                      rw [pl_lt] at hte
                      omega
                    · exact hy1.2.2 a ha b hb
                · intro p hp
                  rw [List.mem_append, List.mem_cons] at hp
                  have hold : p ∈ P → MO_sBegin mo4 p.2 < MO_sEnd mo4 p.2 := by
                    intro hpP
                    obtain ⟨v4, v5, v6⟩ := w15 p hpP
                    rw [v5, v6]; exact y2 p hpP
                  rcases hp with hp | rfl | hp
                  · exact hold (hin p (List.mem_append_left _ hp))
                  · dsimp only; rw [w17, w18]; exact hte
                  · exact hold (hin p (List.mem_append_right _ hp))
                · have hmem : ∀ p ∈ A' ++ (c', s') :: B', p = (c', s') ∨ p ∈ P := by
                    intro p hp
                    rw [List.mem_append, List.mem_cons] at hp
                    rcases hp with hp | hp | hp
                    · exact Or.inr (hin p (List.mem_append_left _ hp))
                    · exact Or.inl hp
                    · exact Or.inr (hin p (List.mem_append_right _ hp))
                  intro p hp p' hp' hne x hx
                  rcases hmem p hp with rfl | hpP
                  · exact Or.inl (w13 x hx)
                  · rcases hmem p' hp' with rfl | hpP'
                    · exact Or.inr (w13 x hx)
                    · rw [w14 p hpP x hx, w14 p' hpP' x hx]
                      exact y3 p hpP p' hpP' hne x hx
              have goal := fin c' s' (A' ++ (c', s') :: B') ss1 mo4 hm' w8 w9 h04 hg4 w10 w11 w12
              by_cases z : SS_ends ss1 c' ≤ SR_theMark sr
              · rw [if_pos z, ob, x6, ob]
                exact goal
              · rw [if_neg z, ob, x6, ob]
                exact goal
            · rw [hsw.1, hW0] at z
              exact absurd z (by simp)
          · rw [hQ] at z
            exact absurd z (by simp)
        · -- a join
          obtain ⟨aa, m, P', ss1, rHa, rTl, rF, rS, rD, rK, rn, d, w1, w2, w3, w4, w5, w6, w7, w8, w9, w10⟩ := p_joinAll k hk (L := L) (fun r hr => hR.lt1 r hr) (fun r hr => hR.lt r hr) hS3 hB3 hG3 hq hte hw3.1 hw3.2 (by omega) (by omega) (by rw [hsw.2.2.2.1]; exact hQ) (by rw [hsw.1, hsw.2.1]; exact g2) (by rw [hsw.1, hsw.2.2.1]; exact g3)
          obtain ⟨dd, hdd⟩ : ∃ dd : Int32, dd = if e' ≤ MO_now mo1 then d else 0 := ⟨_, rfl⟩
          have hdd1 : dd = 0 ∨ dd = 1 := by
            rw [hdd]
            by_cases z : e' ≤ MO_now mo1
            · rw [if_pos z]; exact w9
            · rw [if_neg z]; exact Or.inl rfl
          obtain ⟨v1, v2, v3⟩ := w10 dd hdd1 _ rfl
          obtain ⟨mo5, hmo5⟩ : ∃ mo5, mo5 = sMO_sEnded (sMO_sEnd (sMO_sBegin (jm mo3 rHa rTl rF rS rD rK rn) (vp_updL (MO_sBegin mo3) m b')) (vp_updL (MO_sEnd mo3) m e')) (upd rD m dd) := ⟨_, rfl⟩
          rw [← hmo5] at v1 v2 v3
          have f5 : moC mo5 = moC mo3 ∧ moR mo5 = moR mo3 ∧ moF mo5 = moF mo3 := by rw [hmo5]; exact ⟨rfl, rfl, rfl⟩
          obtain ⟨b1, b2⟩ := v2.addRow x1 x2 x3 x4 x5
          rw [w4, ob, w5, ob]
          dsimp only
          rw [if_neg (nI_in w1 (by omega))]
          unfold f_SR_putByGap_B99 f_MO_gap_B295
          rw [nI_clamp (show aa < 2 ^ 31 by omega), if_neg (nI_m1 (show m < 2 ^ 31 by omega)), ob]
          dsimp only
          rw [if_neg (nI_in w2 (by omega)), nI_clamp (show m < 2 ^ 31 by omega)]
          have hB34 : vp_nar .boolean (f_MO_gap_B340 e' (nI m) (jm mo3 rHa rTl rF rS rD rK rn) (sMO_sEnd (sMO_sBegin (jm mo3 rHa rTl rF rS rD rK rn) (vp_updL (MO_sBegin (jm mo3 rHa rTl rF rS rD rK rn)) m b')) (vp_updL (MO_sEnd (jm mo3 rHa rTl rF rS rD rK rn)) m e'))) = dd := by
            unfold f_MO_gap_B340
            rw [nI_clamp (show m < 2 ^ 31 by omega)]
            show vp_nar .boolean (if rD m = 0 then 0 else if MO_now mo3 < e' then 0 else 1) = dd
            rw [w8, hsw.2.2.2.2, hdd]
            by_cases z : e' ≤ MO_now mo1
            · rw [if_pos z, if_neg (show ¬ MO_now mo1 < e' by rw [pl_lt]; rw [pl_le] at z; omega)]
              rcases w9 with y | y
              · rw [y, if_pos rfl]; rfl
              · rw [y, if_neg (by decide)]; rfl
            · rw [if_neg z, if_pos (show MO_now mo1 < e' by rw [pl_lt]; rw [pl_le] at z; omega)]
              by_cases y : d = 0
              · rw [if_pos y]; rfl
              · rw [if_neg y]; rfl
          rw [hB34]
          have hst5 : sMO_sEnded (sMO_sEnd (sMO_sBegin (jm mo3 rHa rTl rF rS rD rK rn) (vp_updL (MO_sBegin (jm mo3 rHa rTl rF rS rD rK rn)) m b')) (vp_updL (MO_sEnd (jm mo3 rHa rTl rF rS rD rK rn)) m e')) (upd (MO_sEnded (sMO_sEnd (sMO_sBegin (jm mo3 rHa rTl rF rS rD rK rn) (vp_updL (MO_sBegin (jm mo3 rHa rTl rF rS rD rK rn)) m b')) (vp_updL (MO_sEnd (jm mo3 rHa rTl rF rS rD rK rn)) m e'))) m dd) = mo5 := by rw [hmo5]
          rw [hst5, w6, hX1.1.2.1]
          have goal := fin aa m P' (sSS_ended ss1 (upd (SS_ended ss1) aa dd)) mo5 w3 v1 b1 b2 v3 f5.1 f5.2.1 f5.2.2
          by_cases z : e' ≤ MO_now mo1
          · rw [if_pos z, ob, x6, ob]
            rw [if_pos z] at hdd
            have : sSS_ended ss1 (upd (SS_ended ss1) aa dd) = ss1 := by rw [upd_same (SS_ended ss1) (w7.trans hdd.symm)]
            rw [this] at goal
            exact goal
          · rw [if_neg z, ob, x6, ob]
            rw [if_neg z] at hdd
            rw [hdd] at goal
            exact goal
      · rw [if_neg (show ¬ nI (P.length - (P.filter (shp mo1 q t e)).length) < 200 from nI_nlt (b := 200) (by omega) (by omega)), if_neg (show ¬ nI (P.length - (P.filter (shp mo1 q t e)).length + 1) ≤ 200 from nI_ge (a := 200) (by omega) (by omega))]
        exact ⟨_, _, _, _, _, _, mo1, L, P, T, C, rfl, rfl, hA1, hX1, hR1, hS1, hB1, hG1, hF1, by omega, hC1, by omega, frame ⟨rfl, rfl, rfl, rfl⟩⟩
    · rw [if_neg f2, if_pos f3]
      exact ⟨_, _, _, _, _, _, mo1, L, P, T, C, rfl, rfl, hA1, hX1, hR1, hS1, hB1, hG1, hF1, by omega, hC1, by omega, frame ⟨rfl, rfl, rfl, rfl⟩⟩
  · rw [if_neg (fun z => c0 (hgone.mp z)), if_neg c0]
    dsimp only [gl_let, f_SR_dropLate, f_MO_drop]
    refine ⟨_, _, _, _, _, _, _, L, P, T, C + 1, rfl, rfl, hA1, hX1.drop, hR1.came hC1 hC2 rfl rfl, hS1, hB1, hG1, hF1, by omega, ?_, Nat.le_refl _, frame ⟨rfl, rfl, rfl, rfl⟩⟩
    show MO_came mo1 + 1 = _
    rw [hC1, nI_1]
