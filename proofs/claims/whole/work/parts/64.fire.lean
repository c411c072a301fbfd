theorem p_note {s : Nat} (hs : s < 200) (k : Nat) (hk : 5000 ≤ k) (how : Int32) (ss : SSt) : ∃ (u : Nat → Int64) (E : Nat → Int32), f_SS_noteFired k (nI s) how ss = some (sSS_untold (sSS_ended (sSS_since (sSS_fires ss (upd (SS_fires ss) s (SS_fires ss s + 1))) (upd (SS_since ss) s 0)) E) u) ∧
    (E = if how = 0 then SS_ended ss else upd (SS_ended ss) s 1) ∧ (∀ x : Nat, u x = if 5 * s ≤ x ∧ x < 5 * s + 5 then 0 else SS_untold ss x) := by
  unfold f_SS_noteFired f_SS_noteFired_B18
  rw [if_neg (nI_in hs (by omega)), nI_clamp (by omega)]
  dsimp only [gl_let]
  have h5 : nI s * 5 = nI (5 * s + 0) := by rw [show (5 : Int32) = nI 5 from rfl, pk_mul, Nat.mul_comm, Nat.add_zero]
  rw [h5]
  by_cases hh : how = 0
  · rw [if_pos hh]
    dsimp only [Option.bind]
    obtain ⟨u, e1, e2⟩ := p_noteL32 hs k 0 (sSS_since (sSS_fires ss (upd (SS_fires ss) s (SS_fires ss s + 1))) (upd (SS_since ss) s 0)) (by omega) (by omega)
    rw [e1]
    exact ⟨u, SS_ended ss, rfl, by rw [if_pos hh], e2⟩
  · rw [if_neg hh]
    dsimp only [Option.bind]
    obtain ⟨u, e1, e2⟩ := p_noteL32 hs k 0 (sSS_ended (sSS_since (sSS_fires ss (upd (SS_fires ss) s (SS_fires ss s + 1))) (upd (SS_since ss) s 0)) (upd (SS_ended ss) s 1)) (by omega) (by omega)
    rw [e1]
    exact ⟨u, upd (SS_ended ss) s 1, rfl, by rw [if_neg hh], e2⟩
theorem bt_same {f g : Nat → Int64} {s c : Nat} (h : f (5 * s + c / 64) = g (5 * s + c / 64)) : bt f s c = bt g s c := by
  unfold bt
  rw [h]
theorem bt_zero {f : Nat → Int64} {s c : Nat} (h : f (5 * s + c / 64) = 0) : bt f s c = false := by
  unfold bt
  rw [h]
  exact BitVec.getLsbD_zero
/-- a firing of a span, class and reference -/
theorem p_fire (k : Nat) (hk : 5000 ≤ k) {L P : List (Nat × Nat)} {sr : SRt} {rs : RSt} {ss : SSt} {fs : FSt} {mo : MOt} {T : Nat} (co : COt) (hR : RR L rs mo) (hS : SP P ss mo) (hB : BT L P (SS_had ss) (SS_untold ss) (MO_has mo) (MO_toldOf mo)) (hF : FR fs mo T) (hT : T + 1 ≤ 4000000) (hC : SR_clearsOn sr = MO_clears mo) {p : Nat × Nat} (hp : p ∈ P) (how : Int32) (hh : how = 0 ∨ how = 1 ∨ how = 2) :
    ∃ ss' fs' co' mo', f_SR_fire k (nI p.1) how sr rs ss fs co = some (ss', fs', co') ∧ f_MO_fire k (nI p.2) how mo = some mo' ∧ RR L rs mo' ∧ SP P ss' mo' ∧ BT L P (SS_had ss') (SS_untold ss') (MO_has mo') (MO_toldOf mo') ∧ FR fs' mo' (T + 1) ∧ moC mo' = moC mo ∧ moR mo' = moR mo ∧ (MO_sKey mo' = MO_sKey mo ∧ MO_sBegin mo' = MO_sBegin mo ∧ MO_sEnd mo' = MO_sEnd mo ∧ MO_has mo' = MO_has mo) ∧ (∃ E : Nat → Int32, MO_sEnded mo' = upd (MO_sEnded mo) p.2 (if how = 0 then MO_sEnded mo p.2 else 1) ∧ SS_ended ss' = E ∧ SS_due ss' = SS_due ss ∧ SS_order ss' = SS_order ss) := by
  have hp1 := hS.lt1 p hp
  have hp2 := hS.lt p hp
  have hL := hR.len
  obtain ⟨q1, q2, q3, q4, q5, q6⟩ := hS.eqs p hp
  obtain ⟨b1, b2, b3, b4⟩ := hB
  have hen := (hS.bnd p hp).2.2
  obtain ⟨J, O, j1, j2, -, j4⟩ := p_fireL2 hp2 k 0 mo (by omega) (by omega)
  rw [nI_0] at j1
  obtain ⟨u, E, n1, n2, n3⟩ := p_note hp1 k hk how ss
  have key : ∀ f : Nat → Int64, (∀ q ∈ L, (bt f p.1 q.1 = true ↔ cnd mo (300 * p.2 + q.2))) →
      ∃ ss' fs' co' mo', (f_SR_gather k (nI p.1) sr rs co 1000 f).bind (fun co_1 => (f_SS_noteFired k (nI p.1) how ss).bind fun ss_1 => if nI p.1 < 0 ∨ 200 ≤ (nI p.1).toNatClampNeg then none else (f_FS_add k (SS_keys ss_1 (nI p.1).toNatClampNeg) (SS_begins ss_1 (nI p.1).toNatClampNeg) (SS_ends ss_1 (nI p.1).toNatClampNeg) how (SS_fires ss_1 (nI p.1).toNatClampNeg) fs co_1).bind fun fs_1 => some (ss_1, fs_1, co_1)) = some (ss', fs', co') ∧ f_MO_fire k (nI p.2) how mo = some mo' ∧ RR L rs mo' ∧ SP P ss' mo' ∧ BT L P (SS_had ss') (SS_untold ss') (MO_has mo') (MO_toldOf mo') ∧ FR fs' mo' (T + 1) ∧ moC mo' = moC mo ∧ moR mo' = moR mo ∧ (MO_sKey mo' = MO_sKey mo ∧ MO_sBegin mo' = MO_sBegin mo ∧ MO_sEnd mo' = MO_sEnd mo ∧ MO_has mo' = MO_has mo) ∧ (∃ E : Nat → Int32, MO_sEnded mo' = upd (MO_sEnded mo) p.2 (if how = 0 then MO_sEnded mo p.2 else 1) ∧ SS_ended ss' = E ∧ SS_due ss' = SS_due ss ∧ SS_order ss' = SS_order ss) := by
    intro f hf
    rw [p_gather hR k hk f hp1 (by omega) (by omega) sr co, n1]
    dsimp only [Option.bind]
    rw [if_neg (nI_in hp1 (by omega)), nI_clamp (by omega)]
    unfold f_MO_fire
    rw [j1]
    dsimp only [Option.bind]
    obtain ⟨g, j, g1, g2⟩ := p_contents k hk (RS_values rs) (L.filter (fun q => bt f p.1 q.1)) (sMO_isIn (sMO_toldOf mo O) J) co
      (Nat.le_trans (List.length_filter_le _ _) hL) (hR.srt.filter _)
      (by
        intro r hr
        show ¬ J r = 0 ↔ _
        rw [j2 r (by omega) hr, List.mem_map]
        constructor
        · intro hc
          by_cases hm : r ∈ L.map Prod.snd
          · obtain ⟨q, hq, e⟩ := List.mem_map.mp hm
            refine ⟨q, List.mem_filter.mpr ⟨hq, ?_⟩, e⟩
            exact (hf q hq).mpr (by rw [e]; exact hc)
          · exact absurd (b3 p hp r hr hm) hc.1
        · rintro ⟨q, hq, e⟩
          obtain ⟨hq1, hq2⟩ := List.mem_filter.mp hq
          rw [← e]
          exact (hf q hq1).mp hq2)
      (fun q hq => hR.lt q (List.mem_filter.mp hq).1)
      (fun q hq => (hR.eqs q (List.mem_filter.mp hq).1).2.2.1)
    rw [g1]
    dsimp only [Option.bind]
    rw [if_neg (nI_in hp2 (by omega)), nI_clamp (by omega)]
    dsimp only [gl_let]
    have hE : vp_nar .boolean (f_MO_fire_B108 (nI p.2) how (sMO_isIn (sMO_got (sMO_isIn (sMO_toldOf mo O) J) g) j)) = if how = 0 then MO_sEnded mo p.2 else 1 := by
      unfold f_MO_fire_B108
      rw [nI_clamp (by omega)]
      show vp_nar .boolean (if MO_sEnded mo p.2 = 0 then _ else 1) = _
      rcases hen with e | e
      · rw [if_pos e]
        rcases hh with rfl | rfl | rfl
        · rw [if_pos (by decide), if_pos rfl, e]; rfl
        · rw [if_neg (by decide), if_neg (by decide)]; rfl
        · rw [if_neg (by decide), if_neg (by decide)]; rfl
      · rw [if_neg (by rw [e]; decide), e]
        by_cases q : how = 0
        · rw [if_pos q]; rfl
        · rw [if_neg q]; rfl
    rw [hE]
    have f1 : SS_keys ss p.1 = MO_sKey mo p.2 := q1
    obtain ⟨fs', mo', t1, t2, t3, t4⟩ := p_tell k hk (MO_sKey mo p.2) (MO_sBegin mo p.2) (MO_sEnd mo p.2) how (MO_sFired mo p.2 + 1) (fs := fs) (co := cof (RS_values rs) (L.filter (fun q => bt f p.1 q.1)) (f_CO_clear co)) (mo := sMO_sEnded (sMO_sPut (sMO_sFired (sMO_isIn (sMO_got (sMO_isIn (sMO_toldOf mo O) J) g) j) (upd (MO_sFired mo) p.2 (MO_sFired mo p.2 + 1))) (upd (MO_sPut mo) p.2 0)) (upd (MO_sEnded mo) p.2 (if how = 0 then MO_sEnded mo p.2 else 1))) (T := T) hF (CG.cr (mo := sMO_got mo g) g2) hT
    have hk1 : SS_fires (sSS_untold (sSS_ended (sSS_since (sSS_fires ss (upd (SS_fires ss) p.1 (SS_fires ss p.1 + 1))) (upd (SS_since ss) p.1 0)) E) u) p.1 = MO_sFired mo p.2 + 1 := by
      show upd (SS_fires ss) p.1 (SS_fires ss p.1 + 1) p.1 = _
      rw [pk_us, q4]
    have hk2 : MO_sFired (sMO_sPut (sMO_sFired (sMO_isIn (sMO_got (sMO_isIn (sMO_toldOf mo O) J) g) j) (upd (MO_sFired mo) p.2 (MO_sFired mo p.2 + 1))) (upd (MO_sPut mo) p.2 0)) p.2 = MO_sFired mo p.2 + 1 := pk_us
    have t1' : f_FS_add k (SS_keys (sSS_untold (sSS_ended (sSS_since (sSS_fires ss (upd (SS_fires ss) p.1 (SS_fires ss p.1 + 1))) (upd (SS_since ss) p.1 0)) E) u) p.1) (SS_begins (sSS_untold (sSS_ended (sSS_since (sSS_fires ss (upd (SS_fires ss) p.1 (SS_fires ss p.1 + 1))) (upd (SS_since ss) p.1 0)) E) u) p.1) (SS_ends (sSS_untold (sSS_ended (sSS_since (sSS_fires ss (upd (SS_fires ss) p.1 (SS_fires ss p.1 + 1))) (upd (SS_since ss) p.1 0)) E) u) p.1) how (SS_fires (sSS_untold (sSS_ended (sSS_since (sSS_fires ss (upd (SS_fires ss) p.1 (SS_fires ss p.1 + 1))) (upd (SS_since ss) p.1 0)) E) u) p.1) fs (cof (RS_values rs) (L.filter (fun q => bt f p.1 q.1)) (f_CO_clear co)) = some fs' := by
      rw [hk1]
      show f_FS_add k (SS_keys ss p.1) (SS_begins ss p.1) (SS_ends ss p.1) how _ fs _ = _
      rw [q1, q2, q3]
      exact t1
    rw [t1']
    have t2' : f_MO_tell k (MO_sKey mo p.2) (MO_sBegin mo p.2) (MO_sEnd mo p.2) how (MO_sFired (sMO_sPut (sMO_sFired (sMO_isIn (sMO_got (sMO_isIn (sMO_toldOf mo O) J) g) j) (upd (MO_sFired mo) p.2 (MO_sFired mo p.2 + 1))) (upd (MO_sPut mo) p.2 0)) p.2) (sMO_sEnded (sMO_sPut (sMO_sFired (sMO_isIn (sMO_got (sMO_isIn (sMO_toldOf mo O) J) g) j) (upd (MO_sFired mo) p.2 (MO_sFired mo p.2 + 1))) (upd (MO_sPut mo) p.2 0)) (upd (MO_sEnded mo) p.2 (if how = 0 then MO_sEnded mo p.2 else 1))) = some mo' := by
      rw [hk2]
      exact t2
    refine ⟨_, fs', _, mo', rfl, ?_, ?_⟩
    · have := t2'
      exact congrArg (fun z : Option MOt => z.bind fun mo_7 => some mo_7) this
    obtain ⟨tf, ta, tb, tc, td, rfl⟩ := t4
    refine ⟨hR.cong rfl, ?_, ?_, t3, rfl, rfl, ⟨rfl, rfl, rfl, rfl⟩, ⟨_, rfl, rfl, rfl, rfl⟩⟩
    · refine ⟨hS.kept, hS.spans, hS.ord, ?_, hS.keyr, hS.lt, hS.nd, hS.free, hS.srt, ?_⟩
      · intro q hq
        obtain ⟨r1, r2, r3, r4, r5, r6⟩ := hS.eqs q hq
        refine ⟨r1, r2, r3, ?_, ?_, ?_⟩
        · show upd (SS_fires ss) p.1 (SS_fires ss p.1 + 1) q.1 = upd (MO_sFired mo) p.2 (MO_sFired mo p.2 + 1) q.2
          rcases hS.sep hp hq with rfl | ⟨z1, z2⟩
          · rw [pk_us, pk_us, r4]
          · rw [pk_un z1, pk_un z2, r4]
        · show upd (SS_since ss) p.1 0 q.1 = upd (MO_sPut mo) p.2 0 q.2
          rcases hS.sep hp hq with rfl | ⟨z1, z2⟩
          · rw [pk_us, pk_us]
          · rw [pk_un z1, pk_un z2, r5]
        · show E q.1 = upd (MO_sEnded mo) p.2 (if how = 0 then MO_sEnded mo p.2 else 1) q.2
          rw [n2]
          by_cases hz : how = 0
          · rw [if_pos hz, if_pos hz]
            rcases hS.sep hp hq with rfl | ⟨z1, z2⟩
            · rw [pk_us, r6]
            · rw [pk_un z2, r6]
          · rw [if_neg hz, if_neg hz]
            rcases hS.sep hp hq with rfl | ⟨z1, z2⟩
            · rw [pk_us, pk_us]
            · rw [pk_un z1, pk_un z2, r6]
      · intro q hq
        obtain ⟨r1, r2, r3⟩ := hS.bnd q hq
        refine ⟨r1, r2, ?_⟩
        show upd (MO_sEnded mo) p.2 (if how = 0 then MO_sEnded mo p.2 else 1) q.2 = 0 ∨ upd (MO_sEnded mo) p.2 (if how = 0 then MO_sEnded mo p.2 else 1) q.2 = 1
        rcases hS.sep hp hq with rfl | ⟨z1, z2⟩
        · rw [pk_us]
          by_cases hz : how = 0
          · rw [if_pos hz]; exact r3
          · rw [if_neg hz]; exact Or.inr rfl
        · rw [pk_un z2]; exact r3
    · show BT L P (SS_had ss) u (MO_has mo) O
      have hO : ∀ q ∈ P, ∀ r : Nat, r < 300 → (q = p ∧ O (300 * q.2 + r) = MO_has mo (300 * q.2 + r)) ∨ (q.1 ≠ p.1 ∧ q.2 ≠ p.2 ∧ O (300 * q.2 + r) = MO_toldOf mo (300 * q.2 + r)) := by
        intro q hq r hr
        rw [j4]
        rcases hS.sep hp hq with rfl | ⟨z1, z2⟩
        · left
          refine ⟨rfl, ?_⟩
          rw [if_pos (by omega)]
          rcases b4 q hq r hr with ⟨e, _⟩ | ⟨e, _⟩
          · rw [e]; rfl
          · rw [e]; rfl
        · right
          refine ⟨z1, z2, ?_⟩
          rw [if_neg (by omega)]
      have hU : ∀ q ∈ P, ∀ c : Nat, c < 300 → (q = p ∧ bt u q.1 c = false) ∨ (q.1 ≠ p.1 ∧ q.2 ≠ p.2 ∧ bt u q.1 c = bt (SS_untold ss) q.1 c) := by
        intro q hq c hc
        have := n3 (5 * q.1 + c / 64)
        rcases hS.sep hp hq with rfl | ⟨z1, z2⟩
        · left
          refine ⟨rfl, bt_zero ?_⟩
          rw [this, if_pos (by omega)]
        · right
          refine ⟨z1, z2, bt_same ?_⟩
          rw [this, if_neg (by omega)]
      refine ⟨?_, ?_, b3, ?_⟩
      · intro q hq r hr
        refine ⟨(b1 q hq r hr).1, ?_⟩
        rcases hU q hq r.1 (hR.lt1 r hr) with ⟨e, h1⟩ | ⟨z1, z2, h1⟩
        · rcases hO q hq r.2 (hR.lt r hr) with ⟨_, h2⟩ | ⟨y1, _⟩
          · rw [h1, h2]
            exact ⟨fun z => absurd z (by decide), fun z => absurd z.2 z.1⟩
          · exact absurd (congrArg Prod.fst e) y1
        · rcases hO q hq r.2 (hR.lt r hr) with ⟨e, _⟩ | ⟨_, _, h2⟩
          · exact absurd (congrArg Prod.fst e) z1
          · rw [h1, h2]
            exact (b1 q hq r hr).2
      · intro q hq c hc hn
        refine ⟨(b2 q hq c hc hn).1, ?_⟩
        rcases hU q hq c hc with ⟨e, h1⟩ | ⟨z1, z2, h1⟩
        · exact h1
        · rw [h1]; exact (b2 q hq c hc hn).2
      · intro q hq r hr
        have := b4 q hq r hr
        rcases hO q hq r hr with ⟨_, h2⟩ | ⟨_, _, h2⟩
        · rw [h2]
          rcases this with ⟨e, _⟩ | ⟨e, _⟩
          · exact Or.inl ⟨e, e⟩
          · exact Or.inr ⟨e, Or.inr e⟩
        · rw [h2]; exact this
  unfold f_SR_fire
  rw [hC]
  by_cases hc : MO_clears mo = 0
  · rw [if_pos hc]
    exact key (SS_had ss) (fun q hq => (b1 p hp q hq).1.trans ⟨fun z => ⟨z, Or.inl hc⟩, fun z => z.1⟩)
  · rw [if_neg hc]
    exact key (SS_untold ss) (fun q hq => (b1 p hp q hq).2.trans ⟨fun z => ⟨z.1, Or.inr z.2⟩, fun z => ⟨z.1, z.2.resolve_left hc⟩⟩)
