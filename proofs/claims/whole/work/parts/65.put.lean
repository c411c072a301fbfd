theorem ob {α β : Type} (a : α) (f : α → Option β) : (some a).bind f = f a := rfl
theorem SX.cong {sr : SRt} {mo mo' : MOt} (h : SX sr mo) (e : moC mo' = moC mo) : SX sr mo' := by
  unfold moC at e
  injection e with e1 e
  injection e with e2 e
  injection e with e3 e4
  injection e1 with a1 e1
  injection e1 with a2 e1
  injection e1 with a3 e1
  injection e1 with a4 e1
  injection e1 with a5 a6
  injection e2 with b1 e2
  injection e2 with b2 e2
  injection e2 with b3 e2
  injection e2 with b4 e2
  injection e2 with b5 b6
  injection e3 with c1 e3
  injection e4 with d1 e4
  injection e4 with d2 e4
  injection e4 with d3 d4
  unfold SX at h ⊢
  rw [a5, a6, b1, b2, b6, c1, d4]
  exact h
theorem ST.cong {la : LAt} {mo mo' : MOt} (h : ST la mo) (e : moC mo' = moC mo) : ST la mo' := by
  unfold moC at e
  injection e with e1 e
  injection e with e2 e
  injection e1 with a1 e1
  injection e1 with a2 e1
  injection e1 with a3 e1
  injection e1 with a4 e1
  injection e2 with b1 e2
  injection e2 with b2 e2
  injection e2 with b3 e2
  unfold ST at h ⊢
  rw [a1, a2, a3, a4, b3]
  exact h
theorem FBr.cong {fb : FBt} {mo mo' : MOt} (h : FBr fb mo) (e : moC mo' = moC mo) : FBr fb mo' := by
  unfold moC at e
  injection e with e1 e
  injection e with e2 e
  injection e2 with b1 e2
  injection e2 with b2 e2
  injection e2 with b3 e2
  injection e2 with b4 e2
  injection e2 with b5 b6
  unfold FBr at h ⊢
  rw [b4, b5]
  exact h
theorem bt_put {f : Nat → Int64} {s c q d : Nat} (hc : c < 300) (hd : d < 300) : bt (vp_updL f (5 * s + c / 64) (f (5 * s + c / 64) ||| ((1 : Int64) <<< ((nI (c % 64)).toInt64 &&& 63)))) q d = (bt f q d || decide (q = s ∧ d = c)) := by
  unfold bt
  by_cases e : 5 * q + d / 64 = 5 * s + c / 64
  · have e1 : q = s := by omega
    have e2 : d / 64 = c / 64 := by omega
    rw [e, pk_uLs, bt_or _ (Nat.mod_lt _ (by omega))]
    congr 1
    by_cases z : d % 64 = c % 64
    · rw [decide_eq_true z, decide_eq_true ⟨e1, by omega⟩]
    · rw [decide_eq_false z, decide_eq_false (fun y => z (by rw [y.2]))]
  · rw [pk_uLn e, decide_eq_false (fun y => e (by rw [y.1, y.2])), Bool.or_false]
theorem p_putFire (k : Nat) (hk : 5000 ≤ k) {L P : List (Nat × Nat)} {sr : SRt} {rs : RSt} {ss : SSt} {fs : FSt} {mo : MOt} {T : Nat} (co : COt) (hR : RR L rs mo) (hS : SP P ss mo) (hB : BT L P (SS_had ss) (SS_untold ss) (MO_has mo) (MO_toldOf mo)) (hF : FR fs mo T) (hT : T + 1 ≤ 4000000) (hX : SX sr mo) {p : Nat × Nat} (hp : p ∈ P) {c r : Nat} (hcr : (c, r) ∈ L) (hno : MO_has mo (300 * p.2 + r) = 0) :
    ∃ ss' fs' co' mo' T', f_SR_putAndFire k (nI p.1) (nI c) sr rs ss fs co = some (ss', fs', co') ∧ f_MO_putInto k (nI p.2) (nI r) mo = some mo' ∧ RR L rs mo' ∧ SP P ss' mo' ∧ BT L P (SS_had ss') (SS_untold ss') (MO_has mo') (MO_toldOf mo') ∧ FR fs' mo' T' ∧ (T' ≤ T + 1) ∧ moC mo' = moC mo ∧ moR mo' = moR mo ∧ (MO_sKey mo' = MO_sKey mo ∧ MO_sBegin mo' = MO_sBegin mo ∧ MO_sEnd mo' = MO_sEnd mo ∧ MO_has mo' = upd (MO_has mo) (300 * p.2 + r) 1) := by
  have hp1 := hS.lt1 p hp
  have hp2 := hS.lt p hp
  have hc := hR.lt1 _ hcr
  have hr := hR.lt _ hcr
  dsimp only at hc hr
  obtain ⟨q1, q2, q3, q4, q5, q6⟩ := hS.eqs p hp
  obtain ⟨b1, b2, b3, b4⟩ := hB
  obtain ⟨⟨x1, x2, x3, x4, x5, x6, x7⟩, -⟩ := id hX
  obtain ⟨i1, i2, i3⟩ := bt_ix hp1 hc
  unfold f_SR_putAndFire f_SS_put f_MO_putInto
  dsimp only [gl_let]
  rw [i1, i2, if_neg (nI_in i3 (by omega)), if_neg (nI_in hp1 (by omega)), nI_clamp (show 5 * p.1 + c / 64 < 2 ^ 31 by omega), nI_clamp (show p.1 < 2 ^ 31 by omega), p_ix, if_neg (nI_in (show 300 * p.2 + r < 60000 by omega) (by omega)), if_neg (nI_in hp2 (by omega)), nI_clamp (show p.2 < 2 ^ 31 by omega), nI_clamp (show 300 * p.2 + r < 2 ^ 31 by omega)]
  rw [ob, if_neg (show ¬ (nI p.1 < 0 ∨ 200 ≤ p.1) from fun z => nI_in hp1 (show 200 < 2 ^ 31 by omega) (z.imp id (fun y => by rw [nI_clamp (by omega)]; exact y)))]
  obtain ⟨ss1, hss⟩ : ∃ ss1, ss1 = sSS_untold (sSS_had (sSS_since ss (upd (SS_since ss) p.1 (SS_since ss p.1 + 1))) (vp_updL (SS_had ss) (5 * p.1 + c / 64) (SS_had ss (5 * p.1 + c / 64) ||| (1 : Int64) <<< ((nI (c % 64)).toInt64 &&& 63)))) (vp_updL (SS_untold ss) (5 * p.1 + c / 64) (SS_untold ss (5 * p.1 + c / 64) ||| (1 : Int64) <<< ((nI (c % 64)).toInt64 &&& 63))) := ⟨_, rfl⟩
  obtain ⟨mo1, hmo⟩ : ∃ mo1, mo1 = sMO_has (sMO_sPut mo (upd (MO_sPut mo) p.2 (MO_sPut mo p.2 + 1))) (upd (MO_has mo) (300 * p.2 + r) 1) := ⟨_, rfl⟩
  rw [← hss, ← hmo]
  have hC1 : moC mo1 = moC mo := by rw [hmo]; rfl
  have hR1 : moR mo1 = moR mo := by rw [hmo]; rfl
  have hK1 : MO_sKey mo1 = MO_sKey mo ∧ MO_sBegin mo1 = MO_sBegin mo ∧ MO_sEnd mo1 = MO_sEnd mo ∧ MO_has mo1 = upd (MO_has mo) (300 * p.2 + r) 1 := by rw [hmo]; exact ⟨rfl, rfl, rfl, rfl⟩
  have hS1 : SP P ss1 mo1 := by
    rw [hss, hmo]
    refine ⟨hS.kept, hS.spans, hS.ord, ?_, hS.keyr, hS.lt, hS.nd, hS.free, hS.srt, hS.bnd⟩
    intro q hq
    obtain ⟨r1, r2, r3, r4, r5, r6⟩ := hS.eqs q hq
    refine ⟨r1, r2, r3, r4, ?_, r6⟩
    show upd (SS_since ss) p.1 (SS_since ss p.1 + 1) q.1 = upd (MO_sPut mo) p.2 (MO_sPut mo p.2 + 1) q.2
    rcases hS.sep hp hq with rfl | ⟨z1, z2⟩
    · rw [pk_us, pk_us, r5]
    · rw [pk_un z1, pk_un z2, r5]
  have hcl := (b4 p hp r hr).resolve_right (fun z => by rw [z.1] at hno; exact absurd hno (by decide))
  have hB1 : BT L P (SS_had ss1) (SS_untold ss1) (MO_has mo1) (MO_toldOf mo1) := by
    rw [hss, hmo]
    show BT L P (vp_updL (SS_had ss) (5 * p.1 + c / 64) (SS_had ss (5 * p.1 + c / 64) ||| (1 : Int64) <<< ((nI (c % 64)).toInt64 &&& 63))) (vp_updL (SS_untold ss) (5 * p.1 + c / 64) (SS_untold ss (5 * p.1 + c / 64) ||| (1 : Int64) <<< ((nI (c % 64)).toInt64 &&& 63))) (upd (MO_has mo) (300 * p.2 + r) 1) (MO_toldOf mo)
    refine ⟨?_, ?_, ?_, ?_⟩
    · intro q hq d hd
      have hd1 := hR.lt1 d hd
      have hd2 := hR.lt d hd
      rw [bt_put hc hd1, bt_put hc hd1]
      obtain ⟨y1, y2⟩ := b1 q hq d hd
      rcases hS.sep hp hq with e | ⟨z1, z2⟩
      · rcases hR.sep hcr hd with e2 | ⟨w1, w2⟩
        · subst e
          subst e2
          dsimp only at *
          rw [pk_us, decide_eq_true ⟨rfl, rfl⟩, Bool.or_true, Bool.or_true, hcl.2]
          exact ⟨⟨fun _ => by decide, fun _ => rfl⟩, ⟨fun _ => ⟨by decide, rfl⟩, fun _ => rfl⟩⟩
        · dsimp only at w1 w2
          subst e
          rw [pk_un (by omega), decide_eq_false (fun z => w1 z.2), Bool.or_false, Bool.or_false]
          exact ⟨y1, y2⟩
      · rw [pk_un (by omega), decide_eq_false (fun z => z1 z.1), Bool.or_false, Bool.or_false]
        exact ⟨y1, y2⟩
    · intro q hq d hd hn
      have hdc : d ≠ c := fun e => hn (List.mem_map.mpr ⟨(c, r), hcr, e.symm⟩)
      rw [bt_put hc hd, bt_put hc hd, decide_eq_false (fun z => hdc z.2), Bool.or_false, Bool.or_false]
      exact b2 q hq d hd hn
    · intro q hq d hd hn
      have hdc : d ≠ r := fun e => hn (List.mem_map.mpr ⟨(c, r), hcr, e.symm⟩)
      rw [pk_un (by omega)]
      exact b3 q hq d hd hn
    · intro q hq d hd
      by_cases e : 300 * q.2 + d = 300 * p.2 + r
      · rw [e, pk_us]
        exact Or.inr ⟨rfl, Or.inl hcl.2⟩
      · rw [pk_un e]
        exact b4 q hq d hd
  have hF1 : FR fs mo1 T := by rw [hmo]; exact hF
  have hX1 := hX.cong hC1
  have hRR1 := hR.cong hR1
  have hend : SS_ends ss1 p.1 = MO_sEnd mo p.2 := by rw [hss]; exact q3
  have hsin : SS_since ss1 p.1 = upd (MO_sPut mo) p.2 (MO_sPut mo p.2 + 1) p.2 := by
    rw [hss, pk_us]
    show upd (SS_since ss) p.1 _ p.1 = _
    rw [pk_us, q5]
  rw [hend, hsin, x2, x3, x4]
  have fin : ∀ how : Int32, how = 0 ∨ how = 1 ∨ how = 2 → ∃ ss' fs' co' mo' T', ((f_SR_fire k (nI p.1) how sr rs ss1 fs co).bind fun x => some (x.1, x.2.1, x.2.2)) = some (ss', fs', co') ∧ ((f_MO_fire k (nI p.2) how mo1).bind fun mo_2 => some mo_2) = some mo' ∧ RR L rs mo' ∧ SP P ss' mo' ∧ BT L P (SS_had ss') (SS_untold ss') (MO_has mo') (MO_toldOf mo') ∧ FR fs' mo' T' ∧ (T' ≤ T + 1) ∧ moC mo' = moC mo ∧ moR mo' = moR mo ∧ (MO_sKey mo' = MO_sKey mo ∧ MO_sBegin mo' = MO_sBegin mo ∧ MO_sEnd mo' = MO_sEnd mo ∧ MO_has mo' = upd (MO_has mo) (300 * p.2 + r) 1) := by
    intro how hh
    obtain ⟨ss', fs', co', mo', e1, e2, e3, e4, e5, e6, e7, e8, ⟨g1, g2, g3, g4⟩, -⟩ := p_fire k hk (sr := sr) co hRR1 hS1 hB1 hF1 hT hX1.1.2.2.2.2.1 hp how hh
    refine ⟨ss', fs', co', mo', T + 1, ?_, ?_, e3, e4, e5, e6, Nat.le_refl _, e7.trans hC1, e8.trans hR1, g1.trans hK1.1, g2.trans hK1.2.1, g3.trans hK1.2.2.1, g4.trans hK1.2.2.2⟩
    · rw [e1]; rfl
    · rw [e2]; rfl
  have stay : ∃ ss' fs' co' mo' T', some (ss1, fs, co) = some (ss', fs', co') ∧ some mo1 = some mo' ∧ RR L rs mo' ∧ SP P ss' mo' ∧ BT L P (SS_had ss') (SS_untold ss') (MO_has mo') (MO_toldOf mo') ∧ FR fs' mo' T' ∧ (T' ≤ T + 1) ∧ moC mo' = moC mo ∧ moR mo' = moR mo ∧ (MO_sKey mo' = MO_sKey mo ∧ MO_sBegin mo' = MO_sBegin mo ∧ MO_sEnd mo' = MO_sEnd mo ∧ MO_has mo' = upd (MO_has mo) (300 * p.2 + r) 1) := ⟨ss1, fs, co, mo1, T, rfl, rfl, hRR1, hS1, hB1, hF1, by omega, hC1, hR1, hK1⟩
  by_cases h1 : MO_sEnd mo p.2 ≤ MO_now mo
  · rw [if_pos h1, if_neg (show ¬ MO_now mo < MO_sEnd mo p.2 by rw [pl_lt]; rw [pl_le] at h1; omega)]
    by_cases h2 : MO_fires mo = 0
    · rw [if_pos h2, if_pos h2]
      exact stay
    · rw [if_neg h2, if_neg h2]
      exact fin 2 (by decide)
  · rw [if_neg h1, if_pos (show MO_now mo < MO_sEnd mo p.2 by rw [pl_lt]; rw [pl_le] at h1; omega)]
    by_cases h2 : MO_every mo ≤ 0
    · rw [if_pos h2, if_pos h2]
      exact stay
    · rw [if_neg h2, if_neg h2]
      by_cases h3 : upd (MO_sPut mo) p.2 (MO_sPut mo p.2 + 1) p.2 < MO_every mo
      · rw [if_pos h3, if_pos h3]
        exact stay
      · rw [if_neg h3, if_neg h3]
        exact fin 0 (by decide)
