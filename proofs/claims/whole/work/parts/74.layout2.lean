theorem p_plainLoop (k : Nat) (hk : 5000 ≤ k) {q : Nat} (hq : q < 8) {L : List (Nat × Nat)} {rs : RSt} {sr : SRt} {la : LAt} {mo0 : MOt} (hX0 : SX sr mo0) {c r : Nat} (hcr : (c, r) ∈ L) : ∀ (W2 W1 K1 : List (Int64 × Int64)) (n n' : Nat) (ss : SSt) (fs : FSt) (co : COt) (mo : MOt) (P : List (Nat × Nat)) (T : Nat),
    W2.length < n → W2.length < n' → moC mo = moC mo0 → MO_wanted mo0 = nI (W1 ++ W2).length → (W1 ++ W2).length ≤ 16 → LL (MO_wBegin mo0) (MO_wEnd mo0) (W1 ++ W2) → (∀ w ∈ W2, wok w) → LA_found la = nI (K1 ++ W2.filter (kpw mo0)).length → (K1 ++ W2.filter (kpw mo0)).length ≤ 16 → LL (LA_begins la) (LA_ends la) (K1 ++ W2.filter (kpw mo0)) → (K1 ++ W2.filter (kpw mo0)).Nodup →
    RR L rs mo → SP P ss mo → BT L P (SS_had ss) (SS_untold ss) (MO_has mo) (MO_toldOf mo) → FR fs mo T → T + W2.length ≤ 4000000 → P.length + ((W2.filter (kpw mo0)).filter (nwb P mo q)).length ≤ 200 →
    (∀ p ∈ P, ¬ MO_has mo (300 * p.2 + r) = 0 → ∃ w ∈ K1, mtc mo (nI q) w.1 w.2 p.2) →
    ∃ ss' fs' co' mo' P' T', f_SR_putByLayout_L99 k (nI q) la (nI c) rs sr n (nI K1.length) ss fs co = some (ss', fs', co') ∧ f_MO_plain_L139 k (nI q) (nI r) n' (nI W1.length) mo = some mo' ∧ RR L rs mo' ∧ SP P' ss' mo' ∧ BT L P' (SS_had ss') (SS_untold ss') (MO_has mo') (MO_toldOf mo') ∧ FR fs' mo' T' ∧ T' ≤ T + W2.length ∧ moC mo' = moC mo0 := by
  intro W2
  induction W2 with
  | nil =>
    intro W1 K1 n n' ss fs co mo P T hn hn' hC hw hl hW _ hf hfl hF hnd hR hS hB hT _ _ hdone
    obtain ⟨m, rfl⟩ : ∃ m, n = m + 1 := ⟨n - 1, by omega⟩
    obtain ⟨m', rfl⟩ : ∃ m', n' = m' + 1 := ⟨n' - 1, by omega⟩
    obtain ⟨g1, g2, g3, -⟩ := moC.get hC
    rw [f_SR_putByLayout_L99, hf, List.filter_nil, List.append_nil, if_pos (nI_le (Nat.le_refl _) (by simp at hfl; omega)), f_MO_plain_L139, g3, hw, List.append_nil, if_pos (nI_le (Nat.le_refl _) (by simp at hl; omega))]
    exact ⟨ss, fs, co, mo, P, T, rfl, rfl, hR, hS, hB, hT, by omega, hC⟩
  | cons w W2 ih =>
    intro W1 K1 n n' ss fs co mo P T hn hn' hC hw hl hW hok hf hfl hF hnd hR hS hB hT hT2 hroom hdone
    obtain ⟨m', rfl⟩ : ∃ m', n' = m' + 1 := ⟨n' - 1, by omega⟩
    obtain ⟨g1, g2, g3, g4, g5, -⟩ := moC.get hC
    have hl2 : W1.length + (W2.length + 1) ≤ 16 := by simpa using hl
    obtain ⟨w1, w2⟩ := hW.at
    have hX := hX0.cong hC
    have hgo := p_gone hX0 (hok w (by simp)).2
    rw [List.length_cons] at hn hn' hT2
    rw [f_MO_plain_L139, g3, hw, if_neg (nI_ge (by simp) (by simp; omega)), if_neg (nI_in (show W1.length < 16 by omega) (by omega)), nI_clamp (by omega), g4, g5, w1, w2, g1, g2]
    dsimp only [gl_let]
    rw [nI_1]
    by_cases hc : w.2 + MO_lateness mo0 ≤ MO_now mo0
    · rw [if_pos hc]
      have hk0 : ¬ kpw mo0 w = true := fun z => of_decide_eq_true z (hgo.mp hc)
      rw [List.filter_cons_of_neg hk0] at hf hfl hF hnd hroom
      obtain ⟨ss', fs', co', mo', P', T', e1, e2, e3, e4, e5, e6, e7, e8⟩ := ih (W1 ++ [w]) K1 n m' ss fs co mo P T (by omega) (by omega) hC (by rw [List.append_assoc]; exact hw) (by rw [List.append_assoc]; exact hl) (by rw [List.append_assoc]; exact hW) (fun u hu => hok u (List.mem_cons_of_mem _ hu)) hf hfl hF hnd hR hS hB hT (by omega) hroom hdone
      rw [List.length_append, List.length_singleton] at e2
      exact ⟨ss', fs', co', mo', P', T', e1, e2, e3, e4, e5, e6, by rw [List.length_cons]; omega, e8⟩
    · rw [if_neg hc]
      have hk0 : kpw mo0 w = true := decide_eq_true (fun z => hc (hgo.mpr z))
      rw [List.filter_cons_of_pos hk0] at hf hfl hF hnd hroom
      obtain ⟨m, rfl⟩ : ∃ m, n = m + 1 := ⟨n - 1, by omega⟩
      have hfl2 : K1.length + ((W2.filter (kpw mo0)).length + 1) ≤ 16 := by simpa using hfl
      obtain ⟨v1, v2⟩ := hF.at
      have hrest : ∀ (ss : SSt) (fs : FSt) (co : COt) (mo : MOt) (P : List (Nat × Nat)) (T1 : Nat), moC mo = moC mo0 → RR L rs mo → SP P ss mo → BT L P (SS_had ss) (SS_untold ss) (MO_has mo) (MO_toldOf mo) → FR fs mo T1 → T1 ≤ T + 1 → P.length + ((W2.filter (kpw mo0)).filter (nwb P mo q)).length ≤ 200 → (∀ p ∈ P, ¬ MO_has mo (300 * p.2 + r) = 0 → ∃ u ∈ K1 ++ [w], mtc mo (nI q) u.1 u.2 p.2) →
          ∃ ss' fs' co' mo' P' T', f_SR_putByLayout_L99 k (nI q) la (nI c) rs sr m (nI (K1.length + 1)) ss fs co = some (ss', fs', co') ∧ f_MO_plain_L139 k (nI q) (nI r) m' (nI (W1.length + 1)) mo = some mo' ∧ RR L rs mo' ∧ SP P' ss' mo' ∧ BT L P' (SS_had ss') (SS_untold ss') (MO_has mo') (MO_toldOf mo') ∧ FR fs' mo' T' ∧ T' ≤ T + (w :: W2).length ∧ moC mo' = moC mo0 := by
        intro ss fs co mo P T1 h1 h2 h3 h4 h5 h6 h7 h8
        obtain ⟨ss', fs', co', mo', P', T', e1, e2, e3, e4, e5, e6, e7, e8⟩ := ih (W1 ++ [w]) (K1 ++ [w]) m m' ss fs co mo P T1 (by omega) (by omega) h1 (by rw [List.append_assoc]; exact hw) (by rw [List.append_assoc]; exact hl) (by rw [List.append_assoc]; exact hW) (fun u hu => hok u (List.mem_cons_of_mem _ hu)) (by rw [List.append_assoc]; exact hf) (by rw [List.append_assoc]; exact hfl) (by rw [List.append_assoc]; exact hF) (by rw [List.append_assoc]; exact hnd) h2 h3 h4 h5 (by omega) h7 h8
        rw [List.length_append, List.length_singleton] at e1 e2
        exact ⟨ss', fs', co', mo', P', T', e1, e2, e3, e4, e5, e6, by rw [List.length_cons]; omega, e8⟩
      have hdup : w ∉ K1 := by
        intro z
        exact (List.nodup_append.mp hnd).2.2 w z w (by simp) rfl
      rw [f_SR_putByLayout_L99, hf, if_neg (nI_ge (by simp) (by simp; omega)), if_neg (nI_in (show K1.length < 16 by omega) (by omega)), nI_clamp (by omega), v1, v2]
      dsimp only [gl_let]
      rw [nI_1]
      rcases p_find k hk hS hq w.1 w.2 with ⟨p, hp, m1, e1, e2⟩ | ⟨m1, e1, e2⟩
      · have hno : MO_has mo (300 * p.2 + r) = 0 := by
          apply Classical.byContradiction
          intro z
          obtain ⟨u, hu, hm⟩ := hdone p hp z
          obtain ⟨y1, y2⟩ := m1.inj hm
          exact hdup (by rw [show w = u from Prod.ext y1 y2]; exact hu)
        obtain ⟨ss1, fs1, co1, mo1, T1, z1, z2, z3, z4, z5, z6, z7, z8, z9, ⟨y1, y2, y3, y4⟩⟩ := p_putFire k hk co hR hS hB hT (by omega) hX hp hcr hno
        rw [e1, ob, e2, ob, if_neg (nI_m1 (by have := hS.lt p hp; omega))]
        unfold f_SR_putByLayout_B144
        rw [if_neg (nI_m1 (by have := hS.lt1 p hp; omega)), ob]
        dsimp only
        rw [z1, z2, ob, ob]
        dsimp only
        have hmt : ∀ (b e : Int64) (s : Nat), mtc mo1 (nI q) b e s ↔ mtc mo (nI q) b e s := by
          intro b e s
          unfold mtc
          rw [y1, y2, y3]
        have hnw : ∀ u, nwb P mo1 q u = nwb P mo q u := by
          intro u
          unfold nwb
          rw [y1, y2, y3]
        refine hrest ss1 fs1 co1 mo1 P T1 (z8.trans hC) z3 z4 z5 z6 z7 ?_ ?_
        · rw [List.filter_congr (fun u _ => hnw u)]
          rw [List.filter_cons_of_neg (fun z => nwb_iff.mp z p hp m1)] at hroom
          exact hroom
        · intro p' hp' h0
          rw [y4] at h0
          rcases hS.sep hp hp' with rfl | ⟨x1, x2⟩
          · exact ⟨w, by simp, (hmt _ _ _).mpr m1⟩
          · rw [pk_un (by have := hR.lt _ hcr; dsimp only at this; omega)] at h0
            obtain ⟨u, hu, hm⟩ := hdone p' hp' h0
            exact ⟨u, List.mem_append_left _ hu, (hmt _ _ _).mpr hm⟩
      · have hnew := nwb_iff.mpr m1
        rw [List.filter_cons_of_pos hnew, List.length_cons] at hroom
        have hwk := hok w (by simp)
        have hr3 : r < 300 := hR.lt _ hcr
        obtain ⟨c', s', A, B, ss1, mo1, x1, x2, x3, x4, x5, x6, x7, x8, x9, x10, x11, x12, x13, x14, x15, x16, x17, x18, x19⟩ := p_newSpan k hk hq w.1 w.2 hwk.1 hwk.2 hR hS hB (by omega) m1
        have hperm : (A ++ (c', s') :: B).Perm ((c', s') :: P) := by rw [x1]; exact List.perm_middle
        have hps : (c', s') ∈ A ++ (c', s') :: B := by simp
        obtain ⟨ss2, fs2, co2, mo2, T2, z1, z2, z3, z4, z5, z6, z7, z8, z9, ⟨y1, y2, y3, y4⟩⟩ := p_putFire k hk co (hR.cong x11) x8 x9 (hT.cong x12) (by omega) (hX.cong x10) hps hcr (x13 r hr3)
        rw [e1, ob, e2, ob, if_pos rfl]
        unfold f_SR_putByLayout_B144
        rw [if_pos rfl, nI_clamp (show K1.length < 2 ^ 31 by omega), v1, v2, x6, ob, ob, x7, ob]
        dsimp only
        dsimp only at z1 z2
        rw [z1, z2, ob, ob]
        dsimp only
        have hmem : ∀ p ∈ A ++ (c', s') :: B, p = (c', s') ∨ p ∈ P := fun p hp => List.mem_cons.mp (hperm.mem_iff.mp hp)
        have hin : ∀ p ∈ P, p ∈ A ++ (c', s') :: B := fun p hp => hperm.mem_iff.mpr (List.mem_cons_of_mem _ hp)
        have hmt : ∀ p ∈ P, ∀ (b e : Int64), mtc mo2 (nI q) b e p.2 ↔ mtc mo (nI q) b e p.2 := by
          intro p hp b e
          unfold mtc
          obtain ⟨u1, u2, u3⟩ := x15 p hp
          rw [y1, y2, y3, u1, u2, u3]
        refine hrest ss2 fs2 co2 mo2 (A ++ (c', s') :: B) T2 (z8.trans (x10.trans hC)) z3 z4 z5 z6 z7 ?_ ?_
        · rw [hperm.length_eq, List.length_cons]
          have : ((W2.filter (kpw mo0)).filter (nwb (A ++ (c', s') :: B) mo2 q)).length ≤ ((W2.filter (kpw mo0)).filter (nwb P mo q)).length := by
            rw [← List.countP_eq_length_filter, ← List.countP_eq_length_filter]
            apply List.countP_mono_left
            intro u _ hu
            rw [nwb_iff] at hu ⊢
            intro p hp z
            exact hu p (hin p hp) ((hmt p hp _ _).mpr z)
          omega
        · intro p' hp' h0
          rw [y4] at h0
          rcases hmem p' hp' with rfl | hpP
          · refine ⟨w, by simp, ?_⟩
            unfold mtc
            rw [y1, y2, y3]
            exact ⟨x16, x17, x18⟩
          · have hne : p'.2 ≠ s' := fun z => x5 (z ▸ List.mem_map_of_mem hpP)
            rw [pk_un (by dsimp only; omega), x14 p' hpP r hr3] at h0
            obtain ⟨u, hu, hm⟩ := hdone p' hpP h0
            exact ⟨u, List.mem_append_left _ hu, (hmt p' hpP _ _).mpr hm⟩
