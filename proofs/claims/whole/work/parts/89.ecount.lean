theorem moD_C {mo mo' : MOt} {g : Nat → Int32} (e : moD mo' = moD (sMO_numbered mo g)) : moC (sMO_nextSpan (sMO_numbered mo' (MO_numbered mo)) (MO_nextSpan mo)) = moC mo := by
  unfold moD at e
  injection e with e1 e
  injection e with e2 e
  injection e with e3 e4
  injection e3 with c1 e3
  injection e3 with c2 c3
  show (((MO_kind mo', MO_size mo', MO_step mo', MO_offset mo', MO_lateness mo', MO_every mo')), (MO_fires mo', MO_clears mo', MO_rule mo', MO_forbidden mo', MO_bad mo', MO_now mo'), (MO_late mo', MO_numbered mo, MO_nextSpan mo, MO_thrown mo'), (MO_wanted mo', MO_wBegin mo', MO_wEnd mo', MO_came mo')) = moC mo
  rw [e1, e2, e4, c1, c3]
  rfl
/-- numbers, class and reference -/
def NR (nu : NUt) (mo : MOt) (L : List (Nat × Nat)) (M : Nat) : Prop := ∃ (st sz : Nat) (N : Nat → Nat), MO_step mo = nI st ∧ MO_size mo = nI sz ∧ (1 ≤ st ∧ st ≤ 65536) ∧ (1 ≤ sz ∧ sz ≤ 65536) ∧
  (∀ q : Nat, q < 8 → NU_numbered nu q = nI (N q) ∧ MO_numbered mo q = nI (N q) ∧ N q ≤ 300 * M ∧ ∃ S, clo st sz (N q) S (NU_begins nu q) (MO_nextSpan mo q)) ∧
  (∀ p ∈ L, MO_rNumber mo p.2 = -1 ∨ ∃ q x : Nat, q < 8 ∧ MO_rKey mo p.2 = nI q ∧ MO_rNumber mo p.2 = nI x ∧ x < N q)
theorem p_endCounted (k : Nat) (hk : 5000 ≤ k) {L : List (Nat × Nat)} {sr : SRt} {la : LAt} {rs : RSt} {nu : NUt} {fs : FSt} {co : COt} {mo : MOt} {T M : Nat} (hA : ST la mo) (hX : SX sr mo) (hR : RR L rs mo) (hN : NR nu mo L M) (hM : 300 * M + 300 ≤ 1000000) (hF : FR fs mo T) (hT : T + 2400 ≤ 4000000) :
    ∃ (a : Int32) (rs' : RSt) (nu' : NUt) (fs' : FSt) (co' : COt) (mo' : MOt) (L' : List (Nat × Nat)) (T' : Nat), f_SR_endCounted k sr la rs nu fs co = some (a, rs', nu', fs', co') ∧ f_MO_countedMark k mo = some (a, mo') ∧ RR L' rs' mo' ∧ NR nu' mo' L' (M + 1) ∧ FR fs' mo' T' ∧ T' ≤ T + 2400 ∧ moS mo' = moS mo ∧ moC (sMO_nextSpan (sMO_numbered mo' (MO_numbered mo)) (MO_nextSpan mo)) = moC mo := by
  obtain ⟨st, sz, N, s1, s2, s3, s4, s5, s6⟩ := hN
  obtain ⟨⟨a1, a2, a3, a4, a5⟩, -⟩ := hA
  have l1 : LA_step la = (nI st).toInt64 := by rw [a3, s1]
  have l2 : LA_size la = (nI sz).toInt64 := by rw [a2, s2]
  have hlen := hR.len
  obtain ⟨f, f', g, g', N', n1, n2, n3, n4, n5⟩ := p_number k hk (nu := nu) hR hX.1.2.1 N (fun q hq => by have := (s5 q hq).2.2.1; omega) (fun q hq => ⟨(s5 q hq).1, (s5 q hq).2.1⟩) s6
  obtain ⟨mo1, hmo1⟩ : ∃ mo1, mo1 = sMO_numbered (sMO_rNumber mo f') g' := ⟨_, rfl⟩
  obtain ⟨rs1, hrs1⟩ : ∃ rs1, rs1 = sRS_numbers rs f := ⟨_, rfl⟩
  rw [← hmo1] at n2 n3
  rw [← hrs1] at n1 n3
  have hF1 : FR fs mo1 T := by rw [hmo1]; exact hF
  have p1 : MO_step mo1 = nI st := by rw [hmo1]; exact s1
  have p2 : MO_size mo1 = nI sz := by rw [hmo1]; exact s2
  have p3 : ∀ q : Nat, q < 8 → MO_numbered mo1 q = nI (N' q) := fun q hq => by rw [hmo1]; exact (n4 q hq).2.1
  have p4 : ∀ r : Nat, MO_rNumber mo1 r = f' r ∧ MO_rKey mo1 r = MO_rKey mo r ∧ MO_nextSpan mo1 r = MO_nextSpan mo r := fun r => by rw [hmo1]; exact ⟨rfl, rfl, rfl⟩
  have hS0 : ∃ S0 : Nat → Nat, ∀ q : Nat, q < 8 → clo st sz (N q) (S0 q) (NU_begins nu q) (MO_nextSpan mo q) := by
    refine ⟨fun q => if h : q < 8 then Classical.choose (s5 q h).2.2.2 else 0, fun q hq => ?_⟩
    dsimp only
    rw [dif_pos hq]
    exact Classical.choose_spec (s5 q hq).2.2.2
  obtain ⟨S0, hS0⟩ := hS0
  obtain ⟨e, bb, fs2, co2, mo2, k1, k2, k3, k4, k5, k6, k7, k8⟩ := p_fireKeys k hk (sr := sr) (la := la) (nu := sNU_numbered nu g) n3 (N := N') s3 s4 (fun q hq => by have := (s5 q hq).2.2.1; have := (n4 q hq).2.2.2; omega) p1 p2 p3 l1 l2 (fun q hq => (n4 q hq).1) S0 8 k k 0 0 (NU_begins nu) fs co mo1 T (by omega) (by omega) (by omega) rfl rfl rfl hF1 (by omega) (fun q hq => by omega)
    (fun q _ hq => by
      obtain ⟨c1, c2, c3, c4, c5⟩ := hS0 q hq
      obtain ⟨_, _, z1, z2⟩ := n4 q hq
      exact ⟨c1, (p4 q).2.2.trans c2, by omega, by omega, c5⟩)
  rw [nI_0, Nat.zero_add] at k1 k2
  have hR2 : RR L rs1 mo2 := n3.cong k4
  obtain ⟨d1, d2, d3⟩ := moD_get k3
  have hr2 : MO_rNumber mo2 = MO_rNumber mo1 ∧ MO_rKey mo2 = MO_rKey mo1 := by
    have e := k4
    unfold moR at e
    injection e with e1 e
    injection e with e2 e
    injection e with e3 e
    injection e with e4 e
    exact ⟨e4, e1⟩
  have hrow : ∀ p ∈ L, MO_rNumber mo2 p.2 = -1 ∨ ∃ q x : Nat, q < 8 ∧ MO_rKey mo2 p.2 = nI q ∧ MO_rNumber mo2 p.2 = nI x ∧ x < N' q := by
    intro p hp
    rw [hr2.1, hr2.2, (p4 p.2).1, (p4 p.2).2.1]
    exact n5 p hp
  have hNl : ∀ q : Nat, q < 8 → N' q ≤ 1000000 := fun q hq => by have := (s5 q hq).2.2.1; have := (n4 q hq).2.2.2; omega
  have hwant : ∀ p ∈ L, ∀ q x : Nat, q < 8 → MO_rKey mo2 p.2 = nI q → MO_rNumber mo2 p.2 = nI x → x < N' q → f_MO_isWanted (MO_rKey mo2 p.2) (MO_rNumber mo2 p.2) mo2 = some (if st * (x / st) + sz ≤ N' q then 0 else 1) := by
    intro p hp q x hq z1 z2 z3
    obtain ⟨S, hc⟩ := k8 q hq
    rw [z1, z2]
    exact p_isWanted hq s3 s4 (hNl q hq) (d2.trans p1) (d1.trans p2) z3 hc
  obtain ⟨V, v1, -, v3⟩ := p_endL30 (sr := sr) (la := la) (nu := sNU_begins (sNU_numbered nu g) bb) hR2
    (by
      intro p hp
      rcases hrow p hp with z | ⟨q, x, z1, z2, z3, z4⟩
      · exact Or.inl z
      · right
        have hnz : ¬ MO_rNumber mo2 p.2 = -1 := by rw [z3]; exact nI_m1 (by have := hNl q z1; omega)
        refine ⟨hnz, fun V => ?_⟩
        have hRV : RR L (sRS_leaves rs1 V) mo2 := hR2
        rw [p_isWaited (sr := sr) (la := la) (nu := sNU_begins (sNU_numbered nu g) bb) hRV hp z1 s3 s4 (hNl q z1) l1 l2 (n4 q z1).1 z2 z3 z4]
        have hg : gcb mo2 p.2 = (some (if st * (x / st) + sz ≤ N' q then (0 : Int32) else 1) == some 0) := by
          unfold gcb
          rw [hwant p hp q x z1 z2 z3 z4]
          have : (MO_rNumber mo2 p.2 == -1) = false := by simpa using hnz
          rw [this]
          rfl
        rw [hg]
        by_cases y : st * (x / st) + sz ≤ N' q
        · rw [if_pos y, if_pos (by decide)]
        · rw [if_neg y, if_neg (by decide)])
    L [] k (RS_leaves rs1) rfl (by omega)
  rw [List.length_nil, nI_0, show sRS_leaves rs1 (RS_leaves rs1) = rs1 from rfl] at v1
  obtain ⟨K, w1, w2⟩ := p_cmL287 hR2 (fun p hp hz => by
    rcases hrow p hp with z | ⟨q, x, z1, z2, z3, z4⟩
    · exact absurd z hz
    · exact ⟨_, hwant p hp q x z1 z2 z3 z4⟩) 300 k 0 (MO_rKey mo2) (by omega) (by omega) (fun s _ => rfl)
  rw [nI_0, stb_zero, ← hR2.rows, show sMO_rows (sMO_rKey mo2 (MO_rKey mo2)) (MO_rows mo2) = mo2 from rfl, stb_all (gcb mo2) hR2.lt] at w1
  have hK : ∀ r : Nat, r < 300 → (K r = if gcb mo2 r = true then -1 else MO_rKey mo2 r) ∨ (MO_rKey mo2 r = -1 ∧ K r = -1) := by
    intro r hr
    rw [w2 r]
    by_cases z : gcb mo2 r = true
    · by_cases y : r ∈ L.map Prod.snd
      · left
        rw [if_pos z, if_pos ⟨by omega, hr, y, z⟩]
      · right
        have := (hR2.free r hr).resolve_right y
        rw [if_neg (fun x => y x.2.2.1)]
        exact ⟨this, this⟩
    · left
      rw [if_neg z, if_neg (fun x => z x.2.2.2)]
  obtain ⟨rs3, r1, r2⟩ := p_rowsGo k hk hR2 (gcb mo2) V
    (by
      intro p hp
      rw [v3 p hp]
      by_cases z : gcb mo2 p.2 = true
      · rw [if_pos z, z]; exact ⟨fun y => absurd y (by decide), fun y => absurd y (by decide)⟩
      · rw [if_neg z]
        have : gcb mo2 p.2 = false := by simpa using z
        rw [this]; exact ⟨fun _ => rfl, fun _ => rfl⟩)
    K
    (by
      intro r hr
      rcases hK r hr with z | ⟨z1, z2⟩
      · exact z
      · rw [z2, z1]
        by_cases y : gcb mo2 r = true
        · rw [if_pos y]
        · rw [if_neg y])
  obtain ⟨mo3, hmo3⟩ : ∃ mo3, mo3 = sMO_rows (sMO_rKey mo2 K) (nI (L.filter (fun q => !gcb mo2 q.2)).length) := ⟨_, rfl⟩
  rw [← hmo3] at w1 r2
  have y1 : moD mo3 = moD mo2 := by rw [hmo3]; rfl
  have y2 : moS mo3 = moS mo2 := by rw [hmo3]; rfl
  have y3 : moF mo3 = moF mo2 := by rw [hmo3]; rfl
  have y4 : MO_nextSpan mo3 = MO_nextSpan mo2 ∧ MO_rNumber mo3 = MO_rNumber mo2 ∧ MO_rKey mo3 = K := by rw [hmo3]; exact ⟨rfl, rfl, rfl⟩
  refine ⟨nI e, rs3, sNU_begins (sNU_numbered nu g) bb, fs2, co2, mo3, L.filter (fun q => !gcb mo2 q.2), T + e, ?_, ?_, r2, ?_, k6.cong y3, by omega, ?_, ?_⟩
  · unfold f_SR_endCounted
    rw [n1, ob]
    dsimp only
    have k1' : f_SR_endCounted_L8 k sr la rs1 k 0 0 (sNU_numbered nu g) fs co = some (nI e, sNU_begins (sNU_numbered nu g) bb, fs2, co2) := k1
    rw [k1', ob]
    dsimp only
    rw [v1, ob, r1, ob]
  · unfold f_MO_countedMark
    rw [n2, ob, k2, ob]
    dsimp only
    rw [w1, ob]
  · obtain ⟨d4, d5, d6⟩ := moD_get y1
    refine ⟨st, sz, N', d5.trans (d2.trans p1), d4.trans (d1.trans p2), s3, s4, ?_, ?_⟩
    · intro q hq
      have h1 := (s5 q hq).2.2.1
      obtain ⟨z1, z2, z3, z4⟩ := n4 q hq
      refine ⟨z1, ?_, by omega, ?_⟩
      · rw [d6, d3]; exact p3 q hq
      · rw [y4.1]
        exact k8 q hq
    · intro p hp
      obtain ⟨hp1, hp2⟩ := List.mem_filter.mp hp
      have hKp : K p.2 = MO_rKey mo2 p.2 := by
        rw [w2 p.2, if_neg]
        intro z
        rw [z.2.2.2] at hp2
        exact absurd hp2 (by decide)
      rw [y4.2.1, y4.2.2, hKp]
      exact hrow p hp1
  · rw [y2, k5, hmo1]; rfl
  · have : moD mo3 = moD (sMO_numbered mo g') := y1.trans (k3.trans (by rw [hmo1]; rfl))
    exact moD_C this
theorem p_putWaiting (k : Nat) (hk : 5000 ≤ k) {q : Nat} (hq : q < 8) (t v : Int64) {L : List (Nat × Nat)} {sr : SRt} {rs : RSt} {nu : NUt} {mo : MOt} {C M : Nat} (hX : SX sr mo) (hR : RR L rs mo) (hN : NR nu mo L M) (hC : MO_came mo = nI C) (hC2 : C < 2000000) :
    ∃ (a : Int32) (sr' : SRt) (rs' : RSt) (mo' : MOt) (L' : List (Nat × Nat)) (C' : Nat), f_SR_putWaiting k (nI q) t v sr rs = some (a, sr', rs') ∧ f_MO_counted k (nI q) t v mo = some (a, mo') ∧ SX sr' mo' ∧ RR L' rs' mo' ∧ NR nu mo' L' M ∧ MO_came mo' = nI C' ∧ C' ≤ C + 1 ∧ moS mo' = moS mo ∧ moF mo' = moF mo ∧ moC (sMO_late (sMO_came mo' (MO_came mo)) (MO_late mo)) = moC mo := by
  unfold f_SR_putWaiting f_MO_counted
  rw [hX.1.2.1]
  by_cases c1 : MO_now mo ≤ t
  · rw [if_pos c1, if_pos c1]
    rcases p_full hR with ⟨f1, f2, f3⟩ | ⟨f2, f3⟩
    · rw [if_pos f2, if_neg f3]
      obtain ⟨c, r, A, B, rs', mo1, x1, x2, x3, x4, x5, x6, x7, x8, x9, x10, x11, x12, x13, x14⟩ := p_addRow k hk hq t v hR f1 hC hC2
      rw [x6, ob, x7, ob]
      dsimp only
      obtain ⟨mo2, hmo2⟩ : ∃ mo2, mo2 = sMO_came mo1 (MO_came mo1 + 1) := ⟨_, rfl⟩
      rw [← hmo2] at x8 x9 ⊢
      have y1 : MO_rNumber mo2 = MO_rNumber mo1 ∧ MO_rKey mo2 = MO_rKey mo1 ∧ MO_came mo2 = MO_came mo1 + 1 := by rw [hmo2]; exact ⟨rfl, rfl, rfl⟩
      have hcm : MO_came mo2 = nI (C + 1) := by rw [y1.2.2, x10, hC, nI_1]
      obtain ⟨f1', f2', f3', f4', f5', nn, mm, hfr⟩ := x9
      have hmm : mm = MO_came mo + 1 := by
        have : MO_came mo2 = mm := by rw [hfr]
        rw [← this, hcm, hC, nI_1]
      refine ⟨_, _, _, mo2, A ++ (c, r) :: B, C + 1, rfl, rfl, ?_, x8, ?_, hcm, Nat.le_refl _, ?_, ?_, ?_⟩
      · rw [hfr, hmm]
        obtain ⟨⟨z1, z2, z3, z4, z5, z6, z7⟩, z8⟩ := hX
        refine ⟨⟨z1, z2, z3, z4, z5, ?_, z7⟩, z8⟩
        show SR_came sr + 1 = MO_came mo + 1
        rw [z6]
      · obtain ⟨st, sz, N, s1, s2, s3, s4, s5, s6⟩ := hN
        have g1 : MO_step mo2 = MO_step mo ∧ MO_size mo2 = MO_size mo ∧ MO_numbered mo2 = MO_numbered mo ∧ MO_nextSpan mo2 = MO_nextSpan mo := by rw [hfr]; exact ⟨rfl, rfl, rfl, rfl⟩
        refine ⟨st, sz, N, g1.1.trans s1, g1.2.1.trans s2, s3, s4, ?_, ?_⟩
        · intro q hq
          rw [g1.2.2.1, g1.2.2.2]
          exact s5 q hq
        · intro p hp
          rw [y1.1, y1.2.1]
          rw [List.mem_append, List.mem_cons] at hp
          have hold : p ∈ L → MO_rNumber mo1 p.2 = -1 ∨ ∃ q x : Nat, q < 8 ∧ MO_rKey mo1 p.2 = nI q ∧ MO_rNumber mo1 p.2 = nI x ∧ x < N q := by
            intro hp
            rw [(x13 p hp).1, (x13 p hp).2]
            exact s6 p hp
          rcases hp with hp | rfl | hp
          · exact hold (by rw [x1]; exact List.mem_append_left _ hp)
          · exact Or.inl x14
          · exact hold (by rw [x1]; exact List.mem_append_right _ hp)
      · rw [hfr]; rfl
      · rw [hfr]; rfl
      · rw [hfr]; rfl
    · rw [if_neg f2, if_pos f3]
      exact ⟨_, _, _, mo, L, C, rfl, rfl, hX, hR, hN, hC, by omega, rfl, rfl, rfl⟩
  · rw [if_neg c1, if_neg c1]
    dsimp only [gl_let, f_SR_dropLate, f_MO_drop]
    refine ⟨_, _, _, _, L, C + 1, rfl, rfl, hX.drop, hR.came hC hC2 rfl rfl, hN, ?_, Nat.le_refl _, rfl, rfl, rfl⟩
    show MO_came mo + 1 = _
    rw [hC, nI_1]
