/-- what holds of spans made by gaps -/
def GP (P : List (Nat × Nat)) (mo : MOt) : Prop := P.Pairwise (fun p q => MO_sKey mo p.2 = MO_sKey mo q.2 → MO_sEnd mo p.2 ≤ MO_sBegin mo q.2) ∧ (∀ p ∈ P, MO_sBegin mo p.2 < MO_sEnd mo p.2) ∧ (∀ p ∈ P, ∀ q ∈ P, p ≠ q → ∀ r : Nat, r < 300 → MO_has mo (300 * p.2 + r) = 0 ∨ MO_has mo (300 * q.2 + r) = 0)
theorem p_joinAll (k : Nat) (hk : 5000 ≤ k) {L P : List (Nat × Nat)} {ss : SSt} {mo : MOt} (hl1 : ∀ r ∈ L, r.1 < 300) (hl2 : ∀ r ∈ L, r.2 < 300) (hS : SP P ss mo) (hB : BT L P (SS_had ss) (SS_untold ss) (MO_has mo) (MO_toldOf mo)) (hG : GP P mo) {q : Nat} (hq : q < 8) {t e b' e' : Int64} (hte : t < e) (hwb : MO_wBegin mo 0 = t) (hwe : MO_wEnd mo 0 = e)
    (hb1 : -4000000000000 ≤ t.toInt ∧ t.toInt ≤ 4000000000000) (hb2 : -4000000000000 ≤ e.toInt ∧ e.toInt ≤ 4000000000000) (hQ : P.filter (shp mo q t e) ≠ []) (hmn : isMn (t :: (shw mo q t e 200).map (MO_sBegin mo)) b') (hmx : isMx (e :: (shw mo q t e 200).map (MO_sEnd mo)) e') :
    ∃ (a m : Nat) (P' : List (Nat × Nat)) (ss1 : SSt) (Ha Tl Fi Si En K : Nat → Int32) (n d : Int32), a < 200 ∧ m < 200 ∧ (a, m) ∈ P' ∧ f_SS_join k (nI q) t e ss = some (nI a, ss1) ∧ f_MO_gap_L212 k (nI q) k (-1) 0 mo = some (nI m, jm mo Ha Tl Fi Si En K n) ∧ SS_ends ss1 a = e' ∧ SS_ended ss1 a = d ∧ En m = d ∧ (d = 0 ∨ d = 1) ∧
      ∀ dd : Int32, dd = 0 ∨ dd = 1 → ∀ mo2 : MOt, mo2 = sMO_sEnded (sMO_sEnd (sMO_sBegin (jm mo Ha Tl Fi Si En K n) (vp_updL (MO_sBegin mo) m b')) (vp_updL (MO_sEnd mo) m e')) (upd En m dd) → SP P' (sSS_ended ss1 (upd (SS_ended ss1) a dd)) mo2 ∧ BT L P' (SS_had ss1) (SS_untold ss1) (MO_has mo2) (MO_toldOf mo2) ∧ GP P' mo2 := by
  have hlen := hS.len
  obtain ⟨g1, g2, g3⟩ := hG
  obtain ⟨bt1, bt2, bt3, bt4⟩ := hB
  have hperm := shw_perm hS hq t e
  -- the class
  obtain ⟨v, E, Fi, Si, En, H, U, K, j1, j2⟩ := p_joinL k hk hS q t e P [] k (-1) (SS_ends ss) (SS_fires ss) (SS_since ss) (SS_ended ss) (SS_had ss) (SS_untold ss) (SS_keys ss) rfl (by omega) (Or.inl ⟨rfl, rfl, rfl⟩)
  rw [List.length_nil, nI_0, show js ss (SS_ends ss) (SS_fires ss) (SS_since ss) (SS_ended ss) (SS_had ss) (SS_untold ss) (SS_keys ss) = ss from rfl] at j1
  rcases j2 with ⟨z, _⟩ | ⟨p0, V', hV, hv, ⟨jm1, jm2, jm3, jm4, jm5⟩, jb, jo, jK⟩
  · exact absurd z hQ
  -- the reference
  have hWP : ∀ w ∈ shw mo q t e 200, ∃ p ∈ P, p.2 = w ∧ shp mo q t e p = true := by
    intro w hw
    obtain ⟨p, hp, e⟩ := List.mem_map.mp (hperm.mem_iff.mp hw)
    obtain ⟨h1, h2⟩ := List.mem_filter.mp hp
    exact ⟨p, h1, e, h2⟩
  have hPW : ∀ p ∈ P, shp mo q t e p = true → p.2 ∈ shw mo q t e 200 := fun p hp hs => hperm.mem_iff.mpr (List.mem_map_of_mem (List.mem_filter.mpr ⟨hp, hs⟩))
  have hslot : ∀ s : Nat, s < 200 → shs mo q t e s = true → ∃ p ∈ P, p.2 = s := by
    intro s hs h
    obtain ⟨p, hp, e⟩ := List.mem_map.mp ((hS.free s hs).resolve_left (fun z => nI_m1 (show q < 2 ^ 31 by omega) ((shs_iff.mp h).1.symm.trans z)))
    exact ⟨p, hp, e⟩
  have hWl : (shw mo q t e 200).length = (P.filter (shp mo q t e)).length := by rw [hperm.length_eq, List.length_map]
  obtain ⟨v2, Ha, Tl, F2, S2, E2, K2, n2, r1, r2⟩ := p_gapL212 k hk mo q hwb hwe P.length hS.spans
    (fun s hs h => by
      obtain ⟨p, hp, e⟩ := hslot s hs h
      rw [← e]
      exact ⟨(hS.bnd p hp).2.2, fun r hr => bt4 p hp r hr⟩)
    (fun s s' hs hs' hne h h' r hr => by
      obtain ⟨p, hp, e⟩ := hslot s hs h
      obtain ⟨p', hp', e'⟩ := hslot s' hs' h'
      rw [← e, ← e']
      exact g3 p hp p' hp' (fun z => hne (by rw [← e, ← e', z])) r hr)
    (by rw [hWl]; exact List.length_filter_le _ _)
    200 k 0 (-1) (MO_has mo) (MO_toldOf mo) (MO_sFired mo) (MO_sPut mo) (MO_sEnded mo) (MO_sKey mo) (MO_spans mo) (by omega) (by omega) (Or.inl ⟨rfl, rfl, rfl⟩)
  rw [nI_0, show jm mo (MO_has mo) (MO_toldOf mo) (MO_sFired mo) (MO_sPut mo) (MO_sEnded mo) (MO_sKey mo) (MO_spans mo) = mo from rfl] at r1
  rcases r2 with ⟨z, _⟩ | ⟨m, W', hW, hv2, ⟨rm2, rm3, rm4, rm5⟩, rb, ro, rK, rn, rl⟩
  · rw [z, List.length_nil, hV] at hWl
    exact absurd hWl (by simp)
  have hp0Q : p0 ∈ P.filter (shp mo q t e) := by rw [hV]; simp
  obtain ⟨hp0P, hp0s⟩ := List.mem_filter.mp hp0Q
  have hp0l := hS.lt1 p0 hp0P
  obtain ⟨pm, hpmP, hpm2, hpms⟩ := hWP m (by rw [hW]; simp)
  have hml : m < 200 := by rw [← hpm2]; exact hS.lt pm hpmP
  have hVW : V'.length = W'.length := by
    rw [hW, hV, List.length_cons, List.length_cons] at hWl
    omega
  obtain ⟨A, B, hAB, hA, hs0, hBV⟩ := List.filter_eq_cons_iff.mp hV
  have hA' : ∀ p ∈ A, ¬ shp mo q t e p = true := hA
  have hWnd : (shw mo q t e 200).Nodup := hperm.nodup_iff.mpr (nd_filmap hS.nd _)
  have hmW' : m ∉ W' := by
    rw [hW, List.nodup_cons] at hWnd
    exact hWnd.1
  have hQm : ∀ p ∈ P, shp mo q t e p = true → p.2 = m ∨ p.2 ∈ W' := by
    intro p hp hs
    have := hPW p hp hs
    rw [hW, List.mem_cons] at this
    exact this
  have hV'P : ∀ u ∈ V', u ∈ P ∧ shp mo q t e u = true := fun u hu => List.mem_filter.mp (by rw [hV]; exact List.mem_cons_of_mem _ hu)
  have ns : ∀ p ∈ P, ¬ shp mo q t e p = true → p.1 ≠ p0.1 ∧ p.1 ∉ V'.map Prod.fst ∧ p.2 ≠ m ∧ p.2 ∉ W' := by
    intro p hp hn
    refine ⟨fun z => ?_, fun z => ?_, fun z => ?_, fun z => ?_⟩
    · have := ndm_inj hS.nd1 hp hp0P z
      exact hn (this ▸ hp0s)
    · obtain ⟨u, hu, e⟩ := List.mem_map.mp z
      have := ndm_inj hS.nd1 (hV'P u hu).1 hp e
      exact hn (this ▸ (hV'P u hu).2)
    · have := ndm_inj hS.nd hp hpmP (z.trans hpm2.symm)
      exact hn (this ▸ hpms)
    · obtain ⟨u, hu, e, hs⟩ := hWP p.2 (by rw [hW]; exact List.mem_cons_of_mem _ z)
      have := ndm_inj hS.nd hu hp e
      exact hn (this ▸ hs)
  have hp0V' : p0.1 ∉ V'.map Prod.fst := by
    have := hS.nd1
    have h2 : ((P.filter (shp mo q t e)).map Prod.fst).Nodup := List.Sublist.nodup (List.Sublist.map _ List.filter_sublist) this
    rw [hV, List.map_cons, List.nodup_cons] at h2
    exact h2.1
  have hk0 : MO_sKey mo p0.2 = nI q := (shs_iff.mp hp0s).1
  have hkm : MO_sKey mo m = nI q := by rw [← hpm2]; exact (shs_iff.mp hpms).1
  -- begin and end
  have hsrt := hS.srt
  rw [hAB, List.pairwise_append, List.pairwise_cons] at hsrt
  have hg := g1
  rw [hAB, List.pairwise_append, List.pairwise_cons] at hg
  have hBmem : ∀ u ∈ B, u ∈ P := fun u hu => by rw [hAB]; exact List.mem_append_right _ (List.mem_cons_of_mem _ hu)
  have hAmem : ∀ u ∈ A, u ∈ P := fun u hu => by rw [hAB]; exact List.mem_append_left _ hu
  have hbq : ∀ p ∈ P, shp mo q t e p = true → (MO_sBegin mo p0.2).toInt ≤ (MO_sBegin mo p.2).toInt := by
    intro p hp hs
    rw [hAB, List.mem_append, List.mem_cons] at hp
    rcases hp with hp | rfl | hp
    · exact absurd hs (hA' p hp)
    · omega
    · have := hsrt.2.1.1 p hp
      have hkp : MO_sKey mo p.2 = nI q := (shs_iff.mp hs).1
      unfold sbf at this
      rw [hk0, hkp, pi_lt, pl_lt, pl_eq] at this
      omega
  have hbegin : (if t < SS_begins ss p0.1 then t else SS_begins ss p0.1) = b' := by
    rw [(hS.eqs p0 hp0P).2.1]
    have h1 := hmn.2 t (by simp)
    have h2 := hmn.2 (MO_sBegin mo p0.2) (List.mem_cons_of_mem _ (List.mem_map_of_mem (hPW p0 hp0P hp0s)))
    have h3 : b'.toInt = t.toInt ∨ (MO_sBegin mo p0.2).toInt ≤ b'.toInt := by
      rcases List.mem_cons.mp hmn.1 with z | z
      · left; rw [z]
      · right
        obtain ⟨w, hw, e⟩ := List.mem_map.mp z
        obtain ⟨p, hp, e2, hs⟩ := hWP w hw
        rw [← e, ← e2]
        exact hbq p hp hs
    rw [pl_le] at h1 h2
    by_cases z : t < MO_sBegin mo p0.2
    · rw [if_pos z, pl_eq]
      rw [pl_lt] at z
      omega
    · rw [if_neg z, pl_eq]
      rw [pl_lt] at z
      omega
  have hEm : isMx (e :: (P.filter (shp mo q t e)).map (fun p => MO_sEnd mo p.2)) (if e < E p0.1 then E p0.1 else e) := by
    obtain ⟨y1, y2⟩ := jm1
    by_cases z : e < E p0.1
    · rw [if_pos z]
      refine ⟨List.mem_cons_of_mem _ y1, fun y hy => ?_⟩
      rcases List.mem_cons.mp hy with rfl | hy
      · rw [pl_le]; rw [pl_lt] at z; omega
      · exact y2 y hy
    · rw [if_neg z]
      refine ⟨by simp, fun y hy => ?_⟩
      rcases List.mem_cons.mp hy with rfl | hy
      · rw [pl_le]; omega
      · have := y2 y hy
        rw [pl_le] at this ⊢
        rw [pl_lt] at z
        omega
  have hend : (if e < E p0.1 then E p0.1 else e) = e' := by
    refine isMx_eq ?_ hEm hmx
    intro z
    rw [List.mem_cons, List.mem_cons, List.mem_map, List.mem_map]
    constructor
    · rintro (y | ⟨p, hp, y⟩)
      · exact Or.inl y
      · obtain ⟨h1, h2⟩ := List.mem_filter.mp hp
        exact Or.inr ⟨p.2, hPW p h1 h2, y⟩
    · rintro (y | ⟨w, hw, y⟩)
      · exact Or.inl y
      · obtain ⟨p, hp, e2, hs⟩ := hWP w hw
        exact Or.inr ⟨p, List.mem_filter.mpr ⟨hp, hs⟩, by rw [e2]; exact y⟩
  -- the sweep
  obtain ⟨X, hX⟩ : ∃ X, X = sSS_ends (sSS_begins (js ss E Fi Si En H U K) (vp_updL (SS_begins ss) p0.1 b')) (vp_updL E p0.1 e') := ⟨_, rfl⟩
  have hXk : SS_keys X = K := by rw [hX]
  have hXo : SS_order X = SS_order ss := by rw [hX]
  have hXn : SS_kept X = SS_kept ss := by rw [hX]
  obtain ⟨F, hO, hP⟩ := hS.ord
  obtain ⟨o, F', s1, s2, s3⟩ := p_SSsweep k hk (ss := X) (A := P.map Prod.fst) (F := F) (by rw [hXo]; exact hO) hP (by rw [hXn, List.length_map]; exact hS.kept)
  have hP'eq : (P.map Prod.fst).filter (stS X) = (A ++ (p0.1, m) :: B.filter (fun p => !shp mo q t e p)).map Prod.fst := by
    have hst : ∀ x : Nat, stS X x = decide (¬ K x = -1) := fun x => by unfold stS; rw [hXk]
    have hkeep : ∀ p ∈ P, ¬ shp mo q t e p = true → stS X p.1 = true := by
      intro p hp hn
      rw [hst, (jK p.1).2 (ns p hp hn).2.1, (hS.eqs p hp).1]
      obtain ⟨x, hx, ex⟩ := hS.keyr p hp
      rw [ex]
      exact decide_eq_true (nI_m1 (by omega))
    rw [hAB, List.map_append, List.map_cons, List.filter_append, List.map_append, List.map_cons]
    have h1 : (A.map Prod.fst).filter (stS X) = A.map Prod.fst := by
      rw [List.filter_eq_self]
      intro x hx
      obtain ⟨p, hp, rfl⟩ := List.mem_map.mp hx
      exact hkeep p (hAmem p hp) (hA' p hp)
    have h2 : stS X p0.1 = true := by
      rw [hst, (jK p0.1).2 hp0V', (hS.eqs p0 hp0P).1, hk0]
      exact decide_eq_true (nI_m1 (by omega))
    have h3 : (B.map Prod.fst).filter (stS X) = (B.filter (fun p => !shp mo q t e p)).map Prod.fst := by
      rw [List.filter_map]
      congr 1
      apply List.filter_congr
      intro p hp
      show stS X p.1 = _
      by_cases z : shp mo q t e p = true
      · rw [hst, (jK p.1).1 (List.mem_map_of_mem (by rw [← hBV]; exact List.mem_filter.mpr ⟨hp, z⟩)), z]
        rfl
      · rw [hkeep p (hBmem p hp) z]
        have : shp mo q t e p = false := by simpa using z
        rw [this]; rfl
    rw [h1, List.filter_cons_of_pos h2, h3]
  rw [hP'eq] at s1 s2 s3
  rw [List.length_map] at s1
  obtain ⟨Bf, hBf⟩ : ∃ Bf, Bf = B.filter (fun p => !shp mo q t e p) := ⟨_, rfl⟩
  rw [← hBf] at s1 s2 s3
  have hBfm : ∀ p ∈ Bf, p ∈ B ∧ ¬ shp mo q t e p = true := by
    intro p hp
    rw [hBf] at hp
    have := List.mem_filter.mp hp
    exact ⟨this.1, by have h2 := this.2; simp at h2; rw [h2]; decide⟩
  have hmem : ∀ p ∈ A ++ (p0.1, m) :: Bf, p = (p0.1, m) ∨ (p ∈ P ∧ ¬ shp mo q t e p = true) := by
    intro p hp
    rw [List.mem_append, List.mem_cons] at hp
    rcases hp with hp | hp | hp
    · exact Or.inr ⟨hAmem p hp, hA' p hp⟩
    · exact Or.inl hp
    · exact Or.inr ⟨hBmem p (hBfm p hp).1, (hBfm p hp).2⟩
  have hlenP : (A ++ (p0.1, m) :: Bf).length = P.length - W'.length := by
    have h1 : B.length = (B.filter (shp mo q t e)).length + (B.filter (fun p => !shp mo q t e p)).length := by
      rw [← List.length_append]
      exact (List.filter_append_perm (shp mo q t e) B).length_eq.symm
    rw [hBV] at h1
    rw [hAB, List.length_append, List.length_append, List.length_cons, List.length_cons, hBf]
    omega
  have hdd : En p0.1 = E2 m := by
    have : (¬ En p0.1 = 0) ↔ (¬ E2 m = 0) := by
      rw [jm5, rm5]
      constructor
      · rintro ⟨p, hp, z⟩
        obtain ⟨h1, h2⟩ := List.mem_filter.mp hp
        exact ⟨p.2, hPW p h1 h2, z⟩
      · rintro ⟨w, hw, z⟩
        obtain ⟨p, hp, e2, hs⟩ := hWP w hw
        exact ⟨p, List.mem_filter.mpr ⟨hp, hs⟩, by rw [e2]; exact z⟩
    rcases jm4 with a1 | a1 <;> rcases rm4 with a2 | a2
    · rw [a1, a2]
    · exact absurd (this.mpr (by rw [a2]; decide)) (fun y => y a1)
    · exact absurd (this.mp (by rw [a1]; decide)) (fun y => y a2)
    · rw [a1, a2]
  refine ⟨p0.1, m, A ++ (p0.1, m) :: Bf, sSS_kept (sSS_order X o) (nI (A ++ (p0.1, m) :: Bf).length), Ha, Tl, F2, S2, E2, K2, n2, En p0.1, hp0l, hml, by simp, ?_, ?_, ?_, ?_, hdd.symm, jm4, ?_⟩
  · unfold f_SS_join
    rw [j1, ob]
    dsimp only
    rw [hv, if_neg (nI_m1 (by omega)), if_neg (nI_in hp0l (by omega)), nI_clamp (show p0.1 < 2 ^ 31 by omega)]
    dsimp only [gl_let]
    have hXe : sSS_ends (sSS_begins (js ss E Fi Si En H U K) (vp_updL (SS_begins (js ss E Fi Si En H U K)) p0.1 (if t < SS_begins (js ss E Fi Si En H U K) p0.1 then t else SS_begins (js ss E Fi Si En H U K) p0.1))) (vp_updL (SS_ends (js ss E Fi Si En H U K)) p0.1 (if e < SS_ends (js ss E Fi Si En H U K) p0.1 then SS_ends (js ss E Fi Si En H U K) p0.1 else e)) = X := by
      rw [hX]
      show sSS_ends (sSS_begins (js ss E Fi Si En H U K) (vp_updL (SS_begins ss) p0.1 (if t < SS_begins ss p0.1 then t else SS_begins ss p0.1))) (vp_updL E p0.1 (if e < E p0.1 then E p0.1 else e)) = _
      rw [hbegin, hend]
    rw [hXe, s1, ob]
  · rw [r1, hv2]
  · rw [hX]
    exact pk_uLs
  · rw [hX]
  · intro dd hdd2 mo2 hmo2
    obtain ⟨fb, hfb⟩ : ∃ fb, fb = vp_updL (SS_begins ss) p0.1 b' := ⟨_, rfl⟩
    obtain ⟨fe, hfe⟩ : ∃ fe, fe = vp_updL E p0.1 e' := ⟨_, rfl⟩
    obtain ⟨fd, hfd⟩ : ∃ fd, fd = upd En p0.1 dd := ⟨_, rfl⟩
    obtain ⟨gb, hgb⟩ : ∃ gb, gb = vp_updL (MO_sBegin mo) m b' := ⟨_, rfl⟩
    obtain ⟨ge, hge⟩ : ∃ ge, ge = vp_updL (MO_sEnd mo) m e' := ⟨_, rfl⟩
    obtain ⟨gd, hgd⟩ : ∃ gd, gd = upd E2 m dd := ⟨_, rfl⟩
    rw [← hfb, ← hfe] at hX
    rw [← hgb, ← hge, ← hgd] at hmo2
    have q0 : ∀ p ∈ P, ¬ shp mo q t e p = true → K2 p.2 = MO_sKey mo p.2 ∧ gb p.2 = MO_sBegin mo p.2 ∧ ge p.2 = MO_sEnd mo p.2 := by
      intro p hp hn
      obtain ⟨n1, n2', n3, n4⟩ := ns p hp hn
      rw [hgb, hge, pk_uLn n3, pk_uLn n3]
      exact ⟨(rK p.2).2 n4, rfl, rfl⟩
    have qm : K2 m = nI q ∧ gb m = b' ∧ ge m = e' := by
      rw [hgb, hge, pk_uLs, pk_uLs]
      exact ⟨((rK m).2 hmW').trans hkm, rfl, rfl⟩
    have hb'0 : b'.toInt ≤ (MO_sBegin mo p0.2).toInt ∧ b'.toInt ≤ t.toInt ∧ (b'.toInt = t.toInt ∨ b'.toInt = (MO_sBegin mo p0.2).toInt) := by
      have h1 := hbegin
      rw [(hS.eqs p0 hp0P).2.1] at h1
      by_cases z : t < MO_sBegin mo p0.2
      · rw [if_pos z] at h1
        rw [← h1]; rw [pl_lt] at z; omega
      · rw [if_neg z] at h1
        rw [← h1]; rw [pl_lt] at z; omega
    have he'0 : e.toInt ≤ e'.toInt := by
      have := hmx.2 e (by simp)
      rw [pl_le] at this; exact this
    have hte' : t.toInt < e.toInt := by rw [pl_lt] at hte; exact hte
    obtain ⟨-, hs0b, hs0e⟩ := shs_iff.mp hp0s
    rw [pl_lt] at hs0b hs0e
    have hAless : ∀ a ∈ A, MO_sKey mo a.2 = nI q → (MO_sEnd mo a.2).toInt ≤ b'.toInt := by
      intro a ha hka
      have h1 := hg.2.2 a ha p0 (by simp) (hka.trans hk0.symm)
      have h2 := g2 a (hAmem a ha)
      have h3 : ¬ (MO_sBegin mo a.2 < e ∧ t < MO_sEnd mo a.2) := fun z => hA' a ha (shs_iff.mpr ⟨hka, z.1, z.2⟩)
      rw [pl_le] at h1
      rw [pl_lt] at h2
      rw [pl_lt, pl_lt] at h3
      omega
    have hBless : ∀ b ∈ Bf, MO_sKey mo b.2 = nI q → e'.toInt ≤ (MO_sBegin mo b.2).toInt := by
      intro b hb hkb
      obtain ⟨hbB, hbn⟩ := hBfm b hb
      have hbP := hBmem b hbB
      have h1 := hg.2.1.1 b hbB (hk0.trans hkb.symm)
      have h2 := g2 b hbP
      have h3 : ¬ (MO_sBegin mo b.2 < e ∧ t < MO_sEnd mo b.2) := fun z => hbn (shs_iff.mpr ⟨hkb, z.1, z.2⟩)
      rw [pl_le] at h1
      rw [pl_lt] at h2
      rw [pl_lt, pl_lt] at h3
      have h4 : e.toInt ≤ (MO_sBegin mo b.2).toInt := by omega
      rcases List.mem_cons.mp hmx.1 with z | z
      · rw [z]; exact h4
      · obtain ⟨w, hw, ew⟩ := List.mem_map.mp z
        obtain ⟨u, hu, e2, hus⟩ := hWP w hw
        rw [← ew, ← e2]
        obtain ⟨hku, hub, hue⟩ := shs_iff.mp hus
        rw [pl_lt] at hub hue
        rcases pw_tri g1 hu hbP with y | y | y
        · exact absurd (y ▸ hus) hbn
        · have := y (hku.trans hkb.symm)
          rw [pl_le] at this; exact this
        · have := y (hkb.trans hku.symm)
          rw [pl_le] at this
          omega
    have hsp : SP (A ++ (p0.1, m) :: Bf) (sSS_ended (sSS_kept (sSS_order X o) (nI (A ++ (p0.1, m) :: Bf).length)) fd) mo2 := by
      rw [hmo2, hX]
      refine ⟨rfl, ?_, ⟨F', s2, s3⟩, ?_, ?_, ?_, ?_, ?_, ?_, ?_⟩
      · rw [hlenP]; exact rn
      · intro p hp
        show K p.1 = K2 p.2 ∧ fb p.1 = gb p.2 ∧ fe p.1 = ge p.2 ∧ Fi p.1 = F2 p.2 ∧ Si p.1 = S2 p.2 ∧ fd p.1 = gd p.2
        rcases hmem p hp with rfl | ⟨hpP, hn⟩
        · dsimp only
          rw [qm.1, qm.2.1, qm.2.2, hfb, hfe, hfd, hgd, pk_uLs, pk_uLs, pk_us, pk_us]
          refine ⟨?_, rfl, rfl, ?_, ?_, rfl⟩
          · rw [(jK p0.1).2 hp0V', (hS.eqs p0 hp0P).1, hk0]
          · refine isMxI_eq ?_ jm2 rm2
            intro z
            rw [List.mem_map, List.mem_map]
            constructor
            · rintro ⟨p, hp, y⟩
              obtain ⟨h1, h2⟩ := List.mem_filter.mp hp
              exact ⟨p.2, hPW p h1 h2, y⟩
            · rintro ⟨w, hw, y⟩
              obtain ⟨p, hp, e2, hs⟩ := hWP w hw
              exact ⟨p, List.mem_filter.mpr ⟨hp, hs⟩, by rw [e2]; exact y⟩
          · rw [jm3, rm3]
            apply isum_perm
            have := (hperm.map (MO_sPut mo)).symm
            rw [List.map_map] at this
            exact this
        · obtain ⟨n1, n2', n3, n4⟩ := ns p hpP hn
          obtain ⟨o1, o2, o3, o4, -⟩ := jo p.1 n1
          obtain ⟨u1, u2, u3, -⟩ := ro p.2 n3
          obtain ⟨z1, z2, z3, z4, z5, z6⟩ := hS.eqs p hpP
          rw [(q0 p hpP hn).1, (q0 p hpP hn).2.1, (q0 p hpP hn).2.2, hfb, hfe, hfd, hgd, pk_uLn n1, pk_uLn n1, pk_un n1, pk_un n3, (jK p.1).2 n2', o1, o2, o3, o4, u1, u2, u3]
          exact ⟨z1, z2, z3, z4, z5, z6⟩
      · intro p hp
        show ∃ x : Nat, x < 8 ∧ K2 p.2 = nI x
        rcases hmem p hp with rfl | ⟨hpP, hn⟩
        · exact ⟨q, hq, qm.1⟩
        · rw [(q0 p hpP hn).1]; exact hS.keyr p hpP
      · intro p hp
        rcases hmem p hp with rfl | ⟨hpP, hn⟩
        · exact hml
        · exact hS.lt p hpP
      · have hsub : (A ++ Bf).Sublist (A ++ p0 :: B) := by
          rw [hBf]
          exact List.Sublist.append (List.Sublist.refl _) (List.Sublist.cons _ List.filter_sublist)
        have h1 : ((A ++ Bf).map Prod.snd).Nodup := List.Sublist.nodup (List.Sublist.map _ hsub) (by rw [← hAB]; exact hS.nd)
        have hperm2 : (A ++ (p0.1, m) :: Bf).Perm ((p0.1, m) :: (A ++ Bf)) := List.perm_middle
        rw [(hperm2.map Prod.snd).nodup_iff, List.map_cons, List.nodup_cons]
        refine ⟨?_, h1⟩
        intro z
        obtain ⟨u, hu, eu⟩ := List.mem_map.mp z
        rw [List.mem_append] at hu
        rcases hu with hu | hu
        · exact (ns u (hAmem u hu) (hA' u hu)).2.2.1 eu
        · exact (ns u (hBmem u (hBfm u hu).1) (hBfm u hu).2).2.2.1 eu
      · intro s hs
        show K2 s = -1 ∨ _
        by_cases z1 : s ∈ W'
        · exact Or.inl ((rK s).1 z1)
        · rw [(rK s).2 z1]
          rcases hS.free s hs with z | z
          · exact Or.inl z
          · right
            obtain ⟨p, hp, ep⟩ := List.mem_map.mp z
            rw [List.map_append, List.map_cons, List.mem_append, List.mem_cons]
            by_cases hsh : shp mo q t e p = true
            · rcases hQm p hp hsh with y | y
              · exact Or.inr (Or.inl (ep.symm.trans y))
              · rw [ep] at y; exact absurd y z1
            · rw [hAB, List.mem_append, List.mem_cons] at hp
              rcases hp with hp | hp | hp
              · exact Or.inl (ep ▸ List.mem_map_of_mem hp)
              · rw [hp] at hsh; exact absurd hp0s hsh
              · refine Or.inr (Or.inr (ep ▸ List.mem_map_of_mem ?_))
                rw [hBf]
                exact List.mem_filter.mpr ⟨hp, by simpa using hsh⟩
      · show (A ++ (p0.1, m) :: Bf).Pairwise (fun p q => sbf K2 gb ge p.2 q.2)
        have conv : ∀ a b : Nat × Nat, a ∈ P → ¬ shp mo q t e a = true → b ∈ P → ¬ shp mo q t e b = true → sbf (MO_sKey mo) (MO_sBegin mo) (MO_sEnd mo) a.2 b.2 → sbf K2 gb ge a.2 b.2 := by
          intro a b ha hna hb hnb hab
          obtain ⟨y1, y2, y3⟩ := q0 a ha hna
          obtain ⟨x1, x2, x3⟩ := q0 b hb hnb
          unfold sbf at hab ⊢
          rw [y1, y2, y3, x1, x2, x3]
          exact hab
        rw [List.pairwise_append, List.pairwise_cons]
        refine ⟨hsrt.1.imp_of_mem (fun {a b} ha hb hab => conv a b (hAmem a ha) (hA' a ha) (hAmem b hb) (hA' b hb) hab), ⟨?_, ?_⟩, ?_⟩
        · intro b hb
          obtain ⟨hbB, hbn⟩ := hBfm b hb
          obtain ⟨x1, x2, x3⟩ := q0 b (hBmem b hbB) hbn
          have h1 := hsrt.2.1.1 b hbB
          unfold sbf at h1 ⊢
          dsimp only
          rw [qm.1, qm.2.1, qm.2.2, x1, x2, x3]
          rw [hk0] at h1
          rcases h1 with z | ⟨z, _⟩
          · exact Or.inl z
          · right
            refine ⟨z, Or.inl ?_⟩
            have h2 := hg.2.1.1 b hbB (hk0.trans z)
            have h3 := g2 p0 hp0P
            rw [pl_le] at h2
            rw [pl_lt] at h3 ⊢
            omega
        · rw [hBf]
          refine (hsrt.2.1.2.filter _).imp_of_mem ?_
          intro a b ha hb hab
          rw [← hBf] at ha hb
          exact conv a b (hBmem a (hBfm a ha).1) (hBfm a ha).2 (hBmem b (hBfm b hb).1) (hBfm b hb).2 hab
        · intro a ha b hb
          rcases List.mem_cons.mp hb with rfl | hb
          · obtain ⟨y1, y2, y3⟩ := q0 a (hAmem a ha) (hA' a ha)
            have h1 := hsrt.2.2 a ha p0 (by simp)
            unfold sbf at h1 ⊢
            dsimp only
            rw [qm.1, qm.2.1, qm.2.2, y1, y2, y3]
            rw [hk0] at h1
            rcases h1 with z | ⟨z, _⟩
            · exact Or.inl z
            · right
              refine ⟨z, Or.inl ?_⟩
              have h2 := hAless a ha z
              have h3 := g2 a (hAmem a ha)
              rw [pl_lt] at h3 ⊢
              omega
          · exact conv a b (hAmem a ha) (hA' a ha) (hBmem b (hBfm b hb).1) (hBfm b hb).2 (hsrt.2.2 a ha b (List.mem_cons_of_mem _ (hBfm b hb).1))
      · intro p hp
        show (-4000000000000 ≤ (gb p.2).toInt ∧ (gb p.2).toInt ≤ 4000000000000) ∧ (-4000000000000 ≤ (ge p.2).toInt ∧ (ge p.2).toInt ≤ 4000000000000) ∧ (gd p.2 = 0 ∨ gd p.2 = 1)
        rcases hmem p hp with rfl | ⟨hpP, hn⟩
        · dsimp only
          rw [qm.2.1, qm.2.2, hgd, pk_us]
          refine ⟨?_, ?_, hdd2⟩
          · have := (hS.bnd p0 hp0P).1
            omega
          · rcases List.mem_cons.mp hmx.1 with z | z
            · rw [z]; exact hb2
            · obtain ⟨w, hw, ew⟩ := List.mem_map.mp z
              obtain ⟨u, hu, e2, hus⟩ := hWP w hw
              rw [← ew, ← e2]
              exact (hS.bnd u hu).2.1
        · obtain ⟨n1, n2', n3, n4⟩ := ns p hpP hn
          rw [(q0 p hpP hn).2.1, (q0 p hpP hn).2.2, hgd, pk_un n3, (ro p.2 n3).2.2.1]
          exact hS.bnd p hpP
    have hbt : BT L (A ++ (p0.1, m) :: Bf) H U Ha Tl := by
      refine ⟨?_, ?_, ?_, ?_⟩
      · intro p hp r hr
        have hr1 := hl1 r hr
        have hr2 := hl2 r hr
        rcases hmem p hp with rfl | ⟨hpP, hn⟩
        · dsimp only
          obtain ⟨y1, y2, y3, y4⟩ := rb r.2 hr2
          rw [(jb r.1 hr1).1, (jb r.1 hr1).2, List.any_eq_true, List.any_eq_true, y2]
          constructor
          · constructor
            · rintro ⟨u, hu, z⟩
              obtain ⟨h1, h2⟩ := List.mem_filter.mp hu
              exact ⟨u.2, hPW u h1 h2, (bt1 u h1 r hr).1.mp z⟩
            · rintro ⟨w, hw, z⟩
              obtain ⟨u, hu, e2, hus⟩ := hWP w hw
              exact ⟨u, List.mem_filter.mpr ⟨hu, hus⟩, (bt1 u hu r hr).1.mpr (by rw [e2]; exact z)⟩
          · constructor
            · rintro ⟨u, hu, z⟩
              obtain ⟨h1, h2⟩ := List.mem_filter.mp hu
              obtain ⟨x1, x2⟩ := (bt1 u h1 r hr).2.mp z
              exact ⟨⟨u.2, hPW u h1 h2, x1⟩, (y3 u.2 (hPW u h1 h2) x1).trans x2⟩
            · rintro ⟨⟨w, hw, z⟩, z2⟩
              obtain ⟨u, hu, e2, hus⟩ := hWP w hw
              have := y3 w hw z
              exact ⟨u, List.mem_filter.mpr ⟨hu, hus⟩, (bt1 u hu r hr).2.mpr (by rw [e2]; exact ⟨z, this.symm.trans z2⟩)⟩
        · obtain ⟨n1, n2', n3, n4⟩ := ns p hpP hn
          obtain ⟨-, -, -, -, o5⟩ := jo p.1 n1
          obtain ⟨-, -, -, u4⟩ := ro p.2 n3
          rw [(o5 r.1 hr1).1, (o5 r.1 hr1).2, (u4 r.2 hr2).1, (u4 r.2 hr2).2]
          exact bt1 p hpP r hr
      · intro p hp x hx hnx
        rcases hmem p hp with rfl | ⟨hpP, hn⟩
        · dsimp only
          rw [(jb x hx).1, (jb x hx).2, List.any_eq_false, List.any_eq_false]
          constructor
          · intro u hu
            rw [(bt2 u (List.mem_filter.mp hu).1 x hx hnx).1]; decide
          · intro u hu
            rw [(bt2 u (List.mem_filter.mp hu).1 x hx hnx).2]; decide
        · obtain ⟨n1, n2', n3, n4⟩ := ns p hpP hn
          obtain ⟨-, -, -, -, o5⟩ := jo p.1 n1
          rw [(o5 x hx).1, (o5 x hx).2]
          exact bt2 p hpP x hx hnx
      · intro p hp x hx hnx
        rcases hmem p hp with rfl | ⟨hpP, hn⟩
        · dsimp only
          obtain ⟨y1, y2, y3, y4⟩ := rb x hx
          apply Classical.byContradiction
          intro z
          obtain ⟨w, hw, z2⟩ := y2.mp z
          obtain ⟨u, hu, e2, hus⟩ := hWP w hw
          exact z2 (by rw [← e2]; exact bt3 u hu x hx hnx)
        · obtain ⟨n1, n2', n3, n4⟩ := ns p hpP hn
          obtain ⟨-, -, -, u4⟩ := ro p.2 n3
          rw [(u4 x hx).1]
          exact bt3 p hpP x hx hnx
      · intro p hp x hx
        rcases hmem p hp with rfl | ⟨hpP, hn⟩
        · dsimp only
          obtain ⟨y1, y2, y3, y4⟩ := rb x hx
          rcases y1 with z | z
          · left
            refine ⟨z, y4 (fun w hw => ?_)⟩
            apply Classical.byContradiction
            intro z2
            exact y2.mpr ⟨w, hw, z2⟩ z
          · right
            refine ⟨z, ?_⟩
            obtain ⟨w, hw, z2⟩ := y2.mp (by rw [z]; decide)
            rw [y3 w hw z2]
            obtain ⟨u, hu, e2, hus⟩ := hWP w hw
            rw [← e2]
            rw [← e2] at z2
            rcases bt4 u hu x hx with y | y
            · exact absurd y.1 z2
            · exact y.2
        · obtain ⟨n1, n2', n3, n4⟩ := ns p hpP hn
          obtain ⟨-, -, -, u4⟩ := ro p.2 n3
          rw [(u4 x hx).1, (u4 x hx).2]
          exact bt4 p hpP x hx
    refine ⟨?_, ?_, ?_⟩
    · have : sSS_ended (sSS_kept (sSS_order X o) (nI (A ++ (p0.1, m) :: Bf).length)) (upd (SS_ended (sSS_kept (sSS_order X o) (nI (A ++ (p0.1, m) :: Bf).length))) p0.1 dd) = sSS_ended (sSS_kept (sSS_order X o) (nI (A ++ (p0.1, m) :: Bf).length)) fd := by rw [hfd, hX]
      rw [this]
      exact hsp
    · rw [hmo2, hX]
      exact hbt
    · rw [hmo2]
      refine ⟨?_, ?_, ?_⟩
      · show (A ++ (p0.1, m) :: Bf).Pairwise (fun p q => K2 p.2 = K2 q.2 → ge p.2 ≤ gb q.2)
        have conv : ∀ a b : Nat × Nat, a ∈ P → ¬ shp mo q t e a = true → b ∈ P → ¬ shp mo q t e b = true → (MO_sKey mo a.2 = MO_sKey mo b.2 → MO_sEnd mo a.2 ≤ MO_sBegin mo b.2) → (K2 a.2 = K2 b.2 → ge a.2 ≤ gb b.2) := by
          intro a b ha hna hb hnb hab
          obtain ⟨y1, y2, y3⟩ := q0 a ha hna
          obtain ⟨x1, x2, x3⟩ := q0 b hb hnb
          rw [y1, y3, x1, x2]
          exact hab
        rw [List.pairwise_append, List.pairwise_cons]
        refine ⟨hg.1.imp_of_mem (fun {a b} ha hb hab => conv a b (hAmem a ha) (hA' a ha) (hAmem b hb) (hA' b hb) hab), ⟨?_, ?_⟩, ?_⟩
        · intro b hb hkb
          obtain ⟨hbB, hbn⟩ := hBfm b hb
          obtain ⟨x1, x2, x3⟩ := q0 b (hBmem b hbB) hbn
          dsimp only at hkb ⊢
          rw [qm.1, x1] at hkb
          rw [qm.2.2, x2, pl_le]
          exact hBless b hb hkb.symm
        · rw [hBf]
          refine (hg.2.1.2.filter _).imp_of_mem ?_
          intro a b ha hb hab
          rw [← hBf] at ha hb
          exact conv a b (hBmem a (hBfm a ha).1) (hBfm a ha).2 (hBmem b (hBfm b hb).1) (hBfm b hb).2 hab
        · intro a ha b hb
          rcases List.mem_cons.mp hb with rfl | hb
          · intro hka
            obtain ⟨y1, y2, y3⟩ := q0 a (hAmem a ha) (hA' a ha)
            dsimp only at hka ⊢
            rw [qm.1, y1] at hka
            rw [qm.2.1, y3, pl_le]
            exact hAless a ha hka
          · exact conv a b (hAmem a ha) (hA' a ha) (hBmem b (hBfm b hb).1) (hBfm b hb).2 (hg.2.2 a ha b (List.mem_cons_of_mem _ (hBfm b hb).1))
      · intro p hp
        show gb p.2 < ge p.2
        rcases hmem p hp with rfl | ⟨hpP, hn⟩
        · dsimp only
          rw [qm.2.1, qm.2.2, pl_lt]
          omega
        · rw [(q0 p hpP hn).2.1, (q0 p hpP hn).2.2]
          exact g2 p hpP
      · have key : ∀ p ∈ P, ¬ shp mo q t e p = true → ∀ r : Nat, r < 300 → Ha (300 * m + r) = 0 ∨ Ha (300 * p.2 + r) = 0 := by
          intro p hpP hn r hr
          obtain ⟨n1, n2', n3, n4⟩ := ns p hpP hn
          obtain ⟨-, -, -, u4⟩ := ro p.2 n3
          obtain ⟨y1, y2, y3, y4⟩ := rb r hr
          by_cases z : Ha (300 * m + r) = 0
          · exact Or.inl z
          · right
            rw [(u4 r hr).1]
            obtain ⟨w, hw, z2⟩ := y2.mp z
            obtain ⟨u, hu, e2, hus⟩ := hWP w hw
            rw [← e2] at z2
            exact (g3 u hu p hpP (fun y => hn (y ▸ hus)) r hr).resolve_left z2
        intro p hp p' hp' hne r hr
        show Ha (300 * p.2 + r) = 0 ∨ Ha (300 * p'.2 + r) = 0
        rcases hmem p hp with rfl | ⟨hpP, hn⟩
        · rcases hmem p' hp' with rfl | ⟨hpP', hn'⟩
          · exact absurd rfl hne
          · exact key p' hpP' hn' r hr
        · rcases hmem p' hp' with rfl | ⟨hpP', hn'⟩
          · exact (key p hpP hn r hr).symm
          · obtain ⟨-, -, n3, -⟩ := ns p hpP hn
            obtain ⟨-, -, n3', -⟩ := ns p' hpP' hn'
            rw [((ro p.2 n3).2.2.2 r hr).1, ((ro p'.2 n3').2.2.2 r hr).1]
            exact g3 p hpP p' hpP' hne r hr
