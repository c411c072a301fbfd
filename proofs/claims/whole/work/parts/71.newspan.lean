theorem SP.hole {P : List (Nat × Nat)} {ss : SSt} {mo : MOt} (h : SP P ss mo) (hl : P.length < 200) : ∃ r : Nat, r < 200 ∧ MO_sKey mo r = -1 := by
  apply Classical.byContradiction
  intro hn
  have := pigeon 200 (P.map Prod.snd) (fun r hr => (h.free r hr).resolve_left (fun z => hn ⟨r, hr, z⟩))
  rw [List.length_map] at this
  omega
theorem p_newSpanL3 (mo : MOt) : ∀ (n i : Nat), i ≤ 200 → 200 - i < n → (∃ r : Nat, i ≤ r ∧ r < 200 ∧ MO_sKey mo r = -1) → ∃ r : Nat, r < 200 ∧ MO_sKey mo r = -1 ∧ f_MO_newSpan_L3 mo n (nI i) = some (nI r) := by
  intro n
  induction n with
  | zero => intro i _ h; omega
  | succ n ih =>
    intro i hi hn he
    obtain ⟨r, h1, h2, h3⟩ := he
    rw [f_MO_newSpan_L3, if_neg (nI_in (show i < 200 by omega) (by omega)), nI_clamp (by omega)]
    by_cases hc : MO_sKey mo i = -1
    · rw [if_pos hc]
      exact ⟨i, by omega, hc, rfl⟩
    · rw [if_neg hc]
      dsimp only [gl_let]
      rw [nI_1]
      exact ih (i + 1) (by omega) (by omega) ⟨r, by by_cases e : r = i; (subst e; exact absurd h3 hc); omega, h2, h3⟩
theorem p_newSpanL72 {s : Nat} (hs : s < 200) : ∀ (n i : Nat) (mo : MOt), i ≤ 300 → 300 - i < n → ∃ h t : Nat → Int32, f_MO_newSpan_L72 (nI s) n (nI i) mo = some (sMO_toldOf (sMO_has mo h) t) ∧ (∀ x : Nat, h x = if 300 * s + i ≤ x ∧ x < 300 * s + 300 then 0 else MO_has mo x) ∧ (∀ x : Nat, t x = if 300 * s + i ≤ x ∧ x < 300 * s + 300 then 0 else MO_toldOf mo x) := by
  intro n
  induction n with
  | zero => intro i mo _ h; omega
  | succ n ih =>
    intro i mo hi hn
    rw [f_MO_newSpan_L72]
    by_cases hc : i = 300
    · subst hc
      rw [if_pos (by decide)]
      exact ⟨MO_has mo, MO_toldOf mo, rfl, fun x => by rw [if_neg (by omega)], fun x => by rw [if_neg (by omega)]⟩
    · rw [if_neg (show ¬ (300 : Int32) ≤ nI i from nI_ge (a := i) (b := 300) (by omega) (by omega)), p_ix, if_neg (nI_in (show 300 * s + i < 60000 by omega) (by omega)), nI_clamp (by omega)]
      dsimp only [gl_let]
      rw [nI_1]
      obtain ⟨h, t, e1, e2, e3⟩ := ih (i + 1) (sMO_toldOf (sMO_has mo (upd (MO_has mo) (300 * s + i) 0)) (upd (MO_toldOf mo) (300 * s + i) 0)) (by omega) (by omega)
      have gen : ∀ f : Nat → Int32, ∀ x : Nat, (if 300 * s + (i + 1) ≤ x ∧ x < 300 * s + 300 then (0 : Int32) else upd f (300 * s + i) 0 x) = if 300 * s + i ≤ x ∧ x < 300 * s + 300 then 0 else f x := by
        intro f x
        by_cases e : x = 300 * s + i
        · subst e
          rw [if_neg (by omega), if_pos (by omega), pk_us]
        · by_cases q : 300 * s + i ≤ x ∧ x < 300 * s + 300
          · rw [if_pos (by omega), if_pos q]
          · rw [if_neg (by omega), if_neg q, pk_un e]
      exact ⟨h, t, e1, fun x => (e2 x).trans (gen (MO_has mo) x), fun x => (e3 x).trans (gen (MO_toldOf mo) x)⟩
theorem p_newSpan (k : Nat) (hk : 5000 ≤ k) {q : Nat} (hq : q < 8) (b e : Int64) (hb1 : -4000000000000 ≤ b.toInt ∧ b.toInt ≤ 4000000000000) (he1 : -4000000000000 ≤ e.toInt ∧ e.toInt ≤ 4000000000000) {L P : List (Nat × Nat)} {rs : RSt} {ss : SSt} {mo : MOt} (hR : RR L rs mo) (hS : SP P ss mo) (hB : BT L P (SS_had ss) (SS_untold ss) (MO_has mo) (MO_toldOf mo)) (hl : P.length < 200) (hnew : ∀ p ∈ P, ¬ mtc mo (nI q) b e p.2) :
    ∃ (c s : Nat) (A B : List (Nat × Nat)) (ss' : SSt) (mo' : MOt), P = A ++ B ∧ c < 200 ∧ s < 200 ∧ c ∉ P.map Prod.fst ∧ s ∉ P.map Prod.snd ∧
      f_SS_add k (nI q) b e ss = some (nI c, ss') ∧ f_MO_newSpan k (nI q) b e mo = some (nI s, mo') ∧ SP (A ++ (c, s) :: B) ss' mo' ∧ BT L (A ++ (c, s) :: B) (SS_had ss') (SS_untold ss') (MO_has mo') (MO_toldOf mo') ∧ moC mo' = moC mo ∧ moR mo' = moR mo ∧ moF mo' = moF mo ∧
      (∀ x : Nat, x < 300 → MO_has mo' (300 * s + x) = 0) ∧ (∀ p ∈ P, ∀ x : Nat, x < 300 → MO_has mo' (300 * p.2 + x) = MO_has mo (300 * p.2 + x)) ∧
      (∀ p ∈ P, MO_sKey mo' p.2 = MO_sKey mo p.2 ∧ MO_sBegin mo' p.2 = MO_sBegin mo p.2 ∧ MO_sEnd mo' p.2 = MO_sEnd mo p.2) ∧ (MO_sKey mo' s = nI q ∧ MO_sBegin mo' s = b ∧ MO_sEnd mo' s = e ∧ MO_sEnded mo' s = 0) := by
  obtain ⟨c, A, B, F, o, fk, fb, fe, hd, ut, hAB, hc, hcL, hfk, hfb, hfe, e1, e2, e3, e4, e5, u1, u2⟩ := p_SSadd k hk (nI q) b e hS hl
  obtain ⟨r0, hr0, hr1⟩ := hS.hole hl
  obtain ⟨s, hs, hsk, e6⟩ := p_newSpanL3 mo k 0 (by omega) (by omega) ⟨r0, by omega, hr0, hr1⟩
  rw [nI_0] at e6
  have hsL : s ∉ P.map Prod.snd := by
    intro z
    obtain ⟨p, hp, e⟩ := List.mem_map.mp z
    obtain ⟨x, hx, ex⟩ := hS.keyr p hp
    rw [e, hsk] at ex
    exact nI_m1 (by omega) ex.symm
  have n1 : ∀ p ∈ P, p.1 ≠ c := fun p hp e => hcL (e ▸ List.mem_map_of_mem hp)
  have n2 : ∀ p ∈ P, p.2 ≠ s := fun p hp e => hsL (e ▸ List.mem_map_of_mem hp)
  obtain ⟨gk, hgk⟩ : ∃ gk, gk = upd (MO_sKey mo) s (nI q) := ⟨_, rfl⟩
  obtain ⟨gb, hgb⟩ : ∃ gb, gb = vp_updL (MO_sBegin mo) s b := ⟨_, rfl⟩
  obtain ⟨ge, hge⟩ : ∃ ge, ge = vp_updL (MO_sEnd mo) s e := ⟨_, rfl⟩
  obtain ⟨gf, hgf⟩ : ∃ gf, gf = upd (MO_sFired mo) s 0 := ⟨_, rfl⟩
  obtain ⟨gp, hgp⟩ : ∃ gp, gp = upd (MO_sPut mo) s 0 := ⟨_, rfl⟩
  obtain ⟨gd, hgd⟩ : ∃ gd, gd = upd (MO_sEnded mo) s 0 := ⟨_, rfl⟩
  obtain ⟨ha, tl, t1, t2, t3⟩ := p_newSpanL72 hs k 0 (sMO_sEnded (sMO_sPut (sMO_sFired (sMO_sEnd (sMO_sBegin (sMO_sKey mo gk) gb) ge) gf) gp) gd) (by omega) (by omega)
  rw [nI_0] at t1
  have mem : ∀ p : Nat × Nat, p ∈ A ++ (c, s) :: B → p = (c, s) ∨ p ∈ P := by
    intro p hp
    rw [List.mem_append, List.mem_cons] at hp
    rw [hAB, List.mem_append]
    rcases hp with hp | hp | hp
    · exact Or.inr (Or.inl hp)
    · exact Or.inl hp
    · exact Or.inr (Or.inr hp)
  have hperm : (A ++ (c, s) :: B).Perm ((c, s) :: P) := by rw [hAB]; exact List.perm_middle
  have hlen : (A ++ (c, s) :: B).length = P.length + 1 := by rw [hperm.length_eq]; rfl
  have q0 : ∀ p ∈ P, gk p.2 = MO_sKey mo p.2 ∧ gb p.2 = MO_sBegin mo p.2 ∧ ge p.2 = MO_sEnd mo p.2 := by
    intro p hp
    rw [hgk, hgb, hge, pk_un (n2 p hp), pk_uLn (n2 p hp), pk_uLn (n2 p hp)]
    exact ⟨rfl, rfl, rfl⟩
  have qs : gk s = nI q ∧ gb s = b ∧ ge s = e := by
    rw [hgk, hgb, hge, pk_us, pk_uLs, pk_uLs]
    exact ⟨rfl, rfl, rfl⟩
  have f0 : ∀ p ∈ P, fk p.1 = MO_sKey mo p.2 ∧ fb p.1 = MO_sBegin mo p.2 ∧ fe p.1 = MO_sEnd mo p.2 := by
    intro p hp
    obtain ⟨z1, z2, z3, -⟩ := hS.eqs p hp
    rw [hfk, hfb, hfe, pk_un (n1 p hp), pk_uLn (n1 p hp), pk_uLn (n1 p hp)]
    exact ⟨z1, z2, z3⟩
  have fs : fk c = nI q ∧ fb c = b ∧ fe c = e := by
    rw [hfk, hfb, hfe, pk_us, pk_uLs, pk_uLs]
    exact ⟨rfl, rfl, rfl⟩
  have hsb : ∀ p ∈ P, (sbf fk fb fe c p.1 ↔ sbf gk gb ge s p.2) := by
    intro p hp
    obtain ⟨z1, z2, z3⟩ := f0 p hp
    obtain ⟨y1, y2, y3⟩ := q0 p hp
    unfold sbf
    rw [fs.1, fs.2.1, fs.2.2, qs.1, qs.2.1, qs.2.2, z1, z2, z3, y1, y2, y3]
  have hsrt : (A ++ (c, s) :: B).Pairwise (fun p q => sbf gk gb ge p.2 q.2) := by
    have hs := hS.srt
    rw [hAB] at hs
    have hs' : (A ++ B).Pairwise (fun p q => sbf gk gb ge p.2 q.2) := by
      refine hs.imp_of_mem ?_
      intro a b ha hb hab
      rw [← hAB] at ha hb
      obtain ⟨z1, z2, z3⟩ := q0 a ha
      obtain ⟨y1, y2, y3⟩ := q0 b hb
      unfold sbf at hab ⊢
      rw [z1, z2, z3, y1, y2, y3]
      exact hab
    rw [List.pairwise_append] at hs' ⊢
    refine ⟨hs'.1, List.pairwise_cons.mpr ⟨?_, hs'.2.1⟩, ?_⟩
    · intro p hp
      exact (hsb p (by rw [hAB]; exact List.mem_append_right _ hp)).mp (e4 p hp)
    · have hA : ∀ a ∈ A, sbf gk gb ge a.2 s := by
        intro a ha
        rcases e5 with e | ⟨A', z, e, hz⟩
        · rw [e] at ha; exact absurd ha (by simp)
        · have hzP : z ∈ P := by rw [hAB, e]; simp
          rw [hsb z hzP] at hz
          have hz2 : sbf gk gb ge z.2 s := sbf_tot hz (by
            rw [qs.1, qs.2.1, qs.2.2, (q0 z hzP).1, (q0 z hzP).2.1, (q0 z hzP).2.2]
            exact hnew z hzP)
          rw [e, List.mem_append, List.mem_singleton] at ha
          rcases ha with ha | rfl
          · have h1 := hs'.1
            rw [e, List.pairwise_append] at h1
            exact sbf_tr (h1.2.2 a ha z (by simp)) hz2
          · exact hz2
      intro a ha p hp
      rcases List.mem_cons.mp hp with rfl | hp
      · exact hA a ha
      · exact hs'.2.2 a ha p hp
  have hsp : SP (A ++ (c, s) :: B) (sSS_kept (sSS_order (sSS_untold (sSS_had (sSS_ended (sSS_since (sSS_fires (sSS_ends (sSS_begins (sSS_keys ss fk) fb) fe) (upd (SS_fires ss) c 0)) (upd (SS_since ss) c 0)) (upd (SS_ended ss) c 0)) hd) ut) o) (nI (P.length + 1))) (sMO_spans (sMO_toldOf (sMO_has (sMO_sEnded (sMO_sPut (sMO_sFired (sMO_sEnd (sMO_sBegin (sMO_sKey mo gk) gb) ge) gf) gp) gd) ha) tl) (MO_spans mo + 1)) := by
    refine ⟨?_, ?_, ⟨F, ?_, ?_⟩, ?_, ?_, ?_, ?_, ?_, hsrt, ?_⟩
    · rw [hlen]
    · rw [hlen]
      show MO_spans mo + 1 = _
      rw [hS.spans, nI_1]
    · rw [List.map_append, List.map_cons, List.append_assoc]
      exact e2
    · rw [List.map_append, List.map_cons, List.append_assoc]
      exact e3
    · intro p hp
      show fk p.1 = gk p.2 ∧ fb p.1 = gb p.2 ∧ fe p.1 = ge p.2 ∧ upd (SS_fires ss) c 0 p.1 = gf p.2 ∧ upd (SS_since ss) c 0 p.1 = gp p.2 ∧ upd (SS_ended ss) c 0 p.1 = gd p.2
      rw [hgf, hgp, hgd]
      rcases mem p hp with rfl | hp
      · dsimp only
        rw [fs.1, fs.2.1, fs.2.2, qs.1, qs.2.1, qs.2.2, pk_us, pk_us, pk_us, pk_us, pk_us, pk_us]
        exact ⟨rfl, rfl, rfl, rfl, rfl, rfl⟩
      · obtain ⟨-, -, -, z4, z5, z6⟩ := hS.eqs p hp
        rw [(f0 p hp).1, (f0 p hp).2.1, (f0 p hp).2.2, (q0 p hp).1, (q0 p hp).2.1, (q0 p hp).2.2, pk_un (n1 p hp), pk_un (n2 p hp), pk_un (n1 p hp), pk_un (n2 p hp), pk_un (n1 p hp), pk_un (n2 p hp)]
        exact ⟨rfl, rfl, rfl, z4, z5, z6⟩
    · intro p hp
      show ∃ x : Nat, x < 8 ∧ gk p.2 = nI x
      rcases mem p hp with rfl | hp
      · exact ⟨q, hq, qs.1⟩
      · rw [(q0 p hp).1]
        exact hS.keyr p hp
    · intro p hp
      rcases mem p hp with rfl | hp
      · exact hs
      · exact hS.lt p hp
    · rw [(hperm.map Prod.snd).nodup_iff, List.map_cons, List.nodup_cons]
      exact ⟨hsL, hS.nd⟩
    · intro x hx
      show gk x = -1 ∨ _
      rw [(hperm.map Prod.snd).mem_iff, List.map_cons, List.mem_cons]
      by_cases e : x = s
      · exact Or.inr (Or.inl e)
      · rw [hgk, pk_un e]
        exact (hS.free x hx).imp id Or.inr
    · intro p hp
      show (-4000000000000 ≤ (gb p.2).toInt ∧ (gb p.2).toInt ≤ 4000000000000) ∧ (-4000000000000 ≤ (ge p.2).toInt ∧ (ge p.2).toInt ≤ 4000000000000) ∧ (gd p.2 = 0 ∨ gd p.2 = 1)
      rw [hgd]
      rcases mem p hp with rfl | hp
      · dsimp only
        rw [qs.2.1, qs.2.2, pk_us]
        exact ⟨hb1, he1, Or.inl rfl⟩
      · rw [(q0 p hp).2.1, (q0 p hp).2.2, pk_un (n2 p hp)]
        exact hS.bnd p hp
  have h0 : ∀ x : Nat, x < 300 → ha (300 * s + x) = 0 ∧ tl (300 * s + x) = 0 := by
    intro x hx
    rw [t2, t3, if_pos (by omega), if_pos (by omega)]
    exact ⟨rfl, rfl⟩
  have hp0 : ∀ p ∈ P, ∀ x : Nat, x < 300 → ha (300 * p.2 + x) = MO_has mo (300 * p.2 + x) ∧ tl (300 * p.2 + x) = MO_toldOf mo (300 * p.2 + x) := by
    intro p hp x hx
    have := n2 p hp
    rw [t2, t3, if_neg (by omega), if_neg (by omega)]
    exact ⟨rfl, rfl⟩
  have c0 : ∀ x : Nat, x < 300 → bt hd c x = false ∧ bt ut c x = false := fun x hx => ⟨bt_zero (by rw [u1, if_pos (by omega)]), bt_zero (by rw [u2, if_pos (by omega)])⟩
  have cp : ∀ p ∈ P, ∀ x : Nat, x < 300 → bt hd p.1 x = bt (SS_had ss) p.1 x ∧ bt ut p.1 x = bt (SS_untold ss) p.1 x := by
    intro p hp x hx
    have := n1 p hp
    exact ⟨bt_same (by rw [u1, if_neg (by omega)]), bt_same (by rw [u2, if_neg (by omega)])⟩
  have hbt : BT L (A ++ (c, s) :: B) hd ut ha tl := by
    obtain ⟨b1, b2, b3, b4⟩ := hB
    refine ⟨?_, ?_, ?_, ?_⟩
    · intro p hp r hr
      have hr1 := hR.lt1 r hr
      have hr2 := hR.lt r hr
      rcases mem p hp with rfl | hp
      · dsimp only
        rw [(c0 _ hr1).1, (c0 _ hr1).2, (h0 _ hr2).1]
        exact ⟨⟨fun z => absurd z (by decide), fun z => absurd rfl z⟩, ⟨fun z => absurd z (by decide), fun z => absurd rfl z.1⟩⟩
      · rw [(cp p hp _ hr1).1, (cp p hp _ hr1).2, (hp0 p hp _ hr2).1, (hp0 p hp _ hr2).2]
        exact b1 p hp r hr
    · intro p hp x hx hn
      rcases mem p hp with rfl | hp
      · exact c0 x hx
      · rw [(cp p hp _ hx).1, (cp p hp _ hx).2]
        exact b2 p hp x hx hn
    · intro p hp x hx hn
      rcases mem p hp with rfl | hp
      · exact (h0 x hx).1
      · rw [(hp0 p hp _ hx).1]
        exact b3 p hp x hx hn
    · intro p hp x hx
      rcases mem p hp with rfl | hp
      · exact Or.inl (h0 x hx)
      · rw [(hp0 p hp _ hx).1, (hp0 p hp _ hx).2]
        exact b4 p hp x hx
  refine ⟨c, s, A, B, _, _, hAB, hc, hs, hcL, hsL, e1, ?_, hsp, hbt, rfl, rfl, rfl, fun x hx => (h0 x hx).1, fun p hp x hx => (hp0 p hp x hx).1, q0, qs.1, qs.2.1, qs.2.2, ?_⟩
  · unfold f_MO_newSpan
    rw [e6, ob, if_neg (nI_in hs (by omega)), nI_clamp (by omega)]
    dsimp only [gl_let]
    rw [← hgk, ← hgb, ← hge, ← hgf, ← hgp, ← hgd, t1, ob]
  · show gd s = 0
    rw [hgd, pk_us]
