/-- what the class has joined so far: V are the sharing spans seen -/
def JI (ss : SSt) (mo : MOt) (V : List (Nat × Nat)) (v : Int32) (E : Nat → Int64) (Fi Si En : Nat → Int32) (H U : Nat → Int64) (K : Nat → Int32) : Prop :=
  (V = [] ∧ v = -1 ∧ js ss E Fi Si En H U K = ss) ∨ ∃ p0 V', V = p0 :: V' ∧ v = nI p0.1 ∧
    (isMx (V.map (fun p => MO_sEnd mo p.2)) (E p0.1) ∧ isMxI (V.map (fun p => MO_sFired mo p.2)) (Fi p0.1) ∧ Si p0.1 = isum (V.map (fun p => MO_sPut mo p.2)) ∧ (En p0.1 = 0 ∨ En p0.1 = 1) ∧ (¬ En p0.1 = 0 ↔ ∃ p ∈ V, ¬ MO_sEnded mo p.2 = 0)) ∧
    (∀ c : Nat, c < 300 → bt H p0.1 c = V.any (fun p => bt (SS_had ss) p.1 c) ∧ bt U p0.1 c = V.any (fun p => bt (SS_untold ss) p.1 c)) ∧
    (∀ x : Nat, x ≠ p0.1 → E x = SS_ends ss x ∧ Fi x = SS_fires ss x ∧ Si x = SS_since ss x ∧ En x = SS_ended ss x ∧ ∀ c : Nat, c < 300 → bt H x c = bt (SS_had ss) x c ∧ bt U x c = bt (SS_untold ss) x c) ∧
    (∀ x : Nat, (x ∈ V'.map Prod.fst → K x = -1) ∧ (x ∉ V'.map Prod.fst → K x = SS_keys ss x))
theorem p_joinL {P : List (Nat × Nat)} {ss : SSt} {mo : MOt} (k : Nat) (hk : 5000 ≤ k) (h : SP P ss mo) (q : Nat) (t e : Int64) : ∀ (P2 P1 : List (Nat × Nat)) (n : Nat) (v : Int32) (E : Nat → Int64) (Fi Si En : Nat → Int32) (H U : Nat → Int64) (K : Nat → Int32), P = P1 ++ P2 → P2.length < n → JI ss mo (P1.filter (shp mo q t e)) v E Fi Si En H U K →
    ∃ v' E' Fi' Si' En' H' U' K', f_SS_join_L6 k (nI q) t e n v (nI P1.length) (js ss E Fi Si En H U K) = some (v', js ss E' Fi' Si' En' H' U' K') ∧ JI ss mo (P.filter (shp mo q t e)) v' E' Fi' Si' En' H' U' K' := by
  have hlen := h.len
  intro P2
  induction P2 with
  | nil =>
    intro P1 n v E Fi Si En H U K ep hn hJ
    obtain ⟨m, rfl⟩ : ∃ m, n = m + 1 := ⟨n - 1, by omega⟩
    have hkk : SS_kept (js ss E Fi Si En H U K) = nI P.length := h.kept
    rw [f_SS_join_L6, hkk, ep, List.append_nil, if_pos (nI_le (Nat.le_refl _) (by rw [ep] at hlen; simp at hlen; omega))]
    exact ⟨v, E, Fi, Si, En, H, U, K, rfl, hJ⟩
  | cons p P2 ih =>
    intro P1 n v E Fi Si En H U K ep hn hJ
    obtain ⟨m, rfl⟩ : ∃ m, n = m + 1 := ⟨n - 1, by omega⟩
    have hpm : p ∈ P := by rw [ep]; simp
    have hp := h.lt1 p hpm
    have hl : P1.length + (P2.length + 1) ≤ 200 := by rw [ep] at hlen; simpa using hlen
    have hkk : SS_kept (js ss E Fi Si En H U K) = nI P.length := h.kept
    have hor : SS_order (js ss E Fi Si En H U K) P1.length = nI p.1 := by
      have h' := h
      rw [ep] at h'
      exact h'.at
    obtain ⟨q1, q2, q3, q4, q5, q6⟩ := h.eqs p hpm
    have hnd1 : ∀ u ∈ P1, u.1 ≠ p.1 := by
      have := h.nd1
      rw [ep, List.map_append, List.map_cons] at this
      intro u hu e
      exact (List.nodup_append.mp this).2.2 u.1 (List.mem_map_of_mem hu) p.1 (by simp) e
    have hVmem : ∀ u ∈ P1.filter (shp mo q t e), u ∈ P1 := fun u hu => (List.mem_filter.mp hu).1
    have hcur : K p.1 = SS_keys ss p.1 ∧ E p.1 = SS_ends ss p.1 ∧ Fi p.1 = SS_fires ss p.1 ∧ Si p.1 = SS_since ss p.1 ∧ En p.1 = SS_ended ss p.1 ∧ ∀ c : Nat, c < 300 → bt H p.1 c = bt (SS_had ss) p.1 c ∧ bt U p.1 c = bt (SS_untold ss) p.1 c := by
      rcases hJ with ⟨_, _, hj⟩ | ⟨p0, V', hV, hv, hacc, hbt, hoth, hK⟩
      · have e1 : K = SS_keys ss := congrArg SS_keys hj
        have e2 : E = SS_ends ss := congrArg SS_ends hj
        have e3 : Fi = SS_fires ss := congrArg SS_fires hj
        have e4 : Si = SS_since ss := congrArg SS_since hj
        have e5 : En = SS_ended ss := congrArg SS_ended hj
        have e6 : H = SS_had ss := congrArg SS_had hj
        have e7 : U = SS_untold ss := congrArg SS_untold hj
        rw [e1, e2, e3, e4, e5, e6, e7]
        exact ⟨rfl, rfl, rfl, rfl, rfl, fun c _ => ⟨rfl, rfl⟩⟩
      · have hp0 : p.1 ≠ p0.1 := fun z => hnd1 p0 (hVmem p0 (by rw [hV]; simp)) z.symm
        obtain ⟨o1, o2, o3, o4, o5⟩ := hoth p.1 hp0
        refine ⟨(hK p.1).2 (fun z => ?_), o1, o2, o3, o4, o5⟩
        obtain ⟨u, hu, e⟩ := List.mem_map.mp z
        exact hnd1 u (hVmem u (by rw [hV]; exact List.mem_cons_of_mem _ hu)) e
    have hfa : (P1 ++ [p]).filter (shp mo q t e) = P1.filter (shp mo q t e) ++ [p].filter (shp mo q t e) := List.filter_append _ _
    have hsh := p_shares' (X := js ss E Fi Si En H U K) hp (hcur.1.trans q1) q2 (hcur.2.1.trans q3) q t e
    rw [f_SS_join_L6, hkk, if_neg (nI_ge (by rw [ep]; simp) (by omega)), if_neg (nI_in (show P1.length < 200 by omega) (by omega)), nI_clamp (show P1.length < 2 ^ 31 by omega)]
    dsimp only [gl_let]
    rw [hor, hsh, ob, nI_1]
    by_cases c : shp mo q t e p = true
    · rw [if_pos c, if_neg (by decide)]
      have hfc : (P1 ++ [p]).filter (shp mo q t e) = P1.filter (shp mo q t e) ++ [p] := by rw [hfa, List.filter_cons_of_pos c, List.filter_nil]
      rcases hJ with ⟨hV, hv, hj⟩ | ⟨p0, V', hV, hv, ⟨hm1, hm2, hm3, hm4, hm5⟩, hbt, hoth, hK⟩
      · rw [if_pos hv]
        have := ih (P1 ++ [p]) m (nI p.1) E Fi Si En H U K (by rw [ep]; simp) (by simp at hn; omega)
          (by
            rw [hfc, hV, List.nil_append]
            right
            have e1 : K = SS_keys ss := congrArg SS_keys hj
            have e2 : E = SS_ends ss := congrArg SS_ends hj
            have e3 : Fi = SS_fires ss := congrArg SS_fires hj
            have e4 : Si = SS_since ss := congrArg SS_since hj
            have e5 : En = SS_ended ss := congrArg SS_ended hj
            have e6 : H = SS_had ss := congrArg SS_had hj
            have e7 : U = SS_untold ss := congrArg SS_untold hj
            refine ⟨p, [], rfl, rfl, ⟨?_, ?_, ?_, ?_, ?_⟩, ?_, ?_, ?_⟩
            · rw [e2, q3]
              exact ⟨by simp, fun y hy => by simp at hy; rw [hy, pl_le]; omega⟩
            · rw [e3, q4]
              exact ⟨by simp, fun y hy => by simp at hy; rw [hy, pi_le]; omega⟩
            · rw [e4, q5]
              show _ = MO_sPut mo p.2 + 0
              rw [Int32.add_zero]
            · rw [e5, q6]; exact (h.bnd p hpm).2.2
            · rw [e5, q6]
              exact ⟨fun z => ⟨p, by simp, z⟩, fun ⟨u, hu, z⟩ => by simp at hu; rw [hu] at z; exact z⟩
            · intro c hc
              rw [e6, e7]
              simp
            · intro x _
              rw [e2, e3, e4, e5, e6, e7]
              exact ⟨rfl, rfl, rfl, rfl, fun c _ => ⟨rfl, rfl⟩⟩
            · intro x
              rw [e1]
              exact ⟨fun z => absurd z (by simp), fun _ => rfl⟩)
        rw [List.length_append, List.length_singleton] at this
        exact this
      · rw [if_neg (by rw [hv]; exact nI_m1 (by have := h.lt1 p0 (by rw [ep]; exact List.mem_append_left _ (hVmem p0 (by rw [hV]; simp))); omega))]
        have hp0P : p0 ∈ P1 := hVmem p0 (by rw [hV]; simp)
        have hp0l := h.lt1 p0 (by rw [ep]; exact List.mem_append_left _ hp0P)
        have hp0 : p0.1 ≠ p.1 := hnd1 p0 hp0P
        obtain ⟨H1, U1, d, a1, a2, a3, a4, a5⟩ := p_absorb k hk hp0l hp hp0 ss E Fi Si En H U K
        rw [hv, a1, ob]
        obtain ⟨E1, hE1⟩ : ∃ E1, E1 = vp_updL E p0.1 (if E p.1 < E p0.1 then E p0.1 else E p.1) := ⟨_, rfl⟩
        obtain ⟨F1, hF1⟩ : ∃ F1, F1 = upd Fi p0.1 (if Fi p0.1 < Fi p.1 then Fi p.1 else Fi p0.1) := ⟨_, rfl⟩
        obtain ⟨S1, hS1⟩ : ∃ S1, S1 = upd Si p0.1 (Si p0.1 + Si p.1) := ⟨_, rfl⟩
        obtain ⟨D1, hD1⟩ : ∃ D1, D1 = upd En p0.1 d := ⟨_, rfl⟩
        obtain ⟨K1, hK1⟩ : ∃ K1, K1 = upd K p.1 (-1) := ⟨_, rfl⟩
        rw [← hE1, ← hF1, ← hS1, ← hD1, ← hK1]
        have hPe : E p.1 = MO_sEnd mo p.2 := hcur.2.1.trans q3
        have hPf : Fi p.1 = MO_sFired mo p.2 := hcur.2.2.1.trans q4
        have hPs : Si p.1 = MO_sPut mo p.2 := hcur.2.2.2.1.trans q5
        have hPd : En p.1 = MO_sEnded mo p.2 := hcur.2.2.2.2.1.trans q6
        have := ih (P1 ++ [p]) m (nI p0.1) E1 F1 S1 D1 H1 U1 K1 (by rw [ep]; simp) (by simp at hn; omega)
          (by
            rw [hfc]
            right
            refine ⟨p0, V' ++ [p], by rw [hV]; rfl, rfl, ⟨?_, ?_, ?_, ?_, ?_⟩, ?_, ?_, ?_⟩
            · rw [List.map_append, List.map_cons, List.map_nil, hE1, pk_uLs, hPe]
              by_cases z : MO_sEnd mo p.2 < E p0.1
              · rw [if_pos z]; exact isMx_keep hm1 (by rw [pl_le]; rw [pl_lt] at z; omega)
              · rw [if_neg z]
                by_cases y : MO_sEnd mo p.2 ≤ E p0.1
                · have : MO_sEnd mo p.2 = E p0.1 := by rw [pl_eq]; rw [pl_le] at y; rw [pl_lt] at z; omega
                  rw [this]
                  exact isMx_keep hm1 (by rw [pl_le]; omega)
                · exact isMx_take hm1 y
            · rw [List.map_append, List.map_cons, List.map_nil, hF1, pk_us, hPf]
              by_cases z : Fi p0.1 < MO_sFired mo p.2
              · rw [if_pos z]; exact isMxI_take hm2 (by rw [pi_le]; rw [pi_lt] at z; omega)
              · rw [if_neg z]; exact isMxI_keep hm2 (by rw [pi_le]; rw [pi_lt] at z; omega)
            · rw [List.map_append, List.map_cons, List.map_nil, isum_app, hS1, pk_us, hPs, hm3]
            · rw [hD1, pk_us]; exact a2
            · rw [hD1, pk_us, a3, hm5, hPd]
              constructor
              · rintro (⟨u, hu, z⟩ | z)
                · exact ⟨u, List.mem_append_left _ hu, z⟩
                · exact ⟨p, by simp, z⟩
              · rintro ⟨u, hu, z⟩
                rw [List.mem_append, List.mem_singleton] at hu
                rcases hu with hu | rfl
                · exact Or.inl ⟨u, hu, z⟩
                · exact Or.inr z
            · intro c hc
              rw [a4 _ _ hc, a5 _ _ hc, if_pos rfl, if_pos rfl, (hbt c hc).1, (hbt c hc).2, (hcur.2.2.2.2.2 c hc).1, (hcur.2.2.2.2.2 c hc).2, List.any_append, List.any_append]
              simp
            · intro x hx
              obtain ⟨o1, o2, o3, o4, o5⟩ := hoth x hx
              rw [hE1, hF1, hS1, hD1, pk_uLn hx, pk_un hx, pk_un hx, pk_un hx]
              refine ⟨o1, o2, o3, o4, fun c hc => ?_⟩
              rw [a4 _ _ hc, a5 _ _ hc, if_neg hx, if_neg hx]
              exact o5 c hc
            · intro x
              rw [hK1, List.map_append, List.map_cons, List.map_nil, List.mem_append, List.mem_singleton]
              by_cases z : x = p.1
              · rw [z, pk_us]
                exact ⟨fun _ => rfl, fun y => absurd (Or.inr rfl) y⟩
              · rw [pk_un z]
                exact ⟨fun y => (hK x).1 (y.resolve_right z), fun y => (hK x).2 (fun w => y (Or.inl w))⟩)
        rw [List.length_append, List.length_singleton] at this
        exact this
    · rw [if_neg c, if_pos rfl]
      have := ih (P1 ++ [p]) m v E Fi Si En H U K (by rw [ep]; simp) (by simp at hn; omega) (by rw [hfa, List.filter_cons_of_neg c, List.filter_nil, List.append_nil]; exact hJ)
      rw [List.length_append, List.length_singleton] at this
      exact this
