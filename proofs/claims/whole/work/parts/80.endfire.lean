theorem p_isFirst {mo : MOt} {a b : Nat} (ha : a < 200) (hb : b < 200) : f_MO_isFirst (nI a) (nI b) mo = some (if fbf (MO_sKey mo) (MO_sBegin mo) (MO_sEnd mo) a b then 1 else 0) := by
  unfold f_MO_isFirst
  rw [if_neg (nI_in ha (by omega)), if_neg (nI_in hb (by omega)), nI_clamp (by omega), nI_clamp (by omega)]
  by_cases h1 : MO_sEnd mo a < MO_sEnd mo b
  · rw [if_pos h1, if_pos (Or.inl h1)]
  · rw [if_neg h1]
    by_cases h2 : MO_sEnd mo a = MO_sEnd mo b
    · rw [if_pos h2]
      by_cases h3 : MO_sKey mo a < MO_sKey mo b
      · rw [if_pos h3, if_pos (Or.inr ⟨h2, Or.inl h3⟩)]
      · rw [if_neg h3]
        by_cases h4 : MO_sKey mo a = MO_sKey mo b
        · rw [if_pos h4]
          by_cases h5 : MO_sBegin mo b ≤ MO_sBegin mo a
          · rw [if_pos h5, if_neg]
            rintro (z | ⟨_, z | ⟨_, z⟩⟩)
            · exact h1 z
            · exact h3 z
            · rw [pl_lt] at z; rw [pl_le] at h5; omega
          · rw [if_neg h5, if_pos (Or.inr ⟨h2, Or.inr ⟨h4, by rw [pl_lt]; rw [pl_le] at h5; omega⟩⟩)]
        · rw [if_neg h4, if_neg]
          rintro (z | ⟨_, z | ⟨z, _⟩⟩)
          · exact h1 z
          · exact h3 z
          · exact h4 z
    · rw [if_neg h2, if_neg]
      rintro (z | ⟨z, _⟩)
      · exact h1 z
      · exact h2 z
def dus (mo : MOt) (s : Nat) : Prop := ¬ MO_sKey mo s = -1 ∧ MO_sEnded mo s = 0 ∧ ¬ MO_now mo < MO_sEnd mo s
theorem p_markL68 (mo : MOt) : ∀ (n i : Nat) (v : Int32), i ≤ 200 → 200 - i < n → fnd (dus mo) (fbf (MO_sKey mo) (MO_sBegin mo) (MO_sEnd mo)) 200 i v → ∃ v', f_MO_mark_L68 mo n v (nI i) = some v' ∧ fnd (dus mo) (fbf (MO_sKey mo) (MO_sBegin mo) (MO_sEnd mo)) 200 200 v' := by
  intro n
  induction n with
  | zero => intro i v _ h; omega
  | succ n ih =>
    intro i v hi hn hf
    rw [f_MO_mark_L68]
    by_cases hc : i = 200
    · subst hc
      rw [if_pos (by decide)]
      exact ⟨v, rfl, hf⟩
    · rw [if_neg (show ¬ (200 : Int32) ≤ nI i from nI_ge (a := i) (b := 200) (by omega) (by omega)), if_neg (nI_in (by omega) (by omega)), nI_clamp (by omega)]
      dsimp only [gl_let]
      rw [nI_1]
      by_cases h1 : MO_sKey mo i = -1
      · rw [if_pos h1]
        exact ih (i + 1) v (by omega) (by omega) (fnd_no hf (fun z => z.1 h1))
      · rw [if_neg h1]
        by_cases h2 : MO_sEnded mo i = 0
        · rw [if_pos h2]
          by_cases h3 : MO_now mo < MO_sEnd mo i
          · rw [if_pos h3]
            exact ih (i + 1) v (by omega) (by omega) (fnd_no hf (fun z => z.2.2 h3))
          · rw [if_neg h3]
            have hs : dus mo i := ⟨h1, h2, h3⟩
            by_cases hv : v = -1
            · rw [if_pos hv]
              subst hv
              exact ih (i + 1) _ (by omega) (by omega) (fnd_new (by omega) fbf_irr hf hs (by omega))
            · rw [if_neg hv]
              obtain ⟨m, hm, hm2⟩ : ∃ m : Nat, v = nI m ∧ m < 200 := by
                rcases hf with ⟨h1, _⟩ | ⟨m, h1, h2, _⟩
                · exact absurd h1 hv
                · exact ⟨m, h1, h2⟩
              subst hm
              rw [p_isFirst (by omega) hm2, ob]
              by_cases hb : fbf (MO_sKey mo) (MO_sBegin mo) (MO_sEnd mo) i m
              · rw [if_pos hb, if_neg (by decide)]
                exact ih (i + 1) _ (by omega) (by omega) (fnd_take (by omega) fbf_irr fbf_tr hf hm2 hs (by omega) hb)
              · rw [if_neg hb, if_pos rfl]
                exact ih (i + 1) _ (by omega) (by omega) (fnd_keep (by omega) hf hm2 hb)
        · rw [if_neg h2]
          exact ih (i + 1) v (by omega) (by omega) (fnd_no hf (fun z => h2 z.2.1))
theorem p_endLoop (k : Nat) (hk : 5000 ≤ k) {L P D : List (Nat × Nat)} {sr : SRt} {rs : RSt} {mo0 : MOt} (hX0 : SX sr mo0) (hD : ∀ d ∈ D, d ∈ P) (hDl : D.length ≤ 200) : ∀ (D2 D1 : List (Nat × Nat)) (n n' : Nat) (v : Int32) (ss : SSt) (fs : FSt) (co : COt) (mo : MOt) (T : Nat),
    D = D1 ++ D2 → D2.length < n → D2.length + 1 < n' → ¬ v = -1 → moC mo = moC mo0 → moR mo = moR mo0 → OA (SS_due ss) (D.map Prod.fst) → D2.Pairwise (fun p q => fbf (MO_sKey mo) (MO_sBegin mo) (MO_sEnd mo) p.2 q.2) → (∀ s : Nat, s < 200 → (dus mo s ↔ s ∈ D2.map Prod.snd)) →
    RR L rs mo → SP P ss mo → BT L P (SS_had ss) (SS_untold ss) (MO_has mo) (MO_toldOf mo) → FR fs mo T → T + D2.length ≤ 4000000 →
    ∃ ss' fs' co' mo', f_SR_endSpans_L14 k sr rs (nI D.length) n (nI D1.length) ss fs co = some (ss', fs', co') ∧ f_MO_mark_L56 k n' (nI D1.length) v mo = some (nI D.length, mo') ∧ RR L rs mo' ∧ SP P ss' mo' ∧ BT L P (SS_had ss') (SS_untold ss') (MO_has mo') (MO_toldOf mo') ∧ FR fs' mo' (T + D2.length) ∧ moC mo' = moC mo0 ∧ moR mo' = moR mo0 ∧ (MO_sKey mo' = MO_sKey mo ∧ MO_sBegin mo' = MO_sBegin mo ∧ MO_sEnd mo' = MO_sEnd mo ∧ MO_has mo' = MO_has mo) := by
  intro D2
  induction D2 with
  | nil =>
    intro D1 n n' v ss fs co mo T eD hn hn' hv hC hM hO hP hS hR hSP hB hF hT
    obtain ⟨m, rfl⟩ : ∃ m, n = m + 1 := ⟨n - 1, by omega⟩
    obtain ⟨m', rfl⟩ : ∃ m', n' = m' + 2 := ⟨n' - 2, by simp at hn'; omega⟩
    obtain ⟨v', e1, e2⟩ := p_markL68 mo k 0 (-1) (by omega) (by omega) (Or.inl ⟨rfl, fun r hr => absurd hr (by omega)⟩)
    rw [nI_0] at e1
    have hv' : v' = -1 := by
      rcases fnd_list e2 (Q := ([] : List (Nat × Nat))) hP hS (fun p hp => absurd hp (by simp)) with ⟨_, z⟩ | ⟨p, R, z, _⟩
      · exact z
      · exact absurd z (by simp)
    have hl : D1.length = D.length := by rw [eD]; simp
    rw [f_SR_endSpans_L14, hl, if_pos (nI_le (Nat.le_refl _) (by omega)), f_MO_mark_L56, if_neg hv, e1, ob, if_pos hv', f_MO_mark_L56, if_pos hv']
    exact ⟨ss, fs, co, mo, rfl, rfl, hR, hSP, hB, hF, hC, hM, rfl, rfl, rfl, rfl⟩
  | cons p D2 ih =>
    intro D1 n n' v ss fs co mo T eD hn hn' hv hC hM hO hP hS hR hSP hB hF hT
    obtain ⟨m, rfl⟩ : ∃ m, n = m + 1 := ⟨n - 1, by omega⟩
    obtain ⟨m', rfl⟩ : ∃ m', n' = m' + 1 := ⟨n' - 1, by omega⟩
    rw [List.length_cons] at hn hn' hT
    have hpP : p ∈ P := hD p (by rw [eD]; simp)
    have hlD : D1.length + (D2.length + 1) = D.length := by rw [eD]; simp
    have hl2 : ∀ d ∈ p :: D2, d.2 < 200 := fun d hd => hSP.lt d (hD d (by rw [eD]; exact List.mem_append_right _ hd))
    have hp1 := hSP.lt1 p hpP
    have hp2 := hSP.lt p hpP
    obtain ⟨v', e1, e2⟩ := p_markL68 mo k 0 (-1) (by omega) (by omega) (Or.inl ⟨rfl, fun r hr => absurd hr (by omega)⟩)
    rw [nI_0] at e1
    have hv' : v' = nI p.2 := by
      rcases fnd_list e2 hP hS hl2 with ⟨z, _⟩ | ⟨p', R, z, z2⟩
      · exact absurd z (by simp)
      · rw [z2, (List.cons.inj z).1]
    have hdue : SS_due ss D1.length = nI p.1 := by
      have := hO
      rw [eD, List.map_append, List.map_cons] at this
      have := oa_get this
      rwa [List.length_map] at this
    have hX := hX0.cong hC
    obtain ⟨ss1, fs1, co1, mo1, z1, z2, z3, z4, z5, z6, z7, z8, ⟨y1, y2, y3, y4⟩, E, y5, y6, y7, y8⟩ := p_fire k hk (sr := sr) co hR hSP hB hF (by omega) hX.1.2.2.2.2.1 hpP 1 (by decide)
    rw [f_SR_endSpans_L14, if_neg (nI_ge (by omega) (by omega)), if_neg (nI_in (show D1.length < 200 by omega) (by omega)), nI_clamp (by omega), hdue, z1, ob, f_MO_mark_L56, if_neg hv, e1, ob, hv', if_neg (nI_m1 (by omega)), z2, ob]
    dsimp only [gl_let]
    rw [nI_1]
    obtain ⟨ss', fs', co', mo', r1, r2, r3, r4, r5, r6, r7, r8, r9, r10, r11, r12⟩ := ih (D1 ++ [p]) m m' (nI p.2) ss1 fs1 co1 mo1 (T + 1) (by rw [eD]; simp) (by omega) (by omega) (nI_m1 (by omega)) (z7.trans hC) (z8.trans hM) (by rw [y7]; exact hO) (by rw [y1, y2, y3]; exact (List.pairwise_cons.mp hP).2)
      (by
        intro s hs
        have hnow : MO_now mo1 = MO_now mo := (moC.get z7).1
        unfold dus
        rw [y1, y3, y5, hnow, if_neg (by decide)]
        by_cases e : s = p.2
        · subst e
          rw [pk_us]
          refine ⟨fun z => absurd z.2.1 (by decide), fun z => ?_⟩
          obtain ⟨d, hd, hd2⟩ := List.mem_map.mp z
          have := (List.pairwise_cons.mp hP).1 d hd
          rw [hd2] at this
          exact absurd this (fbf_irr _)
        · rw [pk_un e]
          have := hS s hs
          rw [List.map_cons, List.mem_cons] at this
          exact this.trans ⟨fun z => z.resolve_left e, Or.inr⟩)
      z3 z4 z5 z6 (by omega)
    rw [List.length_append, List.length_singleton] at r1 r2
    refine ⟨ss', fs', co', mo', r1, r2, r3, r4, r5, ?_, r7, r8, r9.trans y1, r10.trans y2, r11.trans y3, r12.trans y4⟩
    rw [List.length_cons, show T + (D2.length + 1) = T + 1 + D2.length by omega]
    exact r6
