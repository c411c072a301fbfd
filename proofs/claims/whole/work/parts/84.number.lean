/-! PURE PART I: counted rows -/
def due3 (mo : MOt) (q : Nat) (p : Nat × Nat) : Bool := (MO_rKey mo p.2 == nI q) && (MO_rNumber mo p.2 == -1) && decide (MO_rTime mo p.2 < MO_now mo)
theorem due3_iff {mo : MOt} {q : Nat} {p : Nat × Nat} : due3 mo q p = true ↔ MO_rKey mo p.2 = nI q ∧ MO_rNumber mo p.2 = -1 ∧ MO_rTime mo p.2 < MO_now mo := by
  unfold due3
  rw [Bool.and_eq_true, Bool.and_eq_true, beq_iff_eq, beq_iff_eq, decide_eq_true_eq, and_assoc]
theorem p_numL {L : List (Nat × Nat)} {sr : SRt} {rs : RSt} {nu : NUt} {mo : MOt} (h : RR L rs mo) (hX : SR_theMark sr = MO_now mo) (N : Nat → Nat) : ∀ (L2 L1 : List (Nat × Nat)) (n : Nat) (f g : Nat → Int32), L = L1 ++ L2 → L2.length < n → (∀ p ∈ L2, f p.1 = RS_numbers rs p.1) → (∀ q : Nat, q < 8 → g q = nI (N q + (L1.filter (due3 mo q)).length)) →
    ∃ f' g' : Nat → Int32, f_SR_numberRows_L2 sr n (nI L1.length) (sRS_numbers rs f) (sNU_numbered nu g) = some (sRS_numbers rs f', sNU_numbered nu g') ∧ (∀ q : Nat, q < 8 → g' q = nI (N q + (L.filter (due3 mo q)).length)) ∧ (∀ y : Nat, y ∉ L2.map Prod.fst → f' y = f y) ∧
      (∀ A p B q, L2 = A ++ p :: B → q < 8 → MO_rKey mo p.2 = nI q → f' p.1 = if due3 mo q p = true then nI (N q + ((L1 ++ A).filter (due3 mo q)).length) else RS_numbers rs p.1) := by
  have hlen := h.len
  intro L2
  induction L2 with
  | nil =>
    intro L1 n f g ep hn hf hg
    obtain ⟨m, rfl⟩ : ∃ m, n = m + 1 := ⟨n - 1, by omega⟩
    have hkk : RS_kept (sRS_numbers rs f) = nI L.length := h.kept
    rw [f_SR_numberRows_L2, hkk, ep, List.append_nil, if_pos (nI_le (Nat.le_refl _) (by rw [ep] at hlen; simp at hlen; omega))]
    exact ⟨f, g, rfl, hg, fun y _ => rfl, fun A p B q e => absurd e (by simp)⟩
  | cons p L2 ih =>
    intro L1 n f g ep hn hf hg
    obtain ⟨m, rfl⟩ : ∃ m, n = m + 1 := ⟨n - 1, by omega⟩
    have hpm : p ∈ L := by rw [ep]; simp
    have hp := h.lt1 p hpm
    have hl : L1.length + (L2.length + 1) ≤ 300 := by rw [ep] at hlen; simpa using hlen
    have hkk : RS_kept (sRS_numbers rs f) = nI L.length := h.kept
    have hor : RS_order (sRS_numbers rs f) L1.length = nI p.1 := by
      have h' := h
      rw [ep] at h'
      exact h'.at
    have hnd : p.1 ∉ L2.map Prod.fst := by
      have := h.nd1
      rw [ep, List.map_append, List.map_cons] at this
      exact (List.nodup_cons.mp (List.nodup_append.mp this).2.1).1
    obtain ⟨q1, q2, q3, q4⟩ := h.eqs p hpm
    obtain ⟨q, hq, hkq⟩ := h.keyr p hpm
    have hfp : f p.1 = MO_rNumber mo p.2 := by rw [hf p (by simp), q4]
    rw [f_SR_numberRows_L2, hkk, if_neg (nI_ge (by rw [ep]; simp) (by omega)), if_neg (nI_in (show L1.length < 300 by omega) (by omega)), nI_clamp (show L1.length < 2 ^ 31 by omega)]
    dsimp only [gl_let]
    rw [hor]
    unfold f_SR_isNumbered
    rw [if_neg (nI_in hp (by omega)), if_neg (nI_in hp (by omega)), nI_clamp (show p.1 < 2 ^ 31 by omega), nI_1]
    have hne : ∀ x ∈ L2, x.1 ≠ p.1 := fun x hx e => hnd (e ▸ List.mem_map_of_mem hx)
    have hsk : ∀ j : Nat, j < 8 → ¬ due3 mo j p = true ∨ j = q := by
      intro j hj
      by_cases z : due3 mo j p = true
      · right
        have := (due3_iff.mp z).1
        rw [hkq] at this
        exact ((nI_eq (by omega) (by omega)).mp this).symm
      · exact Or.inl z
    have no : ¬ due3 mo q p = true → ∃ f' g' : Nat → Int32, f_SR_numberRows_L2 sr m (nI (L1.length + 1)) (sRS_numbers rs f) (sNU_numbered nu g) = some (sRS_numbers rs f', sNU_numbered nu g') ∧ (∀ q : Nat, q < 8 → g' q = nI (N q + (L.filter (due3 mo q)).length)) ∧ (∀ y : Nat, y ∉ (p :: L2).map Prod.fst → f' y = f y) ∧
        (∀ A u B q, p :: L2 = A ++ u :: B → q < 8 → MO_rKey mo u.2 = nI q → f' u.1 = if due3 mo q u = true then nI (N q + ((L1 ++ A).filter (due3 mo q)).length) else RS_numbers rs u.1) := by
      intro z
      have hall : ∀ j : Nat, j < 8 → ¬ due3 mo j p = true := fun j hj => (hsk j hj).elim id (fun e => e ▸ z)
      obtain ⟨f', g', e1, e2, e3, e4⟩ := ih (L1 ++ [p]) m f g (by rw [ep]; simp) (by simp at hn; omega) (fun x hx => hf x (List.mem_cons_of_mem _ hx)) (fun j hj => by rw [hg j hj, List.filter_append, List.filter_cons_of_neg (hall j hj), List.filter_nil, List.append_nil])
      rw [List.length_append, List.length_singleton] at e1
      refine ⟨f', g', e1, e2, fun y hy => e3 y (fun w => hy (List.mem_cons_of_mem _ w)), ?_⟩
      intro A u B j eA hj hku
      cases A with
      | nil =>
        have hu : p = u := (List.cons.inj eA).1
        subst hu
        rw [if_neg (hall j hj), e3 p.1 hnd, hf p (by simp)]
      | cons a A =>
        obtain ⟨ea1, eA2⟩ := List.cons.inj eA
        have := e4 A u B j eA2 hj hku
        rw [List.append_assoc, List.singleton_append] at this
        rw [← ea1]
        exact this
    by_cases c1 : MO_rNumber mo p.2 = -1
    · rw [if_pos (show RS_numbers (sRS_numbers rs f) p.1 = -1 from hfp.trans c1), ob, if_pos rfl]
      have ht : RS_times (sRS_numbers rs f) p.1 = MO_rTime mo p.2 := q2
      have hky : RS_keys (sRS_numbers rs f) p.1 = nI q := q1.trans hkq
      rw [hX, ht, hky]
      by_cases c2 : MO_now mo ≤ MO_rTime mo p.2
      · rw [if_pos c2]
        exact no (fun z => by have := (due3_iff.mp z).2.2; rw [pl_lt] at this; rw [pl_le] at c2; omega)
      · rw [if_neg c2, if_neg (nI_in hq (by omega)), nI_clamp (show q < 2 ^ 31 by omega)]
        have hdue : due3 mo q p = true := due3_iff.mpr ⟨hkq, c1, by rw [pl_lt]; rw [pl_le] at c2; omega⟩
        obtain ⟨f1, hf1⟩ : ∃ f1, f1 = upd f p.1 (g q) := ⟨_, rfl⟩
        obtain ⟨g1, hg1⟩ : ∃ g1, g1 = upd g q (g q + 1) := ⟨_, rfl⟩
        obtain ⟨f', g', e1, e2, e3, e4⟩ := ih (L1 ++ [p]) m f1 g1 (by rw [ep]; simp) (by simp at hn; omega) (fun x hx => by rw [hf1, pk_un (hne x hx)]; exact hf x (List.mem_cons_of_mem _ hx))
          (fun j hj => by
            rw [hg1, List.filter_append]
            by_cases e : j = q
            · subst e
              rw [pk_us, hg j hj, nI_1, List.filter_cons_of_pos hdue, List.filter_nil, List.length_append, List.length_singleton, Nat.add_assoc]
            · rw [pk_un e, hg j hj, List.filter_cons_of_neg ((hsk j hj).resolve_right e), List.filter_nil, List.append_nil])
        rw [List.length_append, List.length_singleton] at e1
        refine ⟨f', g', ?_, e2, fun y hy => ?_, ?_⟩
        · rw [← e1, hf1, hg1]
        · rw [e3 y (fun w => hy (List.mem_cons_of_mem _ w)), hf1, pk_un (fun w => hy (List.mem_cons.mpr (Or.inl w)))]
        · intro A u B j eA hj hku
          cases A with
          | nil =>
            have hu : p = u := (List.cons.inj eA).1
            subst hu
            have hjq : j = q := by
              rw [hkq] at hku
              exact ((nI_eq (by omega) (by omega)).mp hku).symm
            subst hjq
            rw [if_pos hdue, e3 p.1 hnd, hf1, pk_us, hg j hj, List.append_nil]
          | cons a A =>
            obtain ⟨ea1, eA2⟩ := List.cons.inj eA
            have := e4 A u B j eA2 hj hku
            rw [List.append_assoc, List.singleton_append] at this
            rw [← ea1]
            exact this
    · rw [if_neg (show ¬ RS_numbers (sRS_numbers rs f) p.1 = -1 from fun z => c1 (hfp.symm.trans z)), ob, if_neg (by decide)]
      exact no (fun z => c1 (due3_iff.mp z).2.1)
def unn (mo : MOt) (q : Nat) (r : Nat) : Prop := MO_rKey mo r = nI q ∧ MO_rNumber mo r = -1 ∧ ¬ MO_now mo ≤ MO_rTime mo r
theorem p_cmL19 (mo : MOt) (q : Nat) : ∀ (n i : Nat) (v : Int32), i ≤ 300 → 300 - i < n → fnd (unn mo q) (bfr (MO_rTime mo) (MO_rCame mo)) 300 i v → ∃ v', f_MO_countedMark_L19 (nI q) mo n v (nI i) = some v' ∧ fnd (unn mo q) (bfr (MO_rTime mo) (MO_rCame mo)) 300 300 v' := by
  intro n
  induction n with
  | zero => intro i v _ h; omega
  | succ n ih =>
    intro i v hi hn hf
    rw [f_MO_countedMark_L19]
    by_cases hc : i = 300
    · subst hc
      rw [if_pos (by decide)]
      exact ⟨v, rfl, hf⟩
    · rw [if_neg (show ¬ (300 : Int32) ≤ nI i from nI_ge (a := i) (b := 300) (by omega) (by omega)), if_neg (nI_in (by omega) (by omega)), nI_clamp (by omega)]
      dsimp only [gl_let]
      rw [nI_1]
      by_cases h1 : MO_rKey mo i = nI q
      · rw [if_pos h1]
        by_cases h2 : MO_rNumber mo i = -1
        · rw [if_pos h2]
          by_cases h3 : MO_now mo ≤ MO_rTime mo i
          · rw [if_pos h3]
            exact ih (i + 1) v (by omega) (by omega) (fnd_no hf (fun z => z.2.2 h3))
          · rw [if_neg h3]
            have hs : unn mo q i := ⟨h1, h2, h3⟩
            by_cases hv : v = -1
            · rw [if_pos hv]
              subst hv
              exact ih (i + 1) _ (by omega) (by omega) (fnd_new (by omega) (bfr_irr _ _) hf hs (by omega))
            · rw [if_neg hv]
              obtain ⟨m, hm, hm2⟩ : ∃ m : Nat, v = nI m ∧ m < 300 := by
                rcases hf with ⟨h1, _⟩ | ⟨m, h1, h2, _⟩
                · exact absurd h1 hv
                · exact ⟨m, h1, h2⟩
              subst hm
              rw [p_isBefore (by omega) hm2, ob]
              by_cases hb : bfr (MO_rTime mo) (MO_rCame mo) i m
              · rw [if_pos hb, if_neg (by decide)]
                exact ih (i + 1) _ (by omega) (by omega) (fnd_take (by omega) (bfr_irr _ _) bfr_tr hf hm2 hs (by omega) hb)
              · rw [if_neg hb, if_pos rfl]
                exact ih (i + 1) _ (by omega) (by omega) (fnd_keep (by omega) hf hm2 hb)
        · rw [if_neg h2]
          exact ih (i + 1) v (by omega) (by omega) (fnd_no hf (fun z => h2 z.2.1))
      · rw [if_neg h1]
        exact ih (i + 1) v (by omega) (by omega) (fnd_no hf (fun z => h1 z.1))
theorem p_cmL10 (k : Nat) (hk : 5000 ≤ k) (mo : MOt) {q : Nat} (hq : q < 8) : ∀ (Q : List (Nat × Nat)) (n : Nat) (v : Int32) (f g : Nat → Int32) (a : Nat), Q.length + 1 < n → ¬ v = -1 → g q = nI a → a + Q.length ≤ 2000000 → Q.Pairwise (fun x y => bfr (MO_rTime mo) (MO_rCame mo) x.2 y.2) → (∀ x ∈ Q, x.2 < 300) → (∀ r : Nat, r < 300 → (unn (sMO_numbered (sMO_rNumber mo f) g) q r ↔ r ∈ Q.map Prod.snd)) →
    ∃ f' g' : Nat → Int32, f_MO_countedMark_L10 k (nI q) n v (sMO_numbered (sMO_rNumber mo f) g) = some (sMO_numbered (sMO_rNumber mo f') g') ∧ g' q = nI (a + Q.length) ∧ (∀ j : Nat, j ≠ q → g' j = g j) ∧ (∀ A p B, Q = A ++ p :: B → f' p.2 = nI (a + A.length)) ∧ (∀ r : Nat, r ∉ Q.map Prod.snd → f' r = f r) := by
  intro Q
  induction Q with
  | nil =>
    intro n v f g a hn hv hg ha hP hl hS
    obtain ⟨n, rfl⟩ : ∃ m, n = m + 2 := ⟨n - 2, by simp at hn; omega⟩
    obtain ⟨v', e1, e2⟩ := p_cmL19 (sMO_numbered (sMO_rNumber mo f) g) q k 0 (-1) (by omega) (by omega) (Or.inl ⟨rfl, fun r hr => absurd hr (by omega)⟩)
    rw [nI_0] at e1
    have hv' : v' = -1 := by
      rcases fnd_list e2 (Q := ([] : List (Nat × Nat))) hP hS (fun p hp => absurd hp (by simp)) with ⟨_, z⟩ | ⟨p, R, z, _⟩
      · exact z
      · exact absurd z (by simp)
    rw [f_MO_countedMark_L10, if_neg hv, e1, ob, if_pos hv', f_MO_countedMark_L10, if_pos hv']
    exact ⟨f, g, rfl, hg, fun j _ => rfl, fun A p B e => absurd e (by simp), fun r _ => rfl⟩
  | cons p Q ih =>
    intro n v f g a hn hv hg ha hP hl hS
    obtain ⟨n, rfl⟩ : ∃ m, n = m + 1 := ⟨n - 1, by omega⟩
    rw [List.length_cons] at hn ha
    have hp2 := hl p (by simp)
    obtain ⟨v', e1, e2⟩ := p_cmL19 (sMO_numbered (sMO_rNumber mo f) g) q k 0 (-1) (by omega) (by omega) (Or.inl ⟨rfl, fun r hr => absurd hr (by omega)⟩)
    rw [nI_0] at e1
    have hv' : v' = nI p.2 := by
      rcases fnd_list e2 hP hS hl with ⟨z, _⟩ | ⟨p', R, z, z2⟩
      · exact absurd z (by simp)
      · rw [z2, (List.cons.inj z).1]
    rw [f_MO_countedMark_L10, if_neg hv, e1, ob, hv', if_neg (nI_m1 (by omega)), if_neg (nI_in hq (by omega)), if_neg (nI_in hp2 (by omega)), nI_clamp (show q < 2 ^ 31 by omega), nI_clamp (show p.2 < 2 ^ 31 by omega)]
    dsimp only [gl_let]
    obtain ⟨f1, hf1⟩ : ∃ f1, f1 = upd f p.2 (g q) := ⟨_, rfl⟩
    obtain ⟨g1, hg1⟩ : ∃ g1, g1 = upd g q (g q + 1) := ⟨_, rfl⟩
    have hnp : p.2 ∉ Q.map Prod.snd := by
      intro z
      obtain ⟨d, hd, hd2⟩ := List.mem_map.mp z
      have := (List.pairwise_cons.mp hP).1 d hd
      rw [hd2] at this
      exact absurd this (bfr_irr _ _ _)
    obtain ⟨f', g', r1, r2, r3, r4, r5⟩ := ih n (nI p.2) f1 g1 (a + 1) (by omega) (nI_m1 (by omega)) (by rw [hg1, pk_us, hg, nI_1]) (by omega) (List.pairwise_cons.mp hP).2 (fun x hx => hl x (List.mem_cons_of_mem _ hx))
      (by
        intro r hr
        have h0 := hS r hr
        show (MO_rKey mo r = nI q ∧ f1 r = -1 ∧ ¬ MO_now mo ≤ MO_rTime mo r) ↔ _
        change (MO_rKey mo r = nI q ∧ f r = -1 ∧ ¬ MO_now mo ≤ MO_rTime mo r) ↔ _ at h0
        rw [hf1]
        by_cases e : r = p.2
        · subst e
          rw [pk_us, hg]
          exact ⟨fun z => absurd z.2.1 (nI_m1 (by omega)), fun z => absurd z hnp⟩
        · rw [pk_un e, h0, List.map_cons, List.mem_cons]
          exact ⟨fun z => z.resolve_left e, Or.inr⟩)
    refine ⟨f', g', ?_, ?_, fun j hj => ?_, ?_, fun r hr => ?_⟩
    · rw [← r1, hf1, hg1]
    · rw [r2, List.length_cons, show a + 1 + Q.length = a + (Q.length + 1) by omega]
    · rw [r3 j hj, hg1, pk_un hj]
    · intro A u B eA
      cases A with
      | nil =>
        have hu : p = u := (List.cons.inj eA).1
        subst hu
        rw [r5 p.2 hnp, hf1, pk_us, hg]
        rfl
      | cons x A =>
        obtain ⟨ea1, eA2⟩ := List.cons.inj eA
        rw [r4 A u B eA2, List.length_cons, show a + 1 + A.length = a + (A.length + 1) by omega]
    · rw [List.map_cons, List.mem_cons] at hr
      rw [r5 r (fun z => hr (Or.inr z)), hf1, pk_un (fun z => hr (Or.inl z))]
