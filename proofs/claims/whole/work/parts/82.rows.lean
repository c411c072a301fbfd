theorem p_uniteL16 {P : List (Nat × Nat)} {ss : SSt} {mo : MOt} (h : SP P ss mo) {w : Nat} (hw : w < 5) : ∀ (P2 P1 : List (Nat × Nat)) (n : Nat) (U : Nat → Int64), P = P1 ++ P2 → P2.length < n →
    ∃ U' : Nat → Int64, f_SS_uniteRows_L16 (nI w) n (nI P1.length) (sSS_united ss U) = some (sSS_united ss U') ∧ (∀ y : Nat, y ≠ w → U' y = U y) ∧ (∀ j : Nat, (U' w).toBitVec.getLsbD j = ((U w).toBitVec.getLsbD j || P2.any (fun p => (SS_had ss (5 * p.1 + w)).toBitVec.getLsbD j))) := by
  have hlen := h.len
  intro P2
  induction P2 with
  | nil =>
    intro P1 n U ep hn
    obtain ⟨m, rfl⟩ : ∃ m, n = m + 1 := ⟨n - 1, by omega⟩
    have hkk : SS_kept (sSS_united ss U) = nI P.length := h.kept
    rw [f_SS_uniteRows_L16, hkk, ep, List.append_nil, if_pos (nI_le (Nat.le_refl _) (by rw [ep] at hlen; simp at hlen; omega))]
    exact ⟨U, rfl, fun y _ => rfl, fun j => by simp⟩
  | cons p P2 ih =>
    intro P1 n U ep hn
    obtain ⟨m, rfl⟩ : ∃ m, n = m + 1 := ⟨n - 1, by omega⟩
    have hpm : p ∈ P := by rw [ep]; simp
    have hp := h.lt1 p hpm
    have hl : P1.length + (P2.length + 1) ≤ 200 := by rw [ep] at hlen; simpa using hlen
    have hkk : SS_kept (sSS_united ss U) = nI P.length := h.kept
    have hor : SS_order (sSS_united ss U) P1.length = nI p.1 := by
      have h' := h
      rw [ep] at h'
      exact h'.at
    have h5 : nI p.1 * 5 + nI w = nI (5 * p.1 + w) := by rw [show (5 : Int32) = nI 5 from rfl, pk_mul, nI_add, Nat.mul_comm]
    rw [f_SS_uniteRows_L16, hkk, if_neg (nI_ge (by rw [ep]; simp) (by omega)), if_neg (nI_in (show P1.length < 200 by omega) (by omega)), nI_clamp (show P1.length < 2 ^ 31 by omega), hor, h5, if_neg (nI_in (show 5 * p.1 + w < 1000 by omega) (by omega)), nI_clamp (show 5 * p.1 + w < 2 ^ 31 by omega), nI_clamp (show w < 2 ^ 31 by omega)]
    dsimp only [gl_let]
    rw [nI_1]
    obtain ⟨U1, hU1⟩ : ∃ U1, U1 = vp_updL U w (U w ||| SS_had ss (5 * p.1 + w)) := ⟨_, rfl⟩
    obtain ⟨U', e1, e2, e3⟩ := ih (P1 ++ [p]) m U1 (by rw [ep]; simp) (by simp at hn; omega)
    rw [List.length_append, List.length_singleton] at e1
    refine ⟨U', ?_, fun y hy => ?_, fun j => ?_⟩
    · rw [← e1, hU1]
    · rw [e2 y hy, hU1, pk_uLn hy]
    · rw [e3 j, hU1, pk_uLs, bt_or2, List.any_cons, Bool.or_assoc]
theorem p_uniteL2 (k : Nat) (hk : 5000 ≤ k) {P : List (Nat × Nat)} {ss : SSt} {mo : MOt} (h : SP P ss mo) : ∀ (m n i : Nat) (U : Nat → Int64), i + m = 5 → m < n →
    ∃ U' : Nat → Int64, f_SS_uniteRows_L2 k n (nI i) (sSS_united ss U) = some (sSS_united ss U') ∧ (∀ y : Nat, y < i → U' y = U y) ∧ (∀ w : Nat, i ≤ w → w < 5 → ∀ j : Nat, (U' w).toBitVec.getLsbD j = P.any (fun p => (SS_had ss (5 * p.1 + w)).toBitVec.getLsbD j)) := by
  have hlen := h.len
  intro m
  induction m with
  | zero =>
    intro n i U hi hn
    obtain ⟨n, rfl⟩ : ∃ m, n = m + 1 := ⟨n - 1, by omega⟩
    have hi2 : i = 5 := by omega
    subst hi2
    rw [f_SS_uniteRows_L2, if_pos (by decide)]
    exact ⟨U, rfl, fun y _ => rfl, fun w h1 h2 => by omega⟩
  | succ m ih =>
    intro n i U hi hn
    obtain ⟨n, rfl⟩ : ∃ m, n = m + 1 := ⟨n - 1, by omega⟩
    rw [f_SS_uniteRows_L2, if_neg (show ¬ (5 : Int32) ≤ nI i from nI_ge (a := i) (b := 5) (by omega) (by omega)), if_neg (nI_in (show i < 5 by omega) (by omega)), nI_clamp (by omega)]
    dsimp only [gl_let]
    obtain ⟨U0, hU0⟩ : ∃ U0, U0 = vp_updL U i 0 := ⟨_, rfl⟩
    obtain ⟨U1, a1, a2, a3⟩ := p_uniteL16 h (w := i) (by omega) P [] k U0 rfl (by omega)
    rw [List.length_nil, nI_0] at a1
    obtain ⟨U', e1, e2, e3⟩ := ih n (i + 1) U1 (by omega) (by omega)
    have hst : sSS_united (sSS_united ss U) (vp_updL (SS_united (sSS_united ss U)) i 0) = sSS_united ss U0 := by rw [hU0]
    rw [hst, a1, ob, nI_1]
    refine ⟨U', e1, fun y hy => ?_, fun w h1 h2 j => ?_⟩
    · rw [e2 y (by omega), a2 y (by omega), hU0, pk_uLn (by omega)]
    · by_cases e : w = i
      · subst e
        rw [e2 w (by omega), a3 j, hU0, pk_uLs]
        rw [show (0 : Int64).toBitVec.getLsbD j = false from BitVec.getLsbD_zero, Bool.false_or]
      · exact e3 w (by omega) h2 j
theorem p_unite (k : Nat) (hk : 5000 ≤ k) {P : List (Nat × Nat)} {ss : SSt} {mo : MOt} (h : SP P ss mo) : ∃ U : Nat → Int64, f_SS_uniteRows k ss = some (sSS_united ss U) ∧ ∀ c : Nat, c < 300 → bt U 0 c = P.any (fun p => bt (SS_had ss) p.1 c) := by
  obtain ⟨U, e1, _, e3⟩ := p_uniteL2 k hk h 5 k 0 (SS_united ss) (by omega) (by omega)
  rw [nI_0, show sSS_united ss (SS_united ss) = ss from rfl] at e1
  refine ⟨U, ?_, fun c hc => ?_⟩
  · unfold f_SS_uniteRows
    rw [e1, ob]
  · unfold bt
    rw [Nat.mul_zero, Nat.zero_add, e3 (c / 64) (by omega) (by omega)]
theorem p_endL64 {L : List (Nat × Nat)} {rs : RSt} {mo : MOt} (h : RR L rs mo) (ss : SSt) : ∀ (L2 L1 : List (Nat × Nat)) (n : Nat) (V : Nat → Int32), L = L1 ++ L2 → L2.length < n →
    ∃ V' : Nat → Int32, f_SR_endSpans_L64 ss n (nI L1.length) (sRS_leaves rs V) = some (sRS_leaves rs V') ∧ (∀ y : Nat, y ∉ L2.map Prod.fst → V' y = V y) ∧ (∀ p ∈ L2, V' p.1 = if bt (SS_united ss) 0 p.1 = true then 0 else 1) := by
  have hlen := h.len
  intro L2
  induction L2 with
  | nil =>
    intro L1 n V ep hn
    obtain ⟨m, rfl⟩ : ∃ m, n = m + 1 := ⟨n - 1, by omega⟩
    have hkk : RS_kept (sRS_leaves rs V) = nI L.length := h.kept
    rw [f_SR_endSpans_L64, hkk, ep, List.append_nil, if_pos (nI_le (Nat.le_refl _) (by rw [ep] at hlen; simp at hlen; omega))]
    exact ⟨V, rfl, fun y _ => rfl, fun p hp => absurd hp (by simp)⟩
  | cons p L2 ih =>
    intro L1 n V ep hn
    obtain ⟨m, rfl⟩ : ∃ m, n = m + 1 := ⟨n - 1, by omega⟩
    have hpm : p ∈ L := by rw [ep]; simp
    have hp := h.lt1 p hpm
    have hl : L1.length + (L2.length + 1) ≤ 300 := by rw [ep] at hlen; simpa using hlen
    have hkk : RS_kept (sRS_leaves rs V) = nI L.length := h.kept
    have hor : RS_order (sRS_leaves rs V) L1.length = nI p.1 := by
      have h' := h
      rw [ep] at h'
      exact h'.at
    have hnd : p.1 ∉ L2.map Prod.fst := by
      have := h.nd1
      rw [ep, List.map_append, List.map_cons] at this
      exact (List.nodup_cons.mp (List.nodup_append.mp this).2.1).1
    have hin := p_isIn (f := SS_united ss) (N := 5) (s := 0) (c := p.1) (by omega) hp (by omega) (by omega)
    rw [nI_0] at hin
    rw [f_SR_endSpans_L64, hkk, if_neg (nI_ge (by rw [ep]; simp) (by omega)), if_neg (nI_in (show L1.length < 300 by omega) (by omega)), nI_clamp (show L1.length < 2 ^ 31 by omega)]
    dsimp only [gl_let]
    rw [hor, hin, ob, if_neg (nI_in hp (by omega)), if_neg (nI_in hp (by omega)), nI_clamp (show p.1 < 2 ^ 31 by omega), nI_1]
    have step : ∀ v : Int32, v = (if bt (SS_united ss) 0 p.1 = true then 0 else 1) → ∃ V' : Nat → Int32, f_SR_endSpans_L64 ss m (nI (L1.length + 1)) (sRS_leaves (sRS_leaves rs V) (upd (RS_leaves (sRS_leaves rs V)) p.1 v)) = some (sRS_leaves rs V') ∧ (∀ y : Nat, y ∉ (p :: L2).map Prod.fst → V' y = V y) ∧ (∀ q ∈ p :: L2, V' q.1 = if bt (SS_united ss) 0 q.1 = true then 0 else 1) := by
      intro v hv
      obtain ⟨V1, hV1⟩ : ∃ V1, V1 = upd V p.1 v := ⟨_, rfl⟩
      obtain ⟨V', e1, e2, e3⟩ := ih (L1 ++ [p]) m V1 (by rw [ep]; simp) (by simp at hn; omega)
      rw [List.length_append, List.length_singleton] at e1
      refine ⟨V', ?_, fun y hy => ?_, fun q hq => ?_⟩
      · rw [← e1, hV1]
      · rw [List.map_cons, List.mem_cons] at hy
        rw [e2 y (fun z => hy (Or.inr z)), hV1, pk_un (fun z => hy (Or.inl z))]
      · rcases List.mem_cons.mp hq with rfl | hq
        · rw [e2 q.1 hnd, hV1, pk_us, hv]
        · exact e3 q hq
    by_cases c1 : bt (SS_united ss) 0 p.1 = true
    · rw [if_pos c1, if_neg (by decide)]
      exact step 0 (by rw [if_pos c1])
    · rw [if_neg c1, if_pos rfl]
      exact step 1 (by rw [if_neg c1])
theorem p_markL241 (mo : MOt) {r : Nat} (hr : r < 300) : ∀ (m n i : Nat) (v : Int32), i + m = 200 → m < n → (v = 0 ∨ v = 1) → ∃ v', f_MO_mark_L241 (nI r) mo n v (nI i) = some v' ∧ (v' = 0 ∨ v' = 1) ∧ (¬ v' = 0 ↔ ¬ v = 0 ∨ ∃ s : Nat, i ≤ s ∧ s < 200 ∧ ¬ MO_sKey mo s = -1 ∧ ¬ MO_has mo (300 * s + r) = 0) := by
  intro m
  induction m with
  | zero =>
    intro n i v hi hn hv
    obtain ⟨n, rfl⟩ : ∃ m, n = m + 1 := ⟨n - 1, by omega⟩
    rw [f_MO_mark_L241, if_pos (show (200 : Int32) ≤ nI i from nI_le (a := 200) (by omega) (by omega))]
    exact ⟨v, rfl, hv, fun z => Or.inl z, fun z => z.elim id (fun ⟨s, h1, h2, _⟩ => by omega)⟩
  | succ m ih =>
    intro n i v hi hn hv
    obtain ⟨n, rfl⟩ : ∃ m, n = m + 1 := ⟨n - 1, by omega⟩
    rw [f_MO_mark_L241, if_neg (show ¬ (200 : Int32) ≤ nI i from nI_ge (a := i) (b := 200) (by omega) (by omega))]
    dsimp only [gl_let]
    rw [nI_1]
    by_cases c0 : v = 0
    · rw [if_pos c0, if_neg (nI_in (show i < 200 by omega) (by omega)), nI_clamp (show i < 2 ^ 31 by omega)]
      have no : ¬ (¬ MO_sKey mo i = -1 ∧ ¬ MO_has mo (300 * i + r) = 0) → ∃ v', f_MO_mark_L241 (nI r) mo n 0 (nI (i + 1)) = some v' ∧ (v' = 0 ∨ v' = 1) ∧ (¬ v' = 0 ↔ ¬ v = 0 ∨ ∃ s : Nat, i ≤ s ∧ s < 200 ∧ ¬ MO_sKey mo s = -1 ∧ ¬ MO_has mo (300 * s + r) = 0) := by
        intro z
        obtain ⟨v', e1, e2, e3⟩ := ih n (i + 1) 0 (by omega) (by omega) (Or.inl rfl)
        refine ⟨v', e1, e2, e3.trans ?_⟩
        constructor
        · rintro (y | ⟨s, h1, h2, h3⟩)
          · exact absurd rfl y
          · exact Or.inr ⟨s, by omega, h2, h3⟩
        · rintro (y | ⟨s, h1, h2, h3⟩)
          · exact absurd c0 y
          · right
            by_cases e : s = i
            · subst e; exact absurd h3 z
            · exact ⟨s, by omega, h2, h3⟩
      by_cases c1 : MO_sKey mo i = -1
      · rw [if_pos c1]
        exact no (fun z => z.1 c1)
      · rw [if_neg c1, p_ix, if_neg (nI_in (show 300 * i + r < 60000 by omega) (by omega)), nI_clamp (show 300 * i + r < 2 ^ 31 by omega)]
        by_cases c2 : MO_has mo (300 * i + r) = 0
        · rw [if_pos c2]
          exact no (fun z => z.2 c2)
        · rw [if_neg c2]
          obtain ⟨v', e1, e2, e3⟩ := ih n (i + 1) 1 (by omega) (by omega) (Or.inr rfl)
          exact ⟨v', e1, e2, fun _ => Or.inr ⟨i, Nat.le_refl _, by omega, c1, c2⟩, fun _ => e3.mpr (Or.inl (by decide))⟩
    · rw [if_neg c0]
      obtain ⟨v', e1, e2, e3⟩ := ih n (i + 1) 1 (by omega) (by omega) (Or.inr rfl)
      exact ⟨v', e1, e2, fun _ => Or.inl c0, fun _ => e3.mpr (Or.inl (by decide))⟩
