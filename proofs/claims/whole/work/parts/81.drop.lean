theorem fil_one : ∀ {L : List (Nat × Nat)} {p : Nat × Nat} (f : Nat × Nat → Bool), (L.map Prod.snd).Nodup → p ∈ L → f p = true → (L.filter (fun q => f q && !(q.2 == p.2))).length + 1 = (L.filter f).length := by
  intro L
  induction L with
  | nil => intro p f _ h; exact absurd h (by simp)
  | cons x L ih =>
    intro p f hn hp hf
    rw [List.map_cons, List.nodup_cons] at hn
    rcases List.mem_cons.mp hp with h1 | h1
    · rw [← h1]
      rw [← h1] at hn
      have hsame : L.filter (fun q => f q && !(q.2 == p.2)) = L.filter f := by
        apply List.filter_congr
        intro q hq
        have : ¬ q.2 = p.2 := fun e => hn.1 (e ▸ List.mem_map_of_mem hq)
        simp [this]
      rw [List.filter_cons_of_neg (by simp), List.filter_cons_of_pos hf, hsame, List.length_cons]
    · have hne : ¬ x.2 = p.2 := fun e => hn.1 (e ▸ List.mem_map_of_mem h1)
      have := ih f hn.2 h1 hf
      by_cases c : f x = true
      · rw [List.filter_cons_of_pos (by simp [c, hne]), List.filter_cons_of_pos c, List.length_cons, List.length_cons, this]
      · rw [List.filter_cons_of_neg (by simp [c]), List.filter_cons_of_neg c, this]
/-- the list without those below i that go -/
def stb (g : Nat → Bool) (i : Nat) (p : Nat × Nat) : Bool := !(decide (p.2 < i) && g p.2)
theorem stb_no {L : List (Nat × Nat)} {g : Nat → Bool} {i : Nat} (h : i ∉ L.map Prod.snd ∨ g i = false) : L.filter (stb g (i + 1)) = L.filter (stb g i) := by
  apply List.filter_congr
  intro q hq
  unfold stb
  by_cases e : q.2 = i
  · rcases h with h | h
    · exact absurd (e ▸ List.mem_map_of_mem hq) h
    · rw [e, h]; simp
  · have : decide (q.2 < i + 1) = decide (q.2 < i) := by
      by_cases z : q.2 < i
      · rw [decide_eq_true z, decide_eq_true (by omega)]
      · rw [decide_eq_false z, decide_eq_false (by omega)]
    rw [this]
theorem stb_one {L : List (Nat × Nat)} {g : Nat → Bool} {i : Nat} (hn : (L.map Prod.snd).Nodup) (h : i ∈ L.map Prod.snd) (hg : g i = true) : (L.filter (stb g (i + 1))).length + 1 = (L.filter (stb g i)).length := by
  obtain ⟨p, hp, e⟩ := List.mem_map.mp h
  rw [← fil_one (p := p) (stb g i) hn hp (by unfold stb; rw [e]; simp)]
  congr 2
  apply List.filter_congr
  intro q hq
  unfold stb
  rw [e]
  by_cases z : q.2 = i
  · rw [z, hg]; simp
  · have : decide (q.2 < i + 1) = decide (q.2 < i) := by
      by_cases z : q.2 < i
      · rw [decide_eq_true z, decide_eq_true (by omega)]
      · rw [decide_eq_false z, decide_eq_false (by omega)]
    rw [this]
    simp [z]
theorem stb_zero (L : List (Nat × Nat)) (g : Nat → Bool) : L.filter (stb g 0) = L := by
  rw [List.filter_eq_self]
  intro q _
  unfold stb
  simp
theorem stb_all {L : List (Nat × Nat)} (g : Nat → Bool) {N : Nat} (h : ∀ p ∈ L, p.2 < N) : L.filter (stb g N) = L.filter (fun p => !g p.2) := by
  apply List.filter_congr
  intro q hq
  unfold stb
  rw [decide_eq_true (h q hq), Bool.true_and]
def gnb (mo : MOt) (s : Nat) : Bool := decide (¬ MO_now mo < MO_sEnd mo s + MO_lateness mo)
theorem p_markL161 {P : List (Nat × Nat)} {ss : SSt} {mo : MOt} (h : SP P ss mo) : ∀ (m n i : Nat) (K : Nat → Int32), i + m = 200 → m < n → (∀ s : Nat, i ≤ s → K s = MO_sKey mo s) →
    ∃ K' : Nat → Int32, f_MO_mark_L161 n (nI i) (sMO_spans (sMO_sKey mo K) (nI (P.filter (stb (gnb mo) i)).length)) = some (sMO_spans (sMO_sKey mo K') (nI (P.filter (stb (gnb mo) 200)).length)) ∧ (∀ s : Nat, K' s = if i ≤ s ∧ s < 200 ∧ gnb mo s = true then -1 else K s) := by
  intro m
  induction m with
  | zero =>
    intro n i K hi hn hK
    obtain ⟨n, rfl⟩ : ∃ m, n = m + 1 := ⟨n - 1, by omega⟩
    have hi2 : i = 200 := by omega
    subst hi2
    rw [f_MO_mark_L161, if_pos (by decide)]
    exact ⟨K, rfl, fun s => by rw [if_neg (by omega)]⟩
  | succ m ih =>
    intro n i K hi hn hK
    obtain ⟨n, rfl⟩ : ∃ m, n = m + 1 := ⟨n - 1, by omega⟩
    have hKi : MO_sKey (sMO_spans (sMO_sKey mo K) (nI (P.filter (stb (gnb mo) i)).length)) i = MO_sKey mo i := hK i (Nat.le_refl _)
    rw [f_MO_mark_L161, if_neg (show ¬ (200 : Int32) ≤ nI i from nI_ge (a := i) (b := 200) (by omega) (by omega)), if_neg (nI_in (show i < 200 by omega) (by omega)), nI_clamp (by omega), hKi]
    dsimp only [gl_let]
    rw [nI_1]
    by_cases h1 : MO_sKey mo i = -1
    · rw [if_pos h1]
      have hni : i ∉ P.map Prod.snd := by
        intro z
        obtain ⟨p, hp, e⟩ := List.mem_map.mp z
        obtain ⟨q, hq, e2⟩ := h.keyr p hp
        rw [e, h1] at e2
        exact nI_m1 (by omega) e2.symm
      obtain ⟨K', e1, e2⟩ := ih n (i + 1) K (by omega) (by omega) (fun s hs => hK s (by omega))
      rw [stb_no (Or.inl hni)] at e1
      refine ⟨K', e1, fun s => ?_⟩
      rw [e2 s]
      by_cases e : s = i
      · subst e
        rw [if_neg (by omega)]
        by_cases z : s ≤ s ∧ s < 200 ∧ gnb mo s = true
        · rw [if_pos z, hK s (Nat.le_refl _), h1]
        · rw [if_neg z]
      · by_cases z : i + 1 ≤ s ∧ s < 200 ∧ gnb mo s = true
        · rw [if_pos z, if_pos ⟨by omega, z.2⟩]
        · rw [if_neg z, if_neg (fun y => z ⟨by omega, y.2⟩)]
    · rw [if_neg h1]
      have hin : i ∈ P.map Prod.snd := (h.free i (by omega)).resolve_left h1
      by_cases h2 : MO_now mo < MO_sEnd mo i + MO_lateness mo
      · rw [if_pos (show MO_now (sMO_spans (sMO_sKey mo K) (nI (P.filter (stb (gnb mo) i)).length)) < MO_sEnd (sMO_spans (sMO_sKey mo K) (nI (P.filter (stb (gnb mo) i)).length)) i + MO_lateness (sMO_spans (sMO_sKey mo K) (nI (P.filter (stb (gnb mo) i)).length)) from h2)]
        have hg : gnb mo i = false := decide_eq_false (fun z => z h2)
        obtain ⟨K', e1, e2⟩ := ih n (i + 1) K (by omega) (by omega) (fun s hs => hK s (by omega))
        rw [stb_no (Or.inr hg)] at e1
        refine ⟨K', e1, fun s => ?_⟩
        rw [e2 s]
        by_cases e : s = i
        · subst e
          rw [if_neg (by omega), if_neg (fun z => by rw [hg] at z; exact absurd z.2.2 (by decide))]
        · by_cases z : i + 1 ≤ s ∧ s < 200 ∧ gnb mo s = true
          · rw [if_pos z, if_pos ⟨by omega, z.2⟩]
          · rw [if_neg z, if_neg (fun y => z ⟨by omega, y.2⟩)]
      · rw [if_neg (show ¬ MO_now (sMO_spans (sMO_sKey mo K) (nI (P.filter (stb (gnb mo) i)).length)) < MO_sEnd (sMO_spans (sMO_sKey mo K) (nI (P.filter (stb (gnb mo) i)).length)) i + MO_lateness (sMO_spans (sMO_sKey mo K) (nI (P.filter (stb (gnb mo) i)).length)) from h2)]
        have hg : gnb mo i = true := decide_eq_true h2
        have hone := stb_one h.nd hin hg
        obtain ⟨K1, hK1⟩ : ∃ K1, K1 = upd K i (-1) := ⟨_, rfl⟩
        obtain ⟨K', e1, e2⟩ := ih n (i + 1) K1 (by omega) (by omega) (fun s hs => by rw [hK1, pk_un (by omega)]; exact hK s (by omega))
        refine ⟨K', ?_, fun s => ?_⟩
        · rw [← e1, ← hone]
          show f_MO_mark_L161 n (nI (i + 1)) (sMO_spans (sMO_sKey mo (upd K i (-1))) (nI ((P.filter (stb (gnb mo) (i + 1))).length + 1) - 1)) = _
          rw [nI_s1.1, hK1]
        · rw [e2 s, hK1]
          by_cases e : s = i
          · subst e
            rw [if_neg (by omega), if_pos ⟨Nat.le_refl _, by omega, hg⟩, pk_us]
          · rw [pk_un e]
            by_cases z : i + 1 ≤ s ∧ s < 200 ∧ gnb mo s = true
            · rw [if_pos z, if_pos ⟨by omega, z.2⟩]
            · rw [if_neg z, if_neg (fun y => z ⟨by omega, y.2⟩)]
theorem p_dropL2 {P : List (Nat × Nat)} {ss : SSt} {mo : MOt} (h : SP P ss mo) (x : Int64) : ∀ (P2 P1 : List (Nat × Nat)) (n : Nat) (K : Nat → Int32), P = P1 ++ P2 → P2.length < n →
    ∃ K' : Nat → Int32, f_SS_dropEndsUpTo_L2 x n (nI P1.length) (sSS_keys ss K) = some (sSS_keys ss K') ∧ ∀ y : Nat, K' y = if y ∈ P2.map Prod.fst ∧ SS_ends ss y ≤ x then -1 else K y := by
  have hlen := h.len
  intro P2
  induction P2 with
  | nil =>
    intro P1 n K ep hn
    obtain ⟨m, rfl⟩ : ∃ m, n = m + 1 := ⟨n - 1, by omega⟩
    have hkk : SS_kept (sSS_keys ss K) = nI P.length := h.kept
    rw [f_SS_dropEndsUpTo_L2, hkk, ep, List.append_nil, if_pos (nI_le (Nat.le_refl _) (by rw [ep] at hlen; simp at hlen; omega))]
    exact ⟨K, rfl, fun y => by rw [if_neg (by simp)]⟩
  | cons p P2 ih =>
    intro P1 n K ep hn
    obtain ⟨m, rfl⟩ : ∃ m, n = m + 1 := ⟨n - 1, by omega⟩
    have hpm : p ∈ P := by rw [ep]; simp
    have hp := h.lt1 p hpm
    have hl : P1.length + (P2.length + 1) ≤ 200 := by rw [ep] at hlen; simpa using hlen
    have hkk : SS_kept (sSS_keys ss K) = nI P.length := h.kept
    have hor : SS_order (sSS_keys ss K) P1.length = nI p.1 := by
      have h' := h
      rw [ep] at h'
      exact h'.at
    rw [f_SS_dropEndsUpTo_L2, hkk, if_neg (nI_ge (by rw [ep]; simp) (by omega)), if_neg (nI_in (show P1.length < 200 by omega) (by omega)), nI_clamp (show P1.length < 2 ^ 31 by omega)]
    dsimp only [gl_let]
    rw [hor, if_neg (nI_in hp (by omega)), nI_clamp (show p.1 < 2 ^ 31 by omega), nI_1]
    have hnd : p.1 ∉ P2.map Prod.fst := by
      have := h.nd1
      rw [ep, List.map_append, List.map_cons] at this
      exact (List.nodup_cons.mp (List.nodup_append.mp this).2.1).1
    by_cases hc : x < SS_ends ss p.1
    · rw [if_pos (show x < SS_ends (sSS_keys ss K) p.1 from hc)]
      obtain ⟨K', e1, e2⟩ := ih (P1 ++ [p]) m K (by rw [ep]; simp) (by simp at hn; omega)
      rw [List.length_append, List.length_singleton] at e1
      refine ⟨K', e1, fun y => ?_⟩
      rw [e2 y]
      by_cases e : y = p.1
      · subst e
        rw [if_neg (fun z => hnd z.1), if_neg (fun z => by have := z.2; rw [pl_le] at this; rw [pl_lt] at hc; omega)]
      · by_cases z : y ∈ P2.map Prod.fst ∧ SS_ends ss y ≤ x
        · rw [if_pos z, if_pos ⟨List.mem_cons.mpr (Or.inr z.1), z.2⟩]
        · rw [if_neg z, if_neg (fun w => z ⟨(List.mem_cons.mp w.1).resolve_left e, w.2⟩)]
    · rw [if_neg (show ¬ x < SS_ends (sSS_keys ss K) p.1 from hc)]
      obtain ⟨K1, hK1⟩ : ∃ K1, K1 = upd K p.1 (-1) := ⟨_, rfl⟩
      obtain ⟨K', e1, e2⟩ := ih (P1 ++ [p]) m K1 (by rw [ep]; simp) (by simp at hn; omega)
      rw [List.length_append, List.length_singleton] at e1
      refine ⟨K', ?_, fun y => ?_⟩
      · rw [← e1, hK1]
      · rw [e2 y, hK1]
        by_cases e : y = p.1
        · subst e
          rw [if_neg (fun z => hnd z.1), if_pos ⟨by simp, by rw [pl_le]; rw [pl_lt] at hc; omega⟩, pk_us]
        · rw [pk_un e]
          by_cases z : y ∈ P2.map Prod.fst ∧ SS_ends ss y ≤ x
          · rw [if_pos z, if_pos ⟨List.mem_cons.mpr (Or.inr z.1), z.2⟩]
          · rw [if_neg z, if_neg (fun w => z ⟨(List.mem_cons.mp w.1).resolve_left e, w.2⟩)]
/-- the spans that stay -/
theorem p_drop (k : Nat) (hk : 5000 ≤ k) {L P : List (Nat × Nat)} {sr : SRt} {ss : SSt} {mo : MOt} (hX : SX sr mo) (h : SP P ss mo) (hB : BT L P (SS_had ss) (SS_untold ss) (MO_has mo) (MO_toldOf mo)) :
    ∃ (P' : List (Nat × Nat)) (ss' : SSt) (mo' : MOt), f_SS_dropEndsUpTo k (SR_theMark sr - SR_lateBy sr) ss = some ss' ∧ f_MO_mark_L161 k 0 mo = some mo' ∧ SP P' ss' mo' ∧ BT L P' (SS_had ss') (SS_untold ss') (MO_has mo') (MO_toldOf mo') ∧ (∃ f : Nat × Nat → Bool, P' = P.filter f) ∧ ∃ (K : Nat → Int32) (c : Int32), mo' = sMO_spans (sMO_sKey mo K) c ∧ ∀ p ∈ P', K p.2 = MO_sKey mo p.2 := by
  have hlen := h.len
  obtain ⟨K1, c1, c2⟩ := p_dropL2 h (MO_now mo - MO_lateness mo) P [] k (SS_keys ss) rfl (by omega)
  rw [List.length_nil, nI_0, show sSS_keys ss (SS_keys ss) = ss from rfl] at c1
  obtain ⟨K2, m1, m2⟩ := p_markL161 h 200 k 0 (MO_sKey mo) (by omega) (by omega) (fun s _ => rfl)
  rw [nI_0, stb_zero, ← h.spans, show sMO_spans (sMO_sKey mo (MO_sKey mo)) (MO_spans mo) = mo from rfl, stb_all (gnb mo) h.lt] at m1
  obtain ⟨F, hO, hP⟩ := h.ord
  obtain ⟨o, F', s1, s2, s3⟩ := p_SSsweep k hk (ss := sSS_keys ss K1) hO hP (by rw [List.length_map]; exact h.kept)
  have hgone : ∀ p ∈ P, (gnb mo p.2 = true ↔ MO_sEnd mo p.2 ≤ MO_now mo - MO_lateness mo) := by
    intro p hp
    rw [← p_gone hX (h.bnd p hp).2.1]
    unfold gnb
    rw [decide_eq_true_eq, pl_lt, pl_le]
    omega
  have hk1 : ∀ p ∈ P, K1 p.1 = if gnb mo p.2 = true then -1 else MO_sKey mo p.2 := by
    intro p hp
    obtain ⟨q1, q2, q3, -⟩ := h.eqs p hp
    rw [c2]
    have hm : p.1 ∈ P.map Prod.fst := List.mem_map_of_mem hp
    by_cases z : gnb mo p.2 = true
    · rw [if_pos z, if_pos ⟨hm, by rw [q3]; exact (hgone p hp).mp z⟩]
    · rw [if_neg z, if_neg (fun w => z ((hgone p hp).mpr (by rw [← q3]; exact w.2))), q1]
  have hk2 : ∀ p ∈ P, K2 p.2 = if gnb mo p.2 = true then -1 else MO_sKey mo p.2 := by
    intro p hp
    have := h.lt p hp
    rw [m2]
    by_cases z : gnb mo p.2 = true
    · rw [if_pos z, if_pos ⟨by omega, this, z⟩]
    · rw [if_neg z, if_neg (fun w => z w.2.2)]
  have hfil : (P.map Prod.fst).filter (stS (sSS_keys ss K1)) = (P.filter (fun p => !gnb mo p.2)).map Prod.fst := by
    rw [List.filter_map]
    congr 1
    apply List.filter_congr
    intro p hp
    show decide (¬ K1 p.1 = -1) = !gnb mo p.2
    rw [hk1 p hp]
    by_cases z : gnb mo p.2 = true
    · rw [if_pos z, z]; rfl
    · rw [if_neg z]
      obtain ⟨q, hq, e⟩ := h.keyr p hp
      rw [e, decide_eq_true (nI_m1 (by omega))]
      simp at z
      rw [z]; rfl
  rw [hfil] at s1 s2 s3
  rw [List.length_map] at s1
  have hsub : ∀ p ∈ P.filter (fun p => !gnb mo p.2), p ∈ P ∧ gnb mo p.2 = false := by
    intro p hp
    have := List.mem_filter.mp hp
    exact ⟨this.1, by simpa using this.2⟩
  have hks : ∀ p ∈ P.filter (fun p => !gnb mo p.2), K2 p.2 = MO_sKey mo p.2 ∧ K1 p.1 = MO_sKey mo p.2 := by
    intro p hp
    obtain ⟨h1, h2⟩ := hsub p hp
    rw [hk2 p h1, hk1 p h1, h2, if_neg (by decide)]
    exact ⟨rfl, rfl⟩
  refine ⟨P.filter (fun p => !gnb mo p.2), sSS_kept (sSS_order (sSS_keys ss K1) o) (nI (P.filter (fun p => !gnb mo p.2)).length), _, ?_, m1, ?_, ?_, ⟨_, rfl⟩, ⟨_, _, rfl, fun p hp => (hks p hp).1⟩⟩
  · unfold f_SS_dropEndsUpTo
    rw [show SR_theMark sr - SR_lateBy sr = MO_now mo - MO_lateness mo from by rw [hX.1.2.1, hX.1.1], c1, ob, s1, ob]
  · refine ⟨rfl, rfl, ⟨F', s2, s3⟩, ?_, ?_, fun p hp => h.lt p (hsub p hp).1, nd_filmap h.nd _, ?_, ?_, fun p hp => h.bnd p (hsub p hp).1⟩
    · intro p hp
      obtain ⟨z1, z2, z3, z4, z5, z6⟩ := h.eqs p (hsub p hp).1
      refine ⟨?_, z2, z3, z4, z5, z6⟩
      show K1 p.1 = K2 p.2
      rw [(hks p hp).1, (hks p hp).2]
    · intro p hp
      show ∃ q : Nat, q < 8 ∧ K2 p.2 = nI q
      rw [(hks p hp).1]
      exact h.keyr p (hsub p hp).1
    · intro s hs
      show K2 s = -1 ∨ _
      rcases h.free s hs with z | z
      · left
        rw [m2]
        by_cases y : 0 ≤ s ∧ s < 200 ∧ gnb mo s = true
        · rw [if_pos y]
        · rw [if_neg y]; exact z
      · obtain ⟨p, hp, e⟩ := List.mem_map.mp z
        by_cases y : gnb mo p.2 = true
        · left
          rw [← e, hk2 p hp, if_pos y]
        · right
          rw [← e]
          exact List.mem_map_of_mem (List.mem_filter.mpr ⟨hp, by simpa using y⟩)
    · show (P.filter (fun p => !gnb mo p.2)).Pairwise (fun p q => sbf K2 (MO_sBegin mo) (MO_sEnd mo) p.2 q.2)
      refine (h.srt.filter _).imp_of_mem ?_
      intro a b ha hb hab
      unfold sbf at hab ⊢
      rw [(hks a ha).1, (hks b hb).1]
      exact hab
  · obtain ⟨b1, b2, b3, b4⟩ := hB
    exact ⟨fun p hp => b1 p (hsub p hp).1, fun p hp => b2 p (hsub p hp).1, fun p hp => b3 p (hsub p hp).1, fun p hp => b4 p (hsub p hp).1⟩
