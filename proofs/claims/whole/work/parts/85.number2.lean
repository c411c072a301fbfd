theorem p_cmL2 (k : Nat) (hk : 5000 ≤ k) {L : List (Nat × Nat)} {rs : RSt} {mo : MOt} (h : RR L rs mo) (N : Nat → Nat) (hN : ∀ q : Nat, q < 8 → N q ≤ 1000000) : ∀ (m n i : Nat) (f g : Nat → Int32), i + m = 8 → m < n → (∀ r q : Nat, i ≤ q → q < 8 → MO_rKey mo r = nI q → f r = MO_rNumber mo r) → (∀ q : Nat, i ≤ q → q < 8 → g q = nI (N q)) →
    ∃ f' g' : Nat → Int32, f_MO_countedMark_L2 k n (nI i) (sMO_numbered (sMO_rNumber mo f) g) = some (sMO_numbered (sMO_rNumber mo f') g') ∧ (∀ q : Nat, i ≤ q → q < 8 → g' q = nI (N q + (L.filter (due3 mo q)).length)) ∧ (∀ q : Nat, i ≤ q → q < 8 → ∀ A p B, L.filter (due3 mo q) = A ++ p :: B → f' p.2 = nI (N q + A.length)) ∧ (∀ r : Nat, (∀ q : Nat, i ≤ q → q < 8 → r ∉ (L.filter (due3 mo q)).map Prod.snd) → f' r = f r) ∧ (∀ q : Nat, q < i → g' q = g q) := by
  have hlen := h.len
  intro m
  induction m with
  | zero =>
    intro n i f g hi hn hf hg
    obtain ⟨n, rfl⟩ : ∃ m, n = m + 1 := ⟨n - 1, by omega⟩
    rw [f_MO_countedMark_L2, if_pos (show (8 : Int32) ≤ nI i from nI_le (a := 8) (by omega) (by omega))]
    exact ⟨f, g, rfl, fun q h1 h2 => by omega, fun q h1 h2 => by omega, fun r _ => rfl, fun q _ => rfl⟩
  | succ m ih =>
    intro n i f g hi hn hf hg
    obtain ⟨n, rfl⟩ : ∃ m, n = m + 1 := ⟨n - 1, by omega⟩
    have hi8 : i < 8 := by omega
    have hQl : (L.filter (due3 mo i)).length ≤ 300 := Nat.le_trans (List.length_filter_le _ _) hlen
    obtain ⟨f1, g1, e1, e2, e3, e4, e5⟩ := p_cmL10 k hk mo hi8 (L.filter (due3 mo i)) k 0 f g (N i) (by omega) (by decide) (hg i (Nat.le_refl _) hi8) (by have := hN i hi8; omega) (h.srt.filter _) (fun x hx => h.lt x (List.mem_filter.mp hx).1)
      (by
        intro r hr
        show (MO_rKey mo r = nI i ∧ f r = -1 ∧ ¬ MO_now mo ≤ MO_rTime mo r) ↔ _
        constructor
        · rintro ⟨z1, z2, z3⟩
          rw [hf r i (Nat.le_refl _) hi8 z1] at z2
          obtain ⟨p, hp, e⟩ := List.mem_map.mp ((h.free r hr).resolve_left (fun y => nI_m1 (show i < 2 ^ 31 by omega) (z1.symm.trans y)))
          rw [← e]
          refine List.mem_map_of_mem (List.mem_filter.mpr ⟨hp, due3_iff.mpr ?_⟩)
          rw [e]
          exact ⟨z1, z2, by rw [pl_lt]; rw [pl_le] at z3; omega⟩
        · intro z
          obtain ⟨p, hp, e⟩ := List.mem_map.mp z
          obtain ⟨y1, y2, y3⟩ := due3_iff.mp (List.mem_filter.mp hp).2
          rw [← e]
          refine ⟨y1, ?_, by rw [pl_le]; rw [pl_lt] at y3; omega⟩
          rw [hf p.2 i (Nat.le_refl _) hi8 y1]
          exact y2)
    have hother : ∀ q : Nat, i + 1 ≤ q → q < 8 → ∀ r : Nat, MO_rKey mo r = nI q → r ∉ (L.filter (due3 mo i)).map Prod.snd := by
      intro q h1 h2 r hr z
      obtain ⟨p, hp, e⟩ := List.mem_map.mp z
      have := (due3_iff.mp (List.mem_filter.mp hp).2).1
      rw [e, hr] at this
      have := (nI_eq (by omega) (by omega)).mp this
      omega
    obtain ⟨f', g', r1, r2, r3, r4, r5⟩ := ih n (i + 1) f1 g1 (by omega) (by omega)
      (fun r q h1 h2 hr => by rw [e5 r (hother q h1 h2 r hr)]; exact hf r q (by omega) h2 hr)
      (fun q h1 h2 => by rw [e3 q (by omega)]; exact hg q (by omega) h2)
    rw [f_MO_countedMark_L2, if_neg (show ¬ (8 : Int32) ≤ nI i from nI_ge (a := i) (b := 8) (by omega) (by omega)), e1, ob]
    dsimp only [gl_let]
    rw [nI_1]
    refine ⟨f', g', r1, ?_, ?_, ?_, ?_⟩
    · intro q h1 h2
      by_cases e : q = i
      · subst e
        rw [r5 q (by omega), e2]
      · exact r2 q (by omega) h2
    · intro q h1 h2 A p B eA
      by_cases e : q = i
      · subst e
        rw [r4 p.2 (fun j j1 j2 z => by
          obtain ⟨u, hu, e⟩ := List.mem_map.mp z
          have y1 := (due3_iff.mp (List.mem_filter.mp hu).2).1
          have hp : p ∈ L.filter (due3 mo q) := by rw [eA]; simp
          have y2 := (due3_iff.mp (List.mem_filter.mp hp).2).1
          rw [e, y2] at y1
          have := (nI_eq (by omega) (by omega)).mp y1
          omega)]
        exact e4 A p B eA
      · exact r3 q (by omega) h2 A p B eA
    · intro r hr
      rw [r4 r (fun q h1 h2 => hr q (by omega) h2)]
      exact e5 r (hr i (Nat.le_refl _) hi8)
    · intro q hq
      rw [r5 q (by omega), e3 q (by omega)]
/-- numbers of rows, class and reference -/
theorem p_number (k : Nat) (hk : 5000 ≤ k) {L : List (Nat × Nat)} {sr : SRt} {rs : RSt} {nu : NUt} {mo : MOt} (h : RR L rs mo) (hX : SR_theMark sr = MO_now mo) (N : Nat → Nat) (hN : ∀ q : Nat, q < 8 → N q ≤ 1000000) (h1 : ∀ q : Nat, q < 8 → NU_numbered nu q = nI (N q) ∧ MO_numbered mo q = nI (N q)) (hx : ∀ p ∈ L, MO_rNumber mo p.2 = -1 ∨ ∃ q x : Nat, q < 8 ∧ MO_rKey mo p.2 = nI q ∧ MO_rNumber mo p.2 = nI x ∧ x < N q) :
    ∃ (f f' g g' : Nat → Int32) (N' : Nat → Nat), f_SR_numberRows k sr rs nu = some (sRS_numbers rs f, sNU_numbered nu g) ∧ f_MO_countedMark_L2 k k 0 mo = some (sMO_numbered (sMO_rNumber mo f') g') ∧ RR L (sRS_numbers rs f) (sMO_numbered (sMO_rNumber mo f') g') ∧ (∀ q : Nat, q < 8 → g q = nI (N' q) ∧ g' q = nI (N' q) ∧ N q ≤ N' q ∧ N' q ≤ N q + 300) ∧ (∀ p ∈ L, f' p.2 = -1 ∨ ∃ q x : Nat, q < 8 ∧ MO_rKey mo p.2 = nI q ∧ f' p.2 = nI x ∧ x < N' q) := by
  have hlen := h.len
  obtain ⟨f, g, a1, a2, a3, a4⟩ := p_numL (nu := nu) h hX N L [] k (RS_numbers rs) (NU_numbered nu) rfl (by omega) (fun p _ => rfl) (fun q hq => by rw [(h1 q hq).1]; rfl)
  rw [List.length_nil, nI_0] at a1
  obtain ⟨f', g', b1, b2, b3, b4, b5⟩ := p_cmL2 k hk h N hN 8 k 0 (MO_rNumber mo) (MO_numbered mo) (by omega) (by omega) (fun r q _ _ _ => rfl) (fun q _ hq => (h1 q hq).2)
  rw [nI_0] at b1
  have hsame : ∀ p ∈ L, ∀ q : Nat, q < 8 → MO_rKey mo p.2 = nI q → f p.1 = f' p.2 ∧ ((due3 mo q p = true ∧ ∃ x : Nat, f' p.2 = nI x ∧ x < N q + (L.filter (due3 mo q)).length) ∨ (¬ due3 mo q p = true ∧ f' p.2 = MO_rNumber mo p.2)) := by
    intro p hp q hq hkq
    obtain ⟨A, B, eL⟩ := List.append_of_mem hp
    have z1 := a4 A p B q eL hq hkq
    rw [List.nil_append] at z1
    have hnd : ∀ j : Nat, j < 8 → j ≠ q → ¬ due3 mo j p = true := by
      intro j hj hjq z
      have := (due3_iff.mp z).1
      rw [hkq] at this
      exact hjq ((nI_eq (by omega) (by omega)).mp this).symm
    by_cases c : due3 mo q p = true
    · have eF : L.filter (due3 mo q) = A.filter (due3 mo q) ++ p :: B.filter (due3 mo q) := by rw [eL, List.filter_append, List.filter_cons_of_pos c]
      have z2 := b3 q (by omega) hq _ p _ eF
      rw [if_pos c] at z1
      refine ⟨z1.trans z2.symm, Or.inl ⟨c, _, z2, ?_⟩⟩
      rw [eF, List.length_append, List.length_cons]
      omega
    · have z2 := b4 p.2 (fun j _ hj z => by
        obtain ⟨u, hu, e⟩ := List.mem_map.mp z
        obtain ⟨hu1, hu2⟩ := List.mem_filter.mp hu
        have : u = p := ndm_inj h.nd hu1 hp e
        subst this
        by_cases e2 : j = q
        · subst e2; exact c hu2
        · exact hnd j hj e2 hu2)
      rw [if_neg c] at z1
      refine ⟨?_, Or.inr ⟨c, z2⟩⟩
      rw [z1, z2, (h.eqs p hp).2.2.2]
  refine ⟨f, f', g, g', fun q => N q + (L.filter (due3 mo q)).length, ?_, b1, ?_, ?_, ?_⟩
  · unfold f_SR_numberRows
    rw [show sRS_numbers rs (RS_numbers rs) = rs from rfl, show sNU_numbered nu (NU_numbered nu) = nu from rfl] at a1
    rw [a1, ob]
  · refine ⟨h.kept, h.rows, h.ord, ?_, h.keyr, h.lt, h.nd, h.free, h.srt, h.cam⟩
    intro p hp
    obtain ⟨z1, z2, z3, z4⟩ := h.eqs p hp
    obtain ⟨q, hq, hkq⟩ := h.keyr p hp
    exact ⟨z1, z2, z3, (hsame p hp q hq hkq).1⟩
  · intro q hq
    have := List.length_filter_le (due3 mo q) L
    exact ⟨a2 q hq, b2 q (by omega) hq, by dsimp only; omega, by dsimp only; omega⟩
  · intro p hp
    obtain ⟨q, hq, hkq⟩ := h.keyr p hp
    obtain ⟨_, ⟨_, x, z1, z2⟩ | ⟨_, z⟩⟩ := hsame p hp q hq hkq
    · exact Or.inr ⟨q, x, hq, hkq, z1, z2⟩
    · rw [z]
      rcases hx p hp with y | ⟨q', x, y1, y2, y3, y4⟩
      · exact Or.inl y
      · exact Or.inr ⟨q', x, y1, y2, y3, by dsimp only; omega⟩
