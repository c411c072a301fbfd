def kyb (mo : MOt) (key : Int32) (p : Nat × Nat) : Bool := MO_sKey mo p.2 == key
theorem p_nthL {P : List (Nat × Nat)} {ss : SSt} {mo : MOt} (h : SP P ss mo) (key x : Int32) : ∀ (P2 P1 : List (Nat × Nat)) (n a : Nat), P = P1 ++ P2 → P2.length < n →
    (∃ Qa p Qb, P2.filter (kyb mo key) = Qa ++ p :: Qb ∧ x = nI (a + Qa.length) ∧ f_SS_nthOfKey_L5 key x ss n (nI a) (nI P1.length) = some (nI p.1)) ∨ ((∀ j : Nat, j < (P2.filter (kyb mo key)).length → ¬ x = nI (a + j)) ∧ f_SS_nthOfKey_L5 key x ss n (nI a) (nI P1.length) = some (-1)) := by
  have hlen := h.len
  intro P2
  induction P2 with
  | nil =>
    intro P1 n a ep hn
    obtain ⟨m, rfl⟩ : ∃ m, n = m + 1 := ⟨n - 1, by omega⟩
    right
    rw [f_SS_nthOfKey_L5, h.kept, ep, List.append_nil, if_pos (nI_le (Nat.le_refl _) (by rw [ep] at hlen; simp at hlen; omega))]
    exact ⟨fun j hj => absurd hj (by simp), rfl⟩
  | cons p P2 ih =>
    intro P1 n a ep hn
    obtain ⟨m, rfl⟩ : ∃ m, n = m + 1 := ⟨n - 1, by omega⟩
    subst ep
    have hp := h.lt1 p (by simp)
    have hl : P1.length + (P2.length + 1) ≤ 200 := by simpa using hlen
    obtain ⟨q1, q2, q3, -⟩ := h.eqs p (by simp)
    have hi := fun a => ih (P1 ++ [p]) m a (by simp) (by simp at hn; omega)
    rw [List.length_append, List.length_singleton] at hi
    rw [f_SS_nthOfKey_L5, h.kept, if_neg (nI_ge (by simp) (by simp; omega)), if_neg (nI_in (show P1.length < 200 by omega) (by omega)), nI_clamp (by omega)]
    dsimp only [gl_let]
    rw [h.at, if_neg (nI_in hp (by omega)), nI_clamp (by omega), q1, nI_1, nI_1]
    by_cases c1 : MO_sKey mo p.2 = key
    · have hf : (p :: P2).filter (kyb mo key) = p :: P2.filter (kyb mo key) := List.filter_cons_of_pos (by unfold kyb; simpa using c1)
      rw [if_pos c1, hf]
      by_cases c2 : nI a = x
      · rw [if_pos c2]
        exact Or.inl ⟨[], p, _, rfl, c2.symm, rfl⟩
      · rw [if_neg c2]
        rcases hi (a + 1) with ⟨Qa, p', Qb, e1, e2, e3⟩ | ⟨e1, e2⟩
        · refine Or.inl ⟨p :: Qa, p', Qb, by rw [e1]; rfl, ?_, e3⟩
          rw [e2, List.length_cons, show a + 1 + Qa.length = a + (Qa.length + 1) by omega]
        · refine Or.inr ⟨fun j hj => ?_, e2⟩
          cases j with
          | zero => exact fun z => c2 z.symm
          | succ j =>
            have := e1 j (by rw [List.length_cons] at hj; omega)
            rw [show a + (j + 1) = a + 1 + j by omega]
            exact this
    · have hf : (p :: P2).filter (kyb mo key) = P2.filter (kyb mo key) := List.filter_cons_of_neg (by unfold kyb; simpa using c1)
      rw [if_neg c1, hf]
      exact hi a
def blw (mo : MOt) (key : Int32) (s x : Nat) : Bool := (MO_sKey mo x == key) && (decide (MO_sBegin mo x < MO_sBegin mo s) || ((MO_sBegin mo x == MO_sBegin mo s) && decide (MO_sEnd mo x < MO_sEnd mo s)))
theorem p_spanL48 (mo : MOt) (key : Int32) {s : Nat} (hs : s < 200) : ∀ (m n a i : Nat), i + m = 200 → m < n → f_MO_span_L48 key mo (nI s) n (nI a) (nI i) = some (nI (a + ((List.range' i m).filter (blw mo key s)).length)) := by
  intro m
  induction m with
  | zero =>
    intro n a i hi hn
    obtain ⟨n, rfl⟩ : ∃ m, n = m + 1 := ⟨n - 1, by omega⟩
    rw [f_MO_span_L48, if_pos (show (200 : Int32) ≤ nI i from nI_le (a := 200) (by omega) (by omega))]
    rfl
  | succ m ih =>
    intro n a i hi hn
    obtain ⟨n, rfl⟩ : ∃ m, n = m + 1 := ⟨n - 1, by omega⟩
    rw [f_MO_span_L48, if_neg (show ¬ (200 : Int32) ≤ nI i from nI_ge (a := i) (b := 200) (by omega) (by omega)), if_neg (nI_in (show i < 200 by omega) (by omega)), nI_clamp (by omega), nI_clamp (show s < 2 ^ 31 by omega)]
    dsimp only [gl_let]
    rw [nI_1, nI_1, Int32.add_zero, List.range'_succ]
    have yes : blw mo key s i = true → f_MO_span_L48 key mo (nI s) n (nI (a + 1)) (nI (i + 1)) = some (nI (a + ((i :: List.range' (i + 1) m).filter (blw mo key s)).length)) := by
      intro z
      rw [ih n (a + 1) (i + 1) (by omega) (by omega), List.filter_cons_of_pos z, List.length_cons, show ∀ z, a + 1 + z = a + (z + 1) from fun z => by omega]
    have no : ¬ blw mo key s i = true → f_MO_span_L48 key mo (nI s) n (nI a) (nI (i + 1)) = some (nI (a + ((i :: List.range' (i + 1) m).filter (blw mo key s)).length)) := by
      intro z
      rw [ih n a (i + 1) (by omega) (by omega), List.filter_cons_of_neg z]
    by_cases c1 : MO_sKey mo i = key
    · rw [if_pos c1]
      by_cases c2 : MO_sBegin mo i < MO_sBegin mo s
      · rw [if_pos c2]
        exact yes (by unfold blw; simp [c1, c2])
      · rw [if_neg c2]
        by_cases c3 : MO_sBegin mo i = MO_sBegin mo s
        · rw [if_pos c3]
          by_cases c4 : MO_sEnd mo s ≤ MO_sEnd mo i
          · rw [if_pos c4]
            apply no
            unfold blw
            have : ¬ MO_sEnd mo i < MO_sEnd mo s := by rw [pl_lt]; rw [pl_le] at c4; omega
            simp [c2, this]
          · rw [if_neg c4]
            apply yes
            unfold blw
            have : MO_sEnd mo i < MO_sEnd mo s := by rw [pl_lt]; rw [pl_le] at c4; omega
            simp [c1, c3, this]
        · rw [if_neg c3]
          apply no
          unfold blw
          simp [c2, c3]
    · rw [if_neg c1]
      apply no
      unfold blw
      simp [c1]
theorem p_rank {P : List (Nat × Nat)} {ss : SSt} {mo : MOt} (h : SP P ss mo) {q : Nat} (hq : q < 8) {Qa Qb : List (Nat × Nat)} {p : Nat × Nat} (e : P.filter (kyb mo (nI q)) = Qa ++ p :: Qb) : ((List.range' 0 200).filter (blw mo (nI q) p.2)).length = Qa.length := by
  rw [p_slots h (blw mo (nI q) p.2) (fun s _ z y => by
    unfold blw at z
    rw [Bool.and_eq_true, beq_iff_eq, y] at z
    exact nI_m1 (show q < 2 ^ 31 by omega) z.1.symm)]
  have hsrt := h.srt.filter (kyb mo (nI q))
  rw [e, List.pairwise_append, List.pairwise_cons] at hsrt
  have hk : ∀ u ∈ Qa ++ p :: Qb, MO_sKey mo u.2 = nI q := by
    intro u hu
    rw [← e] at hu
    have := (List.mem_filter.mp hu).2
    unfold kyb at this
    exact beq_iff_eq.mp this
  have hff : P.filter (fun u => blw mo (nI q) p.2 u.2) = (P.filter (kyb mo (nI q))).filter (fun u => blw mo (nI q) p.2 u.2) := by
    rw [List.filter_filter]
    apply List.filter_congr
    intro u _
    unfold blw kyb
    cases (MO_sKey mo u.2 == nI q) <;> simp
  have hb : ∀ u ∈ Qa ++ p :: Qb, (blw mo (nI q) p.2 u.2 = true ↔ sbf (MO_sKey mo) (MO_sBegin mo) (MO_sEnd mo) u.2 p.2) := by
    intro u hu
    have h1 := hk u hu
    have h2 := hk p (by simp)
    unfold blw sbf
    rw [Bool.and_eq_true, Bool.or_eq_true, Bool.and_eq_true, beq_iff_eq, beq_iff_eq, decide_eq_true_eq, decide_eq_true_eq, h1, h2]
    constructor
    · rintro ⟨_, z⟩; exact Or.inr ⟨rfl, z⟩
    · rintro (z | ⟨_, z⟩)
      · exact absurd z (by rw [pi_lt]; omega)
      · exact ⟨rfl, z⟩
  rw [hff, e, List.filter_append]
  have h1 : Qa.filter (fun u => blw mo (nI q) p.2 u.2) = Qa := by
    rw [List.filter_eq_self]
    intro u hu
    exact (hb u (List.mem_append_left _ hu)).mpr (hsrt.2.2 u hu p (by simp))
  have h2 : (p :: Qb).filter (fun u => blw mo (nI q) p.2 u.2) = [] := by
    rw [List.filter_eq_nil_iff]
    intro u hu z
    rw [hb u (List.mem_append_right _ hu)] at z
    rcases List.mem_cons.mp hu with rfl | hu
    · exact sbf_irr z
    · exact sbf_irr (sbf_tr z (hsrt.2.1.1 u hu))
  rw [h1, h2, List.append_nil]
theorem p_spanL11 (k : Nat) (hk : 5000 ≤ k) (mo : MOt) (key x : Int32) (hkey : ¬ f_MO_in key.toInt64 0 7 = 0) : ∀ (m n i : Nat) (v : Int32), i + m = 200 → m < n →
    ∃ v', f_MO_span_L11 k key x mo n v (nI i) = some v' ∧ ((v' = v ∧ ∀ s : Nat, i ≤ s → s < 200 → ¬ (MO_sKey mo s = key ∧ nI ((List.range' 0 200).filter (blw mo key s)).length = x)) ∨ (∃ s : Nat, s < 200 ∧ (MO_sKey mo s = key ∧ nI ((List.range' 0 200).filter (blw mo key s)).length = x) ∧ v' = nI s)) := by
  intro m
  induction m with
  | zero =>
    intro n i v hi hn
    obtain ⟨n, rfl⟩ : ∃ m, n = m + 1 := ⟨n - 1, by omega⟩
    rw [f_MO_span_L11, if_pos (show (200 : Int32) ≤ nI i from nI_le (a := 200) (by omega) (by omega))]
    exact ⟨v, rfl, Or.inl ⟨rfl, fun s h1 h2 => by omega⟩⟩
  | succ m ih =>
    intro n i v hi hn
    obtain ⟨n, rfl⟩ : ∃ m, n = m + 1 := ⟨n - 1, by omega⟩
    rw [f_MO_span_L11, if_neg (show ¬ (200 : Int32) ≤ nI i from nI_ge (a := i) (b := 200) (by omega) (by omega)), if_neg hkey, if_neg (nI_in (show i < 200 by omega) (by omega)), nI_clamp (by omega)]
    dsimp only [gl_let]
    rw [nI_1]
    have no : ¬ (MO_sKey mo i = key ∧ nI ((List.range' 0 200).filter (blw mo key i)).length = x) → ∃ v', f_MO_span_L11 k key x mo n v (nI (i + 1)) = some v' ∧ ((v' = v ∧ ∀ s : Nat, i ≤ s → s < 200 → ¬ (MO_sKey mo s = key ∧ nI ((List.range' 0 200).filter (blw mo key s)).length = x)) ∨ (∃ s : Nat, s < 200 ∧ (MO_sKey mo s = key ∧ nI ((List.range' 0 200).filter (blw mo key s)).length = x) ∧ v' = nI s)) := by
      intro z
      obtain ⟨v', e1, e2⟩ := ih n (i + 1) v (by omega) (by omega)
      refine ⟨v', e1, ?_⟩
      rcases e2 with ⟨e2, e3⟩ | e2
      · exact Or.inl ⟨e2, fun s h1 h2 => if e : s = i then e ▸ z else e3 s (by omega) h2⟩
      · exact Or.inr e2
    by_cases c1 : MO_sKey mo i = key
    · rw [if_pos c1]
      have h48 := p_spanL48 mo key (show i < 200 by omega) 200 k 0 0 (by omega) (by omega)
      rw [nI_0, Nat.zero_add] at h48
      rw [h48, ob]
      by_cases c2 : nI ((List.range' 0 200).filter (blw mo key i)).length = x
      · rw [if_pos c2]
        obtain ⟨v', e1, e2⟩ := ih n (i + 1) (nI i) (by omega) (by omega)
        refine ⟨v', e1, Or.inr ?_⟩
        rcases e2 with ⟨e2, e3⟩ | e2
        · exact ⟨i, by omega, ⟨c1, c2⟩, e2⟩
        · exact e2
      · rw [if_neg c2]
        exact no (fun z => c2 z.2)
    · rw [if_neg c1]
      exact no (fun z => c1 z.1)
theorem p_nth (k : Nat) (hk : 5000 ≤ k) {P : List (Nat × Nat)} {ss : SSt} {mo : MOt} (h : SP P ss mo) (key x : Int32) :
    (∃ p ∈ P, f_SS_nthOfKey k key x ss = some (nI p.1) ∧ f_MO_span_L11 k key x mo k (-1) 0 = some (nI p.2)) ∨ (f_SS_nthOfKey k key x ss = some (-1) ∧ f_MO_span_L11 k key x mo k (-1) 0 = some (-1)) := by
  have hl := h.len
  have h1 := p_nthL h key x P [] k 0 rfl (by omega)
  rw [List.length_nil, nI_0] at h1
  unfold f_SS_nthOfKey
  rcases p_key key with hkey | ⟨q, hq, rfl, hkey⟩
  · right
    have hnil : P.filter (kyb mo key) = [] := by
      rw [List.filter_eq_nil_iff]
      intro p hp z
      obtain ⟨q, hq, e⟩ := h.keyr p hp
      unfold kyb at z
      rw [beq_iff_eq] at z
      rw [← z, e] at hkey
      have : f_MO_in (nI q).toInt64 0 7 = 0 → False := by
        rw [← p_win, p_w0, pi_l, nI_toInt (by omega), show (0 : Int64).toInt = 0 from rfl, show (7 : Int64).toInt = 7 from rfl]
        omega
      exact this hkey
    rw [hnil] at h1
    refine ⟨?_, ?_⟩
    · rcases h1 with ⟨Qa, p, Qb, e, _⟩ | ⟨_, e⟩
      · exact absurd e (by simp)
      · exact e
    · obtain ⟨m, rfl⟩ : ∃ m, k = m + 1 := ⟨k - 1, by omega⟩
      rw [f_MO_span_L11, if_neg (by decide), if_pos hkey]
  · obtain ⟨v', e1, e2⟩ := p_spanL11 k hk mo (nI q) x hkey 200 k 0 (-1) (by omega) (by omega)
    rw [nI_0] at e1
    have hit : ∀ s : Nat, s < 200 → MO_sKey mo s = nI q → ∃ Qa p Qb, P.filter (kyb mo (nI q)) = Qa ++ p :: Qb ∧ p.2 = s ∧ p ∈ P := by
      intro s hs hk
      obtain ⟨p, hp, e⟩ := List.mem_map.mp ((h.free s hs).resolve_left (fun z => nI_m1 (show q < 2 ^ 31 by omega) (hk.symm.trans z)))
      have : p ∈ P.filter (kyb mo (nI q)) := List.mem_filter.mpr ⟨hp, by unfold kyb; rw [e, beq_iff_eq]; exact hk⟩
      obtain ⟨Qa, Qb, e2⟩ := List.append_of_mem this
      exact ⟨Qa, p, Qb, e2, e, hp⟩
    have hfl : (P.filter (kyb mo (nI q))).length ≤ 200 := Nat.le_trans (List.length_filter_le _ _) hl
    rcases h1 with ⟨Qa, p, Qb, g1, g2, g3⟩ | ⟨g1, g2⟩
    · left
      have hpf : p ∈ P.filter (kyb mo (nI q)) := by rw [g1]; simp
      have hp := (List.mem_filter.mp hpf).1
      rw [Nat.zero_add] at g2
      refine ⟨p, hp, g3, ?_⟩
      rw [e1]
      rcases e2 with ⟨_, e2⟩ | ⟨s, hs, ⟨e2, e3⟩, e4⟩
      · exact absurd ⟨by have := (List.mem_filter.mp hpf).2; unfold kyb at this; exact beq_iff_eq.mp this, by rw [p_rank h hq g1, g2]⟩ (e2 p.2 (by omega) (h.lt p hp))
      · obtain ⟨Qa', p', Qb', y1, y2, y3⟩ := hit s hs e2
        rw [← y2, p_rank h hq y1, g2] at e3
        have hlen1 := congrArg List.length g1
        have hlen2 := congrArg List.length y1
        rw [List.length_append] at hlen1 hlen2
        have hll : Qa'.length = Qa.length := (nI_eq (by omega) (by omega)).mp e3
        have := List.append_inj (y1.symm.trans g1) hll
        have h3 := (List.cons.inj this.2).1
        rw [e4, ← y2, h3]
    · right
      refine ⟨g2, ?_⟩
      rw [e1]
      rcases e2 with ⟨e2, _⟩ | ⟨s, hs, ⟨e2, e3⟩, e4⟩
      · rw [e2]
      · obtain ⟨Qa', p', Qb', y1, y2, y3⟩ := hit s hs e2
        rw [← y2, p_rank h hq y1] at e3
        have := g1 Qa'.length (by rw [y1]; simp)
        rw [Nat.zero_add] at this
        exact absurd e3.symm this
