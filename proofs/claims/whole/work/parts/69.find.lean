def moF (mo : MOt) := (MO_told mo, MO_kept mo, MO_firings mo, MO_early mo, MO_lately mo)
theorem FR.cong {fs : FSt} {mo mo' : MOt} {T : Nat} (h : FR fs mo T) (e : moF mo' = moF mo) : FR fs mo' T := by
  unfold moF at e
  injection e with e1 e
  injection e with e2 e
  injection e with e3 e
  injection e with e4 e5
  unfold FR at h ⊢
  rw [e1, e2, e3, e4, e5]
  exact h
theorem pw_tri {R : Nat × Nat → Nat × Nat → Prop} : ∀ {L : List (Nat × Nat)} {a b : Nat × Nat}, L.Pairwise R → a ∈ L → b ∈ L → a = b ∨ R a b ∨ R b a := by
  intro L
  induction L with
  | nil => intro a b _ h; exact absurd h (by simp)
  | cons x L ih =>
    intro a b hn ha hb
    rw [List.pairwise_cons] at hn
    rcases List.mem_cons.mp ha with h1 | h1
    · rcases List.mem_cons.mp hb with h2 | h2
      · left; rw [h1, h2]
      · right; left; rw [h1]; exact hn.1 b h2
    · rcases List.mem_cons.mp hb with h2 | h2
      · right; right; rw [h2]; exact hn.1 a h1
      · exact ih hn.2 h1 h2
theorem sbf_irr {k : Nat → Int32} {b e : Nat → Int64} {x : Nat} : ¬ sbf k b e x x := by
  unfold sbf
  rw [pl_lt, pl_lt, pi_lt]
  omega
theorem sbf_tr {k : Nat → Int32} {b e : Nat → Int64} {x y z : Nat} (h1 : sbf k b e x y) (h2 : sbf k b e y z) : sbf k b e x z := by
  unfold sbf at *
  rw [pl_lt, pl_lt, pi_lt, pi_eq, pl_eq] at *
  omega
theorem sbf_tot {k : Nat → Int32} {b e : Nat → Int64} {x y : Nat} (h1 : ¬ sbf k b e x y) (h2 : ¬ (k y = k x ∧ b y = b x ∧ e y = e x)) : sbf k b e y x := by
  unfold sbf at *
  rw [pl_lt, pl_lt, pi_lt, pi_eq, pl_eq] at *
  rw [pl_eq] at h2
  omega
/-- a span of this key, begin, end -/
def mtc (mo : MOt) (key : Int32) (b e : Int64) (s : Nat) : Prop := MO_sKey mo s = key ∧ MO_sBegin mo s = b ∧ MO_sEnd mo s = e
theorem SP.uniq {P : List (Nat × Nat)} {ss : SSt} {mo : MOt} (h : SP P ss mo) {p q : Nat × Nat} (hp : p ∈ P) (hq : q ∈ P) {key : Int32} {b e : Int64} (h1 : mtc mo key b e p.2) (h2 : mtc mo key b e q.2) : p = q := by
  have key2 : ∀ x y : Nat × Nat, mtc mo key b e x.2 → mtc mo key b e y.2 → ¬ sbf (MO_sKey mo) (MO_sBegin mo) (MO_sEnd mo) x.2 y.2 := by
    intro x y hx hy
    unfold sbf
    rw [hx.1, hx.2.1, hx.2.2, hy.1, hy.2.1, hy.2.2, pl_lt, pl_lt, pi_lt]
    omega
  rcases pw_tri h.srt hp hq with z | z | z
  · exact z
  · exact absurd z (key2 p q h1 h2)
  · exact absurd z (key2 q p h2 h1)
theorem p_findL {P : List (Nat × Nat)} {ss : SSt} {mo : MOt} (h : SP P ss mo) (key : Int32) (b e : Int64) : ∀ (P2 P1 : List (Nat × Nat)) (n : Nat), P = P1 ++ P2 → P2.length < n →
    (∃ p ∈ P2, mtc mo key b e p.2 ∧ f_SS_find_L3 key b e ss n (nI P1.length) = some (nI p.1)) ∨ ((∀ p ∈ P2, ¬ mtc mo key b e p.2) ∧ f_SS_find_L3 key b e ss n (nI P1.length) = some (-1)) := by
  have hlen := h.len
  intro P2
  induction P2 with
  | nil =>
    intro P1 n ep hn
    obtain ⟨m, rfl⟩ : ∃ m, n = m + 1 := ⟨n - 1, by omega⟩
    right
    rw [f_SS_find_L3, h.kept, ep, List.append_nil, if_pos (nI_le (Nat.le_refl _) (by rw [ep] at hlen; simp at hlen; omega))]
    exact ⟨fun p hp => absurd hp (by simp), rfl⟩
  | cons p P2 ih =>
    intro P1 n ep hn
    obtain ⟨m, rfl⟩ : ∃ m, n = m + 1 := ⟨n - 1, by omega⟩
    subst ep
    have hp := h.lt1 p (by simp)
    have hl : P1.length + (P2.length + 1) ≤ 200 := by simpa using hlen
    obtain ⟨q1, q2, q3, -⟩ := h.eqs p (by simp)
    have hi := ih (P1 ++ [p]) m (by simp) (by simp at hn; omega)
    rw [List.length_append, List.length_singleton] at hi
    rw [f_SS_find_L3, h.kept, if_neg (nI_ge (by simp) (by simp; omega)), if_neg (nI_in (show P1.length < 200 by omega) (by omega)), nI_clamp (by omega)]
    dsimp only [gl_let]
    rw [h.at, if_neg (nI_in hp (by omega)), nI_clamp (by omega), q1, q2, q3, nI_1]
    have rest : ¬ mtc mo key b e p.2 → (∃ p_1 ∈ p :: P2, mtc mo key b e p_1.2 ∧ f_SS_find_L3 key b e ss m (nI (P1.length + 1)) = some (nI p_1.1)) ∨ ((∀ p_1 ∈ p :: P2, ¬ mtc mo key b e p_1.2) ∧ f_SS_find_L3 key b e ss m (nI (P1.length + 1)) = some (-1)) := by
      intro hno
      rcases hi with ⟨x, hx, h1, h2⟩ | ⟨h1, h2⟩
      · exact Or.inl ⟨x, List.mem_cons_of_mem _ hx, h1, h2⟩
      · exact Or.inr ⟨fun y hy => (List.mem_cons.mp hy).elim (fun z => z ▸ hno) (h1 y), h2⟩
    by_cases c1 : MO_sKey mo p.2 = key
    · rw [if_pos c1]
      by_cases c2 : MO_sBegin mo p.2 = b
      · rw [if_pos c2]
        by_cases c3 : MO_sEnd mo p.2 = e
        · rw [if_pos c3]
          exact Or.inl ⟨p, by simp, ⟨c1, c2, c3⟩, rfl⟩
        · rw [if_neg c3]
          exact rest (fun z => c3 z.2.2)
      · rw [if_neg c2]
        exact rest (fun z => c2 z.2.1)
    · rw [if_neg c1]
      exact rest (fun z => c1 z.1)
theorem p_spanAtL (mo : MOt) (key : Int32) (b e : Int64) : ∀ (n i : Nat), i ≤ 200 → 200 - i < n →
    (∃ s : Nat, s < 200 ∧ mtc mo key b e s ∧ f_MO_spanAt_L3 key b e mo n (nI i) = some (nI s)) ∨ ((∀ s : Nat, i ≤ s → s < 200 → ¬ mtc mo key b e s) ∧ f_MO_spanAt_L3 key b e mo n (nI i) = some (-1)) := by
  intro n
  induction n with
  | zero => intro i _ h; omega
  | succ n ih =>
    intro i hi hn
    rw [f_MO_spanAt_L3]
    by_cases hc : i = 200
    · subst hc
      rw [if_pos (by decide)]
      exact Or.inr ⟨fun s h1 h2 => by omega, rfl⟩
    · rw [if_neg (show ¬ (200 : Int32) ≤ nI i from nI_ge (a := i) (b := 200) (by omega) (by omega)), if_neg (nI_in (show i < 200 by omega) (by omega)), nI_clamp (by omega)]
      dsimp only [gl_let]
      rw [nI_1]
      have rest : ¬ mtc mo key b e i → (∃ s : Nat, s < 200 ∧ mtc mo key b e s ∧ f_MO_spanAt_L3 key b e mo n (nI (i + 1)) = some (nI s)) ∨ ((∀ s : Nat, i ≤ s → s < 200 → ¬ mtc mo key b e s) ∧ f_MO_spanAt_L3 key b e mo n (nI (i + 1)) = some (-1)) := by
        intro hno
        rcases ih (i + 1) (by omega) (by omega) with h | ⟨h1, h2⟩
        · exact Or.inl h
        · exact Or.inr ⟨fun s z1 z2 => if q : s = i then q ▸ hno else h1 s (by omega) z2, h2⟩
      by_cases c1 : MO_sKey mo i = key
      · rw [if_pos c1]
        by_cases c2 : MO_sBegin mo i = b
        · rw [if_pos c2]
          by_cases c3 : MO_sEnd mo i = e
          · rw [if_pos c3]
            exact Or.inl ⟨i, by omega, ⟨c1, c2, c3⟩, rfl⟩
          · rw [if_neg c3]
            exact rest (fun z => c3 z.2.2)
        · rw [if_neg c2]
          exact rest (fun z => c2 z.2.1)
      · rw [if_neg c1]
        exact rest (fun z => c1 z.1)
/-- find and spanAt -/
theorem p_find (k : Nat) (hk : 5000 ≤ k) {P : List (Nat × Nat)} {ss : SSt} {mo : MOt} (h : SP P ss mo) {q : Nat} (hq : q < 8) (b e : Int64) :
    (∃ p ∈ P, mtc mo (nI q) b e p.2 ∧ f_SS_find k (nI q) b e ss = some (nI p.1) ∧ f_MO_spanAt k (nI q) b e mo = some (nI p.2)) ∨ ((∀ p ∈ P, ¬ mtc mo (nI q) b e p.2) ∧ f_SS_find k (nI q) b e ss = some (-1) ∧ f_MO_spanAt k (nI q) b e mo = some (-1)) := by
  have hlen := h.len
  unfold f_SS_find f_MO_spanAt
  have h1 := p_findL h (nI q) b e P [] k rfl (by omega)
  have h2 := p_spanAtL mo (nI q) b e k 0 (by omega) (by omega)
  rw [List.length_nil, nI_0] at h1
  rw [nI_0] at h2
  have hin : ∀ s : Nat, s < 200 → mtc mo (nI q) b e s → ∃ p ∈ P, p.2 = s := by
    intro s hs hm
    rcases h.free s hs with z | z
    · rw [hm.1] at z
      exact absurd z (nI_m1 (by omega))
    · obtain ⟨p, hp, e⟩ := List.mem_map.mp z
      exact ⟨p, hp, e⟩
  rcases h1 with ⟨p, hp, m1, e1⟩ | ⟨m1, e1⟩
  · rcases h2 with ⟨s, hs, m2, e2⟩ | ⟨m2, e2⟩
    · obtain ⟨p', hp', rfl⟩ := hin s hs m2
      have := h.uniq hp hp' m1 m2
      subst this
      exact Or.inl ⟨p, hp, m1, e1, e2⟩
    · exact absurd m1 (m2 p.2 (by omega) (h.lt p hp))
  · rcases h2 with ⟨s, hs, m2, e2⟩ | ⟨m2, e2⟩
    · obtain ⟨p', hp', rfl⟩ := hin s hs m2
      exact absurd m2 (m1 p' hp')
    · exact Or.inr ⟨m1, e1, e2⟩
