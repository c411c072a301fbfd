theorem p_isBehind {ss : SSt} {a b : Nat} (ha : a < 200) (hb : b < 200) : f_SS_isBehind (nI a) (nI b) ss = some (if sbf (SS_keys ss) (SS_begins ss) (SS_ends ss) b a then 1 else 0) := by
  unfold f_SS_isBehind
  rw [if_neg (nI_in ha (by omega)), if_neg (nI_in hb (by omega)), nI_clamp (by omega), nI_clamp (by omega)]
  have fin : ∀ {x : Prop} [Decidable x], (x ↔ sbf (SS_keys ss) (SS_begins ss) (SS_ends ss) b a) → (if x then some (1 : Int32) else some 0) = some (if sbf (SS_keys ss) (SS_begins ss) (SS_ends ss) b a then 1 else 0) := by
    intro x _ hx
    by_cases z : x
    · rw [if_pos z, if_pos (hx.mp z)]
    · rw [if_neg z, if_neg (fun y => z (hx.mpr y))]
  by_cases h1 : SS_keys ss a = SS_keys ss b
  · rw [if_pos h1]
    by_cases h2 : SS_begins ss a = SS_begins ss b
    · rw [if_pos h2]
      by_cases h3 : SS_ends ss a ≤ SS_ends ss b
      · rw [if_pos h3, if_neg]
        unfold sbf
        rw [pl_lt, pl_lt, pi_lt, h1, h2]; rw [pl_le] at h3
        omega
      · rw [if_neg h3, if_pos]
        unfold sbf
        rw [pl_lt, pl_lt, pi_lt, h1, h2]; rw [pl_le] at h3
        exact Or.inr ⟨rfl, Or.inr ⟨rfl, by omega⟩⟩
    · rw [if_neg h2]
      by_cases h3 : SS_begins ss a ≤ SS_begins ss b
      · rw [if_pos h3, if_neg]
        unfold sbf
        rw [pl_lt, pl_lt, pi_lt, pl_eq, h1]; rw [pl_le] at h3; rw [pl_eq] at h2
        omega
      · rw [if_neg h3, if_pos]
        unfold sbf
        rw [pl_lt, pl_lt, pi_lt, h1]; rw [pl_le] at h3
        exact Or.inr ⟨rfl, Or.inl (by omega)⟩
  · rw [if_neg h1]
    by_cases h3 : SS_keys ss a ≤ SS_keys ss b
    · rw [if_pos h3, if_neg]
      unfold sbf
      rw [pi_lt, pi_eq]; rw [pi_le] at h3; rw [pi_eq] at h1
      omega
    · rw [if_neg h3, if_pos]
      unfold sbf
      rw [pi_lt]; rw [pi_le] at h3
      exact Or.inl (by omega)
theorem p_SSL66 {c : Nat} (hc : c < 200) : ∀ (n i : Nat) (ss : SSt), i ≤ 5 → 5 - i < n → ∃ h u : Nat → Int64, f_SS_add_L66 (nI c) n (nI (5 * c + i)) ss = some (sSS_untold (sSS_had ss h) u) ∧ (∀ x : Nat, h x = if 5 * c + i ≤ x ∧ x < 5 * c + 5 then 0 else SS_had ss x) ∧ (∀ x : Nat, u x = if 5 * c + i ≤ x ∧ x < 5 * c + 5 then 0 else SS_untold ss x) := by
  intro n
  induction n with
  | zero => intro i mo _ h; omega
  | succ n ih =>
    intro i ss hi hn
    have h5 : nI c * 5 + 5 = nI (5 * c + 5) := by rw [show (5 : Int32) = nI 5 from rfl, pk_mul, nI_add, Nat.mul_comm]
    rw [f_SS_add_L66, h5]
    by_cases hc : i = 5
    · subst hc
      rw [if_pos (nI_le (Nat.le_refl _) (by omega))]
      exact ⟨SS_had ss, SS_untold ss, rfl, fun x => by rw [if_neg (by omega)], fun x => by rw [if_neg (by omega)]⟩
    · rw [if_neg (nI_ge (by omega) (by omega)), if_neg (nI_in (show 5 * c + i < 1000 by omega) (by omega)), nI_clamp (by omega)]
      dsimp only [gl_let]
      rw [nI_1]
      obtain ⟨h, u, e1, e2, e3⟩ := ih (i + 1) (sSS_untold (sSS_had ss (vp_updL (SS_had ss) (5 * c + i) 0)) (vp_updL (SS_untold ss) (5 * c + i) 0)) (by omega) (by omega)
      have gen : ∀ f : Nat → Int64, ∀ x : Nat, (if 5 * c + (i + 1) ≤ x ∧ x < 5 * c + 5 then (0 : Int64) else vp_updL f (5 * c + i) 0 x) = if 5 * c + i ≤ x ∧ x < 5 * c + 5 then 0 else f x := by
        intro f x
        by_cases e : x = 5 * c + i
        · subst e
          rw [if_neg (by omega), if_pos (by omega), pk_uLs]
        · by_cases q : 5 * c + i ≤ x ∧ x < 5 * c + 5
          · rw [if_pos (by omega), if_pos q]
          · rw [if_neg (by omega), if_neg q, pk_uLn e]
      exact ⟨h, u, e1, fun x => (e2 x).trans (gen (SS_had ss) x), fun x => (e3 x).trans (gen (SS_untold ss) x)⟩
theorem p_SSL105 {c : Nat} (hc : c < 200) : ∀ (R Y : List Nat) (h n : Nat) (ss : SSt), R.length < n → R.length < 200 → (∀ r ∈ R, r < 200) → OA (SS_order ss) (R.reverse ++ h :: Y) →
    ∃ (R1 R2 : List Nat) (o : Nat → Int32) (h' : Nat), R = R1 ++ R2 ∧ f_SS_add_L105 (nI c) n (nI R.length) ss = some (nI R2.length, sSS_order ss o) ∧ OA o (R2.reverse ++ h' :: (R1.reverse ++ Y)) ∧ (∀ r ∈ R1, sbf (SS_keys ss) (SS_begins ss) (SS_ends ss) c r) ∧ (∀ r R3, R2 = r :: R3 → ¬ sbf (SS_keys ss) (SS_begins ss) (SS_ends ss) c r) := by
  intro R
  induction R with
  | nil =>
    intro Y h n ss hn _ _ hO
    obtain ⟨m, rfl⟩ : ∃ m, n = m + 1 := ⟨n - 1, by omega⟩
    rw [f_SS_add_L105, if_pos (by decide)]
    exact ⟨[], [], SS_order ss, h, rfl, rfl, hO, fun r hr => absurd hr (by simp), fun r R3 e => absurd e (by simp)⟩
  | cons r R ih =>
    intro Y h n ss hn hl hR hO
    obtain ⟨m, rfl⟩ : ∃ m, n = m + 1 := ⟨n - 1, by omega⟩
    have hr := hR r (by simp)
    rw [List.length_cons] at hn hl
    rw [List.length_cons, f_SS_add_L105, if_neg (show ¬ nI (R.length + 1) ≤ 0 from nI_ge (a := 0) (b := R.length + 1) (by omega) (by omega)), nI_s1.1, if_neg (nI_in (show R.length < 200 by omega) (by omega)), nI_clamp (by omega)]
    have hg : SS_order ss R.length = nI r := by
      have := hO
      rw [List.reverse_cons, List.append_assoc, List.singleton_append] at this
      have := oa_get this
      rwa [List.length_reverse] at this
    rw [hg, p_isBehind hr hc, ob]
    by_cases hb : sbf (SS_keys ss) (SS_begins ss) (SS_ends ss) c r
    · rw [if_pos hb, if_neg (by decide), if_neg (nI_in (show R.length + 1 < 200 by omega) (by omega)), nI_clamp (by omega)]
      dsimp only [gl_let]
      rw [nI_s1.2]
      have hs := oa_set hO r
      rw [List.length_reverse, List.length_cons, List.reverse_cons, List.append_assoc, List.singleton_append] at hs
      obtain ⟨R1, R2, o, h', e1, e2, e3, e4, e5⟩ := ih (r :: Y) r m (sSS_order ss (upd (SS_order ss) (R.length + 1) (nI r))) (by omega) (by omega) (fun x hx => hR x (List.mem_cons_of_mem _ hx)) hs
      refine ⟨r :: R1, R2, o, h', by rw [e1]; rfl, e2, ?_, ?_, e5⟩
      · rw [List.reverse_cons, List.append_assoc]
        exact e3
      · intro x hx
        rcases List.mem_cons.mp hx with rfl | hx
        · exact hb
        · exact e4 x hx
    · rw [if_neg hb, if_pos rfl]
      exact ⟨[], r :: R, SS_order ss, h, rfl, rfl, by simpa using hO, fun r hr => absurd hr (by simp), fun r' R3 e => by rw [← (List.cons.inj e).1]; exact hb⟩
theorem p_SSadd (k : Nat) (hk : 5000 ≤ k) (key : Int32) (b e : Int64) {P : List (Nat × Nat)} {ss : SSt} {mo : MOt} (h : SP P ss mo) (hl : P.length < 200) :
    ∃ (c : Nat) (A B : List (Nat × Nat)) (F : List Nat) (o : Nat → Int32) (fk : Nat → Int32) (fb fe : Nat → Int64) (hd ut : Nat → Int64), P = A ++ B ∧ c < 200 ∧ c ∉ P.map Prod.fst ∧ fk = upd (SS_keys ss) c key ∧ fb = vp_updL (SS_begins ss) c b ∧ fe = vp_updL (SS_ends ss) c e ∧
      f_SS_add k key b e ss = some (nI c, sSS_kept (sSS_order (sSS_untold (sSS_had (sSS_ended (sSS_since (sSS_fires (sSS_ends (sSS_begins (sSS_keys ss fk) fb) fe) (upd (SS_fires ss) c 0)) (upd (SS_since ss) c 0)) (upd (SS_ended ss) c 0)) hd) ut) o) (nI (P.length + 1))) ∧
      OA o (A.map Prod.fst ++ c :: (B.map Prod.fst ++ F)) ∧ (A.map Prod.fst ++ c :: (B.map Prod.fst ++ F)).Perm (List.range 200) ∧ (∀ p ∈ B, sbf fk fb fe c p.1) ∧ (A = [] ∨ ∃ A' z, A = A' ++ [z] ∧ ¬ sbf fk fb fe c z.1) ∧
      (∀ x : Nat, hd x = if 5 * c ≤ x ∧ x < 5 * c + 5 then 0 else SS_had ss x) ∧ (∀ x : Nat, ut x = if 5 * c ≤ x ∧ x < 5 * c + 5 then 0 else SS_untold ss x) := by
  obtain ⟨F0, hO, hP⟩ := h.ord
  obtain ⟨c, F, rfl⟩ : ∃ c F, F0 = c :: F := by
    cases F0 with
    | nil =>
      have := hP.length_eq
      simp at this
      omega
    | cons c F => exact ⟨c, F, rfl⟩
  have hnd := hP.nodup_iff.mpr List.nodup_range
  have hc : c < 200 := List.mem_range.mp ((hP.mem_iff (a := c)).mp (by simp))
  have hcL : c ∉ P.map Prod.fst := fun z => (List.nodup_append.mp hnd).2.2 c z c (by simp) rfl
  have hg := oa_get hO
  rw [List.length_map] at hg
  unfold f_SS_add
  rw [h.kept, if_neg (nI_in hl (by omega)), nI_clamp (by omega)]
  dsimp only [gl_let]
  rw [hg, if_neg (nI_in hc (by omega)), nI_clamp (show c < 2 ^ 31 by omega)]
  obtain ⟨fk, hfk⟩ : ∃ fk, fk = upd (SS_keys ss) c key := ⟨_, rfl⟩
  obtain ⟨fb, hfb⟩ : ∃ fb, fb = vp_updL (SS_begins ss) c b := ⟨_, rfl⟩
  obtain ⟨fe, hfe⟩ : ∃ fe, fe = vp_updL (SS_ends ss) c e := ⟨_, rfl⟩
  rw [← hfk, ← hfb, ← hfe]
  have h5 : nI c * 5 = nI (5 * c + 0) := by rw [show (5 : Int32) = nI 5 from rfl, pk_mul, Nat.mul_comm, Nat.add_zero]
  obtain ⟨hd, ut, u1, u2, u3⟩ := p_SSL66 hc k 0 (sSS_ended (sSS_since (sSS_fires (sSS_ends (sSS_begins (sSS_keys ss fk) fb) fe) (upd (SS_fires ss) c 0)) (upd (SS_since ss) c 0)) (upd (SS_ended ss) c 0)) (by omega) (by omega)
  rw [h5, u1, ob]
  obtain ⟨R1, R2, o, h', e1, e2, e3, e4, e5⟩ := p_SSL105 hc (P.map Prod.fst).reverse F c k (sSS_untold (sSS_had (sSS_ended (sSS_since (sSS_fires (sSS_ends (sSS_begins (sSS_keys ss fk) fb) fe) (upd (SS_fires ss) c 0)) (upd (SS_since ss) c 0)) (upd (SS_ended ss) c 0)) hd) ut) (by simp; omega) (by simpa using hl)
    (fun r hr => by
      rw [List.mem_reverse] at hr
      obtain ⟨p, hp, rfl⟩ := List.mem_map.mp hr
      exact h.lt1 p hp)
    (by rw [List.reverse_reverse]; exact hO)
  rw [List.length_reverse, List.length_map] at e2
  have hk2 : SS_kept (sSS_untold (sSS_had (sSS_ended (sSS_since (sSS_fires (sSS_ends (sSS_begins (sSS_keys ss fk) fb) fe) (upd (SS_fires ss) c 0)) (upd (SS_since ss) c 0)) (upd (SS_ended ss) c 0)) hd) ut) = nI P.length := h.kept
  rw [hk2, e2, ob]
  dsimp only
  have e1' : P.map Prod.fst = R2.reverse ++ R1.reverse := by rw [← List.reverse_append, ← e1, List.reverse_reverse]
  obtain ⟨A, B, hAB, hA, hB⟩ := List.map_eq_append_iff.mp e1'
  have hlen : R2.length = A.length := by
    have := congrArg List.length hA
    simpa using this.symm
  have hAl : A.length ≤ P.length := by rw [hAB]; simp
  rw [hlen, if_neg (nI_in (show A.length < 200 by omega) (by omega)), nI_clamp (show A.length < 2 ^ 31 by omega)]
  refine ⟨c, A, B, F, upd o A.length (nI c), fk, fb, fe, hd, ut, hAB, hc, hcL, hfk, hfb, hfe, ?_, ?_, ?_, ?_, ?_, u2, u3⟩
  · show some (nI c, sSS_kept (sSS_order _ _) (SS_kept ss + 1)) = _
    rw [h.kept, nI_1]
  · have := oa_set e3 c
    rw [List.length_reverse, hlen, ← hA, ← hB] at this
    exact this
  · refine List.Perm.trans ?_ hP
    rw [hAB, List.map_append, List.append_assoc]
    exact List.Perm.append_left _ List.perm_middle.symm
  · intro p hp
    have hp1 : p.1 ∈ R1 := by
      rw [← List.mem_reverse, ← hB]
      exact List.mem_map_of_mem hp
    exact e4 _ hp1
  · cases R2 with
    | nil =>
      left
      simpa using hlen.symm
    | cons r R3 =>
      right
      have := e5 r R3 rfl
      rw [List.reverse_cons] at hA
      obtain ⟨A', Z, hz1, hz2, hz3⟩ := List.map_eq_append_iff.mp hA
      obtain ⟨z, hz, hz4⟩ := List.map_eq_singleton_iff.mp hz3
      exact ⟨A', z, by rw [hz1, hz], by rw [hz4]; exact this⟩
