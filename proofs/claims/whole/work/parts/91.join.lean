abbrev js (ss : SSt) (E : Nat → Int64) (Fi Si En : Nat → Int32) (H U : Nat → Int64) (K : Nat → Int32) : SSt := sSS_keys (sSS_untold (sSS_had (sSS_ended (sSS_since (sSS_fires (sSS_ends ss E) Fi) Si) En) H) U) K
def isMxI (l : List Int32) (x : Int32) : Prop := x ∈ l ∧ ∀ y ∈ l, y ≤ x
theorem isMxI_eq {l l' : List Int32} {x y : Int32} (h : ∀ z, z ∈ l ↔ z ∈ l') (h1 : isMxI l x) (h2 : isMxI l' y) : x = y := by
  have a := h2.2 x ((h x).mp h1.1)
  have b := h1.2 y ((h y).mpr h2.1)
  rw [pi_le] at a b
  rw [pi_eq]
  omega
theorem isMxI_keep {l : List Int32} {x y : Int32} (h : isMxI l x) (hy : y ≤ x) : isMxI (l ++ [y]) x := by
  refine ⟨List.mem_append_left _ h.1, fun z hz => ?_⟩
  rw [List.mem_append, List.mem_singleton] at hz
  rcases hz with hz | rfl
  · exact h.2 z hz
  · exact hy
theorem isMxI_take {l : List Int32} {x y : Int32} (h : isMxI l x) (hy : ¬ y ≤ x) : isMxI (l ++ [y]) y := by
  refine ⟨by simp, fun z hz => ?_⟩
  rw [List.mem_append, List.mem_singleton] at hz
  rcases hz with hz | rfl
  · have := h.2 z hz
    rw [pi_le] at *
    omega
  · rw [pi_le]; omega
def isum (l : List Int32) : Int32 := l.foldr (· + ·) 0
theorem isum_app (l : List Int32) (x : Int32) : isum (l ++ [x]) = isum l + x := by
  induction l with
  | nil =>
    show x + 0 = 0 + x
    rw [Int32.add_zero, Int32.zero_add]
  | cons y l ih =>
    show y + isum (l ++ [x]) = y + isum l + x
    rw [ih, Int32.add_assoc]
theorem isum_perm {l l' : List Int32} (h : l.Perm l') : isum l = isum l' := by
  induction h with
  | nil => rfl
  | cons x _ ih =>
    show x + isum _ = x + isum _
    rw [ih]
  | swap x y l =>
    show y + (x + isum l) = x + (y + isum l)
    rw [← Int32.add_assoc, ← Int32.add_assoc, Int32.add_comm y x]
  | trans _ _ ih1 ih2 => exact ih1.trans ih2
theorem p_absL88 {a b : Nat} (ha : a < 200) (hb : b < 200) (hab : a ≠ b) (ss : SSt) (E : Nat → Int64) (Fi Si En K : Nat → Int32) : ∀ (m n i : Nat) (H U : Nat → Int64), i + m = 5 → m < n → ∃ H' U' : Nat → Int64, f_SS_absorb_L88 (nI a) (nI b) n (nI i) (js ss E Fi Si En H U K) = some (js ss E Fi Si En H' U' K) ∧ (∀ x : Nat, H' x = if 5 * a + i ≤ x ∧ x < 5 * a + 5 then H x ||| H (5 * b + (x - 5 * a)) else H x) ∧ (∀ x : Nat, U' x = if 5 * a + i ≤ x ∧ x < 5 * a + 5 then U x ||| U (5 * b + (x - 5 * a)) else U x) := by
  intro m
  induction m with
  | zero =>
    intro n i H U hi hn
    obtain ⟨n, rfl⟩ : ∃ m, n = m + 1 := ⟨n - 1, by omega⟩
    have hi2 : i = 5 := by omega
    subst hi2
    rw [f_SS_absorb_L88, if_pos (by decide)]
    exact ⟨H, U, rfl, fun x => by rw [if_neg (by omega)], fun x => by rw [if_neg (by omega)]⟩
  | succ m ih =>
    intro n i H U hi hn
    obtain ⟨n, rfl⟩ : ∃ m, n = m + 1 := ⟨n - 1, by omega⟩
    have h5 : ∀ s : Nat, nI s * 5 + nI i = nI (5 * s + i) := fun s => by rw [show (5 : Int32) = nI 5 from rfl, pk_mul, nI_add, Nat.mul_comm]
    rw [f_SS_absorb_L88, if_neg (show ¬ (5 : Int32) ≤ nI i from nI_ge (a := i) (b := 5) (by omega) (by omega)), h5, h5, if_neg (nI_in (show 5 * a + i < 1000 by omega) (by omega)), if_neg (nI_in (show 5 * b + i < 1000 by omega) (by omega)), nI_clamp (show 5 * a + i < 2 ^ 31 by omega), nI_clamp (show 5 * b + i < 2 ^ 31 by omega)]
    dsimp only [gl_let]
    rw [nI_1]
    obtain ⟨H1, hH1⟩ : ∃ H1, H1 = vp_updL H (5 * a + i) (H (5 * a + i) ||| H (5 * b + i)) := ⟨_, rfl⟩
    obtain ⟨U1, hU1⟩ : ∃ U1, U1 = vp_updL U (5 * a + i) (U (5 * a + i) ||| U (5 * b + i)) := ⟨_, rfl⟩
    obtain ⟨H', U', e1, e2, e3⟩ := ih n (i + 1) H1 U1 (by omega) (by omega)
    have gen : ∀ (G G1 : Nat → Int64), G1 = vp_updL G (5 * a + i) (G (5 * a + i) ||| G (5 * b + i)) → ∀ x : Nat, (if 5 * a + (i + 1) ≤ x ∧ x < 5 * a + 5 then G1 x ||| G1 (5 * b + (x - 5 * a)) else G1 x) = if 5 * a + i ≤ x ∧ x < 5 * a + 5 then G x ||| G (5 * b + (x - 5 * a)) else G x := by
      intro G G1 hG x
      by_cases e : x = 5 * a + i
      · rw [if_neg (by omega), if_pos (by omega), hG, e, pk_uLs, show 5 * a + i - 5 * a = i by omega]
      · by_cases z : 5 * a + i ≤ x ∧ x < 5 * a + 5
        · rw [if_pos (by omega), if_pos z, hG, pk_uLn e, pk_uLn (by omega)]
        · rw [if_neg (by omega), if_neg z, hG, pk_uLn e]
    refine ⟨H', U', ?_, fun x => (e2 x).trans (gen H H1 hH1 x), fun x => (e3 x).trans (gen U U1 hU1 x)⟩
    rw [← e1, hH1, hU1]
theorem bt_orw {G G' : Nat → Int64} {a b s c : Nat} (h : ∀ x : Nat, G' x = if 5 * a ≤ x ∧ x < 5 * a + 5 then G x ||| G (5 * b + (x - 5 * a)) else G x) (hc : c < 300) : bt G' s c = if s = a then bt G a c || bt G b c else bt G s c := by
  unfold bt
  rw [h]
  by_cases e : s = a
  · subst e
    rw [if_pos rfl, if_pos (by omega), bt_or2, show 5 * s + c / 64 - 5 * s = c / 64 by omega]
  · rw [if_neg e, if_neg (by omega)]
theorem p_absorb (k : Nat) (hk : 5000 ≤ k) {a b : Nat} (ha : a < 200) (hb : b < 200) (hab : a ≠ b) (ss : SSt) (E : Nat → Int64) (Fi Si En : Nat → Int32) (H U : Nat → Int64) (K : Nat → Int32) : ∃ (H' U' : Nat → Int64) (d : Int32), f_SS_absorb k (nI a) (nI b) (js ss E Fi Si En H U K) = some (js ss (vp_updL E a (if E b < E a then E a else E b)) (upd Fi a (if Fi a < Fi b then Fi b else Fi a)) (upd Si a (Si a + Si b)) (upd En a d) H' U' (upd K b (-1))) ∧ (d = 0 ∨ d = 1) ∧ (¬ d = 0 ↔ ¬ En a = 0 ∨ ¬ En b = 0) ∧
    (∀ s c : Nat, c < 300 → bt H' s c = if s = a then bt H a c || bt H b c else bt H s c) ∧ (∀ s c : Nat, c < 300 → bt U' s c = if s = a then bt U a c || bt U b c else bt U s c) := by
  have hB : ∃ d : Int32, f_SS_absorb_B68 (nI a) (nI b) (js ss E Fi Si En H U K) (sSS_since (sSS_fires (sSS_ends (js ss E Fi Si En H U K) (vp_updL E a (if E b < E a then E a else E b))) (upd Fi a (if Fi a < Fi b then Fi b else Fi a))) (upd Si a (Si a + Si b))) = some d ∧ (d = 0 ∨ d = 1) ∧ (¬ d = 0 ↔ ¬ En a = 0 ∨ ¬ En b = 0) := by
    unfold f_SS_absorb_B68
    rw [nI_clamp (show a < 2 ^ 31 by omega), nI_clamp (show b < 2 ^ 31 by omega)]
    by_cases c1 : En a = 0
    · rw [if_pos (show SS_ended (js ss E Fi Si En H U K) a = 0 from c1)]
      by_cases c2 : En b = 0
      · rw [if_pos (show SS_ended (sSS_since (sSS_fires (sSS_ends (js ss E Fi Si En H U K) (vp_updL E a (if E b < E a then E a else E b))) (upd Fi a (if Fi a < Fi b then Fi b else Fi a))) (upd Si a (Si a + Si b))) b = 0 from c2)]
        exact ⟨0, rfl, Or.inl rfl, fun z => absurd rfl z, fun z => z.elim (fun y => absurd c1 y) (fun y => absurd c2 y)⟩
      · rw [if_neg (show ¬ SS_ended (sSS_since (sSS_fires (sSS_ends (js ss E Fi Si En H U K) (vp_updL E a (if E b < E a then E a else E b))) (upd Fi a (if Fi a < Fi b then Fi b else Fi a))) (upd Si a (Si a + Si b))) b = 0 from c2)]
        exact ⟨1, rfl, Or.inr rfl, fun _ => Or.inr c2, fun _ => by decide⟩
    · rw [if_neg (show ¬ SS_ended (js ss E Fi Si En H U K) a = 0 from c1)]
      exact ⟨1, rfl, Or.inr rfl, fun _ => Or.inl c1, fun _ => by decide⟩
  obtain ⟨d, d1, d2, d3⟩ := hB
  have hn : vp_nar .boolean d = d := by rcases d2 with rfl | rfl <;> rfl
  obtain ⟨H', U', e1, e2, e3⟩ := p_absL88 ha hb hab ss (vp_updL E a (if E b < E a then E a else E b)) (upd Fi a (if Fi a < Fi b then Fi b else Fi a)) (upd Si a (Si a + Si b)) (upd En a d) K 5 k 0 H U (by omega) (by omega)
  rw [nI_0] at e1
  refine ⟨H', U', d, ?_, d2, d3, fun s c hc => bt_orw e2 hc, fun s c hc => bt_orw e3 hc⟩
  unfold f_SS_absorb
  rw [if_neg (nI_in ha (by omega)), if_neg (nI_in hb (by omega)), nI_clamp (show a < 2 ^ 31 by omega), nI_clamp (show b < 2 ^ 31 by omega)]
  dsimp only [gl_let]
  have d1' : f_SS_absorb_B68 (nI a) (nI b) (js ss E Fi Si En H U K) (sSS_since (sSS_fires (sSS_ends (js ss E Fi Si En H U K) (vp_updL (SS_ends (js ss E Fi Si En H U K)) a (if SS_ends (js ss E Fi Si En H U K) b < SS_ends (js ss E Fi Si En H U K) a then SS_ends (js ss E Fi Si En H U K) a else SS_ends (js ss E Fi Si En H U K) b))) (upd (SS_fires (js ss E Fi Si En H U K)) a (if SS_fires (js ss E Fi Si En H U K) a < SS_fires (js ss E Fi Si En H U K) b then SS_fires (js ss E Fi Si En H U K) b else SS_fires (js ss E Fi Si En H U K) a))) (upd (SS_since (js ss E Fi Si En H U K)) a (SS_since (js ss E Fi Si En H U K) a + SS_since (js ss E Fi Si En H U K) b))) = some d := d1
  rw [d1', ob, hn]
  have e1' : f_SS_absorb_L88 (nI a) (nI b) k 0 (sSS_ended (sSS_since (sSS_fires (sSS_ends (js ss E Fi Si En H U K) (vp_updL (SS_ends (js ss E Fi Si En H U K)) a (if SS_ends (js ss E Fi Si En H U K) b < SS_ends (js ss E Fi Si En H U K) a then SS_ends (js ss E Fi Si En H U K) a else SS_ends (js ss E Fi Si En H U K) b))) (upd (SS_fires (js ss E Fi Si En H U K)) a (if SS_fires (js ss E Fi Si En H U K) a < SS_fires (js ss E Fi Si En H U K) b then SS_fires (js ss E Fi Si En H U K) b else SS_fires (js ss E Fi Si En H U K) a))) (upd (SS_since (js ss E Fi Si En H U K)) a (SS_since (js ss E Fi Si En H U K) a + SS_since (js ss E Fi Si En H U K) b))) (upd (SS_ended (sSS_since (sSS_fires (sSS_ends (js ss E Fi Si En H U K) (vp_updL (SS_ends (js ss E Fi Si En H U K)) a (if SS_ends (js ss E Fi Si En H U K) b < SS_ends (js ss E Fi Si En H U K) a then SS_ends (js ss E Fi Si En H U K) a else SS_ends (js ss E Fi Si En H U K) b))) (upd (SS_fires (js ss E Fi Si En H U K)) a (if SS_fires (js ss E Fi Si En H U K) a < SS_fires (js ss E Fi Si En H U K) b then SS_fires (js ss E Fi Si En H U K) b else SS_fires (js ss E Fi Si En H U K) a))) (upd (SS_since (js ss E Fi Si En H U K)) a (SS_since (js ss E Fi Si En H U K) a + SS_since (js ss E Fi Si En H U K) b)))) a d)) = some (js ss (vp_updL E a (if E b < E a then E a else E b)) (upd Fi a (if Fi a < Fi b then Fi b else Fi a)) (upd Si a (Si a + Si b)) (upd En a d) H' U' K) := e1
  rw [e1', ob]
