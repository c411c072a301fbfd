/-! PURE PART H: spans, class and reference -/
def moR (mo : MOt) := (MO_rKey mo, MO_rTime mo, MO_rValue mo, MO_rNumber mo, MO_rCame mo, MO_rows mo, MO_came mo)
def moC (mo : MOt) := ((MO_kind mo, MO_size mo, MO_step mo, MO_offset mo, MO_lateness mo, MO_every mo), (MO_fires mo, MO_clears mo, MO_rule mo, MO_forbidden mo, MO_bad mo, MO_now mo), (MO_late mo, MO_numbered mo, MO_nextSpan mo, MO_thrown mo), (MO_wanted mo, MO_wBegin mo, MO_wEnd mo, MO_came mo))
theorem RR.cong {L : List (Nat × Nat)} {rs : RSt} {mo mo' : MOt} (h : RR L rs mo) (e : moR mo' = moR mo) : RR L rs mo' := by
  unfold moR at e
  injection e with e1 e
  injection e with e2 e
  injection e with e3 e
  injection e with e4 e
  injection e with e5 e
  injection e with e6 e7
  unfold RR at h ⊢
  rw [e1, e2, e3, e4, e5, e6, e7]
  exact h
abbrev sbf (k : Nat → Int32) (b e : Nat → Int64) (x y : Nat) : Prop := k x < k y ∨ k x = k y ∧ (b x < b y ∨ b x = b y ∧ e x < e y)
def SP (P : List (Nat × Nat)) (ss : SSt) (mo : MOt) : Prop :=
  SS_kept ss = nI P.length ∧
  MO_spans mo = nI P.length ∧
  (∃ F, OA (SS_order ss) (P.map Prod.fst ++ F) ∧ (P.map Prod.fst ++ F).Perm (List.range 200)) ∧
  (∀ p ∈ P, SS_keys ss p.1 = MO_sKey mo p.2 ∧ SS_begins ss p.1 = MO_sBegin mo p.2 ∧ SS_ends ss p.1 = MO_sEnd mo p.2 ∧ SS_fires ss p.1 = MO_sFired mo p.2 ∧ SS_since ss p.1 = MO_sPut mo p.2 ∧ SS_ended ss p.1 = MO_sEnded mo p.2) ∧
  (∀ p ∈ P, ∃ q : Nat, q < 8 ∧ MO_sKey mo p.2 = nI q) ∧
  (∀ p ∈ P, p.2 < 200) ∧
  (P.map Prod.snd).Nodup ∧
  (∀ s : Nat, s < 200 → MO_sKey mo s = -1 ∨ s ∈ P.map Prod.snd) ∧
  P.Pairwise (fun p q => sbf (MO_sKey mo) (MO_sBegin mo) (MO_sEnd mo) p.2 q.2) ∧
  (∀ p ∈ P, (-4000000000000 ≤ (MO_sBegin mo p.2).toInt ∧ (MO_sBegin mo p.2).toInt ≤ 4000000000000) ∧ (-4000000000000 ≤ (MO_sEnd mo p.2).toInt ∧ (MO_sEnd mo p.2).toInt ≤ 4000000000000) ∧ (MO_sEnded mo p.2 = 0 ∨ MO_sEnded mo p.2 = 1))
theorem SP.kept {P : List (Nat × Nat)} {ss : SSt} {mo : MOt} (h : SP P ss mo) : SS_kept ss = nI P.length := h.1
theorem SP.spans {P : List (Nat × Nat)} {ss : SSt} {mo : MOt} (h : SP P ss mo) : MO_spans mo = nI P.length := h.2.1
theorem SP.ord {P : List (Nat × Nat)} {ss : SSt} {mo : MOt} (h : SP P ss mo) : ∃ F, OA (SS_order ss) (P.map Prod.fst ++ F) ∧ (P.map Prod.fst ++ F).Perm (List.range 200) := h.2.2.1
theorem SP.eqs {P : List (Nat × Nat)} {ss : SSt} {mo : MOt} (h : SP P ss mo) : ∀ p ∈ P, SS_keys ss p.1 = MO_sKey mo p.2 ∧ SS_begins ss p.1 = MO_sBegin mo p.2 ∧ SS_ends ss p.1 = MO_sEnd mo p.2 ∧ SS_fires ss p.1 = MO_sFired mo p.2 ∧ SS_since ss p.1 = MO_sPut mo p.2 ∧ SS_ended ss p.1 = MO_sEnded mo p.2 := h.2.2.2.1
theorem SP.keyr {P : List (Nat × Nat)} {ss : SSt} {mo : MOt} (h : SP P ss mo) : ∀ p ∈ P, ∃ q : Nat, q < 8 ∧ MO_sKey mo p.2 = nI q := h.2.2.2.2.1
theorem SP.lt {P : List (Nat × Nat)} {ss : SSt} {mo : MOt} (h : SP P ss mo) : ∀ p ∈ P, p.2 < 200 := h.2.2.2.2.2.1
theorem SP.nd {P : List (Nat × Nat)} {ss : SSt} {mo : MOt} (h : SP P ss mo) : (P.map Prod.snd).Nodup := h.2.2.2.2.2.2.1
theorem SP.free {P : List (Nat × Nat)} {ss : SSt} {mo : MOt} (h : SP P ss mo) : ∀ s : Nat, s < 200 → MO_sKey mo s = -1 ∨ s ∈ P.map Prod.snd := h.2.2.2.2.2.2.2.1
theorem SP.srt {P : List (Nat × Nat)} {ss : SSt} {mo : MOt} (h : SP P ss mo) : P.Pairwise (fun p q => sbf (MO_sKey mo) (MO_sBegin mo) (MO_sEnd mo) p.2 q.2) := h.2.2.2.2.2.2.2.2.1
theorem SP.bnd {P : List (Nat × Nat)} {ss : SSt} {mo : MOt} (h : SP P ss mo) : ∀ p ∈ P, (-4000000000000 ≤ (MO_sBegin mo p.2).toInt ∧ (MO_sBegin mo p.2).toInt ≤ 4000000000000) ∧ (-4000000000000 ≤ (MO_sEnd mo p.2).toInt ∧ (MO_sEnd mo p.2).toInt ≤ 4000000000000) ∧ (MO_sEnded mo p.2 = 0 ∨ MO_sEnded mo p.2 = 1) := h.2.2.2.2.2.2.2.2.2
theorem SP.lt1 {P : List (Nat × Nat)} {ss : SSt} {mo : MOt} (h : SP P ss mo) : ∀ p ∈ P, p.1 < 200 := by
  obtain ⟨F, _, h2⟩ := h.ord
  intro p hp
  have := (h2.mem_iff (a := p.1)).mp (List.mem_append_left _ (List.mem_map_of_mem hp))
  exact List.mem_range.mp this
theorem SP.len {P : List (Nat × Nat)} {ss : SSt} {mo : MOt} (h : SP P ss mo) : P.length ≤ 200 := by
  obtain ⟨F, _, h2⟩ := h.ord
  have := h2.length_eq
  simp at this
  omega
theorem SP.nd1 {P : List (Nat × Nat)} {ss : SSt} {mo : MOt} (h : SP P ss mo) : (P.map Prod.fst).Nodup := by
  obtain ⟨F, _, h2⟩ := h.ord
  exact (List.nodup_append.mp (h2.nodup_iff.mpr List.nodup_range)).1
theorem SP.at {P1 P2 : List (Nat × Nat)} {p : Nat × Nat} {ss : SSt} {mo : MOt} (h : SP (P1 ++ p :: P2) ss mo) : SS_order ss P1.length = nI p.1 := by
  obtain ⟨F, h1, _⟩ := h.ord
  rw [List.map_append, List.map_cons, List.append_assoc, List.cons_append] at h1
  have := oa_get h1
  rwa [List.length_map] at this
theorem ndm_inj {f : Nat × Nat → Nat} : ∀ {L : List (Nat × Nat)} {a b : Nat × Nat}, (L.map f).Nodup → a ∈ L → b ∈ L → f a = f b → a = b := by
  intro L
  induction L with
  | nil => intro a b _ h; exact absurd h (by simp)
  | cons x L ih =>
    intro a b hn ha hb e
    rw [List.map_cons, List.nodup_cons] at hn
    rcases List.mem_cons.mp ha with h1 | h1
    · rcases List.mem_cons.mp hb with h2 | h2
      · rw [h1, h2]
      · exact absurd (h1 ▸ e ▸ List.mem_map_of_mem h2) hn.1
    · rcases List.mem_cons.mp hb with h2 | h2
      · exact absurd (h2 ▸ e ▸ List.mem_map_of_mem h1) hn.1
      · exact ih hn.2 h1 h2 e
theorem SP.sep {P : List (Nat × Nat)} {ss : SSt} {mo : MOt} (h : SP P ss mo) {p q : Nat × Nat} (hp : p ∈ P) (hq : q ∈ P) : q = p ∨ (q.1 ≠ p.1 ∧ q.2 ≠ p.2) := by
  by_cases e : q = p
  · exact Or.inl e
  · exact Or.inr ⟨fun z => e (ndm_inj h.nd1 hq hp z), fun z => e (ndm_inj h.nd hq hp z)⟩
theorem RR.sep {L : List (Nat × Nat)} {rs : RSt} {mo : MOt} (h : RR L rs mo) {p q : Nat × Nat} (hp : p ∈ L) (hq : q ∈ L) : q = p ∨ (q.1 ≠ p.1 ∧ q.2 ≠ p.2) := by
  by_cases e : q = p
  · exact Or.inl e
  · exact Or.inr ⟨fun z => e (ndm_inj h.nd1 hq hp z), fun z => e (ndm_inj h.nd hq hp z)⟩
/-- the rows of the spans, and which of them were told -/
def BT (L P : List (Nat × Nat)) (hd ut : Nat → Int64) (ha tl : Nat → Int32) : Prop :=
  (∀ p ∈ P, ∀ q ∈ L, (bt hd p.1 q.1 = true ↔ ¬ ha (300 * p.2 + q.2) = 0) ∧ (bt ut p.1 q.1 = true ↔ ¬ ha (300 * p.2 + q.2) = 0 ∧ tl (300 * p.2 + q.2) = 0)) ∧
  (∀ p ∈ P, ∀ c : Nat, c < 300 → c ∉ L.map Prod.fst → bt hd p.1 c = false ∧ bt ut p.1 c = false) ∧
  (∀ p ∈ P, ∀ r : Nat, r < 300 → r ∉ L.map Prod.snd → ha (300 * p.2 + r) = 0) ∧
  (∀ p ∈ P, ∀ r : Nat, r < 300 → (ha (300 * p.2 + r) = 0 ∧ tl (300 * p.2 + r) = 0) ∨ (ha (300 * p.2 + r) = 1 ∧ (tl (300 * p.2 + r) = 0 ∨ tl (300 * p.2 + r) = 1)))
theorem nb0 : vp_nar .boolean 0 = 0 := rfl
theorem nb1 : vp_nar .boolean 1 = 1 := rfl
theorem p_ix {s i : Nat} : (300 : Int32) * nI s + nI i = nI (300 * s + i) := by
  rw [show (300 : Int32) = nI 300 from rfl, pk_mul, nI_add]
def cnd (mo : MOt) (x : Nat) : Prop := ¬ MO_has mo x = 0 ∧ (MO_clears mo = 0 ∨ MO_toldOf mo x = 0)
theorem p_fireL2 {s : Nat} (hs : s < 200) : ∀ (n i : Nat) (mo : MOt), i ≤ 300 → 300 - i < n → ∃ (J O : Nat → Int32), f_MO_fire_L2 (nI s) n (nI i) mo = some (sMO_isIn (sMO_toldOf mo O) J) ∧
    (∀ r : Nat, i ≤ r → r < 300 → (¬ J r = 0 ↔ cnd mo (300 * s + r))) ∧ (∀ r : Nat, r < i → J r = MO_isIn mo r) ∧ (∀ x : Nat, O x = if 300 * s + i ≤ x ∧ x < 300 * s + 300 then vp_nar .boolean (MO_has mo x) else MO_toldOf mo x) := by
  intro n
  induction n with
  | zero => intro i mo _ h; omega
  | succ n ih =>
    intro i mo hi hn
    rw [f_MO_fire_L2]
    by_cases hc : i = 300
    · subst hc
      rw [if_pos (by decide)]
      exact ⟨MO_isIn mo, MO_toldOf mo, rfl, fun r h1 h2 => by omega, fun r _ => rfl, fun x => by rw [if_neg (by omega)]⟩
    · rw [if_neg (show ¬ (300 : Int32) ≤ nI i from nI_ge (a := i) (b := 300) (by omega) (by omega))]
      dsimp only [gl_let]
      rw [p_ix, if_neg (nI_in (show 300 * s + i < 60000 by omega) (by omega))]
      have hB : ∃ t : Int32, f_MO_fire_B30 mo (nI (300 * s + i)) = some t ∧ (t = 0 ∨ t = 1) ∧ (¬ t = 0 ↔ cnd mo (300 * s + i)) := by
        unfold f_MO_fire_B30 cnd
        rw [nI_clamp (by omega)]
        by_cases h1 : MO_has mo (300 * s + i) = 0
        · rw [if_pos h1]
          exact ⟨0, rfl, Or.inl rfl, fun z => absurd rfl z, fun z => absurd h1 z.1⟩
        · rw [if_neg h1]
          by_cases h2 : MO_clears mo = 0
          · rw [if_pos h2]
            exact ⟨1, rfl, Or.inr rfl, fun _ => ⟨h1, Or.inl h2⟩, fun _ => by decide⟩
          · rw [if_neg h2]
            by_cases h3 : MO_toldOf mo (300 * s + i) = 0
            · rw [if_pos h3]
              exact ⟨1, rfl, Or.inr rfl, fun _ => ⟨h1, Or.inr h3⟩, fun _ => by decide⟩
            · rw [if_neg h3]
              exact ⟨0, rfl, Or.inl rfl, fun z => absurd rfl z, fun z => (z.2.elim h2 h3).elim⟩
      obtain ⟨t, ht, ht1, ht2⟩ := hB
      rw [ht]
      dsimp only [Option.bind]
      rw [if_neg (nI_in (show i < 300 by omega) (by omega)), nI_clamp (by omega), nI_clamp (by omega), nI_1]
      obtain ⟨J, O, e1, e2, e3, e4⟩ := ih (i + 1) (sMO_isIn (sMO_toldOf mo (upd (MO_toldOf mo) (300 * s + i) (vp_nar .boolean (MO_has mo (300 * s + i))))) (upd (MO_isIn mo) i (vp_nar .boolean t))) (by omega) (by omega)
      refine ⟨J, O, e1, ?_, ?_, ?_⟩
      · intro r h1 h2
        by_cases e : r = i
        · subst e
          rw [e3 r (by omega)]
          show ¬ upd (MO_isIn mo) r (vp_nar .boolean t) r = 0 ↔ _
          rw [pk_us, ← ht2]
          rcases ht1 with rfl | rfl
          · rw [nb0]
          · rw [nb1]
        · rw [e2 r (by omega) h2]
          show (¬ MO_has mo (300 * s + r) = 0 ∧ (MO_clears mo = 0 ∨ upd (MO_toldOf mo) (300 * s + i) _ (300 * s + r) = 0)) ↔ _
          rw [pk_un (by omega)]
          exact Iff.rfl
      · intro r hr
        rw [e3 r (by omega)]
        exact pk_un (by omega)
      · intro x
        rw [e4 x]
        show (if 300 * s + (i + 1) ≤ x ∧ x < 300 * s + 300 then vp_nar .boolean (MO_has mo x) else upd (MO_toldOf mo) (300 * s + i) _ x) = _
        by_cases e : x = 300 * s + i
        · subst e
          rw [if_neg (by omega), if_pos (by omega), pk_us]
        · by_cases q : 300 * s + i ≤ x ∧ x < 300 * s + 300
          · rw [if_pos (by omega), if_pos q]
          · rw [if_neg (by omega), if_neg q, pk_un e]
theorem p_noteL32 {s : Nat} (hs : s < 200) : ∀ (n i : Nat) (ss : SSt), i ≤ 5 → 5 - i < n → ∃ u : Nat → Int64, f_SS_noteFired_L32 (nI s) n (nI (5 * s + i)) ss = some (sSS_untold ss u) ∧ ∀ x : Nat, u x = if 5 * s + i ≤ x ∧ x < 5 * s + 5 then 0 else SS_untold ss x := by
  intro n
  induction n with
  | zero => intro i mo _ h; omega
  | succ n ih =>
    intro i ss hi hn
    have h5 : nI s * 5 + 5 = nI (5 * s + 5) := by rw [show (5 : Int32) = nI 5 from rfl, pk_mul, nI_add, Nat.mul_comm]
    rw [f_SS_noteFired_L32, h5]
    by_cases hc : i = 5
    · subst hc
      rw [if_pos (nI_le (Nat.le_refl _) (by omega))]
      exact ⟨SS_untold ss, rfl, fun x => by rw [if_neg (by omega)]⟩
    · rw [if_neg (nI_ge (by omega) (by omega)), if_neg (nI_in (show 5 * s + i < 1000 by omega) (by omega)), nI_clamp (by omega)]
      dsimp only [gl_let]
      rw [nI_1]
      obtain ⟨u, e1, e2⟩ := ih (i + 1) (sSS_untold ss (vp_updL (SS_untold ss) (5 * s + i) 0)) (by omega) (by omega)
      refine ⟨u, e1, fun x => ?_⟩
      rw [e2 x]
      show (if 5 * s + (i + 1) ≤ x ∧ x < 5 * s + 5 then (0 : Int64) else vp_updL (SS_untold ss) (5 * s + i) 0 x) = _
      by_cases e : x = 5 * s + i
      · subst e
        rw [if_neg (by omega), if_pos (by omega), pk_uLs]
      · by_cases q : 5 * s + i ≤ x ∧ x < 5 * s + 5
        · rw [if_pos (by omega), if_pos q]
        · rw [if_neg (by omega), if_neg q, pk_uLn e]
