/-! PURE PART G: orders, bits, contents -/
def OA (f : Nat → Int32) (O : List Nat) : Prop := ∀ i c : Nat, O[i]? = some c → f i = nI c
theorem oa_get {f : Nat → Int32} {X Y : List Nat} {y : Nat} (h : OA f (X ++ y :: Y)) : f X.length = nI y := h _ _ (by simp)
theorem oa_set {f : Nat → Int32} {X Y : List Nat} {y : Nat} (h : OA f (X ++ y :: Y)) (z : Nat) : OA (upd f X.length (nI z)) (X ++ z :: Y) := by
  intro i c hc
  by_cases e : i = X.length
  · subst e
    rw [pk_us]
    simp at hc
    rw [hc]
  · rw [pk_un e]
    apply h
    rw [List.getElem?_append] at hc ⊢
    by_cases q : i < X.length
    · rw [if_pos q] at hc ⊢
      exact hc
    · rw [if_neg q] at hc ⊢
      obtain ⟨j, hj⟩ : ∃ j, i - X.length = j + 1 := ⟨i - X.length - 1, by omega⟩
      rw [hj] at hc ⊢
      exact hc
/-- the bit c of the set s -/
def bt (f : Nat → Int64) (s c : Nat) : Bool := (f (5 * s + c / 64)).toBitVec.getLsbD (c % 64)
theorem bt_sh : ∀ j : Fin 64, ((1 : Int64) <<< ((nI j.val).toInt64 &&& 63)).toBitVec = BitVec.twoPow 64 j.val := by decide +kernel
theorem bt_and (x : Int64) {j : Nat} (hj : j < 64) : (x &&& ((1 : Int64) <<< ((nI j).toInt64 &&& 63)) = 0) ↔ x.toBitVec.getLsbD j = false := by
  have h := bt_sh ⟨j, hj⟩
  dsimp only at h
  rw [← Int64.toBitVec_inj, Int64.toBitVec_and, h, BitVec.and_twoPow]
  constructor
  · intro q
    cases hb : x.toBitVec.getLsbD j with
    | false => rfl
    | true =>
      rw [hb, if_pos rfl] at q
      have := congrArg (fun z => BitVec.getLsbD z j) q
      simp [hj] at this
  · intro q
    rw [q]
    rfl
theorem bt_or (x : Int64) {j : Nat} (hj : j < 64) (i : Nat) : (x ||| ((1 : Int64) <<< ((nI j).toInt64 &&& 63))).toBitVec.getLsbD i = (x.toBitVec.getLsbD i || decide (i = j)) := by
  have h := bt_sh ⟨j, hj⟩
  dsimp only at h
  rw [Int64.toBitVec_or, h, BitVec.getLsbD_or, BitVec.getLsbD_twoPow]
  by_cases e : i = j
  · subst e; simp [hj]
  · simp [e, Ne.symm e]
theorem bt_or2 (x y : Int64) (i : Nat) : (x ||| y).toBitVec.getLsbD i = (x.toBitVec.getLsbD i || y.toBitVec.getLsbD i) := by
  rw [Int64.toBitVec_or, BitVec.getLsbD_or]
theorem bt_ix {s c : Nat} (hs : s < 200) (hc : c < 300) : nI s * 5 + nI c / 64 = nI (5 * s + c / 64) ∧ nI c - nI c / 64 * 64 = nI (c % 64) ∧ 5 * s + c / 64 < 1000 := by
  have h5 : (5 : Int32) = nI 5 := rfl
  have h64 : (64 : Int32) = nI 64 := rfl
  refine ⟨?_, ?_, by omega⟩
  · rw [h5, h64, pk_mul, pk_div (by omega) (by omega) (by omega), nI_add, Nat.mul_comm]
  · rw [h64, pk_rem (by omega) (by omega) (by omega)]
theorem p_isIn {f : Nat → Int64} {N s c : Nat} (hs : s < 200) (hc : c < 300) (hN : 5 * s + c / 64 < N) (hN2 : N < 2 ^ 31) : f_SS_isIn (nI s) (nI c) N f = some (if bt f s c = true then 1 else 0) := by
  obtain ⟨h1, h2, h3⟩ := bt_ix hs hc
  unfold f_SS_isIn
  rw [h1, h2, if_neg (nI_in hN hN2), nI_clamp (by omega)]
  by_cases q : bt f s c = true
  · rw [if_pos q, if_neg (fun z => by rw [bt_and _ (Nat.mod_lt _ (by omega))] at z; unfold bt at q; rw [z] at q; exact absurd q (by decide))]
  · rw [if_neg q, if_pos ((bt_and _ (Nat.mod_lt _ (by omega))).mpr (by unfold bt at q; simpa using q))]
/-- the rows, class and reference -/
abbrev bfr (tm : Nat → Int64) (cm : Nat → Int32) (a b : Nat) : Prop := tm a < tm b ∨ tm a = tm b ∧ cm a < cm b
def RR (L : List (Nat × Nat)) (rs : RSt) (mo : MOt) : Prop :=
  RS_kept rs = nI L.length ∧
  MO_rows mo = nI L.length ∧
  (∃ F, OA (RS_order rs) (L.map Prod.fst ++ F) ∧ (L.map Prod.fst ++ F).Perm (List.range 300)) ∧
  (∀ p ∈ L, RS_keys rs p.1 = MO_rKey mo p.2 ∧ RS_times rs p.1 = MO_rTime mo p.2 ∧ RS_values rs p.1 = MO_rValue mo p.2 ∧ RS_numbers rs p.1 = MO_rNumber mo p.2) ∧
  (∀ p ∈ L, ∃ q : Nat, q < 8 ∧ MO_rKey mo p.2 = nI q) ∧
  (∀ p ∈ L, p.2 < 300) ∧
  (L.map Prod.snd).Nodup ∧
  (∀ r : Nat, r < 300 → MO_rKey mo r = -1 ∨ r ∈ L.map Prod.snd) ∧
  L.Pairwise (fun p q => bfr (MO_rTime mo) (MO_rCame mo) p.2 q.2) ∧
  (∀ p ∈ L, MO_rCame mo p.2 < MO_came mo)
theorem RR.kept {L : List (Nat × Nat)} {rs : RSt} {mo : MOt} (h : RR L rs mo) : RS_kept rs = nI L.length := h.1
theorem RR.rows {L : List (Nat × Nat)} {rs : RSt} {mo : MOt} (h : RR L rs mo) : MO_rows mo = nI L.length := h.2.1
theorem RR.ord {L : List (Nat × Nat)} {rs : RSt} {mo : MOt} (h : RR L rs mo) : ∃ F, OA (RS_order rs) (L.map Prod.fst ++ F) ∧ (L.map Prod.fst ++ F).Perm (List.range 300) := h.2.2.1
theorem RR.eqs {L : List (Nat × Nat)} {rs : RSt} {mo : MOt} (h : RR L rs mo) : ∀ p ∈ L, RS_keys rs p.1 = MO_rKey mo p.2 ∧ RS_times rs p.1 = MO_rTime mo p.2 ∧ RS_values rs p.1 = MO_rValue mo p.2 ∧ RS_numbers rs p.1 = MO_rNumber mo p.2 := h.2.2.2.1
theorem RR.keyr {L : List (Nat × Nat)} {rs : RSt} {mo : MOt} (h : RR L rs mo) : ∀ p ∈ L, ∃ q : Nat, q < 8 ∧ MO_rKey mo p.2 = nI q := h.2.2.2.2.1
theorem RR.lt {L : List (Nat × Nat)} {rs : RSt} {mo : MOt} (h : RR L rs mo) : ∀ p ∈ L, p.2 < 300 := h.2.2.2.2.2.1
theorem RR.nd {L : List (Nat × Nat)} {rs : RSt} {mo : MOt} (h : RR L rs mo) : (L.map Prod.snd).Nodup := h.2.2.2.2.2.2.1
theorem RR.free {L : List (Nat × Nat)} {rs : RSt} {mo : MOt} (h : RR L rs mo) : ∀ r : Nat, r < 300 → MO_rKey mo r = -1 ∨ r ∈ L.map Prod.snd := h.2.2.2.2.2.2.2.1
theorem RR.srt {L : List (Nat × Nat)} {rs : RSt} {mo : MOt} (h : RR L rs mo) : L.Pairwise (fun p q => bfr (MO_rTime mo) (MO_rCame mo) p.2 q.2) := h.2.2.2.2.2.2.2.2.1
theorem RR.cam {L : List (Nat × Nat)} {rs : RSt} {mo : MOt} (h : RR L rs mo) : ∀ p ∈ L, MO_rCame mo p.2 < MO_came mo := h.2.2.2.2.2.2.2.2.2
theorem RR.lt1 {L : List (Nat × Nat)} {rs : RSt} {mo : MOt} (h : RR L rs mo) : ∀ p ∈ L, p.1 < 300 := by
  obtain ⟨F, _, h2⟩ := h.ord
  intro p hp
  have := (h2.mem_iff (a := p.1)).mp (List.mem_append_left _ (List.mem_map_of_mem hp))
  exact List.mem_range.mp this
theorem RR.len {L : List (Nat × Nat)} {rs : RSt} {mo : MOt} (h : RR L rs mo) : L.length ≤ 300 := by
  obtain ⟨F, _, h2⟩ := h.ord
  have := h2.length_eq
  simp at this
  omega
theorem RR.nd1 {L : List (Nat × Nat)} {rs : RSt} {mo : MOt} (h : RR L rs mo) : (L.map Prod.fst).Nodup := by
  obtain ⟨F, _, h2⟩ := h.ord
  exact (List.nodup_append.mp (h2.nodup_iff.mpr List.nodup_range)).1
/-- the class's order at a place -/
theorem RR.at {L1 L2 : List (Nat × Nat)} {p : Nat × Nat} {rs : RSt} {mo : MOt} (h : RR (L1 ++ p :: L2) rs mo) : RS_order rs L1.length = nI p.1 := by
  obtain ⟨F, h1, _⟩ := h.ord
  rw [List.map_append, List.map_cons, List.append_assoc, List.cons_append] at h1
  have := oa_get h1
  rwa [List.length_map] at this
/-- the CONTENTS of rows, in their order -/
def cof (vals : Nat → Int64) (Q : List (Nat × Nat)) (co : COt) : COt := Q.foldl (fun c p => f_CO_add (vals p.1) c) co
theorem p_gatherL {L : List (Nat × Nat)} {rs : RSt} {mo : MOt} (h : RR L rs mo) (f : Nat → Int64) {s N : Nat} (hs : s < 200) (hN : 5 * s + 5 ≤ N) (hN2 : N < 2 ^ 31) : ∀ (L2 L1 : List (Nat × Nat)) (n : Nat) (co : COt), L = L1 ++ L2 → L2.length < n →
    f_SR_gather_L9 (nI s) rs f N n (nI L1.length) co = some (cof (RS_values rs) (L2.filter (fun p => bt f s p.1)) co) := by
  have hlen := h.len
  intro L2
  induction L2 with
  | nil =>
    intro L1 n co e hn
    obtain ⟨m, rfl⟩ : ∃ m, n = m + 1 := ⟨n - 1, by omega⟩
    rw [f_SR_gather_L9, h.kept, e, List.append_nil, if_pos (nI_le (Nat.le_refl _) (by rw [e] at hlen; simp at hlen; omega))]
    rfl
  | cons p L2 ih =>
    intro L1 n co e hn
    obtain ⟨m, rfl⟩ : ∃ m, n = m + 1 := ⟨n - 1, by omega⟩
    subst e
    have hp := h.lt1 p (by simp)
    have hl : L1.length + (L2.length + 1) ≤ 300 := by simpa using hlen
    rw [f_SR_gather_L9, h.kept, if_neg (nI_ge (by simp) (by simp; omega)), if_neg (nI_in (by omega) (by omega)), nI_clamp (by omega)]
    dsimp only [gl_let]
    rw [h.at, p_isIn hs hp (by omega) hN2]
    dsimp only [Option.bind]
    have hi := ih (L1 ++ [p]) m
    rw [List.length_append, List.length_singleton] at hi
    by_cases q : bt f s p.1 = true
    · rw [if_pos q, if_neg (by decide), if_neg (nI_in hp (by omega)), nI_clamp (by omega), nI_1, hi _ (by simp) (by simp at hn; omega), List.filter_cons_of_pos (p := fun p : Nat × Nat => bt f s p.1) (a := p) q]
      rfl
    · rw [if_neg q, if_pos rfl, nI_1, hi _ (by simp) (by simp at hn; omega), List.filter_cons_of_neg (p := fun p : Nat × Nat => bt f s p.1) (a := p) q]
theorem p_gather {L : List (Nat × Nat)} {rs : RSt} {mo : MOt} (h : RR L rs mo) (k : Nat) (hk : 5000 ≤ k) (f : Nat → Int64) {s N : Nat} (hs : s < 200) (hN : 5 * s + 5 ≤ N) (hN2 : N < 2 ^ 31) (sr : SRt) (co : COt) :
    f_SR_gather k (nI s) sr rs co N f = some (cof (RS_values rs) (L.filter (fun p => bt f s p.1)) (f_CO_clear co)) := by
  have hlen := h.len
  unfold f_SR_gather
  dsimp only [gl_let]
  have := p_gatherL h f hs hN hN2 L [] k (f_CO_clear co) rfl (by omega)
  rw [List.length_nil, nI_0] at this
  rw [this]
  rfl
