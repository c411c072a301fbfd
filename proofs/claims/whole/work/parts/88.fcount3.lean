/-- a key whose spans have all fired -/
def clo (st sz N S : Nat) (b : Int64) (nx : Int32) : Prop := b.toInt = ((st * S : Nat) : Int) ∧ nx = nI S ∧ N < st * S + sz ∧ (S = 0 ∨ st * (S - 1) + sz ≤ N) ∧ S ≤ 1000000
theorem p_fireKeys (k : Nat) (hk : 5000 ≤ k) {L : List (Nat × Nat)} {sr : SRt} {rs : RSt} {la : LAt} {nu : NUt} {mo0 : MOt} (h0 : RR L rs mo0) {st sz : Nat} {N : Nat → Nat} (hst : 1 ≤ st ∧ st ≤ 65536) (hsz : 1 ≤ sz ∧ sz ≤ 65536) (hN : ∀ q : Nat, q < 8 → N q ≤ 1000000) (m1 : MO_step mo0 = nI st) (m2 : MO_size mo0 = nI sz) (m3 : ∀ q : Nat, q < 8 → MO_numbered mo0 q = nI (N q)) (l1 : LA_step la = (nI st).toInt64) (l2 : LA_size la = (nI sz).toInt64) (l3 : ∀ q : Nat, q < 8 → NU_numbered nu q = nI (N q)) (S0 : Nat → Nat) : ∀ (m n n' i a : Nat) (bb : Nat → Int64) (fs : FSt) (co : COt) (mo : MOt) (T : Nat),
    i + m = 8 → m < n → m < n' → moD mo = moD mo0 → moR mo = moR mo0 → moS mo = moS mo0 → FR fs mo T → T + 300 * m ≤ 4000000 →
    (∀ q : Nat, q < i → ∃ S, clo st sz (N q) S (bb q) (MO_nextSpan mo q)) → (∀ q : Nat, i ≤ q → q < 8 → (bb q).toInt = ((st * S0 q : Nat) : Int) ∧ MO_nextSpan mo q = nI (S0 q) ∧ N q + 1 ≤ st * S0 q + sz + 300 ∧ (S0 q = 0 ∨ st * (S0 q - 1) + sz ≤ N q) ∧ S0 q ≤ 1000000) →
    ∃ (e : Nat) (bb' : Nat → Int64) (fs' : FSt) (co' : COt) (mo' : MOt), f_SR_endCounted_L8 k sr la rs n (nI a) (nI i) (sNU_begins nu bb) fs co = some (nI (a + e), sNU_begins nu bb', fs', co') ∧ f_MO_countedMark_L122 k n' (nI a) (nI i) mo = some (nI (a + e), mo') ∧ moD mo' = moD mo0 ∧ moR mo' = moR mo0 ∧ moS mo' = moS mo0 ∧ FR fs' mo' (T + e) ∧ e ≤ 300 * m ∧ (∀ q : Nat, q < 8 → ∃ S, clo st sz (N q) S (bb' q) (MO_nextSpan mo' q)) := by
  intro m
  induction m with
  | zero =>
    intro n n' i a bb fs co mo T hi hn hn' h8 h9 h10 hF hT hdone hopen
    obtain ⟨n, rfl⟩ : ∃ m, n = m + 1 := ⟨n - 1, by omega⟩
    obtain ⟨n', rfl⟩ : ∃ m, n' = m + 1 := ⟨n' - 1, by omega⟩
    rw [f_SR_endCounted_L8, if_pos (show (8 : Int32) ≤ nI i from nI_le (a := 8) (by omega) (by omega)), f_MO_countedMark_L122, if_pos (show (8 : Int32) ≤ nI i from nI_le (a := 8) (by omega) (by omega))]
    exact ⟨0, bb, fs, co, mo, rfl, rfl, h8, h9, h10, hF, by omega, fun q hq => hdone q (by omega)⟩
  | succ m ih =>
    intro n n' i a bb fs co mo T hi hn hn' h8 h9 h10 hF hT hdone hopen
    obtain ⟨n, rfl⟩ : ∃ m, n = m + 1 := ⟨n - 1, by omega⟩
    obtain ⟨n', rfl⟩ : ∃ m, n' = m + 1 := ⟨n' - 1, by omega⟩
    have hi8 : i < 8 := by omega
    obtain ⟨o1, o2, o3, o4, o5⟩ := hopen i (Nat.le_refl _) hi8
    obtain ⟨d, hd⟩ : ∃ d : Nat, d = 300 := ⟨_, rfl⟩
    rw [← hd] at o3
    have l3i : NU_numbered (sNU_begins nu bb) i = nI (N i) := l3 i hi8
    obtain ⟨e, S', b', fs1, co1, mo1, r1, r2, r3, r4, r5, r6, r7, r8, r9, r10, r11, r12, r13⟩ := p_fireCL k hk (sr := sr) (nu := sNU_begins nu bb) h0 hi8 hst hsz (hN i hi8) m1 m2 (m3 i hi8) l1 l2 l3i d k k 0 a (S0 i) (bb i) fs co mo T o3 (by omega) (by omega) o1 o2 o4 o5 h8 h9 h10 hF (by omega)
    rw [nI_0, Nat.zero_add] at r1
    rw [f_SR_endCounted_L8, if_neg (show ¬ (8 : Int32) ≤ nI i from nI_ge (a := i) (b := 8) (by omega) (by omega)), f_MO_countedMark_L122, if_neg (show ¬ (8 : Int32) ≤ nI i from nI_ge (a := i) (b := 8) (by omega) (by omega)), r2, ob]
    unfold f_SR_fireCounted
    rw [if_neg (nI_in hi8 (by omega)), nI_clamp (show i < 2 ^ 31 by omega)]
    dsimp only [gl_let]
    have r1' : f_SR_fireCounted_L12 k (nI i) sr la rs (sNU_begins nu bb) k 0 (NU_begins (sNU_begins nu bb) i) fs co = some (nI e, b', fs1, co1) := r1
    rw [r1', ob, ob]
    dsimp only
    rw [nI_add, nI_1]
    obtain ⟨bb1, hbb1⟩ : ∃ bb1, bb1 = vp_updL bb i b' := ⟨_, rfl⟩
    have hst1 : sNU_begins (sNU_begins nu bb) (vp_updL (NU_begins (sNU_begins nu bb)) i b') = sNU_begins nu bb1 := by rw [hbb1]
    rw [hst1]
    obtain ⟨e2, bb', fs', co', mo', s1, s2, s3, s4, s5, s6, s7, s8⟩ := ih n n' (i + 1) (a + e) bb1 fs1 co1 mo1 (T + e) (by omega) (by omega) (by omega) r9 r10 r11 r12 (by omega)
      (by
        intro q hq
        rw [hbb1]
        by_cases z : q = i
        · subst z
          rw [pk_uLs]
          exact ⟨S', r3, r4, r6, r7, r8⟩
        · rw [pk_uLn z, r5 q z]
          exact hdone q (by omega))
      (by
        intro q h1 h2
        rw [hbb1, pk_uLn (by omega), r5 q (by omega)]
        exact hopen q (by omega) h2)
    refine ⟨e + e2, bb', fs', co', mo', ?_, ?_, s3, s4, s5, ?_, by omega, s8⟩
    · rw [s1, Nat.add_assoc]
    · rw [s2, Nat.add_assoc]
    · rw [← Nat.add_assoc]; exact s6
theorem p_dv {a b : Nat} (ha : a ≤ 1000000) (hb : 1 ≤ b ∧ b ≤ 65536) : nI a / nI b = nI (a / b) := pk_div (by omega) (by omega) (by omega)
/-- whether a numbered row is still wanted -/
theorem p_isWanted {mo : MOt} {st sz N S q x : Nat} (hq : q < 8) (hst : 1 ≤ st ∧ st ≤ 65536) (hsz : 1 ≤ sz ∧ sz ≤ 65536) (hN : N ≤ 1000000) (m1 : MO_step mo = nI st) (m2 : MO_size mo = nI sz) (hx : x < N) {b : Int64} (hc : clo st sz N S b (MO_nextSpan mo q)) : f_MO_isWanted (nI q) (nI x) mo = some (if st * (x / st) + sz ≤ N then 0 else 1) := by
  obtain ⟨-, c1, c2, c3, c4⟩ := hc
  have hi : x / st ≤ x := Nat.div_le_self x st
  have hdm : st * (x / st) ≤ x := Nat.mul_div_le x st
  have hdm2 : x < st * (x / st) + st := by
    have := Nat.div_add_mod x st
    have := Nat.mod_lt x (show 0 < st by omega)
    omega
  obtain ⟨u1, u2⟩ := nLmul hst.2 (show S ≤ 2000000 by omega)
  obtain ⟨v1, v2⟩ := nLmul hst.2 (show x / st ≤ 2000000 by omega)
  have v3 : ((nI (x / st)).toInt64 * (nI st).toInt64).toInt = ((st * (x / st) : Nat) : Int) := by rw [Int64.mul_comm, v1]
  have w1 : ((nI (x / st)).toInt64 * (nI st).toInt64 + (nI sz).toInt64).toInt = ((st * (x / st) : Nat) : Int) + sz := by rw [pl_add (by rw [nLt (by omega), v3]; omega) (by rw [nLt (by omega), v3]; omega), nLt (by omega), v3]
  have w2 : ((nI st).toInt64 * (nI (x / st)).toInt64 + (nI sz).toInt64).toInt = ((st * (x / st) : Nat) : Int) + sz := by rw [pl_add (by rw [nLt (by omega), v1]; omega) (by rw [nLt (by omega), v1]; omega), nLt (by omega), v1]
  unfold f_MO_isWanted
  rw [m1, m2, p_dv (by omega) hst, if_neg (fun z => by have := (nI_eq (b := 0) (by omega) (by omega)).mp z; omega)]
  dsimp only [gl_let]
  rw [if_neg (nI_in hq (by omega)), nI_clamp (show q < 2 ^ 31 by omega), c1]
  by_cases d1 : x / st < S
  · rw [if_pos (by rw [pl_lt, nLt (by omega), nLt (by omega)]; omega)]
    have e1 : st * (x / st + 1) ≤ st * S := Nat.mul_le_mul_left st (by omega)
    have e2 : st * (x / st + 1) = st * (x / st) + st := Nat.mul_succ _ _
    rw [if_pos (by rw [pl_lt, nLt (by omega), u1]; omega)]
    have e3 : st * (x / st) ≤ st * (S - 1) := Nat.mul_le_mul_left st (by omega)
    have e4 : st * (x / st) + sz ≤ N := by
      rcases c3 with c3 | c3
      · rw [c3] at d1; exact absurd d1 (Nat.not_lt_zero _)
      · omega
    rw [if_pos e4]
  · rw [if_neg (by rw [pl_lt, nLt (by omega), nLt (by omega)]; omega)]
    have e1 : st * S ≤ st * (x / st) := Nat.mul_le_mul_left st (by omega)
    have hnot : ¬ st * (x / st) + sz ≤ N := by omega
    rw [if_neg hnot, if_pos (by rw [pl_lt, nLt (by omega), w1]; omega)]
theorem p_isWaited {L : List (Nat × Nat)} {sr : SRt} {rs : RSt} {la : LAt} {nu : NUt} {mo : MOt} (h : RR L rs mo) {p : Nat × Nat} (hp : p ∈ L) {st sz N q x : Nat} (hq : q < 8) (hst : 1 ≤ st ∧ st ≤ 65536) (hsz : 1 ≤ sz ∧ sz ≤ 65536) (hN : N ≤ 1000000) (l1 : LA_step la = (nI st).toInt64) (l2 : LA_size la = (nI sz).toInt64) (l3 : NU_numbered nu q = nI N) (hkq : MO_rKey mo p.2 = nI q) (hnx : MO_rNumber mo p.2 = nI x) (hx : x < N) : f_SR_isWaitedFor (nI p.1) sr la rs nu = some (if st * (x / st) + sz ≤ N then 0 else 1) := by
  have hp1 := h.lt1 p hp
  obtain ⟨q1, q2, q3, q4⟩ := h.eqs p hp
  have hi : x / st ≤ x := Nat.div_le_self x st
  obtain ⟨v1, v2⟩ := nLmul hst.2 (show x / st ≤ 2000000 by omega)
  obtain ⟨r, e1, e2⟩ := p_by (nI x).toInt64 (nI st).toInt64 (by rw [nLt (by omega)]; omega)
  have hr : r = (nI (x / st)).toInt64 := by
    rw [pl_eq, e2, nLt (by omega), nLt (by omega), nLt (by omega)]
    rfl
  have w2 : ((nI st).toInt64 * (nI (x / st)).toInt64 + (nI sz).toInt64).toInt = ((st * (x / st) : Nat) : Int) + sz := by rw [pl_add (by rw [nLt (by omega), v1]; omega) (by rw [nLt (by omega), v1]; omega), nLt (by omega), v1]
  unfold f_SR_isWaitedFor
  rw [if_neg (nI_in hp1 (by omega)), nI_clamp (show p.1 < 2 ^ 31 by omega), q4, hnx, l1, e1, ob, hr]
  dsimp only [gl_let]
  rw [q1, hkq, if_neg (nI_in hq (by omega)), nI_clamp (show q < 2 ^ 31 by omega), l2, l3]
  by_cases d : st * (x / st) + sz ≤ N
  · rw [if_pos d, if_pos (by rw [pl_le, w2, nLt (by omega)]; omega)]
  · rw [if_neg d, if_neg (by rw [pl_le, w2, nLt (by omega)]; omega)]
/-- which rows go at a counted mark -/
def gcb (mo : MOt) (r : Nat) : Bool := !(MO_rNumber mo r == -1) && (f_MO_isWanted (MO_rKey mo r) (MO_rNumber mo r) mo == some 0)
theorem p_endL30 {L : List (Nat × Nat)} {sr : SRt} {rs : RSt} {la : LAt} {nu : NUt} {mo : MOt} (h : RR L rs mo) (hw : ∀ p ∈ L, MO_rNumber mo p.2 = -1 ∨ (¬ MO_rNumber mo p.2 = -1 ∧ ∀ V, f_SR_isWaitedFor (nI p.1) sr la (sRS_leaves rs V) nu = some (if gcb mo p.2 = true then 0 else 1))) : ∀ (L2 L1 : List (Nat × Nat)) (n : Nat) (V : Nat → Int32), L = L1 ++ L2 → L2.length < n →
    ∃ V' : Nat → Int32, f_SR_endCounted_L30 sr la nu n (nI L1.length) (sRS_leaves rs V) = some (sRS_leaves rs V') ∧ (∀ y : Nat, y ∉ L2.map Prod.fst → V' y = V y) ∧ (∀ p ∈ L2, V' p.1 = if gcb mo p.2 = true then 1 else 0) := by
  have hlen := h.len
  intro L2
  induction L2 with
  | nil =>
    intro L1 n V ep hn
    obtain ⟨m, rfl⟩ : ∃ m, n = m + 1 := ⟨n - 1, by omega⟩
    have hkk : RS_kept (sRS_leaves rs V) = nI L.length := h.kept
    rw [f_SR_endCounted_L30, hkk, ep, List.append_nil, if_pos (nI_le (Nat.le_refl _) (by rw [ep] at hlen; simp at hlen; omega))]
    exact ⟨V, rfl, fun y _ => rfl, fun p hp => absurd hp (by simp)⟩
  | cons p L2 ih =>
    intro L1 n V ep hn
    obtain ⟨m, rfl⟩ : ∃ m, n = m + 1 := ⟨n - 1, by omega⟩
    have hpm : p ∈ L := by rw [ep]; simp
    have hp := h.lt1 p hpm
    have hl : L1.length + (L2.length + 1) ≤ 300 := by rw [ep] at hlen; simpa using hlen
    have hkk : RS_kept (sRS_leaves rs V) = nI L.length := h.kept
    have hor : RS_order (sRS_leaves rs V) L1.length = nI p.1 := by
      have h' := h
      rw [ep] at h'
      exact h'.at
    have hnd : p.1 ∉ L2.map Prod.fst := by
      have := h.nd1
      rw [ep, List.map_append, List.map_cons] at this
      exact (List.nodup_cons.mp (List.nodup_append.mp this).2.1).1
    obtain ⟨q1, q2, q3, q4⟩ := h.eqs p hpm
    rw [f_SR_endCounted_L30, hkk, if_neg (nI_ge (by rw [ep]; simp) (by omega)), if_neg (nI_in (show L1.length < 300 by omega) (by omega)), nI_clamp (show L1.length < 2 ^ 31 by omega)]
    dsimp only [gl_let]
    rw [hor]
    unfold f_SR_isNumbered
    rw [if_neg (nI_in hp (by omega)), if_neg (nI_in hp (by omega)), if_neg (nI_in hp (by omega)), nI_clamp (show p.1 < 2 ^ 31 by omega), nI_1]
    have step : ∀ v : Int32, v = (if gcb mo p.2 = true then 1 else 0) → ∃ V' : Nat → Int32, f_SR_endCounted_L30 sr la nu m (nI (L1.length + 1)) (sRS_leaves (sRS_leaves rs V) (upd (RS_leaves (sRS_leaves rs V)) p.1 v)) = some (sRS_leaves rs V') ∧ (∀ y : Nat, y ∉ (p :: L2).map Prod.fst → V' y = V y) ∧ (∀ q ∈ p :: L2, V' q.1 = if gcb mo q.2 = true then 1 else 0) := by
      intro v hv
      obtain ⟨V1, hV1⟩ : ∃ V1, V1 = upd V p.1 v := ⟨_, rfl⟩
      obtain ⟨V', e1, e2, e3⟩ := ih (L1 ++ [p]) m V1 (by rw [ep]; simp) (by simp at hn; omega)
      rw [List.length_append, List.length_singleton] at e1
      refine ⟨V', ?_, fun y hy => ?_, fun q hq => ?_⟩
      · rw [← e1, hV1]
      · rw [List.map_cons, List.mem_cons] at hy
        rw [e2 y (fun z => hy (Or.inr z)), hV1, pk_un (fun z => hy (Or.inl z))]
      · rcases List.mem_cons.mp hq with rfl | hq
        · rw [e2 q.1 hnd, hV1, pk_us, hv]
        · exact e3 q hq
    have hnum : RS_numbers (sRS_leaves rs V) p.1 = MO_rNumber mo p.2 := q4
    rw [hnum]
    rcases hw p hpm with z | ⟨z, z2⟩
    · rw [if_pos z, ob, if_pos rfl]
      refine step 0 ?_
      have : gcb mo p.2 = false := by unfold gcb; rw [z]; rfl
      rw [this, if_neg (by decide)]
    · rw [if_neg z, ob, if_neg (by decide), z2 V, ob]
      by_cases y : gcb mo p.2 = true
      · rw [if_pos y, if_pos rfl]
        exact step 1 (by rw [if_pos y])
      · rw [if_neg y, if_neg (by decide)]
        exact step 0 (by rw [if_neg y])
theorem p_cmL287 {L : List (Nat × Nat)} {rs : RSt} {mo : MOt} (h : RR L rs mo) (hw : ∀ p ∈ L, ¬ MO_rNumber mo p.2 = -1 → ∃ v, f_MO_isWanted (MO_rKey mo p.2) (MO_rNumber mo p.2) mo = some v) : ∀ (m n i : Nat) (K : Nat → Int32), i + m = 300 → m < n → (∀ s : Nat, i ≤ s → K s = MO_rKey mo s) →
    ∃ K' : Nat → Int32, f_MO_countedMark_L287 n (nI i) (sMO_rows (sMO_rKey mo K) (nI (L.filter (stb (gcb mo) i)).length)) = some (sMO_rows (sMO_rKey mo K') (nI (L.filter (stb (gcb mo) 300)).length)) ∧ (∀ s : Nat, K' s = if i ≤ s ∧ s < 300 ∧ s ∈ L.map Prod.snd ∧ gcb mo s = true then -1 else K s) := by
  intro m
  induction m with
  | zero =>
    intro n i K hi hn hK
    obtain ⟨n, rfl⟩ : ∃ m, n = m + 1 := ⟨n - 1, by omega⟩
    have hi2 : i = 300 := by omega
    subst hi2
    rw [f_MO_countedMark_L287, if_pos (by decide)]
    exact ⟨K, rfl, fun s => by rw [if_neg (by omega)]⟩
  | succ m ih =>
    intro n i K hi hn hK
    obtain ⟨n, rfl⟩ : ∃ m, n = m + 1 := ⟨n - 1, by omega⟩
    have hKi : MO_rKey (sMO_rows (sMO_rKey mo K) (nI (L.filter (stb (gcb mo) i)).length)) i = MO_rKey mo i := hK i (Nat.le_refl _)
    have hwi : f_MO_isWanted (MO_rKey mo i) (MO_rNumber mo i) (sMO_rows (sMO_rKey mo K) (nI (L.filter (stb (gcb mo) i)).length)) = f_MO_isWanted (MO_rKey mo i) (MO_rNumber mo i) mo := rfl
    rw [f_MO_countedMark_L287, if_neg (show ¬ (300 : Int32) ≤ nI i from nI_ge (a := i) (b := 300) (by omega) (by omega)), if_neg (nI_in (show i < 300 by omega) (by omega)), nI_clamp (by omega), hKi]
    dsimp only [gl_let]
    rw [nI_1, hwi]
    have no : (i ∉ L.map Prod.snd ∨ gcb mo i = false) → ∃ K' : Nat → Int32, f_MO_countedMark_L287 n (nI (i + 1)) (sMO_rows (sMO_rKey mo K) (nI (L.filter (stb (gcb mo) i)).length)) = some (sMO_rows (sMO_rKey mo K') (nI (L.filter (stb (gcb mo) 300)).length)) ∧ (∀ s : Nat, K' s = if i ≤ s ∧ s < 300 ∧ s ∈ L.map Prod.snd ∧ gcb mo s = true then -1 else K s) := by
      intro z
      obtain ⟨K', e1, e2⟩ := ih n (i + 1) K (by omega) (by omega) (fun s hs => hK s (by omega))
      rw [stb_no z] at e1
      refine ⟨K', e1, fun s => ?_⟩
      rw [e2 s]
      by_cases e : s = i
      · subst e
        rw [if_neg (by omega), if_neg (fun y => z.elim (fun w => w y.2.2.1) (fun w => by rw [w] at y; exact absurd y.2.2.2 (by decide)))]
      · by_cases y : i + 1 ≤ s ∧ s < 300 ∧ s ∈ L.map Prod.snd ∧ gcb mo s = true
        · rw [if_pos y, if_pos ⟨by omega, y.2⟩]
        · rw [if_neg y, if_neg (fun x => y ⟨by omega, x.2⟩)]
    by_cases h1 : MO_rKey mo i = -1
    · rw [if_pos h1]
      refine no (Or.inl ?_)
      intro z
      obtain ⟨p, hp, e⟩ := List.mem_map.mp z
      obtain ⟨q, hq, e2⟩ := h.keyr p hp
      rw [e, h1] at e2
      exact nI_m1 (by omega) e2.symm
    · rw [if_neg h1]
      have hin : i ∈ L.map Prod.snd := (h.free i (by omega)).resolve_left h1
      by_cases h2 : MO_rNumber mo i = -1
      · rw [if_pos (show MO_rNumber (sMO_rows (sMO_rKey mo K) (nI (L.filter (stb (gcb mo) i)).length)) i = -1 from h2)]
        refine no (Or.inr ?_)
        unfold gcb
        rw [h2]; rfl
      · rw [if_neg (show ¬ MO_rNumber (sMO_rows (sMO_rKey mo K) (nI (L.filter (stb (gcb mo) i)).length)) i = -1 from h2)]
        obtain ⟨p, hp, ep⟩ := List.mem_map.mp hin
        obtain ⟨v, hv⟩ := hw p hp (by rw [ep]; exact h2)
        rw [ep] at hv
        rw [hv, ob]
        have hgv : gcb mo i = (some v == some (0 : Int32)) := by
          unfold gcb
          rw [hv]
          have : (MO_rNumber mo i == -1) = false := by simpa using h2
          rw [this]
          rfl
        by_cases h3 : v = 0
        · rw [if_pos h3]
          have hg : gcb mo i = true := by rw [hgv, h3]; rfl
          have hone := stb_one h.nd hin hg
          obtain ⟨K1, hK1⟩ : ∃ K1, K1 = upd K i (-1) := ⟨_, rfl⟩
          obtain ⟨K', e1, e2⟩ := ih n (i + 1) K1 (by omega) (by omega) (fun s hs => by rw [hK1, pk_un (by omega)]; exact hK s (by omega))
          refine ⟨K', ?_, fun s => ?_⟩
          · rw [← e1, ← hone]
            show f_MO_countedMark_L287 n (nI (i + 1)) (sMO_rows (sMO_rKey mo (upd K i (-1))) (nI ((L.filter (stb (gcb mo) (i + 1))).length + 1) - 1)) = _
            rw [nI_s1.1, hK1]
          · rw [e2 s, hK1]
            by_cases e : s = i
            · subst e
              rw [if_neg (by omega), if_pos ⟨Nat.le_refl _, by omega, hin, hg⟩, pk_us]
            · rw [pk_un e]
              by_cases z : i + 1 ≤ s ∧ s < 300 ∧ s ∈ L.map Prod.snd ∧ gcb mo s = true
              · rw [if_pos z, if_pos ⟨by omega, z.2⟩]
              · rw [if_neg z, if_neg (fun y => z ⟨by omega, y.2⟩)]
        · rw [if_neg h3]
          refine no (Or.inr ?_)
          rw [hgv]
          simpa using h3
