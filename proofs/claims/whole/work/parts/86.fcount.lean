def moD (mo : MOt) := ((MO_kind mo, MO_size mo, MO_step mo, MO_offset mo, MO_lateness mo, MO_every mo), (MO_fires mo, MO_clears mo, MO_rule mo, MO_forbidden mo, MO_bad mo, MO_now mo), (MO_late mo, MO_numbered mo, MO_thrown mo), (MO_wanted mo, MO_wBegin mo, MO_wEnd mo, MO_came mo))
def moS (mo : MOt) := (MO_sKey mo, MO_sBegin mo, MO_sEnd mo, MO_sFired mo, MO_sPut mo, MO_sEnded mo, MO_has mo, MO_toldOf mo, MO_spans mo)
def inC (mo : MOt) (q : Nat) (b : Int64) (p : Nat × Nat) : Bool := (MO_rKey mo p.2 == nI q) && decide (b.toInt ≤ (MO_rNumber mo p.2).toInt ∧ (MO_rNumber mo p.2).toInt < b.toInt + (MO_size mo).toInt)
theorem inC_iff {mo : MOt} {q : Nat} {b : Int64} {p : Nat × Nat} : inC mo q b p = true ↔ MO_rKey mo p.2 = nI q ∧ b.toInt ≤ (MO_rNumber mo p.2).toInt ∧ (MO_rNumber mo p.2).toInt < b.toInt + (MO_size mo).toInt := by
  unfold inC
  rw [Bool.and_eq_true, beq_iff_eq, decide_eq_true_eq]
theorem p_gathCL {L : List (Nat × Nat)} {rs : RSt} {la : LAt} {mo : MOt} (h : RR L rs mo) {q : Nat} (hq : q < 8) (b : Int64) (hb : 0 ≤ b.toInt ∧ b.toInt ≤ 1000000000000) (hsz : LA_size la = (MO_size mo).toInt64) (hs : 1 ≤ (MO_size mo).toInt ∧ (MO_size mo).toInt ≤ 65536) : ∀ (L2 L1 : List (Nat × Nat)) (n : Nat) (co : COt), L = L1 ++ L2 → L2.length < n →
    f_SR_gatherCounted_L10 (nI q) b la rs n (nI L1.length) co = some (cof (RS_values rs) (L2.filter (inC mo q b)) co) := by
  have hlen := h.len
  intro L2
  induction L2 with
  | nil =>
    intro L1 n co e hn
    obtain ⟨m, rfl⟩ : ∃ m, n = m + 1 := ⟨n - 1, by omega⟩
    rw [f_SR_gatherCounted_L10, h.kept, e, List.append_nil, if_pos (nI_le (Nat.le_refl _) (by rw [e] at hlen; simp at hlen; omega))]
    rfl
  | cons p L2 ih =>
    intro L1 n co e hn
    obtain ⟨m, rfl⟩ : ∃ m, n = m + 1 := ⟨n - 1, by omega⟩
    subst e
    have hp := h.lt1 p (by simp)
    have hl : L1.length + (L2.length + 1) ≤ 300 := by simpa using hlen
    obtain ⟨q1, q2, q3, q4⟩ := h.eqs p (by simp)
    rw [f_SR_gatherCounted_L10, h.kept, if_neg (nI_ge (by simp) (by simp; omega)), if_neg (nI_in (show L1.length < 300 by omega) (by omega)), nI_clamp (by omega)]
    dsimp only [gl_let]
    rw [h.at, if_neg (nI_in hp (by omega)), nI_clamp (by omega), q1, q4, nI_1]
    have hi := ih (L1 ++ [p]) m
    rw [List.length_append, List.length_singleton] at hi
    have hsi := pi_rng (MO_rNumber mo p.2)
    have hw : f_SR_isWithin (MO_rNumber mo p.2).toInt64 b (b + LA_size la - 1) = 0 ↔ ¬ (b.toInt ≤ (MO_rNumber mo p.2).toInt ∧ (MO_rNumber mo p.2).toInt < b.toInt + (MO_size mo).toInt) := by
      have e1 : (b + LA_size la).toInt = b.toInt + (MO_size mo).toInt := by rw [hsz, pl_add (by rw [pi_l]; omega) (by rw [pi_l]; omega), pi_l]
      have e2 : (b + LA_size la - 1).toInt = b.toInt + (MO_size mo).toInt - 1 := by
        rw [pl_sub (by rw [e1, show (1 : Int64).toInt = 1 from rfl]; omega) (by rw [e1, show (1 : Int64).toInt = 1 from rfl]; omega), e1]
        rfl
      rw [p_w0, e2, pi_l]
      omega
    by_cases c1 : MO_rKey mo p.2 = nI q
    · rw [if_pos c1]
      by_cases c2 : b.toInt ≤ (MO_rNumber mo p.2).toInt ∧ (MO_rNumber mo p.2).toInt < b.toInt + (MO_size mo).toInt
      · rw [if_neg (fun z => hw.mp z c2), hi _ (by simp) (by simp at hn; omega), List.filter_cons_of_pos (inC_iff.mpr ⟨c1, c2⟩)]
        rfl
      · rw [if_pos (hw.mpr c2), hi _ (by simp) (by simp at hn; omega), List.filter_cons_of_neg (fun z => c2 (inC_iff.mp z).2)]
    · rw [if_neg c1, hi _ (by simp) (by simp at hn; omega), List.filter_cons_of_neg (fun z => c1 (inC_iff.mp z).1)]
theorem p_cmL175 {q : Nat} (b : Int64) (hb : 0 ≤ b.toInt ∧ b.toInt ≤ 1000000000000) : ∀ (n i : Nat) (mo : MOt), (1 ≤ (MO_size mo).toInt ∧ (MO_size mo).toInt ≤ 65536) → i ≤ 300 → 300 - i < n → ∃ J : Nat → Int32, f_MO_countedMark_L175 (nI q) b n (nI i) mo = some (sMO_isIn mo J) ∧ (∀ r : Nat, i ≤ r → r < 300 → (¬ J r = 0 ↔ MO_rKey mo r = nI q ∧ b.toInt ≤ (MO_rNumber mo r).toInt ∧ (MO_rNumber mo r).toInt < b.toInt + (MO_size mo).toInt)) ∧ (∀ r : Nat, r < i → J r = MO_isIn mo r) := by
  intro n
  induction n with
  | zero => intro i mo _ _ h; omega
  | succ n ih =>
    intro i mo hs hi hn
    rw [f_MO_countedMark_L175]
    by_cases hc : i = 300
    · subst hc
      rw [if_pos (by decide)]
      exact ⟨MO_isIn mo, rfl, fun r h1 h2 => by omega, fun r _ => rfl⟩
    · rw [if_neg (show ¬ (300 : Int32) ≤ nI i from nI_ge (a := i) (b := 300) (by omega) (by omega)), if_neg (nI_in (show i < 300 by omega) (by omega)), nI_clamp (by omega)]
      dsimp only [gl_let]
      rw [nI_1]
      have hsi := pi_rng (MO_rNumber mo i)
      have e1 : (b + (MO_size mo).toInt64).toInt = b.toInt + (MO_size mo).toInt := by rw [pl_add (by rw [pi_l]; omega) (by rw [pi_l]; omega), pi_l]
      have step : ∀ v : Int32, (¬ v = 0 ↔ MO_rKey mo i = nI q ∧ b.toInt ≤ (MO_rNumber mo i).toInt ∧ (MO_rNumber mo i).toInt < b.toInt + (MO_size mo).toInt) → ∃ J : Nat → Int32, f_MO_countedMark_L175 (nI q) b n (nI (i + 1)) (sMO_isIn mo (upd (MO_isIn mo) i v)) = some (sMO_isIn mo J) ∧ (∀ r : Nat, i ≤ r → r < 300 → (¬ J r = 0 ↔ MO_rKey mo r = nI q ∧ b.toInt ≤ (MO_rNumber mo r).toInt ∧ (MO_rNumber mo r).toInt < b.toInt + (MO_size mo).toInt)) ∧ (∀ r : Nat, r < i → J r = MO_isIn mo r) := by
        intro v hv
        obtain ⟨J, r1, r2, r3⟩ := ih (i + 1) (sMO_isIn mo (upd (MO_isIn mo) i v)) hs (by omega) (by omega)
        refine ⟨J, r1, ?_, ?_⟩
        · intro r h1 h2
          by_cases e : r = i
          · subst e
            have : J r = v := by rw [r3 r (by omega)]; exact pk_us
            rw [this]
            exact hv
          · exact r2 r (by omega) h2
        · intro r hr
          rw [r3 r (by omega)]
          exact pk_un (by omega)
      by_cases c1 : MO_rKey mo i = nI q
      · rw [if_pos c1]
        by_cases c2 : (MO_rNumber mo i).toInt64 < b
        · rw [if_pos c2]
          rw [pl_lt, pi_l] at c2
          exact step 0 ⟨fun z => absurd rfl z, fun z => by omega⟩
        · rw [if_neg c2]
          rw [pl_lt, pi_l] at c2
          by_cases c3 : b + (MO_size mo).toInt64 ≤ (MO_rNumber mo i).toInt64
          · rw [if_pos c3]
            rw [pl_le, pi_l, e1] at c3
            exact step 0 ⟨fun z => absurd rfl z, fun z => by omega⟩
          · rw [if_neg c3]
            rw [pl_le, pi_l, e1] at c3
            exact step 1 ⟨fun _ => ⟨c1, by omega, by omega⟩, fun _ => by decide⟩
      · rw [if_neg c1]
        exact step 0 ⟨fun z => absurd rfl z, fun z => absurd z.1 c1⟩
/-- one counted span fires -/
theorem p_fireC1 (k : Nat) (hk : 5000 ≤ k) {L : List (Nat × Nat)} {sr : SRt} {rs : RSt} {la : LAt} {fs : FSt} (co : COt) {mo : MOt} {T : Nat} (h : RR L rs mo) {q : Nat} (hq : q < 8) (b : Int64) (hb : 0 ≤ b.toInt ∧ b.toInt ≤ 1000000000000) (hsz : LA_size la = (MO_size mo).toInt64) (hs : 1 ≤ (MO_size mo).toInt ∧ (MO_size mo).toInt ≤ 65536) (hF : FR fs mo T) (hT : T + 1 ≤ 4000000) :
    ∃ (co' : COt) (fs' : FSt) (mo1 mo2 mo3 : MOt), f_SR_gatherCounted k (nI q) b sr la rs co = some co' ∧ f_FS_add k (nI q) b (b + LA_size la) 1 1 fs co' = some fs' ∧ f_MO_countedMark_L175 (nI q) b k 0 mo = some mo1 ∧ f_MO_contents k mo1 = some mo2 ∧ f_MO_tell k (nI q) b (b + (MO_size mo2).toInt64) 1 1 mo2 = some mo3 ∧ FR fs' mo3 (T + 1) ∧ moC mo3 = moC mo ∧ moR mo3 = moR mo ∧ moS mo3 = moS mo := by
  have hL := h.len
  obtain ⟨J, j1, j2, -⟩ := p_cmL175 (q := q) b hb k 0 mo hs (by omega) (by omega)
  rw [nI_0] at j1
  obtain ⟨g, j, g1, g2⟩ := p_contents k hk (RS_values rs) (L.filter (inC mo q b)) (sMO_isIn mo J) co
    (Nat.le_trans (List.length_filter_le _ _) hL) (h.srt.filter _)
    (by
      intro r hr
      show ¬ J r = 0 ↔ _
      rw [j2 r (by omega) hr, List.mem_map]
      constructor
      · rintro ⟨z1, z2, z3⟩
        obtain ⟨p, hp, e⟩ := List.mem_map.mp ((h.free r hr).resolve_left (fun y => nI_m1 (show q < 2 ^ 31 by omega) (z1.symm.trans y)))
        exact ⟨p, List.mem_filter.mpr ⟨hp, inC_iff.mpr (by rw [e]; exact ⟨z1, z2, z3⟩)⟩, e⟩
      · rintro ⟨p, hp, e⟩
        rw [← e]
        exact inC_iff.mp (List.mem_filter.mp hp).2)
    (fun p hp => h.lt p (List.mem_filter.mp hp).1)
    (fun p hp => (h.eqs p (List.mem_filter.mp hp).1).2.2.1)
  obtain ⟨fs', mo3, t1, t2, t3, t4⟩ := p_tell k hk (nI q) b (b + (MO_size mo).toInt64) 1 1 (fs := fs) (co := cof (RS_values rs) (L.filter (inC mo q b)) (f_CO_clear co)) (mo := sMO_isIn (sMO_got (sMO_isIn mo J) g) j) (T := T) hF (CG.cr (mo := sMO_got mo g) g2) hT
  have hg := p_gathCL (la := la) h hq b hb hsz hs L [] k (f_CO_clear co) rfl (by omega)
  rw [List.length_nil, nI_0] at hg
  refine ⟨cof (RS_values rs) (L.filter (inC mo q b)) (f_CO_clear co), fs', _, _, mo3, ?_, ?_, j1, g1, t2, t3, ?_⟩
  · unfold f_SR_gatherCounted
    dsimp only [gl_let]
    rw [hg, ob]
  · rw [hsz]
    exact t1
  · obtain ⟨tf, ta, tb, tc, td, rfl⟩ := t4
    exact ⟨rfl, rfl, rfl⟩
