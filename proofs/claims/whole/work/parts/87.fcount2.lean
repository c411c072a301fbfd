theorem nLt {x : Nat} (h : x < 2147483648) : (nI x).toInt64.toInt = (x : Int) := by rw [pi_l, nI_toInt h]
theorem nLmul {a b : Nat} (ha : a ≤ 65536) (hb : b ≤ 2000000) : ((nI a).toInt64 * (nI b).toInt64).toInt = ((a * b : Nat) : Int) ∧ a * b ≤ 131072000000 := by
  have h : a * b ≤ 65536 * 2000000 := Nat.mul_le_mul ha hb
  have e : ((a * b : Nat) : Int) = (a : Int) * (b : Int) := Int.natCast_mul a b
  constructor
  · rw [pl_mul (by rw [nLt (by omega), nLt (by omega), ← e]; omega) (by rw [nLt (by omega), nLt (by omega), ← e]; omega), nLt (by omega), nLt (by omega), e]
  · omega
theorem moD_get {mo mo' : MOt} (e : moD mo' = moD mo) : MO_size mo' = MO_size mo ∧ MO_step mo' = MO_step mo ∧ MO_numbered mo' = MO_numbered mo := by
  unfold moD at e
  injection e with e1 e
  injection e with e2 e
  injection e with e3 e4
  injection e1 with a1 e1
  injection e1 with a2 e1
  injection e1 with a3 e1
  injection e3 with c1 e3
  injection e3 with c2 e3
  exact ⟨a2, a3, c2⟩
theorem moC_D {mo mo' : MOt} (e : moC mo' = moC mo) : moD mo' = moD mo ∧ MO_nextSpan mo' = MO_nextSpan mo := by
  unfold moC at e
  injection e with e1 e
  injection e with e2 e
  injection e with e3 e4
  injection e3 with c1 e3
  injection e3 with c2 e3
  injection e3 with c3 c4
  unfold moD
  rw [e1, e2, c1, c2, c4, e4]
  exact ⟨rfl, c3⟩
theorem p_fireCL (k : Nat) (hk : 5000 ≤ k) {L : List (Nat × Nat)} {sr : SRt} {rs : RSt} {la : LAt} {nu : NUt} {mo0 : MOt} (h0 : RR L rs mo0) {q : Nat} (hq : q < 8) {st sz N : Nat} (hst : 1 ≤ st ∧ st ≤ 65536) (hsz : 1 ≤ sz ∧ sz ≤ 65536) (hN : N ≤ 1000000) (m1 : MO_step mo0 = nI st) (m2 : MO_size mo0 = nI sz) (m3 : MO_numbered mo0 q = nI N) (l1 : LA_step la = (nI st).toInt64) (l2 : LA_size la = (nI sz).toInt64) (l3 : NU_numbered nu q = nI N) : ∀ (d n n' a c S : Nat) (b : Int64) (fs : FSt) (co : COt) (mo : MOt) (T : Nat),
    N + 1 ≤ st * S + sz + d → d < n → d < n' → b.toInt = ((st * S : Nat) : Int) → MO_nextSpan mo q = nI S → (S = 0 ∨ st * (S - 1) + sz ≤ N) → S ≤ 1000000 → moD mo = moD mo0 → moR mo = moR mo0 → moS mo = moS mo0 → FR fs mo T → T + d ≤ 4000000 →
    ∃ (e S' : Nat) (b' : Int64) (fs' : FSt) (co' : COt) (mo' : MOt), f_SR_fireCounted_L12 k (nI q) sr la rs nu n (nI a) b fs co = some (nI (a + e), b', fs', co') ∧ f_MO_countedMark_L128 k (nI q) n' (nI c) mo = some (nI (c + e), mo') ∧ b'.toInt = ((st * S' : Nat) : Int) ∧ MO_nextSpan mo' q = nI S' ∧ (∀ j : Nat, j ≠ q → MO_nextSpan mo' j = MO_nextSpan mo j) ∧ N < st * S' + sz ∧ (S' = 0 ∨ st * (S' - 1) + sz ≤ N) ∧ S' ≤ 1000000 ∧ moD mo' = moD mo0 ∧ moR mo' = moR mo0 ∧ moS mo' = moS mo0 ∧ FR fs' mo' (T + e) ∧ e ≤ d := by
  intro d
  induction d with
  | zero =>
    intro n n' a c S b fs co mo T h1 h2 h3 h4 h5 h6 h7 h8 h9 h10 hF hT
    obtain ⟨n, rfl⟩ : ∃ m, n = m + 1 := ⟨n - 1, by omega⟩
    obtain ⟨n', rfl⟩ : ∃ m, n' = m + 1 := ⟨n' - 1, by omega⟩
    obtain ⟨d1, d2, d3⟩ := moD_get h8
    obtain ⟨u1, u2⟩ := nLmul hst.2 (show S ≤ 2000000 by omega)
    have hbs : (b + LA_size la).toInt = ((st * S : Nat) : Int) + sz := by rw [l2, pl_add (by rw [nLt (by omega), h4]; omega) (by rw [nLt (by omega), h4]; omega), nLt (by omega), h4]
    have hms : ((nI st).toInt64 * (nI S).toInt64 + (nI sz).toInt64).toInt = ((st * S : Nat) : Int) + sz := by rw [pl_add (by rw [nLt (by omega), u1]; omega) (by rw [nLt (by omega), u1]; omega), nLt (by omega), u1]
    rw [f_SR_fireCounted_L12, nI_clamp (show q < 2 ^ 31 by omega), l3, if_pos (by rw [pl_lt, nLt (by omega), hbs]; omega), f_MO_countedMark_L128, if_neg (nI_in hq (by omega)), nI_clamp (show q < 2 ^ 31 by omega), d1, d2, d3, m1, m2, m3, h5, if_pos (by rw [pl_lt, nLt (by omega), hms]; omega)]
    exact ⟨0, S, b, fs, co, mo, rfl, rfl, h4, h5, fun j _ => rfl, by omega, h6, h7, h8, h9, h10, hF, Nat.le_refl _⟩
  | succ d ih =>
    intro n n' a c S b fs co mo T h1 h2 h3 h4 h5 h6 h7 h8 h9 h10 hF hT
    obtain ⟨n, rfl⟩ : ∃ m, n = m + 1 := ⟨n - 1, by omega⟩
    obtain ⟨n', rfl⟩ : ∃ m, n' = m + 1 := ⟨n' - 1, by omega⟩
    obtain ⟨d1, d2, d3⟩ := moD_get h8
    obtain ⟨u1, u2⟩ := nLmul hst.2 (show S ≤ 2000000 by omega)
    have hbs : (b + LA_size la).toInt = ((st * S : Nat) : Int) + sz := by rw [l2, pl_add (by rw [nLt (by omega), h4]; omega) (by rw [nLt (by omega), h4]; omega), nLt (by omega), h4]
    have hms : ((nI st).toInt64 * (nI S).toInt64 + (nI sz).toInt64).toInt = ((st * S : Nat) : Int) + sz := by rw [pl_add (by rw [nLt (by omega), u1]; omega) (by rw [nLt (by omega), u1]; omega), nLt (by omega), u1]
    rw [f_SR_fireCounted_L12, nI_clamp (show q < 2 ^ 31 by omega), l3, f_MO_countedMark_L128, if_neg (nI_in hq (by omega)), nI_clamp (show q < 2 ^ 31 by omega), d1, d2, d3, m1, m2, m3, h5]
    by_cases hc : N < st * S + sz
    · rw [if_pos (by rw [pl_lt, nLt (by omega), hbs]; omega), if_pos (by rw [pl_lt, nLt (by omega), hms]; omega)]
      exact ⟨0, S, b, fs, co, mo, rfl, rfl, h4, h5, fun j _ => rfl, hc, h6, h7, h8, h9, h10, hF, by omega⟩
    · rw [if_neg (by rw [pl_lt, nLt (by omega), hbs]; omega), if_neg (by rw [pl_lt, nLt (by omega), hms]; omega)]
      have hbe : (nI st).toInt64 * (nI S).toInt64 = b := by rw [pl_eq, u1, h4]
      dsimp only [gl_let]
      rw [hbe]
      have hsi : (MO_size mo).toInt = (sz : Int) := by rw [d1, m2, nI_toInt (by omega)]
      obtain ⟨co1, fs1, mo1, mo2, mo3, z1, z2, z3, z4, z5, z6, z7, z8, z9⟩ := p_fireC1 k hk (sr := sr) (la := la) co (h0.cong h9) hq b (by rw [h4]; omega) (by rw [l2, d1, m2]) (by rw [hsi]; omega) hF (by omega)
      rw [z1, ob, z2, ob, z3, ob, z4, ob, z5, ob, nI_1, nI_1]
      obtain ⟨y1, y2⟩ := moC_D z7
      have hS1 : S ≤ st * S := by
        have : 1 * S ≤ st * S := Nat.mul_le_mul_right S hst.1
        omega
      have hm1 : st * (S + 1) = st * S + st := Nat.mul_succ st S
      have hbst : (b + LA_step la).toInt = ((st * (S + 1) : Nat) : Int) := by rw [l1, pl_add (by rw [nLt (by omega), h4]; omega) (by rw [nLt (by omega), h4]; omega), nLt (by omega), h4, hm1]; omega
      obtain ⟨w, hw⟩ : ∃ w, w = upd (MO_nextSpan mo3) q (MO_nextSpan mo3 q + 1) := ⟨_, rfl⟩
      rw [← hw]
      have hw1 : w q = nI (S + 1) := by rw [hw, pk_us, y2, h5, nI_1]
      have hw2 : ∀ j : Nat, j ≠ q → w j = MO_nextSpan mo j := by
        intro j hj
        rw [hw, pk_un hj, y2]
      have f8 : moD (sMO_nextSpan mo3 w) = moD mo3 := rfl
      have f9 : moR (sMO_nextSpan mo3 w) = moR mo3 := rfl
      have f10 : moS (sMO_nextSpan mo3 w) = moS mo3 := rfl
      have fF : moF (sMO_nextSpan mo3 w) = moF mo3 := rfl
      obtain ⟨e, S', b', fs', co', mo', r1, r2, r3, r4, r5, r6, r7, r8, r9, r10, r11, r12, r13⟩ := ih n n' (a + 1) (c + 1) (S + 1) (b + LA_step la) fs1 co1 (sMO_nextSpan mo3 w) (T + 1) (by rw [hm1]; omega) (by omega) (by omega) hbst hw1 (Or.inr (by rw [Nat.add_sub_cancel]; omega)) (by omega) (f8.trans (y1.trans h8)) (f9.trans (z8.trans h9)) (f10.trans (z9.trans h10)) (z6.cong fF) (by omega)
      refine ⟨e + 1, S', b', fs', co', mo', ?_, ?_, r3, r4, ?_, r6, r7, r8, r9, r10, r11, ?_, by omega⟩
      · rw [r1, show a + 1 + e = a + (e + 1) by omega]
      · rw [r2, show c + 1 + e = c + (e + 1) by omega]
      · intro j hj
        rw [r5 j hj]
        exact hw2 j hj
      · rw [show T + (e + 1) = T + 1 + e by omega]
        exact r12
