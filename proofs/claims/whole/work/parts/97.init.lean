theorem p_near (v a b : Int32) : f_SR_nearest v a b = f_MO_nearest v a b := rfl
theorem p_nearR (v a b : Int32) (h : a.toInt ≤ b.toInt) : a.toInt ≤ (f_MO_nearest v a b).toInt ∧ (f_MO_nearest v a b).toInt ≤ b.toInt := by
  unfold f_MO_nearest
  by_cases h1 : a ≤ v
  · rw [if_pos h1]
    rw [pi_le] at h1
    by_cases h2 : v ≤ b
    · rw [if_pos h2]
      rw [pi_le] at h2
      omega
    · rw [if_neg h2]
      omega
  · rw [if_neg h1]
    omega
theorem p_RSinitL : ∀ (m n i : Nat) (rs : RSt), i + m = 300 → m < n → (∀ j : Nat, j < i → RS_order rs j = nI j) → ∃ o : Nat → Int32, f_RS_init_L65 n (nI i) rs = some (sRS_order rs o) ∧ ∀ j : Nat, j < 300 → o j = nI j := by
  intro m
  induction m with
  | zero =>
    intro n i rs hi hn h
    obtain ⟨n, rfl⟩ : ∃ m, n = m + 1 := ⟨n - 1, by omega⟩
    rw [f_RS_init_L65, if_pos (show (300 : Int32) ≤ nI i from nI_le (a := 300) (by omega) (by omega))]
    exact ⟨RS_order rs, rfl, fun j hj => h j (by omega)⟩
  | succ m ih =>
    intro n i rs hi hn h
    obtain ⟨n, rfl⟩ : ∃ m, n = m + 1 := ⟨n - 1, by omega⟩
    rw [f_RS_init_L65, if_neg (show ¬ (300 : Int32) ≤ nI i from nI_ge (a := i) (b := 300) (by omega) (by omega)), if_neg (nI_in (show i < 300 by omega) (by omega)), nI_clamp (by omega)]
    dsimp only [gl_let]
    rw [nI_1]
    obtain ⟨o1, ho1⟩ : ∃ o1, o1 = upd (RS_order rs) i (nI i) := ⟨_, rfl⟩
    rw [← ho1]
    exact ih n (i + 1) (sRS_order rs o1) (by omega) (by omega) (fun j hj => by
      show o1 j = nI j
      rw [ho1]
      by_cases e : j = i
      · rw [e, pk_us]
      · rw [pk_un e]; exact h j (by omega))
theorem p_SSinitL : ∀ (m n i : Nat) (ss : SSt), i + m = 200 → m < n → (∀ j : Nat, j < i → SS_order ss j = nI j) → ∃ o : Nat → Int32, f_SS_init_L108 n (nI i) ss = some (sSS_order ss o) ∧ ∀ j : Nat, j < 200 → o j = nI j := by
  intro m
  induction m with
  | zero =>
    intro n i ss hi hn h
    obtain ⟨n, rfl⟩ : ∃ m, n = m + 1 := ⟨n - 1, by omega⟩
    rw [f_SS_init_L108, if_pos (show (200 : Int32) ≤ nI i from nI_le (a := 200) (by omega) (by omega))]
    exact ⟨SS_order ss, rfl, fun j hj => h j (by omega)⟩
  | succ m ih =>
    intro n i ss hi hn h
    obtain ⟨n, rfl⟩ : ∃ m, n = m + 1 := ⟨n - 1, by omega⟩
    rw [f_SS_init_L108, if_neg (show ¬ (200 : Int32) ≤ nI i from nI_ge (a := i) (b := 200) (by omega) (by omega)), if_neg (nI_in (show i < 200 by omega) (by omega)), nI_clamp (by omega)]
    dsimp only [gl_let]
    rw [nI_1]
    obtain ⟨o1, ho1⟩ : ∃ o1, o1 = upd (SS_order ss) i (nI i) := ⟨_, rfl⟩
    rw [← ho1]
    exact ih n (i + 1) (sSS_order ss o1) (by omega) (by omega) (fun j hj => by
      show o1 j = nI j
      rw [ho1]
      by_cases e : j = i
      · rw [e, pk_us]
      · rw [pk_un e]; exact h j (by omega))
theorem p_MOinit272 : ∀ (m n i : Nat) (mo : MOt), i + m = 300 → m < n → (∀ j : Nat, j < i → MO_rKey mo j = -1) → ∃ o : Nat → Int32, f_MO_init_L272 n (nI i) mo = some (sMO_rKey mo o) ∧ ∀ j : Nat, j < 300 → o j = -1 := by
  intro m
  induction m with
  | zero =>
    intro n i mo hi hn h
    obtain ⟨n, rfl⟩ : ∃ m, n = m + 1 := ⟨n - 1, by omega⟩
    rw [f_MO_init_L272, if_pos (show (300 : Int32) ≤ nI i from nI_le (a := 300) (by omega) (by omega))]
    exact ⟨MO_rKey mo, rfl, fun j hj => h j (by omega)⟩
  | succ m ih =>
    intro n i mo hi hn h
    obtain ⟨n, rfl⟩ : ∃ m, n = m + 1 := ⟨n - 1, by omega⟩
    rw [f_MO_init_L272, if_neg (show ¬ (300 : Int32) ≤ nI i from nI_ge (a := i) (b := 300) (by omega) (by omega)), if_neg (nI_in (show i < 300 by omega) (by omega)), nI_clamp (by omega)]
    dsimp only [gl_let]
    rw [nI_1]
    obtain ⟨o1, ho1⟩ : ∃ o1, o1 = upd (MO_rKey mo) i (-1) := ⟨_, rfl⟩
    rw [← ho1]
    exact ih n (i + 1) (sMO_rKey mo o1) (by omega) (by omega) (fun j hj => by
      show o1 j = -1
      rw [ho1]
      by_cases e : j = i
      · rw [e, pk_us]
      · rw [pk_un e]; exact h j (by omega))
theorem p_MOinit297 : ∀ (m n i : Nat) (mo : MOt), i + m = 200 → m < n → (∀ j : Nat, j < i → MO_sKey mo j = -1) → ∃ o : Nat → Int32, f_MO_init_L297 n (nI i) mo = some (sMO_sKey mo o) ∧ ∀ j : Nat, j < 200 → o j = -1 := by
  intro m
  induction m with
  | zero =>
    intro n i mo hi hn h
    obtain ⟨n, rfl⟩ : ∃ m, n = m + 1 := ⟨n - 1, by omega⟩
    rw [f_MO_init_L297, if_pos (show (200 : Int32) ≤ nI i from nI_le (a := 200) (by omega) (by omega))]
    exact ⟨MO_sKey mo, rfl, fun j hj => h j (by omega)⟩
  | succ m ih =>
    intro n i mo hi hn h
    obtain ⟨n, rfl⟩ : ∃ m, n = m + 1 := ⟨n - 1, by omega⟩
    rw [f_MO_init_L297, if_neg (show ¬ (200 : Int32) ≤ nI i from nI_ge (a := i) (b := 200) (by omega) (by omega)), if_neg (nI_in (show i < 200 by omega) (by omega)), nI_clamp (by omega)]
    dsimp only [gl_let]
    rw [nI_1]
    obtain ⟨o1, ho1⟩ : ∃ o1, o1 = upd (MO_sKey mo) i (-1) := ⟨_, rfl⟩
    rw [← ho1]
    exact ih n (i + 1) (sMO_sKey mo o1) (by omega) (by omega) (fun j hj => by
      show o1 j = -1
      rw [ho1]
      by_cases e : j = i
      · rw [e, pk_us]
      · rw [pk_un e]; exact h j (by omega))
theorem oa_range {f : Nat → Int32} {N : Nat} (h : ∀ j : Nat, j < N → f j = nI j) : OA f (List.range N) := by
  intro i c hc
  by_cases hi : i < N
  · rw [List.getElem?_range hi] at hc
    have := Option.some.inj hc
    rw [← this]
    exact h i hi
  · rw [List.getElem?_eq_none (by simp; omega)] at hc
    exact absurd hc (by simp)
/-- a new object, class and reference -/
theorem s_init (k : Nat) (hk : 5000 ≤ k) (x1 x2 x3 : Int32) : ∃ sr fb rs ss nu fs co la mo, f_SR_init k x1 x2 x3 = some (sr, fb, rs, ss, nu, fs, co, la) ∧ f_MO_init k x1 x2 x3 = some mo ∧ RL 0 sr la fb rs ss nu fs mo := by
  unfold f_SR_init f_MO_init f_RS_init f_SS_init
  dsimp only [gl_let]
  obtain ⟨o1, a1, a2⟩ := p_RSinitL 300 k 0 (((((fun _ => 0), (fun _ => 0)), ((fun _ => 0), (fun _ => 0))), (((fun _ => 0), (fun _ => 0)), 0)) : RSt) (by omega) (by omega) (fun j hj => by omega)
  obtain ⟨o2, b1, b2⟩ := p_SSinitL 200 k 0 ((((((fun _ => 0), (fun _ => 0)), (fun _ => 0)), (((fun _ => 0), (fun _ => 0)), (fun _ => 0))), ((((fun _ => 0), (fun _ => 0)), (fun _ => 0)), (((fun _ => 0), (fun _ => 0)), 0))) : SSt) (by omega) (by omega) (fun j hj => by omega)
  rw [nI_0] at a1 b1
  rw [a1, ob, ob, b1, ob, ob]
  obtain ⟨kd, hkd⟩ : ∃ kd, kd = f_MO_nearest x1 0 5 := ⟨_, rfl⟩
  have k1 := p_nearR x1 0 5 (by decide)
  rw [← hkd] at k1
  change 0 ≤ kd.toInt ∧ kd.toInt ≤ 5 at k1
  have hB1 : f_SR_init_B120 (f_SR_nearest x1 0 5) = f_MO_init_B221 x1 := by
    rw [p_near]
    unfold f_SR_init_B120 f_MO_init_B221
    rfl
  obtain ⟨tb, htb⟩ : ∃ tb, tb = f_MO_init_B221 x1 := ⟨_, rfl⟩
  have t1 : 1 ≤ tb.toInt ∧ tb.toInt ≤ 65536 ∧ (kd = 4 → tb.toInt ≤ 12) := by
    rw [htb]
    unfold f_MO_init_B221
    rw [← hkd]
    by_cases z : kd = 4
    · rw [if_pos z]; exact ⟨by decide, by decide, fun _ => by decide⟩
    · rw [if_neg z]; exact ⟨by decide, by decide, fun y => absurd y z⟩
  obtain ⟨sz, hsz⟩ : ∃ sz, sz = f_MO_nearest x2 1 tb := ⟨_, rfl⟩
  have s1 := p_nearR x2 1 tb t1.1
  rw [← hsz] at s1
  change 1 ≤ sz.toInt ∧ sz.toInt ≤ tb.toInt at s1
  have hsz5 : (sz + 16 - 1 : Int32) = sz + 15 := by
    rw [Int32.sub_eq_add_neg, Int32.add_assoc]
    rfl
  obtain ⟨lo, hlo⟩ : ∃ lo : Int32, lo = if kd = 1 then (sz + 15) / 16 else 1 := ⟨_, rfl⟩
  have l1 : 1 ≤ lo.toInt ∧ lo.toInt ≤ 65536 ∧ (kd = 1 → sz.toInt ≤ 16 * lo.toInt) := by
    rw [hlo]
    by_cases z : kd = 1
    · rw [if_pos z]
      obtain ⟨n, hn, en⟩ : ∃ n : Nat, n ≤ 65536 ∧ sz = nI n := ⟨sz.toInt.toNat, by omega, by rw [pi_eq, nI_toInt (by omega)]; omega⟩
      have hn1 : 1 ≤ n := by
        have := s1.1
        rw [en, nI_toInt (by omega)] at this
        omega
      rw [en, show (15 : Int32) = nI 15 from rfl, show (16 : Int32) = nI 16 from rfl, nI_add, pk_div (by omega) (by omega) (by omega), nI_toInt (by omega), nI_toInt (by omega)]
      exact ⟨by omega, by omega, fun _ => by omega⟩
    · rw [if_neg z]
      exact ⟨by decide, by decide, fun y => absurd y z⟩
  obtain ⟨st, hst⟩ : ∃ st, st = f_MO_nearest x3 lo 65536 := ⟨_, rfl⟩
  have st1 := p_nearR x3 lo 65536 (show lo.toInt ≤ (65536 : Int32).toInt from l1.2.1)
  rw [← hst] at st1
  change lo.toInt ≤ st.toInt ∧ st.toInt ≤ 65536 at st1
  obtain ⟨mo0, hmo0⟩ : ∃ mo0 : MOt, mo0 = (((((((0, 0), 0), ((0, 0), 0)), (((1, 0), 0), ((fun _ => 0), (fun _ => 0)))), (((((-10000000000000), 0), (fun _ => 0)), ((fun _ => 0), (fun _ => 0))), ((((fun _ => 0), (fun _ => 0)), 0), (0, 0)))), ((((((fun _ => 0), (fun _ => 0)), (fun _ => 0)), (((fun _ => 0), (fun _ => 0)), (fun _ => 0))), ((((fun _ => 0), (fun _ => 0)), 0), ((fun _ => 0), (fun _ => 0)))), (((((fun _ => 0), 0), 0), (0, 0)), (((0, (fun _ => 0)), (fun _ => 0)), ((fun _ => 0), (fun _ => 0)))))) : MOt) := ⟨_, rfl⟩
  obtain ⟨o3, c1, c2⟩ := p_MOinit272 300 k 0 (sMO_step (sMO_size (sMO_kind mo0 kd) sz) st) (by omega) (by omega) (fun j hj => by omega)
  obtain ⟨o4, d1, d2⟩ := p_MOinit297 200 k 0 (sMO_rKey (sMO_step (sMO_size (sMO_kind mo0 kd) sz) st) o3) (by omega) (by omega) (fun j hj => by omega)
  rw [nI_0] at c1 d1
  have hcls : f_LA_init (f_SR_nearest x1 0 5) (f_SR_nearest x2 1 (f_SR_init_B120 (f_SR_nearest x1 0 5))) (f_SR_nearest x3 (f_SR_init_B138 (f_SR_nearest x1 0 5) (f_SR_nearest x2 1 (f_SR_init_B120 (f_SR_nearest x1 0 5)))) 65536) = f_LA_init kd sz st := by
    rw [hB1, p_near, p_near, p_near, ← hkd, ← htb, ← hsz]
    unfold f_SR_init_B138
    rw [hsz5, ← hlo, ← hst]
  rw [hcls, ← hmo0, ← hkd, ← htb, ← hsz]
  have hB2 : f_MO_init_B244 (sMO_kind mo0 kd) (sMO_size (sMO_kind mo0 kd) sz) = lo := by
    unfold f_MO_init_B244
    rw [hlo]
  rw [hB2, ← hst, c1, ob, d1, ob]
  have hRo : ∃ F, OA o1 ((([] : List (Nat × Nat)).map Prod.fst) ++ F) ∧ ((([] : List (Nat × Nat)).map Prod.fst) ++ F).Perm (List.range 300) := by
    generalize hg : List.range 300 = R
    refine ⟨R, ?_, ?_⟩
    · rw [List.map_nil, List.nil_append, ← hg]
      exact oa_range a2
    · rw [List.map_nil, List.nil_append]
  have hSo : ∃ F, OA o2 ((([] : List (Nat × Nat)).map Prod.fst) ++ F) ∧ ((([] : List (Nat × Nat)).map Prod.fst) ++ F).Perm (List.range 200) := by
    generalize hg : List.range 200 = R
    refine ⟨R, ?_, ?_⟩
    · rw [List.map_nil, List.nil_append, ← hg]
      exact oa_range b2
    · rw [List.map_nil, List.nil_append]
  refine ⟨_, _, _, _, _, _, _, _, _, rfl, rfl, [], [], 0, 0, 0, ⟨?_, ?_, ?_, ?_, ?_, ?_, ?_, ?_, ?_, ?_⟩, by omega, by omega, by omega⟩
  · rw [hmo0]
    refine ⟨⟨rfl, rfl, rfl, rfl, rfl⟩, k1, ?_, ?_, ?_, ?_, show -1000000000 ≤ (0 : Int64).toInt ∧ (0 : Int64).toInt ≤ 1000000000 from ⟨by decide, by decide⟩, show 0 ≤ (0 : Int32).toInt ∧ (0 : Int32).toInt ≤ 2 from ⟨by decide, by decide⟩⟩
    · show 1 ≤ sz.toInt ∧ sz.toInt ≤ 65536
      omega
    · show 1 ≤ st.toInt ∧ st.toInt ≤ 65536
      omega
    · intro z
      have z' : kd = 1 := z
      show sz.toInt ≤ 16 * st.toInt
      have := l1.2.2 z'
      omega
    · intro z
      have z' : kd = 4 := z
      show sz.toInt ≤ 12
      have := t1.2.2 z'
      omega
  · rw [hmo0]
    exact ⟨⟨rfl, rfl, rfl, rfl, rfl, rfl, rfl⟩, show 0 ≤ (0 : Int64).toInt ∧ (0 : Int64).toInt ≤ 1000000000 from ⟨by decide, by decide⟩, show -10000000000000 ≤ (-10000000000000 : Int64).toInt ∧ (-10000000000000 : Int64).toInt ≤ 10000000000000 from ⟨by decide, by decide⟩, show 0 ≤ (0 : Int32).toInt ∧ (0 : Int32).toInt ≤ 1000 from ⟨by decide, by decide⟩, Or.inr rfl, Or.inl rfl⟩
  · rw [hmo0]
    exact ⟨rfl, rfl, fun r _ => ⟨0, by omega, nI_0.symm⟩⟩
  · rw [hmo0]
    refine ⟨nI_0.symm, nI_0.symm, hRo, fun p hp => absurd hp (by simp), fun p hp => absurd hp (by simp), fun p hp => absurd hp (by simp), List.Pairwise.nil, fun r hr => Or.inl (c2 r hr), List.Pairwise.nil, fun p hp => absurd hp (by simp)⟩
  · rw [hmo0]
    refine ⟨nI_0.symm, nI_0.symm, hSo, fun p hp => absurd hp (by simp), fun p hp => absurd hp (by simp), fun p hp => absurd hp (by simp), List.Pairwise.nil, fun r hr => Or.inl (d2 r hr), List.Pairwise.nil, fun p hp => absurd hp (by simp)⟩
  · exact ⟨fun p hp => absurd hp (by simp), fun p hp => absurd hp (by simp), fun p hp => absurd hp (by simp), fun p hp => absurd hp (by simp)⟩
  · rw [hmo0]
    have z0 : min 0 400 = 0 := rfl
    refine ⟨nI_0.symm, nI_0.symm, ?_, rfl, rfl, by omega, fun j w hj _ => absurd hj (by omega)⟩
    rw [z0]
    exact nI_0.symm
  · rw [hmo0]
    exact nI_0.symm
  · intro _
    exact ⟨List.Pairwise.nil, fun p hp => absurd hp (by simp), fun p hp => absurd hp (by simp)⟩
  · intro _
    refine ⟨⟨st.toInt.toNat, sz.toInt.toNat, fun _ => 0, ?_, ?_, by omega, by omega, ?_, fun p hp => absurd hp (by simp)⟩, rfl⟩
    · rw [hmo0]
      show st = _
      rw [pi_eq, nI_toInt (by omega)]; omega
    · rw [hmo0]
      show sz = _
      rw [pi_eq, nI_toInt (by omega)]; omega
    · intro q hq
      rw [hmo0]
      refine ⟨nI_0.symm, nI_0.symm, Nat.zero_le _, 0, ?_, nI_0.symm, by dsimp only; omega, Or.inl rfl, Nat.zero_le _⟩
      rw [Nat.mul_zero]
      rfl
