abbrev jm (mo : MOt) (Ha Tl Fi Si En K : Nat → Int32) (n : Int32) : MOt := sMO_spans (sMO_sKey (sMO_sEnded (sMO_sPut (sMO_sFired (sMO_toldOf (sMO_has mo Ha) Tl) Fi) Si) En) K) n
theorem p_MOjoinL2 {a b : Nat} (ha : a < 200) (hb : b < 200) (hab : a ≠ b) (mo : MOt) (Fi Si En K : Nat → Int32) (c : Int32) : ∀ (m n i : Nat) (Ha Tl : Nat → Int32), i + m = 300 → m < n → ∃ Ha' Tl' : Nat → Int32, f_MO_join_L2 (nI a) (nI b) n (nI i) (jm mo Ha Tl Fi Si En K c) = some (jm mo Ha' Tl' Fi Si En K c) ∧ (∀ x : Nat, Ha' x = if 300 * a + i ≤ x ∧ x < 300 * a + 300 ∧ ¬ Ha (300 * b + (x - 300 * a)) = 0 then 1 else Ha x) ∧ (∀ x : Nat, Tl' x = if 300 * a + i ≤ x ∧ x < 300 * a + 300 ∧ ¬ Ha (300 * b + (x - 300 * a)) = 0 then vp_nar .boolean (Tl (300 * b + (x - 300 * a))) else Tl x) := by
  intro m
  induction m with
  | zero =>
    intro n i Ha Tl hi hn
    obtain ⟨n, rfl⟩ : ∃ m, n = m + 1 := ⟨n - 1, by omega⟩
    have hi2 : i = 300 := by omega
    subst hi2
    rw [f_MO_join_L2, if_pos (by decide)]
    exact ⟨Ha, Tl, rfl, fun x => by rw [if_neg (by omega)], fun x => by rw [if_neg (by omega)]⟩
  | succ m ih =>
    intro n i Ha Tl hi hn
    obtain ⟨n, rfl⟩ : ∃ m, n = m + 1 := ⟨n - 1, by omega⟩
    rw [f_MO_join_L2, if_neg (show ¬ (300 : Int32) ≤ nI i from nI_ge (a := i) (b := 300) (by omega) (by omega))]
    dsimp only [gl_let]
    rw [p_ix, p_ix, if_neg (nI_in (show 300 * b + i < 60000 by omega) (by omega)), nI_clamp (show 300 * b + i < 2 ^ 31 by omega), nI_1]
    by_cases c1 : Ha (300 * b + i) = 0
    · rw [if_pos (show MO_has (jm mo Ha Tl Fi Si En K c) (300 * b + i) = 0 from c1)]
      obtain ⟨Ha', Tl', e1, e2, e3⟩ := ih n (i + 1) Ha Tl (by omega) (by omega)
      have gen : ∀ x : Nat, (300 * a + (i + 1) ≤ x ∧ x < 300 * a + 300 ∧ ¬ Ha (300 * b + (x - 300 * a)) = 0) ↔ (300 * a + i ≤ x ∧ x < 300 * a + 300 ∧ ¬ Ha (300 * b + (x - 300 * a)) = 0) := by
        intro x
        constructor
        · rintro ⟨z1, z2⟩; exact ⟨by omega, z2⟩
        · rintro ⟨z1, z2, z3⟩
          refine ⟨?_, z2, z3⟩
          apply Classical.byContradiction
          intro z
          have : x = 300 * a + i := by omega
          rw [this, show 300 * a + i - 300 * a = i by omega] at z3
          exact z3 c1
      refine ⟨Ha', Tl', e1, fun x => ?_, fun x => ?_⟩
      · rw [e2 x]
        by_cases z : 300 * a + i ≤ x ∧ x < 300 * a + 300 ∧ ¬ Ha (300 * b + (x - 300 * a)) = 0
        · rw [if_pos z, if_pos ((gen x).mpr z)]
        · rw [if_neg z, if_neg (fun y => z ((gen x).mp y))]
      · rw [e3 x]
        by_cases z : 300 * a + i ≤ x ∧ x < 300 * a + 300 ∧ ¬ Ha (300 * b + (x - 300 * a)) = 0
        · rw [if_pos z, if_pos ((gen x).mpr z)]
        · rw [if_neg z, if_neg (fun y => z ((gen x).mp y))]
    · rw [if_neg (show ¬ MO_has (jm mo Ha Tl Fi Si En K c) (300 * b + i) = 0 from c1), if_neg (nI_in (show 300 * a + i < 60000 by omega) (by omega)), nI_clamp (show 300 * a + i < 2 ^ 31 by omega)]
      obtain ⟨H1, hH1⟩ : ∃ H1, H1 = upd Ha (300 * a + i) 1 := ⟨_, rfl⟩
      obtain ⟨T1, hT1⟩ : ∃ T1, T1 = upd Tl (300 * a + i) (vp_nar .boolean (Tl (300 * b + i))) := ⟨_, rfl⟩
      obtain ⟨Ha', Tl', e1, e2, e3⟩ := ih n (i + 1) H1 T1 (by omega) (by omega)
      have hb1 : ∀ x : Nat, x < 300 * a + 300 → H1 (300 * b + (x - 300 * a)) = Ha (300 * b + (x - 300 * a)) ∧ T1 (300 * b + (x - 300 * a)) = Tl (300 * b + (x - 300 * a)) := by
        intro x hx
        rw [hH1, hT1, pk_un (by omega), pk_un (by omega)]
        exact ⟨rfl, rfl⟩
      refine ⟨Ha', Tl', ?_, fun x => ?_, fun x => ?_⟩
      · rw [← e1, hH1, hT1]
      · rw [e2 x]
        by_cases e : x = 300 * a + i
        · rw [if_neg (by omega), if_pos ⟨by omega, by omega, by rw [e, show 300 * a + i - 300 * a = i by omega]; exact c1⟩, hH1, e, pk_us]
        · by_cases z : 300 * a + i ≤ x ∧ x < 300 * a + 300 ∧ ¬ Ha (300 * b + (x - 300 * a)) = 0
          · rw [if_pos z, if_pos ⟨by omega, z.2.1, by rw [(hb1 x z.2.1).1]; exact z.2.2⟩]
          · rw [if_neg z, if_neg (fun y => z ⟨by omega, y.2.1, by rw [← (hb1 x y.2.1).1]; exact y.2.2⟩), hH1, pk_un e]
      · rw [e3 x]
        by_cases e : x = 300 * a + i
        · rw [if_neg (by omega), if_pos ⟨by omega, by omega, by rw [e, show 300 * a + i - 300 * a = i by omega]; exact c1⟩, hT1, e, pk_us, show 300 * a + i - 300 * a = i by omega]
        · by_cases z : 300 * a + i ≤ x ∧ x < 300 * a + 300 ∧ ¬ Ha (300 * b + (x - 300 * a)) = 0
          · rw [if_pos z, if_pos ⟨by omega, z.2.1, by rw [(hb1 x z.2.1).1]; exact z.2.2⟩, (hb1 x z.2.1).2]
          · rw [if_neg z, if_neg (fun y => z ⟨by omega, y.2.1, by rw [← (hb1 x y.2.1).1]; exact y.2.2⟩), hT1, pk_un e]
theorem p_MOjoin (k : Nat) (hk : 5000 ≤ k) {a b : Nat} (ha : a < 200) (hb : b < 200) (hab : a ≠ b) (mo : MOt) (Ha Tl Fi Si En K : Nat → Int32) (c : Int32) : ∃ (Ha' Tl' : Nat → Int32) (d : Int32), f_MO_join k (nI a) (nI b) (jm mo Ha Tl Fi Si En K c) = some (jm mo Ha' Tl' (upd Fi a (if Fi b ≤ Fi a then Fi a else Fi b)) (upd Si a (Si a + Si b)) (upd En a d) (upd K b (-1)) (c - 1)) ∧ (d = 0 ∨ d = 1) ∧ (¬ d = 0 ↔ ¬ En a = 0 ∨ ¬ En b = 0) ∧
    (∀ s r : Nat, r < 300 → Ha' (300 * s + r) = if s = a ∧ ¬ Ha (300 * b + r) = 0 then 1 else Ha (300 * s + r)) ∧ (∀ s r : Nat, r < 300 → Tl' (300 * s + r) = if s = a ∧ ¬ Ha (300 * b + r) = 0 then vp_nar .boolean (Tl (300 * b + r)) else Tl (300 * s + r)) := by
  obtain ⟨Ha', Tl', e1, e2, e3⟩ := p_MOjoinL2 ha hb hab mo Fi Si En K c 300 k 0 Ha Tl (by omega) (by omega)
  rw [nI_0] at e1
  have hB : ∃ d : Int32, f_MO_join_B127 (nI a) (nI b) (jm mo Ha' Tl' Fi Si En K c) (sMO_sPut (sMO_sFired (jm mo Ha' Tl' Fi Si En K c) (upd Fi a (if Fi b ≤ Fi a then Fi a else Fi b))) (upd Si a (Si a + Si b))) = some d ∧ (d = 0 ∨ d = 1) ∧ (¬ d = 0 ↔ ¬ En a = 0 ∨ ¬ En b = 0) := by
    unfold f_MO_join_B127
    rw [nI_clamp (show a < 2 ^ 31 by omega), nI_clamp (show b < 2 ^ 31 by omega)]
    by_cases c1 : En a = 0
    · rw [if_pos (show MO_sEnded (jm mo Ha' Tl' Fi Si En K c) a = 0 from c1)]
      by_cases c2 : En b = 0
      · rw [if_pos (show MO_sEnded (sMO_sPut (sMO_sFired (jm mo Ha' Tl' Fi Si En K c) (upd Fi a (if Fi b ≤ Fi a then Fi a else Fi b))) (upd Si a (Si a + Si b))) b = 0 from c2)]
        exact ⟨0, rfl, Or.inl rfl, fun z => absurd rfl z, fun z => z.elim (fun y => absurd c1 y) (fun y => absurd c2 y)⟩
      · rw [if_neg (show ¬ MO_sEnded (sMO_sPut (sMO_sFired (jm mo Ha' Tl' Fi Si En K c) (upd Fi a (if Fi b ≤ Fi a then Fi a else Fi b))) (upd Si a (Si a + Si b))) b = 0 from c2)]
        exact ⟨1, rfl, Or.inr rfl, fun _ => Or.inr c2, fun _ => by decide⟩
    · rw [if_neg (show ¬ MO_sEnded (jm mo Ha' Tl' Fi Si En K c) a = 0 from c1)]
      exact ⟨1, rfl, Or.inr rfl, fun _ => Or.inl c1, fun _ => by decide⟩
  obtain ⟨d, d1, d2, d3⟩ := hB
  have hn : vp_nar .boolean d = d := by rcases d2 with rfl | rfl <;> rfl
  have hB2 : f_MO_join_B82 (nI a) (nI b) (jm mo Ha' Tl' Fi Si En K c) = some (if Fi b ≤ Fi a then Fi a else Fi b) := by
    unfold f_MO_join_B82
    rw [nI_clamp (show a < 2 ^ 31 by omega), nI_clamp (show b < 2 ^ 31 by omega)]
    show (if Fi b ≤ Fi a then some (Fi a) else some (Fi b)) = _
    by_cases z : Fi b ≤ Fi a
    · rw [if_pos z, if_pos z]
    · rw [if_neg z, if_neg z]
  refine ⟨Ha', Tl', d, ?_, d2, d3, fun s r hr => ?_, fun s r hr => ?_⟩
  · unfold f_MO_join
    rw [e1, ob, if_neg (nI_in hb (by omega)), if_neg (nI_in ha (by omega)), nI_clamp (show a < 2 ^ 31 by omega), nI_clamp (show b < 2 ^ 31 by omega), hB2, ob]
    dsimp only [gl_let]
    have d1' : f_MO_join_B127 (nI a) (nI b) (jm mo Ha' Tl' Fi Si En K c) (sMO_sPut (sMO_sFired (jm mo Ha' Tl' Fi Si En K c) (upd (MO_sFired (jm mo Ha' Tl' Fi Si En K c)) a (if Fi b ≤ Fi a then Fi a else Fi b))) (upd (MO_sPut (jm mo Ha' Tl' Fi Si En K c)) a (MO_sPut (jm mo Ha' Tl' Fi Si En K c) a + MO_sPut (jm mo Ha' Tl' Fi Si En K c) b))) = some d := d1
    rw [d1', ob, hn]
  · rw [e2]
    by_cases z : s = a ∧ ¬ Ha (300 * b + r) = 0
    · rw [if_pos z, z.1, if_pos ⟨by omega, by omega, by rw [show 300 * a + r - 300 * a = r by omega]; exact z.2⟩]
    · rw [if_neg z, if_neg]
      rintro ⟨y1, y2, y3⟩
      have hsa : s = a := by omega
      rw [hsa, show 300 * a + r - 300 * a = r by omega] at y3
      exact z ⟨hsa, y3⟩
  · rw [e3]
    by_cases z : s = a ∧ ¬ Ha (300 * b + r) = 0
    · rw [if_pos z, z.1, if_pos ⟨by omega, by omega, by rw [show 300 * a + r - 300 * a = r by omega]; exact z.2⟩, show 300 * a + r - 300 * a = r by omega]
    · rw [if_neg z, if_neg]
      rintro ⟨y1, y2, y3⟩
      have hsa : s = a := by omega
      rw [hsa, show 300 * a + r - 300 * a = r by omega] at y3
      exact z ⟨hsa, y3⟩
/-- what the reference has joined so far -/
def RI (mo : MOt) (W : List Nat) (v : Int32) (Ha Tl Fi Si En K : Nat → Int32) (n : Int32) (PL : Nat) : Prop :=
  (W = [] ∧ v = -1 ∧ jm mo Ha Tl Fi Si En K n = mo) ∨ ∃ m W', W = m :: W' ∧ v = nI m ∧
    (isMxI (W.map (MO_sFired mo)) (Fi m) ∧ Si m = isum (W.map (MO_sPut mo)) ∧ (En m = 0 ∨ En m = 1) ∧ (¬ En m = 0 ↔ ∃ w ∈ W, ¬ MO_sEnded mo w = 0)) ∧
    (∀ r : Nat, r < 300 → (Ha (300 * m + r) = 0 ∨ Ha (300 * m + r) = 1) ∧ (¬ Ha (300 * m + r) = 0 ↔ ∃ w ∈ W, ¬ MO_has mo (300 * w + r) = 0) ∧ (∀ w ∈ W, ¬ MO_has mo (300 * w + r) = 0 → Tl (300 * m + r) = MO_toldOf mo (300 * w + r)) ∧ ((∀ w ∈ W, MO_has mo (300 * w + r) = 0) → Tl (300 * m + r) = 0)) ∧
    (∀ s : Nat, s ≠ m → Fi s = MO_sFired mo s ∧ Si s = MO_sPut mo s ∧ En s = MO_sEnded mo s ∧ ∀ r : Nat, r < 300 → Ha (300 * s + r) = MO_has mo (300 * s + r) ∧ Tl (300 * s + r) = MO_toldOf mo (300 * s + r)) ∧
    (∀ s : Nat, (s ∈ W' → K s = -1) ∧ (s ∉ W' → K s = MO_sKey mo s)) ∧ n = nI (PL - W'.length) ∧ W'.length ≤ PL
theorem p_gapL212 {t e : Int64} (k : Nat) (hk : 5000 ≤ k) (mo : MOt) (q : Nat) (hb : MO_wBegin mo 0 = t) (he : MO_wEnd mo 0 = e) (PL : Nat) (hPL : MO_spans mo = nI PL)
    (hv : ∀ s : Nat, s < 200 → shs mo q t e s = true → (MO_sEnded mo s = 0 ∨ MO_sEnded mo s = 1) ∧ ∀ r : Nat, r < 300 → (MO_has mo (300 * s + r) = 0 ∧ MO_toldOf mo (300 * s + r) = 0) ∨ (MO_has mo (300 * s + r) = 1 ∧ (MO_toldOf mo (300 * s + r) = 0 ∨ MO_toldOf mo (300 * s + r) = 1)))
    (hd : ∀ s s' : Nat, s < 200 → s' < 200 → s ≠ s' → shs mo q t e s = true → shs mo q t e s' = true → ∀ r : Nat, r < 300 → MO_has mo (300 * s + r) = 0 ∨ MO_has mo (300 * s' + r) = 0)
    (hcap : (shw mo q t e 200).length ≤ PL) : ∀ (m n i : Nat) (v : Int32) (Ha Tl Fi Si En K : Nat → Int32) (c : Int32), i + m = 200 → m < n → RI mo (shw mo q t e i) v Ha Tl Fi Si En K c PL →
    ∃ v' Ha' Tl' Fi' Si' En' K' c', f_MO_gap_L212 k (nI q) n v (nI i) (jm mo Ha Tl Fi Si En K c) = some (v', jm mo Ha' Tl' Fi' Si' En' K' c') ∧ RI mo (shw mo q t e 200) v' Ha' Tl' Fi' Si' En' K' c' PL := by
  intro m
  induction m with
  | zero =>
    intro n i v Ha Tl Fi Si En K c hi hn hR
    obtain ⟨n, rfl⟩ : ∃ m, n = m + 1 := ⟨n - 1, by omega⟩
    have hi2 : i = 200 := by omega
    subst hi2
    rw [f_MO_gap_L212, if_pos (by decide)]
    exact ⟨v, Ha, Tl, Fi, Si, En, K, c, rfl, hR⟩
  | succ m ih =>
    intro n i v Ha Tl Fi Si En K c hi hn hR
    obtain ⟨n, rfl⟩ : ∃ m, n = m + 1 := ⟨n - 1, by omega⟩
    have hi2 : i < 200 := by omega
    have k0 : (0 : Int32).toNatClampNeg = 0 := rfl
    have hWlt : ∀ w ∈ shw mo q t e i, w < i ∧ shs mo q t e w = true := fun w hw => by
      unfold shw at hw
      rw [List.mem_filter, List.mem_range] at hw
      exact hw
    have hcur : K i = MO_sKey mo i ∧ Fi i = MO_sFired mo i ∧ Si i = MO_sPut mo i ∧ En i = MO_sEnded mo i ∧ ∀ r : Nat, r < 300 → Ha (300 * i + r) = MO_has mo (300 * i + r) ∧ Tl (300 * i + r) = MO_toldOf mo (300 * i + r) := by
      rcases hR with ⟨_, _, hj⟩ | ⟨p0, W', hW, hv0, hacc, hbt, hoth, hK, _⟩
      · have e1 : K = MO_sKey mo := congrArg MO_sKey hj
        have e3 : Fi = MO_sFired mo := congrArg MO_sFired hj
        have e4 : Si = MO_sPut mo := congrArg MO_sPut hj
        have e5 : En = MO_sEnded mo := congrArg MO_sEnded hj
        have e6 : Ha = MO_has mo := congrArg MO_has hj
        have e7 : Tl = MO_toldOf mo := congrArg MO_toldOf hj
        rw [e1, e3, e4, e5, e6, e7]
        exact ⟨rfl, rfl, rfl, rfl, fun r _ => ⟨rfl, rfl⟩⟩
      · have hp0 : i ≠ p0 := fun z => by have := (hWlt p0 (by rw [hW]; simp)).1; omega
        obtain ⟨o2, o3, o4, o5⟩ := hoth i hp0
        refine ⟨(hK i).2 (fun z => ?_), o2, o3, o4, o5⟩
        have := (hWlt i (by rw [hW]; exact List.mem_cons_of_mem _ z)).1
        omega
    have hki : MO_sKey (jm mo Ha Tl Fi Si En K c) i = MO_sKey mo i := hcur.1
    have hwb : MO_wBegin (jm mo Ha Tl Fi Si En K c) 0 = t := hb
    have hwe : MO_wEnd (jm mo Ha Tl Fi Si En K c) 0 = e := he
    rw [f_MO_gap_L212, if_neg (show ¬ (200 : Int32) ≤ nI i from nI_ge (a := i) (b := 200) (by omega) (by omega)), if_neg (nI_in hi2 (by omega)), nI_clamp (show i < 2 ^ 31 by omega), k0, hwb, hwe, hki]
    dsimp only [gl_let]
    rw [nI_1]
    have no : ¬ shs mo q t e i = true → ∃ v' Ha' Tl' Fi' Si' En' K' c', f_MO_gap_L212 k (nI q) n v (nI (i + 1)) (jm mo Ha Tl Fi Si En K c) = some (v', jm mo Ha' Tl' Fi' Si' En' K' c') ∧ RI mo (shw mo q t e 200) v' Ha' Tl' Fi' Si' En' K' c' PL := by
      intro z
      exact ih n (i + 1) v Ha Tl Fi Si En K c (by omega) (by omega) (by rw [shw_no z]; exact hR)
    by_cases c1 : MO_sKey mo i = nI q
    · rw [if_pos c1]
      by_cases c2 : e ≤ MO_sBegin mo i
      · rw [if_pos (show e ≤ MO_sBegin (jm mo Ha Tl Fi Si En K c) i from c2)]
        exact no (fun z => by have := (shs_iff.mp z).2.1; rw [pl_lt] at this; rw [pl_le] at c2; omega)
      · rw [if_neg (show ¬ e ≤ MO_sBegin (jm mo Ha Tl Fi Si En K c) i from c2)]
        by_cases c3 : MO_sEnd mo i ≤ t
        · rw [if_pos (show MO_sEnd (jm mo Ha Tl Fi Si En K c) i ≤ t from c3)]
          exact no (fun z => by have := (shs_iff.mp z).2.2; rw [pl_lt] at this; rw [pl_le] at c3; omega)
        · rw [if_neg (show ¬ MO_sEnd (jm mo Ha Tl Fi Si En K c) i ≤ t from c3)]
          have hs : shs mo q t e i = true := shs_iff.mpr ⟨c1, by rw [pl_lt]; rw [pl_le] at c2; omega, by rw [pl_lt]; rw [pl_le] at c3; omega⟩
          obtain ⟨hvi1, hvi2⟩ := hv i hi2 hs
          rcases hR with ⟨hW, hv0, hj⟩ | ⟨p0, W', hW, hv0, ⟨hm2, hm3, hm4, hm5⟩, hbt, hoth, hK, hc, hcl⟩
          · rw [if_pos hv0]
            refine ih n (i + 1) (nI i) Ha Tl Fi Si En K c (by omega) (by omega) ?_
            rw [shw_yes hs, hW, List.nil_append]
            right
            have e1 : K = MO_sKey mo := congrArg MO_sKey hj
            have e2 : c = MO_spans mo := congrArg MO_spans hj
            have e3 : Fi = MO_sFired mo := congrArg MO_sFired hj
            have e4 : Si = MO_sPut mo := congrArg MO_sPut hj
            have e5 : En = MO_sEnded mo := congrArg MO_sEnded hj
            have e6 : Ha = MO_has mo := congrArg MO_has hj
            have e7 : Tl = MO_toldOf mo := congrArg MO_toldOf hj
            refine ⟨i, [], rfl, rfl, ⟨?_, ?_, ?_, ?_⟩, ?_, ?_, ?_, ?_, by simp⟩
            · rw [e3]
              exact ⟨by simp, fun y hy => by simp at hy; rw [hy, pi_le]; omega⟩
            · rw [e4]
              show _ = MO_sPut mo i + 0
              rw [Int32.add_zero]
            · rw [e5]; exact hvi1
            · rw [e5]
              exact ⟨fun z => ⟨i, by simp, z⟩, fun ⟨u, hu, z⟩ => by simp at hu; rw [hu] at z; exact z⟩
            · intro r hr
              rw [e6, e7]
              refine ⟨(hvi2 r hr).elim (fun z => Or.inl z.1) (fun z => Or.inr z.1), ⟨fun z => ⟨i, by simp, z⟩, fun ⟨u, hu, z⟩ => by simp at hu; rw [hu] at z; exact z⟩, fun w hw _ => by simp at hw; rw [hw], fun z => ?_⟩
              have := z i (by simp)
              rcases hvi2 r hr with y | y
              · exact y.2
              · rw [y.1] at this; exact absurd this (by decide)
            · intro s _
              rw [e3, e4, e5, e6, e7]
              exact ⟨rfl, rfl, rfl, fun r _ => ⟨rfl, rfl⟩⟩
            · intro s
              rw [e1]
              exact ⟨fun z => absurd z (by simp), fun _ => rfl⟩
            · rw [e2, hPL]; rfl
          · have hp0 := hWlt p0 (by rw [hW]; simp)
            have hp0l : p0 < 200 := by omega
            have hp0i : p0 ≠ i := by omega
            rw [if_neg (by rw [hv0]; exact nI_m1 (by omega))]
            obtain ⟨H1, T1, d, a1, a2, a3, a4, a5⟩ := p_MOjoin k hk hp0l hi2 hp0i mo Ha Tl Fi Si En K c
            rw [hv0, a1, ob]
            obtain ⟨F1, hF1⟩ : ∃ F1, F1 = upd Fi p0 (if Fi i ≤ Fi p0 then Fi p0 else Fi i) := ⟨_, rfl⟩
            obtain ⟨S1, hS1⟩ : ∃ S1, S1 = upd Si p0 (Si p0 + Si i) := ⟨_, rfl⟩
            obtain ⟨D1, hD1⟩ : ∃ D1, D1 = upd En p0 d := ⟨_, rfl⟩
            obtain ⟨K1, hK1⟩ : ∃ K1, K1 = upd K i (-1) := ⟨_, rfl⟩
            rw [← hF1, ← hS1, ← hD1, ← hK1]
            have hWl : (shw mo q t e i).length + 1 ≤ PL := by
              refine Nat.le_trans ?_ hcap
              have : (shw mo q t e (i + 1)).length ≤ (shw mo q t e 200).length := by
                unfold shw
                exact List.Sublist.length_le (List.Sublist.filter _ (List.range_sublist.mpr (by omega)))
              rw [shw_yes hs, List.length_append] at this
              exact this
            refine ih n (i + 1) (nI p0) H1 T1 F1 S1 D1 K1 (c - 1) (by omega) (by omega) ?_
            rw [shw_yes hs]
            right
            have hnotin : ∀ w ∈ shw mo q t e i, w ≠ i := fun w hw => by have := (hWlt w hw).1; omega
            refine ⟨p0, W' ++ [i], by rw [hW]; rfl, rfl, ⟨?_, ?_, ?_, ?_⟩, ?_, ?_, ?_, ?_, ?_⟩
            · rw [List.map_append, List.map_cons, List.map_nil, hF1, pk_us, hcur.2.1]
              by_cases z : MO_sFired mo i ≤ Fi p0
              · rw [if_pos z]; exact isMxI_keep hm2 z
              · rw [if_neg z]; exact isMxI_take hm2 z
            · rw [List.map_append, List.map_cons, List.map_nil, isum_app, hS1, pk_us, hcur.2.2.1, hm3]
            · rw [hD1, pk_us]; exact a2
            · rw [hD1, pk_us, a3, hm5, hcur.2.2.2.1]
              constructor
              · rintro (⟨u, hu, z⟩ | z)
                · exact ⟨u, List.mem_append_left _ hu, z⟩
                · exact ⟨i, by simp, z⟩
              · rintro ⟨u, hu, z⟩
                rw [List.mem_append, List.mem_singleton] at hu
                rcases hu with hu | rfl
                · exact Or.inl ⟨u, hu, z⟩
                · exact Or.inr z
            · intro r hr
              obtain ⟨y1, y2, y3, y4⟩ := hbt r hr
              have hHi := (hcur.2.2.2.2 r hr).1
              have hTi := (hcur.2.2.2.2 r hr).2
              rw [a4 _ _ hr, a5 _ _ hr, hHi, hTi]
              by_cases z : MO_has mo (300 * i + r) = 0
              · rw [if_neg (fun y => y.2 z), if_neg (fun y => y.2 z)]
                refine ⟨y1, y2.trans ⟨fun ⟨w, hw, y⟩ => ⟨w, List.mem_append_left _ hw, y⟩, fun ⟨w, hw, y⟩ => ?_⟩, ?_, ?_⟩
                · rw [List.mem_append, List.mem_singleton] at hw
                  rcases hw with hw | rfl
                  · exact ⟨w, hw, y⟩
                  · exact absurd z y
                · intro w hw y
                  rw [List.mem_append, List.mem_singleton] at hw
                  rcases hw with hw | rfl
                  · exact y3 w hw y
                  · exact absurd z y
                · intro y
                  exact y4 (fun w hw => y w (List.mem_append_left _ hw))
              · rw [if_pos ⟨rfl, z⟩, if_pos ⟨rfl, z⟩]
                have hold : ∀ w ∈ shw mo q t e i, MO_has mo (300 * w + r) = 0 := fun w hw => (hd w i (by have := (hWlt w hw).1; omega) hi2 (hnotin w hw) (hWlt w hw).2 hs r hr).resolve_right z
                have htn : vp_nar .boolean (MO_toldOf mo (300 * i + r)) = MO_toldOf mo (300 * i + r) := by
                  rcases hvi2 r hr with y | ⟨_, y | y⟩
                  · exact absurd y.1 z
                  · rw [y]; rfl
                  · rw [y]; rfl
                refine ⟨Or.inr rfl, ⟨fun _ => ⟨i, by simp, z⟩, fun _ => by decide⟩, ?_, ?_⟩
                · intro w hw y
                  rw [List.mem_append, List.mem_singleton] at hw
                  rcases hw with hw | rfl
                  · exact absurd (hold w hw) y
                  · exact htn
                · intro y
                  exact absurd (y i (by simp)) z
            · intro s hs'
              obtain ⟨o2, o3, o4, o5⟩ := hoth s hs'
              rw [hF1, hS1, hD1, pk_un hs', pk_un hs', pk_un hs']
              refine ⟨o2, o3, o4, fun r hr => ?_⟩
              rw [a4 _ _ hr, a5 _ _ hr, if_neg (fun z => hs' z.1), if_neg (fun z => hs' z.1)]
              exact o5 r hr
            · intro s
              rw [hK1, List.mem_append, List.mem_singleton]
              by_cases z : s = i
              · rw [z, pk_us]
                exact ⟨fun _ => rfl, fun y => absurd (Or.inr rfl) y⟩
              · rw [pk_un z]
                exact ⟨fun y => (hK s).1 (y.resolve_right z), fun y => (hK s).2 (fun w => y (Or.inl w))⟩
            · rw [hc, List.length_append, List.length_singleton]
              rw [hW, List.length_cons] at hWl
              obtain ⟨x, hx⟩ : ∃ x, PL - W'.length = x + 1 := ⟨PL - W'.length - 1, by omega⟩
              rw [hx, nI_s1.1, show PL - (W'.length + 1) = x by omega]
            · rw [List.length_append, List.length_singleton]
              rw [hW, List.length_cons] at hWl
              omega
    · rw [if_neg c1]
      exact no (fun z => c1 (shs_iff.mp z).1)
