def CG (co : COt) (g : Nat → Int64) (m : Nat) : Prop := CO_rows co = nI m ∧ g 0 = (nI m).toInt64 ∧ CO_sum co = g 1 ∧ CO_least co = g 2 ∧ CO_greatest co = g 3 ∧ CO_mix co = g 4
theorem CG.cr {co : COt} {mo : MOt} {m : Nat} (h : CG co (MO_got mo) m) : CR co mo := by
  obtain ⟨h1, h2, h3, h4, h5, h6⟩ := h
  intro i hi
  unfold f_CO_part
  rcases (show i = 0 ∨ i = 1 ∨ i = 2 ∨ i = 3 ∨ i = 4 by omega) with rfl | rfl | rfl | rfl | rfl
  · rw [if_pos (by decide), h1, h2]
  · rw [if_neg (by decide), if_pos (by decide), h3]
  · rw [if_neg (by decide), if_neg (by decide), if_pos (by decide), h4]
  · rw [if_neg (by decide), if_neg (by decide), if_neg (by decide), if_pos (by decide), h5]
  · rw [if_neg (by decide), if_neg (by decide), if_neg (by decide), if_neg (by decide), h6]
theorem p_L2c : ∀ (n i : Nat) (mo : MOt), i ≤ 5 → 5 - i < n → ∃ g : Nat → Int64, f_MO_contents_L2 n (nI i) mo = some (sMO_got mo g) ∧ ∀ j : Nat, g j = if i ≤ j ∧ j < 5 then 0 else MO_got mo j := by
  intro n
  induction n with
  | zero => intro i mo _ h; omega
  | succ n ih =>
    intro i mo hi hn
    rw [f_MO_contents_L2]
    by_cases hc : i = 5
    · subst hc
      rw [if_pos (by decide)]
      exact ⟨MO_got mo, rfl, fun j => by rw [if_neg (by omega)]⟩
    · rw [if_neg (show ¬ (5 : Int32) ≤ nI i from nI_ge (a := i) (b := 5) (by omega) (by omega)), if_neg (nI_in (by omega) (by omega)), nI_clamp (by omega)]
      dsimp only [gl_let]
      rw [nI_1]
      obtain ⟨f, f1, f2⟩ := ih (i + 1) (sMO_got mo (vp_updL (MO_got mo) i 0)) (by omega) (by omega)
      refine ⟨f, f1, fun j => ?_⟩
      rw [f2 j]
      show (if i + 1 ≤ j ∧ j < 5 then (0 : Int64) else vp_updL (MO_got mo) i 0 j) = _
      by_cases hj : j = i
      · subst hj
        rw [if_neg (by omega), if_pos (by omega), pk_uLs]
      · by_cases hq : i ≤ j ∧ j < 5
        · rw [if_pos (by omega), if_pos hq]
        · rw [if_neg (by omega), if_neg hq, pk_uLn hj]
theorem p_got0 {m : Nat} (hm : m ≤ 1000) : ((nI m).toInt64 = 0) ↔ (nI m = 0) := by
  rw [pl_eq, pi_eq, pi_l]
  exact Iff.rfl
theorem p_L22 (k : Nat) (hk : 5000 ≤ k) (vals : Nat → Int64) : ∀ (Q : List (Nat × Nat)) (n : Nat) (v : Int32) (mo : MOt) (co : COt) (m : Nat), ¬ v = -1 → Q.length + 1 < n → m + Q.length ≤ 1000 → CG co (MO_got mo) m → Q.Pairwise (fun p q => bfr (MO_rTime mo) (MO_rCame mo) p.2 q.2) → (∀ r : Nat, r < 300 → (¬ MO_isIn mo r = 0 ↔ r ∈ Q.map Prod.snd)) → (∀ p ∈ Q, p.2 < 300) → (∀ p ∈ Q, vals p.1 = MO_rValue mo p.2) →
    ∃ (g : Nat → Int64) (j : Nat → Int32), f_MO_contents_L22 k n v mo = some (sMO_isIn (sMO_got mo g) j) ∧ CG (cof vals Q co) g (m + Q.length) := by
  intro Q
  induction Q with
  | nil =>
    intro n v mo co m hv hn hm hC hP hS hl he
    obtain ⟨n', rfl⟩ : ∃ n', n = n' + 2 := ⟨n - 2, by simp at hn; omega⟩
    rw [f_MO_contents_L22, if_neg hv]
    obtain ⟨v', e1, e2⟩ := p_L31 mo k 0 (-1) (by omega) (by omega) (Or.inl ⟨rfl, fun r hr => absurd hr (by omega)⟩)
    rw [nI_0] at e1
    rw [e1]
    dsimp only [Option.bind]
    rcases fnd_list e2 hP hS hl with ⟨_, h2⟩ | ⟨p, R, h1, _⟩
    · rw [if_pos h2, f_MO_contents_L22, if_pos h2]
      exact ⟨MO_got mo, MO_isIn mo, rfl, hC⟩
    · exact absurd h1 (by simp)
  | cons p Q ih =>
    intro n v mo co m hv hn hm hC hP hS hl he
    obtain ⟨n', rfl⟩ : ∃ n', n = n' + 1 := ⟨n - 1, by omega⟩
    have hlp := hl p (by simp)
    rw [f_MO_contents_L22, if_neg hv]
    obtain ⟨v', e1, e2⟩ := p_L31 mo k 0 (-1) (by omega) (by omega) (Or.inl ⟨rfl, fun r hr => absurd hr (by omega)⟩)
    rw [nI_0] at e1
    rw [e1]
    dsimp only [Option.bind]
    rcases fnd_list e2 hP hS hl with ⟨h1, _⟩ | ⟨p', R, h1, h2⟩
    · exact absurd h1 (by simp)
    · obtain ⟨rfl, rfl⟩ := List.cons.inj h1
      subst h2
      rw [if_neg (nI_m1 (by omega)), if_neg (nI_in hlp (by omega)), nI_clamp (by omega)]
      dsimp only [gl_let]
      have hval := he p (by simp)
      obtain ⟨c1, c2, c3, c4, c5, c6⟩ := hC
      have hm' : m ≤ 1000 := by omega
      have k0 : (0 : Int32).toNatClampNeg = 0 := rfl
      have k1 : (1 : Int32).toNatClampNeg = 1 := rfl
      have k2 : (2 : Int32).toNatClampNeg = 2 := rfl
      have k3 : (3 : Int32).toNatClampNeg = 3 := rfl
      have k4 : (4 : Int32).toNatClampNeg = 4 := rfl
      have hB1 : f_MO_contents_B93 mo (MO_rValue mo p.2) = some (f_CO_add_B5 (MO_rValue mo p.2) co) := by
        unfold f_MO_contents_B93 f_CO_add_B5
        rw [k0, k2, c2, c1, c4]
        by_cases z : nI m = 0
        · rw [if_pos ((p_got0 hm').mpr z), if_pos z]
        · rw [if_neg (fun y => z ((p_got0 hm').mp y)), if_neg z]
          by_cases y : MO_got mo 2 ≤ MO_rValue mo p.2
          · rw [if_pos y, if_neg (by rw [pl_lt]; rw [pl_le] at y; omega)]
          · rw [if_neg y, if_pos (by rw [pl_lt]; rw [pl_le] at y; omega)]
      rw [hB1]
      dsimp only
      obtain ⟨t, ht⟩ : ∃ t, t = f_CO_add_B5 (MO_rValue mo p.2) co := ⟨_, rfl⟩
      rw [← ht]
      have hB2 : f_MO_contents_B131 mo (MO_rValue mo p.2) t (sMO_got mo (vp_updL (MO_got mo) (2 : Int32).toNatClampNeg t)) = some (f_CO_add_B28 (MO_rValue mo p.2) co (sCO_least co t)) := by
        unfold f_MO_contents_B131 f_CO_add_B28
        rw [k0, k2, k3, pk_uLn (by decide), c2, c1]
        show (if _ then _ else if _ ≤ vp_updL (MO_got mo) 2 t 3 then some (vp_updL (MO_got mo) 2 t 3) else _) = some (if _ then _ else if _ < CO_greatest co then CO_greatest co else _)
        rw [pk_uLn (by decide), c5]
        by_cases z : nI m = 0
        · rw [if_pos ((p_got0 hm').mpr z), if_pos z]
        · rw [if_neg (fun y => z ((p_got0 hm').mp y)), if_neg z]
          by_cases y : MO_rValue mo p.2 < MO_got mo 3
          · rw [if_pos y, if_pos (by rw [pl_le]; rw [pl_lt] at y; omega)]
          · rw [if_neg y]
            by_cases x : MO_rValue mo p.2 ≤ MO_got mo 3
            · rw [if_pos x, show MO_got mo 3 = MO_rValue mo p.2 from by rw [pl_eq]; rw [pl_lt] at y; rw [pl_le] at x; omega]
            · rw [if_neg x]
      rw [hB2]
      dsimp only
      obtain ⟨t1, ht1⟩ : ∃ t1, t1 = f_CO_add_B28 (MO_rValue mo p.2) co (sCO_least co t) := ⟨_, rfl⟩
      rw [← ht1, k0, k1, k2, k3, k4]
      have hco : f_CO_add (vals p.1) co = sCO_mix (sCO_greatest (sCO_sum (sCO_rows (sCO_least co t) (CO_rows co + 1)) (CO_sum co + MO_rValue mo p.2)) t1) (31 * CO_mix co + MO_rValue mo p.2) := by
        rw [hval, ht1, ht]
        rfl
      have hm1 : (nI m).toInt64 + 1 = (nI (m + 1)).toInt64 := by
        rw [pl_eq, pi_l, nI_toInt (by omega), pl_add (by rw [pi_l, nI_toInt (by omega), show (1 : Int64).toInt = 1 from rfl]; omega) (by rw [pi_l, nI_toInt (by omega), show (1 : Int64).toInt = 1 from rfl]; omega), pi_l, nI_toInt (by omega), show (1 : Int64).toInt = 1 from rfl]
        omega
      obtain ⟨g, j, hg1, hg2⟩ := ih n' (nI p.2) (sMO_isIn (sMO_got mo (vp_updL (vp_updL (vp_updL (vp_updL (vp_updL (MO_got mo) 2 t) 3 t1) 0 (MO_got mo 0 + 1)) 1 (MO_got mo 1 + MO_rValue mo p.2)) 4 (31 * MO_got mo 4 + MO_rValue mo p.2))) (upd (MO_isIn mo) p.2 0)) (f_CO_add (vals p.1) co) (m + 1) (nI_m1 (by omega)) (by simp at hn; omega) (by simp at hm; omega)
        (by
          rw [hco]
          refine ⟨?_, ?_, ?_, rfl, rfl, ?_⟩
          · show CO_rows co + 1 = _
            rw [c1, nI_1]
          · show MO_got mo 0 + 1 = _
            rw [c2, hm1]
          · show CO_sum co + MO_rValue mo p.2 = MO_got mo 1 + MO_rValue mo p.2
            rw [c3]
          · show 31 * CO_mix co + MO_rValue mo p.2 = 31 * MO_got mo 4 + MO_rValue mo p.2
            rw [c6])
        (List.pairwise_cons.mp hP).2
        (by
          intro r hr
          show ¬ upd (MO_isIn mo) p.2 0 r = 0 ↔ _
          by_cases e : r = p.2
          · subst e
            rw [pk_us]
            refine ⟨fun z => absurd rfl z, fun z => ?_⟩
            obtain ⟨q, hq, hq2⟩ := List.mem_map.mp z
            have := (List.pairwise_cons.mp hP).1 q hq
            rw [hq2] at this
            exact absurd this (bfr_irr _ _ _)
          · rw [pk_un e, hS r hr, List.map_cons, List.mem_cons]
            exact ⟨fun z => z.resolve_left e, Or.inr⟩)
        (fun q hq => hl q (List.mem_cons_of_mem _ hq)) (fun q hq => he q (List.mem_cons_of_mem _ hq))
      refine ⟨g, j, hg1, ?_⟩
      rw [show m + (p :: Q).length = m + 1 + Q.length by simp; omega]
      exact hg2
theorem p_contents (k : Nat) (hk : 5000 ≤ k) (vals : Nat → Int64) (Q : List (Nat × Nat)) (mo : MOt) (co : COt) (hq : Q.length ≤ 300) (hP : Q.Pairwise (fun p q => bfr (MO_rTime mo) (MO_rCame mo) p.2 q.2)) (hS : ∀ r : Nat, r < 300 → (¬ MO_isIn mo r = 0 ↔ r ∈ Q.map Prod.snd)) (hl : ∀ p ∈ Q, p.2 < 300) (he : ∀ p ∈ Q, vals p.1 = MO_rValue mo p.2) :
    ∃ (g : Nat → Int64) (j : Nat → Int32), f_MO_contents k mo = some (sMO_isIn (sMO_got mo g) j) ∧ CG (cof vals Q (f_CO_clear co)) g Q.length := by
  unfold f_MO_contents
  obtain ⟨g, g1, g2⟩ := p_L2c k 0 mo (by omega) (by omega)
  rw [nI_0] at g1
  rw [g1]
  dsimp only [Option.bind]
  obtain ⟨g', j, e1, e2⟩ := p_L22 k hk vals Q k 0 (sMO_got mo g) (f_CO_clear co) 0 (by decide) (by omega) (by omega)
    (by
      have z : ∀ i, i < 5 → g i = 0 := fun i hi => by rw [g2 i, if_pos ⟨by omega, hi⟩]
      exact ⟨nI_0.symm, z 0 (by omega), (z 1 (by omega)).symm, (z 2 (by omega)).symm, (z 3 (by omega)).symm, (z 4 (by omega)).symm⟩)
    hP hS hl he
  rw [e1]
  refine ⟨g', j, rfl, ?_⟩
  rw [Nat.zero_add] at e2
  exact e2
