theorem p_slideIncL (r : Int64) (hr : r.toInt ≤ 4000000000000) : ∀ (n : Nat) (v : Int64) (la la' : LAt) (m : Nat), LA_found la = nI m → m ≤ 16 → (1 ≤ (LA_step la).toInt ∧ (LA_step la).toInt ≤ 65536) → (-1000000000 ≤ (LA_shift la).toInt ∧ (LA_shift la).toInt ≤ 1000000000) → -4000000000000 ≤ v.toInt →
    (∀ i : Nat, i < m → (LA_begins la i).toInt < (LA_shift la).toInt + (LA_step la).toInt * v.toInt) → (∀ i j : Nat, i < j → j < m → (LA_begins la i).toInt < (LA_begins la j).toInt) → f_LA_slide_L36 r n v la = some la' →
    ∀ m' : Nat, m' ≤ 16 → LA_found la' = nI m' → ∀ i j : Nat, i < j → j < m' → (LA_begins la' i).toInt < (LA_begins la' j).toInt := by
  intro n
  induction n with
  | zero => intro v la la' m _ _ _ _ _ _ _ h; exact absurd h (by rw [f_LA_slide_L36]; simp)
  | succ n ih =>
    intro v la la' m hm hm2 hs ho hv h1 h2 h m' hm' hf
    rw [f_LA_slide_L36] at h
    by_cases hc : r < v
    · rw [if_pos hc] at h
      have e := Option.some.inj h
      subst e
      have : m = m' := (nI_eq (by omega) (by omega)).mp (hm.symm.trans hf)
      subst this
      exact h2
    · rw [if_neg hc] at h
      rw [pl_lt] at hc
      have hst0 : -262144000000000000 ≤ (LA_step la).toInt * v.toInt ∧ (LA_step la).toInt * v.toInt ≤ 262144000000000000 := by
        constructor
        · have h1 : (LA_step la).toInt * (-4000000000000) ≤ (LA_step la).toInt * v.toInt := Int.mul_le_mul_of_nonneg_left hv (by omega)
          omega
        · have h1 : (LA_step la).toInt * v.toInt ≤ (LA_step la).toInt * 4000000000000 := Int.mul_le_mul_of_nonneg_left (by omega) (by omega)
          omega
      have hmul : (LA_step la * v).toInt = (LA_step la).toInt * v.toInt := pl_mul (by omega) (by omega)
      have hadd : (LA_shift la + LA_step la * v).toInt = (LA_shift la).toInt + (LA_step la).toInt * v.toInt := by
        rw [pl_add (by omega) (by omega), hmul]
      have hv1 : (v + 1).toInt = v.toInt + 1 := by
        rw [pl_add (by rw [show (1 : Int64).toInt = 1 from rfl]; omega) (by rw [show (1 : Int64).toInt = 1 from rfl]; omega)]
        rfl
      have hst : (LA_step la).toInt * v.toInt + 1 ≤ (LA_step la).toInt * (v + 1).toInt := by
        rw [hv1, Int.mul_add, Int.mul_one]
        omega
      unfold f_LA_add at h
      by_cases hfull : m = 16
      · subst hfull
        rw [hm, if_pos (by decide), ob] at h
        dsimp only [gl_let] at h
        exact ih (v + 1) la la' 16 hm (by omega) hs ho (by omega) (fun i hi => by have := h1 i hi; omega) h2 h m' hm' hf
      · rw [hm, if_neg (show ¬ (16 : Int32) ≤ nI m from nI_ge (a := m) (b := 16) (by omega) (by omega)), if_neg (nI_in (show m < 16 by omega) (by omega)), nI_clamp (by omega), ob] at h
        dsimp only [gl_let] at h
        rw [nI_1] at h
        obtain ⟨fb, hfb⟩ : ∃ fb, fb = vp_updL (LA_begins la) m (LA_shift la + LA_step la * v) := ⟨_, rfl⟩
        rw [← hfb] at h
        have g0 : ∀ i : Nat, i < m → fb i = LA_begins la i := fun i hi => by rw [hfb, pk_uLn (by omega)]
        have g1 : fb m = LA_shift la + LA_step la * v := by rw [hfb, pk_uLs]
        refine ih (v + 1) (sLA_found (sLA_ends (sLA_begins la fb) (vp_updL (LA_ends la) m (LA_shift la + LA_step la * v + LA_size la))) (nI (m + 1))) la' (m + 1) rfl (by omega) hs ho (by omega) ?_ ?_ h m' hm' hf
        · intro i hi
          show (fb i).toInt < (LA_shift la).toInt + (LA_step la).toInt * (v + 1).toInt
          by_cases e : i = m
          · subst e
            rw [g1, hadd]
            omega
          · rw [g0 i (by omega)]
            have := h1 i (by omega)
            omega
        · intro i j hij hj
          show (fb i).toInt < (fb j).toInt
          by_cases e : j = m
          · subst e
            rw [g1, hadd, g0 i hij]
            exact h1 i hij
          · rw [g0 i (by omega), g0 j (by omega)]
            exact h2 i j hij (by omega)
theorem p_slideInc (k : Nat) {la la' : LAt} {mo : MOt} (hS : ST la mo) (t : Int64) (ht1 : -1000000000000 ≤ t.toInt) (ht2 : t.toInt ≤ 1000000000000) (h : f_LA_slide k t (sLA_found la 0) = some la') (n : Nat) (hn : n ≤ 16) (hf : LA_found la' = nI n) : ∀ i j : Nat, i < j → j < n → (LA_begins la' i).toInt < (LA_begins la' j).toInt := by
  obtain ⟨⟨a1, a2, a3, a4, a5⟩, ⟨k1, k2⟩, ⟨s1, s2⟩, ⟨p1, p2⟩, -, -, ⟨o1, o2⟩, -⟩ := hS
  have hst : (LA_step la).toInt = (MO_step mo).toInt := by rw [a3, p_toL]
  have hsz : (LA_size la).toInt = (MO_size mo).toInt := by rw [a2, p_toL]
  unfold f_LA_slide at h
  change ((f_SR_by (t - LA_shift la) (LA_step la)).bind fun r => (f_SR_by (t - LA_shift la - LA_size la) (LA_step la)).bind fun r_1 => gl_let (r_1 + 1) fun v5 => (f_LA_slide_L36 r k v5 (sLA_found la 0)).bind fun la_2 => some la_2) = some la' at h
  have d1 : (t - LA_shift la).toInt = t.toInt - (MO_offset mo).toInt := by rw [a4, pl_sub (by omega) (by omega)]
  have d2 : (t - LA_shift la - LA_size la).toInt = t.toInt - (MO_offset mo).toInt - (MO_size mo).toInt := by rw [pl_sub (by omega) (by omega), d1, hsz]
  obtain ⟨r, e1, e2⟩ := p_by (t - LA_shift la) (LA_step la) (by omega)
  obtain ⟨r1, e3, e4⟩ := p_by (t - LA_shift la - LA_size la) (LA_step la) (by omega)
  rw [e1, ob, e3, ob] at h
  dsimp only [gl_let] at h
  rw [p_bindsome] at h
  rw [d1, hst] at e2
  rw [d2, hst] at e4
  have b1 : r.toInt ≤ 2000000000000 := by
    rw [e2]
    exact Int.le_trans (Int.ediv_le_of_le_mul (by omega) (b := 2000000000000) (by
      have : 2000000000000 * 1 ≤ 2000000000000 * (MO_step mo).toInt := Int.mul_le_mul_of_nonneg_left p1 (by omega)
      omega)) (Int.le_refl _)
  have b2 : -2000000000000 ≤ r1.toInt := by
    rw [e4]
    exact Int.le_ediv_of_mul_le (by omega) (by
      have : (-2000000000000) * (MO_step mo).toInt ≤ (-2000000000000) * 1 := Int.mul_le_mul_of_nonpos_left (by omega) p1
      omega)
  have b3 : r1.toInt ≤ 2000000000000 := by
    rw [e4]
    exact Int.le_trans (Int.ediv_le_of_le_mul (by omega) (b := 2000000000000) (by
      have : 2000000000000 * 1 ≤ 2000000000000 * (MO_step mo).toInt := Int.mul_le_mul_of_nonneg_left p1 (by omega)
      omega)) (Int.le_refl _)
  have hv1 : (r1 + 1).toInt = r1.toInt + 1 := by
    rw [pl_add (by rw [show (1 : Int64).toInt = 1 from rfl]; omega) (by rw [show (1 : Int64).toInt = 1 from rfl]; omega)]
    rfl
  exact p_slideIncL r (by omega) k (r1 + 1) (sLA_found la 0) la' 0 rfl (by omega) (show 1 ≤ (LA_step la).toInt ∧ (LA_step la).toInt ≤ 65536 by omega) (show -1000000000 ≤ (LA_shift la).toInt ∧ (LA_shift la).toInt ≤ 1000000000 by rw [a4]; omega) (by omega) (fun i hi => by omega) (fun i j h1 h2 => by omega) h n hn hf
/-- the wanted spans as a list -/
def LL (b e : Nat → Int64) (W : List (Int64 × Int64)) : Prop := ∀ (i : Nat) (w : Int64 × Int64), W[i]? = some w → b i = w.1 ∧ e i = w.2
theorem LL.at {b e : Nat → Int64} {W1 W2 : List (Int64 × Int64)} {w : Int64 × Int64} (h : LL b e (W1 ++ w :: W2)) : b W1.length = w.1 ∧ e W1.length = w.2 := h _ _ (by simp)
theorem p_keepL (x : Int64) : ∀ (W2 W1 K : List (Int64 × Int64)) (n : Nat) (la : LAt), W2.length < n → LA_found la = nI (W1.length + W2.length) → W1.length + W2.length ≤ 16 → K.length ≤ W1.length → LL (LA_begins la) (LA_ends la) K → (∀ (i : Nat) (w : Int64 × Int64), W2[i]? = some w → LA_begins la (W1.length + i) = w.1 ∧ LA_ends la (W1.length + i) = w.2) →
    ∃ b e : Nat → Int64, f_LA_keepEndsAbove_L5 x n (nI K.length) (nI W1.length) la = some (nI (K ++ W2.filter (fun w => decide (¬ w.2 ≤ x))).length, sLA_ends (sLA_begins la b) e) ∧ LL b e (K ++ W2.filter (fun w => decide (¬ w.2 ≤ x))) := by
  intro W2
  induction W2 with
  | nil =>
    intro W1 K n la hn hf hl hk hK hW
    obtain ⟨m, rfl⟩ : ∃ m, n = m + 1 := ⟨n - 1, by omega⟩
    rw [f_LA_keepEndsAbove_L5, hf, if_pos (nI_le (by simp) (by simp at hl; omega))]
    refine ⟨LA_begins la, LA_ends la, ?_, ?_⟩
    · rw [List.filter_nil, List.append_nil]
    · rw [List.filter_nil, List.append_nil]
      exact hK
  | cons w W2 ih =>
    intro W1 K n la hn hf hl hk hK hW
    obtain ⟨m, rfl⟩ : ∃ m, n = m + 1 := ⟨n - 1, by omega⟩
    rw [List.length_cons] at hn hf hl
    obtain ⟨w1, w2⟩ := hW 0 w rfl
    rw [Nat.add_zero] at w1 w2
    rw [f_LA_keepEndsAbove_L5, hf, if_neg (nI_ge (by omega) (by omega)), if_neg (nI_in (show W1.length < 16 by omega) (by omega)), nI_clamp (by omega), w1, w2]
    dsimp only [gl_let]
    rw [nI_1]
    by_cases hc : w.2 ≤ x
    · rw [if_pos hc]
      have hf2 : (w :: W2).filter (fun w => decide (¬ w.2 ≤ x)) = W2.filter (fun w => decide (¬ w.2 ≤ x)) := List.filter_cons_of_neg (by simpa using hc)
      rw [hf2]
      have := ih (W1 ++ [w]) K m la (by omega) (by rw [hf]; simp; congr 1; omega) (by simp; omega) (by simp; omega) hK (fun i u hu => by
        have := hW (i + 1) u hu
        rw [List.length_append, List.length_singleton, Nat.add_assoc, Nat.add_comm 1 i]
        exact this)
      rw [List.length_append, List.length_singleton] at this
      exact this
    · rw [if_neg hc, if_neg (nI_in (show K.length < 16 by omega) (by omega)), nI_clamp (by omega), nI_1]
      have hf2 : (w :: W2).filter (fun w => decide (¬ w.2 ≤ x)) = w :: W2.filter (fun w => decide (¬ w.2 ≤ x)) := List.filter_cons_of_pos (by simpa using hc)
      rw [hf2, List.append_cons]
      obtain ⟨fb, hfb⟩ : ∃ fb, fb = vp_updL (LA_begins la) K.length w.1 := ⟨_, rfl⟩
      obtain ⟨fe, hfe⟩ : ∃ fe, fe = vp_updL (LA_ends la) K.length w.2 := ⟨_, rfl⟩
      rw [← hfb, ← hfe]
      have := ih (W1 ++ [w]) (K ++ [w]) m (sLA_ends (sLA_begins la fb) fe) (by omega) (by show LA_found la = _; rw [hf]; simp; congr 1; omega) (by simp; omega) (by simp; omega)
        (fun i u hu => by
          show fb i = u.1 ∧ fe i = u.2
          rw [hfb, hfe]
          by_cases e : i = K.length
          · subst e
            rw [pk_uLs, pk_uLs]
            simp at hu
            rw [hu]
            exact ⟨rfl, rfl⟩
          · rw [pk_uLn e, pk_uLn e]
            apply hK
            rw [List.getElem?_append] at hu
            by_cases z : i < K.length
            · rw [if_pos z] at hu; exact hu
            · rw [if_neg z] at hu
              obtain ⟨j, hj⟩ : ∃ j, i - K.length = j + 1 := ⟨i - K.length - 1, by omega⟩
              rw [hj] at hu
              exact absurd hu (by simp))
        (fun i u hu => by
          have := hW (i + 1) u hu
          rw [List.length_append, List.length_singleton, Nat.add_assoc, Nat.add_comm 1 i]
          show fb (W1.length + (i + 1)) = u.1 ∧ fe (W1.length + (i + 1)) = u.2
          rw [hfb, hfe, pk_uLn (by omega), pk_uLn (by omega)]
          exact this)
      rw [List.length_append, List.length_singleton, List.length_append, List.length_singleton] at this
      exact this
theorem p_keep (k : Nat) (hk : 5000 ≤ k) (x : Int64) {W : List (Int64 × Int64)} {la : LAt} (hf : LA_found la = nI W.length) (hl : W.length ≤ 16) (hW : LL (LA_begins la) (LA_ends la) W) :
    ∃ b e : Nat → Int64, f_LA_keepEndsAbove k x la = some (sLA_found (sLA_ends (sLA_begins la b) e) (nI (W.filter (fun w => decide (¬ w.2 ≤ x))).length)) ∧ LL b e (W.filter (fun w => decide (¬ w.2 ≤ x))) := by
  obtain ⟨b, e, e1, e2⟩ := p_keepL x W [] [] k la (by omega) (by simpa using hf) (by simpa using hl) (by simp) (fun i w h => absurd h (by simp)) (fun i w h => by simpa using hW i w h)
  rw [List.length_nil, nI_0, List.nil_append] at e1
  rw [List.nil_append] at e2
  refine ⟨b, e, ?_, e2⟩
  unfold f_LA_keepEndsAbove
  rw [e1, ob]
