theorem oa_swap {f : Nat → Int32} {K D R : List Nat} {r : Nat} (h : OA f (K ++ D ++ r :: R)) : ∃ D' : List Nat, D'.Perm D ∧ OA (upd (upd f (K.length + D.length) (f K.length)) K.length (nI r)) (K ++ r :: (D' ++ R)) := by
  cases D with
  | nil =>
    rw [List.append_nil] at h
    have h1 := oa_get h
    have h2 := oa_set (oa_set h r) r
    refine ⟨[], List.Perm.refl _, ?_⟩
    rw [List.length_nil, Nat.add_zero, h1]
    exact h2
  | cons d D =>
    have h0 := h
    rw [List.append_assoc, List.cons_append] at h0
    have h1 := oa_get h0
    have h2 := oa_set h d
    rw [List.length_append, List.append_assoc, List.cons_append] at h2
    have h3 := oa_set h2 r
    refine ⟨D ++ [d], (List.perm_append_singleton d D), ?_⟩
    rw [h1, List.append_assoc, List.singleton_append]
    exact h3
def stR (rs : RSt) (x : Nat) : Bool := decide (RS_leaves rs x = 0)
theorem p_RSsweepL (F : List Nat) : ∀ (R K D : List Nat) (n : Nat) (rs : RSt), R.length < n → OA (RS_order rs) (K ++ D ++ (R ++ F)) → RS_kept rs = nI (K.length + D.length + R.length) → K.length + D.length + R.length ≤ 300 → (∀ x ∈ R, x < 300) →
    ∃ (o : Nat → Int32) (D' : List Nat), f_RS_sweep_L4 n (nI K.length) (nI (K.length + D.length)) rs = some (nI (K ++ R.filter (stR rs)).length, sRS_order rs o) ∧ OA o (K ++ R.filter (stR rs) ++ (D' ++ F)) ∧ D'.Perm (D ++ R.filter (fun x => !stR rs x)) := by
  intro R
  induction R with
  | nil =>
    intro K D n rs hn hO hk hl hx
    obtain ⟨m, rfl⟩ : ∃ m, n = m + 1 := ⟨n - 1, by omega⟩
    rw [f_RS_sweep_L4, hk, if_pos (nI_le (by simp) (by omega))]
    refine ⟨RS_order rs, D, ?_, ?_, ?_⟩
    · rw [List.filter_nil, List.append_nil]
    · rw [List.filter_nil, List.append_nil, ← List.append_assoc]
      exact hO
    · rw [List.filter_nil, List.append_nil]
  | cons x R ih =>
    intro K D n rs hn hO hk hl hx
    obtain ⟨m, rfl⟩ : ∃ m, n = m + 1 := ⟨n - 1, by omega⟩
    rw [List.length_cons] at hn hk hl
    have hxl := hx x (by simp)
    rw [List.cons_append] at hO
    have hg := oa_get hO
    rw [List.length_append] at hg
    rw [f_RS_sweep_L4, hk, if_neg (nI_ge (by omega) (by omega)), if_neg (nI_in (show K.length + D.length < 300 by omega) (by omega)), nI_clamp (by omega)]
    dsimp only [gl_let]
    rw [hg, if_neg (nI_in hxl (by omega)), nI_clamp (show x < 2 ^ 31 by omega)]
    by_cases hc : RS_leaves rs x = 0
    · rw [if_pos hc]
      have hkl : K.length < 300 := by omega
      rw [if_neg (nI_in hkl (by omega)), nI_clamp (show K.length < 2 ^ 31 by omega), nI_1, nI_1]
      obtain ⟨D', h1, h2⟩ := oa_swap hO
      have hd := h1.length_eq
      obtain ⟨o, D2, e1, e2, e3⟩ := ih (K ++ [x]) D' m (sRS_order rs (upd (upd (RS_order rs) (K.length + D.length) (RS_order rs K.length)) K.length (nI x))) (by omega) (by rw [List.append_assoc, List.append_assoc, List.singleton_append]; exact h2) (by rw [List.length_append, List.length_singleton, hd, show K.length + 1 + D.length + R.length = K.length + D.length + (R.length + 1) by omega]; exact hk) (by rw [List.length_append, List.length_singleton]; omega) (fun y hy => hx y (List.mem_cons_of_mem _ hy))
      rw [List.length_append, List.length_singleton, hd, show K.length + 1 + D.length = K.length + D.length + 1 by omega] at e1
      have hf : (x :: R).filter (stR rs) = x :: R.filter (stR rs) := List.filter_cons_of_pos (decide_eq_true hc)
      have hf2 : (x :: R).filter (fun y => !stR rs y) = R.filter (fun y => !stR rs y) := List.filter_cons_of_neg (by rw [show stR rs x = true from decide_eq_true hc]; decide)
      refine ⟨o, D2, ?_, ?_, ?_⟩
      · rw [hf, List.append_cons]
        exact e1
      · rw [hf, List.append_cons]
        exact e2
      · rw [hf2]
        exact e3.trans (List.Perm.append_right _ h1)
    · rw [if_neg hc]
      rw [nI_1]
      obtain ⟨o, D2, e1, e2, e3⟩ := ih K (D ++ [x]) m rs (by omega) (by rw [← List.append_assoc K, List.append_assoc (K ++ D), List.singleton_append]; exact hO) (by rw [List.length_append, List.length_singleton, show K.length + (D.length + 1) + R.length = K.length + D.length + (R.length + 1) by omega]; exact hk) (by rw [List.length_append, List.length_singleton]; omega) (fun y hy => hx y (List.mem_cons_of_mem _ hy))
      rw [List.length_append, List.length_singleton, ← Nat.add_assoc] at e1
      have hf : (x :: R).filter (stR rs) = R.filter (stR rs) := List.filter_cons_of_neg (by rw [show stR rs x = false from decide_eq_false hc]; decide)
      have hf2 : (x :: R).filter (fun y => !stR rs y) = x :: R.filter (fun y => !stR rs y) := List.filter_cons_of_pos (by rw [show stR rs x = false from decide_eq_false hc]; decide)
      refine ⟨o, D2, ?_, ?_, ?_⟩
      · rw [hf]
        exact e1
      · rw [hf]
        exact e2
      · rw [hf2, List.append_cons]
        exact e3
/-- a sweep -/
theorem p_RSsweep (k : Nat) (hk : 5000 ≤ k) {A F : List Nat} {rs : RSt} (hO : OA (RS_order rs) (A ++ F)) (hP : (A ++ F).Perm (List.range 300)) (hK : RS_kept rs = nI A.length) :
    ∃ (o : Nat → Int32) (F' : List Nat), f_RS_sweep k rs = some (sRS_kept (sRS_order rs o) (nI (A.filter (stR rs)).length)) ∧ OA o (A.filter (stR rs) ++ F') ∧ (A.filter (stR rs) ++ F').Perm (List.range 300) := by
  have hl : A.length ≤ 300 := by
    have := hP.length_eq
    simp at this
    omega
  obtain ⟨o, D', e1, e2, e3⟩ := p_RSsweepL F A [] [] k rs (by omega) (by simpa using hO) (by simpa using hK) (by simpa using hl) (fun x hx => List.mem_range.mp (hP.mem_iff.mp (List.mem_append_left _ hx)))
  unfold f_RS_sweep
  rw [List.length_nil, Nat.add_zero, nI_0, List.nil_append] at e1
  rw [e1, ob]
  refine ⟨o, D' ++ F, ?_, ?_, ?_⟩
  · rfl
  · simpa using e2
  · refine List.Perm.trans ?_ hP
    rw [← List.append_assoc]
    refine List.Perm.append_right F ?_
    refine List.Perm.trans (List.Perm.append_left _ e3) ?_
    rw [List.nil_append]
    exact List.filter_append_perm _ _
def stS (ss : SSt) (x : Nat) : Bool := decide (¬ SS_keys ss x = -1)
theorem p_SSsweepL (F : List Nat) : ∀ (R K D : List Nat) (n : Nat) (ss : SSt), R.length < n → OA (SS_order ss) (K ++ D ++ (R ++ F)) → SS_kept ss = nI (K.length + D.length + R.length) → K.length + D.length + R.length ≤ 200 → (∀ x ∈ R, x < 200) →
    ∃ (o : Nat → Int32) (D' : List Nat), f_SS_sweep_L4 n (nI K.length) (nI (K.length + D.length)) ss = some (nI (K ++ R.filter (stS ss)).length, sSS_order ss o) ∧ OA o (K ++ R.filter (stS ss) ++ (D' ++ F)) ∧ D'.Perm (D ++ R.filter (fun x => !stS ss x)) := by
  intro R
  induction R with
  | nil =>
    intro K D n ss hn hO hk hl hx
    obtain ⟨m, rfl⟩ : ∃ m, n = m + 1 := ⟨n - 1, by omega⟩
    rw [f_SS_sweep_L4, hk, if_pos (nI_le (by simp) (by omega))]
    refine ⟨SS_order ss, D, ?_, ?_, ?_⟩
    · rw [List.filter_nil, List.append_nil]
    · rw [List.filter_nil, List.append_nil, ← List.append_assoc]
      exact hO
    · rw [List.filter_nil, List.append_nil]
  | cons x R ih =>
    intro K D n ss hn hO hk hl hx
    obtain ⟨m, rfl⟩ : ∃ m, n = m + 1 := ⟨n - 1, by omega⟩
    rw [List.length_cons] at hn hk hl
    have hxl := hx x (by simp)
    rw [List.cons_append] at hO
    have hg := oa_get hO
    rw [List.length_append] at hg
    rw [f_SS_sweep_L4, hk, if_neg (nI_ge (by omega) (by omega)), if_neg (nI_in (show K.length + D.length < 200 by omega) (by omega)), nI_clamp (by omega)]
    dsimp only [gl_let]
    rw [hg, if_neg (nI_in hxl (by omega)), nI_clamp (show x < 2 ^ 31 by omega)]
    by_cases hc : ¬ SS_keys ss x = -1
    · rw [if_neg hc]
      have hkl : K.length < 200 := by omega
      rw [if_neg (nI_in hkl (by omega)), nI_clamp (show K.length < 2 ^ 31 by omega), nI_1, nI_1]
      obtain ⟨D', h1, h2⟩ := oa_swap hO
      have hd := h1.length_eq
      obtain ⟨o, D2, e1, e2, e3⟩ := ih (K ++ [x]) D' m (sSS_order ss (upd (upd (SS_order ss) (K.length + D.length) (SS_order ss K.length)) K.length (nI x))) (by omega) (by rw [List.append_assoc, List.append_assoc, List.singleton_append]; exact h2) (by rw [List.length_append, List.length_singleton, hd, show K.length + 1 + D.length + R.length = K.length + D.length + (R.length + 1) by omega]; exact hk) (by rw [List.length_append, List.length_singleton]; omega) (fun y hy => hx y (List.mem_cons_of_mem _ hy))
      rw [List.length_append, List.length_singleton, hd, show K.length + 1 + D.length = K.length + D.length + 1 by omega] at e1
      have hf : (x :: R).filter (stS ss) = x :: R.filter (stS ss) := List.filter_cons_of_pos (decide_eq_true hc)
      have hf2 : (x :: R).filter (fun y => !stS ss y) = R.filter (fun y => !stS ss y) := List.filter_cons_of_neg (by rw [show stS ss x = true from decide_eq_true hc]; decide)
      refine ⟨o, D2, ?_, ?_, ?_⟩
      · rw [hf, List.append_cons]
        exact e1
      · rw [hf, List.append_cons]
        exact e2
      · rw [hf2]
        exact e3.trans (List.Perm.append_right _ h1)
    · rw [if_pos (Classical.not_not.mp hc)]
      rw [nI_1]
      obtain ⟨o, D2, e1, e2, e3⟩ := ih K (D ++ [x]) m ss (by omega) (by rw [← List.append_assoc K, List.append_assoc (K ++ D), List.singleton_append]; exact hO) (by rw [List.length_append, List.length_singleton, show K.length + (D.length + 1) + R.length = K.length + D.length + (R.length + 1) by omega]; exact hk) (by rw [List.length_append, List.length_singleton]; omega) (fun y hy => hx y (List.mem_cons_of_mem _ hy))
      rw [List.length_append, List.length_singleton, ← Nat.add_assoc] at e1
      have hf : (x :: R).filter (stS ss) = R.filter (stS ss) := List.filter_cons_of_neg (by rw [show stS ss x = false from decide_eq_false hc]; decide)
      have hf2 : (x :: R).filter (fun y => !stS ss y) = x :: R.filter (fun y => !stS ss y) := List.filter_cons_of_pos (by rw [show stS ss x = false from decide_eq_false hc]; decide)
      refine ⟨o, D2, ?_, ?_, ?_⟩
      · rw [hf]
        exact e1
      · rw [hf]
        exact e2
      · rw [hf2, List.append_cons]
        exact e3
/-- a sweep -/
theorem p_SSsweep (k : Nat) (hk : 5000 ≤ k) {A F : List Nat} {ss : SSt} (hO : OA (SS_order ss) (A ++ F)) (hP : (A ++ F).Perm (List.range 200)) (hK : SS_kept ss = nI A.length) :
    ∃ (o : Nat → Int32) (F' : List Nat), f_SS_sweep k ss = some (sSS_kept (sSS_order ss o) (nI (A.filter (stS ss)).length)) ∧ OA o (A.filter (stS ss) ++ F') ∧ (A.filter (stS ss) ++ F').Perm (List.range 200) := by
  have hl : A.length ≤ 200 := by
    have := hP.length_eq
    simp at this
    omega
  obtain ⟨o, D', e1, e2, e3⟩ := p_SSsweepL F A [] [] k ss (by omega) (by simpa using hO) (by simpa using hK) (by simpa using hl) (fun x hx => List.mem_range.mp (hP.mem_iff.mp (List.mem_append_left _ hx)))
  unfold f_SS_sweep
  rw [List.length_nil, Nat.add_zero, nI_0, List.nil_append] at e1
  rw [e1, ob]
  refine ⟨o, D' ++ F, ?_, ?_, ?_⟩
  · rfl
  · simpa using e2
  · refine List.Perm.trans ?_ hP
    rw [← List.append_assoc]
    refine List.Perm.append_right F ?_
    refine List.Perm.trans (List.Perm.append_left _ e3) ?_
    rw [List.nil_append]
    exact List.filter_append_perm _ _
