theorem nI_surj (x : Int32) : ∃ m : Nat, x = nI m := by
  refine ⟨x.toBitVec.toNat, ?_⟩
  unfold nI
  apply Int32.toBitVec_inj.mp
  show x.toBitVec = BitVec.ofNat 32 x.toBitVec.toNat
  rw [BitVec.ofNat_toNat, BitVec.setWidth_eq]
theorem oa_app {f : Nat → Int32} {X : List Nat} (h : OA f X) : ∃ z : Nat, OA f (X ++ [z]) := by
  obtain ⟨z, hz⟩ := nI_surj (f X.length)
  refine ⟨z, fun i c hc => ?_⟩
  rw [List.getElem?_append] at hc
  by_cases q : i < X.length
  · rw [if_pos q] at hc
    exact h i c hc
  · rw [if_neg q] at hc
    obtain ⟨j, hj⟩ : ∃ j, i = X.length + j := ⟨i - X.length, by omega⟩
    subst hj
    rw [Nat.add_sub_cancel_left] at hc
    cases j with
    | zero =>
      have := Option.some.inj hc
      rw [← this]
      exact hz
    | succ j => exact absurd hc (by simp)
theorem p_SSL48 {c : Nat} (hcl : c < 200) : ∀ (R Y : List Nat) (h n : Nat) (ss : SSt), R.length < n → R.length < 200 → (∀ r ∈ R, r < 200) → OA (SS_due ss) (R.reverse ++ h :: Y) →
    ∃ (R1 R2 : List Nat) (o : Nat → Int32) (h' : Nat), R = R1 ++ R2 ∧ f_SS_seekDue_L48 (nI c) n (nI R.length) ss = some (nI R2.length, sSS_due ss o) ∧ OA o (R2.reverse ++ h' :: (R1.reverse ++ Y)) ∧ (∀ r ∈ R1, ¬ SS_ends ss r ≤ SS_ends ss c) ∧ (∀ r R3, R2 = r :: R3 → SS_ends ss r ≤ SS_ends ss c) := by
  intro R
  induction R with
  | nil =>
    intro Y h n ss hn _ _ hO
    obtain ⟨m, rfl⟩ : ∃ m, n = m + 1 := ⟨n - 1, by omega⟩
    rw [f_SS_seekDue_L48, if_pos (by decide)]
    exact ⟨[], [], SS_due ss, h, rfl, rfl, hO, fun r hr => absurd hr (by simp), fun r R3 e => absurd e (by simp)⟩
  | cons r R ih =>
    intro Y h n ss hn hl hR hO
    obtain ⟨m, rfl⟩ : ∃ m, n = m + 1 := ⟨n - 1, by omega⟩
    have hr := hR r (by simp)
    rw [List.length_cons] at hn hl
    rw [List.length_cons, f_SS_seekDue_L48, if_neg (show ¬ nI (R.length + 1) ≤ 0 from nI_ge (a := 0) (b := R.length + 1) (by omega) (by omega)), nI_s1.1, if_neg (nI_in (show R.length < 200 by omega) (by omega)), nI_clamp (show R.length < 2 ^ 31 by omega)]
    have hg : SS_due ss R.length = nI r := by
      have := hO
      rw [List.reverse_cons, List.append_assoc, List.singleton_append] at this
      have := oa_get this
      rwa [List.length_reverse] at this
    rw [hg, if_neg (nI_in hr (by omega)), nI_clamp (show r < 2 ^ 31 by omega), nI_clamp (show c < 2 ^ 31 by omega)]
    by_cases hc : SS_ends ss r ≤ SS_ends ss c
    · rw [if_pos hc]
      exact ⟨[], r :: R, SS_due ss, h, rfl, rfl, by simpa using hO, fun r hr => absurd hr (by simp), fun r' R3 e => by rw [← (List.cons.inj e).1]; exact hc⟩
    · rw [if_neg hc, if_neg (nI_in (show R.length + 1 < 200 by omega) (by omega)), nI_clamp (by omega)]
      dsimp only [gl_let]
      rw [nI_s1.2]
      have hs := oa_set hO r
      rw [List.length_reverse, List.length_cons, List.reverse_cons, List.append_assoc, List.singleton_append] at hs
      obtain ⟨R1, R2, o, h', e1, e2, e3, e4, e5⟩ := ih (r :: Y) r m (sSS_due ss (upd (SS_due ss) (R.length + 1) (nI r))) (by omega) (by omega) (fun x hx => hR x (List.mem_cons_of_mem _ hx)) hs
      refine ⟨r :: R1, R2, o, h', by rw [e1]; rfl, e2, ?_, ?_, e5⟩
      · rw [List.reverse_cons, List.append_assoc]
        exact e3
      · intro x hx
        rcases List.mem_cons.mp hx with rfl | hx
        · exact hc
        · exact e4 x hx
abbrev fbf (k : Nat → Int32) (b e : Nat → Int64) (x y : Nat) : Prop := e x < e y ∨ e x = e y ∧ (k x < k y ∨ k x = k y ∧ b x < b y)
theorem fbf_irr {k : Nat → Int32} {b e : Nat → Int64} (x : Nat) : ¬ fbf k b e x x := by
  unfold fbf
  rw [pl_lt, pl_lt, pi_lt]
  omega
theorem fbf_tr {k : Nat → Int32} {b e : Nat → Int64} {x y z : Nat} (h1 : fbf k b e x y) (h2 : fbf k b e y z) : fbf k b e x z := by
  unfold fbf at *
  rw [pl_lt, pl_lt, pi_lt, pi_eq, pl_eq] at *
  omega
def dueb (mo : MOt) (x : Int64) (p : Nat × Nat) : Bool := (MO_sEnded mo p.2 == 0) && decide (MO_sEnd mo p.2 ≤ x)
theorem p_dueL (k : Nat) (hk : 5000 ≤ k) {P : List (Nat × Nat)} {ss : SSt} {mo : MOt} (h : SP P ss mo) (x : Int64) : ∀ (P2 P1 D : List (Nat × Nat)) (f : Nat → Int32) (n : Nat), P = P1 ++ P2 → P2.length < n → OA f (D.map Prod.fst) → D.Perm (P1.filter (dueb mo x)) → D.Pairwise (fun p q => fbf (MO_sKey mo) (MO_sBegin mo) (MO_sEnd mo) p.2 q.2) →
    ∃ (f' : Nat → Int32) (D' : List (Nat × Nat)), f_SS_seekDue_L5 k x n (nI D.length) (nI P1.length) (sSS_due ss f) = some (nI D'.length, sSS_due ss f') ∧ OA f' (D'.map Prod.fst) ∧ D'.Perm (P.filter (dueb mo x)) ∧ D'.Pairwise (fun p q => fbf (MO_sKey mo) (MO_sBegin mo) (MO_sEnd mo) p.2 q.2) := by
  have hlen := h.len
  intro P2
  induction P2 with
  | nil =>
    intro P1 D f n ep hn hO hP hS
    obtain ⟨m, rfl⟩ : ∃ m, n = m + 1 := ⟨n - 1, by omega⟩
    rw [f_SS_seekDue_L5]
    have hkk : SS_kept (sSS_due ss f) = nI P.length := h.kept
    rw [hkk, ep, List.append_nil, if_pos (nI_le (Nat.le_refl _) (by rw [ep] at hlen; simp at hlen; omega))]
    exact ⟨f, D, rfl, hO, hP, hS⟩
  | cons p P2 ih =>
    intro P1 D f n ep hn hO hP hS
    obtain ⟨m, rfl⟩ : ∃ m, n = m + 1 := ⟨n - 1, by omega⟩
    subst ep
    have hp := h.lt1 p (by simp)
    have hl : P1.length + (P2.length + 1) ≤ 200 := by simpa using hlen
    obtain ⟨q1, q2, q3, q4, q5, q6⟩ := h.eqs p (by simp)
    have hkk : SS_kept (sSS_due ss f) = nI (P1 ++ p :: P2).length := h.kept
    have hor : SS_order (sSS_due ss f) P1.length = nI p.1 := h.at
    rw [f_SS_seekDue_L5, hkk, if_neg (nI_ge (by simp) (by simp; omega)), if_neg (nI_in (show P1.length < 200 by omega) (by omega)), nI_clamp (show P1.length < 2 ^ 31 by omega)]
    dsimp only [gl_let]
    rw [hor, if_neg (nI_in hp (by omega)), nI_clamp (show p.1 < 2 ^ 31 by omega)]
    have he : SS_ended (sSS_due ss f) p.1 = MO_sEnded mo p.2 := q6
    have hd : SS_ends (sSS_due ss f) p.1 = MO_sEnd mo p.2 := q3
    rw [he, hd, nI_1, nI_1]
    have hfa : (P1 ++ [p]).filter (dueb mo x) = P1.filter (dueb mo x) ++ [p].filter (dueb mo x) := List.filter_append _ _
    have no : ¬ dueb mo x p = true → ∃ (f' : Nat → Int32) (D' : List (Nat × Nat)), f_SS_seekDue_L5 k x m (nI D.length) (nI (P1.length + 1)) (sSS_due ss f) = some (nI D'.length, sSS_due ss f') ∧ OA f' (D'.map Prod.fst) ∧ D'.Perm ((P1 ++ p :: P2).filter (dueb mo x)) ∧ D'.Pairwise (fun p q => fbf (MO_sKey mo) (MO_sBegin mo) (MO_sEnd mo) p.2 q.2) := by
      intro z
      have := ih (P1 ++ [p]) D f m (by simp) (by simp at hn; omega) hO (by rw [hfa, List.filter_cons_of_neg z, List.filter_nil, List.append_nil]; exact hP) hS
      rw [List.length_append, List.length_singleton] at this
      exact this
    by_cases c1 : MO_sEnded mo p.2 = 0
    · rw [if_pos c1]
      by_cases c2 : x < MO_sEnd mo p.2
      · rw [if_pos c2]
        apply no
        unfold dueb
        have : ¬ MO_sEnd mo p.2 ≤ x := by rw [pl_le]; rw [pl_lt] at c2; omega
        simp [this]
      · rw [if_neg c2]
        have hdue : dueb mo x p = true := by
          unfold dueb
          have : MO_sEnd mo p.2 ≤ x := by rw [pl_le]; rw [pl_lt] at c2; omega
          simp [this, c1]
        have hmem : ∀ d ∈ D, d ∈ P1 := fun d hd => (List.mem_filter.mp (hP.mem_iff.mp hd)).1
        have hDl : D.length ≤ P1.length := by rw [hP.length_eq]; exact List.length_filter_le _ _
        obtain ⟨z, hz⟩ := oa_app hO
        obtain ⟨R1, R2, o, h', e1, e2, e3, e4, e5⟩ := p_SSL48 hp (D.map Prod.fst).reverse [] z k (sSS_due ss f) (by simp; omega) (by simp; omega)
          (fun r hr => by
            rw [List.mem_reverse] at hr
            obtain ⟨d, hd, rfl⟩ := List.mem_map.mp hr
            exact h.lt1 d (List.mem_append_left _ (hmem d hd)))
          (by rw [List.reverse_reverse]; exact hz)
        rw [List.length_reverse, List.length_map] at e2
        rw [e2, ob]
        dsimp only
        have e1' : D.map Prod.fst = R2.reverse ++ R1.reverse := by rw [← List.reverse_append, ← e1, List.reverse_reverse]
        obtain ⟨A, B, hAB, hA, hB⟩ := List.map_eq_append_iff.mp e1'
        have hlen2 : R2.length = A.length := by
          have := congrArg List.length hA
          simpa using this.symm
        have hAl : A.length ≤ D.length := by rw [hAB]; simp
        rw [hlen2, if_neg (nI_in (show A.length < 200 by omega) (by omega)), nI_clamp (show A.length < 2 ^ 31 by omega)]
        have hO2 := oa_set e3 p.1
        rw [List.length_reverse, hlen2, ← hA, ← hB, List.append_nil] at hO2
        have hperm : (A ++ p :: B).Perm (p :: D) := by rw [hAB]; exact List.perm_middle
        have hsr : (A ++ p :: B).Pairwise (fun p q => fbf (MO_sKey mo) (MO_sBegin mo) (MO_sEnd mo) p.2 q.2) := by
          have hss := h.srt
          rw [List.pairwise_append] at hss
          rw [hAB, List.pairwise_append] at hS
          rw [List.pairwise_append, List.pairwise_cons]
          have hAe : ∀ a ∈ A, MO_sEnd mo a.2 ≤ MO_sEnd mo p.2 := by
            cases R2 with
            | nil =>
              intro a ha
              have : A = [] := by simpa using hlen2.symm
              rw [this] at ha
              exact absurd ha (by simp)
            | cons r R3 =>
              have h5 := e5 r R3 rfl
              rw [List.reverse_cons] at hA
              obtain ⟨A', Z, hz1, hz2, hz3⟩ := List.map_eq_append_iff.mp hA
              obtain ⟨y, hy, hy4⟩ := List.map_eq_singleton_iff.mp hz3
              have hyD : y ∈ D := by rw [hAB, hz1, hy]; simp
              have hy5 : SS_ends ss r = MO_sEnd mo y.2 := by rw [← hy4]; exact (h.eqs y (List.mem_append_left _ (hmem y hyD))).2.2.1
              change SS_ends ss r ≤ SS_ends ss p.1 at h5
              rw [hy5, q3] at h5
              intro a ha
              rw [hz1, hy, List.mem_append, List.mem_singleton] at ha
              rcases ha with ha | rfl
              · have h1 := hS.1
                rw [hz1, hy, List.pairwise_append] at h1
                have := h1.2.2 a ha y (by simp)
                rw [pl_le] at h5 ⊢
                rcases this with y1 | y1
                · rw [pl_lt] at y1; omega
                · rw [y1.1]; exact h5
              · exact h5
          refine ⟨hS.1, ⟨?_, hS.2.1⟩, ?_⟩
          · intro b hb
            left
            have hbD : b ∈ D := by rw [hAB]; exact List.mem_append_right _ hb
            have h4 := e4 b.1 (by rw [← List.mem_reverse, ← hB]; exact List.mem_map_of_mem hb)
            change ¬ SS_ends ss b.1 ≤ SS_ends ss p.1 at h4
            rw [(h.eqs b (List.mem_append_left _ (hmem b hbD))).2.2.1, q3] at h4
            rw [pl_lt]; rw [pl_le] at h4; omega
          · intro a ha b hb
            rcases List.mem_cons.mp hb with rfl | hb
            · have haD : a ∈ D := by rw [hAB]; exact List.mem_append_left _ ha
              have h1 := hAe a ha
              have h2 := hss.2.2 a (hmem a haD) b (by simp)
              unfold sbf at h2
              unfold fbf
              rw [pl_lt, pl_lt, pi_lt, pi_eq, pl_eq] at *
              rw [pl_le] at h1
              omega
            · exact hS.2.2 a ha b hb
        have := ih (P1 ++ [p]) (A ++ p :: B) (upd o A.length (nI p.1)) m (by simp) (by simp at hn; omega)
          (by rw [List.map_append, List.map_cons]; exact hO2)
          (by
            rw [hfa, List.filter_cons_of_pos hdue, List.filter_nil]
            refine hperm.trans ?_
            refine (List.Perm.cons p hP).trans ?_
            exact (List.perm_append_singleton p _).symm)
          hsr
        rw [hperm.length_eq, List.length_cons, List.length_append, List.length_singleton] at this
        exact this
    · rw [if_neg c1]
      apply no
      unfold dueb
      simp [c1]
theorem p_due (k : Nat) (hk : 5000 ≤ k) {P : List (Nat × Nat)} {ss : SSt} {mo : MOt} (h : SP P ss mo) (x : Int64) :
    ∃ (f' : Nat → Int32) (D : List (Nat × Nat)), f_SS_seekDue k x ss = some (nI D.length, sSS_due ss f') ∧ OA f' (D.map Prod.fst) ∧ D.Perm (P.filter (dueb mo x)) ∧ D.Pairwise (fun p q => fbf (MO_sKey mo) (MO_sBegin mo) (MO_sEnd mo) p.2 q.2) := by
  have hl := h.len
  obtain ⟨f', D, e1, e2, e3, e4⟩ := p_dueL k hk h x P [] [] (SS_due ss) k rfl (by omega) (fun i c hc => absurd hc (by simp)) (List.Perm.refl _) List.Pairwise.nil
  rw [List.length_nil, nI_0] at e1
  refine ⟨f', D, ?_, e2, e3, e4⟩
  unfold f_SS_seekDue
  rw [show sSS_due ss (SS_due ss) = ss from rfl] at e1
  rw [e1, ob]
