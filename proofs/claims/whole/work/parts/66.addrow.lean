theorem pigeon : ∀ (N : Nat) (M : List Nat), (∀ r : Nat, r < N → r ∈ M) → N ≤ M.length := by
  intro N
  induction N with
  | zero => intro M _; omega
  | succ N ih =>
    intro M h
    have h1 := h N (by omega)
    have h2 := ih (M.erase N) (fun r hr => (List.mem_erase_of_ne (by omega)).mpr (h r (by omega)))
    rw [List.length_erase_of_mem h1] at h2
    have : 0 < M.length := List.length_pos_of_mem h1
    omega
theorem RR.hole {L : List (Nat × Nat)} {rs : RSt} {mo : MOt} (h : RR L rs mo) (hl : L.length < 300) : ∃ r : Nat, r < 300 ∧ MO_rKey mo r = -1 := by
  apply Classical.byContradiction
  intro hn
  have := pigeon 300 (L.map Prod.snd) (fun r hr => (h.free r hr).resolve_left (fun z => hn ⟨r, hr, z⟩))
  rw [List.length_map] at this
  omega
theorem p_newRowL3 (mo : MOt) : ∀ (n i : Nat), i ≤ 300 → 300 - i < n → (∃ r : Nat, i ≤ r ∧ r < 300 ∧ MO_rKey mo r = -1) → ∃ r : Nat, r < 300 ∧ MO_rKey mo r = -1 ∧ f_MO_newRow_L3 mo n (nI i) = some (nI r) := by
  intro n
  induction n with
  | zero => intro i _ h; omega
  | succ n ih =>
    intro i hi hn he
    obtain ⟨r, h1, h2, h3⟩ := he
    rw [f_MO_newRow_L3, if_neg (nI_in (show i < 300 by omega) (by omega)), nI_clamp (by omega)]
    by_cases hc : MO_rKey mo i = -1
    · rw [if_pos hc]
      exact ⟨i, by omega, hc, rfl⟩
    · rw [if_neg hc]
      dsimp only [gl_let]
      rw [nI_1]
      exact ih (i + 1) (by omega) (by omega) ⟨r, by by_cases e : r = i; (subst e; exact absurd h3 hc); omega, h2, h3⟩
theorem nI_s1 {a : Nat} : nI (a + 1) - 1 = nI a ∧ nI (a + 1) + (-1) = nI a := by
  constructor
  · unfold nI
    rw [Int32.ofNat_add]
    show Int32.ofNat a + 1 - 1 = _
    rw [Int32.add_sub_cancel]
  · unfold nI
    rw [Int32.ofNat_add]
    show Int32.ofNat a + 1 + -1 = _
    rw [Int32.add_assoc, show (1 : Int32) + -1 = 0 from rfl, Int32.add_zero]
theorem p_RSL50 (t : Int64) : ∀ (R Y : List Nat) (h n : Nat) (rs : RSt), R.length < n → R.length < 300 → (∀ r ∈ R, r < 300) → OA (RS_order rs) (R.reverse ++ h :: Y) →
    ∃ (R1 R2 : List Nat) (o : Nat → Int32) (h' : Nat), R = R1 ++ R2 ∧ f_RS_add_L50 t n (nI R.length) rs = some (nI R2.length, sRS_order rs o) ∧ OA o (R2.reverse ++ h' :: (R1.reverse ++ Y)) ∧ (∀ r ∈ R1, ¬ RS_times rs r ≤ t) ∧ (∀ r R3, R2 = r :: R3 → RS_times rs r ≤ t) := by
  intro R
  induction R with
  | nil =>
    intro Y h n rs hn _ _ hO
    obtain ⟨m, rfl⟩ : ∃ m, n = m + 1 := ⟨n - 1, by omega⟩
    rw [f_RS_add_L50, if_pos (by decide)]
    exact ⟨[], [], RS_order rs, h, rfl, rfl, hO, fun r hr => absurd hr (by simp), fun r R3 e => absurd e (by simp)⟩
  | cons r R ih =>
    intro Y h n rs hn hl hR hO
    obtain ⟨m, rfl⟩ : ∃ m, n = m + 1 := ⟨n - 1, by omega⟩
    have hr := hR r (by simp)
    rw [List.length_cons] at hn hl
    rw [List.length_cons, f_RS_add_L50, if_neg (show ¬ nI (R.length + 1) ≤ 0 from nI_ge (a := 0) (b := R.length + 1) (by omega) (by omega)), nI_s1.1, if_neg (nI_in (show R.length < 300 by omega) (by omega)), nI_clamp (by omega)]
    have hg : RS_order rs R.length = nI r := by
      have := hO
      rw [List.reverse_cons, List.append_assoc, List.singleton_append] at this
      have := oa_get this
      rwa [List.length_reverse] at this
    rw [hg, if_neg (nI_in hr (by omega)), nI_clamp (by omega)]
    by_cases hc : RS_times rs r ≤ t
    · rw [if_pos hc]
      exact ⟨[], r :: R, RS_order rs, h, rfl, rfl, by simpa using hO, fun r hr => absurd hr (by simp), fun r' R3 e => by rw [← (List.cons.inj e).1]; exact hc⟩
    · rw [if_neg hc, if_neg (nI_in (show R.length + 1 < 300 by omega) (by omega)), nI_clamp (by omega)]
      dsimp only [gl_let]
      rw [nI_s1.2]
      have hs := oa_set hO r
      rw [List.length_reverse, List.length_cons, List.reverse_cons, List.append_assoc, List.singleton_append] at hs
      obtain ⟨R1, R2, o, h', e1, e2, e3, e4, e5⟩ := ih (r :: Y) r m (sRS_order rs (upd (RS_order rs) (R.length + 1) (nI r))) (by omega) (by omega) (fun x hx => hR x (List.mem_cons_of_mem _ hx)) hs
      refine ⟨r :: R1, R2, o, h', by rw [e1]; rfl, e2, ?_, ?_, e5⟩
      · rw [List.reverse_cons, List.append_assoc]
        exact e3
      · intro x hx
        rcases List.mem_cons.mp hx with rfl | hx
        · exact hc
        · exact e4 x hx
theorem p_RSadd (k : Nat) (hk : 5000 ≤ k) (key : Int32) (t v : Int64) {L : List (Nat × Nat)} {rs : RSt} {mo : MOt} (h : RR L rs mo) (hl : L.length < 300) :
    ∃ (c : Nat) (A B : List (Nat × Nat)) (F : List Nat) (o : Nat → Int32), L = A ++ B ∧ c < 300 ∧ c ∉ L.map Prod.fst ∧
      f_RS_add k key t v rs = some (nI c, sRS_kept (sRS_order (sRS_numbers (sRS_values (sRS_times (sRS_keys rs (upd (RS_keys rs) c key)) (vp_updL (RS_times rs) c t)) (vp_updL (RS_values rs) c v)) (upd (RS_numbers rs) c (-1))) o) (nI (L.length + 1))) ∧
      OA o (A.map Prod.fst ++ c :: (B.map Prod.fst ++ F)) ∧ (A.map Prod.fst ++ c :: (B.map Prod.fst ++ F)).Perm (List.range 300) ∧ (∀ p ∈ B, t < RS_times rs p.1) ∧ (A = [] ∨ ∃ A' z, A = A' ++ [z] ∧ RS_times rs z.1 ≤ t) := by
  obtain ⟨F0, hO, hP⟩ := h.ord
  obtain ⟨c, F, rfl⟩ : ∃ c F, F0 = c :: F := by
    cases F0 with
    | nil =>
      have := hP.length_eq
      simp at this
      omega
    | cons c F => exact ⟨c, F, rfl⟩
  have hnd := hP.nodup_iff.mpr List.nodup_range
  have hc : c < 300 := List.mem_range.mp ((hP.mem_iff (a := c)).mp (by simp))
  have hcL : c ∉ L.map Prod.fst := fun z => (List.nodup_append.mp hnd).2.2 c z c (by simp) rfl
  have hg := oa_get hO
  rw [List.length_map] at hg
  unfold f_RS_add
  rw [h.kept, if_neg (nI_in hl (by omega)), nI_clamp (by omega)]
  dsimp only [gl_let]
  rw [hg, if_neg (nI_in hc (by omega)), nI_clamp (by omega)]
  obtain ⟨R1, R2, o, h', e1, e2, e3, e4, e5⟩ := p_RSL50 t (L.map Prod.fst).reverse F c k (sRS_numbers (sRS_values (sRS_times (sRS_keys rs (upd (RS_keys rs) c key)) (vp_updL (RS_times rs) c t)) (vp_updL (RS_values rs) c v)) (upd (RS_numbers rs) c (-1))) (by simp; omega) (by simpa using hl)
    (fun r hr => by
      rw [List.mem_reverse] at hr
      obtain ⟨p, hp, rfl⟩ := List.mem_map.mp hr
      exact h.lt1 p hp)
    (by rw [List.reverse_reverse]; exact hO)
  rw [List.length_reverse, List.length_map] at e2
  rw [e2, ob]
  dsimp only
  have e1' : L.map Prod.fst = R2.reverse ++ R1.reverse := by rw [← List.reverse_append, ← e1, List.reverse_reverse]
  obtain ⟨A, B, hAB, hA, hB⟩ := List.map_eq_append_iff.mp e1'
  have hlen : R2.length = A.length := by
    have := congrArg List.length hA
    simpa using this.symm
  have hAl : A.length ≤ L.length := by rw [hAB]; simp
  rw [hlen, if_neg (nI_in (show A.length < 300 by omega) (by omega)), nI_clamp (by omega)]
  have hne : ∀ x ∈ L.map Prod.fst, x ≠ c := fun x hx e => hcL (e ▸ hx)
  refine ⟨c, A, B, F, upd o A.length (nI c), hAB, hc, hcL, ?_, ?_, ?_, ?_, ?_⟩
  · show some (nI c, sRS_kept (sRS_order _ _) (RS_kept rs + 1)) = _
    rw [h.kept, nI_1]
  · have := oa_set e3 c
    rw [List.length_reverse, hlen, ← hA, ← hB] at this
    exact this
  · refine List.Perm.trans ?_ hP
    rw [hAB, List.map_append, List.append_assoc]
    exact List.Perm.append_left _ List.perm_middle.symm
  · intro p hp
    have hp1 : p.1 ∈ R1 := by
      rw [← List.mem_reverse, ← hB]
      exact List.mem_map_of_mem hp
    have := e4 _ hp1
    change ¬ vp_updL (RS_times rs) c t p.1 ≤ t at this
    rw [pk_uLn (hne _ (List.mem_map_of_mem (by rw [hAB]; exact List.mem_append_right _ hp)))] at this
    rw [pl_lt]; rw [pl_le] at this; omega
  · cases R2 with
    | nil =>
      left
      simpa using hlen.symm
    | cons r R3 =>
      right
      have := e5 r R3 rfl
      change vp_updL (RS_times rs) c t r ≤ t at this
      rw [pk_uLn (hne _ (by rw [e1']; simp))] at this
      rw [List.reverse_cons] at hA
      obtain ⟨A', Z, hz1, hz2, hz3⟩ := List.map_eq_append_iff.mp hA
      obtain ⟨z, hz, hz4⟩ := List.map_eq_singleton_iff.mp hz3
      exact ⟨A', z, by rw [hz1, hz], by rw [hz4]; exact this⟩
