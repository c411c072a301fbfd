theorem nd_perm {A B : List Nat} (h1 : A.Nodup) (h2 : B.Nodup) (h : ∀ x, x ∈ A ↔ x ∈ B) : A.Perm B := by
  rw [List.perm_iff_count]
  intro a
  by_cases e : a ∈ A
  · have e2 := (h a).mp e
    rw [List.Nodup.count h1, List.Nodup.count h2, if_pos e, if_pos e2]
  · have e2 : a ∉ B := fun z => e ((h a).mpr z)
    rw [List.count_eq_zero_of_not_mem e, List.count_eq_zero_of_not_mem e2]
theorem nd_filmap {P : List (Nat × Nat)} (h : (P.map Prod.snd).Nodup) (f : Nat × Nat → Bool) : ((P.filter f).map Prod.snd).Nodup := List.Sublist.nodup (List.Sublist.map _ List.filter_sublist) h
theorem p_slots {P : List (Nat × Nat)} {ss : SSt} {mo : MOt} (h : SP P ss mo) (f : Nat → Bool) (hf : ∀ s : Nat, s < 200 → f s = true → ¬ MO_sKey mo s = -1) : ((List.range' 0 200).filter f).length = (P.filter (fun p => f p.2)).length := by
  have : ((List.range' 0 200).filter f).Perm ((P.filter (fun p => f p.2)).map Prod.snd) := by
    apply nd_perm
    · exact List.Sublist.nodup List.filter_sublist List.nodup_range'
    · exact nd_filmap h.nd _
    · intro x
      rw [List.mem_filter, List.mem_range'_1, List.mem_map]
      constructor
      · rintro ⟨⟨_, h1⟩, h2⟩
        obtain ⟨p, hp, e⟩ := List.mem_map.mp ((h.free x (by omega)).resolve_left (hf x (by omega) h2))
        exact ⟨p, List.mem_filter.mpr ⟨hp, by rw [e]; exact h2⟩, e⟩
      · rintro ⟨p, hp, rfl⟩
        obtain ⟨h1, h2⟩ := List.mem_filter.mp hp
        have := h.lt p h1
        exact ⟨⟨by omega, by omega⟩, h2⟩
  rw [this.length_eq, List.length_map]
theorem p_ofKeyL {P : List (Nat × Nat)} {ss : SSt} {mo : MOt} (h : SP P ss mo) (key : Int32) : ∀ (P2 P1 : List (Nat × Nat)) (n a : Nat), P = P1 ++ P2 → P2.length < n → f_SS_ofKey_L4 key ss n (nI a) (nI P1.length) = some (nI (a + (P2.filter (fun p => MO_sKey mo p.2 == key)).length)) := by
  have hlen := h.len
  intro P2
  induction P2 with
  | nil =>
    intro P1 n a ep hn
    obtain ⟨m, rfl⟩ : ∃ m, n = m + 1 := ⟨n - 1, by omega⟩
    rw [f_SS_ofKey_L4, h.kept, ep, List.append_nil, if_pos (nI_le (Nat.le_refl _) (by rw [ep] at hlen; simp at hlen; omega))]
    rfl
  | cons p P2 ih =>
    intro P1 n a ep hn
    obtain ⟨m, rfl⟩ : ∃ m, n = m + 1 := ⟨n - 1, by omega⟩
    subst ep
    have hp := h.lt1 p (by simp)
    have hl : P1.length + (P2.length + 1) ≤ 200 := by simpa using hlen
    obtain ⟨q1, q2, q3, -⟩ := h.eqs p (by simp)
    have hi := fun a => ih (P1 ++ [p]) m a (by simp) (by simp at hn; omega)
    rw [List.length_append, List.length_singleton] at hi
    rw [f_SS_ofKey_L4, h.kept, if_neg (nI_ge (by simp) (by simp; omega)), if_neg (nI_in (show P1.length < 200 by omega) (by omega)), nI_clamp (by omega)]
    dsimp only [gl_let]
    rw [h.at, if_neg (nI_in hp (by omega)), nI_clamp (by omega), q1, nI_1, nI_1]
    by_cases c1 : MO_sKey mo p.2 = key
    · rw [if_pos c1, hi, List.filter_cons_of_pos (by simpa using c1), List.length_cons, show ∀ z, a + 1 + z = a + (z + 1) from fun z => by omega]
    · rw [if_neg c1, hi, List.filter_cons_of_neg (by simpa using c1)]
theorem p_spansL38 (mo : MOt) (key : Int32) : ∀ (m n a i : Nat), i + m = 200 → m < n → f_MO_spans_L38 key mo n (nI a) (nI i) = some (nI (a + ((List.range' i m).filter (fun s => MO_sKey mo s == key)).length)) := by
  intro m
  induction m with
  | zero =>
    intro n a i hi hn
    obtain ⟨n, rfl⟩ : ∃ m, n = m + 1 := ⟨n - 1, by omega⟩
    rw [f_MO_spans_L38, if_pos (show (200 : Int32) ≤ nI i from nI_le (a := 200) (by omega) (by omega))]
    rfl
  | succ m ih =>
    intro n a i hi hn
    obtain ⟨n, rfl⟩ : ∃ m, n = m + 1 := ⟨n - 1, by omega⟩
    rw [f_MO_spans_L38, if_neg (show ¬ (200 : Int32) ≤ nI i from nI_ge (a := i) (b := 200) (by omega) (by omega)), if_neg (nI_in (show i < 200 by omega) (by omega)), nI_clamp (by omega)]
    dsimp only [gl_let]
    rw [nI_1, nI_1, Int32.add_zero, List.range'_succ]
    by_cases c1 : MO_sKey mo i = key
    · rw [if_pos c1, ih n (a + 1) (i + 1) (by omega) (by omega), List.filter_cons_of_pos (by simpa using c1), List.length_cons, show ∀ z, a + 1 + z = a + (z + 1) from fun z => by omega]
    · rw [if_neg c1, ih n a (i + 1) (by omega) (by omega), List.filter_cons_of_neg (by simpa using c1)]
theorem p_key (x : Int32) : f_MO_in x.toInt64 0 7 = 0 ∨ ∃ r : Nat, r < 8 ∧ x = nI r ∧ ¬ f_MO_in x.toInt64 0 7 = 0 := by
  by_cases h : f_MO_in x.toInt64 0 7 = 0
  · exact Or.inl h
  · right
    have := p_inIf h
    rw [pi_l, show (0 : Int64).toInt = 0 from rfl, show (7 : Int64).toInt = 7 from rfl] at this
    refine ⟨x.toInt.toNat, by omega, ?_, h⟩
    rw [pi_eq, nI_toInt (by omega)]
    omega
/-- count, spans -/
theorem p_spansOf (k : Nat) (hk : 5000 ≤ k) {P : List (Nat × Nat)} {ss : SSt} {mo : MOt} (h : SP P ss mo) {q : Nat} (hq : q < 8) : ∃ a, f_SS_ofKey k (nI q) ss = some a ∧ f_MO_spans_L38 (nI q) mo k 0 0 = some a := by
  have hl := h.len
  have h1 := p_ofKeyL h (nI q) P [] k 0 rfl (by omega)
  have h2 := p_spansL38 mo (nI q) 200 k 0 0 (by omega) (by omega)
  rw [List.length_nil, nI_0] at h1
  rw [nI_0, p_slots h (fun s => MO_sKey mo s == nI q) (fun s _ z y => by rw [y] at z; exact nI_m1 (show q < 2 ^ 31 by omega) (beq_iff_eq.mp z).symm)] at h2
  exact ⟨_, by unfold f_SS_ofKey; rw [h1, ob], h2⟩
