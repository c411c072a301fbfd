/-! PURE PART J: gaps -/
def shs (mo : MOt) (q : Nat) (t e : Int64) (s : Nat) : Bool := (MO_sKey mo s == nI q) && decide (MO_sBegin mo s < e) && decide (t < MO_sEnd mo s)
theorem shs_iff {mo : MOt} {q : Nat} {t e : Int64} {s : Nat} : shs mo q t e s = true ↔ MO_sKey mo s = nI q ∧ MO_sBegin mo s < e ∧ t < MO_sEnd mo s := by
  unfold shs
  rw [Bool.and_eq_true, Bool.and_eq_true, beq_iff_eq, decide_eq_true_eq, decide_eq_true_eq, and_assoc]
def shp (mo : MOt) (q : Nat) (t e : Int64) (p : Nat × Nat) : Bool := shs mo q t e p.2
theorem p_shares' {X : SSt} {mo : MOt} {p : Nat × Nat} (hp1 : p.1 < 200) (q1 : SS_keys X p.1 = MO_sKey mo p.2) (q2 : SS_begins X p.1 = MO_sBegin mo p.2) (q3 : SS_ends X p.1 = MO_sEnd mo p.2) (q : Nat) (t e : Int64) : f_SS_shares (nI p.1) (nI q) t e X = some (if shp mo q t e p = true then 1 else 0) := by
  unfold f_SS_shares shp
  rw [if_neg (nI_in hp1 (by omega)), nI_clamp (by omega), q1, q2, q3]
  by_cases c1 : MO_sKey mo p.2 = nI q
  · rw [if_pos c1]
    by_cases c2 : e ≤ MO_sBegin mo p.2
    · rw [if_pos c2, if_neg (fun z => by have := (shs_iff.mp z).2.1; rw [pl_lt] at this; rw [pl_le] at c2; omega)]
    · rw [if_neg c2]
      by_cases c3 : MO_sEnd mo p.2 ≤ t
      · rw [if_pos c3, if_neg (fun z => by have := (shs_iff.mp z).2.2; rw [pl_lt] at this; rw [pl_le] at c3; omega)]
      · rw [if_neg c3, if_pos (shs_iff.mpr ⟨c1, by rw [pl_lt]; rw [pl_le] at c2; omega, by rw [pl_lt]; rw [pl_le] at c3; omega⟩)]
  · rw [if_neg c1, if_neg (fun z => c1 (shs_iff.mp z).1)]
theorem p_shares {P : List (Nat × Nat)} {ss : SSt} {mo : MOt} (h : SP P ss mo) {p : Nat × Nat} (hp : p ∈ P) (q : Nat) (t e : Int64) : f_SS_shares (nI p.1) (nI q) t e ss = some (if shp mo q t e p = true then 1 else 0) := p_shares' (h.lt1 p hp) (h.eqs p hp).1 (h.eqs p hp).2.1 (h.eqs p hp).2.2.1 q t e
def isMx (l : List Int64) (x : Int64) : Prop := x ∈ l ∧ ∀ y ∈ l, y ≤ x
def isMn (l : List Int64) (x : Int64) : Prop := x ∈ l ∧ ∀ y ∈ l, x ≤ y
theorem isMx_eq {l l' : List Int64} {x y : Int64} (h : ∀ z, z ∈ l ↔ z ∈ l') (h1 : isMx l x) (h2 : isMx l' y) : x = y := by
  have a := h2.2 x ((h x).mp h1.1)
  have b := h1.2 y ((h y).mpr h2.1)
  rw [pl_le] at a b
  rw [pl_eq]
  omega
theorem isMx_keep {l : List Int64} {x y : Int64} (h : isMx l x) (hy : y ≤ x) : isMx (l ++ [y]) x := by
  refine ⟨List.mem_append_left _ h.1, fun z hz => ?_⟩
  rw [List.mem_append, List.mem_singleton] at hz
  rcases hz with hz | rfl
  · exact h.2 z hz
  · exact hy
theorem isMx_take {l : List Int64} {x y : Int64} (h : isMx l x) (hy : ¬ y ≤ x) : isMx (l ++ [y]) y := by
  refine ⟨by simp, fun z hz => ?_⟩
  rw [List.mem_append, List.mem_singleton] at hz
  rcases hz with hz | rfl
  · have := h.2 z hz
    rw [pl_le] at *
    omega
  · rw [pl_le]; omega
theorem isMn_keep {l : List Int64} {x y : Int64} (h : isMn l x) (hy : x ≤ y) : isMn (l ++ [y]) x := by
  refine ⟨List.mem_append_left _ h.1, fun z hz => ?_⟩
  rw [List.mem_append, List.mem_singleton] at hz
  rcases hz with hz | rfl
  · exact h.2 z hz
  · exact hy
theorem isMn_take {l : List Int64} {x y : Int64} (h : isMn l x) (hy : ¬ x ≤ y) : isMn (l ++ [y]) y := by
  refine ⟨by simp, fun z hz => ?_⟩
  rw [List.mem_append, List.mem_singleton] at hz
  rcases hz with hz | rfl
  · have := h.2 z hz
    rw [pl_le] at *
    omega
  · rw [pl_le]; omega
theorem p_joinedL {P : List (Nat × Nat)} {ss : SSt} {mo : MOt} (h : SP P ss mo) (q : Nat) (t e : Int64) : ∀ (P2 P1 : List (Nat × Nat)) (n : Nat) (v : Int64), P = P1 ++ P2 → P2.length < n → isMx (e :: (P1.filter (shp mo q t e)).map (fun p => MO_sEnd mo p.2)) v →
    ∃ v', f_SS_joinedEnd_L7 (nI q) t e ss n v (nI P1.length) = some v' ∧ isMx (e :: (P.filter (shp mo q t e)).map (fun p => MO_sEnd mo p.2)) v' := by
  have hlen := h.len
  intro P2
  induction P2 with
  | nil =>
    intro P1 n v ep hn hv
    obtain ⟨m, rfl⟩ : ∃ m, n = m + 1 := ⟨n - 1, by omega⟩
    rw [f_SS_joinedEnd_L7, h.kept, ep, List.append_nil, if_pos (nI_le (Nat.le_refl _) (by rw [ep] at hlen; simp at hlen; omega))]
    exact ⟨v, rfl, hv⟩
  | cons p P2 ih =>
    intro P1 n v ep hn hv
    obtain ⟨m, rfl⟩ : ∃ m, n = m + 1 := ⟨n - 1, by omega⟩
    subst ep
    have hp := h.lt1 p (by simp)
    have hl : P1.length + (P2.length + 1) ≤ 200 := by simpa using hlen
    obtain ⟨q1, q2, q3, -⟩ := h.eqs p (by simp)
    have hi := fun v => ih (P1 ++ [p]) m v (by simp) (by simp at hn; omega)
    rw [List.length_append, List.length_singleton] at hi
    rw [f_SS_joinedEnd_L7, h.kept, if_neg (nI_ge (by simp) (by simp; omega)), if_neg (nI_in (show P1.length < 200 by omega) (by omega)), nI_clamp (by omega)]
    dsimp only [gl_let]
    rw [h.at, p_shares h (by simp) q t e, ob, if_neg (nI_in hp (by omega)), nI_clamp (show p.1 < 2 ^ 31 by omega), q3, nI_1]
    have hfa : (P1 ++ [p]).filter (shp mo q t e) = P1.filter (shp mo q t e) ++ [p].filter (shp mo q t e) := List.filter_append _ _
    by_cases c : shp mo q t e p = true
    · rw [if_pos c, if_neg (by decide)]
      apply hi
      rw [hfa, List.filter_cons_of_pos c, List.filter_nil, List.map_append, List.map_cons, List.map_nil, ← List.cons_append]
      by_cases z : MO_sEnd mo p.2 < v
      · rw [if_pos z]
        exact isMx_keep hv (by rw [pl_le]; rw [pl_lt] at z; omega)
      · rw [if_neg z]
        by_cases y : MO_sEnd mo p.2 ≤ v
        · have : MO_sEnd mo p.2 = v := by rw [pl_eq]; rw [pl_le] at y; rw [pl_lt] at z; omega
          rw [this]
          exact isMx_keep hv (by rw [pl_le]; omega)
        · exact isMx_take hv y
    · rw [if_neg c, if_pos rfl]
      apply hi
      rw [hfa, List.filter_cons_of_neg c, List.filter_nil, List.append_nil]
      exact hv
theorem p_sharingL {P : List (Nat × Nat)} {ss : SSt} {mo : MOt} (h : SP P ss mo) (q : Nat) (t e : Int64) : ∀ (P2 P1 : List (Nat × Nat)) (n a : Nat), P = P1 ++ P2 → P2.length < n →
    f_SS_sharing_L6 (nI q) t e ss n (nI a) (nI P1.length) = some (nI (a + (P2.filter (shp mo q t e)).length)) := by
  have hlen := h.len
  intro P2
  induction P2 with
  | nil =>
    intro P1 n a ep hn
    obtain ⟨m, rfl⟩ : ∃ m, n = m + 1 := ⟨n - 1, by omega⟩
    rw [f_SS_sharing_L6, h.kept, ep, List.append_nil, if_pos (nI_le (Nat.le_refl _) (by rw [ep] at hlen; simp at hlen; omega))]
    rfl
  | cons p P2 ih =>
    intro P1 n a ep hn
    obtain ⟨m, rfl⟩ : ∃ m, n = m + 1 := ⟨n - 1, by omega⟩
    subst ep
    have hl : P1.length + (P2.length + 1) ≤ 200 := by simpa using hlen
    have hi := fun a => ih (P1 ++ [p]) m a (by simp) (by simp at hn; omega)
    rw [List.length_append, List.length_singleton] at hi
    rw [f_SS_sharing_L6, h.kept, if_neg (nI_ge (by simp) (by simp; omega)), if_neg (nI_in (show P1.length < 200 by omega) (by omega)), nI_clamp (by omega)]
    dsimp only [gl_let]
    rw [h.at, p_shares h (by simp) q t e, ob, nI_1, nI_1]
    by_cases c : shp mo q t e p = true
    · rw [if_pos c, if_neg (by decide), hi, List.filter_cons_of_pos c, List.length_cons, show ∀ z, a + 1 + z = a + (z + 1) from fun z => by omega]
    · rw [if_neg c, if_pos rfl, hi, List.filter_cons_of_neg c]
/-- the sharing slots below i -/
def shw (mo : MOt) (q : Nat) (t e : Int64) (i : Nat) : List Nat := (List.range i).filter (shs mo q t e)
theorem shw_yes {mo : MOt} {q : Nat} {t e : Int64} {i : Nat} (h : shs mo q t e i = true) : shw mo q t e (i + 1) = shw mo q t e i ++ [i] := by
  unfold shw
  rw [List.range_succ, List.filter_append, List.filter_cons_of_pos h, List.filter_nil]
theorem shw_no {mo : MOt} {q : Nat} {t e : Int64} {i : Nat} (h : ¬ shs mo q t e i = true) : shw mo q t e (i + 1) = shw mo q t e i := by
  unfold shw
  rw [List.range_succ, List.filter_append, List.filter_cons_of_neg h, List.filter_nil, List.append_nil]
theorem p_gapL22 {t e : Int64} (mo : MOt) (q : Nat) (hb : MO_wBegin mo 0 = t) (he : MO_wEnd mo 0 = e) : ∀ (m n i : Nat) (v6 v8 : Int64), i + m = 200 → m < n → isMn (t :: (shw mo q t e i).map (MO_sBegin mo)) v6 → isMx (e :: (shw mo q t e i).map (MO_sEnd mo)) v8 →
    ∃ v6' v8', f_MO_gap_L22 (nI q) mo n v6 v8 (nI (shw mo q t e i).length) (nI i) = some (v6', v8', nI (shw mo q t e 200).length) ∧ isMn (t :: (shw mo q t e 200).map (MO_sBegin mo)) v6' ∧ isMx (e :: (shw mo q t e 200).map (MO_sEnd mo)) v8' := by
  intro m
  induction m with
  | zero =>
    intro n i v6 v8 hi hn h6 h8
    obtain ⟨n, rfl⟩ : ∃ m, n = m + 1 := ⟨n - 1, by omega⟩
    have hi2 : i = 200 := by omega
    subst hi2
    rw [f_MO_gap_L22, if_pos (by decide)]
    exact ⟨v6, v8, rfl, h6, h8⟩
  | succ m ih =>
    intro n i v6 v8 hi hn h6 h8
    obtain ⟨n, rfl⟩ : ∃ m, n = m + 1 := ⟨n - 1, by omega⟩
    have k0 : (0 : Int32).toNatClampNeg = 0 := rfl
    rw [f_MO_gap_L22, if_neg (show ¬ (200 : Int32) ≤ nI i from nI_ge (a := i) (b := 200) (by omega) (by omega)), if_neg (nI_in (show i < 200 by omega) (by omega)), nI_clamp (show i < 2 ^ 31 by omega), k0, hb, he]
    dsimp only [gl_let]
    rw [nI_1, nI_1]
    have no : ¬ shs mo q t e i = true → ∃ v6' v8', f_MO_gap_L22 (nI q) mo n v6 v8 (nI (shw mo q t e i).length) (nI (i + 1)) = some (v6', v8', nI (shw mo q t e 200).length) ∧ isMn (t :: (shw mo q t e 200).map (MO_sBegin mo)) v6' ∧ isMx (e :: (shw mo q t e 200).map (MO_sEnd mo)) v8' := by
      intro z
      have := ih n (i + 1) v6 v8 (by omega) (by omega) (by rw [shw_no z]; exact h6) (by rw [shw_no z]; exact h8)
      rw [shw_no z] at this
      exact this
    by_cases c1 : MO_sKey mo i = nI q
    · rw [if_pos c1]
      by_cases c2 : e ≤ MO_sBegin mo i
      · rw [if_pos c2]
        exact no (fun z => by have := (shs_iff.mp z).2.1; rw [pl_lt] at this; rw [pl_le] at c2; omega)
      · rw [if_neg c2]
        by_cases c3 : MO_sEnd mo i ≤ t
        · rw [if_pos c3]
          exact no (fun z => by have := (shs_iff.mp z).2.2; rw [pl_lt] at this; rw [pl_le] at c3; omega)
        · rw [if_neg c3]
          have hs : shs mo q t e i = true := shs_iff.mpr ⟨c1, by rw [pl_lt]; rw [pl_le] at c2; omega, by rw [pl_lt]; rw [pl_le] at c3; omega⟩
          have hlen2 : (shw mo q t e (i + 1)).length = (shw mo q t e i).length + 1 := by rw [shw_yes hs, List.length_append]; rfl
          have hB : ∃ w, f_MO_gap_B84 mo v6 (nI i) = some w ∧ isMn (t :: (shw mo q t e (i + 1)).map (MO_sBegin mo)) w := by
            unfold f_MO_gap_B84
            rw [nI_clamp (show i < 2 ^ 31 by omega), shw_yes hs, List.map_append, List.map_cons, List.map_nil, ← List.cons_append]
            by_cases z : v6 ≤ MO_sBegin mo i
            · rw [if_pos z]; exact ⟨_, rfl, isMn_keep h6 z⟩
            · rw [if_neg z]; exact ⟨_, rfl, isMn_take h6 z⟩
          obtain ⟨w, w1, w2⟩ := hB
          rw [w1, ob, ← hlen2]
          by_cases z : MO_sEnd mo i ≤ v8
          · rw [if_pos z]
            exact ih n (i + 1) w v8 (by omega) (by omega) w2 (by rw [shw_yes hs, List.map_append, List.map_cons, List.map_nil, ← List.cons_append]; exact isMx_keep h8 z)
          · rw [if_neg z]
            exact ih n (i + 1) w _ (by omega) (by omega) w2 (by rw [shw_yes hs, List.map_append, List.map_cons, List.map_nil, ← List.cons_append]; exact isMx_take h8 z)
    · rw [if_neg c1]
      exact no (fun z => c1 (shs_iff.mp z).1)
theorem shw_perm {P : List (Nat × Nat)} {ss : SSt} {mo : MOt} (h : SP P ss mo) {q : Nat} (hq : q < 8) (t e : Int64) : (shw mo q t e 200).Perm ((P.filter (shp mo q t e)).map Prod.snd) := by
  apply nd_perm
  · exact List.Sublist.nodup List.filter_sublist List.nodup_range
  · exact nd_filmap h.nd _
  · intro x
    unfold shw
    rw [List.mem_filter, List.mem_range, List.mem_map]
    constructor
    · rintro ⟨h1, h2⟩
      obtain ⟨p, hp, e⟩ := List.mem_map.mp ((h.free x h1).resolve_left (fun z => nI_m1 (show q < 2 ^ 31 by omega) ((shs_iff.mp h2).1.symm.trans z)))
      exact ⟨p, List.mem_filter.mpr ⟨hp, by unfold shp; rw [e]; exact h2⟩, e⟩
    · rintro ⟨p, hp, rfl⟩
      obtain ⟨h1, h2⟩ := List.mem_filter.mp hp
      exact ⟨h.lt p h1, h2⟩
