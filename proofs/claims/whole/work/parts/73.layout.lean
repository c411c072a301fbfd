theorem moC.get {mo mo' : MOt} (e : moC mo' = moC mo) : MO_now mo' = MO_now mo ∧ MO_lateness mo' = MO_lateness mo ∧ MO_wanted mo' = MO_wanted mo ∧ MO_wBegin mo' = MO_wBegin mo ∧ MO_wEnd mo' = MO_wEnd mo ∧ MO_kind mo' = MO_kind mo ∧ MO_came mo' = MO_came mo ∧ MO_thrown mo' = MO_thrown mo ∧ MO_numbered mo' = MO_numbered mo ∧ MO_nextSpan mo' = MO_nextSpan mo ∧ MO_size mo' = MO_size mo ∧ MO_step mo' = MO_step mo ∧ MO_late mo' = MO_late mo := by
  unfold moC at e
  injection e with e1 e
  injection e with e2 e
  injection e with e3 e4
  injection e1 with a1 e1
  injection e1 with a2 e1
  injection e1 with a3 e1
  injection e1 with a4 e1
  injection e1 with a5 a6
  injection e2 with b1 e2
  injection e2 with b2 e2
  injection e2 with b3 e2
  injection e2 with b4 e2
  injection e2 with b5 b6
  injection e3 with c1 e3
  injection e3 with c2 e3
  injection e3 with c3 c4
  injection e4 with d1 e4
  injection e4 with d2 e4
  injection e4 with d3 d4
  exact ⟨b6, a5, d1, d2, d3, a1, d4, c4, c2, c3, a2, a3, c1⟩
def nwb (P : List (Nat × Nat)) (mo : MOt) (q : Nat) (w : Int64 × Int64) : Bool := P.all (fun p => !(MO_sKey mo p.2 == nI q && MO_sBegin mo p.2 == w.1 && MO_sEnd mo p.2 == w.2))
theorem nwb_iff {P : List (Nat × Nat)} {mo : MOt} {q : Nat} {w : Int64 × Int64} : nwb P mo q w = true ↔ ∀ p ∈ P, ¬ mtc mo (nI q) w.1 w.2 p.2 := by
  unfold nwb mtc
  rw [List.all_eq_true]
  constructor
  · intro h p hp z
    have := h p hp
    simp [z.1, z.2.1, z.2.2] at this
  · intro h p hp
    have := h p hp
    rw [Bool.not_eq_true', ← Bool.not_eq_true]
    intro z
    rw [Bool.and_eq_true, Bool.and_eq_true, beq_iff_eq, beq_iff_eq, beq_iff_eq] at z
    exact this ⟨z.1.1, z.1.2, z.2⟩
theorem mtc.inj {mo : MOt} {k : Int32} {b e b' e' : Int64} {s : Nat} (h1 : mtc mo k b e s) (h2 : mtc mo k b' e' s) : b = b' ∧ e = e' := ⟨h1.2.1.symm.trans h2.2.1, h1.2.2.symm.trans h2.2.2⟩
def wok (w : Int64 × Int64) : Prop := (-4000000000000 ≤ w.1.toInt ∧ w.1.toInt ≤ 4000000000000) ∧ (-4000000000000 ≤ w.2.toInt ∧ w.2.toInt ≤ 4000000000000)
def kpw (mo : MOt) (w : Int64 × Int64) : Bool := decide (¬ w.2 ≤ MO_now mo - MO_lateness mo)
theorem p_gone {sr : SRt} {mo : MOt} (hX : SX sr mo) {e : Int64} (he : -4000000000000 ≤ e.toInt ∧ e.toInt ≤ 4000000000000) : (e + MO_lateness mo ≤ MO_now mo) ↔ e ≤ MO_now mo - MO_lateness mo := by
  obtain ⟨-, ⟨l1, l2⟩, ⟨n1, n2⟩, -⟩ := hX
  rw [pl_le, pl_le, pl_add (by omega) (by omega), pl_sub (by omega) (by omega)]
  omega
theorem p_newOnesL (k : Nat) (hk : 5000 ≤ k) {P : List (Nat × Nat)} {ss : SSt} {mo : MOt} (h : SP P ss mo) {q : Nat} (hq : q < 8) {la : LAt} : ∀ (W2 W1 : List (Int64 × Int64)) (n a : Nat), W2.length < n → LA_found la = nI (W1 ++ W2).length → (W1 ++ W2).length ≤ 16 → LL (LA_begins la) (LA_ends la) (W1 ++ W2) →
    f_SR_newOnes_L4 k (nI q) la ss n (nI a) (nI W1.length) = some (nI (a + (W2.filter (nwb P mo q)).length)) := by
  intro W2
  induction W2 with
  | nil =>
    intro W1 n a hn hf hl hW
    obtain ⟨m, rfl⟩ : ∃ m, n = m + 1 := ⟨n - 1, by omega⟩
    rw [f_SR_newOnes_L4, hf, List.append_nil, if_pos (nI_le (Nat.le_refl _) (by simp at hl; omega))]
    rfl
  | cons w W2 ih =>
    intro W1 n a hn hf hl hW
    obtain ⟨m, rfl⟩ : ∃ m, n = m + 1 := ⟨n - 1, by omega⟩
    have hl2 : W1.length + (W2.length + 1) ≤ 16 := by simpa using hl
    obtain ⟨w1, w2⟩ := hW.at
    have hi := fun a => ih (W1 ++ [w]) m a (by simp at hn; omega) (by rw [List.append_assoc]; exact hf) (by rw [List.append_assoc]; exact hl) (by rw [List.append_assoc]; exact hW)
    rw [List.length_append, List.length_singleton] at hi
    rw [f_SR_newOnes_L4, hf, if_neg (nI_ge (by simp) (by simp; omega)), if_neg (nI_in (show W1.length < 16 by omega) (by omega)), nI_clamp (by omega), w1, w2]
    dsimp only [gl_let]
    rw [nI_1, nI_1]
    rcases p_find k hk h hq w.1 w.2 with ⟨p, hp, m1, e1, e2⟩ | ⟨m1, e1, e2⟩
    · rw [e1, ob, if_neg (nI_m1 (by have := h.lt1 p hp; omega)), hi, List.filter_cons_of_neg (fun z => nwb_iff.mp z p hp m1)]
    · rw [e1, ob, if_pos rfl, hi, List.filter_cons_of_pos (nwb_iff.mpr m1), List.length_cons, show a + 1 + (W2.filter (nwb P mo q)).length = a + ((W2.filter (nwb P mo q)).length + 1) by omega]
theorem p_plainL9 (k : Nat) (hk : 5000 ≤ k) {P : List (Nat × Nat)} {ss : SSt} {mo : MOt} (h : SP P ss mo) {sr : SRt} (hX : SX sr mo) {q : Nat} (hq : q < 8) : ∀ (W2 W1 : List (Int64 × Int64)) (n a b : Nat), W2.length < n → MO_wanted mo = nI (W1 ++ W2).length → (W1 ++ W2).length ≤ 16 → LL (MO_wBegin mo) (MO_wEnd mo) (W1 ++ W2) → (∀ w ∈ W2, wok w) →
    f_MO_plain_L9 k (nI q) mo n (nI a) (nI b) (nI W1.length) = some (nI (a + (W2.filter (kpw mo)).length), nI (b + ((W2.filter (kpw mo)).filter (nwb P mo q)).length)) := by
  intro W2
  induction W2 with
  | nil =>
    intro W1 n a b hn hf hl hW _
    obtain ⟨m, rfl⟩ : ∃ m, n = m + 1 := ⟨n - 1, by omega⟩
    rw [f_MO_plain_L9, hf, List.append_nil, if_pos (nI_le (Nat.le_refl _) (by simp at hl; omega))]
    rfl
  | cons w W2 ih =>
    intro W1 n a b hn hf hl hW hok
    obtain ⟨m, rfl⟩ : ∃ m, n = m + 1 := ⟨n - 1, by omega⟩
    have hl2 : W1.length + (W2.length + 1) ≤ 16 := by simpa using hl
    obtain ⟨w1, w2⟩ := hW.at
    have hi := fun a b => ih (W1 ++ [w]) m a b (by simp at hn; omega) (by rw [List.append_assoc]; exact hf) (by rw [List.append_assoc]; exact hl) (by rw [List.append_assoc]; exact hW) (fun u hu => hok u (List.mem_cons_of_mem _ hu))
    rw [List.length_append, List.length_singleton] at hi
    rw [f_MO_plain_L9, hf, if_neg (nI_ge (by simp) (by simp; omega)), if_neg (nI_in (show W1.length < 16 by omega) (by omega)), nI_clamp (by omega), w1, w2]
    dsimp only [gl_let]
    rw [nI_1]
    have hg := p_gone hX (hok w (by simp)).2
    by_cases hc : w.2 + MO_lateness mo ≤ MO_now mo
    · rw [if_pos hc, hi, List.filter_cons_of_neg (show ¬ kpw mo w = true from fun z => of_decide_eq_true z (hg.mp hc))]
    · rw [if_neg hc, nI_1, List.filter_cons_of_pos (show kpw mo w = true from decide_eq_true (fun z => hc (hg.mpr z)))]
      rcases p_find k hk h hq w.1 w.2 with ⟨p, hp, m1, e1, e2⟩ | ⟨m1, e1, e2⟩
      · rw [e2, ob, if_neg (nI_m1 (by have := h.lt p hp; omega)), Int32.add_zero, hi, List.filter_cons_of_neg (fun z => nwb_iff.mp z p hp m1), List.length_cons, show a + 1 + (W2.filter (kpw mo)).length = a + ((W2.filter (kpw mo)).length + 1) by omega]
      · rw [e2, ob, if_pos rfl, nI_1, hi, List.filter_cons_of_pos (nwb_iff.mpr m1), List.length_cons, List.length_cons, show a + 1 + (W2.filter (kpw mo)).length = a + ((W2.filter (kpw mo)).length + 1) by omega, show ∀ z, b + 1 + z = b + (z + 1) from fun z => by omega]
