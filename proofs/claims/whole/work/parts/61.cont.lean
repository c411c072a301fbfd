theorem nI_m1 {a : Nat} (h : a < 2 ^ 31) : ¬ nI a = -1 := by
  intro e
  have e2 := congrArg Int32.toInt e
  rw [nI_toInt h, show (-1 : Int32).toInt = -1 from rfl] at e2
  omega
theorem bfr_irr (t : Nat → Int64) (c : Nat → Int32) (a : Nat) : ¬ bfr t c a a := by
  unfold bfr
  rw [pl_lt, pi_lt]
  omega
theorem bfr_tr {t : Nat → Int64} {c : Nat → Int32} {a b d : Nat} (h1 : bfr t c a b) (h2 : bfr t c b d) : bfr t c a d := by
  unfold bfr at *
  rw [pl_lt, pl_eq, pi_lt] at *
  omega
theorem p_isBefore {mo : MOt} {a b : Nat} (ha : a < 300) (hb : b < 300) : f_MO_isBefore (nI a) (nI b) mo = some (if bfr (MO_rTime mo) (MO_rCame mo) a b then 1 else 0) := by
  unfold f_MO_isBefore
  rw [if_neg (nI_in ha (by omega)), if_neg (nI_in hb (by omega)), nI_clamp (by omega), nI_clamp (by omega)]
  by_cases h1 : MO_rTime mo a < MO_rTime mo b
  · rw [if_pos h1, if_pos (Or.inl h1)]
  · rw [if_neg h1]
    by_cases h2 : MO_rTime mo a = MO_rTime mo b
    · rw [if_pos h2]
      by_cases h3 : MO_rCame mo b ≤ MO_rCame mo a
      · rw [if_pos h3, if_neg (fun z => by rcases z with z | z; exact h1 z; have := z.2; rw [pi_lt] at this; rw [pi_le] at h3; omega)]
      · rw [if_neg h3, if_pos (Or.inr ⟨h2, by rw [pi_lt]; rw [pi_le] at h3; omega⟩)]
    · rw [if_neg h2, if_neg (fun z => by rcases z with z | z; exact h1 z; exact h2 z.1)]
/-- what a search for the first of a set has found below i -/
def fnd (S : Nat → Prop) (B : Nat → Nat → Prop) (N i : Nat) (v : Int32) : Prop := (v = -1 ∧ ∀ r : Nat, r < i → ¬ S r) ∨ ∃ m : Nat, v = nI m ∧ m < N ∧ S m ∧ ∀ r : Nat, r < i → S r → ¬ B r m
theorem fnd_no {S : Nat → Prop} {B : Nat → Nat → Prop} {N i : Nat} {v : Int32} (h : fnd S B N i v) (hi : ¬ S i) : fnd S B N (i + 1) v := by
  rcases h with ⟨h1, h2⟩ | ⟨m, h1, h2, h3, h4⟩
  · exact Or.inl ⟨h1, fun r hr => if e : r = i then e ▸ hi else h2 r (by omega)⟩
  · exact Or.inr ⟨m, h1, h2, h3, fun r hr hs => if e : r = i then absurd (e ▸ hs) hi else h4 r (by omega) hs⟩
theorem fnd_new {S : Nat → Prop} {B : Nat → Nat → Prop} {N i : Nat} (hN : N < 2 ^ 31) (irr : ∀ a, ¬ B a a) (h : fnd S B N i (-1)) (hi : S i) (hi2 : i < N) : fnd S B N (i + 1) (nI i) := by
  rcases h with ⟨h1, h2⟩ | ⟨m, h1, h2, h3, h4⟩
  · exact Or.inr ⟨i, rfl, hi2, hi, fun r hr hs => if e : r = i then e ▸ irr r else absurd hs (h2 r (by omega))⟩
  · exact absurd h1.symm (nI_m1 (by omega))
theorem fnd_keep {S : Nat → Prop} {B : Nat → Nat → Prop} {N i : Nat} {m : Nat} (hN : N < 2 ^ 31) (h : fnd S B N i (nI m)) (hm : m < N) (hb : ¬ B i m) : fnd S B N (i + 1) (nI m) := by
  rcases h with ⟨h1, h2⟩ | ⟨m', h1, h2, h3, h4⟩
  · exact absurd h1 (nI_m1 (by omega))
  · have e : m = m' := (nI_eq (by omega) (by omega)).mp h1
    subst e
    exact Or.inr ⟨m, h1, h2, h3, fun r hr hs => if e : r = i then e ▸ hb else h4 r (by omega) hs⟩
theorem fnd_take {S : Nat → Prop} {B : Nat → Nat → Prop} {N i : Nat} {m : Nat} (hN : N < 2 ^ 31) (irr : ∀ a, ¬ B a a) (tr : ∀ {a b c}, B a b → B b c → B a c) (h : fnd S B N i (nI m)) (hm : m < N) (hi : S i) (hi2 : i < N) (hb : B i m) : fnd S B N (i + 1) (nI i) := by
  rcases h with ⟨h1, h2⟩ | ⟨m', h1, h2, h3, h4⟩
  · exact absurd h1 (nI_m1 (by omega))
  · have e : m = m' := (nI_eq (by omega) (by omega)).mp h1
    subst e
    exact Or.inr ⟨i, rfl, hi2, hi, fun r hr hs => if e : r = i then e ▸ irr r else fun z => h4 r (by omega) hs (tr z hb)⟩
theorem p_L31 (mo : MOt) : ∀ (n i : Nat) (v : Int32), i ≤ 300 → 300 - i < n → fnd (fun r => ¬ MO_isIn mo r = 0) (bfr (MO_rTime mo) (MO_rCame mo)) 300 i v → ∃ v', f_MO_contents_L31 mo n v (nI i) = some v' ∧ fnd (fun r => ¬ MO_isIn mo r = 0) (bfr (MO_rTime mo) (MO_rCame mo)) 300 300 v' := by
  intro n
  induction n with
  | zero => intro i v _ h; omega
  | succ n ih =>
    intro i v hi hn hf
    have h300 : (300 : Int32) = nI 300 := rfl
    rw [f_MO_contents_L31]
    by_cases hc : i = 300
    · subst hc
      rw [if_pos (by decide)]
      exact ⟨v, rfl, hf⟩
    · rw [if_neg (show ¬ (300 : Int32) ≤ nI i from nI_ge (a := i) (b := 300) (by omega) (by omega)), if_neg (nI_in (by omega) (by omega)), nI_clamp (by omega)]
      dsimp only [gl_let]
      rw [nI_1]
      by_cases hs : MO_isIn mo i = 0
      · rw [if_pos hs]
        exact ih (i + 1) v (by omega) (by omega) (fnd_no hf (fun z => z hs))
      · rw [if_neg hs]
        by_cases hv : v = -1
        · rw [if_pos hv]
          subst hv
          exact ih (i + 1) _ (by omega) (by omega) (fnd_new (by omega) (bfr_irr _ _) hf hs (by omega))
        · rw [if_neg hv]
          obtain ⟨m, hm, hm2⟩ : ∃ m : Nat, v = nI m ∧ m < 300 := by
            rcases hf with ⟨h1, _⟩ | ⟨m, h1, h2, _⟩
            · exact absurd h1 hv
            · exact ⟨m, h1, h2⟩
          subst hm
          rw [p_isBefore (by omega) hm2]
          dsimp only [Option.bind]
          by_cases hb : bfr (MO_rTime mo) (MO_rCame mo) i m
          · rw [if_pos hb, if_neg (by decide)]
            exact ih (i + 1) _ (by omega) (by omega) (fnd_take (by omega) (bfr_irr _ _) bfr_tr hf hm2 hs (by omega) hb)
          · rw [if_neg hb, if_pos rfl]
            exact ih (i + 1) _ (by omega) (by omega) (fnd_keep (by omega) hf hm2 hb)
/-- the found one is the first of a sorted list -/
theorem fnd_list {S : Nat → Prop} {B : Nat → Nat → Prop} {N : Nat} {v : Int32} (h : fnd S B N N v) {Q : List (Nat × Nat)} (hQ : Q.Pairwise (fun p q => B p.2 q.2)) (hS : ∀ r : Nat, r < N → (S r ↔ r ∈ Q.map Prod.snd)) (hl : ∀ p ∈ Q, p.2 < N) : (Q = [] ∧ v = -1) ∨ ∃ p R, Q = p :: R ∧ v = nI p.2 := by
  cases Q with
  | nil =>
    left
    refine ⟨rfl, ?_⟩
    rcases h with ⟨h1, h2⟩ | ⟨m, h1, h2, h3, h4⟩
    · exact h1
    · exact absurd ((hS m h2).mp h3) (by simp)
  | cons p R =>
    right
    refine ⟨p, R, rfl, ?_⟩
    have hp := hl p (by simp)
    have hsp : S p.2 := (hS p.2 hp).mpr (by simp)
    rcases h with ⟨h1, h2⟩ | ⟨m, h1, h2, h3, h4⟩
    · exact absurd hsp (h2 _ hp)
    · have hm := (hS m h2).mp h3
      rw [List.map_cons, List.mem_cons] at hm
      rcases hm with e | e
      · rw [h1, e]
      · obtain ⟨q, hq, rfl⟩ := List.mem_map.mp e
        exact absurd ((List.pairwise_cons.mp hQ).1 q hq) (h4 _ hp hsp)
