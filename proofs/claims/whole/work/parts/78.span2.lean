theorem p_spanL251 {s : Nat} (hs : s < 200) : ∀ (n i : Nat) (mo : MOt), i ≤ 300 → 300 - i < n → ∃ J : Nat → Int32, f_MO_span_L251 (nI s) n (nI i) mo = some (sMO_isIn mo J) ∧ (∀ r : Nat, i ≤ r → r < 300 → J r = vp_nar .boolean (MO_has mo (300 * s + r))) ∧ (∀ r : Nat, r < i → J r = MO_isIn mo r) := by
  intro n
  induction n with
  | zero => intro i mo _ h; omega
  | succ n ih =>
    intro i mo hi hn
    rw [f_MO_span_L251]
    by_cases hc : i = 300
    · subst hc
      rw [if_pos (by decide)]
      exact ⟨MO_isIn mo, rfl, fun r h1 h2 => by omega, fun r _ => rfl⟩
    · rw [if_neg (show ¬ (300 : Int32) ≤ nI i from nI_ge (a := i) (b := 300) (by omega) (by omega)), p_ix, if_neg (nI_in (show 300 * s + i < 60000 by omega) (by omega)), if_neg (nI_in (show i < 300 by omega) (by omega)), nI_clamp (by omega), nI_clamp (by omega)]
      dsimp only [gl_let]
      rw [nI_1]
      obtain ⟨J, e1, e2, e3⟩ := ih (i + 1) (sMO_isIn mo (upd (MO_isIn mo) i (vp_nar .boolean (MO_has mo (300 * s + i))))) (by omega) (by omega)
      refine ⟨J, e1, ?_, ?_⟩
      · intro r h1 h2
        by_cases e : r = i
        · subst e
          rw [e3 r (by omega)]
          exact pk_us
        · exact e2 r (by omega) h2
      · intro r hr
        rw [e3 r (by omega)]
        exact pk_un (by omega)
theorem p_spanGot (k : Nat) (hk : 5000 ≤ k) {L P : List (Nat × Nat)} {sr : SRt} {rs : RSt} {ss : SSt} {mo : MOt} (co : COt) (hR : RR L rs mo) (hS : SP P ss mo) (hB : BT L P (SS_had ss) (SS_untold ss) (MO_has mo) (MO_toldOf mo)) {p : Nat × Nat} (hp : p ∈ P) :
    ∃ (co' : COt) (mo1 : MOt) (g : Nat → Int64) (J : Nat → Int32), f_SR_gather k (nI p.1) sr rs co 1000 (SS_had ss) = some co' ∧ f_MO_span_L251 (nI p.2) k 0 mo = some mo1 ∧ f_MO_contents k mo1 = some (sMO_isIn (sMO_got mo g) J) ∧ ∀ i : Nat, i < 5 → f_CO_part (nI (4 + i)) co' = g i := by
  have hp1 := hS.lt1 p hp
  have hp2 := hS.lt p hp
  have hL := hR.len
  obtain ⟨b1, b2, b3, b4⟩ := hB
  obtain ⟨J, j1, j2, -⟩ := p_spanL251 hp2 k 0 mo (by omega) (by omega)
  rw [nI_0] at j1
  obtain ⟨g, j, g1, g2⟩ := p_contents k hk (RS_values rs) (L.filter (fun q => bt (SS_had ss) p.1 q.1)) (sMO_isIn mo J) co
    (Nat.le_trans (List.length_filter_le _ _) hL) (hR.srt.filter _)
    (by
      intro r hr
      show ¬ J r = 0 ↔ _
      have hnar : (¬ J r = 0) ↔ ¬ MO_has mo (300 * p.2 + r) = 0 := by
        rw [j2 r (by omega) hr]
        rcases b4 p hp r hr with ⟨e, _⟩ | ⟨e, _⟩
        · rw [e, nb0]
        · rw [e, nb1]
      rw [hnar, List.mem_map]
      constructor
      · intro hc
        by_cases hm : r ∈ L.map Prod.snd
        · obtain ⟨q, hq, e⟩ := List.mem_map.mp hm
          refine ⟨q, List.mem_filter.mpr ⟨hq, ?_⟩, e⟩
          exact (b1 p hp q hq).1.mpr (by rw [e]; exact hc)
        · exact absurd (b3 p hp r hr hm) hc
      · rintro ⟨q, hq, e⟩
        obtain ⟨hq1, hq2⟩ := List.mem_filter.mp hq
        rw [← e]
        exact (b1 p hp q hq1).1.mp hq2)
    (fun q hq => hR.lt q (List.mem_filter.mp hq).1)
    (fun q hq => (hR.eqs q (List.mem_filter.mp hq).1).2.2.1)
  exact ⟨_, _, g, j, p_gather hR k hk (SS_had ss) hp1 (by omega) (by omega) sr co, j1, g1, CG.cr (mo := sMO_got mo g) g2⟩
theorem p_span (k : Nat) (hk : 5000 ≤ k) {L P : List (Nat × Nat)} {sr : SRt} {rs : RSt} {ss : SSt} {mo : MOt} (co : COt) (hR : RR L rs mo) (hS : SP P ss mo) (hB : BT L P (SS_had ss) (SS_untold ss) (MO_has mo) (MO_toldOf mo)) (x1 x2 x3 : Int32) :
    ∃ (a : Int64) (co' : COt) (g : Nat → Int64) (J : Nat → Int32), f_SR_span k x1 x2 x3 sr rs ss co = some (a, co') ∧ f_MO_span k x1 x2 x3 mo = some (a, sMO_isIn (sMO_got (sMO_thrown mo 0) g) J) := by
  obtain ⟨mo1, hmo1⟩ : ∃ mo1, mo1 = sMO_thrown mo 0 := ⟨_, rfl⟩
  have hR1 : RR L rs mo1 := by rw [hmo1]; exact hR
  have hS1 : SP P ss mo1 := by rw [hmo1]; exact hS
  have hB1 : BT L P (SS_had ss) (SS_untold ss) (MO_has mo1) (MO_toldOf mo1) := by rw [hmo1]; exact hB
  unfold f_SR_span f_MO_span
  dsimp only [gl_let]
  rw [← hmo1]
  have stay : ∀ (a : Int64), ∃ (a' : Int64) (co' : COt) (g : Nat → Int64) (J : Nat → Int32), some (a, co) = some (a', co') ∧ some (a, mo1) = some (a', sMO_isIn (sMO_got mo1 g) J) := fun a => ⟨a, co, MO_got mo1, MO_isIn mo1, rfl, rfl⟩
  rcases p_nth k hk hS1 x1 x2 with ⟨p, hp, e1, e2⟩ | ⟨e1, e2⟩
  · have hp1 := hS1.lt1 p hp
    have hp2 := hS1.lt p hp
    obtain ⟨q1, q2, q3, q4, q5, q6⟩ := hS1.eqs p hp
    obtain ⟨co', mo2, g, J, c1, c2, c3, c4⟩ := p_spanGot k hk (sr := sr) co hR1 hS1 hB1 hp
    rw [e1, ob, e2, ob, if_neg (nI_m1 (show p.1 < 2 ^ 31 by omega)), if_neg (nI_m1 (show p.2 < 2 ^ 31 by omega)), if_neg (nI_in hp1 (by omega)), if_neg (nI_in hp1 (by omega)), if_neg (nI_in hp1 (by omega)), if_neg (nI_in hp1 (by omega)), if_neg (nI_in hp2 (by omega)), if_neg (nI_in hp2 (by omega)), if_neg (nI_in hp2 (by omega)), if_neg (nI_in hp2 (by omega)), nI_clamp (show p.1 < 2 ^ 31 by omega), nI_clamp (show p.2 < 2 ^ 31 by omega), q2, q3, q4, q5, c1, ob, c2, ob, c3, ob]
    have got : ∀ i : Nat, i < 5 → ∃ (a' : Int64) (co'' : COt) (g' : Nat → Int64) (J' : Nat → Int32), some (f_CO_part (nI (4 + i)) co', co') = some (a', co'') ∧ some (MO_got (sMO_isIn (sMO_got mo1 g) J) i, sMO_isIn (sMO_got mo1 g) J) = some (a', sMO_isIn (sMO_got mo1 g') J') := fun i hi => ⟨_, _, g, J, rfl, by rw [c4 i hi]⟩
    by_cases d1 : x3 = 1
    · subst d1; exact stay _
    by_cases d2 : x3 = 2
    · subst d2; exact stay _
    by_cases d3 : x3 = 3
    · subst d3; exact stay _
    by_cases d4 : x3 = 4
    · subst d4; exact got 0 (by omega)
    by_cases d5 : x3 = 5
    · subst d5; exact got 1 (by omega)
    by_cases d6 : x3 = 6
    · subst d6; exact got 2 (by omega)
    by_cases d7 : x3 = 7
    · subst d7; exact got 3 (by omega)
    by_cases d8 : x3 = 8
    · subst d8; exact got 4 (by omega)
    by_cases d9 : x3 = 9
    · subst d9; exact stay _
    by_cases d10 : x3 = 10
    · subst d10; exact stay _
    rw [if_neg d1, if_neg d2, if_neg d3, if_neg d4, if_neg d5, if_neg d6, if_neg d7, if_neg d8, if_neg d9, if_neg d10]
    rw [pi_eq] at d1 d2 d4 d5 d6 d7 d8 d9 d10
    rw [pi_eq] at d3
    change ¬ x3.toInt = 1 at d1
    change ¬ x3.toInt = 2 at d2
    change ¬ x3.toInt = 3 at d3
    change ¬ x3.toInt = 4 at d4
    change ¬ x3.toInt = 5 at d5
    change ¬ x3.toInt = 6 at d6
    change ¬ x3.toInt = 7 at d7
    change ¬ x3.toInt = 8 at d8
    change ¬ x3.toInt = 9 at d9
    change ¬ x3.toInt = 10 at d10
    by_cases z : x3 < 1
    · rw [if_pos z]; exact stay _
    · rw [if_neg z, if_pos (by rw [pi_lt] at z ⊢; change ¬ x3.toInt < 1 at z; change 10 < x3.toInt; omega)]
      exact stay _
  · rw [e1, ob, e2, ob, if_pos rfl, if_pos rfl]
    exact stay _
