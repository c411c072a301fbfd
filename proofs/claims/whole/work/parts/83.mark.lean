/-- the rows that stay -/
theorem p_rowsGo (k : Nat) (hk : 5000 ≤ k) {L : List (Nat × Nat)} {rs : RSt} {mo : MOt} (h : RR L rs mo) (g : Nat → Bool) (V : Nat → Int32) (hV : ∀ q ∈ L, (V q.1 = 0 ↔ g q.2 = false)) (K : Nat → Int32) (hK : ∀ r : Nat, r < 300 → K r = if g r = true then -1 else MO_rKey mo r) :
    ∃ rs', f_RS_sweep k (sRS_leaves rs V) = some rs' ∧ RR (L.filter (fun q => !g q.2)) rs' (sMO_rows (sMO_rKey mo K) (nI (L.filter (fun q => !g q.2)).length)) := by
  obtain ⟨F, hO, hP⟩ := h.ord
  obtain ⟨o, F', s1, s2, s3⟩ := p_RSsweep k hk (rs := sRS_leaves rs V) hO hP (by rw [List.length_map]; exact h.kept)
  have hfil : (L.map Prod.fst).filter (stR (sRS_leaves rs V)) = (L.filter (fun q => !g q.2)).map Prod.fst := by
    rw [List.filter_map]
    congr 1
    apply List.filter_congr
    intro q hq
    show decide (V q.1 = 0) = !g q.2
    by_cases z : g q.2 = true
    · rw [decide_eq_false (fun y => by rw [(hV q hq).mp y] at z; exact absurd z (by decide)), z]; rfl
    · have z2 : g q.2 = false := by simpa using z
      rw [decide_eq_true ((hV q hq).mpr z2), z2]; rfl
  rw [hfil] at s1 s2 s3
  rw [List.length_map] at s1
  have hsub : ∀ q ∈ L.filter (fun q => !g q.2), q ∈ L ∧ g q.2 = false := by
    intro q hq
    have := List.mem_filter.mp hq
    exact ⟨this.1, by simpa using this.2⟩
  have hks : ∀ q ∈ L.filter (fun q => !g q.2), K q.2 = MO_rKey mo q.2 := by
    intro q hq
    obtain ⟨h1, h2⟩ := hsub q hq
    rw [hK q.2 (h.lt q h1), h2, if_neg (by decide)]
  refine ⟨_, s1, ?_⟩
  refine ⟨rfl, rfl, ⟨F', s2, s3⟩, ?_, ?_, fun q hq => h.lt q (hsub q hq).1, nd_filmap h.nd _, ?_, h.srt.filter _, fun q hq => h.cam q (hsub q hq).1⟩
  · intro q hq
    obtain ⟨z1, z2, z3, z4⟩ := h.eqs q (hsub q hq).1
    refine ⟨?_, z2, z3, z4⟩
    show RS_keys rs q.1 = K q.2
    rw [hks q hq, z1]
  · intro q hq
    show ∃ x : Nat, x < 8 ∧ K q.2 = nI x
    rw [hks q hq]
    exact h.keyr q (hsub q hq).1
  · intro r hr
    show K r = -1 ∨ _
    rw [hK r hr]
    by_cases z : g r = true
    · rw [if_pos z]; exact Or.inl rfl
    · rw [if_neg z]
      rcases h.free r hr with y | y
      · exact Or.inl y
      · obtain ⟨q, hq, e⟩ := List.mem_map.mp y
        right
        rw [← e]
        exact List.mem_map_of_mem (List.mem_filter.mpr ⟨hq, by rw [e]; simpa using z⟩)
def grb (P : List (Nat × Nat)) (mo : MOt) (r : Nat) : Bool := !P.any (fun p => !(MO_has mo (300 * p.2 + r) == 0))
theorem grb_iff {P : List (Nat × Nat)} {mo : MOt} {r : Nat} : grb P mo r = false ↔ ∃ p ∈ P, ¬ MO_has mo (300 * p.2 + r) = 0 := by
  unfold grb
  rw [Bool.not_eq_false', List.any_eq_true]
  constructor
  · rintro ⟨p, hp, z⟩
    exact ⟨p, hp, by simpa using z⟩
  · rintro ⟨p, hp, z⟩
    exact ⟨p, hp, by simpa using z⟩
theorem p_markL227 (k : Nat) (hk : 5000 ≤ k) {L P : List (Nat × Nat)} {rs : RSt} {ss : SSt} {mo : MOt} (h : RR L rs mo) (hS : SP P ss mo) : ∀ (m n i : Nat) (K : Nat → Int32), i + m = 300 → m < n → (∀ s : Nat, i ≤ s → K s = MO_rKey mo s) →
    ∃ K' : Nat → Int32, f_MO_mark_L227 k n (nI i) (sMO_rows (sMO_rKey mo K) (nI (L.filter (stb (grb P mo) i)).length)) = some (sMO_rows (sMO_rKey mo K') (nI (L.filter (stb (grb P mo) 300)).length)) ∧ (∀ s : Nat, K' s = if i ≤ s ∧ s < 300 ∧ grb P mo s = true then -1 else K s) := by
  intro m
  induction m with
  | zero =>
    intro n i K hi hn hK
    obtain ⟨n, rfl⟩ : ∃ m, n = m + 1 := ⟨n - 1, by omega⟩
    have hi2 : i = 300 := by omega
    subst hi2
    rw [f_MO_mark_L227, if_pos (by decide)]
    exact ⟨K, rfl, fun s => by rw [if_neg (by omega)]⟩
  | succ m ih =>
    intro n i K hi hn hK
    obtain ⟨n, rfl⟩ : ∃ m, n = m + 1 := ⟨n - 1, by omega⟩
    have hKi : MO_rKey (sMO_rows (sMO_rKey mo K) (nI (L.filter (stb (grb P mo) i)).length)) i = MO_rKey mo i := hK i (Nat.le_refl _)
    obtain ⟨v', v1, v2, v3⟩ := p_markL241 (sMO_rows (sMO_rKey mo K) (nI (L.filter (stb (grb P mo) i)).length)) (show i < 300 by omega) 200 k 0 0 (by omega) (by omega) (Or.inl rfl)
    rw [nI_0] at v1
    have v4 : ¬ v' = 0 ↔ grb P mo i = false := by
      rw [v3, grb_iff]
      constructor
      · rintro (z | ⟨s, _, h2, h3, h4⟩)
        · exact absurd rfl z
        · obtain ⟨p, hp, e⟩ := List.mem_map.mp ((hS.free s h2).resolve_left h3)
          exact ⟨p, hp, by rw [e]; exact h4⟩
      · rintro ⟨p, hp, z⟩
        refine Or.inr ⟨p.2, by omega, hS.lt p hp, ?_, z⟩
        intro y
        obtain ⟨q, hq, e⟩ := hS.keyr p hp
        exact nI_m1 (show q < 2 ^ 31 by omega) (e.symm.trans y)
    rw [f_MO_mark_L227, if_neg (show ¬ (300 : Int32) ≤ nI i from nI_ge (a := i) (b := 300) (by omega) (by omega)), v1, ob, if_neg (nI_in (show i < 300 by omega) (by omega)), nI_clamp (by omega), hKi]
    dsimp only [gl_let]
    rw [nI_1]
    have no : (i ∉ L.map Prod.snd ∨ grb P mo i = false) → (grb P mo i = true → K i = -1) → ∃ K' : Nat → Int32, f_MO_mark_L227 k n (nI (i + 1)) (sMO_rows (sMO_rKey mo K) (nI (L.filter (stb (grb P mo) i)).length)) = some (sMO_rows (sMO_rKey mo K') (nI (L.filter (stb (grb P mo) 300)).length)) ∧ (∀ s : Nat, K' s = if i ≤ s ∧ s < 300 ∧ grb P mo s = true then -1 else K s) := by
      intro z zk
      obtain ⟨K', e1, e2⟩ := ih n (i + 1) K (by omega) (by omega) (fun s hs => hK s (by omega))
      rw [stb_no z] at e1
      refine ⟨K', e1, fun s => ?_⟩
      rw [e2 s]
      by_cases e : s = i
      · subst e
        rw [if_neg (by omega)]
        by_cases y : s ≤ s ∧ s < 300 ∧ grb P mo s = true
        · rw [if_pos y, zk y.2.2]
        · rw [if_neg y]
      · by_cases y : i + 1 ≤ s ∧ s < 300 ∧ grb P mo s = true
        · rw [if_pos y, if_pos ⟨by omega, y.2⟩]
        · rw [if_neg y, if_neg (fun x => y ⟨by omega, x.2⟩)]
    by_cases h1 : MO_rKey mo i = -1
    · rw [if_pos h1]
      refine no (Or.inl ?_) (fun _ => by rw [hK i (Nat.le_refl _), h1])
      intro z
      obtain ⟨p, hp, e⟩ := List.mem_map.mp z
      obtain ⟨q, hq, e2⟩ := h.keyr p hp
      rw [e, h1] at e2
      exact nI_m1 (by omega) e2.symm
    · rw [if_neg h1]
      have hin : i ∈ L.map Prod.snd := (h.free i (by omega)).resolve_left h1
      by_cases h2 : v' = 0
      · rw [if_pos h2]
        have hg : grb P mo i = true := by
          cases hz : grb P mo i with
          | true => rfl
          | false => exact absurd h2 (v4.mpr hz)
        have hone := stb_one h.nd hin hg
        obtain ⟨K1, hK1⟩ : ∃ K1, K1 = upd K i (-1) := ⟨_, rfl⟩
        obtain ⟨K', e1, e2⟩ := ih n (i + 1) K1 (by omega) (by omega) (fun s hs => by rw [hK1, pk_un (by omega)]; exact hK s (by omega))
        refine ⟨K', ?_, fun s => ?_⟩
        · rw [← e1, ← hone]
          show f_MO_mark_L227 k n (nI (i + 1)) (sMO_rows (sMO_rKey mo (upd K i (-1))) (nI ((L.filter (stb (grb P mo) (i + 1))).length + 1) - 1)) = _
          rw [nI_s1.1, hK1]
        · rw [e2 s, hK1]
          by_cases e : s = i
          · subst e
            rw [if_neg (by omega), if_pos ⟨Nat.le_refl _, by omega, hg⟩, pk_us]
          · rw [pk_un e]
            by_cases z : i + 1 ≤ s ∧ s < 300 ∧ grb P mo s = true
            · rw [if_pos z, if_pos ⟨by omega, z.2⟩]
            · rw [if_neg z, if_neg (fun y => z ⟨by omega, y.2⟩)]
      · rw [if_neg h2]
        exact no (Or.inr (v4.mp h2)) (fun z => by rw [v4.mp h2] at z; exact absurd z (by decide))
theorem p_endSpans (k : Nat) (hk : 5000 ≤ k) {L P : List (Nat × Nat)} {sr : SRt} {rs : RSt} {ss : SSt} {fs : FSt} {co : COt} {mo : MOt} {T : Nat} (hX : SX sr mo) (hR : RR L rs mo) (hS : SP P ss mo) (hB : BT L P (SS_had ss) (SS_untold ss) (MO_has mo) (MO_toldOf mo)) (hF : FR fs mo T) (hT : T + 200 ≤ 4000000) :
    ∃ (a : Int32) (rs' : RSt) (ss' : SSt) (fs' : FSt) (co' : COt) (mo1 mo2 mo' : MOt) (L' P' : List (Nat × Nat)) (T' : Nat), f_SR_endSpans k sr rs ss fs co = some (a, rs', ss', fs', co') ∧ f_MO_mark_L56 k k 0 0 mo = some (a, mo1) ∧ f_MO_mark_L161 k 0 mo1 = some mo2 ∧ f_MO_mark_L227 k k 0 mo2 = some mo' ∧ RR L' rs' mo' ∧ SP P' ss' mo' ∧ BT L' P' (SS_had ss') (SS_untold ss') (MO_has mo') (MO_toldOf mo') ∧ FR fs' mo' T' ∧ T' ≤ T + 200 ∧ moC mo' = moC mo ∧ (∃ f : Nat × Nat → Bool, P' = P.filter f) ∧ (∀ p ∈ P', MO_sKey mo' p.2 = MO_sKey mo p.2) ∧ (MO_sBegin mo' = MO_sBegin mo ∧ MO_sEnd mo' = MO_sEnd mo ∧ MO_has mo' = MO_has mo) := by
  have hlen := hS.len
  obtain ⟨f, D, d1, d2, d3, d4⟩ := p_due k hk hS (MO_now mo)
  have hDP : ∀ d ∈ D, d ∈ P := fun d hd => (List.mem_filter.mp (d3.mem_iff.mp hd)).1
  have hDl : D.length ≤ 200 := by rw [d3.length_eq]; exact Nat.le_trans (List.length_filter_le _ _) hlen
  have hdus : ∀ s : Nat, s < 200 → (dus mo s ↔ s ∈ D.map Prod.snd) := by
    intro s hs
    constructor
    · rintro ⟨h1, h2, h3⟩
      obtain ⟨p, hp, e⟩ := List.mem_map.mp ((hS.free s hs).resolve_left h1)
      rw [← e]
      apply List.mem_map_of_mem
      rw [d3.mem_iff, List.mem_filter]
      refine ⟨hp, ?_⟩
      unfold dueb
      rw [e, h2]
      have : MO_sEnd mo s ≤ MO_now mo := by rw [pl_le]; rw [pl_lt] at h3; omega
      simp [this]
    · intro z
      obtain ⟨p, hp, e⟩ := List.mem_map.mp z
      obtain ⟨h1, h2⟩ := List.mem_filter.mp (d3.mem_iff.mp hp)
      unfold dueb at h2
      rw [Bool.and_eq_true, beq_iff_eq, decide_eq_true_eq] at h2
      obtain ⟨q, hq, e2⟩ := hS.keyr p h1
      rw [← e]
      refine ⟨fun y => nI_m1 (show q < 2 ^ 31 by omega) (e2.symm.trans y), h2.1, ?_⟩
      have := h2.2
      rw [pl_lt]; rw [pl_le] at this; omega
  have hS0 : SP P (sSS_due ss f) mo := hS
  obtain ⟨ss1, fs1, co1, mo1, a1, a2, a3, a4, a5, a6, a7, a8, a9, a10, a11, a12⟩ := p_endLoop k hk (L := L) (P := P) (D := D) (rs := rs) hX hDP hDl D [] k k 0 (sSS_due ss f) fs co mo T rfl (by omega) (by omega) (by decide) rfl rfl d2 d4 hdus hR hS0 hB hF (by omega)
  rw [List.length_nil, nI_0] at a1 a2
  have hX1 := hX.cong a7
  obtain ⟨P', ss2, mo2, b1, b2, b3, b4, b5, K, c, rfl, b6⟩ := p_drop k hk hX1 a4 a5
  have hR2 : RR L rs (sMO_spans (sMO_sKey mo1 K) c) := a3.cong rfl
  obtain ⟨mo2, hmo2⟩ : ∃ mo2, mo2 = sMO_spans (sMO_sKey mo1 K) c := ⟨_, rfl⟩
  rw [← hmo2] at b2 b3 b4 hR2
  obtain ⟨U, u1, u2⟩ := p_unite k hk b3
  obtain ⟨V, v1, -, v3⟩ := p_endL64 hR2 (sSS_united ss2 U) L [] k (RS_leaves rs) rfl (by have := hR.len; omega)
  rw [List.length_nil, nI_0, show sRS_leaves rs (RS_leaves rs) = rs from rfl] at v1
  obtain ⟨K2, m1, m2⟩ := p_markL227 k hk hR2 b3 300 k 0 (MO_rKey mo2) (by omega) (by omega) (fun s _ => rfl)
  rw [nI_0, stb_zero, ← hR2.rows, show sMO_rows (sMO_rKey mo2 (MO_rKey mo2)) (MO_rows mo2) = mo2 from rfl, stb_all (grb P' mo2) hR2.lt] at m1
  have hbit : ∀ q ∈ L, (bt U 0 q.1 = true ↔ grb P' mo2 q.2 = false) := by
    intro q hq
    rw [u2 q.1 (hR.lt1 q hq), grb_iff, List.any_eq_true]
    constructor
    · rintro ⟨p, hp, z⟩
      exact ⟨p, hp, (b4.1 p hp q hq).1.mp z⟩
    · rintro ⟨p, hp, z⟩
      exact ⟨p, hp, (b4.1 p hp q hq).1.mpr z⟩
  have hV : ∀ q ∈ L, (V q.1 = 0 ↔ grb P' mo2 q.2 = false) := by
    intro q hq
    have h1 : V q.1 = if bt U 0 q.1 = true then 0 else 1 := v3 q hq
    rw [h1, ← hbit q hq]
    by_cases z : bt U 0 q.1 = true
    · rw [if_pos z]; exact ⟨fun _ => z, fun _ => rfl⟩
    · rw [if_neg z]; exact ⟨fun y => absurd y (by decide), fun y => absurd y z⟩
  obtain ⟨rs', w1, w2⟩ := p_rowsGo k hk hR2 (grb P' mo2) V hV K2 (fun r hr => by
    rw [m2 r]
    by_cases z : grb P' mo2 r = true
    · rw [if_pos z, if_pos ⟨by omega, hr, z⟩]
    · rw [if_neg z, if_neg (fun y => z y.2.2)])
  refine ⟨nI D.length, rs', sSS_united ss2 U, fs1, co1, mo1, mo2, _, L.filter (fun q => !grb P' mo2 q.2), P', T + D.length, ?_, a2, b2, m1, w2, b3, ?_, ?_, by omega, ?_, b5, ?_, ?_⟩
  · unfold f_SR_endSpans
    rw [hX.1.2.1, d1, ob]
    dsimp only
    rw [a1, ob]
    dsimp only
    rw [← hX.1.2.1, b1, ob, u1, ob, v1, ob, w1, ob]
  · obtain ⟨e1, e2, e3, e4⟩ := b4
    have hgo : ∀ q ∈ L, ∀ p ∈ P', grb P' mo2 q.2 = true → MO_has mo2 (300 * p.2 + q.2) = 0 := by
      intro q hq p hp z
      apply Classical.byContradiction
      intro y
      rw [grb_iff.mpr ⟨p, hp, y⟩] at z
      exact absurd z (by decide)
    show BT _ P' (SS_had ss2) (SS_untold ss2) (MO_has mo2) (MO_toldOf mo2)
    refine ⟨fun p hp q hq => e1 p hp q (List.mem_filter.mp hq).1, ?_, ?_, e4⟩
    · intro p hp x hx hn
      by_cases z : x ∈ L.map Prod.fst
      · obtain ⟨q, hq, e⟩ := List.mem_map.mp z
        have hg : grb P' mo2 q.2 = true := by
          cases y : grb P' mo2 q.2 with
          | true => rfl
          | false => exact absurd (List.mem_map.mpr ⟨q, List.mem_filter.mpr ⟨hq, by rw [y]; rfl⟩, e⟩) hn
        have h0 := hgo q hq p hp hg
        obtain ⟨y1, y2⟩ := e1 p hp q hq
        rw [← e]
        constructor
        · cases y : bt (SS_had ss2) p.1 q.1 with
          | false => rfl
          | true => exact absurd h0 (y1.mp y)
        · cases y : bt (SS_untold ss2) p.1 q.1 with
          | false => rfl
          | true => exact absurd h0 (y2.mp y).1
      · exact e2 p hp x hx z
    · intro p hp x hx hn
      by_cases z : x ∈ L.map Prod.snd
      · obtain ⟨q, hq, e⟩ := List.mem_map.mp z
        have hg : grb P' mo2 q.2 = true := by
          cases y : grb P' mo2 q.2 with
          | true => rfl
          | false => exact absurd (List.mem_map.mpr ⟨q, List.mem_filter.mpr ⟨hq, by rw [y]; rfl⟩, e⟩) hn
        rw [← e]
        exact hgo q hq p hp hg
      · exact e3 p hp x hx z
  · have : moF (sMO_rows (sMO_rKey mo2 K2) (nI (L.filter (fun q => !grb P' mo2 q.2)).length)) = moF mo1 := by rw [hmo2]; rfl
    exact a6.cong this
  · have : moC (sMO_rows (sMO_rKey mo2 K2) (nI (L.filter (fun q => !grb P' mo2 q.2)).length)) = moC mo1 := by rw [hmo2]; rfl
    exact this.trans a7
  · intro p hp
    rw [hmo2]
    show K p.2 = _
    rw [b6 p hp, a9]
  · rw [hmo2]
    exact ⟨a10, a11, a12⟩
