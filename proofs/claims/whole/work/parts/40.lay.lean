/-! PURE PART C: the spans that a row would be in, class and reference -/
def LW (la : LAt) (mo : MOt) (n : Nat) : Prop := LA_found la = nI n ∧ MO_wanted mo = nI n ∧ n ≤ 16 ∧ ∀ i : Nat, i < n → LA_begins la i = MO_wBegin mo i ∧ LA_ends la i = MO_wEnd mo i ∧ -4000000000000 ≤ (LA_begins la i).toInt ∧ (LA_begins la i).toInt ≤ 4000000000000 ∧ -4000000000000 ≤ (LA_ends la i).toInt ∧ (LA_ends la i).toInt ≤ 4000000000000
def LAx (la la' : LAt) : Prop := LA_kind la' = LA_kind la ∧ LA_size la' = LA_size la ∧ LA_step la' = LA_step la ∧ LA_shift la' = LA_shift la ∧ LA_ownRule la' = LA_ownRule la
def MOx (mo mo' : MOt) : Prop := ∃ (w : Int32) (b e : Nat → Int64), mo' = sMO_wEnd (sMO_wBegin (sMO_wanted mo w) b) e
theorem LAx.rf (la : LAt) : LAx la la := ⟨rfl, rfl, rfl, rfl, rfl⟩
theorem LAx.tr {a b c : LAt} (h1 : LAx a b) (h2 : LAx b c) : LAx a c := ⟨h2.1.trans h1.1, h2.2.1.trans h1.2.1, h2.2.2.1.trans h1.2.2.1, h2.2.2.2.1.trans h1.2.2.2.1, h2.2.2.2.2.trans h1.2.2.2.2⟩
theorem MOx.rf (mo : MOt) : MOx mo mo := ⟨MO_wanted mo, MO_wBegin mo, MO_wEnd mo, rfl⟩
theorem MOx.tr {a b c : MOt} (h1 : MOx a b) (h2 : MOx b c) : MOx a c := by
  obtain ⟨w, x, y, rfl⟩ := h1
  obtain ⟨w2, x2, y2, rfl⟩ := h2
  exact ⟨w2, x2, y2, rfl⟩
theorem p_addwant {la : LAt} {mo : MOt} {n : Nat} (h : LW la mo n) (hn : n < 16) (b e : Int64) (hb1 : -4000000000000 ≤ b.toInt) (hb2 : b.toInt ≤ 4000000000000) (he1 : -4000000000000 ≤ e.toInt) (he2 : e.toInt ≤ 4000000000000) :
    ∃ la' mo', f_LA_add b e la = some la' ∧ f_MO_want b e mo = some mo' ∧ LW la' mo' (n + 1) ∧ LAx la la' ∧ MOx mo mo' := by
  obtain ⟨h1, h2, h3, h4⟩ := h
  have hin : ¬ (nI n < 0 ∨ 16 ≤ (nI n).toNatClampNeg) := nI_in hn (by omega)
  have hcl : (nI n).toNatClampNeg = n := nI_clamp (by omega)
  have hA : f_LA_add b e la = some (sLA_found (sLA_ends (sLA_begins la (vp_updL (LA_begins la) n b)) (vp_updL (LA_ends la) n e)) (nI (n + 1))) := by
    unfold f_LA_add
    rw [h1, if_neg (show ¬ (16 : Int32) ≤ nI n from nI_ge (a := n) (b := 16) hn (by omega)), if_neg hin, hcl, nI_1]
  have hM : f_MO_want b e mo = some (sMO_wEnd (sMO_wBegin (sMO_wanted mo (nI (n + 1))) (vp_updL (MO_wBegin mo) n b)) (vp_updL (MO_wEnd mo) n e)) := by
    unfold f_MO_want
    rw [h2, if_neg hin, hcl, nI_1]
  refine ⟨_, _, hA, hM, ⟨rfl, rfl, by omega, fun i hi => ?_⟩, ⟨rfl, rfl, rfl, rfl, rfl⟩, ⟨_, _, _, rfl⟩⟩
  show vp_updL (LA_begins la) n b i = vp_updL (MO_wBegin mo) n b i ∧ vp_updL (LA_ends la) n e i = vp_updL (MO_wEnd mo) n e i ∧ _ ≤ (vp_updL (LA_begins la) n b i).toInt ∧ (vp_updL (LA_begins la) n b i).toInt ≤ _ ∧ _ ≤ (vp_updL (LA_ends la) n e i).toInt ∧ (vp_updL (LA_ends la) n e i).toInt ≤ _
  by_cases hq : i = n
  · subst hq
    rw [pk_uLs, pk_uLs, pk_uLs, pk_uLs]
    exact ⟨rfl, rfl, hb1, hb2, he1, he2⟩
  · rw [pk_uLn hq, pk_uLn hq, pk_uLn hq, pk_uLn hq]
    exact h4 i (by omega)
