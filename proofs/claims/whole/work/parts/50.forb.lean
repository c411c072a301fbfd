/-! PURE PART D: forbidden values -/
def FBr (fb : FBt) (mo : MOt) : Prop := FB_values fb = MO_bad mo ∧ FB_known fb = MO_forbidden mo ∧ ∀ r : Nat, r < 3 → ∃ n : Nat, n ≤ 8 ∧ MO_forbidden mo r = nI n
theorem p_hasLoop {fb : FBt} {mo : MOt} (h : FBr fb mo) (r : Nat) (hr : r < 3) (v : Int64) : ∀ (n j : Nat), j ≤ 8 → 8 - j < n → ∃ a : Int32, (a = 0 ∨ a = 1) ∧ f_FB_has_L3 (nI r) v fb n (nI j) = some a ∧ f_MO_isForbidden_L3 (nI r) v mo n (nI j) = some a := by
  obtain ⟨h1, h2, h3⟩ := h
  obtain ⟨c, hc, ec⟩ := h3 r hr
  have hin : ¬ (nI r < 0 ∨ 3 ≤ (nI r).toNatClampNeg) := nI_in hr (by omega)
  have hcl : (nI r).toNatClampNeg = r := nI_clamp (by omega)
  have h8 : (8 : Int32) = nI 8 := rfl
  intro n
  induction n with
  | zero => intro j _ h; omega
  | succ n ih =>
    intro j hj hn
    rw [f_FB_has_L3, f_MO_isForbidden_L3, if_neg hin, if_neg hin, hcl, h2, ec]
    by_cases hcj : c ≤ j
    · rw [if_pos (nI_le hcj (by omega)), if_pos (nI_le hcj (by omega))]
      exact ⟨0, Or.inl rfl, rfl, rfl⟩
    · have e1 : nI r * 8 + nI j = nI (8 * r + j) := by rw [h8, pk_mul, nI_add, Nat.mul_comm]
      have e2 : 8 * nI r + nI j = nI (8 * r + j) := by rw [h8, pk_mul, nI_add]
      have hin2 : ¬ (nI (8 * r + j) < 0 ∨ 24 ≤ (nI (8 * r + j)).toNatClampNeg) := nI_in (by omega) (by omega)
      rw [if_neg (nI_ge (by omega) (by omega)), if_neg (nI_ge (by omega) (by omega)), e1, e2, if_neg hin2, if_neg hin2, h1]
      by_cases hv : MO_bad mo (nI (8 * r + j)).toNatClampNeg = v
      · rw [if_pos hv, if_pos hv]
        exact ⟨1, Or.inr rfl, rfl, rfl⟩
      · rw [if_neg hv, if_neg hv]
        dsimp only [gl_let]
        rw [nI_1]
        exact ih (j + 1) (by omega) (by omega)
theorem p_has {fb : FBt} {mo : MOt} (h : FBr fb mo) (k : Nat) (hk : 10 ≤ k) (r : Nat) (hr : r < 3) (v : Int64) : ∃ a : Int32, (a = 0 ∨ a = 1) ∧ f_FB_has k (nI r) v fb = some a ∧ f_MO_isForbidden k (nI r) v mo = some a := by
  obtain ⟨a, h1, h2, h3⟩ := p_hasLoop h r hr v k 0 (by omega) (by omega)
  rw [nI_0] at h2 h3
  exact ⟨a, h1, h2, h3⟩
theorem p_inI (x : Int32) : f_MO_in x.toInt64 0 2 = 0 ∨ ∃ r : Nat, r < 3 ∧ x = nI r := by
  have c0 : (0 : Int64).toInt = 0 := rfl
  have c2 : (2 : Int64).toInt = 2 := rfl
  rw [p_in, c0, c2, pi_l]
  by_cases h : 0 ≤ x.toInt ∧ x.toInt ≤ 2
  · right
    refine ⟨x.toInt.toNat, by omega, ?_⟩
    rw [pi_eq, nI_toInt (by omega)]
    omega
  · left
    rw [if_neg h]
theorem p_forbid {fb : FBt} {mo : MOt} (h : FBr fb mo) (k : Nat) (hk : 10 ≤ k) (x : Int32) (v : Int64) {sr : SRt} {la : LAt} (hkd : MO_kind mo = LA_kind la) :
    ∃ a fb' mo', f_SR_forbid k x v sr la fb = some (a, fb') ∧ f_MO_forbid k x v mo = some (a, mo') ∧ FBr fb' mo' ∧ ∃ (b : Nat → Int64) (f : Nat → Int32), mo' = sMO_bad (sMO_forbidden (sMO_thrown mo 0) f) b := by
  unfold f_SR_forbid f_MO_forbid
  have hw : f_SR_isWithin x.toInt64 0 2 = f_MO_in x.toInt64 0 2 := by rw [p_within, p_in]
  rw [hw, ← hkd]
  rcases p_inI x with h0 | ⟨r, hr, rfl⟩
  · rw [if_pos h0, if_pos h0]
    exact ⟨_, _, _, rfl, rfl, h, MO_bad mo, MO_forbidden mo, rfl⟩
  · by_cases h0 : f_MO_in (nI r).toInt64 0 2 = 0
    · rw [if_pos h0, if_pos h0]
      exact ⟨_, _, _, rfl, rfl, h, MO_bad mo, MO_forbidden mo, rfl⟩
    · rw [if_neg h0, if_neg h0]
      by_cases h5 : MO_kind mo = 5
      · rw [if_pos h5, if_pos h5]
        dsimp only [gl_let]
        have h' : FBr fb (sMO_thrown mo 0) := h
        obtain ⟨a, ha, e1, e2⟩ := p_has h' k hk r hr v
        have hin : ¬ (nI r < 0 ∨ 3 ≤ (nI r).toNatClampNeg) := nI_in hr (by omega)
        have hcl : (nI r).toNatClampNeg = r := nI_clamp (by omega)
        obtain ⟨h1, h2, h3⟩ := h
        obtain ⟨c, hc, ec⟩ := h3 r hr
        have h8 : (8 : Int32) = nI 8 := rfl
        unfold f_FB_add
        rw [e1, e2]
        dsimp only [Option.bind]
        rcases ha with rfl | rfl
        · rw [if_pos rfl, if_pos rfl, if_neg hin, if_neg hin, hcl, h2, show MO_forbidden (sMO_thrown mo 0) = MO_forbidden mo from rfl, ec]
          by_cases hc8 : c = 8
          · subst hc8
            rw [if_neg (by decide), if_pos (by decide)]
            exact ⟨_, _, _, rfl, rfl, ⟨h1, h2, h3⟩, MO_bad mo, MO_forbidden mo, rfl⟩
          · have q1 : nI c < 8 := by rw [h8]; exact nI_lt (by omega) (by omega)
            have q2 : ¬ nI c = 8 := by rw [h8, nI_eq (by omega) (by omega)]; exact hc8
            have e3 : nI r * 8 + nI c = nI (8 * r + c) := by rw [h8, pk_mul, nI_add, Nat.mul_comm]
            have e4 : 8 * nI r + nI c = nI (8 * r + c) := by rw [h8, pk_mul, nI_add]
            have hin2 : ¬ (nI (8 * r + c) < 0 ∨ 24 ≤ (nI (8 * r + c)).toNatClampNeg) := nI_in (by omega) (by omega)
            rw [if_pos q1, if_neg q2, e3, e4, if_neg hin2, if_neg hin2]
            refine ⟨_, _, _, rfl, rfl, ⟨?_, rfl, fun j hj => ?_⟩, _, _, rfl⟩
            · show vp_updL (FB_values fb) _ v = vp_updL (MO_bad mo) _ v
              rw [h1]
            · show ∃ n : Nat, n ≤ 8 ∧ upd (MO_forbidden mo) r (nI c + 1) j = nI n
              by_cases hj2 : j = r
              · subst hj2
                rw [pk_us, nI_1]
                exact ⟨c + 1, by omega, rfl⟩
              · rw [pk_un hj2]
                exact h3 j hj
        · have n10 : ¬ (1 : Int32) = 0 := by decide
          rw [if_neg n10, if_neg n10, if_neg hin, if_neg hin, h2]
          exact ⟨_, _, _, rfl, rfl, ⟨h1, h2, h3⟩, MO_bad mo, MO_forbidden mo, rfl⟩
      · rw [if_neg h5, if_neg h5]
        exact ⟨_, _, _, rfl, rfl, h, MO_bad mo, MO_forbidden mo, rfl⟩
