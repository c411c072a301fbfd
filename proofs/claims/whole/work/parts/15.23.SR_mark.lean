def f_SR_mark (k : Nat) (x1 : Int64) (sr : SRt) (la : LAt) (rs : RSt) (ss : SSt) (nu : NUt) (fs : FSt) (co : COt) : Option (Int32 × SRt × RSt × SSt × NUt × FSt × COt) :=
  if (f_SR_isWithin x1 (-10000000000000) 10000000000000) = 0 then (
    some ((-2), sr, rs, ss, nu, fs, co)
  ) else
  if (SR_theMark sr) ≤ x1 then (
    if (LA_kind la) = 3 then (
      gl_let ((sSR_theMark sr x1) : SRt) fun sr_2 =>
      (f_SR_endCounted k sr_2 la rs nu fs co).bind fun (r_1, rs_2, nu_1, fs_2, co_2) =>
      some (r_1, sr_2, rs_2, ss, nu_1, fs_2, co_2)
    ) else
    gl_let ((sSR_theMark sr x1) : SRt) fun sr_1 =>
    (f_SR_endSpans k sr_1 rs ss fs co).bind fun (r, rs_1, ss_1, fs_1, co_1) =>
    some (r, sr_1, rs_1, ss_1, nu, fs_1, co_1)
  ) else
  some ((-3), sr, rs, ss, nu, fs, co)
set_option maxHeartbeats 4000000 in
set_option maxRecDepth 100000 in
theorem c_SR_mark (l : Launch) (dC : Nat → ClassId) (dI : Nat → Nat → Nat) (tC : Nat → ClassId) (ad : Nat → Nat → Nat) (k : Nat) (x1 : Int64) (sr : SRt) (la : LAt) (rs : RSt) (ss : SSt) (nu : NUt) (fs : FSt) (co : COt) (res : Int32) (srR : SRt) (rsR : RSt) (ssR : SSt) (nuR : NUt) (fsR : FSt) (coR : COt) (hf : f_SR_mark k x1 sr la rs ss nu fs co = some (res, srR, rsR, ssR, nuR, fsR, coR)) : cx_M l y_SR_mark w_SR_mark { frames := 5, cells := 0, slots := 0, locals := 118 } (dC, dI) classes (tyS tC) [.ref (ad 0 0), .long x1] (wSR tC ad sr ++ wLA tC (ad 1) la ++ wRS tC (ad 3) rs ++ wSS tC (ad 4) ss ++ wNU tC (ad 5) nu ++ wFS tC (ad 6) fs ++ wCO tC (ad 7) co) (wSR tC ad srR ++ wLA tC (ad 1) la ++ wRS tC (ad 3) rsR ++ wSS tC (ad 4) ssR ++ wNU tC (ad 5) nuR ++ wFS tC (ad 6) fsR ++ wCO tC (ad 7) coR) (some (.int res)) := by
  refine cx_of (cc := b_SR_mark) (maxL := 3) (ret := some .int) (plainFor_of_name (by decide)) rfl (Nat.le_of_ble_eq_true rfl) ?_
  intro p e s m below meth c hx hb hr hml hown hts hlocks A hA H locs ls hK hN hP hD hS hl
  have hown : s.vm.findClass R_SR = some m.cls := hown
  have hl : lv_has ls 3 [(0, .ref (ad 0 0)), (1, .long x1)] := hl
  unfold f_SR_mark at hf
  refine lv_lload_n hx hb d_SR_mark_0 rfl (lv_at hl 1 rfl) ?_
  refine lv_ldc2 (v := (-10000000000000)) hx hb hown (hts _ (List.mem_cons_of_mem _ mw_188)) d_SR_mark_1 ?_
  refine lv_ldc2 (v := 10000000000000) hx hb hown (hts _ (List.mem_cons_of_mem _ mw_318)) d_SR_mark_4 ?_
  refine cx_callS (As := [.long x1, .long (-10000000000000), .long 10000000000000]) (rest := []) ⟨hx, hb, hml, hown, hts⟩ (c_SR_isWithin l dC dI tC  x1 (-10000000000000) 10000000000000 (f_SR_isWithin x1 (-10000000000000) 10000000000000) rfl) (k_SR_95 hts ⟨Nat.le_of_ble_eq_true rfl, Nat.le_of_ble_eq_true rfl⟩) hl.1 hP hD hS hA hK hN [] rfl rfl rfl rfl rfl (Nat.le_of_ble_eq_true rfl) d_SR_mark_7 ⟨Nat.zero_le _, Nat.zero_le _⟩ (fun H locs hP hD hS => ?_)
  have hP : va_P (dC, dI) classes (wSR tC ad sr ++ wLA tC (ad 1) la ++ wRS tC (ad 3) rs ++ wSS tC (ad 4) ss ++ wNU tC (ad 5) nu ++ wFS tC (ad 6) fs ++ wCO tC (ad 7) co) H := hP
  have hD : va_D A (wSR tC ad sr ++ wLA tC (ad 1) la ++ wRS tC (ad 3) rs ++ wSS tC (ad 4) ss ++ wNU tC (ad 5) nu ++ wFS tC (ad 6) fs ++ wCO tC (ad 7) co) := hD
  refine W.eq (g2 := F0 m 10 ls [.int (f_SR_isWithin x1 (-10000000000000) 10000000000000)]) rfl ?_
  refine lv_if_ne (tgt := 16) hx hb d_SR_mark_10 (by decide) (fun cb => ?_) (fun cb => ?_)
  · have hf := g_f hf cb
    refine lv_lload_n hx hb d_SR_mark_16 rfl (lv_at hl 1 rfl) ?_
    refine lv_aload_n hx hb d_SR_mark_17 rfl (lv_at hl 0 rfl) ?_
    refine va_get (D := (dC, dI)) (ci := 0) (v := .long (SR_theMark sr)) (C := R_SR) (T := F_SR) (N := 14) hx hb hts (in_SR _) hown hK hP 0 rfl rfl 8 (by decide) (hts _ (List.mem_cons_of_mem _ mw_240)) (fun _ h9 => h9) rfl d_SR_mark_18 ?_
    refine cq_ge (tgt := 28) hx hb d_SR_mark_21 d_SR_mark_22 (by decide) (fun cb_1 => ?_) (fun cb_1 => ?_)
    · have hf := g_t hf cb_1
      refine lv_aload_n hx hb d_SR_mark_28 rfl (lv_at hl 0 rfl) ?_
      refine lv_lload_n hx hb d_SR_mark_29 rfl (lv_at hl 1 rfl) ?_
      refine va_put (D := (dC, dI)) (ci := 0) (v := .long x1) (ty := .long) (C := R_SR) (T := F_SR) (N := 14) hx hb hts (in_SR _) t_SR t_SR_ok n_SR hown hK hP hD hS 0 rfl rfl 8 (by decide) (hts _ (List.mem_cons_of_mem _ mw_240)) (fun _ h9 => h9) rfl (by decide +kernel) rfl rfl (Nat.le_of_ble_eq_true rfl) d_SR_mark_30 (fun H locs hP hD hS => ?_)
      have hP : va_P (dC, dI) classes (wSR tC ad (sSR_theMark sr x1) ++ wLA tC (ad 1) la ++ wRS tC (ad 3) rs ++ wSS tC (ad 4) ss ++ wNU tC (ad 5) nu ++ wFS tC (ad 6) fs ++ wCO tC (ad 7) co) H := hP
      have hD : va_D A (wSR tC ad (sSR_theMark sr x1) ++ wLA tC (ad 1) la ++ wRS tC (ad 3) rs ++ wSS tC (ad 4) ss ++ wNU tC (ad 5) nu ++ wFS tC (ad 6) fs ++ wCO tC (ad 7) co) := hD
      refine lv_aload_n hx hb d_SR_mark_33 rfl (lv_at hl 0 rfl) ?_
      refine va_get (D := (dC, dI)) (ci := 0) (v := .ref (ad 1 0)) (C := R_SR) (T := F_SR) (N := 14) hx hb hts (in_SR _) hown hK hP 0 rfl rfl 0 (by decide) (hts _ (List.mem_cons_of_mem _ mw_232)) (fun _ h9 => h9) rfl d_SR_mark_34 ?_
      refine va_get (D := (dC, dI)) (ci := 1) (v := .int (LA_kind la)) (C := R_LA) (T := F_LA) (N := 8) hx hb hts (in_LA _) hown hK hP 1 rfl rfl 0 (by decide) (hts _ (List.mem_cons_of_mem _ mw_200)) (fun _ h9 => h9) rfl d_SR_mark_37 ?_
      refine lv_iconst (v := 3) hx hb d_SR_mark_40 (by decide) ?_
      refine lv_icmp_ne (tgt := 51) hx hb d_SR_mark_41 (by decide) (fun cb_2 => ?_) (fun cb_2 => ?_)
      · have hf := g_f hf cb_2
        refine lv_aload_n hx hb d_SR_mark_51 rfl (lv_at hl 0 rfl) ?_
        obtain ⟨sr_1, h_sr_1⟩ : ∃ z : SRt, z = (sSR_theMark sr x1) := ⟨_, rfl⟩
        have hf := g_let hf h_sr_1
        have hP : va_P (dC, dI) classes (wSR tC ad sr_1 ++ wLA tC (ad 1) la ++ wRS tC (ad 3) rs ++ wSS tC (ad 4) ss ++ wNU tC (ad 5) nu ++ wFS tC (ad 6) fs ++ wCO tC (ad 7) co) H := by rw [h_sr_1]; exact hP
        have hD : va_D A (wSR tC ad sr_1 ++ wLA tC (ad 1) la ++ wRS tC (ad 3) rs ++ wSS tC (ad 4) ss ++ wNU tC (ad 5) nu ++ wFS tC (ad 6) fs ++ wCO tC (ad 7) co) := by rw [h_sr_1]; exact hD
        obtain ⟨⟨r, rs_1, ss_1, fs_1, co_1⟩, hc_1, hf⟩ := g_bind hf
        try dsimp only at hf
        refine cx2_callV (As := []) (rest := []) (wSR tC ad sr_1 ++ wLA tC (ad 1) la ++ wRS tC (ad 3) rs_1 ++ wSS tC (ad 4) ss_1 ++ wNU tC (ad 5) nu ++ wFS tC (ad 6) fs_1 ++ wCO tC (ad 7) co_1) (wLA tC (ad 1) la ++ wNU tC (ad 5) nu) ⟨hx, hb, hml, hown, hts⟩ (c_SR_endSpans l dC dI tC ad k sr_1 rs ss fs co r rs_1 ss_1 fs_1 co_1 hc_1) (k_SR_151 hts ⟨Nat.le_of_ble_eq_true rfl, Nat.le_of_ble_eq_true rfl⟩) hl.1 hP hD hS hA hK hN [0, 4, 5, 6, 7, 8, 9, 10, 11, 12, 13, 14, 15, 16, 17, 18, 19, 20, 21, 22, 26, 27, 28] [1, 2, 3, 23, 24, 25] 29 0 0 rfl rfl rfl rfl rfl (cx_hw (cx_hw (cx_hw (cx_hw rfl (adRS _ _ _ _)) (adSS _ _ _ _)) (adFS _ _ _ _)) (adCO _ _ _ _)) rfl rfl rfl rfl (by decide) rfl rfl (Nat.le_of_ble_eq_true rfl) d_SR_mark_52 ⟨Nat.zero_le _, Nat.zero_le _⟩ (fun H locs hP hD hS => ?_)
        refine W.eq (g2 := F0 m 55 ls [.int r]) rfl ?_
        obtain ⟨hq0, hr1⟩ := Prod.mk.inj (g_some hf)
        obtain ⟨hq1, hr2⟩ := Prod.mk.inj hr1
        obtain ⟨hq2, hr3⟩ := Prod.mk.inj hr2
        obtain ⟨hq3, hr4⟩ := Prod.mk.inj hr3
        obtain ⟨hq4, hr5⟩ := Prod.mk.inj hr4
        obtain ⟨hq5, hr6⟩ := Prod.mk.inj hr5
        subst hq0
        subst hq1
        subst hq2
        subst hq3
        subst hq4
        subst hq5
        subst hr6
        exact cx_iret hx hb hr hlocks hP hS d_SR_mark_55
      · have hf := g_t hf cb_2
        refine lv_aload_n hx hb d_SR_mark_44 rfl (lv_at hl 0 rfl) ?_
        obtain ⟨sr_2, h_sr_2⟩ : ∃ z : SRt, z = (sSR_theMark sr x1) := ⟨_, rfl⟩
        have hf := g_let hf h_sr_2
        have hP : va_P (dC, dI) classes (wSR tC ad sr_2 ++ wLA tC (ad 1) la ++ wRS tC (ad 3) rs ++ wSS tC (ad 4) ss ++ wNU tC (ad 5) nu ++ wFS tC (ad 6) fs ++ wCO tC (ad 7) co) H := by rw [h_sr_2]; exact hP
        have hD : va_D A (wSR tC ad sr_2 ++ wLA tC (ad 1) la ++ wRS tC (ad 3) rs ++ wSS tC (ad 4) ss ++ wNU tC (ad 5) nu ++ wFS tC (ad 6) fs ++ wCO tC (ad 7) co) := by rw [h_sr_2]; exact hD
        obtain ⟨⟨r_1, rs_2, nu_1, fs_2, co_2⟩, hc_2, hf⟩ := g_bind hf
        try dsimp only at hf
        refine cx2_callV (As := []) (rest := []) (wSR tC ad sr_2 ++ wLA tC (ad 1) la ++ wRS tC (ad 3) rs_2 ++ wSS tC (ad 4) ss ++ wNU tC (ad 5) nu_1 ++ wFS tC (ad 6) fs_2 ++ wCO tC (ad 7) co_2) (wSS tC (ad 4) ss) ⟨hx, hb, hml, hown, hts⟩ (c_SR_endCounted l dC dI tC ad k sr_2 la rs nu fs co r_1 rs_2 nu_1 fs_2 co_2 hc_2) (k_SR_147 hts ⟨Nat.le_of_ble_eq_true rfl, Nat.le_of_ble_eq_true rfl⟩) hl.1 hP hD hS hA hK hN [0, 1, 2, 3, 4, 5, 6, 7, 8, 9, 10, 23, 24, 25, 26, 27, 28] [11, 12, 13, 14, 15, 16, 17, 18, 19, 20, 21, 22] 29 0 0 rfl rfl rfl rfl rfl (cx_hw (cx_hw (cx_hw (cx_hw (cx_hw rfl rfl) (adRS _ _ _ _)) (adNU _ _ _ _)) (adFS _ _ _ _)) (adCO _ _ _ _)) rfl rfl rfl rfl (by decide) rfl rfl (Nat.le_of_ble_eq_true rfl) d_SR_mark_45 ⟨Nat.zero_le _, Nat.zero_le _⟩ (fun H locs hP hD hS => ?_)
        refine W.eq (g2 := F0 m 48 ls [.int r_1]) rfl ?_
        refine lv_goto (tgt := 55) hx hb d_SR_mark_48 (by decide) ?_
        obtain ⟨hq0, hr1⟩ := Prod.mk.inj (g_some hf)
        obtain ⟨hq1, hr2⟩ := Prod.mk.inj hr1
        obtain ⟨hq2, hr3⟩ := Prod.mk.inj hr2
        obtain ⟨hq3, hr4⟩ := Prod.mk.inj hr3
        obtain ⟨hq4, hr5⟩ := Prod.mk.inj hr4
        obtain ⟨hq5, hr6⟩ := Prod.mk.inj hr5
        subst hq0
        subst hq1
        subst hq2
        subst hq3
        subst hq4
        subst hq5
        subst hr6
        exact cx_iret hx hb hr hlocks hP hS d_SR_mark_55
    · have hf := g_f hf cb_1
      refine lv_bipush (v := (-3)) hx hb d_SR_mark_25 (by decide) ?_
      obtain ⟨hq0, hr1⟩ := Prod.mk.inj (g_some hf)
      obtain ⟨hq1, hr2⟩ := Prod.mk.inj hr1
      obtain ⟨hq2, hr3⟩ := Prod.mk.inj hr2
      obtain ⟨hq3, hr4⟩ := Prod.mk.inj hr3
      obtain ⟨hq4, hr5⟩ := Prod.mk.inj hr4
      obtain ⟨hq5, hr6⟩ := Prod.mk.inj hr5
      subst hq0
      subst hq1
      subst hq2
      subst hq3
      subst hq4
      subst hq5
      subst hr6
      exact cx_iret hx hb hr hlocks hP hS d_SR_mark_27
  · have hf := g_t hf cb
    refine lv_bipush (v := (-2)) hx hb d_SR_mark_13 (by decide) ?_
    obtain ⟨hq0, hr1⟩ := Prod.mk.inj (g_some hf)
    obtain ⟨hq1, hr2⟩ := Prod.mk.inj hr1
    obtain ⟨hq2, hr3⟩ := Prod.mk.inj hr2
    obtain ⟨hq3, hr4⟩ := Prod.mk.inj hr3
    obtain ⟨hq4, hr5⟩ := Prod.mk.inj hr4
    obtain ⟨hq5, hr6⟩ := Prod.mk.inj hr5
    subst hq0
    subst hq1
    subst hq2
    subst hq3
    subst hq4
    subst hq5
    subst hr6
    exact cx_iret hx hb hr hlocks hP hS d_SR_mark_15
