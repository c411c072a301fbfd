def f_SR_putByLayout_B144 (k : Nat) (x1 : Int32) (la_2 : LAt) (v7 : Int32) (ss_1 : SSt) (r_2 : Int32) : Option (Int32 × SSt) :=
  if r_2 = (-1) then (
    (f_SS_add k x1 (LA_begins la_2 v7.toNatClampNeg) (LA_ends la_2 v7.toNatClampNeg) ss_1).bind fun (r_3, ss_4) =>
    some (r_3, ss_4)
  ) else
  some (r_2, ss_1)
def f_SR_putByLayout_L99 (k : Nat) (x1 : Int32) (la_2 : LAt) (r_1 : Int32) (rs_1 : RSt) (sr_1 : SRt) : Nat → Int32 → SSt → FSt → COt → Option (SSt × FSt × COt)
  | 0, _, _, _, _ => none
  | n + 1, v7, ss_1, fs_1, co_1 =>
    if (LA_found la_2) ≤ v7 then (
      some (ss_1, fs_1, co_1)
    ) else
    if v7 < 0 ∨ 16 ≤ v7.toNatClampNeg then none else
    (f_SS_find k x1 (LA_begins la_2 v7.toNatClampNeg) (LA_ends la_2 v7.toNatClampNeg) ss_1).bind fun r_2 =>
    (f_SR_putByLayout_B144 k x1 la_2 v7 ss_1 r_2).bind fun (v8, ss_3) =>
    (f_SR_putAndFire k v8 r_1 sr_1 rs_1 ss_3 fs_1 co_1).bind fun (ss_5, fs_3, co_3) =>
    gl_let (v7 + 1) fun v7_1 =>
    f_SR_putByLayout_L99 k x1 la_2 r_1 rs_1 sr_1 n v7_1 ss_5 fs_3 co_3
def f_SR_putByLayout (k : Nat) (x1 : Int32) (x2 : Int64) (x4 : Int64) (sr : SRt) (la : LAt) (rs : RSt) (ss : SSt) (fs : FSt) (co : COt) : Option (Int32 × SRt × LAt × RSt × SSt × FSt × COt) :=
  (f_LA_seek k x2 x4 la).bind fun la_1 =>
  (f_LA_keepEndsAbove k ((SR_theMark sr) - (SR_lateBy sr)) la_1).bind fun la_2 =>
  if (LA_found la_2) = 0 then (
    gl_let (f_SR_dropLate sr) fun (r_4, sr_2) =>
    some (r_4, sr_2, la_2, rs, ss, fs, co)
  ) else
  if (f_RS_isFull rs) = 0 then (
    (f_SR_newOnes k x1 sr la_2 ss).bind fun r =>
    if ((SS_kept ss) + r) ≤ 200 then (
      (f_RS_add k x1 x2 x4 rs).bind fun (r_1, rs_1) =>
      gl_let ((sSR_came sr ((SR_came sr) + 1)) : SRt) fun sr_1 =>
      (f_SR_putByLayout_L99 k x1 la_2 r_1 rs_1 sr_1 k 0 ss fs co).bind fun (ss_2, fs_2, co_2) =>
      some ((LA_found la_2), sr_1, la_2, rs_1, ss_2, fs_2, co_2)
    ) else
    some ((-4), sr, la_2, rs, ss, fs, co)
  ) else
  some ((-4), sr, la_2, rs, ss, fs, co)
set_option maxHeartbeats 4000000 in
set_option maxRecDepth 100000 in
theorem c_SR_putByLayout (l : Launch) (dC : Nat → ClassId) (dI : Nat → Nat → Nat) (tC : Nat → ClassId) (ad : Nat → Nat → Nat) (k : Nat) (x1 : Int32) (x2 : Int64) (x4 : Int64) (sr : SRt) (la : LAt) (rs : RSt) (ss : SSt) (fs : FSt) (co : COt) (res : Int32) (srR : SRt) (laR : LAt) (rsR : RSt) (ssR : SSt) (fsR : FSt) (coR : COt) (hf : f_SR_putByLayout k x1 x2 x4 sr la rs ss fs co = some (res, srR, laR, rsR, ssR, fsR, coR)) : cx_M l y_SR_putByLayout w_SR_putByLayout { frames := 5, cells := 0, slots := 0, locals := 126 } (dC, dI) classes (tyS tC) [.ref (ad 0 0), .int x1, .long x2, .long x4] (wSR tC ad sr ++ wLA tC (ad 1) la ++ wRS tC (ad 3) rs ++ wSS tC (ad 4) ss ++ wFS tC (ad 6) fs ++ wCO tC (ad 7) co) (wSR tC ad srR ++ wLA tC (ad 1) laR ++ wRS tC (ad 3) rsR ++ wSS tC (ad 4) ssR ++ wFS tC (ad 6) fsR ++ wCO tC (ad 7) coR) (some (.int res)) := by
  refine cx_of (cc := b_SR_putByLayout) (maxL := 9) (ret := some .int) (plainFor_of_name (by decide)) rfl (Nat.le_of_ble_eq_true rfl) ?_
  intro p e s m below meth c hx hb hr hml hown hts hlocks A hA H locs ls hK hN hP hD hS hl
  have hown : s.vm.findClass R_SR = some m.cls := hown
  have hl : lv_has ls 9 [(0, .ref (ad 0 0)), (1, .int x1), (2, .long x2), (4, .long x4)] := hl
  unfold f_SR_putByLayout at hf
  refine lv_aload_n hx hb d_SR_putByLayout_0 rfl (lv_at hl 0 rfl) ?_
  refine va_get (D := (dC, dI)) (ci := 0) (v := .ref (ad 1 0)) (C := R_SR) (T := F_SR) (N := 14) hx hb hts (in_SR _) hown hK hP 0 rfl rfl 0 (by decide) (hts _ (List.mem_cons_of_mem _ mw_232)) (fun _ h9 => h9) rfl d_SR_putByLayout_1 ?_
  refine lv_lload_n hx hb d_SR_putByLayout_4 rfl (lv_at hl 2 rfl) ?_
  refine lv_lload hx hb d_SR_putByLayout_5 (lv_at hl 3 rfl) ?_
  obtain ⟨la_1, hc, hf⟩ := g_bind hf
  try dsimp only at hf
  refine cx2_callV (As := [.long x2, .long x4]) (rest := []) (wSR tC ad sr ++ wLA tC (ad 1) la_1 ++ wRS tC (ad 3) rs ++ wSS tC (ad 4) ss ++ wFS tC (ad 6) fs ++ wCO tC (ad 7) co) (wSR tC ad sr ++ wRS tC (ad 3) rs ++ wSS tC (ad 4) ss ++ wFS tC (ad 6) fs ++ wCO tC (ad 7) co) ⟨hx, hb, hml, hown, hts⟩ (c_LA_seek l dC dI tC (ad 1) k x2 x4 la la_1 hc) (k_SR_268 hts ⟨Nat.le_of_ble_eq_true rfl, Nat.le_of_ble_eq_true rfl⟩) hl.1 hP hD hS hA hK hN [1, 2, 3] [0, 4, 5, 6, 7, 8, 9, 10, 11, 12, 13, 14, 15, 16, 17, 18, 19, 20, 21, 22, 23, 24, 25] 26 1 1 rfl rfl rfl rfl rfl (adLA _ _ _ _) rfl rfl rfl rfl (by decide) rfl rfl (Nat.le_of_ble_eq_true rfl) d_SR_putByLayout_7 ⟨Nat.zero_le _, Nat.zero_le _⟩ (fun H locs hP hD hS => ?_)
  refine W.eq (g2 := F0 m 10 ls []) rfl ?_
  refine lv_aload_n hx hb d_SR_putByLayout_10 rfl (lv_at hl 0 rfl) ?_
  refine va_get (D := (dC, dI)) (ci := 0) (v := .ref (ad 1 0)) (C := R_SR) (T := F_SR) (N := 14) hx hb hts (in_SR _) hown hK hP 0 rfl rfl 0 (by decide) (hts _ (List.mem_cons_of_mem _ mw_232)) (fun _ h9 => h9) rfl d_SR_putByLayout_11 ?_
  refine lv_aload_n hx hb d_SR_putByLayout_14 rfl (lv_at hl 0 rfl) ?_
  refine va_get (D := (dC, dI)) (ci := 0) (v := .long (SR_theMark sr)) (C := R_SR) (T := F_SR) (N := 14) hx hb hts (in_SR _) hown hK hP 0 rfl rfl 8 (by decide) (hts _ (List.mem_cons_of_mem _ mw_240)) (fun _ h9 => h9) rfl d_SR_putByLayout_15 ?_
  refine lv_aload_n hx hb d_SR_putByLayout_18 rfl (lv_at hl 0 rfl) ?_
  refine va_get (D := (dC, dI)) (ci := 0) (v := .long (SR_lateBy sr)) (C := R_SR) (T := F_SR) (N := 14) hx hb hts (in_SR _) hown hK hP 0 rfl rfl 7 (by decide) (hts _ (List.mem_cons_of_mem _ mw_239)) (fun _ h9 => h9) rfl d_SR_putByLayout_19 ?_
  refine lv_lsub hx hb d_SR_putByLayout_22 ?_
  obtain ⟨la_2, hc_1, hf⟩ := g_bind hf
  try dsimp only at hf
  refine cx2_callV (As := [.long ((SR_theMark sr) - (SR_lateBy sr))]) (rest := []) (wSR tC ad sr ++ wLA tC (ad 1) la_2 ++ wRS tC (ad 3) rs ++ wSS tC (ad 4) ss ++ wFS tC (ad 6) fs ++ wCO tC (ad 7) co) (wSR tC ad sr ++ wRS tC (ad 3) rs ++ wSS tC (ad 4) ss ++ wFS tC (ad 6) fs ++ wCO tC (ad 7) co) ⟨hx, hb, hml, hown, hts⟩ (c_LA_keepEndsAbove l dC dI tC (ad 1) k ((SR_theMark sr) - (SR_lateBy sr)) la_1 la_2 hc_1) (k_SR_272 hts ⟨Nat.le_of_ble_eq_true rfl, Nat.le_of_ble_eq_true rfl⟩) hl.1 hP hD hS hA hK hN [1, 2, 3] [0, 4, 5, 6, 7, 8, 9, 10, 11, 12, 13, 14, 15, 16, 17, 18, 19, 20, 21, 22, 23, 24, 25] 26 1 1 rfl rfl rfl rfl rfl (adLA _ _ _ _) rfl rfl rfl rfl (by decide) rfl rfl (Nat.le_of_ble_eq_true rfl) d_SR_putByLayout_23 ⟨Nat.zero_le _, Nat.zero_le _⟩ (fun H locs hP hD hS => ?_)
  refine W.eq (g2 := F0 m 26 ls []) rfl ?_
  refine lv_aload_n hx hb d_SR_putByLayout_26 rfl (lv_at hl 0 rfl) ?_
  refine va_get (D := (dC, dI)) (ci := 0) (v := .ref (ad 1 0)) (C := R_SR) (T := F_SR) (N := 14) hx hb hts (in_SR _) hown hK hP 0 rfl rfl 0 (by decide) (hts _ (List.mem_cons_of_mem _ mw_232)) (fun _ h9 => h9) rfl d_SR_putByLayout_27 ?_
  refine va_get (D := (dC, dI)) (ci := 1) (v := .int (LA_found la_2)) (C := R_LA) (T := F_LA) (N := 8) hx hb hts (in_LA _) hown hK hP 1 rfl rfl 7 (by decide) (hts _ (List.mem_cons_of_mem _ mw_214)) (fun _ h9 => h9) rfl d_SR_putByLayout_30 ?_
  refine lv_if_ne (tgt := 41) hx hb d_SR_putByLayout_33 (by decide) (fun cb => ?_) (fun cb => ?_)
  · have hf := g_f hf cb
    refine lv_aload_n hx hb d_SR_putByLayout_41 rfl (lv_at hl 0 rfl) ?_
    refine va_get (D := (dC, dI)) (ci := 0) (v := .ref (ad 3 0)) (C := R_SR) (T := F_SR) (N := 14) hx hb hts (in_SR _) hown hK hP 0 rfl rfl 2 (by decide) (hts _ (List.mem_cons_of_mem _ mw_234)) (fun _ h9 => h9) rfl d_SR_putByLayout_42 ?_
    refine cx2_callV (As := []) (rest := []) (wSR tC ad sr ++ wLA tC (ad 1) la_2 ++ wRS tC (ad 3) rs ++ wSS tC (ad 4) ss ++ wFS tC (ad 6) fs ++ wCO tC (ad 7) co) (wSR tC ad sr ++ wLA tC (ad 1) la_2 ++ wSS tC (ad 4) ss ++ wFS tC (ad 6) fs ++ wCO tC (ad 7) co) ⟨hx, hb, hml, hown, hts⟩ (c_RS_isFull l dC dI tC (ad 3) rs (f_RS_isFull rs) rfl) (k_SR_237 hts ⟨Nat.le_of_ble_eq_true rfl, Nat.le_of_ble_eq_true rfl⟩) hl.1 hP hD hS hA hK hN [4, 5, 6, 7, 8, 9, 10] [0, 1, 2, 3, 11, 12, 13, 14, 15, 16, 17, 18, 19, 20, 21, 22, 23, 24, 25] 26 4 3 rfl rfl rfl rfl rfl rfl rfl rfl rfl rfl (by decide) rfl rfl (Nat.le_of_ble_eq_true rfl) d_SR_putByLayout_45 ⟨Nat.zero_le _, Nat.zero_le _⟩ (fun H locs hP hD hS => ?_)
    refine W.eq (g2 := F0 m 48 ls [.int (f_RS_isFull rs)]) rfl ?_
    refine lv_if_ne (tgt := 70) hx hb d_SR_putByLayout_48 (by decide) (fun cb_1 => ?_) (fun cb_1 => ?_)
    · have hf := g_f hf cb_1
      refine lv_bipush (v := (-4)) hx hb d_SR_putByLayout_70 (by decide) ?_
      obtain ⟨hq0, hr1⟩ := Prod.mk.inj (g_some hf)
      obtain ⟨hq1, hr2⟩ := Prod.mk.inj hr1
      obtain ⟨hq2, hr3⟩ := Prod.mk.inj hr2
      obtain ⟨hq3, hr4⟩ := Prod.mk.inj hr3
      obtain ⟨hq4, hr5⟩ := Prod.mk.inj hr4
      obtain ⟨hq5, hr6⟩ := Prod.mk.inj hr5
      subst hq0
      subst hq1
      subst hq2
      subst hq3
      subst hq4
      subst hq5
      subst hr6
      exact cx_iret hx hb hr hlocks hP hS d_SR_putByLayout_72
    · have hf := g_t hf cb_1
      refine lv_aload_n hx hb d_SR_putByLayout_51 rfl (lv_at hl 0 rfl) ?_
      refine va_get (D := (dC, dI)) (ci := 0) (v := .ref (ad 4 0)) (C := R_SR) (T := F_SR) (N := 14) hx hb hts (in_SR _) hown hK hP 0 rfl rfl 3 (by decide) (hts _ (List.mem_cons_of_mem _ mw_235)) (fun _ h9 => h9) rfl d_SR_putByLayout_52 ?_
      refine va_get (D := (dC, dI)) (ci := 4) (v := .int (SS_kept ss)) (C := R_SS) (T := F_SS) (N := 12) hx hb hts (in_SS _) hown hK hP 11 rfl rfl 11 (by decide) (hts _ (List.mem_cons_of_mem _ mw_103)) (fun _ h9 => h9) rfl d_SR_putByLayout_55 ?_
      refine lv_aload_n hx hb d_SR_putByLayout_58 rfl (lv_at hl 0 rfl) ?_
      refine lv_iload_n hx hb d_SR_putByLayout_59 rfl (lv_at hl 1 rfl) ?_
      obtain ⟨r, hc_3, hf⟩ := g_bind hf
      try dsimp only at hf
      refine cx2_callV (As := [.int x1]) (rest := [.int (SS_kept ss)]) (wSR tC ad sr ++ wLA tC (ad 1) la_2 ++ wRS tC (ad 3) rs ++ wSS tC (ad 4) ss ++ wFS tC (ad 6) fs ++ wCO tC (ad 7) co) (wRS tC (ad 3) rs ++ wFS tC (ad 6) fs ++ wCO tC (ad 7) co) ⟨hx, hb, hml, hown, hts⟩ (c_SR_newOnes l dC dI tC ad k x1 sr la_2 ss r hc_3) (k_SR_279 hts ⟨Nat.le_of_ble_eq_true rfl, Nat.le_of_ble_eq_true rfl⟩) hl.1 hP hD hS hA hK hN [0, 1, 2, 3, 11, 12, 13, 14, 15, 16, 17, 18, 19, 20, 21, 22] [4, 5, 6, 7, 8, 9, 10, 23, 24, 25] 26 0 0 rfl rfl rfl rfl rfl (cx_hw (cx_hw rfl rfl) rfl) rfl rfl rfl rfl (by decide) rfl rfl (Nat.le_of_ble_eq_true rfl) d_SR_putByLayout_60 ⟨Nat.zero_le _, Nat.zero_le _⟩ (fun H locs hP hD hS => ?_)
      refine W.eq (g2 := F0 m 63 ls [.int r, .int (SS_kept ss)]) rfl ?_
      refine lv_iadd hx hb d_SR_putByLayout_63 ?_
      refine lv_sipush (v := 200) hx hb d_SR_putByLayout_64 (by decide) ?_
      refine lv_icmp_le (tgt := 73) hx hb d_SR_putByLayout_67 (by decide) (fun cb_2 => ?_) (fun cb_2 => ?_)
      · have hf := g_t hf cb_2
        refine lv_aload_n hx hb d_SR_putByLayout_73 rfl (lv_at hl 0 rfl) ?_
        refine lv_dup hx hb d_SR_putByLayout_74 rfl ?_
        refine va_get (D := (dC, dI)) (ci := 0) (v := .int (SR_came sr)) (C := R_SR) (T := F_SR) (N := 14) hx hb hts (in_SR _) hown hK hP 0 rfl rfl 12 (by decide) (hts _ (List.mem_cons_of_mem _ mw_244)) (fun _ h9 => h9) rfl d_SR_putByLayout_75 ?_
        refine lv_iconst (v := 1) hx hb d_SR_putByLayout_78 (by decide) ?_
        refine lv_iadd hx hb d_SR_putByLayout_79 ?_
        refine va_put (D := (dC, dI)) (ci := 0) (v := .int ((SR_came sr) + 1)) (ty := .int) (C := R_SR) (T := F_SR) (N := 14) hx hb hts (in_SR _) t_SR t_SR_ok n_SR hown hK hP hD hS 0 rfl rfl 12 (by decide) (hts _ (List.mem_cons_of_mem _ mw_244)) (fun _ h9 => h9) rfl (by decide +kernel) rfl rfl (Nat.le_of_ble_eq_true rfl) d_SR_putByLayout_80 (fun H locs hP hD hS => ?_)
        have hP : va_P (dC, dI) classes (wSR tC ad (sSR_came sr ((SR_came sr) + 1)) ++ wLA tC (ad 1) la_2 ++ wRS tC (ad 3) rs ++ wSS tC (ad 4) ss ++ wFS tC (ad 6) fs ++ wCO tC (ad 7) co) H := hP
        have hD : va_D A (wSR tC ad (sSR_came sr ((SR_came sr) + 1)) ++ wLA tC (ad 1) la_2 ++ wRS tC (ad 3) rs ++ wSS tC (ad 4) ss ++ wFS tC (ad 6) fs ++ wCO tC (ad 7) co) := hD
        refine lv_aload_n hx hb d_SR_putByLayout_83 rfl (lv_at hl 0 rfl) ?_
        refine va_get (D := (dC, dI)) (ci := 0) (v := .ref (ad 3 0)) (C := R_SR) (T := F_SR) (N := 14) hx hb hts (in_SR _) hown hK hP 0 rfl rfl 2 (by decide) (hts _ (List.mem_cons_of_mem _ mw_234)) (fun _ h9 => h9) rfl d_SR_putByLayout_84 ?_
        refine lv_iload_n hx hb d_SR_putByLayout_87 rfl (lv_at hl 1 rfl) ?_
        refine lv_lload_n hx hb d_SR_putByLayout_88 rfl (lv_at hl 2 rfl) ?_
        refine lv_lload hx hb d_SR_putByLayout_89 (lv_at hl 3 rfl) ?_
        obtain ⟨⟨r_1, rs_1⟩, hc_4, hf⟩ := g_bind hf
        try dsimp only at hf
        refine cx2_callV (As := [.int x1, .long x2, .long x4]) (rest := []) (wSR tC ad (sSR_came sr ((SR_came sr) + 1)) ++ wLA tC (ad 1) la_2 ++ wRS tC (ad 3) rs_1 ++ wSS tC (ad 4) ss ++ wFS tC (ad 6) fs ++ wCO tC (ad 7) co) (wSR tC ad (sSR_came sr ((SR_came sr) + 1)) ++ wLA tC (ad 1) la_2 ++ wSS tC (ad 4) ss ++ wFS tC (ad 6) fs ++ wCO tC (ad 7) co) ⟨hx, hb, hml, hown, hts⟩ (c_RS_add l dC dI tC (ad 3) k x1 x2 x4 rs r_1 rs_1 hc_4) (k_SR_241 hts ⟨Nat.le_of_ble_eq_true rfl, Nat.le_of_ble_eq_true rfl⟩) hl.1 hP hD hS hA hK hN [4, 5, 6, 7, 8, 9, 10] [0, 1, 2, 3, 11, 12, 13, 14, 15, 16, 17, 18, 19, 20, 21, 22, 23, 24, 25] 26 4 3 rfl rfl rfl rfl rfl (adRS _ _ _ _) rfl rfl rfl rfl (by decide) rfl rfl (Nat.le_of_ble_eq_true rfl) d_SR_putByLayout_91 ⟨Nat.zero_le _, Nat.zero_le _⟩ (fun H locs hP hD hS => ?_)
        refine W.eq (g2 := F0 m 94 ls [.int r_1]) rfl ?_
        refine lv_istore (lv' := [(6, .int r_1), (0, .ref (ad 0 0)), (1, .int x1), (2, .long x2), (4, .long x4)]) hx hb d_SR_putByLayout_94 hl (by decide) rfl (fun ls hl => ?_)
        refine lv_iconst (v := 0) hx hb d_SR_putByLayout_96 (by decide) ?_
        refine lv_istore (lv' := [(7, .int 0), (6, .int r_1), (0, .ref (ad 0 0)), (1, .int x1), (2, .long x2), (4, .long x4)]) hx hb d_SR_putByLayout_97 hl (by decide) rfl (fun ls hl => ?_)
        obtain ⟨sr_1, h_sr_1⟩ : ∃ z : SRt, z = (sSR_came sr ((SR_came sr) + 1)) := ⟨_, rfl⟩
        have hf := g_let hf h_sr_1
        have hP : va_P (dC, dI) classes (wSR tC ad sr_1 ++ wLA tC (ad 1) la_2 ++ wRS tC (ad 3) rs_1 ++ wSS tC (ad 4) ss ++ wFS tC (ad 6) fs ++ wCO tC (ad 7) co) H := by rw [h_sr_1]; exact hP
        have hD : va_D A (wSR tC ad sr_1 ++ wLA tC (ad 1) la_2 ++ wRS tC (ad 3) rs_1 ++ wSS tC (ad 4) ss ++ wFS tC (ad 6) fs ++ wCO tC (ad 7) co) := by rw [h_sr_1]; exact hD
        have L_99 : ∀ (n : Nat) (v7 : Int32) (ss_1 : SSt) (fs_1 : FSt) (co_1 : COt) (ss_2 : SSt) (fs_2 : FSt) (co_2 : COt), f_SR_putByLayout_L99 k x1 la_2 r_1 rs_1 sr_1 n v7 ss_1 fs_1 co_1 = some (ss_2, fs_2, co_2) → ∀ (H : Heap) (locs : List Loc) (ls : Array Slot), va_P (dC, dI) classes (wSR tC ad sr_1 ++ wLA tC (ad 1) la_2 ++ wRS tC (ad 3) rs_1 ++ wSS tC (ad 4) ss_1 ++ wFS tC (ad 6) fs_1 ++ wCO tC (ad 7) co_1) H → va_D A (wSR tC ad sr_1 ++ wLA tC (ad 1) la_2 ++ wRS tC (ad 3) rs_1 ++ wSS tC (ad 4) ss_1 ++ wFS tC (ad 6) fs_1 ++ wCO tC (ad 7) co_1) → va_S A s.heap H locs → lv_has ls 9 [(0, .ref (ad 0 0)), (1, .int x1), (6, .int r_1), (7, .int v7)] → (∀ (H : Heap) (locs : List Loc) (ls : Array Slot), va_P (dC, dI) classes (wSR tC ad sr_1 ++ wLA tC (ad 1) la_2 ++ wRS tC (ad 3) rs_1 ++ wSS tC (ad 4) ss_2 ++ wFS tC (ad 6) fs_2 ++ wCO tC (ad 7) co_2) H → va_D A (wSR tC ad sr_1 ++ wLA tC (ad 1) la_2 ++ wRS tC (ad 3) rs_1 ++ wSS tC (ad 4) ss_2 ++ wFS tC (ad 6) fs_2 ++ wCO tC (ad 7) co_2) → va_S A s.heap H locs → lv_has ls 9 [(0, .ref (ad 0 0))] → W p l e { frames := 5, cells := 0, slots := 0, locals := 126 } s m [.ref (ad 0 0), .int x1, .long x2, .long x4].toArray below meth c H locs 0 0 (cx_Z (dC, dI) classes below [.ref (ad 0 0), .int x1, .long x2, .long x4] s (wSR tC ad srR ++ wLA tC (ad 1) laR ++ wRS tC (ad 3) rsR ++ wSS tC (ad 4) ssR ++ wFS tC (ad 6) fsR ++ wCO tC (ad 7) coR) (some (.int res)) A) (F0 m 191 ls [])) → W p l e { frames := 5, cells := 0, slots := 0, locals := 126 } s m [.ref (ad 0 0), .int x1, .long x2, .long x4].toArray below meth c H locs 0 0 (cx_Z (dC, dI) classes below [.ref (ad 0 0), .int x1, .long x2, .long x4] s (wSR tC ad srR ++ wLA tC (ad 1) laR ++ wRS tC (ad 3) rsR ++ wSS tC (ad 4) ssR ++ wFS tC (ad 6) fsR ++ wCO tC (ad 7) coR) (some (.int res)) A) (F0 m 99 ls []) := by
          intro n
          induction n with
          | zero =>
            intro v7 ss_1 fs_1 co_1 ss_2 fs_2 co_2 hf
            rw [f_SR_putByLayout_L99] at hf
            cases hf
          | succ n ih =>
            intro v7 ss_1 fs_1 co_1 ss_2 fs_2 co_2 hf H locs ls hP hD hS hl kk
            rw [f_SR_putByLayout_L99] at hf
            refine lv_iload hx hb d_SR_putByLayout_99 (lv_at hl 3 rfl) ?_
            refine lv_aload_n hx hb d_SR_putByLayout_101 rfl (lv_at hl 0 rfl) ?_
            refine va_get (D := (dC, dI)) (ci := 0) (v := .ref (ad 1 0)) (C := R_SR) (T := F_SR) (N := 14) hx hb hts (in_SR _) hown hK hP 0 rfl rfl 0 (by decide) (hts _ (List.mem_cons_of_mem _ mw_232)) (fun _ h9 => h9) rfl d_SR_putByLayout_102 ?_
            refine va_get (D := (dC, dI)) (ci := 1) (v := .int (LA_found la_2)) (C := R_LA) (T := F_LA) (N := 8) hx hb hts (in_LA _) hown hK hP 1 rfl rfl 7 (by decide) (hts _ (List.mem_cons_of_mem _ mw_214)) (fun _ h9 => h9) rfl d_SR_putByLayout_105 ?_
            refine lv_icmp_ge (tgt := 191) hx hb d_SR_putByLayout_108 (by decide) (fun cb_3 => ?_) (fun cb_3 => ?_)
            · have hf := g_t hf cb_3
              obtain ⟨hq0, hr1⟩ := Prod.mk.inj (g_some hf)
              obtain ⟨hq1, hr2⟩ := Prod.mk.inj hr1
              subst hq0
              subst hq1
              subst hr2
              exact kk _ _ _ hP hD hS (lv_sub hl [0] rfl)
            · have hf := g_f hf cb_3
              refine lv_aload_n hx hb d_SR_putByLayout_111 rfl (lv_at hl 0 rfl) ?_
              refine va_get (D := (dC, dI)) (ci := 0) (v := .ref (ad 4 0)) (C := R_SR) (T := F_SR) (N := 14) hx hb hts (in_SR _) hown hK hP 0 rfl rfl 3 (by decide) (hts _ (List.mem_cons_of_mem _ mw_235)) (fun _ h9 => h9) rfl d_SR_putByLayout_112 ?_
              refine lv_iload_n hx hb d_SR_putByLayout_115 rfl (lv_at hl 1 rfl) ?_
              refine lv_aload_n hx hb d_SR_putByLayout_116 rfl (lv_at hl 0 rfl) ?_
              refine va_get (D := (dC, dI)) (ci := 0) (v := .ref (ad 1 0)) (C := R_SR) (T := F_SR) (N := 14) hx hb hts (in_SR _) hown hK hP 0 rfl rfl 0 (by decide) (hts _ (List.mem_cons_of_mem _ mw_232)) (fun _ h9 => h9) rfl d_SR_putByLayout_117 ?_
              refine va_get (D := (dC, dI)) (ci := 1) (v := .ref ((ad 1) 1)) (C := R_LA) (T := F_LA) (N := 8) hx hb hts (in_LA _) hown hK hP 1 rfl rfl 3 (by decide) (hts _ (List.mem_cons_of_mem _ mw_206)) (fun _ h9 => h9) rfl d_SR_putByLayout_120 ?_
              refine lv_iload hx hb d_SR_putByLayout_123 (lv_at hl 3 rfl) ?_
              obtain ⟨ck, hf⟩ := g_ck hf
              refine va_lald (D := (dC, dI)) hx hb hK hP 2 1 rfl rfl ck d_SR_putByLayout_125 ?_
              refine lv_aload_n hx hb d_SR_putByLayout_126 rfl (lv_at hl 0 rfl) ?_
              refine va_get (D := (dC, dI)) (ci := 0) (v := .ref (ad 1 0)) (C := R_SR) (T := F_SR) (N := 14) hx hb hts (in_SR _) hown hK hP 0 rfl rfl 0 (by decide) (hts _ (List.mem_cons_of_mem _ mw_232)) (fun _ h9 => h9) rfl d_SR_putByLayout_127 ?_
              refine va_get (D := (dC, dI)) (ci := 1) (v := .ref ((ad 1) 2)) (C := R_LA) (T := F_LA) (N := 8) hx hb hts (in_LA _) hown hK hP 1 rfl rfl 4 (by decide) (hts _ (List.mem_cons_of_mem _ mw_208)) (fun _ h9 => h9) rfl d_SR_putByLayout_130 ?_
              refine lv_iload hx hb d_SR_putByLayout_133 (lv_at hl 3 rfl) ?_
              refine va_lald (D := (dC, dI)) hx hb hK hP 3 1 rfl rfl ck d_SR_putByLayout_135 ?_
              obtain ⟨r_2, hc_5, hf⟩ := g_bind hf
              try dsimp only at hf
              refine cx2_callV (As := [.int x1, .long (LA_begins la_2 v7.toNatClampNeg), .long (LA_ends la_2 v7.toNatClampNeg)]) (rest := []) (wSR tC ad sr_1 ++ wLA tC (ad 1) la_2 ++ wRS tC (ad 3) rs_1 ++ wSS tC (ad 4) ss_1 ++ wFS tC (ad 6) fs_1 ++ wCO tC (ad 7) co_1) (wSR tC ad sr_1 ++ wLA tC (ad 1) la_2 ++ wRS tC (ad 3) rs_1 ++ wFS tC (ad 6) fs_1 ++ wCO tC (ad 7) co_1) ⟨hx, hb, hml, hown, hts⟩ (c_SS_find l dC dI tC (ad 4) k x1 (LA_begins la_2 v7.toNatClampNeg) (LA_ends la_2 v7.toNatClampNeg) ss_1 r_2 hc_5) (k_SR_284 hts ⟨Nat.le_of_ble_eq_true rfl, Nat.le_of_ble_eq_true rfl⟩) hl.1 hP hD hS hA hK hN [11, 12, 13, 14, 15, 16, 17, 18, 19, 20, 21, 22] [0, 1, 2, 3, 4, 5, 6, 7, 8, 9, 10, 23, 24, 25] 26 11 4 rfl rfl rfl rfl rfl rfl rfl rfl rfl rfl (by decide) rfl rfl (Nat.le_of_ble_eq_true rfl) d_SR_putByLayout_136 ⟨Nat.zero_le _, Nat.zero_le _⟩ (fun H locs hP hD hS => ?_)
              refine W.eq (g2 := F0 m 139 ls [.int r_2]) rfl ?_
              refine lv_istore (lv' := [(8, .int r_2), (0, .ref (ad 0 0)), (1, .int x1), (6, .int r_1), (7, .int v7)]) hx hb d_SR_putByLayout_139 hl (by decide) rfl (fun ls hl => ?_)
              refine lv_iload hx hb d_SR_putByLayout_141 (lv_at hl 0 rfl) ?_
              refine lv_iconst (v := (-1)) hx hb d_SR_putByLayout_143 (by decide) ?_
              obtain ⟨⟨v8, ss_3⟩, hB_177, hf⟩ := g_bind hf
              try dsimp only at hf
              have K_177 : ∀ (H : Heap) (locs : List Loc) (ls : Array Slot), va_P (dC, dI) classes (wSR tC ad sr_1 ++ wLA tC (ad 1) la_2 ++ wRS tC (ad 3) rs_1 ++ wSS tC (ad 4) ss_3 ++ wFS tC (ad 6) fs_1 ++ wCO tC (ad 7) co_1) H → va_D A (wSR tC ad sr_1 ++ wLA tC (ad 1) la_2 ++ wRS tC (ad 3) rs_1 ++ wSS tC (ad 4) ss_3 ++ wFS tC (ad 6) fs_1 ++ wCO tC (ad 7) co_1) → va_S A s.heap H locs → lv_has ls 9 [(0, .ref (ad 0 0)), (1, .int x1), (6, .int r_1), (7, .int v7), (8, .int v8)] → W p l e { frames := 5, cells := 0, slots := 0, locals := 126 } s m [.ref (ad 0 0), .int x1, .long x2, .long x4].toArray below meth c H locs 0 0 (cx_Z (dC, dI) classes below [.ref (ad 0 0), .int x1, .long x2, .long x4] s (wSR tC ad srR ++ wLA tC (ad 1) laR ++ wRS tC (ad 3) rsR ++ wSS tC (ad 4) ssR ++ wFS tC (ad 6) fsR ++ wCO tC (ad 7) coR) (some (.int res)) A) (F0 m 177 ls []) := by
                intro H locs ls hP hD hS hl
                refine lv_aload_n hx hb d_SR_putByLayout_177 rfl (lv_at hl 0 rfl) ?_
                refine lv_iload hx hb d_SR_putByLayout_178 (lv_at hl 4 rfl) ?_
                refine lv_iload hx hb d_SR_putByLayout_180 (lv_at hl 2 rfl) ?_
                obtain ⟨⟨ss_5, fs_3, co_3⟩, hc_7, hf⟩ := g_bind hf
                try dsimp only at hf
                refine cx2_callV (As := [.int v8, .int r_1]) (rest := []) (wSR tC ad sr_1 ++ wLA tC (ad 1) la_2 ++ wRS tC (ad 3) rs_1 ++ wSS tC (ad 4) ss_5 ++ wFS tC (ad 6) fs_3 ++ wCO tC (ad 7) co_3) (wLA tC (ad 1) la_2) ⟨hx, hb, hml, hown, hts⟩ (c_SR_putAndFire l dC dI tC ad k v8 r_1 sr_1 rs_1 ss_3 fs_1 co_1 ss_5 fs_3 co_3 hc_7) (k_SR_264 hts ⟨Nat.le_of_ble_eq_true rfl, Nat.le_of_ble_eq_true rfl⟩) hl.1 hP hD hS hA hK hN [0, 4, 5, 6, 7, 8, 9, 10, 11, 12, 13, 14, 15, 16, 17, 18, 19, 20, 21, 22, 23, 24, 25] [1, 2, 3] 26 0 0 rfl rfl rfl rfl rfl (cx_hw (cx_hw (cx_hw (cx_hw rfl rfl) (adSS _ _ _ _)) (adFS _ _ _ _)) (adCO _ _ _ _)) rfl rfl rfl rfl (by decide) rfl rfl (Nat.le_of_ble_eq_true rfl) d_SR_putByLayout_182 ⟨Nat.zero_le _, Nat.zero_le _⟩ (fun H locs hP hD hS => ?_)
                refine W.eq (g2 := F0 m 185 ls []) rfl ?_
                obtain ⟨v7_1, h_v7_1⟩ : ∃ z : Int32, z = v7 + 1 := ⟨_, rfl⟩
                have hf := g_let hf h_v7_1
                refine lv_iinc (v := v7_1) (lv' := [(7, .int v7_1), (0, .ref (ad 0 0)), (1, .int x1), (6, .int r_1), (8, .int v8)]) hx hb d_SR_putByLayout_185 hl (k := 3) rfl (by rw [h_v7_1]; rfl) (by decide) rfl (fun ls hl => ?_)
                refine lv_goto (tgt := 99) hx hb d_SR_putByLayout_188 (by decide) ?_
                exact ih v7_1 ss_5 fs_3 co_3 ss_2 fs_2 co_2 hf H locs ls hP hD hS (lv_sub hl [1, 2, 3, 0] rfl) kk
              have hf := hB_177
              unfold f_SR_putByLayout_B144 at hf
              refine lv_icmp_ne (tgt := 177) hx hb d_SR_putByLayout_144 (by decide) (fun cb_4 => ?_) (fun cb_4 => ?_)
              · have hf := g_f hf cb_4
                obtain ⟨hq0, hr1⟩ := Prod.mk.inj (g_some hf)
                subst hq0
                subst hr1
                exact K_177 _ _ _ hP hD hS (lv_sub hl [1, 2, 3, 4, 0] rfl)
              · have hf := g_t hf cb_4
                refine lv_aload_n hx hb d_SR_putByLayout_147 rfl (lv_at hl 1 rfl) ?_
                refine va_get (D := (dC, dI)) (ci := 0) (v := .ref (ad 4 0)) (C := R_SR) (T := F_SR) (N := 14) hx hb hts (in_SR _) hown hK hP 0 rfl rfl 3 (by decide) (hts _ (List.mem_cons_of_mem _ mw_235)) (fun _ h9 => h9) rfl d_SR_putByLayout_148 ?_
                refine lv_iload_n hx hb d_SR_putByLayout_151 rfl (lv_at hl 2 rfl) ?_
                refine lv_aload_n hx hb d_SR_putByLayout_152 rfl (lv_at hl 1 rfl) ?_
                refine va_get (D := (dC, dI)) (ci := 0) (v := .ref (ad 1 0)) (C := R_SR) (T := F_SR) (N := 14) hx hb hts (in_SR _) hown hK hP 0 rfl rfl 0 (by decide) (hts _ (List.mem_cons_of_mem _ mw_232)) (fun _ h9 => h9) rfl d_SR_putByLayout_153 ?_
                refine va_get (D := (dC, dI)) (ci := 1) (v := .ref ((ad 1) 1)) (C := R_LA) (T := F_LA) (N := 8) hx hb hts (in_LA _) hown hK hP 1 rfl rfl 3 (by decide) (hts _ (List.mem_cons_of_mem _ mw_206)) (fun _ h9 => h9) rfl d_SR_putByLayout_156 ?_
                refine lv_iload hx hb d_SR_putByLayout_159 (lv_at hl 4 rfl) ?_
                refine va_lald (D := (dC, dI)) hx hb hK hP 2 1 rfl rfl ck d_SR_putByLayout_161 ?_
                refine lv_aload_n hx hb d_SR_putByLayout_162 rfl (lv_at hl 1 rfl) ?_
                refine va_get (D := (dC, dI)) (ci := 0) (v := .ref (ad 1 0)) (C := R_SR) (T := F_SR) (N := 14) hx hb hts (in_SR _) hown hK hP 0 rfl rfl 0 (by decide) (hts _ (List.mem_cons_of_mem _ mw_232)) (fun _ h9 => h9) rfl d_SR_putByLayout_163 ?_
                refine va_get (D := (dC, dI)) (ci := 1) (v := .ref ((ad 1) 2)) (C := R_LA) (T := F_LA) (N := 8) hx hb hts (in_LA _) hown hK hP 1 rfl rfl 4 (by decide) (hts _ (List.mem_cons_of_mem _ mw_208)) (fun _ h9 => h9) rfl d_SR_putByLayout_166 ?_
                refine lv_iload hx hb d_SR_putByLayout_169 (lv_at hl 4 rfl) ?_
                refine va_lald (D := (dC, dI)) hx hb hK hP 3 1 rfl rfl ck d_SR_putByLayout_171 ?_
                obtain ⟨⟨r_3, ss_4⟩, hc_6, hf⟩ := g_bind hf
                try dsimp only at hf
                refine cx2_callV (As := [.int x1, .long (LA_begins la_2 v7.toNatClampNeg), .long (LA_ends la_2 v7.toNatClampNeg)]) (rest := []) (wSR tC ad sr_1 ++ wLA tC (ad 1) la_2 ++ wRS tC (ad 3) rs_1 ++ wSS tC (ad 4) ss_4 ++ wFS tC (ad 6) fs_1 ++ wCO tC (ad 7) co_1) (wSR tC ad sr_1 ++ wLA tC (ad 1) la_2 ++ wRS tC (ad 3) rs_1 ++ wFS tC (ad 6) fs_1 ++ wCO tC (ad 7) co_1) ⟨hx, hb, hml, hown, hts⟩ (c_SS_add l dC dI tC (ad 4) k x1 (LA_begins la_2 v7.toNatClampNeg) (LA_ends la_2 v7.toNatClampNeg) ss_1 r_3 ss_4 hc_6) (k_SR_287 hts ⟨Nat.le_of_ble_eq_true rfl, Nat.le_of_ble_eq_true rfl⟩) hl.1 hP hD hS hA hK hN [11, 12, 13, 14, 15, 16, 17, 18, 19, 20, 21, 22] [0, 1, 2, 3, 4, 5, 6, 7, 8, 9, 10, 23, 24, 25] 26 11 4 rfl rfl rfl rfl rfl (adSS _ _ _ _) rfl rfl rfl rfl (by decide) rfl rfl (Nat.le_of_ble_eq_true rfl) d_SR_putByLayout_172 ⟨Nat.zero_le _, Nat.zero_le _⟩ (fun H locs hP hD hS => ?_)
                refine W.eq (g2 := F0 m 175 ls [.int r_3]) rfl ?_
                refine lv_istore (lv' := [(8, .int r_3), (0, .ref (ad 0 0)), (1, .int x1), (6, .int r_1), (7, .int v7)]) hx hb d_SR_putByLayout_175 hl (by decide) rfl (fun ls hl => ?_)
                obtain ⟨hq0, hr1⟩ := Prod.mk.inj (g_some hf)
                subst hq0
                subst hr1
                exact K_177 _ _ _ hP hD hS (lv_sub hl [1, 2, 3, 4, 0] rfl)
        obtain ⟨⟨ss_2, fs_2, co_2⟩, hL_99, hf⟩ := g_bind hf
        try dsimp only at hf
        refine L_99 k 0 ss fs co ss_2 fs_2 co_2 hL_99 H locs ls hP hD hS (lv_sub hl [2, 3, 1, 0] rfl) (fun H locs ls hP hD hS hl => ?_)
        refine lv_aload_n hx hb d_SR_putByLayout_191 rfl (lv_at hl 0 rfl) ?_
        refine va_get (D := (dC, dI)) (ci := 0) (v := .ref (ad 1 0)) (C := R_SR) (T := F_SR) (N := 14) hx hb hts (in_SR _) hown hK hP 0 rfl rfl 0 (by decide) (hts _ (List.mem_cons_of_mem _ mw_232)) (fun _ h9 => h9) rfl d_SR_putByLayout_192 ?_
        refine va_get (D := (dC, dI)) (ci := 1) (v := .int (LA_found la_2)) (C := R_LA) (T := F_LA) (N := 8) hx hb hts (in_LA _) hown hK hP 1 rfl rfl 7 (by decide) (hts _ (List.mem_cons_of_mem _ mw_214)) (fun _ h9 => h9) rfl d_SR_putByLayout_195 ?_
        obtain ⟨hq0, hr1⟩ := Prod.mk.inj (g_some hf)
        obtain ⟨hq1, hr2⟩ := Prod.mk.inj hr1
        obtain ⟨hq2, hr3⟩ := Prod.mk.inj hr2
        obtain ⟨hq3, hr4⟩ := Prod.mk.inj hr3
        obtain ⟨hq4, hr5⟩ := Prod.mk.inj hr4
        obtain ⟨hq5, hr6⟩ := Prod.mk.inj hr5
        subst hq0
        subst hq1
        subst hq2
        subst hq3
        subst hq4
        subst hq5
        subst hr6
        exact cx_iret hx hb hr hlocks hP hS d_SR_putByLayout_198
      · have hf := g_f hf cb_2
        refine lv_bipush (v := (-4)) hx hb d_SR_putByLayout_70 (by decide) ?_
        obtain ⟨hq0, hr1⟩ := Prod.mk.inj (g_some hf)
        obtain ⟨hq1, hr2⟩ := Prod.mk.inj hr1
        obtain ⟨hq2, hr3⟩ := Prod.mk.inj hr2
        obtain ⟨hq3, hr4⟩ := Prod.mk.inj hr3
        obtain ⟨hq4, hr5⟩ := Prod.mk.inj hr4
        obtain ⟨hq5, hr6⟩ := Prod.mk.inj hr5
        subst hq0
        subst hq1
        subst hq2
        subst hq3
        subst hq4
        subst hq5
        subst hr6
        exact cx_iret hx hb hr hlocks hP hS d_SR_putByLayout_72
  · have hf := g_t hf cb
    refine lv_aload_n hx hb d_SR_putByLayout_36 rfl (lv_at hl 0 rfl) ?_
    obtain ⟨⟨r_4, sr_2⟩, hc_8⟩ : ∃ z : Int32 × SRt, z = f_SR_dropLate sr := ⟨_, rfl⟩
    have hf := g_let hf hc_8
    try dsimp only at hf
    refine cx2_callV (As := []) (rest := []) (wSR tC ad sr_2 ++ wLA tC (ad 1) la_2 ++ wRS tC (ad 3) rs ++ wSS tC (ad 4) ss ++ wFS tC (ad 6) fs ++ wCO tC (ad 7) co) (wLA tC (ad 1) la_2 ++ wRS tC (ad 3) rs ++ wSS tC (ad 4) ss ++ wFS tC (ad 6) fs ++ wCO tC (ad 7) co) ⟨hx, hb, hml, hown, hts⟩ (c_SR_dropLate l dC dI tC ad sr r_4 sr_2 hc_8.symm) (k_SR_234 hts ⟨Nat.le_of_ble_eq_true rfl, Nat.le_of_ble_eq_true rfl⟩) hl.1 hP hD hS hA hK hN [0] [1, 2, 3, 4, 5, 6, 7, 8, 9, 10, 11, 12, 13, 14, 15, 16, 17, 18, 19, 20, 21, 22, 23, 24, 25] 26 0 0 rfl rfl rfl rfl rfl (adSR _ _ _ _) rfl rfl rfl rfl (by decide) rfl rfl (Nat.le_of_ble_eq_true rfl) d_SR_putByLayout_37 ⟨Nat.zero_le _, Nat.zero_le _⟩ (fun H locs hP hD hS => ?_)
    refine W.eq (g2 := F0 m 40 ls [.int r_4]) rfl ?_
    obtain ⟨hq0, hr1⟩ := Prod.mk.inj (g_some hf)
    obtain ⟨hq1, hr2⟩ := Prod.mk.inj hr1
    obtain ⟨hq2, hr3⟩ := Prod.mk.inj hr2
    obtain ⟨hq3, hr4⟩ := Prod.mk.inj hr3
    obtain ⟨hq4, hr5⟩ := Prod.mk.inj hr4
    obtain ⟨hq5, hr6⟩ := Prod.mk.inj hr5
    subst hq0
    subst hq1
    subst hq2
    subst hq3
    subst hq4
    subst hq5
    subst hr6
    exact cx_iret hx hb hr hlocks hP hS d_SR_putByLayout_40
