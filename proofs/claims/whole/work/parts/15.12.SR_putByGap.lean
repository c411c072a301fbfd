def f_SR_putByGap_B99 (sr : SRt) (r_2 : Int32) (ss_1 : SSt) : Option (SSt) :=
  if (SS_ends ss_1 r_2.toNatClampNeg) ≤ (SR_theMark sr) then (
    some ss_1
  ) else
  some (sSS_ended ss_1 (upd (SS_ended ss_1) r_2.toNatClampNeg 0))
def f_SR_putByGap (k : Nat) (x1 : Int32) (x2 : Int64) (x4 : Int64) (sr : SRt) (la : LAt) (rs : RSt) (ss : SSt) (fs : FSt) (co : COt) : Option (Int32 × SRt × RSt × SSt × FSt × COt) :=
  gl_let ((x2 + (LA_size la))) fun v6 =>
  (f_SS_joinedEnd k x1 x2 v6 ss).bind fun r =>
  if (f_SR_isGone r sr) = 0 then (
    if (f_RS_isFull rs) = 0 then (
      (f_SS_sharing k x1 x2 v6 ss).bind fun r_1 =>
      if ((SS_kept ss) - r_1) < 200 then (
        (f_SS_join k x1 x2 v6 ss).bind fun (r_2, ss_1) =>
        if r_2 < 0 ∨ 200 ≤ r_2.toNatClampNeg then none else
        (f_SR_putByGap_B99 sr r_2 ss_1).bind fun ss_2 =>
        (f_RS_add k x1 x2 x4 rs).bind fun (r_3, rs_1) =>
        gl_let ((sSR_came sr ((SR_came sr) + 1)) : SRt) fun sr_1 =>
        (f_SR_putAndFire k r_2 r_3 sr_1 rs_1 ss_2 fs co).bind fun (ss_3, fs_1, co_1) =>
        some (1, sr_1, rs_1, ss_3, fs_1, co_1)
      ) else
      some ((-4), sr, rs, ss, fs, co)
    ) else
    some ((-4), sr, rs, ss, fs, co)
  ) else
  gl_let (f_SR_dropLate sr) fun (r_4, sr_2) =>
  some (r_4, sr_2, rs, ss, fs, co)
set_option maxHeartbeats 4000000 in
set_option maxRecDepth 100000 in
theorem c_SR_putByGap (l : Launch) (dC : Nat → ClassId) (dI : Nat → Nat → Nat) (tC : Nat → ClassId) (ad : Nat → Nat → Nat) (k : Nat) (x1 : Int32) (x2 : Int64) (x4 : Int64) (sr : SRt) (la : LAt) (rs : RSt) (ss : SSt) (fs : FSt) (co : COt) (res : Int32) (srR : SRt) (rsR : RSt) (ssR : SSt) (fsR : FSt) (coR : COt) (hf : f_SR_putByGap k x1 x2 x4 sr la rs ss fs co = some (res, srR, rsR, ssR, fsR, coR)) : cx_M l y_SR_putByGap w_SR_putByGap { frames := 5, cells := 0, slots := 0, locals := 114 } (dC, dI) classes (tyS tC) [.ref (ad 0 0), .int x1, .long x2, .long x4] (wSR tC ad sr ++ wLA tC (ad 1) la ++ wRS tC (ad 3) rs ++ wSS tC (ad 4) ss ++ wFS tC (ad 6) fs ++ wCO tC (ad 7) co) (wSR tC ad srR ++ wLA tC (ad 1) la ++ wRS tC (ad 3) rsR ++ wSS tC (ad 4) ssR ++ wFS tC (ad 6) fsR ++ wCO tC (ad 7) coR) (some (.int res)) := by
  refine cx_of (cc := b_SR_putByGap) (maxL := 9) (ret := some .int) (plainFor_of_name (by decide)) rfl (Nat.le_of_ble_eq_true rfl) ?_
  intro p e s m below meth c hx hb hr hml hown hts hlocks A hA H locs ls hK hN hP hD hS hl
  have hown : s.vm.findClass R_SR = some m.cls := hown
  have hl : lv_has ls 9 [(0, .ref (ad 0 0)), (1, .int x1), (2, .long x2), (4, .long x4)] := hl
  unfold f_SR_putByGap at hf
  refine lv_lload_n hx hb d_SR_putByGap_0 rfl (lv_at hl 2 rfl) ?_
  refine lv_aload_n hx hb d_SR_putByGap_1 rfl (lv_at hl 0 rfl) ?_
  refine va_get (D := (dC, dI)) (ci := 0) (v := .ref (ad 1 0)) (C := R_SR) (T := F_SR) (N := 14) hx hb hts (in_SR _) hown hK hP 0 rfl rfl 0 (by decide) (hts _ (List.mem_cons_of_mem _ mw_232)) (fun _ h9 => h9) rfl d_SR_putByGap_2 ?_
  refine va_get (D := (dC, dI)) (ci := 1) (v := .long (LA_size la)) (C := R_LA) (T := F_LA) (N := 8) hx hb hts (in_LA _) hown hK hP 1 rfl rfl 1 (by decide) (hts _ (List.mem_cons_of_mem _ mw_202)) (fun _ h9 => h9) rfl d_SR_putByGap_5 ?_
  refine lv_ladd hx hb d_SR_putByGap_8 ?_
  refine lv_topl (fun v6 h_v6 => ?_)
  have hf := g_let hf h_v6
  refine lv_lstore (lv' := [(6, .long v6), (0, .ref (ad 0 0)), (1, .int x1), (2, .long x2), (4, .long x4)]) hx hb d_SR_putByGap_9 hl (by decide) rfl (fun ls hl => ?_)
  refine lv_aload_n hx hb d_SR_putByGap_11 rfl (lv_at hl 1 rfl) ?_
  refine lv_aload_n hx hb d_SR_putByGap_12 rfl (lv_at hl 1 rfl) ?_
  refine va_get (D := (dC, dI)) (ci := 0) (v := .ref (ad 4 0)) (C := R_SR) (T := F_SR) (N := 14) hx hb hts (in_SR _) hown hK hP 0 rfl rfl 3 (by decide) (hts _ (List.mem_cons_of_mem _ mw_235)) (fun _ h9 => h9) rfl d_SR_putByGap_13 ?_
  refine lv_iload_n hx hb d_SR_putByGap_16 rfl (lv_at hl 2 rfl) ?_
  refine lv_lload_n hx hb d_SR_putByGap_17 rfl (lv_at hl 3 rfl) ?_
  refine lv_lload hx hb d_SR_putByGap_18 (lv_at hl 0 rfl) ?_
  obtain ⟨r, hc, hf⟩ := g_bind hf
  try dsimp only at hf
  refine cx2_callV (As := [.int x1, .long x2, .long v6]) (rest := [.ref (ad 0 0)]) (wSR tC ad sr ++ wLA tC (ad 1) la ++ wRS tC (ad 3) rs ++ wSS tC (ad 4) ss ++ wFS tC (ad 6) fs ++ wCO tC (ad 7) co) (wSR tC ad sr ++ wLA tC (ad 1) la ++ wRS tC (ad 3) rs ++ wFS tC (ad 6) fs ++ wCO tC (ad 7) co) ⟨hx, hb, hml, hown, hts⟩ (c_SS_joinedEnd l dC dI tC (ad 4) k x1 x2 v6 ss r hc) (k_SR_246 hts ⟨Nat.le_of_ble_eq_true rfl, Nat.le_of_ble_eq_true rfl⟩) hl.1 hP hD hS hA hK hN [11, 12, 13, 14, 15, 16, 17, 18, 19, 20, 21, 22] [0, 1, 2, 3, 4, 5, 6, 7, 8, 9, 10, 23, 24, 25] 26 11 4 rfl rfl rfl rfl rfl rfl rfl rfl rfl rfl (by decide) rfl rfl (Nat.le_of_ble_eq_true rfl) d_SR_putByGap_20 ⟨Nat.zero_le _, Nat.zero_le _⟩ (fun H locs hP hD hS => ?_)
  refine W.eq (g2 := F0 m 23 ls [.long r, .ref (ad 0 0)]) rfl ?_
  refine cx2_callV (As := [.long r]) (rest := []) (wSR tC ad sr ++ wLA tC (ad 1) la ++ wRS tC (ad 3) rs ++ wSS tC (ad 4) ss ++ wFS tC (ad 6) fs ++ wCO tC (ad 7) co) (wLA tC (ad 1) la ++ wRS tC (ad 3) rs ++ wSS tC (ad 4) ss ++ wFS tC (ad 6) fs ++ wCO tC (ad 7) co) ⟨hx, hb, hml, hown, hts⟩ (c_SR_isGone l dC dI tC ad r sr (f_SR_isGone r sr) rfl) (k_SR_250 hts ⟨Nat.le_of_ble_eq_true rfl, Nat.le_of_ble_eq_true rfl⟩) hl.1 hP hD hS hA hK hN [0] [1, 2, 3, 4, 5, 6, 7, 8, 9, 10, 11, 12, 13, 14, 15, 16, 17, 18, 19, 20, 21, 22, 23, 24, 25] 26 0 0 rfl rfl rfl rfl rfl rfl rfl rfl rfl rfl (by decide) rfl rfl (Nat.le_of_ble_eq_true rfl) d_SR_putByGap_23 ⟨Nat.zero_le _, Nat.zero_le _⟩ (fun H locs hP hD hS => ?_)
  refine W.eq (g2 := F0 m 26 ls [.int (f_SR_isGone r sr)]) rfl ?_
  refine lv_if_eq (tgt := 34) hx hb d_SR_putByGap_26 (by decide) (fun cb => ?_) (fun cb => ?_)
  · have hf := g_t hf cb
    refine lv_aload_n hx hb d_SR_putByGap_34 rfl (lv_at hl 1 rfl) ?_
    refine va_get (D := (dC, dI)) (ci := 0) (v := .ref (ad 3 0)) (C := R_SR) (T := F_SR) (N := 14) hx hb hts (in_SR _) hown hK hP 0 rfl rfl 2 (by decide) (hts _ (List.mem_cons_of_mem _ mw_234)) (fun _ h9 => h9) rfl d_SR_putByGap_35 ?_
    refine cx2_callV (As := []) (rest := []) (wSR tC ad sr ++ wLA tC (ad 1) la ++ wRS tC (ad 3) rs ++ wSS tC (ad 4) ss ++ wFS tC (ad 6) fs ++ wCO tC (ad 7) co) (wSR tC ad sr ++ wLA tC (ad 1) la ++ wSS tC (ad 4) ss ++ wFS tC (ad 6) fs ++ wCO tC (ad 7) co) ⟨hx, hb, hml, hown, hts⟩ (c_RS_isFull l dC dI tC (ad 3) rs (f_RS_isFull rs) rfl) (k_SR_237 hts ⟨Nat.le_of_ble_eq_true rfl, Nat.le_of_ble_eq_true rfl⟩) hl.1 hP hD hS hA hK hN [4, 5, 6, 7, 8, 9, 10] [0, 1, 2, 3, 11, 12, 13, 14, 15, 16, 17, 18, 19, 20, 21, 22, 23, 24, 25] 26 4 3 rfl rfl rfl rfl rfl rfl rfl rfl rfl rfl (by decide) rfl rfl (Nat.le_of_ble_eq_true rfl) d_SR_putByGap_38 ⟨Nat.zero_le _, Nat.zero_le _⟩ (fun H locs hP hD hS => ?_)
    refine W.eq (g2 := F0 m 41 ls [.int (f_RS_isFull rs)]) rfl ?_
    refine lv_if_ne (tgt := 69) hx hb d_SR_putByGap_41 (by decide) (fun cb_1 => ?_) (fun cb_1 => ?_)
    · have hf := g_f hf cb_1
      refine lv_bipush (v := (-4)) hx hb d_SR_putByGap_69 (by decide) ?_
      obtain ⟨hq0, hr1⟩ := Prod.mk.inj (g_some hf)
      obtain ⟨hq1, hr2⟩ := Prod.mk.inj hr1
      obtain ⟨hq2, hr3⟩ := Prod.mk.inj hr2
      obtain ⟨hq3, hr4⟩ := Prod.mk.inj hr3
      obtain ⟨hq4, hr5⟩ := Prod.mk.inj hr4
      subst hq0
      subst hq1
      subst hq2
      subst hq3
      subst hq4
      subst hr5
      exact cx_iret hx hb hr hlocks hP hS d_SR_putByGap_71
    · have hf := g_t hf cb_1
      refine lv_aload_n hx hb d_SR_putByGap_44 rfl (lv_at hl 1 rfl) ?_
      refine va_get (D := (dC, dI)) (ci := 0) (v := .ref (ad 4 0)) (C := R_SR) (T := F_SR) (N := 14) hx hb hts (in_SR _) hown hK hP 0 rfl rfl 3 (by decide) (hts _ (List.mem_cons_of_mem _ mw_235)) (fun _ h9 => h9) rfl d_SR_putByGap_45 ?_
      refine va_get (D := (dC, dI)) (ci := 4) (v := .int (SS_kept ss)) (C := R_SS) (T := F_SS) (N := 12) hx hb hts (in_SS _) hown hK hP 11 rfl rfl 11 (by decide) (hts _ (List.mem_cons_of_mem _ mw_103)) (fun _ h9 => h9) rfl d_SR_putByGap_48 ?_
      refine lv_aload_n hx hb d_SR_putByGap_51 rfl (lv_at hl 1 rfl) ?_
      refine va_get (D := (dC, dI)) (ci := 0) (v := .ref (ad 4 0)) (C := R_SR) (T := F_SR) (N := 14) hx hb hts (in_SR _) hown hK hP 0 rfl rfl 3 (by decide) (hts _ (List.mem_cons_of_mem _ mw_235)) (fun _ h9 => h9) rfl d_SR_putByGap_52 ?_
      refine lv_iload_n hx hb d_SR_putByGap_55 rfl (lv_at hl 2 rfl) ?_
      refine lv_lload_n hx hb d_SR_putByGap_56 rfl (lv_at hl 3 rfl) ?_
      refine lv_lload hx hb d_SR_putByGap_57 (lv_at hl 0 rfl) ?_
      obtain ⟨r_1, hc_3, hf⟩ := g_bind hf
      try dsimp only at hf
      refine cx2_callV (As := [.int x1, .long x2, .long v6]) (rest := [.int (SS_kept ss)]) (wSR tC ad sr ++ wLA tC (ad 1) la ++ wRS tC (ad 3) rs ++ wSS tC (ad 4) ss ++ wFS tC (ad 6) fs ++ wCO tC (ad 7) co) (wSR tC ad sr ++ wLA tC (ad 1) la ++ wRS tC (ad 3) rs ++ wFS tC (ad 6) fs ++ wCO tC (ad 7) co) ⟨hx, hb, hml, hown, hts⟩ (c_SS_sharing l dC dI tC (ad 4) k x1 x2 v6 ss r_1 hc_3) (k_SR_254 hts ⟨Nat.le_of_ble_eq_true rfl, Nat.le_of_ble_eq_true rfl⟩) hl.1 hP hD hS hA hK hN [11, 12, 13, 14, 15, 16, 17, 18, 19, 20, 21, 22] [0, 1, 2, 3, 4, 5, 6, 7, 8, 9, 10, 23, 24, 25] 26 11 4 rfl rfl rfl rfl rfl rfl rfl rfl rfl rfl (by decide) rfl rfl (Nat.le_of_ble_eq_true rfl) d_SR_putByGap_59 ⟨Nat.zero_le _, Nat.zero_le _⟩ (fun H locs hP hD hS => ?_)
      refine W.eq (g2 := F0 m 62 ls [.int r_1, .int (SS_kept ss)]) rfl ?_
      refine lv_isub hx hb d_SR_putByGap_62 ?_
      refine lv_sipush (v := 200) hx hb d_SR_putByGap_63 (by decide) ?_
      refine lv_icmp_lt (tgt := 72) hx hb d_SR_putByGap_66 (by decide) (fun cb_2 => ?_) (fun cb_2 => ?_)
      · have hf := g_t hf cb_2
        refine lv_aload_n hx hb d_SR_putByGap_72 rfl (lv_at hl 1 rfl) ?_
        refine va_get (D := (dC, dI)) (ci := 0) (v := .ref (ad 4 0)) (C := R_SR) (T := F_SR) (N := 14) hx hb hts (in_SR _) hown hK hP 0 rfl rfl 3 (by decide) (hts _ (List.mem_cons_of_mem _ mw_235)) (fun _ h9 => h9) rfl d_SR_putByGap_73 ?_
        refine lv_iload_n hx hb d_SR_putByGap_76 rfl (lv_at hl 2 rfl) ?_
        refine lv_lload_n hx hb d_SR_putByGap_77 rfl (lv_at hl 3 rfl) ?_
        refine lv_lload hx hb d_SR_putByGap_78 (lv_at hl 0 rfl) ?_
        obtain ⟨⟨r_2, ss_1⟩, hc_4, hf⟩ := g_bind hf
        try dsimp only at hf
        refine cx2_callV (As := [.int x1, .long x2, .long v6]) (rest := []) (wSR tC ad sr ++ wLA tC (ad 1) la ++ wRS tC (ad 3) rs ++ wSS tC (ad 4) ss_1 ++ wFS tC (ad 6) fs ++ wCO tC (ad 7) co) (wSR tC ad sr ++ wLA tC (ad 1) la ++ wRS tC (ad 3) rs ++ wFS tC (ad 6) fs ++ wCO tC (ad 7) co) ⟨hx, hb, hml, hown, hts⟩ (c_SS_join l dC dI tC (ad 4) k x1 x2 v6 ss r_2 ss_1 hc_4) (k_SR_257 hts ⟨Nat.le_of_ble_eq_true rfl, Nat.le_of_ble_eq_true rfl⟩) hl.1 hP hD hS hA hK hN [11, 12, 13, 14, 15, 16, 17, 18, 19, 20, 21, 22] [0, 1, 2, 3, 4, 5, 6, 7, 8, 9, 10, 23, 24, 25] 26 11 4 rfl rfl rfl rfl rfl (adSS _ _ _ _) rfl rfl rfl rfl (by decide) rfl rfl (Nat.le_of_ble_eq_true rfl) d_SR_putByGap_80 ⟨Nat.zero_le _, Nat.zero_le _⟩ (fun H locs hP hD hS => ?_)
        refine W.eq (g2 := F0 m 83 ls [.int r_2]) rfl ?_
        refine lv_istore (lv' := [(8, .int r_2), (6, .long v6), (0, .ref (ad 0 0)), (1, .int x1), (2, .long x2), (4, .long x4)]) hx hb d_SR_putByGap_83 hl (by decide) rfl (fun ls hl => ?_)
        refine lv_aload_n hx hb d_SR_putByGap_85 rfl (lv_at hl 2 rfl) ?_
        refine va_get (D := (dC, dI)) (ci := 0) (v := .ref (ad 4 0)) (C := R_SR) (T := F_SR) (N := 14) hx hb hts (in_SR _) hown hK hP 0 rfl rfl 3 (by decide) (hts _ (List.mem_cons_of_mem _ mw_235)) (fun _ h9 => h9) rfl d_SR_putByGap_86 ?_
        refine va_get (D := (dC, dI)) (ci := 4) (v := .ref ((ad 4) 3)) (C := R_SS) (T := F_SS) (N := 12) hx hb hts (in_SS _) hown hK hP 11 rfl rfl 2 (by decide) (hts _ (List.mem_cons_of_mem _ mw_86)) (fun _ h9 => h9) rfl d_SR_putByGap_89 ?_
        refine lv_iload hx hb d_SR_putByGap_92 (lv_at hl 0 rfl) ?_
        obtain ⟨ck, hf⟩ := g_ck hf
        refine va_lald (D := (dC, dI)) hx hb hK hP 14 1 rfl rfl ck d_SR_putByGap_94 ?_
        refine lv_aload_n hx hb d_SR_putByGap_95 rfl (lv_at hl 2 rfl) ?_
        refine va_get (D := (dC, dI)) (ci := 0) (v := .long (SR_theMark sr)) (C := R_SR) (T := F_SR) (N := 14) hx hb hts (in_SR _) hown hK hP 0 rfl rfl 8 (by decide) (hts _ (List.mem_cons_of_mem _ mw_240)) (fun _ h9 => h9) rfl d_SR_putByGap_96 ?_
        obtain ⟨ss_2, hB_114, hf⟩ := g_bind hf
        try dsimp only at hf
        have K_114 : ∀ (H : Heap) (locs : List Loc) (ls : Array Slot), va_P (dC, dI) classes (wSR tC ad sr ++ wLA tC (ad 1) la ++ wRS tC (ad 3) rs ++ wSS tC (ad 4) ss_2 ++ wFS tC (ad 6) fs ++ wCO tC (ad 7) co) H → va_D A (wSR tC ad sr ++ wLA tC (ad 1) la ++ wRS tC (ad 3) rs ++ wSS tC (ad 4) ss_2 ++ wFS tC (ad 6) fs ++ wCO tC (ad 7) co) → va_S A s.heap H locs → lv_has ls 9 [(0, .ref (ad 0 0)), (1, .int x1), (2, .long x2), (4, .long x4), (8, .int r_2)] → W p l e { frames := 5, cells := 0, slots := 0, locals := 114 } s m [.ref (ad 0 0), .int x1, .long x2, .long x4].toArray below meth c H locs 0 0 (cx_Z (dC, dI) classes below [.ref (ad 0 0), .int x1, .long x2, .long x4] s (wSR tC ad srR ++ wLA tC (ad 1) la ++ wRS tC (ad 3) rsR ++ wSS tC (ad 4) ssR ++ wFS tC (ad 6) fsR ++ wCO tC (ad 7) coR) (some (.int res)) A) (F0 m 114 ls []) := by
          intro H locs ls hP hD hS hl
          refine lv_aload_n hx hb d_SR_putByGap_114 rfl (lv_at hl 0 rfl) ?_
          refine lv_dup hx hb d_SR_putByGap_115 rfl ?_
          refine va_get (D := (dC, dI)) (ci := 0) (v := .int (SR_came sr)) (C := R_SR) (T := F_SR) (N := 14) hx hb hts (in_SR _) hown hK hP 0 rfl rfl 12 (by decide) (hts _ (List.mem_cons_of_mem _ mw_244)) (fun _ h9 => h9) rfl d_SR_putByGap_116 ?_
          refine lv_iconst (v := 1) hx hb d_SR_putByGap_119 (by decide) ?_
          refine lv_iadd hx hb d_SR_putByGap_120 ?_
          refine va_put (D := (dC, dI)) (ci := 0) (v := .int ((SR_came sr) + 1)) (ty := .int) (C := R_SR) (T := F_SR) (N := 14) hx hb hts (in_SR _) t_SR t_SR_ok n_SR hown hK hP hD hS 0 rfl rfl 12 (by decide) (hts _ (List.mem_cons_of_mem _ mw_244)) (fun _ h9 => h9) rfl (by decide +kernel) rfl rfl (Nat.le_of_ble_eq_true rfl) d_SR_putByGap_121 (fun H locs hP hD hS => ?_)
          have hP : va_P (dC, dI) classes (wSR tC ad (sSR_came sr ((SR_came sr) + 1)) ++ wLA tC (ad 1) la ++ wRS tC (ad 3) rs ++ wSS tC (ad 4) ss_2 ++ wFS tC (ad 6) fs ++ wCO tC (ad 7) co) H := hP
          have hD : va_D A (wSR tC ad (sSR_came sr ((SR_came sr) + 1)) ++ wLA tC (ad 1) la ++ wRS tC (ad 3) rs ++ wSS tC (ad 4) ss_2 ++ wFS tC (ad 6) fs ++ wCO tC (ad 7) co) := hD
          refine lv_aload_n hx hb d_SR_putByGap_124 rfl (lv_at hl 0 rfl) ?_
          refine lv_iload hx hb d_SR_putByGap_125 (lv_at hl 4 rfl) ?_
          refine lv_aload_n hx hb d_SR_putByGap_127 rfl (lv_at hl 0 rfl) ?_
          refine va_get (D := (dC, dI)) (ci := 0) (v := .ref (ad 3 0)) (C := R_SR) (T := F_SR) (N := 14) hx hb hts (in_SR _) hown hK hP 0 rfl rfl 2 (by decide) (hts _ (List.mem_cons_of_mem _ mw_234)) (fun _ h9 => h9) rfl d_SR_putByGap_128 ?_
          refine lv_iload_n hx hb d_SR_putByGap_131 rfl (lv_at hl 1 rfl) ?_
          refine lv_lload_n hx hb d_SR_putByGap_132 rfl (lv_at hl 2 rfl) ?_
          refine lv_lload hx hb d_SR_putByGap_133 (lv_at hl 3 rfl) ?_
          obtain ⟨⟨r_3, rs_1⟩, hc_5, hf⟩ := g_bind hf
          try dsimp only at hf
          refine cx2_callV (As := [.int x1, .long x2, .long x4]) (rest := [.int r_2, .ref (ad 0 0)]) (wSR tC ad (sSR_came sr ((SR_came sr) + 1)) ++ wLA tC (ad 1) la ++ wRS tC (ad 3) rs_1 ++ wSS tC (ad 4) ss_2 ++ wFS tC (ad 6) fs ++ wCO tC (ad 7) co) (wSR tC ad (sSR_came sr ((SR_came sr) + 1)) ++ wLA tC (ad 1) la ++ wSS tC (ad 4) ss_2 ++ wFS tC (ad 6) fs ++ wCO tC (ad 7) co) ⟨hx, hb, hml, hown, hts⟩ (c_RS_add l dC dI tC (ad 3) k x1 x2 x4 rs r_3 rs_1 hc_5) (k_SR_241 hts ⟨Nat.le_of_ble_eq_true rfl, Nat.le_of_ble_eq_true rfl⟩) hl.1 hP hD hS hA hK hN [4, 5, 6, 7, 8, 9, 10] [0, 1, 2, 3, 11, 12, 13, 14, 15, 16, 17, 18, 19, 20, 21, 22, 23, 24, 25] 26 4 3 rfl rfl rfl rfl rfl (adRS _ _ _ _) rfl rfl rfl rfl (by decide) rfl rfl (Nat.le_of_ble_eq_true rfl) d_SR_putByGap_135 ⟨Nat.zero_le _, Nat.zero_le _⟩ (fun H locs hP hD hS => ?_)
          refine W.eq (g2 := F0 m 138 ls [.int r_3, .int r_2, .ref (ad 0 0)]) rfl ?_
          obtain ⟨sr_1, h_sr_1⟩ : ∃ z : SRt, z = (sSR_came sr ((SR_came sr) + 1)) := ⟨_, rfl⟩
          have hf := g_let hf h_sr_1
          have hP : va_P (dC, dI) classes (wSR tC ad sr_1 ++ wLA tC (ad 1) la ++ wRS tC (ad 3) rs_1 ++ wSS tC (ad 4) ss_2 ++ wFS tC (ad 6) fs ++ wCO tC (ad 7) co) H := by rw [h_sr_1]; exact hP
          have hD : va_D A (wSR tC ad sr_1 ++ wLA tC (ad 1) la ++ wRS tC (ad 3) rs_1 ++ wSS tC (ad 4) ss_2 ++ wFS tC (ad 6) fs ++ wCO tC (ad 7) co) := by rw [h_sr_1]; exact hD
          obtain ⟨⟨ss_3, fs_1, co_1⟩, hc_6, hf⟩ := g_bind hf
          try dsimp only at hf
          refine cx2_callV (As := [.int r_2, .int r_3]) (rest := []) (wSR tC ad sr_1 ++ wLA tC (ad 1) la ++ wRS tC (ad 3) rs_1 ++ wSS tC (ad 4) ss_3 ++ wFS tC (ad 6) fs_1 ++ wCO tC (ad 7) co_1) (wLA tC (ad 1) la) ⟨hx, hb, hml, hown, hts⟩ (c_SR_putAndFire l dC dI tC ad k r_2 r_3 sr_1 rs_1 ss_2 fs co ss_3 fs_1 co_1 hc_6) (k_SR_264 hts ⟨Nat.le_of_ble_eq_true rfl, Nat.le_of_ble_eq_true rfl⟩) hl.1 hP hD hS hA hK hN [0, 4, 5, 6, 7, 8, 9, 10, 11, 12, 13, 14, 15, 16, 17, 18, 19, 20, 21, 22, 23, 24, 25] [1, 2, 3] 26 0 0 rfl rfl rfl rfl rfl (cx_hw (cx_hw (cx_hw (cx_hw rfl rfl) (adSS _ _ _ _)) (adFS _ _ _ _)) (adCO _ _ _ _)) rfl rfl rfl rfl (by decide) rfl rfl (Nat.le_of_ble_eq_true rfl) d_SR_putByGap_138 ⟨Nat.zero_le _, Nat.zero_le _⟩ (fun H locs hP hD hS => ?_)
          refine W.eq (g2 := F0 m 141 ls []) rfl ?_
          refine lv_iconst (v := 1) hx hb d_SR_putByGap_141 (by decide) ?_
          obtain ⟨hq0, hr1⟩ := Prod.mk.inj (g_some hf)
          obtain ⟨hq1, hr2⟩ := Prod.mk.inj hr1
          obtain ⟨hq2, hr3⟩ := Prod.mk.inj hr2
          obtain ⟨hq3, hr4⟩ := Prod.mk.inj hr3
          obtain ⟨hq4, hr5⟩ := Prod.mk.inj hr4
          subst hq0
          subst hq1
          subst hq2
          subst hq3
          subst hq4
          subst hr5
          exact cx_iret hx hb hr hlocks hP hS d_SR_putByGap_142
        have hf := hB_114
        unfold f_SR_putByGap_B99 at hf
        refine cq_le (tgt := 114) hx hb d_SR_putByGap_99 d_SR_putByGap_100 (by decide) (fun cb_3 => ?_) (fun cb_3 => ?_)
        · have hf := g_t hf cb_3
          have hq0 := (g_some hf)
          subst hq0
          exact K_114 _ _ _ hP hD hS (lv_sub hl [2, 3, 4, 5, 0] rfl)
        · have hf := g_f hf cb_3
          refine lv_aload_n hx hb d_SR_putByGap_103 rfl (lv_at hl 2 rfl) ?_
          refine va_get (D := (dC, dI)) (ci := 0) (v := .ref (ad 4 0)) (C := R_SR) (T := F_SR) (N := 14) hx hb hts (in_SR _) hown hK hP 0 rfl rfl 3 (by decide) (hts _ (List.mem_cons_of_mem _ mw_235)) (fun _ h9 => h9) rfl d_SR_putByGap_104 ?_
          refine va_get (D := (dC, dI)) (ci := 4) (v := .ref ((ad 4) 6)) (C := R_SS) (T := F_SS) (N := 12) hx hb hts (in_SS _) hown hK hP 11 rfl rfl 5 (by decide) (hts _ (List.mem_cons_of_mem _ mw_92)) (fun _ h9 => h9) rfl d_SR_putByGap_107 ?_
          refine lv_iload hx hb d_SR_putByGap_110 (lv_at hl 0 rfl) ?_
          refine lv_iconst (v := 0) hx hb d_SR_putByGap_112 (by decide) ?_
          refine va_zast (D := (dC, dI)) hx hb hK hP hD hS 17 2 rfl rfl ck d_SR_putByGap_113 (fun H locs hP hD hS => ?_)
          have hP : va_P (dC, dI) classes (wSR tC ad sr ++ wLA tC (ad 1) la ++ wRS tC (ad 3) rs ++ wSS tC (ad 4) (sSS_ended ss_1 (upd (SS_ended ss_1) r_2.toNatClampNeg 0)) ++ wFS tC (ad 6) fs ++ wCO tC (ad 7) co) H := hP
          have hD : va_D A (wSR tC ad sr ++ wLA tC (ad 1) la ++ wRS tC (ad 3) rs ++ wSS tC (ad 4) (sSS_ended ss_1 (upd (SS_ended ss_1) r_2.toNatClampNeg 0)) ++ wFS tC (ad 6) fs ++ wCO tC (ad 7) co) := hD
          have hq0 := (g_some hf)
          subst hq0
          exact K_114 _ _ _ hP hD hS (lv_sub hl [2, 3, 4, 5, 0] rfl)
      · have hf := g_f hf cb_2
        refine lv_bipush (v := (-4)) hx hb d_SR_putByGap_69 (by decide) ?_
        obtain ⟨hq0, hr1⟩ := Prod.mk.inj (g_some hf)
        obtain ⟨hq1, hr2⟩ := Prod.mk.inj hr1
        obtain ⟨hq2, hr3⟩ := Prod.mk.inj hr2
        obtain ⟨hq3, hr4⟩ := Prod.mk.inj hr3
        obtain ⟨hq4, hr5⟩ := Prod.mk.inj hr4
        subst hq0
        subst hq1
        subst hq2
        subst hq3
        subst hq4
        subst hr5
        exact cx_iret hx hb hr hlocks hP hS d_SR_putByGap_71
  · have hf := g_f hf cb
    refine lv_aload_n hx hb d_SR_putByGap_29 rfl (lv_at hl 1 rfl) ?_
    obtain ⟨⟨r_4, sr_2⟩, hc_7⟩ : ∃ z : Int32 × SRt, z = f_SR_dropLate sr := ⟨_, rfl⟩
    have hf := g_let hf hc_7
    try dsimp only at hf
    refine cx2_callV (As := []) (rest := []) (wSR tC ad sr_2 ++ wLA tC (ad 1) la ++ wRS tC (ad 3) rs ++ wSS tC (ad 4) ss ++ wFS tC (ad 6) fs ++ wCO tC (ad 7) co) (wLA tC (ad 1) la ++ wRS tC (ad 3) rs ++ wSS tC (ad 4) ss ++ wFS tC (ad 6) fs ++ wCO tC (ad 7) co) ⟨hx, hb, hml, hown, hts⟩ (c_SR_dropLate l dC dI tC ad sr r_4 sr_2 hc_7.symm) (k_SR_234 hts ⟨Nat.le_of_ble_eq_true rfl, Nat.le_of_ble_eq_true rfl⟩) hl.1 hP hD hS hA hK hN [0] [1, 2, 3, 4, 5, 6, 7, 8, 9, 10, 11, 12, 13, 14, 15, 16, 17, 18, 19, 20, 21, 22, 23, 24, 25] 26 0 0 rfl rfl rfl rfl rfl (adSR _ _ _ _) rfl rfl rfl rfl (by decide) rfl rfl (Nat.le_of_ble_eq_true rfl) d_SR_putByGap_30 ⟨Nat.zero_le _, Nat.zero_le _⟩ (fun H locs hP hD hS => ?_)
    refine W.eq (g2 := F0 m 33 ls [.int r_4]) rfl ?_
    obtain ⟨hq0, hr1⟩ := Prod.mk.inj (g_some hf)
    obtain ⟨hq1, hr2⟩ := Prod.mk.inj hr1
    obtain ⟨hq2, hr3⟩ := Prod.mk.inj hr2
    obtain ⟨hq3, hr4⟩ := Prod.mk.inj hr3
    obtain ⟨hq4, hr5⟩ := Prod.mk.inj hr4
    subst hq0
    subst hq1
    subst hq2
    subst hq3
    subst hq4
    subst hr5
    exact cx_iret hx hb hr hlocks hP hS d_SR_putByGap_33
