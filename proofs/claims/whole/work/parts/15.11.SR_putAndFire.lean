def f_SR_putAndFire (k : Nat) (x1 : Int32) (x2 : Int32) (sr : SRt) (rs : RSt) (ss : SSt) (fs : FSt) (co : COt) : Option (SSt × FSt × COt) :=
  (f_SS_put x1 x2 ss).bind fun ss_1 =>
  if x1 < 0 ∨ 200 ≤ x1.toNatClampNeg then none else
  if (SR_theMark sr) < (SS_ends ss_1 x1.toNatClampNeg) then (
    if (SR_every sr) ≤ 0 then (
      some (ss_1, fs, co)
    ) else
    if (SS_since ss_1 x1.toNatClampNeg) < (SR_every sr) then (
      some (ss_1, fs, co)
    ) else
    (f_SR_fire k x1 0 sr rs ss_1 fs co).bind fun (ss_2, fs_1, co_1) =>
    some (ss_2, fs_1, co_1)
  ) else
  if (SR_latelyOn sr) = 0 then (
    some (ss_1, fs, co)
  ) else
  (f_SR_fire k x1 2 sr rs ss_1 fs co).bind fun (ss_3, fs_2, co_2) =>
  some (ss_3, fs_2, co_2)
set_option maxHeartbeats 4000000 in
set_option maxRecDepth 100000 in
theorem c_SR_putAndFire (l : Launch) (dC : Nat → ClassId) (dI : Nat → Nat → Nat) (tC : Nat → ClassId) (ad : Nat → Nat → Nat) (k : Nat) (x1 : Int32) (x2 : Int32) (sr : SRt) (rs : RSt) (ss : SSt) (fs : FSt) (co : COt) (ssR : SSt) (fsR : FSt) (coR : COt) (hf : f_SR_putAndFire k x1 x2 sr rs ss fs co = some (ssR, fsR, coR)) : cx_M l y_SR_putAndFire w_SR_putAndFire { frames := 4, cells := 0, slots := 0, locals := 92 } (dC, dI) classes (tyS tC) [.ref (ad 0 0), .int x1, .int x2] (wSR tC ad sr ++ wRS tC (ad 3) rs ++ wSS tC (ad 4) ss ++ wFS tC (ad 6) fs ++ wCO tC (ad 7) co) (wSR tC ad sr ++ wRS tC (ad 3) rs ++ wSS tC (ad 4) ssR ++ wFS tC (ad 6) fsR ++ wCO tC (ad 7) coR) (none) := by
  refine cx_of (cc := b_SR_putAndFire) (maxL := 3) (ret := none) (plainFor_of_name (by decide)) rfl (Nat.le_of_ble_eq_true rfl) ?_
  intro p e s m below meth c hx hb hr hml hown hts hlocks A hA H locs ls hK hN hP hD hS hl
  have hown : s.vm.findClass R_SR = some m.cls := hown
  have hl : lv_has ls 3 [(0, .ref (ad 0 0)), (1, .int x1), (2, .int x2)] := hl
  unfold f_SR_putAndFire at hf
  refine lv_aload_n hx hb d_SR_putAndFire_0 rfl (lv_at hl 0 rfl) ?_
  refine va_get (D := (dC, dI)) (ci := 0) (v := .ref (ad 4 0)) (C := R_SR) (T := F_SR) (N := 14) hx hb hts (in_SR _) hown hK hP 0 rfl rfl 3 (by decide) (hts _ (List.mem_cons_of_mem _ mw_235)) (fun _ h9 => h9) rfl d_SR_putAndFire_1 ?_
  refine lv_iload_n hx hb d_SR_putAndFire_4 rfl (lv_at hl 1 rfl) ?_
  refine lv_iload_n hx hb d_SR_putAndFire_5 rfl (lv_at hl 2 rfl) ?_
  obtain ⟨ss_1, hc, hf⟩ := g_bind hf
  try dsimp only at hf
  refine cx2_callV (As := [.int x1, .int x2]) (rest := []) (wSR tC ad sr ++ wRS tC (ad 3) rs ++ wSS tC (ad 4) ss_1 ++ wFS tC (ad 6) fs ++ wCO tC (ad 7) co) (wSR tC ad sr ++ wRS tC (ad 3) rs ++ wFS tC (ad 6) fs ++ wCO tC (ad 7) co) ⟨hx, hb, hml, hown, hts⟩ (c_SS_put l dC dI tC (ad 4) x1 x2 ss ss_1 hc) (k_SR_288 hts ⟨Nat.le_of_ble_eq_true rfl, Nat.le_of_ble_eq_true rfl⟩) hl.1 hP hD hS hA hK hN [8, 9, 10, 11, 12, 13, 14, 15, 16, 17, 18, 19] [0, 1, 2, 3, 4, 5, 6, 7, 20, 21, 22] 23 8 4 rfl rfl rfl rfl rfl (adSS _ _ _ _) rfl rfl rfl rfl (by decide) rfl rfl (Nat.le_of_ble_eq_true rfl) d_SR_putAndFire_6 ⟨Nat.zero_le _, Nat.zero_le _⟩ (fun H locs hP hD hS => ?_)
  refine W.eq (g2 := F0 m 9 ls []) rfl ?_
  refine lv_aload_n hx hb d_SR_putAndFire_9 rfl (lv_at hl 0 rfl) ?_
  refine va_get (D := (dC, dI)) (ci := 0) (v := .ref (ad 4 0)) (C := R_SR) (T := F_SR) (N := 14) hx hb hts (in_SR _) hown hK hP 0 rfl rfl 3 (by decide) (hts _ (List.mem_cons_of_mem _ mw_235)) (fun _ h9 => h9) rfl d_SR_putAndFire_10 ?_
  refine va_get (D := (dC, dI)) (ci := 4) (v := .ref ((ad 4) 3)) (C := R_SS) (T := F_SS) (N := 12) hx hb hts (in_SS _) hown hK hP 8 rfl rfl 2 (by decide) (hts _ (List.mem_cons_of_mem _ mw_86)) (fun _ h9 => h9) rfl d_SR_putAndFire_13 ?_
  refine lv_iload_n hx hb d_SR_putAndFire_16 rfl (lv_at hl 1 rfl) ?_
  obtain ⟨ck, hf⟩ := g_ck hf
  refine va_lald (D := (dC, dI)) hx hb hK hP 11 1 rfl rfl ck d_SR_putAndFire_17 ?_
  refine lv_aload_n hx hb d_SR_putAndFire_18 rfl (lv_at hl 0 rfl) ?_
  refine va_get (D := (dC, dI)) (ci := 0) (v := .long (SR_theMark sr)) (C := R_SR) (T := F_SR) (N := 14) hx hb hts (in_SR _) hown hK hP 0 rfl rfl 8 (by decide) (hts _ (List.mem_cons_of_mem _ mw_240)) (fun _ h9 => h9) rfl d_SR_putAndFire_19 ?_
  refine cq_gt (tgt := 42) hx hb d_SR_putAndFire_22 d_SR_putAndFire_23 (by decide) (fun cb => ?_) (fun cb => ?_)
  · have hf := g_t hf cb
    refine lv_aload_n hx hb d_SR_putAndFire_42 rfl (lv_at hl 0 rfl) ?_
    refine va_get (D := (dC, dI)) (ci := 0) (v := .int (SR_every sr)) (C := R_SR) (T := F_SR) (N := 14) hx hb hts (in_SR _) hown hK hP 0 rfl rfl 9 (by decide) (hts _ (List.mem_cons_of_mem _ mw_241)) (fun _ h9 => h9) rfl d_SR_putAndFire_43 ?_
    refine lv_if_le (tgt := 71) hx hb d_SR_putAndFire_46 (by decide) (fun cb_1 => ?_) (fun cb_1 => ?_)
    · have hf := g_t hf cb_1
      obtain ⟨hq0, hr1⟩ := Prod.mk.inj (g_some hf)
      obtain ⟨hq1, hr2⟩ := Prod.mk.inj hr1
      subst hq0
      subst hq1
      subst hr2
      exact cx_vret hx hb hr hlocks hP hS d_SR_putAndFire_71
    · have hf := g_f hf cb_1
      refine lv_aload_n hx hb d_SR_putAndFire_49 rfl (lv_at hl 0 rfl) ?_
      refine va_get (D := (dC, dI)) (ci := 0) (v := .ref (ad 4 0)) (C := R_SR) (T := F_SR) (N := 14) hx hb hts (in_SR _) hown hK hP 0 rfl rfl 3 (by decide) (hts _ (List.mem_cons_of_mem _ mw_235)) (fun _ h9 => h9) rfl d_SR_putAndFire_50 ?_
      refine va_get (D := (dC, dI)) (ci := 4) (v := .ref ((ad 4) 5)) (C := R_SS) (T := F_SS) (N := 12) hx hb hts (in_SS _) hown hK hP 8 rfl rfl 4 (by decide) (hts _ (List.mem_cons_of_mem _ mw_90)) (fun _ h9 => h9) rfl d_SR_putAndFire_53 ?_
      refine lv_iload_n hx hb d_SR_putAndFire_56 rfl (lv_at hl 1 rfl) ?_
      refine va_iald (D := (dC, dI)) hx hb hK hP 13 0 rfl rfl ck d_SR_putAndFire_57 ?_
      refine lv_aload_n hx hb d_SR_putAndFire_58 rfl (lv_at hl 0 rfl) ?_
      refine va_get (D := (dC, dI)) (ci := 0) (v := .int (SR_every sr)) (C := R_SR) (T := F_SR) (N := 14) hx hb hts (in_SR _) hown hK hP 0 rfl rfl 9 (by decide) (hts _ (List.mem_cons_of_mem _ mw_241)) (fun _ h9 => h9) rfl d_SR_putAndFire_59 ?_
      refine lv_icmp_lt (tgt := 71) hx hb d_SR_putAndFire_62 (by decide) (fun cb_2 => ?_) (fun cb_2 => ?_)
      · have hf := g_t hf cb_2
        obtain ⟨hq0, hr1⟩ := Prod.mk.inj (g_some hf)
        obtain ⟨hq1, hr2⟩ := Prod.mk.inj hr1
        subst hq0
        subst hq1
        subst hr2
        exact cx_vret hx hb hr hlocks hP hS d_SR_putAndFire_71
      · have hf := g_f hf cb_2
        refine lv_aload_n hx hb d_SR_putAndFire_65 rfl (lv_at hl 0 rfl) ?_
        refine lv_iload_n hx hb d_SR_putAndFire_66 rfl (lv_at hl 1 rfl) ?_
        refine lv_iconst (v := 0) hx hb d_SR_putAndFire_67 (by decide) ?_
        obtain ⟨⟨ss_2, fs_1, co_1⟩, hc_1, hf⟩ := g_bind hf
        try dsimp only at hf
        refine cx3_callV (As := [.int x1, .int 0]) (rest := []) (wSR tC ad sr ++ wRS tC (ad 3) rs ++ wSS tC (ad 4) ss_2 ++ wFS tC (ad 6) fs_1 ++ wCO tC (ad 7) co_1) ⟨hx, hb, hml, hown, hts⟩ (c_SR_fire l dC dI tC ad k x1 0 sr rs ss_1 fs co ss_2 fs_1 co_1 hc_1) (k_SR_291 hts ⟨Nat.le_of_ble_eq_true rfl, Nat.le_of_ble_eq_true rfl⟩) hl.1 hP hD hS hA hK hN 0 0 rfl rfl rfl (cx_hw (cx_hw (cx_hw (cx_hw rfl rfl) (adSS _ _ _ _)) (adFS _ _ _ _)) (adCO _ _ _ _)) rfl rfl (Nat.le_of_ble_eq_true rfl) d_SR_putAndFire_68 ⟨Nat.zero_le _, Nat.zero_le _⟩ (fun H locs hP hD hS => ?_)
        refine W.eq (g2 := F0 m 71 ls []) rfl ?_
        obtain ⟨hq0, hr1⟩ := Prod.mk.inj (g_some hf)
        obtain ⟨hq1, hr2⟩ := Prod.mk.inj hr1
        subst hq0
        subst hq1
        subst hr2
        exact cx_vret hx hb hr hlocks hP hS d_SR_putAndFire_71
  · have hf := g_f hf cb
    refine lv_aload_n hx hb d_SR_putAndFire_26 rfl (lv_at hl 0 rfl) ?_
    refine va_get (D := (dC, dI)) (ci := 0) (v := .int (SR_latelyOn sr)) (C := R_SR) (T := F_SR) (N := 14) hx hb hts (in_SR _) hown hK hP 0 rfl rfl 10 (by decide) (hts _ (List.mem_cons_of_mem _ mw_242)) (fun _ h9 => h9) rfl d_SR_putAndFire_27 ?_
    refine lv_if_eq (tgt := 71) hx hb d_SR_putAndFire_30 (by decide) (fun cb_3 => ?_) (fun cb_3 => ?_)
    · have hf := g_t hf cb_3
      obtain ⟨hq0, hr1⟩ := Prod.mk.inj (g_some hf)
      obtain ⟨hq1, hr2⟩ := Prod.mk.inj hr1
      subst hq0
      subst hq1
      subst hr2
      exact cx_vret hx hb hr hlocks hP hS d_SR_putAndFire_71
    · have hf := g_f hf cb_3
      refine lv_aload_n hx hb d_SR_putAndFire_33 rfl (lv_at hl 0 rfl) ?_
      refine lv_iload_n hx hb d_SR_putAndFire_34 rfl (lv_at hl 1 rfl) ?_
      refine lv_iconst (v := 2) hx hb d_SR_putAndFire_35 (by decide) ?_
      obtain ⟨⟨ss_3, fs_2, co_2⟩, hc_2, hf⟩ := g_bind hf
      try dsimp only at hf
      refine cx3_callV (As := [.int x1, .int 2]) (rest := []) (wSR tC ad sr ++ wRS tC (ad 3) rs ++ wSS tC (ad 4) ss_3 ++ wFS tC (ad 6) fs_2 ++ wCO tC (ad 7) co_2) ⟨hx, hb, hml, hown, hts⟩ (c_SR_fire l dC dI tC ad k x1 2 sr rs ss_1 fs co ss_3 fs_2 co_2 hc_2) (k_SR_291 hts ⟨Nat.le_of_ble_eq_true rfl, Nat.le_of_ble_eq_true rfl⟩) hl.1 hP hD hS hA hK hN 0 0 rfl rfl rfl (cx_hw (cx_hw (cx_hw (cx_hw rfl rfl) (adSS _ _ _ _)) (adFS _ _ _ _)) (adCO _ _ _ _)) rfl rfl (Nat.le_of_ble_eq_true rfl) d_SR_putAndFire_36 ⟨Nat.zero_le _, Nat.zero_le _⟩ (fun H locs hP hD hS => ?_)
      refine W.eq (g2 := F0 m 39 ls []) rfl ?_
      refine lv_goto (tgt := 71) hx hb d_SR_putAndFire_39 (by decide) ?_
      obtain ⟨hq0, hr1⟩ := Prod.mk.inj (g_some hf)
      obtain ⟨hq1, hr2⟩ := Prod.mk.inj hr1
      subst hq0
      subst hq1
      subst hr2
      exact cx_vret hx hb hr hlocks hP hS d_SR_putAndFire_71
