def f_SR_fire (k : Nat) (x1 : Int32) (x2 : Int32) (sr : SRt) (rs : RSt) (ss : SSt) (fs : FSt) (co : COt) : Option (SSt × FSt × COt) :=
  if (SR_clearsOn sr) = 0 then (
    (f_SR_gather k x1 sr rs co 1000 (SS_had ss)).bind fun co_1 =>
    (f_SS_noteFired k x1 x2 ss).bind fun ss_1 =>
    if x1 < 0 ∨ 200 ≤ x1.toNatClampNeg then none else
    (f_FS_add k (SS_keys ss_1 x1.toNatClampNeg) (SS_begins ss_1 x1.toNatClampNeg) (SS_ends ss_1 x1.toNatClampNeg) x2 (SS_fires ss_1 x1.toNatClampNeg) fs co_1).bind fun fs_1 =>
    some (ss_1, fs_1, co_1)
  ) else
  (f_SR_gather k x1 sr rs co 1000 (SS_untold ss)).bind fun co_2 =>
  (f_SS_noteFired k x1 x2 ss).bind fun ss_2 =>
  if x1 < 0 ∨ 200 ≤ x1.toNatClampNeg then none else
  (f_FS_add k (SS_keys ss_2 x1.toNatClampNeg) (SS_begins ss_2 x1.toNatClampNeg) (SS_ends ss_2 x1.toNatClampNeg) x2 (SS_fires ss_2 x1.toNatClampNeg) fs co_2).bind fun fs_2 =>
  some (ss_2, fs_2, co_2)
set_option maxHeartbeats 4000000 in
set_option maxRecDepth 100000 in
theorem c_SR_fire (l : Launch) (dC : Nat → ClassId) (dI : Nat → Nat → Nat) (tC : Nat → ClassId) (ad : Nat → Nat → Nat) (k : Nat) (x1 : Int32) (x2 : Int32) (sr : SRt) (rs : RSt) (ss : SSt) (fs : FSt) (co : COt) (ssR : SSt) (fsR : FSt) (coR : COt) (hf : f_SR_fire k x1 x2 sr rs ss fs co = some (ssR, fsR, coR)) : cx_M l y_SR_fire w_SR_fire { frames := 3, cells := 0, slots := 0, locals := 70 } (dC, dI) classes (tyS tC) [.ref (ad 0 0), .int x1, .int x2] (wSR tC ad sr ++ wRS tC (ad 3) rs ++ wSS tC (ad 4) ss ++ wFS tC (ad 6) fs ++ wCO tC (ad 7) co) (wSR tC ad sr ++ wRS tC (ad 3) rs ++ wSS tC (ad 4) ssR ++ wFS tC (ad 6) fsR ++ wCO tC (ad 7) coR) (none) := by
  refine cx_of (cc := b_SR_fire) (maxL := 3) (ret := none) (plainFor_of_name (by decide)) rfl (Nat.le_of_ble_eq_true rfl) ?_
  intro p e s m below meth c hx hb hr hml hown hts hlocks A hA H locs ls hK hN hP hD hS hl
  have hown : s.vm.findClass R_SR = some m.cls := hown
  have hl : lv_has ls 3 [(0, .ref (ad 0 0)), (1, .int x1), (2, .int x2)] := hl
  unfold f_SR_fire at hf
  refine lv_aload_n hx hb d_SR_fire_0 rfl (lv_at hl 0 rfl) ?_
  refine lv_iload_n hx hb d_SR_fire_1 rfl (lv_at hl 1 rfl) ?_
  refine lv_aload_n hx hb d_SR_fire_2 rfl (lv_at hl 0 rfl) ?_
  refine va_get (D := (dC, dI)) (ci := 0) (v := .int (SR_clearsOn sr)) (C := R_SR) (T := F_SR) (N := 14) hx hb hts (in_SR _) hown hK hP 0 rfl rfl 11 (by decide) (hts _ (List.mem_cons_of_mem _ mw_243)) (fun _ h9 => h9) rfl d_SR_fire_3 ?_
  refine lv_if_eq (tgt := 19) hx hb d_SR_fire_6 (by decide) (fun cb => ?_) (fun cb => ?_)
  · have hf := g_t hf cb
    refine lv_aload_n hx hb d_SR_fire_19 rfl (lv_at hl 0 rfl) ?_
    refine va_get (D := (dC, dI)) (ci := 0) (v := .ref (ad 4 0)) (C := R_SR) (T := F_SR) (N := 14) hx hb hts (in_SR _) hown hK hP 0 rfl rfl 3 (by decide) (hts _ (List.mem_cons_of_mem _ mw_235)) (fun _ h9 => h9) rfl d_SR_fire_20 ?_
    refine va_get (D := (dC, dI)) (ci := 4) (v := .ref ((ad 4) 7)) (C := R_SS) (T := F_SS) (N := 12) hx hb hts (in_SS _) hown hK hP 8 rfl rfl 6 (by decide) (hts _ (List.mem_cons_of_mem _ mw_94)) (fun _ h9 => h9) rfl d_SR_fire_23 ?_
    obtain ⟨co_1, hc, hf⟩ := g_bind hf
    try dsimp only at hf
    refine cx2_callV (As := [.int x1, .ref ((ad 4) 7)]) (rest := []) (wSR tC ad sr ++ wRS tC (ad 3) rs ++ wSS tC (ad 4) ss ++ wFS tC (ad 6) fs ++ wCO tC (ad 7) co_1) ([((ad 4) 0, .inr (4, [.ref ((ad 4) 1), .ref ((ad 4) 2), .ref ((ad 4) 3), .ref ((ad 4) 4), .ref ((ad 4) 5), .ref ((ad 4) 6), .ref ((ad 4) 7), .ref ((ad 4) 8), .ref ((ad 4) 9), .ref ((ad 4) 10), .ref ((ad 4) 11), .int (SS_kept ss)])), ((ad 4) 1, .inl (tC 0, 200, .inl (SS_keys ss))), ((ad 4) 2, .inl (tC 1, 200, .inr (.inl (SS_begins ss)))), ((ad 4) 3, .inl (tC 1, 200, .inr (.inl (SS_ends ss)))), ((ad 4) 4, .inl (tC 0, 200, .inl (SS_fires ss))), ((ad 4) 5, .inl (tC 0, 200, .inl (SS_since ss))), ((ad 4) 6, .inl (tC 2, 200, .inl (SS_ended ss))), ((ad 4) 8, .inl (tC 1, 1000, .inr (.inl (SS_untold ss)))), ((ad 4) 9, .inl (tC 1, 5, .inr (.inl (SS_united ss)))), ((ad 4) 10, .inl (tC 0, 200, .inl (SS_due ss))), ((ad 4) 11, .inl (tC 0, 200, .inl (SS_order ss)))] ++ wFS tC (ad 6) fs) ⟨hx, hb, hml, hown, hts⟩ (c_SR_gather l dC dI tC ad ((ad 4) 7) k x1 sr rs co 1000 (SS_had ss) co_1 hc) (k_SR_201 hts ⟨Nat.le_of_ble_eq_true rfl, Nat.le_of_ble_eq_true rfl⟩) hl.1 hP hD hS hA hK hN [0, 1, 2, 3, 4, 5, 6, 7, 22, 15] [8, 9, 10, 11, 12, 13, 14, 16, 17, 18, 19, 20, 21] 23 0 0 rfl rfl rfl rfl rfl (cx_hw (cx_hw (cx_hw rfl rfl) (adCO _ _ _ _)) rfl) rfl rfl rfl rfl (by decide) rfl rfl (Nat.le_of_ble_eq_true rfl) d_SR_fire_26 ⟨Nat.zero_le _, Nat.zero_le _⟩ (fun H locs hP hD hS => ?_)
    refine W.eq (g2 := F0 m 29 ls []) rfl ?_
    refine lv_aload_n hx hb d_SR_fire_29 rfl (lv_at hl 0 rfl) ?_
    refine va_get (D := (dC, dI)) (ci := 0) (v := .ref (ad 4 0)) (C := R_SR) (T := F_SR) (N := 14) hx hb hts (in_SR _) hown hK hP 0 rfl rfl 3 (by decide) (hts _ (List.mem_cons_of_mem _ mw_235)) (fun _ h9 => h9) rfl d_SR_fire_30 ?_
    refine lv_iload_n hx hb d_SR_fire_33 rfl (lv_at hl 1 rfl) ?_
    refine lv_iload_n hx hb d_SR_fire_34 rfl (lv_at hl 2 rfl) ?_
    obtain ⟨ss_1, hc_1, hf⟩ := g_bind hf
    try dsimp only at hf
    refine cx2_callV (As := [.int x1, .int x2]) (rest := []) (wSR tC ad sr ++ wRS tC (ad 3) rs ++ wSS tC (ad 4) ss_1 ++ wFS tC (ad 6) fs ++ wCO tC (ad 7) co_1) (wSR tC ad sr ++ wRS tC (ad 3) rs ++ wFS tC (ad 6) fs ++ wCO tC (ad 7) co_1) ⟨hx, hb, hml, hown, hts⟩ (c_SS_noteFired l dC dI tC (ad 4) k x1 x2 ss ss_1 hc_1) (k_SR_297 hts ⟨Nat.le_of_ble_eq_true rfl, Nat.le_of_ble_eq_true rfl⟩) hl.1 hP hD hS hA hK hN [8, 9, 10, 11, 12, 13, 14, 15, 16, 17, 18, 19] [0, 1, 2, 3, 4, 5, 6, 7, 20, 21, 22] 23 8 4 rfl rfl rfl rfl rfl (adSS _ _ _ _) rfl rfl rfl rfl (by decide) rfl rfl (Nat.le_of_ble_eq_true rfl) d_SR_fire_35 ⟨Nat.zero_le _, Nat.zero_le _⟩ (fun H locs hP hD hS => ?_)
    refine W.eq (g2 := F0 m 38 ls []) rfl ?_
    refine lv_aload_n hx hb d_SR_fire_38 rfl (lv_at hl 0 rfl) ?_
    refine va_get (D := (dC, dI)) (ci := 0) (v := .ref (ad 6 0)) (C := R_SR) (T := F_SR) (N := 14) hx hb hts (in_SR _) hown hK hP 0 rfl rfl 5 (by decide) (hts _ (List.mem_cons_of_mem _ mw_237)) (fun _ h9 => h9) rfl d_SR_fire_39 ?_
    refine lv_aload_n hx hb d_SR_fire_42 rfl (lv_at hl 0 rfl) ?_
    refine va_get (D := (dC, dI)) (ci := 0) (v := .ref (ad 4 0)) (C := R_SR) (T := F_SR) (N := 14) hx hb hts (in_SR _) hown hK hP 0 rfl rfl 3 (by decide) (hts _ (List.mem_cons_of_mem _ mw_235)) (fun _ h9 => h9) rfl d_SR_fire_43 ?_
    refine va_get (D := (dC, dI)) (ci := 4) (v := .ref ((ad 4) 1)) (C := R_SS) (T := F_SS) (N := 12) hx hb hts (in_SS _) hown hK hP 8 rfl rfl 0 (by decide) (hts _ (List.mem_cons_of_mem _ mw_82)) (fun _ h9 => h9) rfl d_SR_fire_46 ?_
    refine lv_iload_n hx hb d_SR_fire_49 rfl (lv_at hl 1 rfl) ?_
    obtain ⟨ck, hf⟩ := g_ck hf
    refine va_iald (D := (dC, dI)) hx hb hK hP 9 0 rfl rfl ck d_SR_fire_50 ?_
    refine lv_aload_n hx hb d_SR_fire_51 rfl (lv_at hl 0 rfl) ?_
    refine va_get (D := (dC, dI)) (ci := 0) (v := .ref (ad 4 0)) (C := R_SR) (T := F_SR) (N := 14) hx hb hts (in_SR _) hown hK hP 0 rfl rfl 3 (by decide) (hts _ (List.mem_cons_of_mem _ mw_235)) (fun _ h9 => h9) rfl d_SR_fire_52 ?_
    refine va_get (D := (dC, dI)) (ci := 4) (v := .ref ((ad 4) 2)) (C := R_SS) (T := F_SS) (N := 12) hx hb hts (in_SS _) hown hK hP 8 rfl rfl 1 (by decide) (hts _ (List.mem_cons_of_mem _ mw_84)) (fun _ h9 => h9) rfl d_SR_fire_55 ?_
    refine lv_iload_n hx hb d_SR_fire_58 rfl (lv_at hl 1 rfl) ?_
    refine va_lald (D := (dC, dI)) hx hb hK hP 10 1 rfl rfl ck d_SR_fire_59 ?_
    refine lv_aload_n hx hb d_SR_fire_60 rfl (lv_at hl 0 rfl) ?_
    refine va_get (D := (dC, dI)) (ci := 0) (v := .ref (ad 4 0)) (C := R_SR) (T := F_SR) (N := 14) hx hb hts (in_SR _) hown hK hP 0 rfl rfl 3 (by decide) (hts _ (List.mem_cons_of_mem _ mw_235)) (fun _ h9 => h9) rfl d_SR_fire_61 ?_
    refine va_get (D := (dC, dI)) (ci := 4) (v := .ref ((ad 4) 3)) (C := R_SS) (T := F_SS) (N := 12) hx hb hts (in_SS _) hown hK hP 8 rfl rfl 2 (by decide) (hts _ (List.mem_cons_of_mem _ mw_86)) (fun _ h9 => h9) rfl d_SR_fire_64 ?_
    refine lv_iload_n hx hb d_SR_fire_67 rfl (lv_at hl 1 rfl) ?_
    refine va_lald (D := (dC, dI)) hx hb hK hP 11 1 rfl rfl ck d_SR_fire_68 ?_
    refine lv_iload_n hx hb d_SR_fire_69 rfl (lv_at hl 2 rfl) ?_
    refine lv_aload_n hx hb d_SR_fire_70 rfl (lv_at hl 0 rfl) ?_
    refine va_get (D := (dC, dI)) (ci := 0) (v := .ref (ad 4 0)) (C := R_SR) (T := F_SR) (N := 14) hx hb hts (in_SR _) hown hK hP 0 rfl rfl 3 (by decide) (hts _ (List.mem_cons_of_mem _ mw_235)) (fun _ h9 => h9) rfl d_SR_fire_71 ?_
    refine va_get (D := (dC, dI)) (ci := 4) (v := .ref ((ad 4) 4)) (C := R_SS) (T := F_SS) (N := 12) hx hb hts (in_SS _) hown hK hP 8 rfl rfl 3 (by decide) (hts _ (List.mem_cons_of_mem _ mw_88)) (fun _ h9 => h9) rfl d_SR_fire_74 ?_
    refine lv_iload_n hx hb d_SR_fire_77 rfl (lv_at hl 1 rfl) ?_
    refine va_iald (D := (dC, dI)) hx hb hK hP 12 0 rfl rfl ck d_SR_fire_78 ?_
    refine lv_aload_n hx hb d_SR_fire_79 rfl (lv_at hl 0 rfl) ?_
    refine va_get (D := (dC, dI)) (ci := 0) (v := .ref (ad 7 0)) (C := R_SR) (T := F_SR) (N := 14) hx hb hts (in_SR _) hown hK hP 0 rfl rfl 6 (by decide) (hts _ (List.mem_cons_of_mem _ mw_238)) (fun _ h9 => h9) rfl d_SR_fire_80 ?_
    obtain ⟨fs_1, hc_2, hf⟩ := g_bind hf
    try dsimp only at hf
    refine cx2_callV (As := [.int (SS_keys ss_1 x1.toNatClampNeg), .long (SS_begins ss_1 x1.toNatClampNeg), .long (SS_ends ss_1 x1.toNatClampNeg), .int x2, .int (SS_fires ss_1 x1.toNatClampNeg), .ref (ad 7 0)]) (rest := []) (wSR tC ad sr ++ wRS tC (ad 3) rs ++ wSS tC (ad 4) ss_1 ++ wFS tC (ad 6) fs_1 ++ wCO tC (ad 7) co_1) (wSR tC ad sr ++ wRS tC (ad 3) rs ++ wSS tC (ad 4) ss_1) ⟨hx, hb, hml, hown, hts⟩ (c_FS_add l dC dI tC (ad 6) (ad 7) k (SS_keys ss_1 x1.toNatClampNeg) (SS_begins ss_1 x1.toNatClampNeg) (SS_ends ss_1 x1.toNatClampNeg) x2 (SS_fires ss_1 x1.toNatClampNeg) fs co_1 fs_1 hc_2) (k_SR_303 hts ⟨Nat.le_of_ble_eq_true rfl, Nat.le_of_ble_eq_true rfl⟩) hl.1 hP hD hS hA hK hN [20, 21, 22] [0, 1, 2, 3, 4, 5, 6, 7, 8, 9, 10, 11, 12, 13, 14, 15, 16, 17, 18, 19] 23 20 6 rfl rfl rfl rfl rfl (cx_hw (adFS _ _ _ _) rfl) rfl rfl rfl rfl (by decide) rfl rfl (Nat.le_of_ble_eq_true rfl) d_SR_fire_83 ⟨Nat.zero_le _, Nat.zero_le _⟩ (fun H locs hP hD hS => ?_)
    refine W.eq (g2 := F0 m 86 ls []) rfl ?_
    obtain ⟨hq0, hr1⟩ := Prod.mk.inj (g_some hf)
    obtain ⟨hq1, hr2⟩ := Prod.mk.inj hr1
    subst hq0
    subst hq1
    subst hr2
    exact cx_vret hx hb hr hlocks hP hS d_SR_fire_86
  · have hf := g_f hf cb
    refine lv_aload_n hx hb d_SR_fire_9 rfl (lv_at hl 0 rfl) ?_
    refine va_get (D := (dC, dI)) (ci := 0) (v := .ref (ad 4 0)) (C := R_SR) (T := F_SR) (N := 14) hx hb hts (in_SR _) hown hK hP 0 rfl rfl 3 (by decide) (hts _ (List.mem_cons_of_mem _ mw_235)) (fun _ h9 => h9) rfl d_SR_fire_10 ?_
    refine va_get (D := (dC, dI)) (ci := 4) (v := .ref ((ad 4) 8)) (C := R_SS) (T := F_SS) (N := 12) hx hb hts (in_SS _) hown hK hP 8 rfl rfl 7 (by decide) (hts _ (List.mem_cons_of_mem _ mw_96)) (fun _ h9 => h9) rfl d_SR_fire_13 ?_
    refine lv_goto (tgt := 26) hx hb d_SR_fire_16 (by decide) ?_
    obtain ⟨co_2, hc_3, hf⟩ := g_bind hf
    try dsimp only at hf
    refine cx2_callV (As := [.int x1, .ref ((ad 4) 8)]) (rest := []) (wSR tC ad sr ++ wRS tC (ad 3) rs ++ wSS tC (ad 4) ss ++ wFS tC (ad 6) fs ++ wCO tC (ad 7) co_2) ([((ad 4) 0, .inr (4, [.ref ((ad 4) 1), .ref ((ad 4) 2), .ref ((ad 4) 3), .ref ((ad 4) 4), .ref ((ad 4) 5), .ref ((ad 4) 6), .ref ((ad 4) 7), .ref ((ad 4) 8), .ref ((ad 4) 9), .ref ((ad 4) 10), .ref ((ad 4) 11), .int (SS_kept ss)])), ((ad 4) 1, .inl (tC 0, 200, .inl (SS_keys ss))), ((ad 4) 2, .inl (tC 1, 200, .inr (.inl (SS_begins ss)))), ((ad 4) 3, .inl (tC 1, 200, .inr (.inl (SS_ends ss)))), ((ad 4) 4, .inl (tC 0, 200, .inl (SS_fires ss))), ((ad 4) 5, .inl (tC 0, 200, .inl (SS_since ss))), ((ad 4) 6, .inl (tC 2, 200, .inl (SS_ended ss))), ((ad 4) 7, .inl (tC 1, 1000, .inr (.inl (SS_had ss)))), ((ad 4) 9, .inl (tC 1, 5, .inr (.inl (SS_united ss)))), ((ad 4) 10, .inl (tC 0, 200, .inl (SS_due ss))), ((ad 4) 11, .inl (tC 0, 200, .inl (SS_order ss)))] ++ wFS tC (ad 6) fs) ⟨hx, hb, hml, hown, hts⟩ (c_SR_gather l dC dI tC ad ((ad 4) 8) k x1 sr rs co 1000 (SS_untold ss) co_2 hc_3) (k_SR_201 hts ⟨Nat.le_of_ble_eq_true rfl, Nat.le_of_ble_eq_true rfl⟩) hl.1 hP hD hS hA hK hN [0, 1, 2, 3, 4, 5, 6, 7, 22, 16] [8, 9, 10, 11, 12, 13, 14, 15, 17, 18, 19, 20, 21] 23 0 0 rfl rfl rfl rfl rfl (cx_hw (cx_hw (cx_hw rfl rfl) (adCO _ _ _ _)) rfl) rfl rfl rfl rfl (by decide) rfl rfl (Nat.le_of_ble_eq_true rfl) d_SR_fire_26 ⟨Nat.zero_le _, Nat.zero_le _⟩ (fun H locs hP hD hS => ?_)
    refine W.eq (g2 := F0 m 29 ls []) rfl ?_
    refine lv_aload_n hx hb d_SR_fire_29 rfl (lv_at hl 0 rfl) ?_
    refine va_get (D := (dC, dI)) (ci := 0) (v := .ref (ad 4 0)) (C := R_SR) (T := F_SR) (N := 14) hx hb hts (in_SR _) hown hK hP 0 rfl rfl 3 (by decide) (hts _ (List.mem_cons_of_mem _ mw_235)) (fun _ h9 => h9) rfl d_SR_fire_30 ?_
    refine lv_iload_n hx hb d_SR_fire_33 rfl (lv_at hl 1 rfl) ?_
    refine lv_iload_n hx hb d_SR_fire_34 rfl (lv_at hl 2 rfl) ?_
    obtain ⟨ss_2, hc_4, hf⟩ := g_bind hf
    try dsimp only at hf
    refine cx2_callV (As := [.int x1, .int x2]) (rest := []) (wSR tC ad sr ++ wRS tC (ad 3) rs ++ wSS tC (ad 4) ss_2 ++ wFS tC (ad 6) fs ++ wCO tC (ad 7) co_2) (wSR tC ad sr ++ wRS tC (ad 3) rs ++ wFS tC (ad 6) fs ++ wCO tC (ad 7) co_2) ⟨hx, hb, hml, hown, hts⟩ (c_SS_noteFired l dC dI tC (ad 4) k x1 x2 ss ss_2 hc_4) (k_SR_297 hts ⟨Nat.le_of_ble_eq_true rfl, Nat.le_of_ble_eq_true rfl⟩) hl.1 hP hD hS hA hK hN [8, 9, 10, 11, 12, 13, 14, 15, 16, 17, 18, 19] [0, 1, 2, 3, 4, 5, 6, 7, 20, 21, 22] 23 8 4 rfl rfl rfl rfl rfl (adSS _ _ _ _) rfl rfl rfl rfl (by decide) rfl rfl (Nat.le_of_ble_eq_true rfl) d_SR_fire_35 ⟨Nat.zero_le _, Nat.zero_le _⟩ (fun H locs hP hD hS => ?_)
    refine W.eq (g2 := F0 m 38 ls []) rfl ?_
    refine lv_aload_n hx hb d_SR_fire_38 rfl (lv_at hl 0 rfl) ?_
    refine va_get (D := (dC, dI)) (ci := 0) (v := .ref (ad 6 0)) (C := R_SR) (T := F_SR) (N := 14) hx hb hts (in_SR _) hown hK hP 0 rfl rfl 5 (by decide) (hts _ (List.mem_cons_of_mem _ mw_237)) (fun _ h9 => h9) rfl d_SR_fire_39 ?_
    refine lv_aload_n hx hb d_SR_fire_42 rfl (lv_at hl 0 rfl) ?_
    refine va_get (D := (dC, dI)) (ci := 0) (v := .ref (ad 4 0)) (C := R_SR) (T := F_SR) (N := 14) hx hb hts (in_SR _) hown hK hP 0 rfl rfl 3 (by decide) (hts _ (List.mem_cons_of_mem _ mw_235)) (fun _ h9 => h9) rfl d_SR_fire_43 ?_
    refine va_get (D := (dC, dI)) (ci := 4) (v := .ref ((ad 4) 1)) (C := R_SS) (T := F_SS) (N := 12) hx hb hts (in_SS _) hown hK hP 8 rfl rfl 0 (by decide) (hts _ (List.mem_cons_of_mem _ mw_82)) (fun _ h9 => h9) rfl d_SR_fire_46 ?_
    refine lv_iload_n hx hb d_SR_fire_49 rfl (lv_at hl 1 rfl) ?_
    obtain ⟨ck_1, hf⟩ := g_ck hf
    refine va_iald (D := (dC, dI)) hx hb hK hP 9 0 rfl rfl ck_1 d_SR_fire_50 ?_
    refine lv_aload_n hx hb d_SR_fire_51 rfl (lv_at hl 0 rfl) ?_
    refine va_get (D := (dC, dI)) (ci := 0) (v := .ref (ad 4 0)) (C := R_SR) (T := F_SR) (N := 14) hx hb hts (in_SR _) hown hK hP 0 rfl rfl 3 (by decide) (hts _ (List.mem_cons_of_mem _ mw_235)) (fun _ h9 => h9) rfl d_SR_fire_52 ?_
    refine va_get (D := (dC, dI)) (ci := 4) (v := .ref ((ad 4) 2)) (C := R_SS) (T := F_SS) (N := 12) hx hb hts (in_SS _) hown hK hP 8 rfl rfl 1 (by decide) (hts _ (List.mem_cons_of_mem _ mw_84)) (fun _ h9 => h9) rfl d_SR_fire_55 ?_
    refine lv_iload_n hx hb d_SR_fire_58 rfl (lv_at hl 1 rfl) ?_
    refine va_lald (D := (dC, dI)) hx hb hK hP 10 1 rfl rfl ck_1 d_SR_fire_59 ?_
    refine lv_aload_n hx hb d_SR_fire_60 rfl (lv_at hl 0 rfl) ?_
    refine va_get (D := (dC, dI)) (ci := 0) (v := .ref (ad 4 0)) (C := R_SR) (T := F_SR) (N := 14) hx hb hts (in_SR _) hown hK hP 0 rfl rfl 3 (by decide) (hts _ (List.mem_cons_of_mem _ mw_235)) (fun _ h9 => h9) rfl d_SR_fire_61 ?_
    refine va_get (D := (dC, dI)) (ci := 4) (v := .ref ((ad 4) 3)) (C := R_SS) (T := F_SS) (N := 12) hx hb hts (in_SS _) hown hK hP 8 rfl rfl 2 (by decide) (hts _ (List.mem_cons_of_mem _ mw_86)) (fun _ h9 => h9) rfl d_SR_fire_64 ?_
    refine lv_iload_n hx hb d_SR_fire_67 rfl (lv_at hl 1 rfl) ?_
    refine va_lald (D := (dC, dI)) hx hb hK hP 11 1 rfl rfl ck_1 d_SR_fire_68 ?_
    refine lv_iload_n hx hb d_SR_fire_69 rfl (lv_at hl 2 rfl) ?_
    refine lv_aload_n hx hb d_SR_fire_70 rfl (lv_at hl 0 rfl) ?_
    refine va_get (D := (dC, dI)) (ci := 0) (v := .ref (ad 4 0)) (C := R_SR) (T := F_SR) (N := 14) hx hb hts (in_SR _) hown hK hP 0 rfl rfl 3 (by decide) (hts _ (List.mem_cons_of_mem _ mw_235)) (fun _ h9 => h9) rfl d_SR_fire_71 ?_
    refine va_get (D := (dC, dI)) (ci := 4) (v := .ref ((ad 4) 4)) (C := R_SS) (T := F_SS) (N := 12) hx hb hts (in_SS _) hown hK hP 8 rfl rfl 3 (by decide) (hts _ (List.mem_cons_of_mem _ mw_88)) (fun _ h9 => h9) rfl d_SR_fire_74 ?_
    refine lv_iload_n hx hb d_SR_fire_77 rfl (lv_at hl 1 rfl) ?_
    refine va_iald (D := (dC, dI)) hx hb hK hP 12 0 rfl rfl ck_1 d_SR_fire_78 ?_
    refine lv_aload_n hx hb d_SR_fire_79 rfl (lv_at hl 0 rfl) ?_
    refine va_get (D := (dC, dI)) (ci := 0) (v := .ref (ad 7 0)) (C := R_SR) (T := F_SR) (N := 14) hx hb hts (in_SR _) hown hK hP 0 rfl rfl 6 (by decide) (hts _ (List.mem_cons_of_mem _ mw_238)) (fun _ h9 => h9) rfl d_SR_fire_80 ?_
    obtain ⟨fs_2, hc_5, hf⟩ := g_bind hf
    try dsimp only at hf
    refine cx2_callV (As := [.int (SS_keys ss_2 x1.toNatClampNeg), .long (SS_begins ss_2 x1.toNatClampNeg), .long (SS_ends ss_2 x1.toNatClampNeg), .int x2, .int (SS_fires ss_2 x1.toNatClampNeg), .ref (ad 7 0)]) (rest := []) (wSR tC ad sr ++ wRS tC (ad 3) rs ++ wSS tC (ad 4) ss_2 ++ wFS tC (ad 6) fs_2 ++ wCO tC (ad 7) co_2) (wSR tC ad sr ++ wRS tC (ad 3) rs ++ wSS tC (ad 4) ss_2) ⟨hx, hb, hml, hown, hts⟩ (c_FS_add l dC dI tC (ad 6) (ad 7) k (SS_keys ss_2 x1.toNatClampNeg) (SS_begins ss_2 x1.toNatClampNeg) (SS_ends ss_2 x1.toNatClampNeg) x2 (SS_fires ss_2 x1.toNatClampNeg) fs co_2 fs_2 hc_5) (k_SR_303 hts ⟨Nat.le_of_ble_eq_true rfl, Nat.le_of_ble_eq_true rfl⟩) hl.1 hP hD hS hA hK hN [20, 21, 22] [0, 1, 2, 3, 4, 5, 6, 7, 8, 9, 10, 11, 12, 13, 14, 15, 16, 17, 18, 19] 23 20 6 rfl rfl rfl rfl rfl (cx_hw (adFS _ _ _ _) rfl) rfl rfl rfl rfl (by decide) rfl rfl (Nat.le_of_ble_eq_true rfl) d_SR_fire_83 ⟨Nat.zero_le _, Nat.zero_le _⟩ (fun H locs hP hD hS => ?_)
    refine W.eq (g2 := F0 m 86 ls []) rfl ?_
    obtain ⟨hq0, hr1⟩ := Prod.mk.inj (g_some hf)
    obtain ⟨hq1, hr2⟩ := Prod.mk.inj hr1
    subst hq0
    subst hq1
    subst hr2
    exact cx_vret hx hb hr hlocks hP hS d_SR_fire_86
