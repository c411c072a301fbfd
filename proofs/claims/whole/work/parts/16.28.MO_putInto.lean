def f_MO_putInto (k : Nat) (x1 : Int32) (x2 : Int32) (mo : MOt) : Option MOt :=
  if ((300 * x1) + x2) < 0 ∨ 60000 ≤ ((300 * x1) + x2).toNatClampNeg then none else
  if x1 < 0 ∨ 200 ≤ x1.toNatClampNeg then none else
  if (MO_sEnd mo x1.toNatClampNeg) ≤ (MO_now mo) then (
    if (MO_fires mo) = 0 then (
      some (sMO_has (sMO_sPut mo (upd (MO_sPut mo) x1.toNatClampNeg ((MO_sPut mo x1.toNatClampNeg) + 1))) (upd (MO_has mo) ((300 * x1) + x2).toNatClampNeg 1))
    ) else
    gl_let ((sMO_has (sMO_sPut mo (upd (MO_sPut mo) x1.toNatClampNeg ((MO_sPut mo x1.toNatClampNeg) + 1))) (upd (MO_has mo) ((300 * x1) + x2).toNatClampNeg 1)) : MOt) fun mo_1 =>
    (f_MO_fire k x1 2 mo_1).bind fun mo_2 =>
    some mo_2
  ) else
  if (MO_every mo) ≤ 0 then (
    some (sMO_has (sMO_sPut mo (upd (MO_sPut mo) x1.toNatClampNeg ((MO_sPut mo x1.toNatClampNeg) + 1))) (upd (MO_has mo) ((300 * x1) + x2).toNatClampNeg 1))
  ) else
  if ((upd (MO_sPut mo) x1.toNatClampNeg ((MO_sPut mo x1.toNatClampNeg) + 1)) x1.toNatClampNeg) < (MO_every mo) then (
    some (sMO_has (sMO_sPut mo (upd (MO_sPut mo) x1.toNatClampNeg ((MO_sPut mo x1.toNatClampNeg) + 1))) (upd (MO_has mo) ((300 * x1) + x2).toNatClampNeg 1))
  ) else
  gl_let ((sMO_has (sMO_sPut mo (upd (MO_sPut mo) x1.toNatClampNeg ((MO_sPut mo x1.toNatClampNeg) + 1))) (upd (MO_has mo) ((300 * x1) + x2).toNatClampNeg 1)) : MOt) fun mo_3 =>
  (f_MO_fire k x1 0 mo_3).bind fun mo_4 =>
  some mo_4
set_option maxHeartbeats 4000000 in
set_option maxRecDepth 100000 in
theorem c_MO_putInto (l : Launch) (dC : Nat → ClassId) (dI : Nat → Nat → Nat) (tC : Nat → ClassId) (a : Nat → Nat) (k : Nat) (x1 : Int32) (x2 : Int32) (mo : MOt) (moR : MOt) (hf : f_MO_putInto k x1 x2 mo = some moR) : cx_M l y_MO_putInto w_MO_putInto { frames := 3, cells := 0, slots := 0, locals := 69 } (dC, dI) classes (tyS tC) [.ref (a 0), .int x1, .int x2] (wMO tC a mo) (wMO tC a moR) (none) := by
  refine cx_of (cc := b_MO_putInto) (maxL := 3) (ret := none) (plainFor_of_name (by decide)) rfl (Nat.le_of_ble_eq_true rfl) ?_
  intro p e s m below meth c hx hb hr hml hown hts hlocks A hA H locs ls hK hN hP hD hS hl
  have hown : s.vm.findClass R_MO = some m.cls := hown
  have hl : lv_has ls 3 [(0, .ref (a 0)), (1, .int x1), (2, .int x2)] := hl
  unfold f_MO_putInto at hf
  refine lv_aload_n hx hb d_MO_putInto_0 rfl (lv_at hl 0 rfl) ?_
  refine va_get (D := (dC, dI)) (ci := 8) (v := .ref (a 14)) (C := R_MO) (T := F_MO) (N := 42) hx hb hts (in_MO _) hown hK hP 0 rfl rfl 27 (by decide) (hts _ (List.mem_cons_of_mem _ mw_719)) (fun _ h9 => h9) rfl d_MO_putInto_1 ?_
  refine lv_sipush (v := 300) hx hb d_MO_putInto_4 (by decide) ?_
  refine lv_iload_n hx hb d_MO_putInto_7 rfl (lv_at hl 1 rfl) ?_
  refine lv_imul hx hb d_MO_putInto_8 ?_
  refine lv_iload_n hx hb d_MO_putInto_9 rfl (lv_at hl 2 rfl) ?_
  refine lv_iadd hx hb d_MO_putInto_10 ?_
  refine lv_iconst (v := 1) hx hb d_MO_putInto_11 (by decide) ?_
  obtain ⟨ck, hf⟩ := g_ck hf
  refine va_zast (D := (dC, dI)) hx hb hK hP hD hS 14 2 rfl rfl ck d_MO_putInto_12 (fun H locs hP hD hS => ?_)
  have hP : va_P (dC, dI) classes (wMO tC a (sMO_has mo (upd (MO_has mo) ((300 * x1) + x2).toNatClampNeg 1))) H := hP
  have hD : va_D A (wMO tC a (sMO_has mo (upd (MO_has mo) ((300 * x1) + x2).toNatClampNeg 1))) := hD
  refine lv_aload_n hx hb d_MO_putInto_13 rfl (lv_at hl 0 rfl) ?_
  refine va_get (D := (dC, dI)) (ci := 8) (v := .ref (a 12)) (C := R_MO) (T := F_MO) (N := 42) hx hb hts (in_MO _) hown hK hP 0 rfl rfl 25 (by decide) (hts _ (List.mem_cons_of_mem _ mw_717)) (fun _ h9 => h9) rfl d_MO_putInto_14 ?_
  refine lv_iload_n hx hb d_MO_putInto_17 rfl (lv_at hl 1 rfl) ?_
  refine lv_dup2_11 hx hb d_MO_putInto_18 rfl rfl ?_
  obtain ⟨ck_1, hf⟩ := g_ck hf
  refine va_iald (D := (dC, dI)) hx hb hK hP 12 0 rfl rfl ck_1 d_MO_putInto_19 ?_
  refine lv_iconst (v := 1) hx hb d_MO_putInto_20 (by decide) ?_
  refine lv_iadd hx hb d_MO_putInto_21 ?_
  refine va_iast (D := (dC, dI)) hx hb hK hP hD hS 12 0 rfl rfl ck_1 d_MO_putInto_22 (fun H locs hP hD hS => ?_)
  have hP : va_P (dC, dI) classes (wMO tC a (sMO_has (sMO_sPut mo (upd (MO_sPut mo) x1.toNatClampNeg ((MO_sPut mo x1.toNatClampNeg) + 1))) (upd (MO_has mo) ((300 * x1) + x2).toNatClampNeg 1))) H := hP
  have hD : va_D A (wMO tC a (sMO_has (sMO_sPut mo (upd (MO_sPut mo) x1.toNatClampNeg ((MO_sPut mo x1.toNatClampNeg) + 1))) (upd (MO_has mo) ((300 * x1) + x2).toNatClampNeg 1))) := hD
  refine lv_aload_n hx hb d_MO_putInto_23 rfl (lv_at hl 0 rfl) ?_
  refine va_get (D := (dC, dI)) (ci := 8) (v := .ref (a 10)) (C := R_MO) (T := F_MO) (N := 42) hx hb hts (in_MO _) hown hK hP 0 rfl rfl 23 (by decide) (hts _ (List.mem_cons_of_mem _ mw_715)) (fun _ h9 => h9) rfl d_MO_putInto_24 ?_
  refine lv_iload_n hx hb d_MO_putInto_27 rfl (lv_at hl 1 rfl) ?_
  refine va_lald (D := (dC, dI)) hx hb hK hP 10 1 rfl rfl ck_1 d_MO_putInto_28 ?_
  refine lv_aload_n hx hb d_MO_putInto_29 rfl (lv_at hl 0 rfl) ?_
  refine va_get (D := (dC, dI)) (ci := 8) (v := .long (MO_now mo)) (C := R_MO) (T := F_MO) (N := 42) hx hb hts (in_MO _) hown hK hP 0 rfl rfl 11 (by decide) (hts _ (List.mem_cons_of_mem _ mw_703)) (fun _ h9 => h9) rfl d_MO_putInto_30 ?_
  refine cq_le (tgt := 66) hx hb d_MO_putInto_33 d_MO_putInto_34 (by decide) (fun cb => ?_) (fun cb => ?_)
  · have hf := g_t hf cb
    refine lv_aload_n hx hb d_MO_putInto_66 rfl (lv_at hl 0 rfl) ?_
    refine va_get (D := (dC, dI)) (ci := 8) (v := .int (MO_fires mo)) (C := R_MO) (T := F_MO) (N := 42) hx hb hts (in_MO _) hown hK hP 0 rfl rfl 6 (by decide) (hts _ (List.mem_cons_of_mem _ mw_698)) (fun _ h9 => h9) rfl d_MO_putInto_67 ?_
    refine lv_if_eq (tgt := 79) hx hb d_MO_putInto_70 (by decide) (fun cb_1 => ?_) (fun cb_1 => ?_)
    · have hf := g_t hf cb_1
      have hq0 := (g_some hf)
      subst hq0
      exact cx_vret hx hb hr hlocks hP hS d_MO_putInto_79
    · have hf := g_f hf cb_1
      refine lv_aload_n hx hb d_MO_putInto_73 rfl (lv_at hl 0 rfl) ?_
      refine lv_iload_n hx hb d_MO_putInto_74 rfl (lv_at hl 1 rfl) ?_
      refine lv_iconst (v := 2) hx hb d_MO_putInto_75 (by decide) ?_
      obtain ⟨mo_1, h_mo_1⟩ : ∃ z : MOt, z = (sMO_has (sMO_sPut mo (upd (MO_sPut mo) x1.toNatClampNeg ((MO_sPut mo x1.toNatClampNeg) + 1))) (upd (MO_has mo) ((300 * x1) + x2).toNatClampNeg 1)) := ⟨_, rfl⟩
      have hf := g_let hf h_mo_1
      have hP : va_P (dC, dI) classes (wMO tC a mo_1) H := by rw [h_mo_1]; exact hP
      have hD : va_D A (wMO tC a mo_1) := by rw [h_mo_1]; exact hD
      obtain ⟨mo_2, hc, hf⟩ := g_bind hf
      try dsimp only at hf
      refine cx3_callV (As := [.int x1, .int 2]) (rest := []) (wMO tC a mo_2) ⟨hx, hb, hml, hown, hts⟩ (c_MO_fire l dC dI tC a k x1 2 mo_1 mo_2 hc) (k_MO_231 hts ⟨Nat.le_of_ble_eq_true rfl, Nat.le_of_ble_eq_true rfl⟩) hl.1 hP hD hS hA hK hN 0 8 rfl rfl rfl (adMO _ _ _ _) rfl rfl (Nat.le_of_ble_eq_true rfl) d_MO_putInto_76 ⟨Nat.zero_le _, Nat.zero_le _⟩ (fun H locs hP hD hS => ?_)
      refine W.eq (g2 := F0 m 79 ls []) rfl ?_
      have hq0 := (g_some hf)
      subst hq0
      exact cx_vret hx hb hr hlocks hP hS d_MO_putInto_79
  · have hf := g_f hf cb
    refine lv_aload_n hx hb d_MO_putInto_37 rfl (lv_at hl 0 rfl) ?_
    refine va_get (D := (dC, dI)) (ci := 8) (v := .int (MO_every mo)) (C := R_MO) (T := F_MO) (N := 42) hx hb hts (in_MO _) hown hK hP 0 rfl rfl 5 (by decide) (hts _ (List.mem_cons_of_mem _ mw_697)) (fun _ h9 => h9) rfl d_MO_putInto_38 ?_
    refine lv_if_le (tgt := 79) hx hb d_MO_putInto_41 (by decide) (fun cb_2 => ?_) (fun cb_2 => ?_)
    · have hf := g_t hf cb_2
      have hq0 := (g_some hf)
      subst hq0
      exact cx_vret hx hb hr hlocks hP hS d_MO_putInto_79
    · have hf := g_f hf cb_2
      refine lv_aload_n hx hb d_MO_putInto_44 rfl (lv_at hl 0 rfl) ?_
      refine va_get (D := (dC, dI)) (ci := 8) (v := .ref (a 12)) (C := R_MO) (T := F_MO) (N := 42) hx hb hts (in_MO _) hown hK hP 0 rfl rfl 25 (by decide) (hts _ (List.mem_cons_of_mem _ mw_717)) (fun _ h9 => h9) rfl d_MO_putInto_45 ?_
      refine lv_iload_n hx hb d_MO_putInto_48 rfl (lv_at hl 1 rfl) ?_
      refine va_iald (D := (dC, dI)) hx hb hK hP 12 0 rfl rfl ck_1 d_MO_putInto_49 ?_
      refine lv_aload_n hx hb d_MO_putInto_50 rfl (lv_at hl 0 rfl) ?_
      refine va_get (D := (dC, dI)) (ci := 8) (v := .int (MO_every mo)) (C := R_MO) (T := F_MO) (N := 42) hx hb hts (in_MO _) hown hK hP 0 rfl rfl 5 (by decide) (hts _ (List.mem_cons_of_mem _ mw_697)) (fun _ h9 => h9) rfl d_MO_putInto_51 ?_
      refine lv_icmp_lt (tgt := 79) hx hb d_MO_putInto_54 (by decide) (fun cb_3 => ?_) (fun cb_3 => ?_)
      · have hf := g_t hf cb_3
        have hq0 := (g_some hf)
        subst hq0
        exact cx_vret hx hb hr hlocks hP hS d_MO_putInto_79
      · have hf := g_f hf cb_3
        refine lv_aload_n hx hb d_MO_putInto_57 rfl (lv_at hl 0 rfl) ?_
        refine lv_iload_n hx hb d_MO_putInto_58 rfl (lv_at hl 1 rfl) ?_
        refine lv_iconst (v := 0) hx hb d_MO_putInto_59 (by decide) ?_
        obtain ⟨mo_3, h_mo_3⟩ : ∃ z : MOt, z = (sMO_has (sMO_sPut mo (upd (MO_sPut mo) x1.toNatClampNeg ((MO_sPut mo x1.toNatClampNeg) + 1))) (upd (MO_has mo) ((300 * x1) + x2).toNatClampNeg 1)) := ⟨_, rfl⟩
        have hf := g_let hf h_mo_3
        have hP : va_P (dC, dI) classes (wMO tC a mo_3) H := by rw [h_mo_3]; exact hP
        have hD : va_D A (wMO tC a mo_3) := by rw [h_mo_3]; exact hD
        obtain ⟨mo_4, hc_1, hf⟩ := g_bind hf
        try dsimp only at hf
        refine cx3_callV (As := [.int x1, .int 0]) (rest := []) (wMO tC a mo_4) ⟨hx, hb, hml, hown, hts⟩ (c_MO_fire l dC dI tC a k x1 0 mo_3 mo_4 hc_1) (k_MO_231 hts ⟨Nat.le_of_ble_eq_true rfl, Nat.le_of_ble_eq_true rfl⟩) hl.1 hP hD hS hA hK hN 0 8 rfl rfl rfl (adMO _ _ _ _) rfl rfl (Nat.le_of_ble_eq_true rfl) d_MO_putInto_60 ⟨Nat.zero_le _, Nat.zero_le _⟩ (fun H locs hP hD hS => ?_)
        refine W.eq (g2 := F0 m 63 ls []) rfl ?_
        refine lv_goto (tgt := 79) hx hb d_MO_putInto_63 (by decide) ?_
        have hq0 := (g_some hf)
        subst hq0
        exact cx_vret hx hb hr hlocks hP hS d_MO_putInto_79
