def f_MO_rule (x1 : Int32) (mo : MOt) : Int32 × MOt :=
  if (f_MO_in (x1.toInt64) 0 2) = 0 then (
    ((-2), (sMO_thrown mo 0))
  ) else
  if (MO_kind mo) = 5 then (
    gl_let ((MO_rule mo)) fun v2 =>
    (v2, (sMO_thrown (sMO_rule mo x1) 0))
  ) else
  ((-3), (sMO_thrown mo 0))
set_option maxHeartbeats 4000000 in
set_option maxRecDepth 100000 in
theorem c_MO_rule (l : Launch) (dC : Nat → ClassId) (dI : Nat → Nat → Nat) (tC : Nat → ClassId) (a : Nat → Nat) (x1 : Int32) (mo : MOt) (res : Int32) (moR : MOt) (hf : f_MO_rule x1 mo = (res, moR)) : cx_M l y_MO_rule w_MO_rule { frames := 1, cells := 0, slots := 0, locals := 25 } (dC, dI) classes (tyS tC) [.ref (a 0), .int x1] (wMO tC a mo) (wMO tC a moR) (some (.int res)) := by
  refine cx_of (cc := b_MO_rule) (maxL := 3) (ret := some .int) (plainFor_of_name (by decide)) rfl (Nat.le_of_ble_eq_true rfl) ?_
  intro p e s m below meth c hx hb hr hml hown hts hlocks A hA H locs ls hK hN hP hD hS hl
  have hown : s.vm.findClass R_MO = some m.cls := hown
  have hl : lv_has ls 3 [(0, .ref (a 0)), (1, .int x1)] := hl
  unfold f_MO_rule at hf
  refine lv_aload_n hx hb d_MO_rule_0 rfl (lv_at hl 0 rfl) ?_
  refine lv_iconst (v := 0) hx hb d_MO_rule_1 (by decide) ?_
  refine va_put (D := (dC, dI)) (ci := 8) (v := .int 0) (ty := .int) (C := R_MO) (T := F_MO) (N := 42) hx hb hts (in_MO _) t_MO t_MO_ok n_MO hown hK hP hD hS 0 rfl rfl 12 (by decide) (hts _ (List.mem_cons_of_mem _ mw_704)) (fun _ h9 => h9) rfl (by decide +kernel) rfl rfl (Nat.le_of_ble_eq_true rfl) d_MO_rule_2 (fun H locs hP hD hS => ?_)
  have hP : va_P (dC, dI) classes (wMO tC a (sMO_thrown mo 0)) H := hP
  have hD : va_D A (wMO tC a (sMO_thrown mo 0)) := hD
  refine lv_iload_n hx hb d_MO_rule_5 rfl (lv_at hl 1 rfl) ?_
  refine lv_i2l hx hb d_MO_rule_6 rfl ?_
  refine lv_lconst (v := 0) hx hb d_MO_rule_7 (by decide) ?_
  refine lv_ldc2 (v := 2) hx hb hown (hts _ (List.mem_cons_of_mem _ mw_849)) d_MO_rule_8 ?_
  refine cx_callS (As := [.long (x1.toInt64), .long 0, .long 2]) (rest := []) ⟨hx, hb, hml, hown, hts⟩ (c_MO_in l dC dI tC  (x1.toInt64) 0 2 (f_MO_in (x1.toInt64) 0 2) rfl) (k_MO_111 hts ⟨Nat.le_of_ble_eq_true rfl, Nat.le_of_ble_eq_true rfl⟩) hl.1 hP hD hS hA hK hN [] rfl rfl rfl rfl rfl (Nat.le_of_ble_eq_true rfl) d_MO_rule_11 ⟨Nat.zero_le _, Nat.zero_le _⟩ (fun H locs hP hD hS => ?_)
  have hP : va_P (dC, dI) classes (wMO tC a (sMO_thrown mo 0)) H := hP
  have hD : va_D A (wMO tC a (sMO_thrown mo 0)) := hD
  refine W.eq (g2 := F0 m 14 ls [.int (f_MO_in (x1.toInt64) 0 2)]) rfl ?_
  refine lv_if_ne (tgt := 20) hx hb d_MO_rule_14 (by decide) (fun cb => ?_) (fun cb => ?_)
  · have hf := g_f hf cb
    refine lv_aload_n hx hb d_MO_rule_20 rfl (lv_at hl 0 rfl) ?_
    refine va_get (D := (dC, dI)) (ci := 8) (v := .int (MO_kind mo)) (C := R_MO) (T := F_MO) (N := 42) hx hb hts (in_MO _) hown hK hP 0 rfl rfl 0 (by decide) (hts _ (List.mem_cons_of_mem _ mw_692)) (fun _ h9 => h9) rfl d_MO_rule_21 ?_
    refine lv_iconst (v := 5) hx hb d_MO_rule_24 (by decide) ?_
    refine lv_icmp_eq (tgt := 31) hx hb d_MO_rule_25 (by decide) (fun cb_1 => ?_) (fun cb_1 => ?_)
    · have hf := g_t hf cb_1
      refine lv_aload_n hx hb d_MO_rule_31 rfl (lv_at hl 0 rfl) ?_
      refine va_get (D := (dC, dI)) (ci := 8) (v := .int (MO_rule mo)) (C := R_MO) (T := F_MO) (N := 42) hx hb hts (in_MO _) hown hK hP 0 rfl rfl 8 (by decide) (hts _ (List.mem_cons_of_mem _ mw_700)) (fun _ h9 => h9) rfl d_MO_rule_32 ?_
      refine lv_topi (fun v2 h_v2 => ?_)
      have hf := g_let hf h_v2
      refine lv_istore_n (lv' := [(2, .int v2), (0, .ref (a 0)), (1, .int x1)]) hx hb d_MO_rule_35 rfl hl (by decide) rfl (fun ls hl => ?_)
      refine lv_aload_n hx hb d_MO_rule_36 rfl (lv_at hl 1 rfl) ?_
      refine lv_iload_n hx hb d_MO_rule_37 rfl (lv_at hl 2 rfl) ?_
      refine va_put (D := (dC, dI)) (ci := 8) (v := .int x1) (ty := .int) (C := R_MO) (T := F_MO) (N := 42) hx hb hts (in_MO _) t_MO t_MO_ok n_MO hown hK hP hD hS 0 rfl rfl 8 (by decide) (hts _ (List.mem_cons_of_mem _ mw_700)) (fun _ h9 => h9) rfl (by decide +kernel) rfl rfl (Nat.le_of_ble_eq_true rfl) d_MO_rule_38 (fun H locs hP hD hS => ?_)
      have hP : va_P (dC, dI) classes (wMO tC a (sMO_thrown (sMO_rule mo x1) 0)) H := hP
      have hD : va_D A (wMO tC a (sMO_thrown (sMO_rule mo x1) 0)) := hD
      refine lv_iload_n hx hb d_MO_rule_41 rfl (lv_at hl 0 rfl) ?_
      obtain ⟨hq0, hr1⟩ := Prod.mk.inj hf
      subst hq0
      subst hr1
      exact cx_iret hx hb hr hlocks hP hS d_MO_rule_42
    · have hf := g_f hf cb_1
      refine lv_bipush (v := (-3)) hx hb d_MO_rule_28 (by decide) ?_
      obtain ⟨hq0, hr1⟩ := Prod.mk.inj hf
      subst hq0
      subst hr1
      exact cx_iret hx hb hr hlocks hP hS d_MO_rule_30
  · have hf := g_t hf cb
    refine lv_bipush (v := (-2)) hx hb d_MO_rule_17 (by decide) ?_
    obtain ⟨hq0, hr1⟩ := Prod.mk.inj hf
    subst hq0
    subst hr1
    exact cx_iret hx hb hr hlocks hP hS d_MO_rule_19
