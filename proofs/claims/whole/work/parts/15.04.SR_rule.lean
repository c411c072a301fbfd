def f_SR_rule (x1 : Int32) (sr : SRt) (la : LAt) : Int32 × LAt :=
  if (f_SR_isWithin (x1.toInt64) 0 2) = 0 then (
    ((-2), la)
  ) else
  if (LA_kind la) = 5 then (
    gl_let ((LA_ownRule la)) fun v2 =>
    (v2, (sLA_ownRule la x1))
  ) else
  ((-3), la)
set_option maxHeartbeats 4000000 in
set_option maxRecDepth 100000 in
theorem c_SR_rule (l : Launch) (dC : Nat → ClassId) (dI : Nat → Nat → Nat) (tC : Nat → ClassId) (ad : Nat → Nat → Nat) (x1 : Int32) (sr : SRt) (la : LAt) (res : Int32) (laR : LAt) (hf : f_SR_rule x1 sr la = (res, laR)) : cx_M l y_SR_rule w_SR_rule { frames := 1, cells := 0, slots := 0, locals := 25 } (dC, dI) classes (tyS tC) [.ref (ad 0 0), .int x1] (wSR tC ad sr ++ wLA tC (ad 1) la) (wSR tC ad sr ++ wLA tC (ad 1) laR) (some (.int res)) := by
  refine cx_of (cc := b_SR_rule) (maxL := 3) (ret := some .int) (plainFor_of_name (by decide)) rfl (Nat.le_of_ble_eq_true rfl) ?_
  intro p e s m below meth c hx hb hr hml hown hts hlocks A hA H locs ls hK hN hP hD hS hl
  have hown : s.vm.findClass R_SR = some m.cls := hown
  have hl : lv_has ls 3 [(0, .ref (ad 0 0)), (1, .int x1)] := hl
  unfold f_SR_rule at hf
  refine lv_iload_n hx hb d_SR_rule_0 rfl (lv_at hl 1 rfl) ?_
  refine lv_i2l hx hb d_SR_rule_1 rfl ?_
  refine lv_lconst (v := 0) hx hb d_SR_rule_2 (by decide) ?_
  refine lv_ldc2 (v := 2) hx hb hown (hts _ (List.mem_cons_of_mem _ mw_301)) d_SR_rule_3 ?_
  refine cx_callS (As := [.long (x1.toInt64), .long 0, .long 2]) (rest := []) ⟨hx, hb, hml, hown, hts⟩ (c_SR_isWithin l dC dI tC  (x1.toInt64) 0 2 (f_SR_isWithin (x1.toInt64) 0 2) rfl) (k_SR_95 hts ⟨Nat.le_of_ble_eq_true rfl, Nat.le_of_ble_eq_true rfl⟩) hl.1 hP hD hS hA hK hN [] rfl rfl rfl rfl rfl (Nat.le_of_ble_eq_true rfl) d_SR_rule_6 ⟨Nat.zero_le _, Nat.zero_le _⟩ (fun H locs hP hD hS => ?_)
  have hP : va_P (dC, dI) classes (wSR tC ad sr ++ wLA tC (ad 1) la) H := hP
  have hD : va_D A (wSR tC ad sr ++ wLA tC (ad 1) la) := hD
  refine W.eq (g2 := F0 m 9 ls [.int (f_SR_isWithin (x1.toInt64) 0 2)]) rfl ?_
  refine lv_if_ne (tgt := 15) hx hb d_SR_rule_9 (by decide) (fun cb => ?_) (fun cb => ?_)
  · have hf := g_f hf cb
    refine lv_aload_n hx hb d_SR_rule_15 rfl (lv_at hl 0 rfl) ?_
    refine va_get (D := (dC, dI)) (ci := 0) (v := .ref (ad 1 0)) (C := R_SR) (T := F_SR) (N := 14) hx hb hts (in_SR _) hown hK hP 0 rfl rfl 0 (by decide) (hts _ (List.mem_cons_of_mem _ mw_232)) (fun _ h9 => h9) rfl d_SR_rule_16 ?_
    refine va_get (D := (dC, dI)) (ci := 1) (v := .int (LA_kind la)) (C := R_LA) (T := F_LA) (N := 8) hx hb hts (in_LA _) hown hK hP 1 rfl rfl 0 (by decide) (hts _ (List.mem_cons_of_mem _ mw_200)) (fun _ h9 => h9) rfl d_SR_rule_19 ?_
    refine lv_iconst (v := 5) hx hb d_SR_rule_22 (by decide) ?_
    refine lv_icmp_eq (tgt := 29) hx hb d_SR_rule_23 (by decide) (fun cb_1 => ?_) (fun cb_1 => ?_)
    · have hf := g_t hf cb_1
      refine lv_aload_n hx hb d_SR_rule_29 rfl (lv_at hl 0 rfl) ?_
      refine va_get (D := (dC, dI)) (ci := 0) (v := .ref (ad 1 0)) (C := R_SR) (T := F_SR) (N := 14) hx hb hts (in_SR _) hown hK hP 0 rfl rfl 0 (by decide) (hts _ (List.mem_cons_of_mem _ mw_232)) (fun _ h9 => h9) rfl d_SR_rule_30 ?_
      refine va_get (D := (dC, dI)) (ci := 1) (v := .int (LA_ownRule la)) (C := R_LA) (T := F_LA) (N := 8) hx hb hts (in_LA _) hown hK hP 1 rfl rfl 6 (by decide) (hts _ (List.mem_cons_of_mem _ mw_212)) (fun _ h9 => h9) rfl d_SR_rule_33 ?_
      refine lv_topi (fun v2 h_v2 => ?_)
      have hf := g_let hf h_v2
      refine lv_istore_n (lv' := [(2, .int v2), (0, .ref (ad 0 0)), (1, .int x1)]) hx hb d_SR_rule_36 rfl hl (by decide) rfl (fun ls hl => ?_)
      refine lv_aload_n hx hb d_SR_rule_37 rfl (lv_at hl 1 rfl) ?_
      refine va_get (D := (dC, dI)) (ci := 0) (v := .ref (ad 1 0)) (C := R_SR) (T := F_SR) (N := 14) hx hb hts (in_SR _) hown hK hP 0 rfl rfl 0 (by decide) (hts _ (List.mem_cons_of_mem _ mw_232)) (fun _ h9 => h9) rfl d_SR_rule_38 ?_
      refine lv_iload_n hx hb d_SR_rule_41 rfl (lv_at hl 2 rfl) ?_
      refine va_put (D := (dC, dI)) (ci := 1) (v := .int x1) (ty := .int) (C := R_LA) (T := F_LA) (N := 8) hx hb hts (in_LA _) t_LA t_LA_ok n_LA hown hK hP hD hS 1 rfl rfl 6 (by decide) (hts _ (List.mem_cons_of_mem _ mw_212)) (fun _ h9 => h9) rfl (by decide +kernel) rfl rfl (Nat.le_of_ble_eq_true rfl) d_SR_rule_42 (fun H locs hP hD hS => ?_)
      have hP : va_P (dC, dI) classes (wSR tC ad sr ++ wLA tC (ad 1) (sLA_ownRule la x1)) H := hP
      have hD : va_D A (wSR tC ad sr ++ wLA tC (ad 1) (sLA_ownRule la x1)) := hD
      refine lv_iload_n hx hb d_SR_rule_45 rfl (lv_at hl 0 rfl) ?_
      obtain ⟨hq0, hr1⟩ := Prod.mk.inj hf
      subst hq0
      subst hr1
      exact cx_iret hx hb hr hlocks hP hS d_SR_rule_46
    · have hf := g_f hf cb_1
      refine lv_bipush (v := (-3)) hx hb d_SR_rule_26 (by decide) ?_
      obtain ⟨hq0, hr1⟩ := Prod.mk.inj hf
      subst hq0
      subst hr1
      exact cx_iret hx hb hr hlocks hP hS d_SR_rule_28
  · have hf := g_t hf cb
    refine lv_bipush (v := (-2)) hx hb d_SR_rule_12 (by decide) ?_
    obtain ⟨hq0, hr1⟩ := Prod.mk.inj hf
    subst hq0
    subst hr1
    exact cx_iret hx hb hr hlocks hP hS d_SR_rule_14
