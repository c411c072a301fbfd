def f_SR_trigger (x1 : Int32) (x2 : Int32) (sr : SRt) (la : LAt) : Option (Int32 × SRt) :=
  if (f_SR_isWithin (x1.toInt64) 0 1000) = 0 then (
    some ((-2), sr)
  ) else
  if (LA_kind la) = 3 then (
    some ((-3), sr)
  ) else
  if ¬ (x2 = 0 ∨ x2 = 1) then none else
  some (1, (sSR_latelyOn (sSR_every sr x1) x2))
set_option maxHeartbeats 4000000 in
set_option maxRecDepth 100000 in
theorem c_SR_trigger (l : Launch) (dC : Nat → ClassId) (dI : Nat → Nat → Nat) (tC : Nat → ClassId) (ad : Nat → Nat → Nat) (x1 : Int32) (x2 : Int32) (sr : SRt) (la : LAt) (res : Int32) (srR : SRt) (hf : f_SR_trigger x1 x2 sr la = some (res, srR)) : cx_M l y_SR_trigger w_SR_trigger { frames := 1, cells := 0, slots := 0, locals := 25 } (dC, dI) classes (tyS tC) [.ref (ad 0 0), .int x1, .int x2] (wSR tC ad sr ++ wLA tC (ad 1) la) (wSR tC ad srR ++ wLA tC (ad 1) la) (some (.int res)) := by
  refine cx_of (cc := b_SR_trigger) (maxL := 3) (ret := some .int) (plainFor_of_name (by decide)) rfl (Nat.le_of_ble_eq_true rfl) ?_
  intro p e s m below meth c hx hb hr hml hown hts hlocks A hA H locs ls hK hN hP hD hS hl
  have hown : s.vm.findClass R_SR = some m.cls := hown
  have hl : lv_has ls 3 [(0, .ref (ad 0 0)), (1, .int x1), (2, .int x2)] := hl
  unfold f_SR_trigger at hf
  refine lv_iload_n hx hb d_SR_trigger_0 rfl (lv_at hl 1 rfl) ?_
  refine lv_i2l hx hb d_SR_trigger_1 rfl ?_
  refine lv_lconst (v := 0) hx hb d_SR_trigger_2 (by decide) ?_
  refine lv_ldc2 (v := 1000) hx hb hown (hts _ (List.mem_cons_of_mem _ mw_292)) d_SR_trigger_3 ?_
  refine cx_callS (As := [.long (x1.toInt64), .long 0, .long 1000]) (rest := []) ⟨hx, hb, hml, hown, hts⟩ (c_SR_isWithin l dC dI tC  (x1.toInt64) 0 1000 (f_SR_isWithin (x1.toInt64) 0 1000) rfl) (k_SR_95 hts ⟨Nat.le_of_ble_eq_true rfl, Nat.le_of_ble_eq_true rfl⟩) hl.1 hP hD hS hA hK hN [] rfl rfl rfl rfl rfl (Nat.le_of_ble_eq_true rfl) d_SR_trigger_6 ⟨Nat.zero_le _, Nat.zero_le _⟩ (fun H locs hP hD hS => ?_)
  have hP : va_P (dC, dI) classes (wSR tC ad sr ++ wLA tC (ad 1) la) H := hP
  have hD : va_D A (wSR tC ad sr ++ wLA tC (ad 1) la) := hD
  refine W.eq (g2 := F0 m 9 ls [.int (f_SR_isWithin (x1.toInt64) 0 1000)]) rfl ?_
  refine lv_if_ne (tgt := 15) hx hb d_SR_trigger_9 (by decide) (fun cb => ?_) (fun cb => ?_)
  · have hf := g_f hf cb
    refine lv_aload_n hx hb d_SR_trigger_15 rfl (lv_at hl 0 rfl) ?_
    refine va_get (D := (dC, dI)) (ci := 0) (v := .ref (ad 1 0)) (C := R_SR) (T := F_SR) (N := 14) hx hb hts (in_SR _) hown hK hP 0 rfl rfl 0 (by decide) (hts _ (List.mem_cons_of_mem _ mw_232)) (fun _ h9 => h9) rfl d_SR_trigger_16 ?_
    refine va_get (D := (dC, dI)) (ci := 1) (v := .int (LA_kind la)) (C := R_LA) (T := F_LA) (N := 8) hx hb hts (in_LA _) hown hK hP 1 rfl rfl 0 (by decide) (hts _ (List.mem_cons_of_mem _ mw_200)) (fun _ h9 => h9) rfl d_SR_trigger_19 ?_
    refine lv_iconst (v := 3) hx hb d_SR_trigger_22 (by decide) ?_
    refine lv_icmp_ne (tgt := 29) hx hb d_SR_trigger_23 (by decide) (fun cb_1 => ?_) (fun cb_1 => ?_)
    · have hf := g_f hf cb_1
      refine lv_aload_n hx hb d_SR_trigger_29 rfl (lv_at hl 0 rfl) ?_
      refine lv_iload_n hx hb d_SR_trigger_30 rfl (lv_at hl 1 rfl) ?_
      refine va_put (D := (dC, dI)) (ci := 0) (v := .int x1) (ty := .int) (C := R_SR) (T := F_SR) (N := 14) hx hb hts (in_SR _) t_SR t_SR_ok n_SR hown hK hP hD hS 0 rfl rfl 9 (by decide) (hts _ (List.mem_cons_of_mem _ mw_241)) (fun _ h9 => h9) rfl (by decide +kernel) rfl rfl (Nat.le_of_ble_eq_true rfl) d_SR_trigger_31 (fun H locs hP hD hS => ?_)
      have hP : va_P (dC, dI) classes (wSR tC ad (sSR_every sr x1) ++ wLA tC (ad 1) la) H := hP
      have hD : va_D A (wSR tC ad (sSR_every sr x1) ++ wLA tC (ad 1) la) := hD
      refine lv_aload_n hx hb d_SR_trigger_34 rfl (lv_at hl 0 rfl) ?_
      refine lv_iload_n hx hb d_SR_trigger_35 rfl (lv_at hl 2 rfl) ?_
      obtain ⟨ck, hf⟩ := g_ck hf
      refine va_put (D := (dC, dI)) (ci := 0) (v := .int x2) (ty := .boolean) (C := R_SR) (T := F_SR) (N := 14) hx hb hts (in_SR _) t_SR t_SR_ok n_SR hown hK hP hD hS 0 rfl rfl 10 (by decide) (hts _ (List.mem_cons_of_mem _ mw_242)) (fun _ h9 => h9) rfl (by decide +kernel) (cx_nz ck) (cx_nzf ck) (Nat.le_of_ble_eq_true rfl) d_SR_trigger_36 (fun H locs hP hD hS => ?_)
      have hP : va_P (dC, dI) classes (wSR tC ad (sSR_latelyOn (sSR_every sr x1) x2) ++ wLA tC (ad 1) la) H := hP
      have hD : va_D A (wSR tC ad (sSR_latelyOn (sSR_every sr x1) x2) ++ wLA tC (ad 1) la) := hD
      refine lv_iconst (v := 1) hx hb d_SR_trigger_39 (by decide) ?_
      obtain ⟨hq0, hr1⟩ := Prod.mk.inj (g_some hf)
      subst hq0
      subst hr1
      exact cx_iret hx hb hr hlocks hP hS d_SR_trigger_40
    · have hf := g_t hf cb_1
      refine lv_bipush (v := (-3)) hx hb d_SR_trigger_26 (by decide) ?_
      obtain ⟨hq0, hr1⟩ := Prod.mk.inj (g_some hf)
      subst hq0
      subst hr1
      exact cx_iret hx hb hr hlocks hP hS d_SR_trigger_28
  · have hf := g_t hf cb
    refine lv_bipush (v := (-2)) hx hb d_SR_trigger_12 (by decide) ?_
    obtain ⟨hq0, hr1⟩ := Prod.mk.inj (g_some hf)
    subst hq0
    subst hr1
    exact cx_iret hx hb hr hlocks hP hS d_SR_trigger_14
