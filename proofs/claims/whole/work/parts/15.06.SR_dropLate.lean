def f_SR_dropLate (sr : SRt) : Int32 × SRt :=
  (0, (sSR_dropped (sSR_came sr ((SR_came sr) + 1)) ((SR_dropped sr) + 1)))
set_option maxHeartbeats 4000000 in
set_option maxRecDepth 100000 in
theorem c_SR_dropLate (l : Launch) (dC : Nat → ClassId) (dI : Nat → Nat → Nat) (tC : Nat → ClassId) (ad : Nat → Nat → Nat) (sr : SRt) (res : Int32) (srR : SRt) (hf : f_SR_dropLate sr = (res, srR)) : cx_M l y_SR_dropLate w_SR_dropLate { frames := 0, cells := 0, slots := 0, locals := 0 } (dC, dI) classes (tyS tC) [.ref (ad 0 0)] (wSR tC ad sr) (wSR tC ad srR) (some (.int res)) := by
  refine cx_of (cc := b_SR_dropLate) (maxL := 1) (ret := some .int) (plainFor_of_name (by decide)) rfl (Nat.le_of_ble_eq_true rfl) ?_
  intro p e s m below meth c hx hb hr hml hown hts hlocks A hA H locs ls hK hN hP hD hS hl
  have hown : s.vm.findClass R_SR = some m.cls := hown
  have hl : lv_has ls 1 [(0, .ref (ad 0 0))] := hl
  unfold f_SR_dropLate at hf
  refine lv_aload_n hx hb d_SR_dropLate_0 rfl (lv_at hl 0 rfl) ?_
  refine lv_dup hx hb d_SR_dropLate_1 rfl ?_
  refine va_get (D := (dC, dI)) (ci := 0) (v := .int (SR_came sr)) (C := R_SR) (T := F_SR) (N := 14) hx hb hts (in_SR _) hown hK hP 0 rfl rfl 12 (by decide) (hts _ (List.mem_cons_of_mem _ mw_244)) (fun _ h9 => h9) rfl d_SR_dropLate_2 ?_
  refine lv_iconst (v := 1) hx hb d_SR_dropLate_5 (by decide) ?_
  refine lv_iadd hx hb d_SR_dropLate_6 ?_
  refine va_put (D := (dC, dI)) (ci := 0) (v := .int ((SR_came sr) + 1)) (ty := .int) (C := R_SR) (T := F_SR) (N := 14) hx hb hts (in_SR _) t_SR t_SR_ok n_SR hown hK hP hD hS 0 rfl rfl 12 (by decide) (hts _ (List.mem_cons_of_mem _ mw_244)) (fun _ h9 => h9) rfl (by decide +kernel) rfl rfl (Nat.le_of_ble_eq_true rfl) d_SR_dropLate_7 (fun H locs hP hD hS => ?_)
  have hP : va_P (dC, dI) classes (wSR tC ad (sSR_came sr ((SR_came sr) + 1))) H := hP
  have hD : va_D A (wSR tC ad (sSR_came sr ((SR_came sr) + 1))) := hD
  refine lv_aload_n hx hb d_SR_dropLate_10 rfl (lv_at hl 0 rfl) ?_
  refine lv_dup hx hb d_SR_dropLate_11 rfl ?_
  refine va_get (D := (dC, dI)) (ci := 0) (v := .int (SR_dropped sr)) (C := R_SR) (T := F_SR) (N := 14) hx hb hts (in_SR _) hown hK hP 0 rfl rfl 13 (by decide) (hts _ (List.mem_cons_of_mem _ mw_245)) (fun _ h9 => h9) rfl d_SR_dropLate_12 ?_
  refine lv_iconst (v := 1) hx hb d_SR_dropLate_15 (by decide) ?_
  refine lv_iadd hx hb d_SR_dropLate_16 ?_
  refine va_put (D := (dC, dI)) (ci := 0) (v := .int ((SR_dropped sr) + 1)) (ty := .int) (C := R_SR) (T := F_SR) (N := 14) hx hb hts (in_SR _) t_SR t_SR_ok n_SR hown hK hP hD hS 0 rfl rfl 13 (by decide) (hts _ (List.mem_cons_of_mem _ mw_245)) (fun _ h9 => h9) rfl (by decide +kernel) rfl rfl (Nat.le_of_ble_eq_true rfl) d_SR_dropLate_17 (fun H locs hP hD hS => ?_)
  have hP : va_P (dC, dI) classes (wSR tC ad (sSR_dropped (sSR_came sr ((SR_came sr) + 1)) ((SR_dropped sr) + 1))) H := hP
  have hD : va_D A (wSR tC ad (sSR_dropped (sSR_came sr ((SR_came sr) + 1)) ((SR_dropped sr) + 1))) := hD
  refine lv_iconst (v := 0) hx hb d_SR_dropLate_20 (by decide) ?_
  obtain ⟨hq0, hr1⟩ := Prod.mk.inj hf
  subst hq0
  subst hr1
  exact cx_iret hx hb hr hlocks hP hS d_SR_dropLate_21
