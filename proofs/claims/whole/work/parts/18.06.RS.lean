def f_RS_init_L65  : Nat → Int32 → RSt → Option (RSt)
  | 0, _, _ => none
  | n + 1, v1, rs_1 =>
    if 300 ≤ v1 then (
      some rs_1
    ) else
    if v1 < 0 ∨ 300 ≤ v1.toNatClampNeg then none else
    gl_let (v1 + 1) fun v1_1 =>
    gl_let ((sRS_order rs_1 (upd (RS_order rs_1) v1.toNatClampNeg v1)) : RSt) fun rs_3 =>
    f_RS_init_L65  n v1_1 rs_3
def f_RS_init (k : Nat) : Option RSt :=
  gl_let (((((fun _ => 0), (fun _ => 0)), ((fun _ => 0), (fun _ => 0))), (((fun _ => 0), (fun _ => 0)), 0)) : RSt) fun rs =>
  (f_RS_init_L65 k 0 rs).bind fun rs_2 =>
  some rs_2
set_option maxHeartbeats 4000000 in
set_option maxRecDepth 100000 in
theorem c_RS_init (l : Launch) (dC : Nat → ClassId) (dI : Nat → Nat → Nat) (tC : Nat → ClassId) (h0 : Nat) (k : Nat) (rsR : RSt) (hf : f_RS_init k = some rsR) : cx_N l y_RS_init w_RS_init { frames := 1, cells := 6, slots := 1800, locals := 12 } (dC, dI) classes (tyS tC) [.ref h0] h0 [(h0, .inr (3, [.null, .null, .null, .null, .null, .null, .int 0]))] (fun a => wRS tC a rsR) 6 1800 := by
  refine cx_ofN (cc := b_RS_init) (maxL := 2) (plainFor_of_name (by decide)) rfl (Nat.le_of_ble_eq_true rfl) ?_
  intro p e s m below meth c hx hb hr hml hown hts hlocks hin A hA H locs ls hK hN hP hD hS hl
  have hown : s.vm.findClass R_RS = some m.cls := hown
  have hin : meth.name = "<init>" := hin
  have hl : lv_has ls 2 [(0, .ref h0)] := hl
  unfold f_RS_init at hf
  refine lv_aload_n hx hb d_RS_init_0 rfl (lv_at hl 0 rfl) ?_
  refine W.objInit hx hb hown (hts _ (List.mem_cons_of_mem _ mw_44)) (hts _ (List.mem_cons_of_mem _ mw_22)) (hts _ (List.mem_cons_of_mem _ mw_23)) rfl (by rw [hml]; exact hl.1) rfl d_RS_init_1 (Nat.le_of_ble_eq_true rfl) (Nat.le_of_ble_eq_true rfl) ?_
  refine W.eq (g2 := F0 m 4 ls []) rfl ?_
  refine lv_aload_n hx hb d_RS_init_4 rfl (lv_at hl 0 rfl) ?_
  refine lv_sipush (v := 300) hx hb d_RS_init_5 (by decide) ?_
  refine cx_newa (atype := .int) (ty := .int) (a0 := (300, .inl (fun _ => 0))) (N' := 300) hx hb (hts _ (List.mem_cons_of_mem _ mw_38)) rfl hK hP hD hS hA (fun _ => rfl) (by decide) (by decide) (by decide) (Nat.le_of_ble_eq_true rfl) (Nat.le_of_ble_eq_true rfl) d_RS_init_8 0 rfl cx_uI (fun q1 H hP hD hS => ?_)
  refine W.widen (k := 1) (n := 300) (Nat.le_of_ble_eq_true rfl) (Nat.le_of_ble_eq_true rfl) ?_
  have hP : va_P (dC, dI) classes [(h0, .inr (3, [.null, .null, .null, .null, .null, .null, .int 0])), (q1, .inl (tC 0, 300, .inl (fun _ => 0)))] H := hP
  have hD : va_D A [(h0, .inr (3, [.null, .null, .null, .null, .null, .null, .int 0])), (q1, .inl (tC 0, 300, .inl (fun _ => 0)))] := hD
  refine va_putF (D := (dC, dI)) (ci := 3) (v := .ref q1) (ty := .array .int) (C := R_RS) (T := F_RS) (N := 7) hx hb hts (in_RS _) t_RS t_RS_ok n_RS hown hK hP hD hS 0 rfl rfl 0 (by decide) (hts _ (List.mem_cons_of_mem _ mw_45)) (fun _ h9 => h9) rfl hin rfl (by decide +kernel) rfl rfl (Nat.le_of_ble_eq_true rfl) d_RS_init_10 (fun H locs hP hD hS => ?_)
  have hP : va_P (dC, dI) classes [(h0, .inr (3, [.ref q1, .null, .null, .null, .null, .null, .int 0])), (q1, .inl (tC 0, 300, .inl (fun _ => 0)))] H := hP
  have hD : va_D A [(h0, .inr (3, [.ref q1, .null, .null, .null, .null, .null, .int 0])), (q1, .inl (tC 0, 300, .inl (fun _ => 0)))] := hD
  refine lv_aload_n hx hb d_RS_init_13 rfl (lv_at hl 0 rfl) ?_
  refine lv_sipush (v := 300) hx hb d_RS_init_14 (by decide) ?_
  refine cx_newa (atype := .long) (ty := .long) (a0 := (300, .inr (.inl (fun _ => 0)))) (N' := 300) hx hb (hts _ (List.mem_cons_of_mem _ mw_37)) rfl hK hP hD hS hA (fun _ => rfl) (by decide) (by decide) (by decide) (Nat.le_of_ble_eq_true rfl) (Nat.le_of_ble_eq_true rfl) d_RS_init_17 1 rfl cx_uL (fun q2 H hP hD hS => ?_)
  refine W.widen (k := 2) (n := 600) (Nat.le_of_ble_eq_true rfl) (Nat.le_of_ble_eq_true rfl) ?_
  have hP : va_P (dC, dI) classes [(h0, .inr (3, [.ref q1, .null, .null, .null, .null, .null, .int 0])), (q1, .inl (tC 0, 300, .inl (fun _ => 0))), (q2, .inl (tC 1, 300, .inr (.inl (fun _ => 0))))] H := hP
  have hD : va_D A [(h0, .inr (3, [.ref q1, .null, .null, .null, .null, .null, .int 0])), (q1, .inl (tC 0, 300, .inl (fun _ => 0))), (q2, .inl (tC 1, 300, .inr (.inl (fun _ => 0))))] := hD
  refine va_putF (D := (dC, dI)) (ci := 3) (v := .ref q2) (ty := .array .long) (C := R_RS) (T := F_RS) (N := 7) hx hb hts (in_RS _) t_RS t_RS_ok n_RS hown hK hP hD hS 0 rfl rfl 1 (by decide) (hts _ (List.mem_cons_of_mem _ mw_47)) (fun _ h9 => h9) rfl hin rfl (by decide +kernel) rfl rfl (Nat.le_of_ble_eq_true rfl) d_RS_init_19 (fun H locs hP hD hS => ?_)
  have hP : va_P (dC, dI) classes [(h0, .inr (3, [.ref q1, .ref q2, .null, .null, .null, .null, .int 0])), (q1, .inl (tC 0, 300, .inl (fun _ => 0))), (q2, .inl (tC 1, 300, .inr (.inl (fun _ => 0))))] H := hP
  have hD : va_D A [(h0, .inr (3, [.ref q1, .ref q2, .null, .null, .null, .null, .int 0])), (q1, .inl (tC 0, 300, .inl (fun _ => 0))), (q2, .inl (tC 1, 300, .inr (.inl (fun _ => 0))))] := hD
  refine lv_aload_n hx hb d_RS_init_22 rfl (lv_at hl 0 rfl) ?_
  refine lv_sipush (v := 300) hx hb d_RS_init_23 (by decide) ?_
  refine cx_newa (atype := .long) (ty := .long) (a0 := (300, .inr (.inl (fun _ => 0)))) (N' := 300) hx hb (hts _ (List.mem_cons_of_mem _ mw_37)) rfl hK hP hD hS hA (fun _ => rfl) (by decide) (by decide) (by decide) (Nat.le_of_ble_eq_true rfl) (Nat.le_of_ble_eq_true rfl) d_RS_init_26 1 rfl cx_uL (fun q3 H hP hD hS => ?_)
  refine W.widen (k := 3) (n := 900) (Nat.le_of_ble_eq_true rfl) (Nat.le_of_ble_eq_true rfl) ?_
  have hP : va_P (dC, dI) classes [(h0, .inr (3, [.ref q1, .ref q2, .null, .null, .null, .null, .int 0])), (q1, .inl (tC 0, 300, .inl (fun _ => 0))), (q2, .inl (tC 1, 300, .inr (.inl (fun _ => 0)))), (q3, .inl (tC 1, 300, .inr (.inl (fun _ => 0))))] H := hP
  have hD : va_D A [(h0, .inr (3, [.ref q1, .ref q2, .null, .null, .null, .null, .int 0])), (q1, .inl (tC 0, 300, .inl (fun _ => 0))), (q2, .inl (tC 1, 300, .inr (.inl (fun _ => 0)))), (q3, .inl (tC 1, 300, .inr (.inl (fun _ => 0))))] := hD
  refine va_putF (D := (dC, dI)) (ci := 3) (v := .ref q3) (ty := .array .long) (C := R_RS) (T := F_RS) (N := 7) hx hb hts (in_RS _) t_RS t_RS_ok n_RS hown hK hP hD hS 0 rfl rfl 2 (by decide) (hts _ (List.mem_cons_of_mem _ mw_49)) (fun _ h9 => h9) rfl hin rfl (by decide +kernel) rfl rfl (Nat.le_of_ble_eq_true rfl) d_RS_init_28 (fun H locs hP hD hS => ?_)
  have hP : va_P (dC, dI) classes [(h0, .inr (3, [.ref q1, .ref q2, .ref q3, .null, .null, .null, .int 0])), (q1, .inl (tC 0, 300, .inl (fun _ => 0))), (q2, .inl (tC 1, 300, .inr (.inl (fun _ => 0)))), (q3, .inl (tC 1, 300, .inr (.inl (fun _ => 0))))] H := hP
  have hD : va_D A [(h0, .inr (3, [.ref q1, .ref q2, .ref q3, .null, .null, .null, .int 0])), (q1, .inl (tC 0, 300, .inl (fun _ => 0))), (q2, .inl (tC 1, 300, .inr (.inl (fun _ => 0)))), (q3, .inl (tC 1, 300, .inr (.inl (fun _ => 0))))] := hD
  refine lv_aload_n hx hb d_RS_init_31 rfl (lv_at hl 0 rfl) ?_
  refine lv_sipush (v := 300) hx hb d_RS_init_32 (by decide) ?_
  refine cx_newa (atype := .int) (ty := .int) (a0 := (300, .inl (fun _ => 0))) (N' := 300) hx hb (hts _ (List.mem_cons_of_mem _ mw_38)) rfl hK hP hD hS hA (fun _ => rfl) (by decide) (by decide) (by decide) (Nat.le_of_ble_eq_true rfl) (Nat.le_of_ble_eq_true rfl) d_RS_init_35 0 rfl cx_uI (fun q4 H hP hD hS => ?_)
  refine W.widen (k := 4) (n := 1200) (Nat.le_of_ble_eq_true rfl) (Nat.le_of_ble_eq_true rfl) ?_
  have hP : va_P (dC, dI) classes [(h0, .inr (3, [.ref q1, .ref q2, .ref q3, .null, .null, .null, .int 0])), (q1, .inl (tC 0, 300, .inl (fun _ => 0))), (q2, .inl (tC 1, 300, .inr (.inl (fun _ => 0)))), (q3, .inl (tC 1, 300, .inr (.inl (fun _ => 0)))), (q4, .inl (tC 0, 300, .inl (fun _ => 0)))] H := hP
  have hD : va_D A [(h0, .inr (3, [.ref q1, .ref q2, .ref q3, .null, .null, .null, .int 0])), (q1, .inl (tC 0, 300, .inl (fun _ => 0))), (q2, .inl (tC 1, 300, .inr (.inl (fun _ => 0)))), (q3, .inl (tC 1, 300, .inr (.inl (fun _ => 0)))), (q4, .inl (tC 0, 300, .inl (fun _ => 0)))] := hD
  refine va_putF (D := (dC, dI)) (ci := 3) (v := .ref q4) (ty := .array .int) (C := R_RS) (T := F_RS) (N := 7) hx hb hts (in_RS _) t_RS t_RS_ok n_RS hown hK hP hD hS 0 rfl rfl 3 (by decide) (hts _ (List.mem_cons_of_mem _ mw_51)) (fun _ h9 => h9) rfl hin rfl (by decide +kernel) rfl rfl (Nat.le_of_ble_eq_true rfl) d_RS_init_37 (fun H locs hP hD hS => ?_)
  have hP : va_P (dC, dI) classes [(h0, .inr (3, [.ref q1, .ref q2, .ref q3, .ref q4, .null, .null, .int 0])), (q1, .inl (tC 0, 300, .inl (fun _ => 0))), (q2, .inl (tC 1, 300, .inr (.inl (fun _ => 0)))), (q3, .inl (tC 1, 300, .inr (.inl (fun _ => 0)))), (q4, .inl (tC 0, 300, .inl (fun _ => 0)))] H := hP
  have hD : va_D A [(h0, .inr (3, [.ref q1, .ref q2, .ref q3, .ref q4, .null, .null, .int 0])), (q1, .inl (tC 0, 300, .inl (fun _ => 0))), (q2, .inl (tC 1, 300, .inr (.inl (fun _ => 0)))), (q3, .inl (tC 1, 300, .inr (.inl (fun _ => 0)))), (q4, .inl (tC 0, 300, .inl (fun _ => 0)))] := hD
  refine lv_aload_n hx hb d_RS_init_40 rfl (lv_at hl 0 rfl) ?_
  refine lv_sipush (v := 300) hx hb d_RS_init_41 (by decide) ?_
  refine cx_newa (atype := .boolean) (ty := .boolean) (a0 := (300, .inl (fun _ => 0))) (N' := 300) hx hb (hts _ (List.mem_cons_of_mem _ mw_74)) rfl hK hP hD hS hA (fun _ => rfl) (by decide) (by decide) (by decide) (Nat.le_of_ble_eq_true rfl) (Nat.le_of_ble_eq_true rfl) d_RS_init_44 2 rfl cx_uZ (fun q5 H hP hD hS => ?_)
  refine W.widen (k := 5) (n := 1500) (Nat.le_of_ble_eq_true rfl) (Nat.le_of_ble_eq_true rfl) ?_
  have hP : va_P (dC, dI) classes [(h0, .inr (3, [.ref q1, .ref q2, .ref q3, .ref q4, .null, .null, .int 0])), (q1, .inl (tC 0, 300, .inl (fun _ => 0))), (q2, .inl (tC 1, 300, .inr (.inl (fun _ => 0)))), (q3, .inl (tC 1, 300, .inr (.inl (fun _ => 0)))), (q4, .inl (tC 0, 300, .inl (fun _ => 0))), (q5, .inl (tC 2, 300, .inl (fun _ => 0)))] H := hP
  have hD : va_D A [(h0, .inr (3, [.ref q1, .ref q2, .ref q3, .ref q4, .null, .null, .int 0])), (q1, .inl (tC 0, 300, .inl (fun _ => 0))), (q2, .inl (tC 1, 300, .inr (.inl (fun _ => 0)))), (q3, .inl (tC 1, 300, .inr (.inl (fun _ => 0)))), (q4, .inl (tC 0, 300, .inl (fun _ => 0))), (q5, .inl (tC 2, 300, .inl (fun _ => 0)))] := hD
  refine va_putF (D := (dC, dI)) (ci := 3) (v := .ref q5) (ty := .array .boolean) (C := R_RS) (T := F_RS) (N := 7) hx hb hts (in_RS _) t_RS t_RS_ok n_RS hown hK hP hD hS 0 rfl rfl 4 (by decide) (hts _ (List.mem_cons_of_mem _ mw_53)) (fun _ h9 => h9) rfl hin rfl (by decide +kernel) rfl rfl (Nat.le_of_ble_eq_true rfl) d_RS_init_46 (fun H locs hP hD hS => ?_)
  have hP : va_P (dC, dI) classes [(h0, .inr (3, [.ref q1, .ref q2, .ref q3, .ref q4, .ref q5, .null, .int 0])), (q1, .inl (tC 0, 300, .inl (fun _ => 0))), (q2, .inl (tC 1, 300, .inr (.inl (fun _ => 0)))), (q3, .inl (tC 1, 300, .inr (.inl (fun _ => 0)))), (q4, .inl (tC 0, 300, .inl (fun _ => 0))), (q5, .inl (tC 2, 300, .inl (fun _ => 0)))] H := hP
  have hD : va_D A [(h0, .inr (3, [.ref q1, .ref q2, .ref q3, .ref q4, .ref q5, .null, .int 0])), (q1, .inl (tC 0, 300, .inl (fun _ => 0))), (q2, .inl (tC 1, 300, .inr (.inl (fun _ => 0)))), (q3, .inl (tC 1, 300, .inr (.inl (fun _ => 0)))), (q4, .inl (tC 0, 300, .inl (fun _ => 0))), (q5, .inl (tC 2, 300, .inl (fun _ => 0)))] := hD
  refine lv_aload_n hx hb d_RS_init_49 rfl (lv_at hl 0 rfl) ?_
  refine lv_sipush (v := 300) hx hb d_RS_init_50 (by decide) ?_
  refine cx_newa (atype := .int) (ty := .int) (a0 := (300, .inl (fun _ => 0))) (N' := 300) hx hb (hts _ (List.mem_cons_of_mem _ mw_38)) rfl hK hP hD hS hA (fun _ => rfl) (by decide) (by decide) (by decide) (Nat.le_of_ble_eq_true rfl) (Nat.le_of_ble_eq_true rfl) d_RS_init_53 0 rfl cx_uI (fun q6 H hP hD hS => ?_)
  refine W.widen (k := 6) (n := 1800) (Nat.le_of_ble_eq_true rfl) (Nat.le_of_ble_eq_true rfl) ?_
  have hP : va_P (dC, dI) classes [(h0, .inr (3, [.ref q1, .ref q2, .ref q3, .ref q4, .ref q5, .null, .int 0])), (q1, .inl (tC 0, 300, .inl (fun _ => 0))), (q2, .inl (tC 1, 300, .inr (.inl (fun _ => 0)))), (q3, .inl (tC 1, 300, .inr (.inl (fun _ => 0)))), (q4, .inl (tC 0, 300, .inl (fun _ => 0))), (q5, .inl (tC 2, 300, .inl (fun _ => 0))), (q6, .inl (tC 0, 300, .inl (fun _ => 0)))] H := hP
  have hD : va_D A [(h0, .inr (3, [.ref q1, .ref q2, .ref q3, .ref q4, .ref q5, .null, .int 0])), (q1, .inl (tC 0, 300, .inl (fun _ => 0))), (q2, .inl (tC 1, 300, .inr (.inl (fun _ => 0)))), (q3, .inl (tC 1, 300, .inr (.inl (fun _ => 0)))), (q4, .inl (tC 0, 300, .inl (fun _ => 0))), (q5, .inl (tC 2, 300, .inl (fun _ => 0))), (q6, .inl (tC 0, 300, .inl (fun _ => 0)))] := hD
  refine va_putF (D := (dC, dI)) (ci := 3) (v := .ref q6) (ty := .array .int) (C := R_RS) (T := F_RS) (N := 7) hx hb hts (in_RS _) t_RS t_RS_ok n_RS hown hK hP hD hS 0 rfl rfl 5 (by decide) (hts _ (List.mem_cons_of_mem _ mw_55)) (fun _ h9 => h9) rfl hin rfl (by decide +kernel) rfl rfl (Nat.le_of_ble_eq_true rfl) d_RS_init_55 (fun H locs hP hD hS => ?_)
  have hP : va_P (dC, dI) classes [(h0, .inr (3, [.ref q1, .ref q2, .ref q3, .ref q4, .ref q5, .ref q6, .int 0])), (q1, .inl (tC 0, 300, .inl (fun _ => 0))), (q2, .inl (tC 1, 300, .inr (.inl (fun _ => 0)))), (q3, .inl (tC 1, 300, .inr (.inl (fun _ => 0)))), (q4, .inl (tC 0, 300, .inl (fun _ => 0))), (q5, .inl (tC 2, 300, .inl (fun _ => 0))), (q6, .inl (tC 0, 300, .inl (fun _ => 0)))] H := hP
  have hD : va_D A [(h0, .inr (3, [.ref q1, .ref q2, .ref q3, .ref q4, .ref q5, .ref q6, .int 0])), (q1, .inl (tC 0, 300, .inl (fun _ => 0))), (q2, .inl (tC 1, 300, .inr (.inl (fun _ => 0)))), (q3, .inl (tC 1, 300, .inr (.inl (fun _ => 0)))), (q4, .inl (tC 0, 300, .inl (fun _ => 0))), (q5, .inl (tC 2, 300, .inl (fun _ => 0))), (q6, .inl (tC 0, 300, .inl (fun _ => 0)))] := hD
  refine lv_aload_n hx hb d_RS_init_58 rfl (lv_at hl 0 rfl) ?_
  refine lv_iconst (v := 0) hx hb d_RS_init_59 (by decide) ?_
  refine va_put (D := (dC, dI)) (ci := 3) (v := .int 0) (ty := .int) (C := R_RS) (T := F_RS) (N := 7) hx hb hts (in_RS _) t_RS t_RS_ok n_RS hown hK hP hD hS 0 rfl rfl 6 (by decide) (hts _ (List.mem_cons_of_mem _ mw_57)) (fun _ h9 => h9) rfl (by decide +kernel) rfl rfl (Nat.le_of_ble_eq_true rfl) d_RS_init_60 (fun H locs hP hD hS => ?_)
  have hP : va_P (dC, dI) classes [(h0, .inr (3, [.ref q1, .ref q2, .ref q3, .ref q4, .ref q5, .ref q6, .int 0])), (q1, .inl (tC 0, 300, .inl (fun _ => 0))), (q2, .inl (tC 1, 300, .inr (.inl (fun _ => 0)))), (q3, .inl (tC 1, 300, .inr (.inl (fun _ => 0)))), (q4, .inl (tC 0, 300, .inl (fun _ => 0))), (q5, .inl (tC 2, 300, .inl (fun _ => 0))), (q6, .inl (tC 0, 300, .inl (fun _ => 0)))] H := hP
  have hD : va_D A [(h0, .inr (3, [.ref q1, .ref q2, .ref q3, .ref q4, .ref q5, .ref q6, .int 0])), (q1, .inl (tC 0, 300, .inl (fun _ => 0))), (q2, .inl (tC 1, 300, .inr (.inl (fun _ => 0)))), (q3, .inl (tC 1, 300, .inr (.inl (fun _ => 0)))), (q4, .inl (tC 0, 300, .inl (fun _ => 0))), (q5, .inl (tC 2, 300, .inl (fun _ => 0))), (q6, .inl (tC 0, 300, .inl (fun _ => 0)))] := hD
  obtain ⟨rs, h_rs⟩ : ∃ z : RSt, z = ((((fun _ => 0), (fun _ => 0)), ((fun _ => 0), (fun _ => 0))), (((fun _ => 0), (fun _ => 0)), 0)) := ⟨_, rfl⟩
  have hf := g_let hf h_rs
  have hP : va_P (dC, dI) classes (wRS tC (cxA [h0, q1, q2, q3, q4, q5, q6]) rs) H := by rw [h_rs]; exact hP
  have hD : va_D A (wRS tC (cxA [h0, q1, q2, q3, q4, q5, q6]) rs) := by rw [h_rs]; exact hD
  refine lv_iconst (v := 0) hx hb d_RS_init_63 (by decide) ?_
  refine lv_istore_n (lv' := [(1, .int 0), (0, .ref h0)]) hx hb d_RS_init_64 rfl hl (by decide) rfl (fun ls hl => ?_)
  have L_65 : ∀ (n : Nat) (v1 : Int32) (rs_1 : RSt) (rs_2 : RSt), f_RS_init_L65 n v1 rs_1 = some rs_2 → ∀ (H : Heap) (locs : List Loc) (ls : Array Slot), va_P (dC, dI) classes (wRS tC (cxA [h0, q1, q2, q3, q4, q5, q6]) rs_1) H → va_D A (wRS tC (cxA [h0, q1, q2, q3, q4, q5, q6]) rs_1) → va_S A s.heap H locs → lv_has ls 2 [(0, .ref h0), (1, .int v1)] → (∀ (H : Heap) (locs : List Loc) (ls : Array Slot), va_P (dC, dI) classes (wRS tC (cxA [h0, q1, q2, q3, q4, q5, q6]) rs_2) H → va_D A (wRS tC (cxA [h0, q1, q2, q3, q4, q5, q6]) rs_2) → va_S A s.heap H locs → lv_has ls 2 [] → W p l e { frames := 1, cells := 6, slots := 1800, locals := 12 } s m [.ref h0].toArray below meth c H locs 6 1800 (cx_ZN (dC, dI) classes below [.ref h0] s h0 (fun a => wRS tC a rsR) 6 1800 A) (F0 m 85 ls [])) → W p l e { frames := 1, cells := 6, slots := 1800, locals := 12 } s m [.ref h0].toArray below meth c H locs 6 1800 (cx_ZN (dC, dI) classes below [.ref h0] s h0 (fun a => wRS tC a rsR) 6 1800 A) (F0 m 65 ls []) := by
    intro n
    induction n with
    | zero =>
      intro v1 rs_1 rs_2 hf
      rw [f_RS_init_L65] at hf
      cases hf
    | succ n ih =>
      intro v1 rs_1 rs_2 hf H locs ls hP hD hS hl kk
      rw [f_RS_init_L65] at hf
      refine lv_iload_n hx hb d_RS_init_65 rfl (lv_at hl 1 rfl) ?_
      refine lv_sipush (v := 300) hx hb d_RS_init_66 (by decide) ?_
      refine lv_icmp_ge (tgt := 85) hx hb d_RS_init_69 (by decide) (fun cb => ?_) (fun cb => ?_)
      · have hf := g_t hf cb
        have hq0 := (g_some hf)
        subst hq0
        exact kk _ _ _ hP hD hS (lv_sub hl [] rfl)
      · have hf := g_f hf cb
        refine lv_aload_n hx hb d_RS_init_72 rfl (lv_at hl 0 rfl) ?_
        refine va_get (D := (dC, dI)) (ci := 3) (v := .ref ((cxA [h0, q1, q2, q3, q4, q5, q6]) 6)) (C := R_RS) (T := F_RS) (N := 7) hx hb hts (in_RS _) hown hK hP 0 rfl rfl 5 (by decide) (hts _ (List.mem_cons_of_mem _ mw_55)) (fun _ h9 => h9) rfl d_RS_init_73 ?_
        refine lv_iload_n hx hb d_RS_init_76 rfl (lv_at hl 1 rfl) ?_
        refine lv_iload_n hx hb d_RS_init_77 rfl (lv_at hl 1 rfl) ?_
        obtain ⟨ck, hf⟩ := g_ck hf
        refine va_iast (D := (dC, dI)) hx hb hK hP hD hS 6 0 rfl rfl ck d_RS_init_78 (fun H locs hP hD hS => ?_)
        have hP : va_P (dC, dI) classes (wRS tC (cxA [h0, q1, q2, q3, q4, q5, q6]) (sRS_order rs_1 (upd (RS_order rs_1) v1.toNatClampNeg v1))) H := hP
        have hD : va_D A (wRS tC (cxA [h0, q1, q2, q3, q4, q5, q6]) (sRS_order rs_1 (upd (RS_order rs_1) v1.toNatClampNeg v1))) := hD
        obtain ⟨v1_1, h_v1_1⟩ : ∃ z : Int32, z = v1 + 1 := ⟨_, rfl⟩
        have hf := g_let hf h_v1_1
        refine lv_iinc (v := v1_1) (lv' := [(1, .int v1_1), (0, .ref h0)]) hx hb d_RS_init_79 hl (k := 1) rfl (by rw [h_v1_1]; rfl) (by decide) rfl (fun ls hl => ?_)
        refine lv_goto (tgt := 65) hx hb d_RS_init_82 (by decide) ?_
        obtain ⟨rs_3, h_rs_3⟩ : ∃ z : RSt, z = (sRS_order rs_1 (upd (RS_order rs_1) v1.toNatClampNeg v1)) := ⟨_, rfl⟩
        have hf := g_let hf h_rs_3
        have hP : va_P (dC, dI) classes (wRS tC (cxA [h0, q1, q2, q3, q4, q5, q6]) rs_3) H := by rw [h_rs_3]; exact hP
        have hD : va_D A (wRS tC (cxA [h0, q1, q2, q3, q4, q5, q6]) rs_3) := by rw [h_rs_3]; exact hD
        exact ih v1_1 rs_3 rs_2 hf H locs ls hP hD hS (lv_sub hl [1, 0] rfl) kk
  obtain ⟨rs_2, hL_65, hf⟩ := g_bind hf
  try dsimp only at hf
  refine L_65 k 0 rs rs_2 hL_65 H locs ls hP hD hS (lv_sub hl [1, 0] rfl) (fun H locs ls hP hD hS hl => ?_)
  have hq0 := (g_some hf)
  subst hq0
  exact cx_vretN (mk := fun a => wRS tC a rs_2) hx hb hr hlocks (cxA [h0, q1, q2, q3, q4, q5, q6]) rfl hP hD hS d_RS_init_85
