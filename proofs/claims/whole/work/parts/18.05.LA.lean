def f_LA_init (x1 : Int32) (x2 : Int32) (x3 : Int32) : LAt :=
  gl_let ((((x1, x2.toInt64), (x3.toInt64, (fun _ => 0))), (((fun _ => 0), 0), (0, 0))) : LAt) fun la =>
  la
set_option maxHeartbeats 4000000 in
set_option maxRecDepth 100000 in
theorem c_LA_init (l : Launch) (dC : Nat → ClassId) (dI : Nat → Nat → Nat) (tC : Nat → ClassId) (h0 : Nat) (x1 : Int32) (x2 : Int32) (x3 : Int32) (laR : LAt) (hf : f_LA_init x1 x2 x3 = laR) : cx_N l y_LA_init w_LA_init { frames := 1, cells := 2, slots := 32, locals := 12 } (dC, dI) classes (tyS tC) [.ref h0, .int x1, .int x2, .int x3] h0 [(h0, .inr (1, [.int 0, .long 0, .long 0, .null, .null, .long 0, .int 0, .int 0]))] (fun a => wLA tC a laR) 2 32 := by
  refine cx_ofN (cc := b_LA_init) (maxL := 4) (plainFor_of_name (by decide)) rfl (Nat.le_of_ble_eq_true rfl) ?_
  intro p e s m below meth c hx hb hr hml hown hts hlocks hin A hA H locs ls hK hN hP hD hS hl
  have hown : s.vm.findClass R_LA = some m.cls := hown
  have hin : meth.name = "<init>" := hin
  have hl : lv_has ls 4 [(0, .ref h0), (1, .int x1), (2, .int x2), (3, .int x3)] := hl
  unfold f_LA_init at hf
  refine lv_aload_n hx hb d_LA_init_0 rfl (lv_at hl 0 rfl) ?_
  refine W.objInit hx hb hown (hts _ (List.mem_cons_of_mem _ mw_198)) (hts _ (List.mem_cons_of_mem _ mw_22)) (hts _ (List.mem_cons_of_mem _ mw_23)) rfl (by rw [hml]; exact hl.1) rfl d_LA_init_1 (Nat.le_of_ble_eq_true rfl) (Nat.le_of_ble_eq_true rfl) ?_
  refine W.eq (g2 := F0 m 4 ls []) rfl ?_
  refine lv_aload_n hx hb d_LA_init_4 rfl (lv_at hl 0 rfl) ?_
  refine lv_bipush (v := 16) hx hb d_LA_init_5 (by decide) ?_
  refine cx_newa (atype := .long) (ty := .long) (a0 := (16, .inr (.inl (fun _ => 0)))) (N' := 16) hx hb (hts _ (List.mem_cons_of_mem _ mw_37)) rfl hK hP hD hS hA (fun _ => rfl) (by decide) (by decide) (by decide) (Nat.le_of_ble_eq_true rfl) (Nat.le_of_ble_eq_true rfl) d_LA_init_7 1 rfl cx_uL (fun q1 H hP hD hS => ?_)
  refine W.widen (k := 1) (n := 16) (Nat.le_of_ble_eq_true rfl) (Nat.le_of_ble_eq_true rfl) ?_
  have hP : va_P (dC, dI) classes [(h0, .inr (1, [.int 0, .long 0, .long 0, .null, .null, .long 0, .int 0, .int 0])), (q1, .inl (tC 1, 16, .inr (.inl (fun _ => 0))))] H := hP
  have hD : va_D A [(h0, .inr (1, [.int 0, .long 0, .long 0, .null, .null, .long 0, .int 0, .int 0])), (q1, .inl (tC 1, 16, .inr (.inl (fun _ => 0))))] := hD
  refine va_putF (D := (dC, dI)) (ci := 1) (v := .ref q1) (ty := .array .long) (C := R_LA) (T := F_LA) (N := 8) hx hb hts (in_LA _) t_LA t_LA_ok n_LA hown hK hP hD hS 0 rfl rfl 3 (by decide) (hts _ (List.mem_cons_of_mem _ mw_205)) (fun _ h9 => h9) rfl hin rfl (by decide +kernel) rfl rfl (Nat.le_of_ble_eq_true rfl) d_LA_init_9 (fun H locs hP hD hS => ?_)
  have hP : va_P (dC, dI) classes [(h0, .inr (1, [.int 0, .long 0, .long 0, .ref q1, .null, .long 0, .int 0, .int 0])), (q1, .inl (tC 1, 16, .inr (.inl (fun _ => 0))))] H := hP
  have hD : va_D A [(h0, .inr (1, [.int 0, .long 0, .long 0, .ref q1, .null, .long 0, .int 0, .int 0])), (q1, .inl (tC 1, 16, .inr (.inl (fun _ => 0))))] := hD
  refine lv_aload_n hx hb d_LA_init_12 rfl (lv_at hl 0 rfl) ?_
  refine lv_bipush (v := 16) hx hb d_LA_init_13 (by decide) ?_
  refine cx_newa (atype := .long) (ty := .long) (a0 := (16, .inr (.inl (fun _ => 0)))) (N' := 16) hx hb (hts _ (List.mem_cons_of_mem _ mw_37)) rfl hK hP hD hS hA (fun _ => rfl) (by decide) (by decide) (by decide) (Nat.le_of_ble_eq_true rfl) (Nat.le_of_ble_eq_true rfl) d_LA_init_15 1 rfl cx_uL (fun q2 H hP hD hS => ?_)
  refine W.widen (k := 2) (n := 32) (Nat.le_of_ble_eq_true rfl) (Nat.le_of_ble_eq_true rfl) ?_
  have hP : va_P (dC, dI) classes [(h0, .inr (1, [.int 0, .long 0, .long 0, .ref q1, .null, .long 0, .int 0, .int 0])), (q1, .inl (tC 1, 16, .inr (.inl (fun _ => 0)))), (q2, .inl (tC 1, 16, .inr (.inl (fun _ => 0))))] H := hP
  have hD : va_D A [(h0, .inr (1, [.int 0, .long 0, .long 0, .ref q1, .null, .long 0, .int 0, .int 0])), (q1, .inl (tC 1, 16, .inr (.inl (fun _ => 0)))), (q2, .inl (tC 1, 16, .inr (.inl (fun _ => 0))))] := hD
  refine va_putF (D := (dC, dI)) (ci := 1) (v := .ref q2) (ty := .array .long) (C := R_LA) (T := F_LA) (N := 8) hx hb hts (in_LA _) t_LA t_LA_ok n_LA hown hK hP hD hS 0 rfl rfl 4 (by decide) (hts _ (List.mem_cons_of_mem _ mw_207)) (fun _ h9 => h9) rfl hin rfl (by decide +kernel) rfl rfl (Nat.le_of_ble_eq_true rfl) d_LA_init_17 (fun H locs hP hD hS => ?_)
  have hP : va_P (dC, dI) classes [(h0, .inr (1, [.int 0, .long 0, .long 0, .ref q1, .ref q2, .long 0, .int 0, .int 0])), (q1, .inl (tC 1, 16, .inr (.inl (fun _ => 0)))), (q2, .inl (tC 1, 16, .inr (.inl (fun _ => 0))))] H := hP
  have hD : va_D A [(h0, .inr (1, [.int 0, .long 0, .long 0, .ref q1, .ref q2, .long 0, .int 0, .int 0])), (q1, .inl (tC 1, 16, .inr (.inl (fun _ => 0)))), (q2, .inl (tC 1, 16, .inr (.inl (fun _ => 0))))] := hD
  refine lv_aload_n hx hb d_LA_init_20 rfl (lv_at hl 0 rfl) ?_
  refine lv_lconst (v := 0) hx hb d_LA_init_21 (by decide) ?_
  refine va_put (D := (dC, dI)) (ci := 1) (v := .long 0) (ty := .long) (C := R_LA) (T := F_LA) (N := 8) hx hb hts (in_LA _) t_LA t_LA_ok n_LA hown hK hP hD hS 0 rfl rfl 5 (by decide) (hts _ (List.mem_cons_of_mem _ mw_209)) (fun _ h9 => h9) rfl (by decide +kernel) rfl rfl (Nat.le_of_ble_eq_true rfl) d_LA_init_22 (fun H locs hP hD hS => ?_)
  have hP : va_P (dC, dI) classes [(h0, .inr (1, [.int 0, .long 0, .long 0, .ref q1, .ref q2, .long 0, .int 0, .int 0])), (q1, .inl (tC 1, 16, .inr (.inl (fun _ => 0)))), (q2, .inl (tC 1, 16, .inr (.inl (fun _ => 0))))] H := hP
  have hD : va_D A [(h0, .inr (1, [.int 0, .long 0, .long 0, .ref q1, .ref q2, .long 0, .int 0, .int 0])), (q1, .inl (tC 1, 16, .inr (.inl (fun _ => 0)))), (q2, .inl (tC 1, 16, .inr (.inl (fun _ => 0))))] := hD
  refine lv_aload_n hx hb d_LA_init_25 rfl (lv_at hl 0 rfl) ?_
  refine lv_iconst (v := 0) hx hb d_LA_init_26 (by decide) ?_
  refine va_put (D := (dC, dI)) (ci := 1) (v := .int 0) (ty := .int) (C := R_LA) (T := F_LA) (N := 8) hx hb hts (in_LA _) t_LA t_LA_ok n_LA hown hK hP hD hS 0 rfl rfl 6 (by decide) (hts _ (List.mem_cons_of_mem _ mw_211)) (fun _ h9 => h9) rfl (by decide +kernel) rfl rfl (Nat.le_of_ble_eq_true rfl) d_LA_init_27 (fun H locs hP hD hS => ?_)
  have hP : va_P (dC, dI) classes [(h0, .inr (1, [.int 0, .long 0, .long 0, .ref q1, .ref q2, .long 0, .int 0, .int 0])), (q1, .inl (tC 1, 16, .inr (.inl (fun _ => 0)))), (q2, .inl (tC 1, 16, .inr (.inl (fun _ => 0))))] H := hP
  have hD : va_D A [(h0, .inr (1, [.int 0, .long 0, .long 0, .ref q1, .ref q2, .long 0, .int 0, .int 0])), (q1, .inl (tC 1, 16, .inr (.inl (fun _ => 0)))), (q2, .inl (tC 1, 16, .inr (.inl (fun _ => 0))))] := hD
  refine lv_aload_n hx hb d_LA_init_30 rfl (lv_at hl 0 rfl) ?_
  refine lv_iconst (v := 0) hx hb d_LA_init_31 (by decide) ?_
  refine va_put (D := (dC, dI)) (ci := 1) (v := .int 0) (ty := .int) (C := R_LA) (T := F_LA) (N := 8) hx hb hts (in_LA _) t_LA t_LA_ok n_LA hown hK hP hD hS 0 rfl rfl 7 (by decide) (hts _ (List.mem_cons_of_mem _ mw_213)) (fun _ h9 => h9) rfl (by decide +kernel) rfl rfl (Nat.le_of_ble_eq_true rfl) d_LA_init_32 (fun H locs hP hD hS => ?_)
  have hP : va_P (dC, dI) classes [(h0, .inr (1, [.int 0, .long 0, .long 0, .ref q1, .ref q2, .long 0, .int 0, .int 0])), (q1, .inl (tC 1, 16, .inr (.inl (fun _ => 0)))), (q2, .inl (tC 1, 16, .inr (.inl (fun _ => 0))))] H := hP
  have hD : va_D A [(h0, .inr (1, [.int 0, .long 0, .long 0, .ref q1, .ref q2, .long 0, .int 0, .int 0])), (q1, .inl (tC 1, 16, .inr (.inl (fun _ => 0)))), (q2, .inl (tC 1, 16, .inr (.inl (fun _ => 0))))] := hD
  refine lv_aload_n hx hb d_LA_init_35 rfl (lv_at hl 0 rfl) ?_
  refine lv_iload_n hx hb d_LA_init_36 rfl (lv_at hl 1 rfl) ?_
  refine va_putF (D := (dC, dI)) (ci := 1) (v := .int x1) (ty := .int) (C := R_LA) (T := F_LA) (N := 8) hx hb hts (in_LA _) t_LA t_LA_ok n_LA hown hK hP hD hS 0 rfl rfl 0 (by decide) (hts _ (List.mem_cons_of_mem _ mw_199)) (fun _ h9 => h9) rfl hin rfl (by decide +kernel) rfl rfl (Nat.le_of_ble_eq_true rfl) d_LA_init_37 (fun H locs hP hD hS => ?_)
  have hP : va_P (dC, dI) classes [(h0, .inr (1, [.int x1, .long 0, .long 0, .ref q1, .ref q2, .long 0, .int 0, .int 0])), (q1, .inl (tC 1, 16, .inr (.inl (fun _ => 0)))), (q2, .inl (tC 1, 16, .inr (.inl (fun _ => 0))))] H := hP
  have hD : va_D A [(h0, .inr (1, [.int x1, .long 0, .long 0, .ref q1, .ref q2, .long 0, .int 0, .int 0])), (q1, .inl (tC 1, 16, .inr (.inl (fun _ => 0)))), (q2, .inl (tC 1, 16, .inr (.inl (fun _ => 0))))] := hD
  refine lv_aload_n hx hb d_LA_init_40 rfl (lv_at hl 0 rfl) ?_
  refine lv_iload_n hx hb d_LA_init_41 rfl (lv_at hl 2 rfl) ?_
  refine lv_i2l hx hb d_LA_init_42 rfl ?_
  refine va_putF (D := (dC, dI)) (ci := 1) (v := .long (x2.toInt64)) (ty := .long) (C := R_LA) (T := F_LA) (N := 8) hx hb hts (in_LA _) t_LA t_LA_ok n_LA hown hK hP hD hS 0 rfl rfl 1 (by decide) (hts _ (List.mem_cons_of_mem _ mw_201)) (fun _ h9 => h9) rfl hin rfl (by decide +kernel) rfl rfl (Nat.le_of_ble_eq_true rfl) d_LA_init_43 (fun H locs hP hD hS => ?_)
  have hP : va_P (dC, dI) classes [(h0, .inr (1, [.int x1, .long (x2.toInt64), .long 0, .ref q1, .ref q2, .long 0, .int 0, .int 0])), (q1, .inl (tC 1, 16, .inr (.inl (fun _ => 0)))), (q2, .inl (tC 1, 16, .inr (.inl (fun _ => 0))))] H := hP
  have hD : va_D A [(h0, .inr (1, [.int x1, .long (x2.toInt64), .long 0, .ref q1, .ref q2, .long 0, .int 0, .int 0])), (q1, .inl (tC 1, 16, .inr (.inl (fun _ => 0)))), (q2, .inl (tC 1, 16, .inr (.inl (fun _ => 0))))] := hD
  refine lv_aload_n hx hb d_LA_init_46 rfl (lv_at hl 0 rfl) ?_
  refine lv_iload_n hx hb d_LA_init_47 rfl (lv_at hl 3 rfl) ?_
  refine lv_i2l hx hb d_LA_init_48 rfl ?_
  refine va_putF (D := (dC, dI)) (ci := 1) (v := .long (x3.toInt64)) (ty := .long) (C := R_LA) (T := F_LA) (N := 8) hx hb hts (in_LA _) t_LA t_LA_ok n_LA hown hK hP hD hS 0 rfl rfl 2 (by decide) (hts _ (List.mem_cons_of_mem _ mw_203)) (fun _ h9 => h9) rfl hin rfl (by decide +kernel) rfl rfl (Nat.le_of_ble_eq_true rfl) d_LA_init_49 (fun H locs hP hD hS => ?_)
  have hP : va_P (dC, dI) classes [(h0, .inr (1, [.int x1, .long (x2.toInt64), .long (x3.toInt64), .ref q1, .ref q2, .long 0, .int 0, .int 0])), (q1, .inl (tC 1, 16, .inr (.inl (fun _ => 0)))), (q2, .inl (tC 1, 16, .inr (.inl (fun _ => 0))))] H := hP
  have hD : va_D A [(h0, .inr (1, [.int x1, .long (x2.toInt64), .long (x3.toInt64), .ref q1, .ref q2, .long 0, .int 0, .int 0])), (q1, .inl (tC 1, 16, .inr (.inl (fun _ => 0)))), (q2, .inl (tC 1, 16, .inr (.inl (fun _ => 0))))] := hD
  obtain ⟨la, h_la⟩ : ∃ z : LAt, z = (((x1, x2.toInt64), (x3.toInt64, (fun _ => 0))), (((fun _ => 0), 0), (0, 0))) := ⟨_, rfl⟩
  have hf := g_let hf h_la
  have hP : va_P (dC, dI) classes (wLA tC (cxA [h0, q1, q2]) la) H := by rw [h_la]; exact hP
  have hD : va_D A (wLA tC (cxA [h0, q1, q2]) la) := by rw [h_la]; exact hD
  have hq0 := hf
  subst hq0
  exact cx_vretN (mk := fun a => wLA tC a la) hx hb hr hlocks (cxA [h0, q1, q2]) rfl hP hD hS d_LA_init_52
