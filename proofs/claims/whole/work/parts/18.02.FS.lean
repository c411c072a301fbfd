def f_FS_init  : FSt :=
  gl_let ((((fun _ => 0), 0), (0, 0)) : FSt) fun fs =>
  fs
set_option maxHeartbeats 4000000 in
set_option maxRecDepth 100000 in
theorem c_FS_init (l : Launch) (dC : Nat → ClassId) (dI : Nat → Nat → Nat) (tC : Nat → ClassId) (h0 : Nat)  (fsR : FSt) (hf : f_FS_init = fsR) : cx_N l y_FS_init w_FS_init { frames := 1, cells := 1, slots := 4000, locals := 12 } (dC, dI) classes (tyS tC) [.ref h0] h0 [(h0, .inr (6, [.null, .int 0, .int 0, .int 0]))] (fun a => wFS tC a fsR) 1 4000 := by
  refine cx_ofN (cc := b_FS_init) (maxL := 1) (plainFor_of_name (by decide)) rfl (Nat.le_of_ble_eq_true rfl) ?_
  intro p e s m below meth c hx hb hr hml hown hts hlocks hin A hA H locs ls hK hN hP hD hS hl
  have hown : s.vm.findClass R_FS = some m.cls := hown
  have hin : meth.name = "<init>" := hin
  have hl : lv_has ls 1 [(0, .ref h0)] := hl
  unfold f_FS_init at hf
  refine lv_aload_n hx hb d_FS_init_0 rfl (lv_at hl 0 rfl) ?_
  refine W.objInit hx hb hown (hts _ (List.mem_cons_of_mem _ mw_149)) (hts _ (List.mem_cons_of_mem _ mw_22)) (hts _ (List.mem_cons_of_mem _ mw_23)) rfl (by rw [hml]; exact hl.1) rfl d_FS_init_1 (Nat.le_of_ble_eq_true rfl) (Nat.le_of_ble_eq_true rfl) ?_
  refine W.eq (g2 := F0 m 4 ls []) rfl ?_
  refine lv_aload_n hx hb d_FS_init_4 rfl (lv_at hl 0 rfl) ?_
  refine lv_sipush (v := 4000) hx hb d_FS_init_5 (by decide) ?_
  refine cx_newa (atype := .long) (ty := .long) (a0 := (4000, .inr (.inl (fun _ => 0)))) (N' := 4000) hx hb (hts _ (List.mem_cons_of_mem _ mw_37)) rfl hK hP hD hS hA (fun _ => rfl) (by decide) (by decide) (by decide) (Nat.le_of_ble_eq_true rfl) (Nat.le_of_ble_eq_true rfl) d_FS_init_8 1 rfl cx_uL (fun q1 H hP hD hS => ?_)
  refine W.widen (k := 1) (n := 4000) (Nat.le_of_ble_eq_true rfl) (Nat.le_of_ble_eq_true rfl) ?_
  have hP : va_P (dC, dI) classes [(h0, .inr (6, [.null, .int 0, .int 0, .int 0])), (q1, .inl (tC 1, 4000, .inr (.inl (fun _ => 0))))] H := hP
  have hD : va_D A [(h0, .inr (6, [.null, .int 0, .int 0, .int 0])), (q1, .inl (tC 1, 4000, .inr (.inl (fun _ => 0))))] := hD
  refine va_putF (D := (dC, dI)) (ci := 6) (v := .ref q1) (ty := .array .long) (C := R_FS) (T := F_FS) (N := 4) hx hb hts (in_FS _) t_FS t_FS_ok n_FS hown hK hP hD hS 0 rfl rfl 0 (by decide) (hts _ (List.mem_cons_of_mem _ mw_150)) (fun _ h9 => h9) rfl hin rfl (by decide +kernel) rfl rfl (Nat.le_of_ble_eq_true rfl) d_FS_init_10 (fun H locs hP hD hS => ?_)
  have hP : va_P (dC, dI) classes [(h0, .inr (6, [.ref q1, .int 0, .int 0, .int 0])), (q1, .inl (tC 1, 4000, .inr (.inl (fun _ => 0))))] H := hP
  have hD : va_D A [(h0, .inr (6, [.ref q1, .int 0, .int 0, .int 0])), (q1, .inl (tC 1, 4000, .inr (.inl (fun _ => 0))))] := hD
  refine lv_aload_n hx hb d_FS_init_13 rfl (lv_at hl 0 rfl) ?_
  refine lv_iconst (v := 0) hx hb d_FS_init_14 (by decide) ?_
  refine va_put (D := (dC, dI)) (ci := 6) (v := .int 0) (ty := .int) (C := R_FS) (T := F_FS) (N := 4) hx hb hts (in_FS _) t_FS t_FS_ok n_FS hown hK hP hD hS 0 rfl rfl 1 (by decide) (hts _ (List.mem_cons_of_mem _ mw_151)) (fun _ h9 => h9) rfl (by decide +kernel) rfl rfl (Nat.le_of_ble_eq_true rfl) d_FS_init_15 (fun H locs hP hD hS => ?_)
  have hP : va_P (dC, dI) classes [(h0, .inr (6, [.ref q1, .int 0, .int 0, .int 0])), (q1, .inl (tC 1, 4000, .inr (.inl (fun _ => 0))))] H := hP
  have hD : va_D A [(h0, .inr (6, [.ref q1, .int 0, .int 0, .int 0])), (q1, .inl (tC 1, 4000, .inr (.inl (fun _ => 0))))] := hD
  refine lv_aload_n hx hb d_FS_init_18 rfl (lv_at hl 0 rfl) ?_
  refine lv_iconst (v := 0) hx hb d_FS_init_19 (by decide) ?_
  refine va_put (D := (dC, dI)) (ci := 6) (v := .int 0) (ty := .int) (C := R_FS) (T := F_FS) (N := 4) hx hb hts (in_FS _) t_FS t_FS_ok n_FS hown hK hP hD hS 0 rfl rfl 2 (by decide) (hts _ (List.mem_cons_of_mem _ mw_153)) (fun _ h9 => h9) rfl (by decide +kernel) rfl rfl (Nat.le_of_ble_eq_true rfl) d_FS_init_20 (fun H locs hP hD hS => ?_)
  have hP : va_P (dC, dI) classes [(h0, .inr (6, [.ref q1, .int 0, .int 0, .int 0])), (q1, .inl (tC 1, 4000, .inr (.inl (fun _ => 0))))] H := hP
  have hD : va_D A [(h0, .inr (6, [.ref q1, .int 0, .int 0, .int 0])), (q1, .inl (tC 1, 4000, .inr (.inl (fun _ => 0))))] := hD
  refine lv_aload_n hx hb d_FS_init_23 rfl (lv_at hl 0 rfl) ?_
  refine lv_iconst (v := 0) hx hb d_FS_init_24 (by decide) ?_
  refine va_put (D := (dC, dI)) (ci := 6) (v := .int 0) (ty := .int) (C := R_FS) (T := F_FS) (N := 4) hx hb hts (in_FS _) t_FS t_FS_ok n_FS hown hK hP hD hS 0 rfl rfl 3 (by decide) (hts _ (List.mem_cons_of_mem _ mw_155)) (fun _ h9 => h9) rfl (by decide +kernel) rfl rfl (Nat.le_of_ble_eq_true rfl) d_FS_init_25 (fun H locs hP hD hS => ?_)
  have hP : va_P (dC, dI) classes [(h0, .inr (6, [.ref q1, .int 0, .int 0, .int 0])), (q1, .inl (tC 1, 4000, .inr (.inl (fun _ => 0))))] H := hP
  have hD : va_D A [(h0, .inr (6, [.ref q1, .int 0, .int 0, .int 0])), (q1, .inl (tC 1, 4000, .inr (.inl (fun _ => 0))))] := hD
  obtain ⟨fs, h_fs⟩ : ∃ z : FSt, z = (((fun _ => 0), 0), (0, 0)) := ⟨_, rfl⟩
  have hf := g_let hf h_fs
  have hP : va_P (dC, dI) classes (wFS tC (cxA [h0, q1]) fs) H := by rw [h_fs]; exact hP
  have hD : va_D A (wFS tC (cxA [h0, q1]) fs) := by rw [h_fs]; exact hD
  have hq0 := hf
  subst hq0
  exact cx_vretN (mk := fun a => wFS tC a fs) hx hb hr hlocks (cxA [h0, q1]) rfl hP hD hS d_FS_init_28
