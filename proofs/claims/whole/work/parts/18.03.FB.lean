def f_FB_init  : FBt :=
  gl_let (((fun _ => 0), (fun _ => 0)) : FBt) fun fb =>
  fb
set_option maxHeartbeats 4000000 in
set_option maxRecDepth 100000 in
theorem c_FB_init (l : Launch) (dC : Nat → ClassId) (dI : Nat → Nat → Nat) (tC : Nat → ClassId) (h0 : Nat)  (fbR : FBt) (hf : f_FB_init = fbR) : cx_N l y_FB_init w_FB_init { frames := 1, cells := 2, slots := 27, locals := 12 } (dC, dI) classes (tyS tC) [.ref h0] h0 [(h0, .inr (2, [.null, .null]))] (fun a => wFB tC a fbR) 2 27 := by
  refine cx_ofN (cc := b_FB_init) (maxL := 1) (plainFor_of_name (by decide)) rfl (Nat.le_of_ble_eq_true rfl) ?_
  intro p e s m below meth c hx hb hr hml hown hts hlocks hin A hA H locs ls hK hN hP hD hS hl
  have hown : s.vm.findClass R_FB = some m.cls := hown
  have hin : meth.name = "<init>" := hin
  have hl : lv_has ls 1 [(0, .ref h0)] := hl
  unfold f_FB_init at hf
  refine lv_aload_n hx hb d_FB_init_0 rfl (lv_at hl 0 rfl) ?_
  refine W.objInit hx hb hown (hts _ (List.mem_cons_of_mem _ mw_29)) (hts _ (List.mem_cons_of_mem _ mw_22)) (hts _ (List.mem_cons_of_mem _ mw_23)) rfl (by rw [hml]; exact hl.1) rfl d_FB_init_1 (Nat.le_of_ble_eq_true rfl) (Nat.le_of_ble_eq_true rfl) ?_
  refine W.eq (g2 := F0 m 4 ls []) rfl ?_
  refine lv_aload_n hx hb d_FB_init_4 rfl (lv_at hl 0 rfl) ?_
  refine lv_bipush (v := 24) hx hb d_FB_init_5 (by decide) ?_
  refine cx_newa (atype := .long) (ty := .long) (a0 := (24, .inr (.inl (fun _ => 0)))) (N' := 24) hx hb (hts _ (List.mem_cons_of_mem _ mw_37)) rfl hK hP hD hS hA (fun _ => rfl) (by decide) (by decide) (by decide) (Nat.le_of_ble_eq_true rfl) (Nat.le_of_ble_eq_true rfl) d_FB_init_7 1 rfl cx_uL (fun q1 H hP hD hS => ?_)
  refine W.widen (k := 1) (n := 24) (Nat.le_of_ble_eq_true rfl) (Nat.le_of_ble_eq_true rfl) ?_
  have hP : va_P (dC, dI) classes [(h0, .inr (2, [.null, .null])), (q1, .inl (tC 1, 24, .inr (.inl (fun _ => 0))))] H := hP
  have hD : va_D A [(h0, .inr (2, [.null, .null])), (q1, .inl (tC 1, 24, .inr (.inl (fun _ => 0))))] := hD
  refine va_putF (D := (dC, dI)) (ci := 2) (v := .ref q1) (ty := .array .long) (C := R_FB) (T := F_FB) (N := 2) hx hb hts (in_FB _) t_FB t_FB_ok n_FB hown hK hP hD hS 0 rfl rfl 0 (by decide) (hts _ (List.mem_cons_of_mem _ mw_30)) (fun _ h9 => h9) rfl hin rfl (by decide +kernel) rfl rfl (Nat.le_of_ble_eq_true rfl) d_FB_init_9 (fun H locs hP hD hS => ?_)
  have hP : va_P (dC, dI) classes [(h0, .inr (2, [.ref q1, .null])), (q1, .inl (tC 1, 24, .inr (.inl (fun _ => 0))))] H := hP
  have hD : va_D A [(h0, .inr (2, [.ref q1, .null])), (q1, .inl (tC 1, 24, .inr (.inl (fun _ => 0))))] := hD
  refine lv_aload_n hx hb d_FB_init_12 rfl (lv_at hl 0 rfl) ?_
  refine lv_iconst (v := 3) hx hb d_FB_init_13 (by decide) ?_
  refine cx_newa (atype := .int) (ty := .int) (a0 := (3, .inl (fun _ => 0))) (N' := 3) hx hb (hts _ (List.mem_cons_of_mem _ mw_38)) rfl hK hP hD hS hA (fun _ => rfl) (by decide) (by decide) (by decide) (Nat.le_of_ble_eq_true rfl) (Nat.le_of_ble_eq_true rfl) d_FB_init_14 0 rfl cx_uI (fun q2 H hP hD hS => ?_)
  refine W.widen (k := 2) (n := 27) (Nat.le_of_ble_eq_true rfl) (Nat.le_of_ble_eq_true rfl) ?_
  have hP : va_P (dC, dI) classes [(h0, .inr (2, [.ref q1, .null])), (q1, .inl (tC 1, 24, .inr (.inl (fun _ => 0)))), (q2, .inl (tC 0, 3, .inl (fun _ => 0)))] H := hP
  have hD : va_D A [(h0, .inr (2, [.ref q1, .null])), (q1, .inl (tC 1, 24, .inr (.inl (fun _ => 0)))), (q2, .inl (tC 0, 3, .inl (fun _ => 0)))] := hD
  refine va_putF (D := (dC, dI)) (ci := 2) (v := .ref q2) (ty := .array .int) (C := R_FB) (T := F_FB) (N := 2) hx hb hts (in_FB _) t_FB t_FB_ok n_FB hown hK hP hD hS 0 rfl rfl 1 (by decide) (hts _ (List.mem_cons_of_mem _ mw_31)) (fun _ h9 => h9) rfl hin rfl (by decide +kernel) rfl rfl (Nat.le_of_ble_eq_true rfl) d_FB_init_16 (fun H locs hP hD hS => ?_)
  have hP : va_P (dC, dI) classes [(h0, .inr (2, [.ref q1, .ref q2])), (q1, .inl (tC 1, 24, .inr (.inl (fun _ => 0)))), (q2, .inl (tC 0, 3, .inl (fun _ => 0)))] H := hP
  have hD : va_D A [(h0, .inr (2, [.ref q1, .ref q2])), (q1, .inl (tC 1, 24, .inr (.inl (fun _ => 0)))), (q2, .inl (tC 0, 3, .inl (fun _ => 0)))] := hD
  obtain ⟨fb, h_fb⟩ : ∃ z : FBt, z = ((fun _ => 0), (fun _ => 0)) := ⟨_, rfl⟩
  have hf := g_let hf h_fb
  have hP : va_P (dC, dI) classes (wFB tC (cxA [h0, q1, q2]) fb) H := by rw [h_fb]; exact hP
  have hD : va_D A (wFB tC (cxA [h0, q1, q2]) fb) := by rw [h_fb]; exact hD
  have hq0 := hf
  subst hq0
  exact cx_vretN (mk := fun a => wFB tC a fb) hx hb hr hlocks (cxA [h0, q1, q2]) rfl hP hD hS d_FB_init_19
