def f_MO_drop (mo : MOt) : Int32 × MOt :=
  (0, (sMO_late (sMO_came mo ((MO_came mo) + 1)) ((MO_late mo) + 1)))
set_option maxHeartbeats 4000000 in
set_option maxRecDepth 100000 in
theorem c_MO_drop (l : Launch) (dC : Nat → ClassId) (dI : Nat → Nat → Nat) (tC : Nat → ClassId) (a : Nat → Nat) (mo : MOt) (res : Int32) (moR : MOt) (hf : f_MO_drop mo = (res, moR)) : cx_M l y_MO_drop w_MO_drop { frames := 0, cells := 0, slots := 0, locals := 0 } (dC, dI) classes (tyS tC) [.ref (a 0)] (wMO tC a mo) (wMO tC a moR) (some (.int res)) := by
  refine cx_of (cc := b_MO_drop) (maxL := 1) (ret := some .int) (plainFor_of_name (by decide)) rfl (Nat.le_of_ble_eq_true rfl) ?_
  intro p e s m below meth c hx hb hr hml hown hts hlocks A hA H locs ls hK hN hP hD hS hl
  have hown : s.vm.findClass R_MO = some m.cls := hown
  have hl : lv_has ls 1 [(0, .ref (a 0))] := hl
  unfold f_MO_drop at hf
  refine lv_aload_n hx hb d_MO_drop_0 rfl (lv_at hl 0 rfl) ?_
  refine lv_dup hx hb d_MO_drop_1 rfl ?_
  refine va_get (D := (dC, dI)) (ci := 8) (v := .int (MO_came mo)) (C := R_MO) (T := F_MO) (N := 42) hx hb hts (in_MO _) hown hK hP 0 rfl rfl 19 (by decide) (hts _ (List.mem_cons_of_mem _ mw_711)) (fun _ h9 => h9) rfl d_MO_drop_2 ?_
  refine lv_iconst (v := 1) hx hb d_MO_drop_5 (by decide) ?_
  refine lv_iadd hx hb d_MO_drop_6 ?_
  refine va_put (D := (dC, dI)) (ci := 8) (v := .int ((MO_came mo) + 1)) (ty := .int) (C := R_MO) (T := F_MO) (N := 42) hx hb hts (in_MO _) t_MO t_MO_ok n_MO hown hK hP hD hS 0 rfl rfl 19 (by decide) (hts _ (List.mem_cons_of_mem _ mw_711)) (fun _ h9 => h9) rfl (by decide +kernel) rfl rfl (Nat.le_of_ble_eq_true rfl) d_MO_drop_7 (fun H locs hP hD hS => ?_)
  have hP : va_P (dC, dI) classes (wMO tC a (sMO_came mo ((MO_came mo) + 1))) H := hP
  have hD : va_D A (wMO tC a (sMO_came mo ((MO_came mo) + 1))) := hD
  refine lv_aload_n hx hb d_MO_drop_10 rfl (lv_at hl 0 rfl) ?_
  refine lv_dup hx hb d_MO_drop_11 rfl ?_
  refine va_get (D := (dC, dI)) (ci := 8) (v := .int (MO_late mo)) (C := R_MO) (T := F_MO) (N := 42) hx hb hts (in_MO _) hown hK hP 0 rfl rfl 20 (by decide) (hts _ (List.mem_cons_of_mem _ mw_712)) (fun _ h9 => h9) rfl d_MO_drop_12 ?_
  refine lv_iconst (v := 1) hx hb d_MO_drop_15 (by decide) ?_
  refine lv_iadd hx hb d_MO_drop_16 ?_
  refine va_put (D := (dC, dI)) (ci := 8) (v := .int ((MO_late mo) + 1)) (ty := .int) (C := R_MO) (T := F_MO) (N := 42) hx hb hts (in_MO _) t_MO t_MO_ok n_MO hown hK hP hD hS 0 rfl rfl 20 (by decide) (hts _ (List.mem_cons_of_mem _ mw_712)) (fun _ h9 => h9) rfl (by decide +kernel) rfl rfl (Nat.le_of_ble_eq_true rfl) d_MO_drop_17 (fun H locs hP hD hS => ?_)
  have hP : va_P (dC, dI) classes (wMO tC a (sMO_late (sMO_came mo ((MO_came mo) + 1)) ((MO_late mo) + 1))) H := hP
  have hD : va_D A (wMO tC a (sMO_late (sMO_came mo ((MO_came mo) + 1)) ((MO_late mo) + 1))) := hD
  refine lv_iconst (v := 0) hx hb d_MO_drop_20 (by decide) ?_
  obtain ⟨hq0, hr1⟩ := Prod.mk.inj hf
  subst hq0
  subst hr1
  exact cx_iret hx hb hr hlocks hP hS d_MO_drop_21
