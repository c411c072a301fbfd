def f_MO_lateness (x1 : Int64) (mo : MOt) : Int32 × MOt :=
  if (f_MO_in x1 0 1000000000) = 0 then (
    ((-2), (sMO_thrown mo 0))
  ) else
  if 0 < (MO_came mo) then (
    ((-3), (sMO_thrown mo 0))
  ) else
  if (MO_kind mo) = 3 then (
    ((-3), (sMO_thrown mo 0))
  ) else
  (1, (sMO_thrown (sMO_lateness mo x1) 0))
set_option maxHeartbeats 4000000 in
set_option maxRecDepth 100000 in
theorem c_MO_lateness (l : Launch) (dC : Nat → ClassId) (dI : Nat → Nat → Nat) (tC : Nat → ClassId) (a : Nat → Nat) (x1 : Int64) (mo : MOt) (res : Int32) (moR : MOt) (hf : f_MO_lateness x1 mo = (res, moR)) : cx_M l y_MO_lateness w_MO_lateness { frames := 1, cells := 0, slots := 0, locals := 25 } (dC, dI) classes (tyS tC) [.ref (a 0), .long x1] (wMO tC a mo) (wMO tC a moR) (some (.int res)) := by
  refine cx_of (cc := b_MO_lateness) (maxL := 3) (ret := some .int) (plainFor_of_name (by decide)) rfl (Nat.le_of_ble_eq_true rfl) ?_
  intro p e s m below meth c hx hb hr hml hown hts hlocks A hA H locs ls hK hN hP hD hS hl
  have hown : s.vm.findClass R_MO = some m.cls := hown
  have hl : lv_has ls 3 [(0, .ref (a 0)), (1, .long x1)] := hl
  unfold f_MO_lateness at hf
  refine lv_aload_n hx hb d_MO_lateness_0 rfl (lv_at hl 0 rfl) ?_
  refine lv_iconst (v := 0) hx hb d_MO_lateness_1 (by decide) ?_
  refine va_put (D := (dC, dI)) (ci := 8) (v := .int 0) (ty := .int) (C := R_MO) (T := F_MO) (N := 42) hx hb hts (in_MO _) t_MO t_MO_ok n_MO hown hK hP hD hS 0 rfl rfl 12 (by decide) (hts _ (List.mem_cons_of_mem _ mw_704)) (fun _ h9 => h9) rfl (by decide +kernel) rfl rfl (Nat.le_of_ble_eq_true rfl) d_MO_lateness_2 (fun H locs hP hD hS => ?_)
  have hP : va_P (dC, dI) classes (wMO tC a (sMO_thrown mo 0)) H := hP
  have hD : va_D A (wMO tC a (sMO_thrown mo 0)) := hD
  refine lv_lload_n hx hb d_MO_lateness_5 rfl (lv_at hl 1 rfl) ?_
  refine lv_lconst (v := 0) hx hb d_MO_lateness_6 (by decide) ?_
  refine lv_ldc2 (v := 1000000000) hx hb hown (hts _ (List.mem_cons_of_mem _ mw_828)) d_MO_lateness_7 ?_
  refine cx_callS (As := [.long x1, .long 0, .long 1000000000]) (rest := []) ⟨hx, hb, hml, hown, hts⟩ (c_MO_in l dC dI tC  x1 0 1000000000 (f_MO_in x1 0 1000000000) rfl) (k_MO_111 hts ⟨Nat.le_of_ble_eq_true rfl, Nat.le_of_ble_eq_true rfl⟩) hl.1 hP hD hS hA hK hN [] rfl rfl rfl rfl rfl (Nat.le_of_ble_eq_true rfl) d_MO_lateness_10 ⟨Nat.zero_le _, Nat.zero_le _⟩ (fun H locs hP hD hS => ?_)
  have hP : va_P (dC, dI) classes (wMO tC a (sMO_thrown mo 0)) H := hP
  have hD : va_D A (wMO tC a (sMO_thrown mo 0)) := hD
  refine W.eq (g2 := F0 m 13 ls [.int (f_MO_in x1 0 1000000000)]) rfl ?_
  refine lv_if_ne (tgt := 19) hx hb d_MO_lateness_13 (by decide) (fun cb => ?_) (fun cb => ?_)
  · have hf := g_f hf cb
    refine lv_aload_n hx hb d_MO_lateness_19 rfl (lv_at hl 0 rfl) ?_
    refine va_get (D := (dC, dI)) (ci := 8) (v := .int (MO_came mo)) (C := R_MO) (T := F_MO) (N := 42) hx hb hts (in_MO _) hown hK hP 0 rfl rfl 19 (by decide) (hts _ (List.mem_cons_of_mem _ mw_711)) (fun _ h9 => h9) rfl d_MO_lateness_20 ?_
    refine lv_if_gt (tgt := 34) hx hb d_MO_lateness_23 (by decide) (fun cb_1 => ?_) (fun cb_1 => ?_)
    · have hf := g_t hf cb_1
      refine lv_bipush (v := (-3)) hx hb d_MO_lateness_34 (by decide) ?_
      obtain ⟨hq0, hr1⟩ := Prod.mk.inj hf
      subst hq0
      subst hr1
      exact cx_iret hx hb hr hlocks hP hS d_MO_lateness_36
    · have hf := g_f hf cb_1
      refine lv_aload_n hx hb d_MO_lateness_26 rfl (lv_at hl 0 rfl) ?_
      refine va_get (D := (dC, dI)) (ci := 8) (v := .int (MO_kind mo)) (C := R_MO) (T := F_MO) (N := 42) hx hb hts (in_MO _) hown hK hP 0 rfl rfl 0 (by decide) (hts _ (List.mem_cons_of_mem _ mw_692)) (fun _ h9 => h9) rfl d_MO_lateness_27 ?_
      refine lv_iconst (v := 3) hx hb d_MO_lateness_30 (by decide) ?_
      refine lv_icmp_ne (tgt := 37) hx hb d_MO_lateness_31 (by decide) (fun cb_2 => ?_) (fun cb_2 => ?_)
      · have hf := g_f hf cb_2
        refine lv_aload_n hx hb d_MO_lateness_37 rfl (lv_at hl 0 rfl) ?_
        refine lv_lload_n hx hb d_MO_lateness_38 rfl (lv_at hl 1 rfl) ?_
        refine va_put (D := (dC, dI)) (ci := 8) (v := .long x1) (ty := .long) (C := R_MO) (T := F_MO) (N := 42) hx hb hts (in_MO _) t_MO t_MO_ok n_MO hown hK hP hD hS 0 rfl rfl 4 (by decide) (hts _ (List.mem_cons_of_mem _ mw_696)) (fun _ h9 => h9) rfl (by decide +kernel) rfl rfl (Nat.le_of_ble_eq_true rfl) d_MO_lateness_39 (fun H locs hP hD hS => ?_)
        have hP : va_P (dC, dI) classes (wMO tC a (sMO_thrown (sMO_lateness mo x1) 0)) H := hP
        have hD : va_D A (wMO tC a (sMO_thrown (sMO_lateness mo x1) 0)) := hD
        refine lv_iconst (v := 1) hx hb d_MO_lateness_42 (by decide) ?_
        obtain ⟨hq0, hr1⟩ := Prod.mk.inj hf
        subst hq0
        subst hr1
        exact cx_iret hx hb hr hlocks hP hS d_MO_lateness_43
      · have hf := g_t hf cb_2
        refine lv_bipush (v := (-3)) hx hb d_MO_lateness_34 (by decide) ?_
        obtain ⟨hq0, hr1⟩ := Prod.mk.inj hf
        subst hq0
        subst hr1
        exact cx_iret hx hb hr hlocks hP hS d_MO_lateness_36
  · have hf := g_t hf cb
    refine lv_bipush (v := (-2)) hx hb d_MO_lateness_16 (by decide) ?_
    obtain ⟨hq0, hr1⟩ := Prod.mk.inj hf
    subst hq0
    subst hr1
    exact cx_iret hx hb hr hlocks hP hS d_MO_lateness_18
