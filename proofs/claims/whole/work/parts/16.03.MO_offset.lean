def f_MO_offset (x1 : Int64) (mo : MOt) : Int32 × MOt :=
  if (f_MO_in x1 (-1000000000) 1000000000) = 0 then (
    ((-2), (sMO_thrown mo 0))
  ) else
  if (MO_came mo) ≤ 0 then (
    (1, (sMO_thrown (sMO_offset mo x1) 0))
  ) else
  ((-3), (sMO_thrown mo 0))
set_option maxHeartbeats 4000000 in
set_option maxRecDepth 100000 in
theorem c_MO_offset (l : Launch) (dC : Nat → ClassId) (dI : Nat → Nat → Nat) (tC : Nat → ClassId) (a : Nat → Nat) (x1 : Int64) (mo : MOt) (res : Int32) (moR : MOt) (hf : f_MO_offset x1 mo = (res, moR)) : cx_M l y_MO_offset w_MO_offset { frames := 1, cells := 0, slots := 0, locals := 25 } (dC, dI) classes (tyS tC) [.ref (a 0), .long x1] (wMO tC a mo) (wMO tC a moR) (some (.int res)) := by
  refine cx_of (cc := b_MO_offset) (maxL := 3) (ret := some .int) (plainFor_of_name (by decide)) rfl (Nat.le_of_ble_eq_true rfl) ?_
  intro p e s m below meth c hx hb hr hml hown hts hlocks A hA H locs ls hK hN hP hD hS hl
  have hown : s.vm.findClass R_MO = some m.cls := hown
  have hl : lv_has ls 3 [(0, .ref (a 0)), (1, .long x1)] := hl
  unfold f_MO_offset at hf
  refine lv_aload_n hx hb d_MO_offset_0 rfl (lv_at hl 0 rfl) ?_
  refine lv_iconst (v := 0) hx hb d_MO_offset_1 (by decide) ?_
  refine va_put (D := (dC, dI)) (ci := 8) (v := .int 0) (ty := .int) (C := R_MO) (T := F_MO) (N := 42) hx hb hts (in_MO _) t_MO t_MO_ok n_MO hown hK hP hD hS 0 rfl rfl 12 (by decide) (hts _ (List.mem_cons_of_mem _ mw_704)) (fun _ h9 => h9) rfl (by decide +kernel) rfl rfl (Nat.le_of_ble_eq_true rfl) d_MO_offset_2 (fun H locs hP hD hS => ?_)
  have hP : va_P (dC, dI) classes (wMO tC a (sMO_thrown mo 0)) H := hP
  have hD : va_D A (wMO tC a (sMO_thrown mo 0)) := hD
  refine lv_lload_n hx hb d_MO_offset_5 rfl (lv_at hl 1 rfl) ?_
  refine lv_ldc2 (v := (-1000000000)) hx hb hown (hts _ (List.mem_cons_of_mem _ mw_827)) d_MO_offset_6 ?_
  refine lv_ldc2 (v := 1000000000) hx hb hown (hts _ (List.mem_cons_of_mem _ mw_828)) d_MO_offset_9 ?_
  refine cx_callS (As := [.long x1, .long (-1000000000), .long 1000000000]) (rest := []) ⟨hx, hb, hml, hown, hts⟩ (c_MO_in l dC dI tC  x1 (-1000000000) 1000000000 (f_MO_in x1 (-1000000000) 1000000000) rfl) (k_MO_111 hts ⟨Nat.le_of_ble_eq_true rfl, Nat.le_of_ble_eq_true rfl⟩) hl.1 hP hD hS hA hK hN [] rfl rfl rfl rfl rfl (Nat.le_of_ble_eq_true rfl) d_MO_offset_12 ⟨Nat.zero_le _, Nat.zero_le _⟩ (fun H locs hP hD hS => ?_)
  have hP : va_P (dC, dI) classes (wMO tC a (sMO_thrown mo 0)) H := hP
  have hD : va_D A (wMO tC a (sMO_thrown mo 0)) := hD
  refine W.eq (g2 := F0 m 15 ls [.int (f_MO_in x1 (-1000000000) 1000000000)]) rfl ?_
  refine lv_if_ne (tgt := 21) hx hb d_MO_offset_15 (by decide) (fun cb => ?_) (fun cb => ?_)
  · have hf := g_f hf cb
    refine lv_aload_n hx hb d_MO_offset_21 rfl (lv_at hl 0 rfl) ?_
    refine va_get (D := (dC, dI)) (ci := 8) (v := .int (MO_came mo)) (C := R_MO) (T := F_MO) (N := 42) hx hb hts (in_MO _) hown hK hP 0 rfl rfl 19 (by decide) (hts _ (List.mem_cons_of_mem _ mw_711)) (fun _ h9 => h9) rfl d_MO_offset_22 ?_
    refine lv_if_le (tgt := 31) hx hb d_MO_offset_25 (by decide) (fun cb_1 => ?_) (fun cb_1 => ?_)
    · have hf := g_t hf cb_1
      refine lv_aload_n hx hb d_MO_offset_31 rfl (lv_at hl 0 rfl) ?_
      refine lv_lload_n hx hb d_MO_offset_32 rfl (lv_at hl 1 rfl) ?_
      refine va_put (D := (dC, dI)) (ci := 8) (v := .long x1) (ty := .long) (C := R_MO) (T := F_MO) (N := 42) hx hb hts (in_MO _) t_MO t_MO_ok n_MO hown hK hP hD hS 0 rfl rfl 3 (by decide) (hts _ (List.mem_cons_of_mem _ mw_695)) (fun _ h9 => h9) rfl (by decide +kernel) rfl rfl (Nat.le_of_ble_eq_true rfl) d_MO_offset_33 (fun H locs hP hD hS => ?_)
      have hP : va_P (dC, dI) classes (wMO tC a (sMO_thrown (sMO_offset mo x1) 0)) H := hP
      have hD : va_D A (wMO tC a (sMO_thrown (sMO_offset mo x1) 0)) := hD
      refine lv_iconst (v := 1) hx hb d_MO_offset_36 (by decide) ?_
      obtain ⟨hq0, hr1⟩ := Prod.mk.inj hf
      subst hq0
      subst hr1
      exact cx_iret hx hb hr hlocks hP hS d_MO_offset_37
    · have hf := g_f hf cb_1
      refine lv_bipush (v := (-3)) hx hb d_MO_offset_28 (by decide) ?_
      obtain ⟨hq0, hr1⟩ := Prod.mk.inj hf
      subst hq0
      subst hr1
      exact cx_iret hx hb hr hlocks hP hS d_MO_offset_30
  · have hf := g_t hf cb
    refine lv_bipush (v := (-2)) hx hb d_MO_offset_18 (by decide) ?_
    obtain ⟨hq0, hr1⟩ := Prod.mk.inj hf
    subst hq0
    subst hr1
    exact cx_iret hx hb hr hlocks hP hS d_MO_offset_20
