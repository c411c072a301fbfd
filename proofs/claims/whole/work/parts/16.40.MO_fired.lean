def f_MO_fired (x1 : Int32) (x2 : Int32) (mo : MOt) : Option (Int64 × MOt) :=
  if x1 < 0 then (
    some ((-1000000000000001), (sMO_thrown mo 0))
  ) else
  if x1 < (MO_kept mo) then (
    if x2 < 0 then (
      some ((-1000000000000002), (sMO_thrown mo 0))
    ) else
    if x2 ≤ 9 then (
      if ((10 * x1) + x2) < 0 ∨ 4000 ≤ ((10 * x1) + x2).toNatClampNeg then none else
      some ((MO_told mo ((10 * x1) + x2).toNatClampNeg), (sMO_thrown mo 0))
    ) else
    some ((-1000000000000002), (sMO_thrown mo 0))
  ) else
  some ((-1000000000000001), (sMO_thrown mo 0))
set_option maxHeartbeats 4000000 in
set_option maxRecDepth 100000 in
theorem c_MO_fired (l : Launch) (dC : Nat → ClassId) (dI : Nat → Nat → Nat) (tC : Nat → ClassId) (a : Nat → Nat) (x1 : Int32) (x2 : Int32) (mo : MOt) (res : Int64) (moR : MOt) (hf : f_MO_fired x1 x2 mo = some (res, moR)) : cx_M l y_MO_fired w_MO_fired { frames := 0, cells := 0, slots := 0, locals := 0 } (dC, dI) classes (tyS tC) [.ref (a 0), .int x1, .int x2] (wMO tC a mo) (wMO tC a moR) (some (.long res)) := by
  refine cx_of (cc := b_MO_fired) (maxL := 3) (ret := some .long) (plainFor_of_name (by decide)) rfl (Nat.le_of_ble_eq_true rfl) ?_
  intro p e s m below meth c hx hb hr hml hown hts hlocks A hA H locs ls hK hN hP hD hS hl
  have hown : s.vm.findClass R_MO = some m.cls := hown
  have hl : lv_has ls 3 [(0, .ref (a 0)), (1, .int x1), (2, .int x2)] := hl
  unfold f_MO_fired at hf
  refine lv_aload_n hx hb d_MO_fired_0 rfl (lv_at hl 0 rfl) ?_
  refine lv_iconst (v := 0) hx hb d_MO_fired_1 (by decide) ?_
  refine va_put (D := (dC, dI)) (ci := 8) (v := .int 0) (ty := .int) (C := R_MO) (T := F_MO) (N := 42) hx hb hts (in_MO _) t_MO t_MO_ok n_MO hown hK hP hD hS 0 rfl rfl 12 (by decide) (hts _ (List.mem_cons_of_mem _ mw_704)) (fun _ h9 => h9) rfl (by decide +kernel) rfl rfl (Nat.le_of_ble_eq_true rfl) d_MO_fired_2 (fun H locs hP hD hS => ?_)
  have hP : va_P (dC, dI) classes (wMO tC a (sMO_thrown mo 0)) H := hP
  have hD : va_D A (wMO tC a (sMO_thrown mo 0)) := hD
  refine lv_iload_n hx hb d_MO_fired_5 rfl (lv_at hl 1 rfl) ?_
  refine lv_if_lt (tgt := 17) hx hb d_MO_fired_6 (by decide) (fun cb => ?_) (fun cb => ?_)
  · have hf := g_t hf cb
    refine lv_ldc2 (v := (-1000000000000001)) hx hb hown (hts _ (List.mem_cons_of_mem _ mw_993)) d_MO_fired_17 ?_
    obtain ⟨hq0, hr1⟩ := Prod.mk.inj (g_some hf)
    subst hq0
    subst hr1
    exact cx_lret hx hb hr hlocks hP hS d_MO_fired_20
  · have hf := g_f hf cb
    refine lv_iload_n hx hb d_MO_fired_9 rfl (lv_at hl 1 rfl) ?_
    refine lv_aload_n hx hb d_MO_fired_10 rfl (lv_at hl 0 rfl) ?_
    refine va_get (D := (dC, dI)) (ci := 8) (v := .int (MO_kept mo)) (C := R_MO) (T := F_MO) (N := 42) hx hb hts (in_MO _) hown hK hP 0 rfl rfl 33 (by decide) (hts _ (List.mem_cons_of_mem _ mw_725)) (fun _ h9 => h9) rfl d_MO_fired_11 ?_
    refine lv_icmp_lt (tgt := 21) hx hb d_MO_fired_14 (by decide) (fun cb_1 => ?_) (fun cb_1 => ?_)
    · have hf := g_t hf cb_1
      refine lv_iload_n hx hb d_MO_fired_21 rfl (lv_at hl 2 rfl) ?_
      refine lv_if_lt (tgt := 31) hx hb d_MO_fired_22 (by decide) (fun cb_2 => ?_) (fun cb_2 => ?_)
      · have hf := g_t hf cb_2
        refine lv_ldc2 (v := (-1000000000000002)) hx hb hown (hts _ (List.mem_cons_of_mem _ mw_994)) d_MO_fired_31 ?_
        refine lv_goto (tgt := 48) hx hb d_MO_fired_34 (by decide) ?_
        obtain ⟨hq0, hr1⟩ := Prod.mk.inj (g_some hf)
        subst hq0
        subst hr1
        exact cx_lret hx hb hr hlocks hP hS d_MO_fired_48
      · have hf := g_f hf cb_2
        refine lv_iload_n hx hb d_MO_fired_25 rfl (lv_at hl 2 rfl) ?_
        refine lv_bipush (v := 9) hx hb d_MO_fired_26 (by decide) ?_
        refine lv_icmp_le (tgt := 37) hx hb d_MO_fired_28 (by decide) (fun cb_3 => ?_) (fun cb_3 => ?_)
        · have hf := g_t hf cb_3
          refine lv_aload_n hx hb d_MO_fired_37 rfl (lv_at hl 0 rfl) ?_
          refine va_get (D := (dC, dI)) (ci := 8) (v := .ref (a 18)) (C := R_MO) (T := F_MO) (N := 42) hx hb hts (in_MO _) hown hK hP 0 rfl rfl 32 (by decide) (hts _ (List.mem_cons_of_mem _ mw_724)) (fun _ h9 => h9) rfl d_MO_fired_38 ?_
          refine lv_bipush (v := 10) hx hb d_MO_fired_41 (by decide) ?_
          refine lv_iload_n hx hb d_MO_fired_43 rfl (lv_at hl 1 rfl) ?_
          refine lv_imul hx hb d_MO_fired_44 ?_
          refine lv_iload_n hx hb d_MO_fired_45 rfl (lv_at hl 2 rfl) ?_
          refine lv_iadd hx hb d_MO_fired_46 ?_
          obtain ⟨ck, hf⟩ := g_ck hf
          refine va_lald (D := (dC, dI)) hx hb hK hP 18 1 rfl rfl ck d_MO_fired_47 ?_
          obtain ⟨hq0, hr1⟩ := Prod.mk.inj (g_some hf)
          subst hq0
          subst hr1
          exact cx_lret hx hb hr hlocks hP hS d_MO_fired_48
        · have hf := g_f hf cb_3
          refine lv_ldc2 (v := (-1000000000000002)) hx hb hown (hts _ (List.mem_cons_of_mem _ mw_994)) d_MO_fired_31 ?_
          refine lv_goto (tgt := 48) hx hb d_MO_fired_34 (by decide) ?_
          obtain ⟨hq0, hr1⟩ := Prod.mk.inj (g_some hf)
          subst hq0
          subst hr1
          exact cx_lret hx hb hr hlocks hP hS d_MO_fired_48
    · have hf := g_f hf cb_1
      refine lv_ldc2 (v := (-1000000000000001)) hx hb hown (hts _ (List.mem_cons_of_mem _ mw_993)) d_MO_fired_17 ?_
      obtain ⟨hq0, hr1⟩ := Prod.mk.inj (g_some hf)
      subst hq0
      subst hr1
      exact cx_lret hx hb hr hlocks hP hS d_MO_fired_20
