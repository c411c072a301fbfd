def f_MO_isBefore (x1 : Int32) (x2 : Int32) (mo : MOt) : Option Int32 :=
  if x1 < 0 ∨ 300 ≤ x1.toNatClampNeg then none else
  if x2 < 0 ∨ 300 ≤ x2.toNatClampNeg then none else
  if (MO_rTime mo x1.toNatClampNeg) < (MO_rTime mo x2.toNatClampNeg) then (
    some 1
  ) else
  if (MO_rTime mo x1.toNatClampNeg) = (MO_rTime mo x2.toNatClampNeg) then (
    if (MO_rCame mo x2.toNatClampNeg) ≤ (MO_rCame mo x1.toNatClampNeg) then (
      some 0
    ) else
    some 1
  ) else
  some 0
set_option maxHeartbeats 4000000 in
set_option maxRecDepth 100000 in
theorem c_MO_isBefore (l : Launch) (dC : Nat → ClassId) (dI : Nat → Nat → Nat) (tC : Nat → ClassId) (a : Nat → Nat) (x1 : Int32) (x2 : Int32) (mo : MOt) (res : Int32) (hf : f_MO_isBefore x1 x2 mo = some res) : cx_M l y_MO_isBefore w_MO_isBefore { frames := 0, cells := 0, slots := 0, locals := 0 } (dC, dI) classes (tyS tC) [.ref (a 0), .int x1, .int x2] (wMO tC a mo) (wMO tC a mo) (some (.int res)) := by
  refine cx_of (cc := b_MO_isBefore) (maxL := 3) (ret := some .boolean) (plainFor_of_name (by decide)) rfl (Nat.le_of_ble_eq_true rfl) ?_
  intro p e s m below meth c hx hb hr hml hown hts hlocks A hA H locs ls hK hN hP hD hS hl
  have hown : s.vm.findClass R_MO = some m.cls := hown
  have hl : lv_has ls 3 [(0, .ref (a 0)), (1, .int x1), (2, .int x2)] := hl
  unfold f_MO_isBefore at hf
  refine lv_aload_n hx hb d_MO_isBefore_0 rfl (lv_at hl 0 rfl) ?_
  refine va_get (D := (dC, dI)) (ci := 8) (v := .ref (a 4)) (C := R_MO) (T := F_MO) (N := 42) hx hb hts (in_MO _) hown hK hP 0 rfl rfl 14 (by decide) (hts _ (List.mem_cons_of_mem _ mw_706)) (fun _ h9 => h9) rfl d_MO_isBefore_1 ?_
  refine lv_iload_n hx hb d_MO_isBefore_4 rfl (lv_at hl 1 rfl) ?_
  obtain ⟨ck, hf⟩ := g_ck hf
  refine va_lald (D := (dC, dI)) hx hb hK hP 4 1 rfl rfl ck d_MO_isBefore_5 ?_
  refine lv_aload_n hx hb d_MO_isBefore_6 rfl (lv_at hl 0 rfl) ?_
  refine va_get (D := (dC, dI)) (ci := 8) (v := .ref (a 4)) (C := R_MO) (T := F_MO) (N := 42) hx hb hts (in_MO _) hown hK hP 0 rfl rfl 14 (by decide) (hts _ (List.mem_cons_of_mem _ mw_706)) (fun _ h9 => h9) rfl d_MO_isBefore_7 ?_
  refine lv_iload_n hx hb d_MO_isBefore_10 rfl (lv_at hl 2 rfl) ?_
  obtain ⟨ck_1, hf⟩ := g_ck hf
  refine va_lald (D := (dC, dI)) hx hb hK hP 4 1 rfl rfl ck_1 d_MO_isBefore_11 ?_
  refine cq_lt (tgt := 47) hx hb d_MO_isBefore_12 d_MO_isBefore_13 (by decide) (fun cb => ?_) (fun cb => ?_)
  · have hf := g_t hf cb
    refine lv_iconst (v := 1) hx hb d_MO_isBefore_47 (by decide) ?_
    refine lv_goto (tgt := 52) hx hb d_MO_isBefore_48 (by decide) ?_
    have hq0 := (g_some hf)
    subst hq0
    exact cx_zret hx hb hr hlocks rfl hP hS d_MO_isBefore_52
  · have hf := g_f hf cb
    refine lv_aload_n hx hb d_MO_isBefore_16 rfl (lv_at hl 0 rfl) ?_
    refine va_get (D := (dC, dI)) (ci := 8) (v := .ref (a 4)) (C := R_MO) (T := F_MO) (N := 42) hx hb hts (in_MO _) hown hK hP 0 rfl rfl 14 (by decide) (hts _ (List.mem_cons_of_mem _ mw_706)) (fun _ h9 => h9) rfl d_MO_isBefore_17 ?_
    refine lv_iload_n hx hb d_MO_isBefore_20 rfl (lv_at hl 1 rfl) ?_
    refine va_lald (D := (dC, dI)) hx hb hK hP 4 1 rfl rfl ck d_MO_isBefore_21 ?_
    refine lv_aload_n hx hb d_MO_isBefore_22 rfl (lv_at hl 0 rfl) ?_
    refine va_get (D := (dC, dI)) (ci := 8) (v := .ref (a 4)) (C := R_MO) (T := F_MO) (N := 42) hx hb hts (in_MO _) hown hK hP 0 rfl rfl 14 (by decide) (hts _ (List.mem_cons_of_mem _ mw_706)) (fun _ h9 => h9) rfl d_MO_isBefore_23 ?_
    refine lv_iload_n hx hb d_MO_isBefore_26 rfl (lv_at hl 2 rfl) ?_
    refine va_lald (D := (dC, dI)) hx hb hK hP 4 1 rfl rfl ck_1 d_MO_isBefore_27 ?_
    refine cq_ne (tgt := 51) hx hb d_MO_isBefore_28 d_MO_isBefore_29 (by decide) (fun cb_1 => ?_) (fun cb_1 => ?_)
    · have hf := g_f hf cb_1
      refine lv_iconst (v := 0) hx hb d_MO_isBefore_51 (by decide) ?_
      have hq0 := (g_some hf)
      subst hq0
      exact cx_zret hx hb hr hlocks rfl hP hS d_MO_isBefore_52
    · have hf := g_t hf cb_1
      refine lv_aload_n hx hb d_MO_isBefore_32 rfl (lv_at hl 0 rfl) ?_
      refine va_get (D := (dC, dI)) (ci := 8) (v := .ref (a 6)) (C := R_MO) (T := F_MO) (N := 42) hx hb hts (in_MO _) hown hK hP 0 rfl rfl 16 (by decide) (hts _ (List.mem_cons_of_mem _ mw_708)) (fun _ h9 => h9) rfl d_MO_isBefore_33 ?_
      refine lv_iload_n hx hb d_MO_isBefore_36 rfl (lv_at hl 1 rfl) ?_
      refine va_iald (D := (dC, dI)) hx hb hK hP 6 0 rfl rfl ck d_MO_isBefore_37 ?_
      refine lv_aload_n hx hb d_MO_isBefore_38 rfl (lv_at hl 0 rfl) ?_
      refine va_get (D := (dC, dI)) (ci := 8) (v := .ref (a 6)) (C := R_MO) (T := F_MO) (N := 42) hx hb hts (in_MO _) hown hK hP 0 rfl rfl 16 (by decide) (hts _ (List.mem_cons_of_mem _ mw_708)) (fun _ h9 => h9) rfl d_MO_isBefore_39 ?_
      refine lv_iload_n hx hb d_MO_isBefore_42 rfl (lv_at hl 2 rfl) ?_
      refine va_iald (D := (dC, dI)) hx hb hK hP 6 0 rfl rfl ck_1 d_MO_isBefore_43 ?_
      refine lv_icmp_ge (tgt := 51) hx hb d_MO_isBefore_44 (by decide) (fun cb_2 => ?_) (fun cb_2 => ?_)
      · have hf := g_t hf cb_2
        refine lv_iconst (v := 0) hx hb d_MO_isBefore_51 (by decide) ?_
        have hq0 := (g_some hf)
        subst hq0
        exact cx_zret hx hb hr hlocks rfl hP hS d_MO_isBefore_52
      · have hf := g_f hf cb_2
        refine lv_iconst (v := 1) hx hb d_MO_isBefore_47 (by decide) ?_
        refine lv_goto (tgt := 52) hx hb d_MO_isBefore_48 (by decide) ?_
        have hq0 := (g_some hf)
        subst hq0
        exact cx_zret hx hb hr hlocks rfl hP hS d_MO_isBefore_52
