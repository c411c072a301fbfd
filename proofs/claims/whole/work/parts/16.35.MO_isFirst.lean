def f_MO_isFirst (x1 : Int32) (x2 : Int32) (mo : MOt) : Option Int32 :=
  if x1 < 0 ∨ 200 ≤ x1.toNatClampNeg then none else
  if x2 < 0 ∨ 200 ≤ x2.toNatClampNeg then none else
  if (MO_sEnd mo x1.toNatClampNeg) < (MO_sEnd mo x2.toNatClampNeg) then (
    some 1
  ) else
  if (MO_sEnd mo x1.toNatClampNeg) = (MO_sEnd mo x2.toNatClampNeg) then (
    if (MO_sKey mo x1.toNatClampNeg) < (MO_sKey mo x2.toNatClampNeg) then (
      some 1
    ) else
    if (MO_sKey mo x1.toNatClampNeg) = (MO_sKey mo x2.toNatClampNeg) then (
      if (MO_sBegin mo x2.toNatClampNeg) ≤ (MO_sBegin mo x1.toNatClampNeg) then (
        some 0
      ) else
      some 1
    ) else
    some 0
  ) else
  some 0
set_option maxHeartbeats 4000000 in
set_option maxRecDepth 100000 in
theorem c_MO_isFirst (l : Launch) (dC : Nat → ClassId) (dI : Nat → Nat → Nat) (tC : Nat → ClassId) (a : Nat → Nat) (x1 : Int32) (x2 : Int32) (mo : MOt) (res : Int32) (hf : f_MO_isFirst x1 x2 mo = some res) : cx_M l y_MO_isFirst w_MO_isFirst { frames := 0, cells := 0, slots := 0, locals := 0 } (dC, dI) classes (tyS tC) [.ref (a 0), .int x1, .int x2] (wMO tC a mo) (wMO tC a mo) (some (.int res)) := by
  refine cx_of (cc := b_MO_isFirst) (maxL := 3) (ret := some .boolean) (plainFor_of_name (by decide)) rfl (Nat.le_of_ble_eq_true rfl) ?_
  intro p e s m below meth c hx hb hr hml hown hts hlocks A hA H locs ls hK hN hP hD hS hl
  have hown : s.vm.findClass R_MO = some m.cls := hown
  have hl : lv_has ls 3 [(0, .ref (a 0)), (1, .int x1), (2, .int x2)] := hl
  unfold f_MO_isFirst at hf
  refine lv_aload_n hx hb d_MO_isFirst_0 rfl (lv_at hl 0 rfl) ?_
  refine va_get (D := (dC, dI)) (ci := 8) (v := .ref (a 10)) (C := R_MO) (T := F_MO) (N := 42) hx hb hts (in_MO _) hown hK hP 0 rfl rfl 23 (by decide) (hts _ (List.mem_cons_of_mem _ mw_715)) (fun _ h9 => h9) rfl d_MO_isFirst_1 ?_
  refine lv_iload_n hx hb d_MO_isFirst_4 rfl (lv_at hl 1 rfl) ?_
  obtain ⟨ck, hf⟩ := g_ck hf
  refine va_lald (D := (dC, dI)) hx hb hK hP 10 1 rfl rfl ck d_MO_isFirst_5 ?_
  refine lv_aload_n hx hb d_MO_isFirst_6 rfl (lv_at hl 0 rfl) ?_
  refine va_get (D := (dC, dI)) (ci := 8) (v := .ref (a 10)) (C := R_MO) (T := F_MO) (N := 42) hx hb hts (in_MO _) hown hK hP 0 rfl rfl 23 (by decide) (hts _ (List.mem_cons_of_mem _ mw_715)) (fun _ h9 => h9) rfl d_MO_isFirst_7 ?_
  refine lv_iload_n hx hb d_MO_isFirst_10 rfl (lv_at hl 2 rfl) ?_
  obtain ⟨ck_1, hf⟩ := g_ck hf
  refine va_lald (D := (dC, dI)) hx hb hK hP 10 1 rfl rfl ck_1 d_MO_isFirst_11 ?_
  refine cq_lt (tgt := 78) hx hb d_MO_isFirst_12 d_MO_isFirst_13 (by decide) (fun cb => ?_) (fun cb => ?_)
  · have hf := g_t hf cb
    refine lv_iconst (v := 1) hx hb d_MO_isFirst_78 (by decide) ?_
    refine lv_goto (tgt := 83) hx hb d_MO_isFirst_79 (by decide) ?_
    have hq0 := (g_some hf)
    subst hq0
    exact cx_zret hx hb hr hlocks rfl hP hS d_MO_isFirst_83
  · have hf := g_f hf cb
    refine lv_aload_n hx hb d_MO_isFirst_16 rfl (lv_at hl 0 rfl) ?_
    refine va_get (D := (dC, dI)) (ci := 8) (v := .ref (a 10)) (C := R_MO) (T := F_MO) (N := 42) hx hb hts (in_MO _) hown hK hP 0 rfl rfl 23 (by decide) (hts _ (List.mem_cons_of_mem _ mw_715)) (fun _ h9 => h9) rfl d_MO_isFirst_17 ?_
    refine lv_iload_n hx hb d_MO_isFirst_20 rfl (lv_at hl 1 rfl) ?_
    refine va_lald (D := (dC, dI)) hx hb hK hP 10 1 rfl rfl ck d_MO_isFirst_21 ?_
    refine lv_aload_n hx hb d_MO_isFirst_22 rfl (lv_at hl 0 rfl) ?_
    refine va_get (D := (dC, dI)) (ci := 8) (v := .ref (a 10)) (C := R_MO) (T := F_MO) (N := 42) hx hb hts (in_MO _) hown hK hP 0 rfl rfl 23 (by decide) (hts _ (List.mem_cons_of_mem _ mw_715)) (fun _ h9 => h9) rfl d_MO_isFirst_23 ?_
    refine lv_iload_n hx hb d_MO_isFirst_26 rfl (lv_at hl 2 rfl) ?_
    refine va_lald (D := (dC, dI)) hx hb hK hP 10 1 rfl rfl ck_1 d_MO_isFirst_27 ?_
    refine cq_ne (tgt := 82) hx hb d_MO_isFirst_28 d_MO_isFirst_29 (by decide) (fun cb_1 => ?_) (fun cb_1 => ?_)
    · have hf := g_f hf cb_1
      refine lv_iconst (v := 0) hx hb d_MO_isFirst_82 (by decide) ?_
      have hq0 := (g_some hf)
      subst hq0
      exact cx_zret hx hb hr hlocks rfl hP hS d_MO_isFirst_83
    · have hf := g_t hf cb_1
      refine lv_aload_n hx hb d_MO_isFirst_32 rfl (lv_at hl 0 rfl) ?_
      refine va_get (D := (dC, dI)) (ci := 8) (v := .ref (a 8)) (C := R_MO) (T := F_MO) (N := 42) hx hb hts (in_MO _) hown hK hP 0 rfl rfl 21 (by decide) (hts _ (List.mem_cons_of_mem _ mw_713)) (fun _ h9 => h9) rfl d_MO_isFirst_33 ?_
      refine lv_iload_n hx hb d_MO_isFirst_36 rfl (lv_at hl 1 rfl) ?_
      refine va_iald (D := (dC, dI)) hx hb hK hP 8 0 rfl rfl ck d_MO_isFirst_37 ?_
      refine lv_aload_n hx hb d_MO_isFirst_38 rfl (lv_at hl 0 rfl) ?_
      refine va_get (D := (dC, dI)) (ci := 8) (v := .ref (a 8)) (C := R_MO) (T := F_MO) (N := 42) hx hb hts (in_MO _) hown hK hP 0 rfl rfl 21 (by decide) (hts _ (List.mem_cons_of_mem _ mw_713)) (fun _ h9 => h9) rfl d_MO_isFirst_39 ?_
      refine lv_iload_n hx hb d_MO_isFirst_42 rfl (lv_at hl 2 rfl) ?_
      refine va_iald (D := (dC, dI)) hx hb hK hP 8 0 rfl rfl ck_1 d_MO_isFirst_43 ?_
      refine lv_icmp_lt (tgt := 78) hx hb d_MO_isFirst_44 (by decide) (fun cb_2 => ?_) (fun cb_2 => ?_)
      · have hf := g_t hf cb_2
        refine lv_iconst (v := 1) hx hb d_MO_isFirst_78 (by decide) ?_
        refine lv_goto (tgt := 83) hx hb d_MO_isFirst_79 (by decide) ?_
        have hq0 := (g_some hf)
        subst hq0
        exact cx_zret hx hb hr hlocks rfl hP hS d_MO_isFirst_83
      · have hf := g_f hf cb_2
        refine lv_aload_n hx hb d_MO_isFirst_47 rfl (lv_at hl 0 rfl) ?_
        refine va_get (D := (dC, dI)) (ci := 8) (v := .ref (a 8)) (C := R_MO) (T := F_MO) (N := 42) hx hb hts (in_MO _) hown hK hP 0 rfl rfl 21 (by decide) (hts _ (List.mem_cons_of_mem _ mw_713)) (fun _ h9 => h9) rfl d_MO_isFirst_48 ?_
        refine lv_iload_n hx hb d_MO_isFirst_51 rfl (lv_at hl 1 rfl) ?_
        refine va_iald (D := (dC, dI)) hx hb hK hP 8 0 rfl rfl ck d_MO_isFirst_52 ?_
        refine lv_aload_n hx hb d_MO_isFirst_53 rfl (lv_at hl 0 rfl) ?_
        refine va_get (D := (dC, dI)) (ci := 8) (v := .ref (a 8)) (C := R_MO) (T := F_MO) (N := 42) hx hb hts (in_MO _) hown hK hP 0 rfl rfl 21 (by decide) (hts _ (List.mem_cons_of_mem _ mw_713)) (fun _ h9 => h9) rfl d_MO_isFirst_54 ?_
        refine lv_iload_n hx hb d_MO_isFirst_57 rfl (lv_at hl 2 rfl) ?_
        refine va_iald (D := (dC, dI)) hx hb hK hP 8 0 rfl rfl ck_1 d_MO_isFirst_58 ?_
        refine lv_icmp_ne (tgt := 82) hx hb d_MO_isFirst_59 (by decide) (fun cb_3 => ?_) (fun cb_3 => ?_)
        · have hf := g_f hf cb_3
          refine lv_iconst (v := 0) hx hb d_MO_isFirst_82 (by decide) ?_
          have hq0 := (g_some hf)
          subst hq0
          exact cx_zret hx hb hr hlocks rfl hP hS d_MO_isFirst_83
        · have hf := g_t hf cb_3
          refine lv_aload_n hx hb d_MO_isFirst_62 rfl (lv_at hl 0 rfl) ?_
          refine va_get (D := (dC, dI)) (ci := 8) (v := .ref (a 9)) (C := R_MO) (T := F_MO) (N := 42) hx hb hts (in_MO _) hown hK hP 0 rfl rfl 22 (by decide) (hts _ (List.mem_cons_of_mem _ mw_714)) (fun _ h9 => h9) rfl d_MO_isFirst_63 ?_
          refine lv_iload_n hx hb d_MO_isFirst_66 rfl (lv_at hl 1 rfl) ?_
          refine va_lald (D := (dC, dI)) hx hb hK hP 9 1 rfl rfl ck d_MO_isFirst_67 ?_
          refine lv_aload_n hx hb d_MO_isFirst_68 rfl (lv_at hl 0 rfl) ?_
          refine va_get (D := (dC, dI)) (ci := 8) (v := .ref (a 9)) (C := R_MO) (T := F_MO) (N := 42) hx hb hts (in_MO _) hown hK hP 0 rfl rfl 22 (by decide) (hts _ (List.mem_cons_of_mem _ mw_714)) (fun _ h9 => h9) rfl d_MO_isFirst_69 ?_
          refine lv_iload_n hx hb d_MO_isFirst_72 rfl (lv_at hl 2 rfl) ?_
          refine va_lald (D := (dC, dI)) hx hb hK hP 9 1 rfl rfl ck_1 d_MO_isFirst_73 ?_
          refine cq_ge (tgt := 82) hx hb d_MO_isFirst_74 d_MO_isFirst_75 (by decide) (fun cb_4 => ?_) (fun cb_4 => ?_)
          · have hf := g_t hf cb_4
            refine lv_iconst (v := 0) hx hb d_MO_isFirst_82 (by decide) ?_
            have hq0 := (g_some hf)
            subst hq0
            exact cx_zret hx hb hr hlocks rfl hP hS d_MO_isFirst_83
          · have hf := g_f hf cb_4
            refine lv_iconst (v := 1) hx hb d_MO_isFirst_78 (by decide) ?_
            refine lv_goto (tgt := 83) hx hb d_MO_isFirst_79 (by decide) ?_
            have hq0 := (g_some hf)
            subst hq0
            exact cx_zret hx hb hr hlocks rfl hP hS d_MO_isFirst_83
