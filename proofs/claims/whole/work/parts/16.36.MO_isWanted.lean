def f_MO_isWanted (x1 : Int32) (x2 : Int32) (mo : MOt) : Option Int32 :=
  if (MO_step mo) = 0 then none else
  gl_let ((x2 / (MO_step mo)).toInt64) fun v3 =>
  if x1 < 0 ∨ 8 ≤ x1.toNatClampNeg then none else
  if v3 < (MO_nextSpan mo x1.toNatClampNeg).toInt64 then (
    if x2.toInt64 < ((MO_step mo).toInt64 * (MO_nextSpan mo x1.toNatClampNeg).toInt64) then (
      some 0
    ) else
    if (((MO_step mo).toInt64 * v3) + (MO_size mo).toInt64) ≤ x2.toInt64 then (
      some 0
    ) else
    some 1
  ) else
  if x2.toInt64 < ((v3 * (MO_step mo).toInt64) + (MO_size mo).toInt64) then (
    some 1
  ) else
  if x2.toInt64 < ((MO_step mo).toInt64 * (MO_nextSpan mo x1.toNatClampNeg).toInt64) then (
    some 0
  ) else
  if (((MO_step mo).toInt64 * v3) + (MO_size mo).toInt64) ≤ x2.toInt64 then (
    some 0
  ) else
  some 1
set_option maxHeartbeats 4000000 in
set_option maxRecDepth 100000 in
theorem c_MO_isWanted (l : Launch) (dC : Nat → ClassId) (dI : Nat → Nat → Nat) (tC : Nat → ClassId) (a : Nat → Nat) (x1 : Int32) (x2 : Int32) (mo : MOt) (res : Int32) (hf : f_MO_isWanted x1 x2 mo = some res) : cx_M l y_MO_isWanted w_MO_isWanted { frames := 0, cells := 0, slots := 0, locals := 0 } (dC, dI) classes (tyS tC) [.ref (a 0), .int x1, .int x2] (wMO tC a mo) (wMO tC a mo) (some (.int res)) := by
  refine cx_of (cc := b_MO_isWanted) (maxL := 5) (ret := some .boolean) (plainFor_of_name (by decide)) rfl (Nat.le_of_ble_eq_true rfl) ?_
  intro p e s m below meth c hx hb hr hml hown hts hlocks A hA H locs ls hK hN hP hD hS hl
  have hown : s.vm.findClass R_MO = some m.cls := hown
  have hl : lv_has ls 5 [(0, .ref (a 0)), (1, .int x1), (2, .int x2)] := hl
  unfold f_MO_isWanted at hf
  refine lv_iload_n hx hb d_MO_isWanted_0 rfl (lv_at hl 2 rfl) ?_
  refine lv_aload_n hx hb d_MO_isWanted_1 rfl (lv_at hl 0 rfl) ?_
  refine va_get (D := (dC, dI)) (ci := 8) (v := .int (MO_step mo)) (C := R_MO) (T := F_MO) (N := 42) hx hb hts (in_MO _) hown hK hP 0 rfl rfl 2 (by decide) (hts _ (List.mem_cons_of_mem _ mw_694)) (fun _ h9 => h9) rfl d_MO_isWanted_2 ?_
  obtain ⟨ck, hf⟩ := g_ck hf
  refine lv_idiv hx hb d_MO_isWanted_5 ck ?_
  refine lv_i2l hx hb d_MO_isWanted_6 rfl ?_
  refine lv_topl (fun v3 h_v3 => ?_)
  have hf := g_let hf h_v3
  refine lv_lstore_n (lv' := [(3, .long v3), (0, .ref (a 0)), (1, .int x1), (2, .int x2)]) hx hb d_MO_isWanted_7 rfl hl (by decide) rfl (fun ls hl => ?_)
  refine lv_lload_n hx hb d_MO_isWanted_8 rfl (lv_at hl 0 rfl) ?_
  refine lv_aload_n hx hb d_MO_isWanted_9 rfl (lv_at hl 1 rfl) ?_
  refine va_get (D := (dC, dI)) (ci := 8) (v := .ref (a 17)) (C := R_MO) (T := F_MO) (N := 42) hx hb hts (in_MO _) hown hK hP 0 rfl rfl 31 (by decide) (hts _ (List.mem_cons_of_mem _ mw_723)) (fun _ h9 => h9) rfl d_MO_isWanted_10 ?_
  refine lv_iload_n hx hb d_MO_isWanted_13 rfl (lv_at hl 2 rfl) ?_
  obtain ⟨ck_1, hf⟩ := g_ck hf
  refine va_iald (D := (dC, dI)) hx hb hK hP 17 0 rfl rfl ck_1 d_MO_isWanted_14 ?_
  refine lv_i2l hx hb d_MO_isWanted_15 rfl ?_
  refine cq_lt (tgt := 39) hx hb d_MO_isWanted_16 d_MO_isWanted_17 (by decide) (fun cb => ?_) (fun cb => ?_)
  · have hf := g_t hf cb
    refine lv_aload_n hx hb d_MO_isWanted_39 rfl (lv_at hl 1 rfl) ?_
    refine va_get (D := (dC, dI)) (ci := 8) (v := .int (MO_step mo)) (C := R_MO) (T := F_MO) (N := 42) hx hb hts (in_MO _) hown hK hP 0 rfl rfl 2 (by decide) (hts _ (List.mem_cons_of_mem _ mw_694)) (fun _ h9 => h9) rfl d_MO_isWanted_40 ?_
    refine lv_i2l hx hb d_MO_isWanted_43 rfl ?_
    refine lv_aload_n hx hb d_MO_isWanted_44 rfl (lv_at hl 1 rfl) ?_
    refine va_get (D := (dC, dI)) (ci := 8) (v := .ref (a 17)) (C := R_MO) (T := F_MO) (N := 42) hx hb hts (in_MO _) hown hK hP 0 rfl rfl 31 (by decide) (hts _ (List.mem_cons_of_mem _ mw_723)) (fun _ h9 => h9) rfl d_MO_isWanted_45 ?_
    refine lv_iload_n hx hb d_MO_isWanted_48 rfl (lv_at hl 2 rfl) ?_
    refine va_iald (D := (dC, dI)) hx hb hK hP 17 0 rfl rfl ck_1 d_MO_isWanted_49 ?_
    refine lv_i2l hx hb d_MO_isWanted_50 rfl ?_
    refine lv_lmul hx hb d_MO_isWanted_51 ?_
    refine lv_iload_n hx hb d_MO_isWanted_52 rfl (lv_at hl 3 rfl) ?_
    refine lv_i2l hx hb d_MO_isWanted_53 rfl ?_
    refine cq_gt (tgt := 81) hx hb d_MO_isWanted_54 d_MO_isWanted_55 (by decide) (fun cb_1 => ?_) (fun cb_1 => ?_)
    · have hf := g_t hf cb_1
      refine lv_iconst (v := 0) hx hb d_MO_isWanted_81 (by decide) ?_
      have hq0 := (g_some hf)
      subst hq0
      exact cx_zret hx hb hr hlocks rfl hP hS d_MO_isWanted_82
    · have hf := g_f hf cb_1
      refine lv_iload_n hx hb d_MO_isWanted_58 rfl (lv_at hl 3 rfl) ?_
      refine lv_i2l hx hb d_MO_isWanted_59 rfl ?_
      refine lv_aload_n hx hb d_MO_isWanted_60 rfl (lv_at hl 1 rfl) ?_
      refine va_get (D := (dC, dI)) (ci := 8) (v := .int (MO_step mo)) (C := R_MO) (T := F_MO) (N := 42) hx hb hts (in_MO _) hown hK hP 0 rfl rfl 2 (by decide) (hts _ (List.mem_cons_of_mem _ mw_694)) (fun _ h9 => h9) rfl d_MO_isWanted_61 ?_
      refine lv_i2l hx hb d_MO_isWanted_64 rfl ?_
      refine lv_lload_n hx hb d_MO_isWanted_65 rfl (lv_at hl 0 rfl) ?_
      refine lv_lmul hx hb d_MO_isWanted_66 ?_
      refine lv_aload_n hx hb d_MO_isWanted_67 rfl (lv_at hl 1 rfl) ?_
      refine va_get (D := (dC, dI)) (ci := 8) (v := .int (MO_size mo)) (C := R_MO) (T := F_MO) (N := 42) hx hb hts (in_MO _) hown hK hP 0 rfl rfl 1 (by decide) (hts _ (List.mem_cons_of_mem _ mw_693)) (fun _ h9 => h9) rfl d_MO_isWanted_68 ?_
      refine lv_i2l hx hb d_MO_isWanted_71 rfl ?_
      refine lv_ladd hx hb d_MO_isWanted_72 ?_
      refine cq_ge (tgt := 81) hx hb d_MO_isWanted_73 d_MO_isWanted_74 (by decide) (fun cb_2 => ?_) (fun cb_2 => ?_)
      · have hf := g_t hf cb_2
        refine lv_iconst (v := 0) hx hb d_MO_isWanted_81 (by decide) ?_
        have hq0 := (g_some hf)
        subst hq0
        exact cx_zret hx hb hr hlocks rfl hP hS d_MO_isWanted_82
      · have hf := g_f hf cb_2
        refine lv_iconst (v := 1) hx hb d_MO_isWanted_77 (by decide) ?_
        refine lv_goto (tgt := 82) hx hb d_MO_isWanted_78 (by decide) ?_
        have hq0 := (g_some hf)
        subst hq0
        exact cx_zret hx hb hr hlocks rfl hP hS d_MO_isWanted_82
  · have hf := g_f hf cb
    refine lv_iload_n hx hb d_MO_isWanted_20 rfl (lv_at hl 3 rfl) ?_
    refine lv_i2l hx hb d_MO_isWanted_21 rfl ?_
    refine lv_lload_n hx hb d_MO_isWanted_22 rfl (lv_at hl 0 rfl) ?_
    refine lv_aload_n hx hb d_MO_isWanted_23 rfl (lv_at hl 1 rfl) ?_
    refine va_get (D := (dC, dI)) (ci := 8) (v := .int (MO_step mo)) (C := R_MO) (T := F_MO) (N := 42) hx hb hts (in_MO _) hown hK hP 0 rfl rfl 2 (by decide) (hts _ (List.mem_cons_of_mem _ mw_694)) (fun _ h9 => h9) rfl d_MO_isWanted_24 ?_
    refine lv_i2l hx hb d_MO_isWanted_27 rfl ?_
    refine lv_lmul hx hb d_MO_isWanted_28 ?_
    refine lv_aload_n hx hb d_MO_isWanted_29 rfl (lv_at hl 1 rfl) ?_
    refine va_get (D := (dC, dI)) (ci := 8) (v := .int (MO_size mo)) (C := R_MO) (T := F_MO) (N := 42) hx hb hts (in_MO _) hown hK hP 0 rfl rfl 1 (by decide) (hts _ (List.mem_cons_of_mem _ mw_693)) (fun _ h9 => h9) rfl d_MO_isWanted_30 ?_
    refine lv_i2l hx hb d_MO_isWanted_33 rfl ?_
    refine lv_ladd hx hb d_MO_isWanted_34 ?_
    refine cq_lt (tgt := 77) hx hb d_MO_isWanted_35 d_MO_isWanted_36 (by decide) (fun cb_3 => ?_) (fun cb_3 => ?_)
    · have hf := g_t hf cb_3
      refine lv_iconst (v := 1) hx hb d_MO_isWanted_77 (by decide) ?_
      refine lv_goto (tgt := 82) hx hb d_MO_isWanted_78 (by decide) ?_
      have hq0 := (g_some hf)
      subst hq0
      exact cx_zret hx hb hr hlocks rfl hP hS d_MO_isWanted_82
    · have hf := g_f hf cb_3
      refine lv_aload_n hx hb d_MO_isWanted_39 rfl (lv_at hl 1 rfl) ?_
      refine va_get (D := (dC, dI)) (ci := 8) (v := .int (MO_step mo)) (C := R_MO) (T := F_MO) (N := 42) hx hb hts (in_MO _) hown hK hP 0 rfl rfl 2 (by decide) (hts _ (List.mem_cons_of_mem _ mw_694)) (fun _ h9 => h9) rfl d_MO_isWanted_40 ?_
      refine lv_i2l hx hb d_MO_isWanted_43 rfl ?_
      refine lv_aload_n hx hb d_MO_isWanted_44 rfl (lv_at hl 1 rfl) ?_
      refine va_get (D := (dC, dI)) (ci := 8) (v := .ref (a 17)) (C := R_MO) (T := F_MO) (N := 42) hx hb hts (in_MO _) hown hK hP 0 rfl rfl 31 (by decide) (hts _ (List.mem_cons_of_mem _ mw_723)) (fun _ h9 => h9) rfl d_MO_isWanted_45 ?_
      refine lv_iload_n hx hb d_MO_isWanted_48 rfl (lv_at hl 2 rfl) ?_
      refine va_iald (D := (dC, dI)) hx hb hK hP 17 0 rfl rfl ck_1 d_MO_isWanted_49 ?_
      refine lv_i2l hx hb d_MO_isWanted_50 rfl ?_
      refine lv_lmul hx hb d_MO_isWanted_51 ?_
      refine lv_iload_n hx hb d_MO_isWanted_52 rfl (lv_at hl 3 rfl) ?_
      refine lv_i2l hx hb d_MO_isWanted_53 rfl ?_
      refine cq_gt (tgt := 81) hx hb d_MO_isWanted_54 d_MO_isWanted_55 (by decide) (fun cb_4 => ?_) (fun cb_4 => ?_)
      · have hf := g_t hf cb_4
        refine lv_iconst (v := 0) hx hb d_MO_isWanted_81 (by decide) ?_
        have hq0 := (g_some hf)
        subst hq0
        exact cx_zret hx hb hr hlocks rfl hP hS d_MO_isWanted_82
      · have hf := g_f hf cb_4
        refine lv_iload_n hx hb d_MO_isWanted_58 rfl (lv_at hl 3 rfl) ?_
        refine lv_i2l hx hb d_MO_isWanted_59 rfl ?_
        refine lv_aload_n hx hb d_MO_isWanted_60 rfl (lv_at hl 1 rfl) ?_
        refine va_get (D := (dC, dI)) (ci := 8) (v := .int (MO_step mo)) (C := R_MO) (T := F_MO) (N := 42) hx hb hts (in_MO _) hown hK hP 0 rfl rfl 2 (by decide) (hts _ (List.mem_cons_of_mem _ mw_694)) (fun _ h9 => h9) rfl d_MO_isWanted_61 ?_
        refine lv_i2l hx hb d_MO_isWanted_64 rfl ?_
        refine lv_lload_n hx hb d_MO_isWanted_65 rfl (lv_at hl 0 rfl) ?_
        refine lv_lmul hx hb d_MO_isWanted_66 ?_
        refine lv_aload_n hx hb d_MO_isWanted_67 rfl (lv_at hl 1 rfl) ?_
        refine va_get (D := (dC, dI)) (ci := 8) (v := .int (MO_size mo)) (C := R_MO) (T := F_MO) (N := 42) hx hb hts (in_MO _) hown hK hP 0 rfl rfl 1 (by decide) (hts _ (List.mem_cons_of_mem _ mw_693)) (fun _ h9 => h9) rfl d_MO_isWanted_68 ?_
        refine lv_i2l hx hb d_MO_isWanted_71 rfl ?_
        refine lv_ladd hx hb d_MO_isWanted_72 ?_
        refine cq_ge (tgt := 81) hx hb d_MO_isWanted_73 d_MO_isWanted_74 (by decide) (fun cb_5 => ?_) (fun cb_5 => ?_)
        · have hf := g_t hf cb_5
          refine lv_iconst (v := 0) hx hb d_MO_isWanted_81 (by decide) ?_
          have hq0 := (g_some hf)
          subst hq0
          exact cx_zret hx hb hr hlocks rfl hP hS d_MO_isWanted_82
        · have hf := g_f hf cb_5
          refine lv_iconst (v := 1) hx hb d_MO_isWanted_77 (by decide) ?_
          refine lv_goto (tgt := 82) hx hb d_MO_isWanted_78 (by decide) ?_
          have hq0 := (g_some hf)
          subst hq0
          exact cx_zret hx hb hr hlocks rfl hP hS d_MO_isWanted_82
