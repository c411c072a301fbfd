def f_MO_want (x1 : Int64) (x3 : Int64) (mo : MOt) : Option MOt :=
  if (MO_wanted mo) < 0 ∨ 16 ≤ (MO_wanted mo).toNatClampNeg then none else
  some (sMO_wEnd (sMO_wBegin (sMO_wanted mo ((MO_wanted mo) + 1)) (vp_updL (MO_wBegin mo) (MO_wanted mo).toNatClampNeg x1)) (vp_updL (MO_wEnd mo) (MO_wanted mo).toNatClampNeg x3))
set_option maxHeartbeats 4000000 in
set_option maxRecDepth 100000 in
theorem c_MO_want (l : Launch) (dC : Nat → ClassId) (dI : Nat → Nat → Nat) (tC : Nat → ClassId) (a : Nat → Nat) (x1 : Int64) (x3 : Int64) (mo : MOt) (moR : MOt) (hf : f_MO_want x1 x3 mo = some moR) : cx_M l y_MO_want w_MO_want { frames := 0, cells := 0, slots := 0, locals := 0 } (dC, dI) classes (tyS tC) [.ref (a 0), .long x1, .long x3] (wMO tC a mo) (wMO tC a moR) (none) := by
  refine cx_of (cc := b_MO_want) (maxL := 5) (ret := none) (plainFor_of_name (by decide)) rfl (Nat.le_of_ble_eq_true rfl) ?_
  intro p e s m below meth c hx hb hr hml hown hts hlocks A hA H locs ls hK hN hP hD hS hl
  have hown : s.vm.findClass R_MO = some m.cls := hown
  have hl : lv_has ls 5 [(0, .ref (a 0)), (1, .long x1), (3, .long x3)] := hl
  unfold f_MO_want at hf
  refine lv_aload_n hx hb d_MO_want_0 rfl (lv_at hl 0 rfl) ?_
  refine va_get (D := (dC, dI)) (ci := 8) (v := .ref (a 19)) (C := R_MO) (T := F_MO) (N := 42) hx hb hts (in_MO _) hown hK hP 0 rfl rfl 38 (by decide) (hts _ (List.mem_cons_of_mem _ mw_730)) (fun _ h9 => h9) rfl d_MO_want_1 ?_
  refine lv_aload_n hx hb d_MO_want_4 rfl (lv_at hl 0 rfl) ?_
  refine va_get (D := (dC, dI)) (ci := 8) (v := .int (MO_wanted mo)) (C := R_MO) (T := F_MO) (N := 42) hx hb hts (in_MO _) hown hK hP 0 rfl rfl 37 (by decide) (hts _ (List.mem_cons_of_mem _ mw_729)) (fun _ h9 => h9) rfl d_MO_want_5 ?_
  refine lv_lload_n hx hb d_MO_want_8 rfl (lv_at hl 1 rfl) ?_
  obtain ⟨ck, hf⟩ := g_ck hf
  refine va_last (D := (dC, dI)) hx hb hK hP hD hS 19 1 rfl rfl ck d_MO_want_9 (fun H locs hP hD hS => ?_)
  have hP : va_P (dC, dI) classes (wMO tC a (sMO_wBegin mo (vp_updL (MO_wBegin mo) (MO_wanted mo).toNatClampNeg x1))) H := hP
  have hD : va_D A (wMO tC a (sMO_wBegin mo (vp_updL (MO_wBegin mo) (MO_wanted mo).toNatClampNeg x1))) := hD
  refine lv_aload_n hx hb d_MO_want_10 rfl (lv_at hl 0 rfl) ?_
  refine va_get (D := (dC, dI)) (ci := 8) (v := .ref (a 20)) (C := R_MO) (T := F_MO) (N := 42) hx hb hts (in_MO _) hown hK hP 0 rfl rfl 39 (by decide) (hts _ (List.mem_cons_of_mem _ mw_731)) (fun _ h9 => h9) rfl d_MO_want_11 ?_
  refine lv_aload_n hx hb d_MO_want_14 rfl (lv_at hl 0 rfl) ?_
  refine va_get (D := (dC, dI)) (ci := 8) (v := .int (MO_wanted mo)) (C := R_MO) (T := F_MO) (N := 42) hx hb hts (in_MO _) hown hK hP 0 rfl rfl 37 (by decide) (hts _ (List.mem_cons_of_mem _ mw_729)) (fun _ h9 => h9) rfl d_MO_want_15 ?_
  refine lv_lload_n hx hb d_MO_want_18 rfl (lv_at hl 2 rfl) ?_
  refine va_last (D := (dC, dI)) hx hb hK hP hD hS 20 1 rfl rfl ck d_MO_want_19 (fun H locs hP hD hS => ?_)
  have hP : va_P (dC, dI) classes (wMO tC a (sMO_wEnd (sMO_wBegin mo (vp_updL (MO_wBegin mo) (MO_wanted mo).toNatClampNeg x1)) (vp_updL (MO_wEnd mo) (MO_wanted mo).toNatClampNeg x3))) H := hP
  have hD : va_D A (wMO tC a (sMO_wEnd (sMO_wBegin mo (vp_updL (MO_wBegin mo) (MO_wanted mo).toNatClampNeg x1)) (vp_updL (MO_wEnd mo) (MO_wanted mo).toNatClampNeg x3))) := hD
  refine lv_aload_n hx hb d_MO_want_20 rfl (lv_at hl 0 rfl) ?_
  refine lv_dup hx hb d_MO_want_21 rfl ?_
  refine va_get (D := (dC, dI)) (ci := 8) (v := .int (MO_wanted mo)) (C := R_MO) (T := F_MO) (N := 42) hx hb hts (in_MO _) hown hK hP 0 rfl rfl 37 (by decide) (hts _ (List.mem_cons_of_mem _ mw_729)) (fun _ h9 => h9) rfl d_MO_want_22 ?_
  refine lv_iconst (v := 1) hx hb d_MO_want_25 (by decide) ?_
  refine lv_iadd hx hb d_MO_want_26 ?_
  refine va_put (D := (dC, dI)) (ci := 8) (v := .int ((MO_wanted mo) + 1)) (ty := .int) (C := R_MO) (T := F_MO) (N := 42) hx hb hts (in_MO _) t_MO t_MO_ok n_MO hown hK hP hD hS 0 rfl rfl 37 (by decide) (hts _ (List.mem_cons_of_mem _ mw_729)) (fun _ h9 => h9) rfl (by decide +kernel) rfl rfl (Nat.le_of_ble_eq_true rfl) d_MO_want_27 (fun H locs hP hD hS => ?_)
  have hP : va_P (dC, dI) classes (wMO tC a (sMO_wEnd (sMO_wBegin (sMO_wanted mo ((MO_wanted mo) + 1)) (vp_updL (MO_wBegin mo) (MO_wanted mo).toNatClampNeg x1)) (vp_updL (MO_wEnd mo) (MO_wanted mo).toNatClampNeg x3))) H := hP
  have hD : va_D A (wMO tC a (sMO_wEnd (sMO_wBegin (sMO_wanted mo ((MO_wanted mo) + 1)) (vp_updL (MO_wBegin mo) (MO_wanted mo).toNatClampNeg x1)) (vp_updL (MO_wEnd mo) (MO_wanted mo).toNatClampNeg x3))) := hD
  have hq0 := (g_some hf)
  subst hq0
  exact cx_vret hx hb hr hlocks hP hS d_MO_want_30
