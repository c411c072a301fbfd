def f_MO_month (k : Nat) (x1 : Int32) (mo : MOt) : Option (Int32 × MOt) :=
  if (f_MO_in (x1.toInt64) (-3000000) 3000000) = 0 then (
    some ((-2000000000), (sMO_thrown mo 0))
  ) else
  (f_MO_monthAt k (x1.toInt64)).bind fun r =>
  some (r.toInt32, (sMO_thrown mo 0))
set_option maxHeartbeats 4000000 in
set_option maxRecDepth 100000 in
theorem c_MO_month (l : Launch) (dC : Nat → ClassId) (dI : Nat → Nat → Nat) (tC : Nat → ClassId) (a : Nat → Nat) (k : Nat) (x1 : Int32) (mo : MOt) (res : Int32) (moR : MOt) (hf : f_MO_month k x1 mo = some (res, moR)) : cx_M l y_MO_month w_MO_month { frames := 3, cells := 0, slots := 0, locals := 75 } (dC, dI) classes (tyS tC) [.ref (a 0), .int x1] (wMO tC a mo) (wMO tC a moR) (some (.int res)) := by
  refine cx_of (cc := b_MO_month) (maxL := 2) (ret := some .int) (plainFor_of_name (by decide)) rfl (Nat.le_of_ble_eq_true rfl) ?_
  intro p e s m below meth c hx hb hr hml hown hts hlocks A hA H locs ls hK hN hP hD hS hl
  have hown : s.vm.findClass R_MO = some m.cls := hown
  have hl : lv_has ls 2 [(0, .ref (a 0)), (1, .int x1)] := hl
  unfold f_MO_month at hf
  refine lv_aload_n hx hb d_MO_month_0 rfl (lv_at hl 0 rfl) ?_
  refine lv_iconst (v := 0) hx hb d_MO_month_1 (by decide) ?_
  refine va_put (D := (dC, dI)) (ci := 8) (v := .int 0) (ty := .int) (C := R_MO) (T := F_MO) (N := 42) hx hb hts (in_MO _) t_MO t_MO_ok n_MO hown hK hP hD hS 0 rfl rfl 12 (by decide) (hts _ (List.mem_cons_of_mem _ mw_704)) (fun _ h9 => h9) rfl (by decide +kernel) rfl rfl (Nat.le_of_ble_eq_true rfl) d_MO_month_2 (fun H locs hP hD hS => ?_)
  have hP : va_P (dC, dI) classes (wMO tC a (sMO_thrown mo 0)) H := hP
  have hD : va_D A (wMO tC a (sMO_thrown mo 0)) := hD
  refine lv_iload_n hx hb d_MO_month_5 rfl (lv_at hl 1 rfl) ?_
  refine lv_i2l hx hb d_MO_month_6 rfl ?_
  refine lv_ldc2 (v := (-3000000)) hx hb hown (hts _ (List.mem_cons_of_mem _ mw_862)) d_MO_month_7 ?_
  refine lv_ldc2 (v := 3000000) hx hb hown (hts _ (List.mem_cons_of_mem _ mw_863)) d_MO_month_10 ?_
  refine cx_callS (As := [.long (x1.toInt64), .long (-3000000), .long 3000000]) (rest := []) ⟨hx, hb, hml, hown, hts⟩ (c_MO_in l dC dI tC  (x1.toInt64) (-3000000) 3000000 (f_MO_in (x1.toInt64) (-3000000) 3000000) rfl) (k_MO_111 hts ⟨Nat.le_of_ble_eq_true rfl, Nat.le_of_ble_eq_true rfl⟩) hl.1 hP hD hS hA hK hN [] rfl rfl rfl rfl rfl (Nat.le_of_ble_eq_true rfl) d_MO_month_13 ⟨Nat.zero_le _, Nat.zero_le _⟩ (fun H locs hP hD hS => ?_)
  have hP : va_P (dC, dI) classes (wMO tC a (sMO_thrown mo 0)) H := hP
  have hD : va_D A (wMO tC a (sMO_thrown mo 0)) := hD
  refine W.eq (g2 := F0 m 16 ls [.int (f_MO_in (x1.toInt64) (-3000000) 3000000)]) rfl ?_
  refine lv_if_eq (tgt := 28) hx hb d_MO_month_16 (by decide) (fun cb => ?_) (fun cb => ?_)
  · have hf := g_t hf cb
    refine lv_ldc (v := (-2000000000)) hx hb hown (hts _ (List.mem_cons_of_mem _ mw_887)) d_MO_month_28 ?_
    obtain ⟨hq0, hr1⟩ := Prod.mk.inj (g_some hf)
    subst hq0
    subst hr1
    exact cx_iret hx hb hr hlocks hP hS d_MO_month_30
  · have hf := g_f hf cb
    refine lv_iload_n hx hb d_MO_month_19 rfl (lv_at hl 1 rfl) ?_
    refine lv_i2l hx hb d_MO_month_20 rfl ?_
    obtain ⟨r, hc_1, hf⟩ := g_bind hf
    try dsimp only at hf
    refine cx_callS (As := [.long (x1.toInt64)]) (rest := []) ⟨hx, hb, hml, hown, hts⟩ (c_MO_monthAt l dC dI tC  k (x1.toInt64) r hc_1) (k_MO_175 hts ⟨Nat.le_of_ble_eq_true rfl, Nat.le_of_ble_eq_true rfl⟩) hl.1 hP hD hS hA hK hN [] rfl rfl rfl rfl rfl (Nat.le_of_ble_eq_true rfl) d_MO_month_21 ⟨Nat.zero_le _, Nat.zero_le _⟩ (fun H locs hP hD hS => ?_)
    have hP : va_P (dC, dI) classes (wMO tC a (sMO_thrown mo 0)) H := hP
    have hD : va_D A (wMO tC a (sMO_thrown mo 0)) := hD
    refine W.eq (g2 := F0 m 24 ls [.long r]) rfl ?_
    refine lv_l2i hx hb d_MO_month_24 rfl ?_
    refine lv_goto (tgt := 30) hx hb d_MO_month_25 (by decide) ?_
    obtain ⟨hq0, hr1⟩ := Prod.mk.inj (g_some hf)
    subst hq0
    subst hr1
    exact cx_iret hx hb hr hlocks hP hS d_MO_month_30
