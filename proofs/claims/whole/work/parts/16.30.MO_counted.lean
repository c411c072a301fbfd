def f_MO_counted (k : Nat) (x1 : Int32) (x2 : Int64) (x4 : Int64) (mo : MOt) : Option (Int32 × MOt) :=
  if (MO_now mo) ≤ x2 then (
    if (MO_rows mo) = 300 then (
      some ((-4), mo)
    ) else
    (f_MO_newRow k x1 x2 x4 mo).bind fun (r, mo_1) =>
    some (1, (sMO_came mo_1 ((MO_came mo_1) + 1)))
  ) else
  gl_let (f_MO_drop mo) fun (r_1, mo_2) =>
  some (r_1, mo_2)
set_option maxHeartbeats 4000000 in
set_option maxRecDepth 100000 in
theorem c_MO_counted (l : Launch) (dC : Nat → ClassId) (dI : Nat → Nat → Nat) (tC : Nat → ClassId) (a : Nat → Nat) (k : Nat) (x1 : Int32) (x2 : Int64) (x4 : Int64) (mo : MOt) (res : Int32) (moR : MOt) (hf : f_MO_counted k x1 x2 x4 mo = some (res, moR)) : cx_M l y_MO_counted w_MO_counted { frames := 1, cells := 0, slots := 0, locals := 26 } (dC, dI) classes (tyS tC) [.ref (a 0), .int x1, .long x2, .long x4] (wMO tC a mo) (wMO tC a moR) (some (.int res)) := by
  refine cx_of (cc := b_MO_counted) (maxL := 7) (ret := some .int) (plainFor_of_name (by decide)) rfl (Nat.le_of_ble_eq_true rfl) ?_
  intro p e s m below meth c hx hb hr hml hown hts hlocks A hA H locs ls hK hN hP hD hS hl
  have hown : s.vm.findClass R_MO = some m.cls := hown
  have hl : lv_has ls 7 [(0, .ref (a 0)), (1, .int x1), (2, .long x2), (4, .long x4)] := hl
  unfold f_MO_counted at hf
  refine lv_lload_n hx hb d_MO_counted_0 rfl (lv_at hl 2 rfl) ?_
  refine lv_aload_n hx hb d_MO_counted_1 rfl (lv_at hl 0 rfl) ?_
  refine va_get (D := (dC, dI)) (ci := 8) (v := .long (MO_now mo)) (C := R_MO) (T := F_MO) (N := 42) hx hb hts (in_MO _) hown hK hP 0 rfl rfl 11 (by decide) (hts _ (List.mem_cons_of_mem _ mw_703)) (fun _ h9 => h9) rfl d_MO_counted_2 ?_
  refine cq_ge (tgt := 14) hx hb d_MO_counted_5 d_MO_counted_6 (by decide) (fun cb => ?_) (fun cb => ?_)
  · have hf := g_t hf cb
    refine lv_aload_n hx hb d_MO_counted_14 rfl (lv_at hl 0 rfl) ?_
    refine va_get (D := (dC, dI)) (ci := 8) (v := .int (MO_rows mo)) (C := R_MO) (T := F_MO) (N := 42) hx hb hts (in_MO _) hown hK hP 0 rfl rfl 18 (by decide) (hts _ (List.mem_cons_of_mem _ mw_710)) (fun _ h9 => h9) rfl d_MO_counted_15 ?_
    refine lv_sipush (v := 300) hx hb d_MO_counted_18 (by decide) ?_
    refine lv_icmp_ne (tgt := 27) hx hb d_MO_counted_21 (by decide) (fun cb_1 => ?_) (fun cb_1 => ?_)
    · have hf := g_f hf cb_1
      refine lv_aload_n hx hb d_MO_counted_27 rfl (lv_at hl 0 rfl) ?_
      refine lv_iload_n hx hb d_MO_counted_28 rfl (lv_at hl 1 rfl) ?_
      refine lv_lload_n hx hb d_MO_counted_29 rfl (lv_at hl 2 rfl) ?_
      refine lv_lload hx hb d_MO_counted_30 (lv_at hl 3 rfl) ?_
      obtain ⟨⟨r, mo_1⟩, hc, hf⟩ := g_bind hf
      try dsimp only at hf
      refine cx3_callV (As := [.int x1, .long x2, .long x4]) (rest := []) (wMO tC a mo_1) ⟨hx, hb, hml, hown, hts⟩ (c_MO_newRow l dC dI tC a k x1 x2 x4 mo r mo_1 hc) (k_MO_261 hts ⟨Nat.le_of_ble_eq_true rfl, Nat.le_of_ble_eq_true rfl⟩) hl.1 hP hD hS hA hK hN 0 8 rfl rfl rfl (adMO _ _ _ _) rfl rfl (Nat.le_of_ble_eq_true rfl) d_MO_counted_32 ⟨Nat.zero_le _, Nat.zero_le _⟩ (fun H locs hP hD hS => ?_)
      refine W.eq (g2 := F0 m 35 ls [.int r]) rfl ?_
      refine lv_istore (lv' := [(6, .int r), (0, .ref (a 0)), (1, .int x1), (2, .long x2), (4, .long x4)]) hx hb d_MO_counted_35 hl (by decide) rfl (fun ls hl => ?_)
      refine lv_aload_n hx hb d_MO_counted_37 rfl (lv_at hl 1 rfl) ?_
      refine lv_dup hx hb d_MO_counted_38 rfl ?_
      refine va_get (D := (dC, dI)) (ci := 8) (v := .int (MO_came mo_1)) (C := R_MO) (T := F_MO) (N := 42) hx hb hts (in_MO _) hown hK hP 0 rfl rfl 19 (by decide) (hts _ (List.mem_cons_of_mem _ mw_711)) (fun _ h9 => h9) rfl d_MO_counted_39 ?_
      refine lv_iconst (v := 1) hx hb d_MO_counted_42 (by decide) ?_
      refine lv_iadd hx hb d_MO_counted_43 ?_
      refine va_put (D := (dC, dI)) (ci := 8) (v := .int ((MO_came mo_1) + 1)) (ty := .int) (C := R_MO) (T := F_MO) (N := 42) hx hb hts (in_MO _) t_MO t_MO_ok n_MO hown hK hP hD hS 0 rfl rfl 19 (by decide) (hts _ (List.mem_cons_of_mem _ mw_711)) (fun _ h9 => h9) rfl (by decide +kernel) rfl rfl (Nat.le_of_ble_eq_true rfl) d_MO_counted_44 (fun H locs hP hD hS => ?_)
      have hP : va_P (dC, dI) classes (wMO tC a (sMO_came mo_1 ((MO_came mo_1) + 1))) H := hP
      have hD : va_D A (wMO tC a (sMO_came mo_1 ((MO_came mo_1) + 1))) := hD
      refine lv_iconst (v := 1) hx hb d_MO_counted_47 (by decide) ?_
      obtain ⟨hq0, hr1⟩ := Prod.mk.inj (g_some hf)
      subst hq0
      subst hr1
      exact cx_iret hx hb hr hlocks hP hS d_MO_counted_48
    · have hf := g_t hf cb_1
      refine lv_bipush (v := (-4)) hx hb d_MO_counted_24 (by decide) ?_
      obtain ⟨hq0, hr1⟩ := Prod.mk.inj (g_some hf)
      subst hq0
      subst hr1
      exact cx_iret hx hb hr hlocks hP hS d_MO_counted_26
  · have hf := g_f hf cb
    refine lv_aload_n hx hb d_MO_counted_9 rfl (lv_at hl 0 rfl) ?_
    obtain ⟨⟨r_1, mo_2⟩, hc_1⟩ : ∃ z : Int32 × MOt, z = f_MO_drop mo := ⟨_, rfl⟩
    have hf := g_let hf hc_1
    try dsimp only at hf
    refine cx3_callV (As := []) (rest := []) (wMO tC a mo_2) ⟨hx, hb, hml, hown, hts⟩ (c_MO_drop l dC dI tC a mo r_1 mo_2 hc_1.symm) (k_MO_257 hts ⟨Nat.le_of_ble_eq_true rfl, Nat.le_of_ble_eq_true rfl⟩) hl.1 hP hD hS hA hK hN 0 8 rfl rfl rfl (adMO _ _ _ _) rfl rfl (Nat.le_of_ble_eq_true rfl) d_MO_counted_10 ⟨Nat.zero_le _, Nat.zero_le _⟩ (fun H locs hP hD hS => ?_)
    refine W.eq (g2 := F0 m 13 ls [.int r_1]) rfl ?_
    obtain ⟨hq0, hr1⟩ := Prod.mk.inj (g_some hf)
    subst hq0
    subst hr1
    exact cx_iret hx hb hr hlocks hP hS d_MO_counted_13
