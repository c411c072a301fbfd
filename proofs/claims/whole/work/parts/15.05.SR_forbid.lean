def f_SR_forbid (k : Nat) (x1 : Int32) (x2 : Int64) (sr : SRt) (la : LAt) (fb : FBt) : Option (Int32 × FBt) :=
  if (f_SR_isWithin (x1.toInt64) 0 2) = 0 then (
    some ((-2), fb)
  ) else
  if (LA_kind la) = 5 then (
    (f_FB_add k x1 x2 fb).bind fun (r, fb_1) =>
    some (r, fb_1)
  ) else
  some ((-3), fb)
set_option maxHeartbeats 4000000 in
set_option maxRecDepth 100000 in
theorem c_SR_forbid (l : Launch) (dC : Nat → ClassId) (dI : Nat → Nat → Nat) (tC : Nat → ClassId) (ad : Nat → Nat → Nat) (k : Nat) (x1 : Int32) (x2 : Int64) (sr : SRt) (la : LAt) (fb : FBt) (res : Int32) (fbR : FBt) (hf : f_SR_forbid k x1 x2 sr la fb = some (res, fbR)) : cx_M l y_SR_forbid w_SR_forbid { frames := 2, cells := 0, slots := 0, locals := 47 } (dC, dI) classes (tyS tC) [.ref (ad 0 0), .int x1, .long x2] (wSR tC ad sr ++ wLA tC (ad 1) la ++ wFB tC (ad 2) fb) (wSR tC ad sr ++ wLA tC (ad 1) la ++ wFB tC (ad 2) fbR) (some (.int res)) := by
  refine cx_of (cc := b_SR_forbid) (maxL := 4) (ret := some .int) (plainFor_of_name (by decide)) rfl (Nat.le_of_ble_eq_true rfl) ?_
  intro p e s m below meth c hx hb hr hml hown hts hlocks A hA H locs ls hK hN hP hD hS hl
  have hown : s.vm.findClass R_SR = some m.cls := hown
  have hl : lv_has ls 4 [(0, .ref (ad 0 0)), (1, .int x1), (2, .long x2)] := hl
  unfold f_SR_forbid at hf
  refine lv_iload_n hx hb d_SR_forbid_0 rfl (lv_at hl 1 rfl) ?_
  refine lv_i2l hx hb d_SR_forbid_1 rfl ?_
  refine lv_lconst (v := 0) hx hb d_SR_forbid_2 (by decide) ?_
  refine lv_ldc2 (v := 2) hx hb hown (hts _ (List.mem_cons_of_mem _ mw_301)) d_SR_forbid_3 ?_
  refine cx_callS (As := [.long (x1.toInt64), .long 0, .long 2]) (rest := []) ⟨hx, hb, hml, hown, hts⟩ (c_SR_isWithin l dC dI tC  (x1.toInt64) 0 2 (f_SR_isWithin (x1.toInt64) 0 2) rfl) (k_SR_95 hts ⟨Nat.le_of_ble_eq_true rfl, Nat.le_of_ble_eq_true rfl⟩) hl.1 hP hD hS hA hK hN [] rfl rfl rfl rfl rfl (Nat.le_of_ble_eq_true rfl) d_SR_forbid_6 ⟨Nat.zero_le _, Nat.zero_le _⟩ (fun H locs hP hD hS => ?_)
  have hP : va_P (dC, dI) classes (wSR tC ad sr ++ wLA tC (ad 1) la ++ wFB tC (ad 2) fb) H := hP
  have hD : va_D A (wSR tC ad sr ++ wLA tC (ad 1) la ++ wFB tC (ad 2) fb) := hD
  refine W.eq (g2 := F0 m 9 ls [.int (f_SR_isWithin (x1.toInt64) 0 2)]) rfl ?_
  refine lv_if_ne (tgt := 15) hx hb d_SR_forbid_9 (by decide) (fun cb => ?_) (fun cb => ?_)
  · have hf := g_f hf cb
    refine lv_aload_n hx hb d_SR_forbid_15 rfl (lv_at hl 0 rfl) ?_
    refine va_get (D := (dC, dI)) (ci := 0) (v := .ref (ad 1 0)) (C := R_SR) (T := F_SR) (N := 14) hx hb hts (in_SR _) hown hK hP 0 rfl rfl 0 (by decide) (hts _ (List.mem_cons_of_mem _ mw_232)) (fun _ h9 => h9) rfl d_SR_forbid_16 ?_
    refine va_get (D := (dC, dI)) (ci := 1) (v := .int (LA_kind la)) (C := R_LA) (T := F_LA) (N := 8) hx hb hts (in_LA _) hown hK hP 1 rfl rfl 0 (by decide) (hts _ (List.mem_cons_of_mem _ mw_200)) (fun _ h9 => h9) rfl d_SR_forbid_19 ?_
    refine lv_iconst (v := 5) hx hb d_SR_forbid_22 (by decide) ?_
    refine lv_icmp_eq (tgt := 29) hx hb d_SR_forbid_23 (by decide) (fun cb_1 => ?_) (fun cb_1 => ?_)
    · have hf := g_t hf cb_1
      refine lv_aload_n hx hb d_SR_forbid_29 rfl (lv_at hl 0 rfl) ?_
      refine va_get (D := (dC, dI)) (ci := 0) (v := .ref (ad 2 0)) (C := R_SR) (T := F_SR) (N := 14) hx hb hts (in_SR _) hown hK hP 0 rfl rfl 1 (by decide) (hts _ (List.mem_cons_of_mem _ mw_233)) (fun _ h9 => h9) rfl d_SR_forbid_30 ?_
      refine lv_iload_n hx hb d_SR_forbid_33 rfl (lv_at hl 1 rfl) ?_
      refine lv_lload_n hx hb d_SR_forbid_34 rfl (lv_at hl 2 rfl) ?_
      obtain ⟨⟨r, fb_1⟩, hc_1, hf⟩ := g_bind hf
      try dsimp only at hf
      refine cx2_callV (As := [.int x1, .long x2]) (rest := []) (wSR tC ad sr ++ wLA tC (ad 1) la ++ wFB tC (ad 2) fb_1) (wSR tC ad sr ++ wLA tC (ad 1) la) ⟨hx, hb, hml, hown, hts⟩ (c_FB_add l dC dI tC (ad 2) k x1 x2 fb r fb_1 hc_1) (k_SR_112 hts ⟨Nat.le_of_ble_eq_true rfl, Nat.le_of_ble_eq_true rfl⟩) hl.1 hP hD hS hA hK hN [4, 5, 6] [0, 1, 2, 3] 7 4 2 rfl rfl rfl rfl rfl (adFB _ _ _ _) rfl rfl rfl rfl (by decide) rfl rfl (Nat.le_of_ble_eq_true rfl) d_SR_forbid_35 ⟨Nat.zero_le _, Nat.zero_le _⟩ (fun H locs hP hD hS => ?_)
      refine W.eq (g2 := F0 m 38 ls [.int r]) rfl ?_
      obtain ⟨hq0, hr1⟩ := Prod.mk.inj (g_some hf)
      subst hq0
      subst hr1
      exact cx_iret hx hb hr hlocks hP hS d_SR_forbid_38
    · have hf := g_f hf cb_1
      refine lv_bipush (v := (-3)) hx hb d_SR_forbid_26 (by decide) ?_
      obtain ⟨hq0, hr1⟩ := Prod.mk.inj (g_some hf)
      subst hq0
      subst hr1
      exact cx_iret hx hb hr hlocks hP hS d_SR_forbid_28
  · have hf := g_t hf cb
    refine lv_bipush (v := (-2)) hx hb d_SR_forbid_12 (by decide) ?_
    obtain ⟨hq0, hr1⟩ := Prod.mk.inj (g_some hf)
    subst hq0
    subst hr1
    exact cx_iret hx hb hr hlocks hP hS d_SR_forbid_14
