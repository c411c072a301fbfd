def f_SR_offset (x1 : Int64) (sr : SRt) (la : LAt) : Int32 × LAt :=
  if (f_SR_isWithin x1 (-1000000000) 1000000000) = 0 then (
    ((-2), la)
  ) else
  if (SR_came sr) ≤ 0 then (
    (1, (sLA_shift la x1))
  ) else
  ((-3), la)
set_option maxHeartbeats 4000000 in
set_option maxRecDepth 100000 in
theorem c_SR_offset (l : Launch) (dC : Nat → ClassId) (dI : Nat → Nat → Nat) (tC : Nat → ClassId) (ad : Nat → Nat → Nat) (x1 : Int64) (sr : SRt) (la : LAt) (res : Int32) (laR : LAt) (hf : f_SR_offset x1 sr la = (res, laR)) : cx_M l y_SR_offset w_SR_offset { frames := 1, cells := 0, slots := 0, locals := 25 } (dC, dI) classes (tyS tC) [.ref (ad 0 0), .long x1] (wSR tC ad sr ++ wLA tC (ad 1) la) (wSR tC ad sr ++ wLA tC (ad 1) laR) (some (.int res)) := by
  refine cx_of (cc := b_SR_offset) (maxL := 3) (ret := some .int) (plainFor_of_name (by decide)) rfl (Nat.le_of_ble_eq_true rfl) ?_
  intro p e s m below meth c hx hb hr hml hown hts hlocks A hA H locs ls hK hN hP hD hS hl
  have hown : s.vm.findClass R_SR = some m.cls := hown
  have hl : lv_has ls 3 [(0, .ref (ad 0 0)), (1, .long x1)] := hl
  unfold f_SR_offset at hf
  refine lv_lload_n hx hb d_SR_offset_0 rfl (lv_at hl 1 rfl) ?_
  refine lv_ldc2 (v := (-1000000000)) hx hb hown (hts _ (List.mem_cons_of_mem _ mw_279)) d_SR_offset_1 ?_
  refine lv_ldc2 (v := 1000000000) hx hb hown (hts _ (List.mem_cons_of_mem _ mw_280)) d_SR_offset_4 ?_
  refine cx_callS (As := [.long x1, .long (-1000000000), .long 1000000000]) (rest := []) ⟨hx, hb, hml, hown, hts⟩ (c_SR_isWithin l dC dI tC  x1 (-1000000000) 1000000000 (f_SR_isWithin x1 (-1000000000) 1000000000) rfl) (k_SR_95 hts ⟨Nat.le_of_ble_eq_true rfl, Nat.le_of_ble_eq_true rfl⟩) hl.1 hP hD hS hA hK hN [] rfl rfl rfl rfl rfl (Nat.le_of_ble_eq_true rfl) d_SR_offset_7 ⟨Nat.zero_le _, Nat.zero_le _⟩ (fun H locs hP hD hS => ?_)
  have hP : va_P (dC, dI) classes (wSR tC ad sr ++ wLA tC (ad 1) la) H := hP
  have hD : va_D A (wSR tC ad sr ++ wLA tC (ad 1) la) := hD
  refine W.eq (g2 := F0 m 10 ls [.int (f_SR_isWithin x1 (-1000000000) 1000000000)]) rfl ?_
  refine lv_if_ne (tgt := 16) hx hb d_SR_offset_10 (by decide) (fun cb => ?_) (fun cb => ?_)
  · have hf := g_f hf cb
    refine lv_aload_n hx hb d_SR_offset_16 rfl (lv_at hl 0 rfl) ?_
    refine va_get (D := (dC, dI)) (ci := 0) (v := .int (SR_came sr)) (C := R_SR) (T := F_SR) (N := 14) hx hb hts (in_SR _) hown hK hP 0 rfl rfl 12 (by decide) (hts _ (List.mem_cons_of_mem _ mw_244)) (fun _ h9 => h9) rfl d_SR_offset_17 ?_
    refine lv_if_le (tgt := 26) hx hb d_SR_offset_20 (by decide) (fun cb_1 => ?_) (fun cb_1 => ?_)
    · have hf := g_t hf cb_1
      refine lv_aload_n hx hb d_SR_offset_26 rfl (lv_at hl 0 rfl) ?_
      refine va_get (D := (dC, dI)) (ci := 0) (v := .ref (ad 1 0)) (C := R_SR) (T := F_SR) (N := 14) hx hb hts (in_SR _) hown hK hP 0 rfl rfl 0 (by decide) (hts _ (List.mem_cons_of_mem _ mw_232)) (fun _ h9 => h9) rfl d_SR_offset_27 ?_
      refine lv_lload_n hx hb d_SR_offset_30 rfl (lv_at hl 1 rfl) ?_
      refine va_put (D := (dC, dI)) (ci := 1) (v := .long x1) (ty := .long) (C := R_LA) (T := F_LA) (N := 8) hx hb hts (in_LA _) t_LA t_LA_ok n_LA hown hK hP hD hS 1 rfl rfl 5 (by decide) (hts _ (List.mem_cons_of_mem _ mw_210)) (fun _ h9 => h9) rfl (by decide +kernel) rfl rfl (Nat.le_of_ble_eq_true rfl) d_SR_offset_31 (fun H locs hP hD hS => ?_)
      have hP : va_P (dC, dI) classes (wSR tC ad sr ++ wLA tC (ad 1) (sLA_shift la x1)) H := hP
      have hD : va_D A (wSR tC ad sr ++ wLA tC (ad 1) (sLA_shift la x1)) := hD
      refine lv_iconst (v := 1) hx hb d_SR_offset_34 (by decide) ?_
      obtain ⟨hq0, hr1⟩ := Prod.mk.inj hf
      subst hq0
      subst hr1
      exact cx_iret hx hb hr hlocks hP hS d_SR_offset_35
    · have hf := g_f hf cb_1
      refine lv_bipush (v := (-3)) hx hb d_SR_offset_23 (by decide) ?_
      obtain ⟨hq0, hr1⟩ := Prod.mk.inj hf
      subst hq0
      subst hr1
      exact cx_iret hx hb hr hlocks hP hS d_SR_offset_25
  · have hf := g_t hf cb
    refine lv_bipush (v := (-2)) hx hb d_SR_offset_13 (by decide) ?_
    obtain ⟨hq0, hr1⟩ := Prod.mk.inj hf
    subst hq0
    subst hr1
    exact cx_iret hx hb hr hlocks hP hS d_SR_offset_15
