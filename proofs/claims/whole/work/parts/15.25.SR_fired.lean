def f_SR_fired (x1 : Int32) (x2 : Int32) (sr : SRt) (fs : FSt) : Option Int64 :=
  if (f_SR_isWithin (x1.toInt64) 0 (((f_FS_kept fs) - 1).toInt64)) = 0 then (
    some (-1000000000000001)
  ) else
  if (f_SR_isWithin (x2.toInt64) 0 9) = 0 then (
    some (-1000000000000002)
  ) else
  (f_FS_cell x1 x2 fs).bind fun r =>
  some r
set_option maxHeartbeats 4000000 in
set_option maxRecDepth 100000 in
theorem c_SR_fired (l : Launch) (dC : Nat → ClassId) (dI : Nat → Nat → Nat) (tC : Nat → ClassId) (ad : Nat → Nat → Nat) (x1 : Int32) (x2 : Int32) (sr : SRt) (fs : FSt) (res : Int64) (hf : f_SR_fired x1 x2 sr fs = some res) : cx_M l y_SR_fired w_SR_fired { frames := 3, cells := 0, slots := 0, locals := 66 } (dC, dI) classes (tyS tC) [.ref (ad 0 0), .int x1, .int x2] (wSR tC ad sr ++ wFS tC (ad 6) fs) (wSR tC ad sr ++ wFS tC (ad 6) fs) (some (.long res)) := by
  refine cx_of (cc := b_SR_fired) (maxL := 3) (ret := some .long) (plainFor_of_name (by decide)) rfl (Nat.le_of_ble_eq_true rfl) ?_
  intro p e s m below meth c hx hb hr hml hown hts hlocks A hA H locs ls hK hN hP hD hS hl
  have hown : s.vm.findClass R_SR = some m.cls := hown
  have hl : lv_has ls 3 [(0, .ref (ad 0 0)), (1, .int x1), (2, .int x2)] := hl
  unfold f_SR_fired at hf
  refine lv_iload_n hx hb d_SR_fired_0 rfl (lv_at hl 1 rfl) ?_
  refine lv_i2l hx hb d_SR_fired_1 rfl ?_
  refine lv_lconst (v := 0) hx hb d_SR_fired_2 (by decide) ?_
  refine lv_aload_n hx hb d_SR_fired_3 rfl (lv_at hl 0 rfl) ?_
  refine va_get (D := (dC, dI)) (ci := 0) (v := .ref (ad 6 0)) (C := R_SR) (T := F_SR) (N := 14) hx hb hts (in_SR _) hown hK hP 0 rfl rfl 5 (by decide) (hts _ (List.mem_cons_of_mem _ mw_237)) (fun _ h9 => h9) rfl d_SR_fired_4 ?_
  refine cx2_callV (As := []) (rest := [.long 0, .long (x1.toInt64)]) (wSR tC ad sr ++ wFS tC (ad 6) fs) (wSR tC ad sr) ⟨hx, hb, hml, hown, hts⟩ (c_FS_kept l dC dI tC (ad 6) fs (f_FS_kept fs) rfl) (k_SR_161 hts ⟨Nat.le_of_ble_eq_true rfl, Nat.le_of_ble_eq_true rfl⟩) hl.1 hP hD hS hA hK hN [1, 2] [0] 3 1 6 rfl rfl rfl rfl rfl rfl rfl rfl rfl rfl (by decide) rfl rfl (Nat.le_of_ble_eq_true rfl) d_SR_fired_7 ⟨Nat.zero_le _, Nat.zero_le _⟩ (fun H locs hP hD hS => ?_)
  refine W.eq (g2 := F0 m 10 ls [.int (f_FS_kept fs), .long 0, .long (x1.toInt64)]) rfl ?_
  refine lv_iconst (v := 1) hx hb d_SR_fired_10 (by decide) ?_
  refine lv_isub hx hb d_SR_fired_11 ?_
  refine lv_i2l hx hb d_SR_fired_12 rfl ?_
  refine cx_callS (As := [.long (x1.toInt64), .long 0, .long (((f_FS_kept fs) - 1).toInt64)]) (rest := []) ⟨hx, hb, hml, hown, hts⟩ (c_SR_isWithin l dC dI tC  (x1.toInt64) 0 (((f_FS_kept fs) - 1).toInt64) (f_SR_isWithin (x1.toInt64) 0 (((f_FS_kept fs) - 1).toInt64)) rfl) (k_SR_95 hts ⟨Nat.le_of_ble_eq_true rfl, Nat.le_of_ble_eq_true rfl⟩) hl.1 hP hD hS hA hK hN [] rfl rfl rfl rfl rfl (Nat.le_of_ble_eq_true rfl) d_SR_fired_13 ⟨Nat.zero_le _, Nat.zero_le _⟩ (fun H locs hP hD hS => ?_)
  have hP : va_P (dC, dI) classes (wSR tC ad sr ++ wFS tC (ad 6) fs) H := hP
  have hD : va_D A (wSR tC ad sr ++ wFS tC (ad 6) fs) := hD
  refine W.eq (g2 := F0 m 16 ls [.int (f_SR_isWithin (x1.toInt64) 0 (((f_FS_kept fs) - 1).toInt64))]) rfl ?_
  refine lv_if_ne (tgt := 23) hx hb d_SR_fired_16 (by decide) (fun cb => ?_) (fun cb => ?_)
  · have hf := g_f hf cb
    refine lv_iload_n hx hb d_SR_fired_23 rfl (lv_at hl 2 rfl) ?_
    refine lv_i2l hx hb d_SR_fired_24 rfl ?_
    refine lv_lconst (v := 0) hx hb d_SR_fired_25 (by decide) ?_
    refine lv_ldc2 (v := 9) hx hb hown (hts _ (List.mem_cons_of_mem _ mw_427)) d_SR_fired_26 ?_
    refine cx_callS (As := [.long (x2.toInt64), .long 0, .long 9]) (rest := []) ⟨hx, hb, hml, hown, hts⟩ (c_SR_isWithin l dC dI tC  (x2.toInt64) 0 9 (f_SR_isWithin (x2.toInt64) 0 9) rfl) (k_SR_95 hts ⟨Nat.le_of_ble_eq_true rfl, Nat.le_of_ble_eq_true rfl⟩) hl.1 hP hD hS hA hK hN [] rfl rfl rfl rfl rfl (Nat.le_of_ble_eq_true rfl) d_SR_fired_29 ⟨Nat.zero_le _, Nat.zero_le _⟩ (fun H locs hP hD hS => ?_)
    have hP : va_P (dC, dI) classes (wSR tC ad sr ++ wFS tC (ad 6) fs) H := hP
    have hD : va_D A (wSR tC ad sr ++ wFS tC (ad 6) fs) := hD
    refine W.eq (g2 := F0 m 32 ls [.int (f_SR_isWithin (x2.toInt64) 0 9)]) rfl ?_
    refine lv_if_ne (tgt := 39) hx hb d_SR_fired_32 (by decide) (fun cb_1 => ?_) (fun cb_1 => ?_)
    · have hf := g_f hf cb_1
      refine lv_aload_n hx hb d_SR_fired_39 rfl (lv_at hl 0 rfl) ?_
      refine va_get (D := (dC, dI)) (ci := 0) (v := .ref (ad 6 0)) (C := R_SR) (T := F_SR) (N := 14) hx hb hts (in_SR _) hown hK hP 0 rfl rfl 5 (by decide) (hts _ (List.mem_cons_of_mem _ mw_237)) (fun _ h9 => h9) rfl d_SR_fired_40 ?_
      refine lv_iload_n hx hb d_SR_fired_43 rfl (lv_at hl 1 rfl) ?_
      refine lv_iload_n hx hb d_SR_fired_44 rfl (lv_at hl 2 rfl) ?_
      obtain ⟨r, hc_3, hf⟩ := g_bind hf
      try dsimp only at hf
      refine cx2_callV (As := [.int x1, .int x2]) (rest := []) (wSR tC ad sr ++ wFS tC (ad 6) fs) (wSR tC ad sr) ⟨hx, hb, hml, hown, hts⟩ (c_FS_cell l dC dI tC (ad 6) x1 x2 fs r hc_3) (k_SR_175 hts ⟨Nat.le_of_ble_eq_true rfl, Nat.le_of_ble_eq_true rfl⟩) hl.1 hP hD hS hA hK hN [1, 2] [0] 3 1 6 rfl rfl rfl rfl rfl rfl rfl rfl rfl rfl (by decide) rfl rfl (Nat.le_of_ble_eq_true rfl) d_SR_fired_45 ⟨Nat.zero_le _, Nat.zero_le _⟩ (fun H locs hP hD hS => ?_)
      refine W.eq (g2 := F0 m 48 ls [.long r]) rfl ?_
      have hq0 := (g_some hf)
      subst hq0
      exact cx_lret hx hb hr hlocks hP hS d_SR_fired_48
    · have hf := g_t hf cb_1
      refine lv_ldc2 (v := (-1000000000000002)) hx hb hown (hts _ (List.mem_cons_of_mem _ mw_428)) d_SR_fired_35 ?_
      have hq0 := (g_some hf)
      subst hq0
      exact cx_lret hx hb hr hlocks hP hS d_SR_fired_38
  · have hf := g_t hf cb
    refine lv_ldc2 (v := (-1000000000000001)) hx hb hown (hts _ (List.mem_cons_of_mem _ mw_426)) d_SR_fired_19 ?_
    have hq0 := (g_some hf)
    subst hq0
    exact cx_lret hx hb hr hlocks hP hS d_SR_fired_22
