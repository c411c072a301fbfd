def f_SR_putWaiting (k : Nat) (x1 : Int32) (x2 : Int64) (x4 : Int64) (sr : SRt) (rs : RSt) : Option (Int32 × SRt × RSt) :=
  if (SR_theMark sr) ≤ x2 then (
    if (f_RS_isFull rs) = 0 then (
      (f_RS_add k x1 x2 x4 rs).bind fun (r, rs_1) =>
      some (1, (sSR_came sr ((SR_came sr) + 1)), rs_1)
    ) else
    some ((-4), sr, rs)
  ) else
  gl_let (f_SR_dropLate sr) fun (r_1, sr_1) =>
  some (r_1, sr_1, rs)
set_option maxHeartbeats 4000000 in
set_option maxRecDepth 100000 in
theorem c_SR_putWaiting (l : Launch) (dC : Nat → ClassId) (dI : Nat → Nat → Nat) (tC : Nat → ClassId) (ad : Nat → Nat → Nat) (k : Nat) (x1 : Int32) (x2 : Int64) (x4 : Int64) (sr : SRt) (rs : RSt) (res : Int32) (srR : SRt) (rsR : RSt) (hf : f_SR_putWaiting k x1 x2 x4 sr rs = some (res, srR, rsR)) : cx_M l y_SR_putWaiting w_SR_putWaiting { frames := 1, cells := 0, slots := 0, locals := 27 } (dC, dI) classes (tyS tC) [.ref (ad 0 0), .int x1, .long x2, .long x4] (wSR tC ad sr ++ wRS tC (ad 3) rs) (wSR tC ad srR ++ wRS tC (ad 3) rsR) (some (.int res)) := by
  refine cx_of (cc := b_SR_putWaiting) (maxL := 6) (ret := some .int) (plainFor_of_name (by decide)) rfl (Nat.le_of_ble_eq_true rfl) ?_
  intro p e s m below meth c hx hb hr hml hown hts hlocks A hA H locs ls hK hN hP hD hS hl
  have hown : s.vm.findClass R_SR = some m.cls := hown
  have hl : lv_has ls 6 [(0, .ref (ad 0 0)), (1, .int x1), (2, .long x2), (4, .long x4)] := hl
  unfold f_SR_putWaiting at hf
  refine lv_lload_n hx hb d_SR_putWaiting_0 rfl (lv_at hl 2 rfl) ?_
  refine lv_aload_n hx hb d_SR_putWaiting_1 rfl (lv_at hl 0 rfl) ?_
  refine va_get (D := (dC, dI)) (ci := 0) (v := .long (SR_theMark sr)) (C := R_SR) (T := F_SR) (N := 14) hx hb hts (in_SR _) hown hK hP 0 rfl rfl 8 (by decide) (hts _ (List.mem_cons_of_mem _ mw_240)) (fun _ h9 => h9) rfl d_SR_putWaiting_2 ?_
  refine cq_ge (tgt := 14) hx hb d_SR_putWaiting_5 d_SR_putWaiting_6 (by decide) (fun cb => ?_) (fun cb => ?_)
  · have hf := g_t hf cb
    refine lv_aload_n hx hb d_SR_putWaiting_14 rfl (lv_at hl 0 rfl) ?_
    refine va_get (D := (dC, dI)) (ci := 0) (v := .ref (ad 3 0)) (C := R_SR) (T := F_SR) (N := 14) hx hb hts (in_SR _) hown hK hP 0 rfl rfl 2 (by decide) (hts _ (List.mem_cons_of_mem _ mw_234)) (fun _ h9 => h9) rfl d_SR_putWaiting_15 ?_
    refine cx2_callV (As := []) (rest := []) (wSR tC ad sr ++ wRS tC (ad 3) rs) (wSR tC ad sr) ⟨hx, hb, hml, hown, hts⟩ (c_RS_isFull l dC dI tC (ad 3) rs (f_RS_isFull rs) rfl) (k_SR_237 hts ⟨Nat.le_of_ble_eq_true rfl, Nat.le_of_ble_eq_true rfl⟩) hl.1 hP hD hS hA hK hN [1, 2, 3, 4, 5, 6, 7] [0] 8 1 3 rfl rfl rfl rfl rfl rfl rfl rfl rfl rfl (by decide) rfl rfl (Nat.le_of_ble_eq_true rfl) d_SR_putWaiting_18 ⟨Nat.zero_le _, Nat.zero_le _⟩ (fun H locs hP hD hS => ?_)
    refine W.eq (g2 := F0 m 21 ls [.int (f_RS_isFull rs)]) rfl ?_
    refine lv_if_eq (tgt := 27) hx hb d_SR_putWaiting_21 (by decide) (fun cb_1 => ?_) (fun cb_1 => ?_)
    · have hf := g_t hf cb_1
      refine lv_aload_n hx hb d_SR_putWaiting_27 rfl (lv_at hl 0 rfl) ?_
      refine va_get (D := (dC, dI)) (ci := 0) (v := .ref (ad 3 0)) (C := R_SR) (T := F_SR) (N := 14) hx hb hts (in_SR _) hown hK hP 0 rfl rfl 2 (by decide) (hts _ (List.mem_cons_of_mem _ mw_234)) (fun _ h9 => h9) rfl d_SR_putWaiting_28 ?_
      refine lv_iload_n hx hb d_SR_putWaiting_31 rfl (lv_at hl 1 rfl) ?_
      refine lv_lload_n hx hb d_SR_putWaiting_32 rfl (lv_at hl 2 rfl) ?_
      refine lv_lload hx hb d_SR_putWaiting_33 (lv_at hl 3 rfl) ?_
      obtain ⟨⟨r, rs_1⟩, hc_1, hf⟩ := g_bind hf
      try dsimp only at hf
      refine cx2_callV (As := [.int x1, .long x2, .long x4]) (rest := []) (wSR tC ad sr ++ wRS tC (ad 3) rs_1) (wSR tC ad sr) ⟨hx, hb, hml, hown, hts⟩ (c_RS_add l dC dI tC (ad 3) k x1 x2 x4 rs r rs_1 hc_1) (k_SR_241 hts ⟨Nat.le_of_ble_eq_true rfl, Nat.le_of_ble_eq_true rfl⟩) hl.1 hP hD hS hA hK hN [1, 2, 3, 4, 5, 6, 7] [0] 8 1 3 rfl rfl rfl rfl rfl (adRS _ _ _ _) rfl rfl rfl rfl (by decide) rfl rfl (Nat.le_of_ble_eq_true rfl) d_SR_putWaiting_35 ⟨Nat.zero_le _, Nat.zero_le _⟩ (fun H locs hP hD hS => ?_)
      refine W.eq (g2 := F0 m 38 ls [.int r]) rfl ?_
      refine lv_pop hx hb d_SR_putWaiting_38 rfl ?_
      refine lv_aload_n hx hb d_SR_putWaiting_39 rfl (lv_at hl 0 rfl) ?_
      refine lv_dup hx hb d_SR_putWaiting_40 rfl ?_
      refine va_get (D := (dC, dI)) (ci := 0) (v := .int (SR_came sr)) (C := R_SR) (T := F_SR) (N := 14) hx hb hts (in_SR _) hown hK hP 0 rfl rfl 12 (by decide) (hts _ (List.mem_cons_of_mem _ mw_244)) (fun _ h9 => h9) rfl d_SR_putWaiting_41 ?_
      refine lv_iconst (v := 1) hx hb d_SR_putWaiting_44 (by decide) ?_
      refine lv_iadd hx hb d_SR_putWaiting_45 ?_
      refine va_put (D := (dC, dI)) (ci := 0) (v := .int ((SR_came sr) + 1)) (ty := .int) (C := R_SR) (T := F_SR) (N := 14) hx hb hts (in_SR _) t_SR t_SR_ok n_SR hown hK hP hD hS 0 rfl rfl 12 (by decide) (hts _ (List.mem_cons_of_mem _ mw_244)) (fun _ h9 => h9) rfl (by decide +kernel) rfl rfl (Nat.le_of_ble_eq_true rfl) d_SR_putWaiting_46 (fun H locs hP hD hS => ?_)
      have hP : va_P (dC, dI) classes (wSR tC ad (sSR_came sr ((SR_came sr) + 1)) ++ wRS tC (ad 3) rs_1) H := hP
      have hD : va_D A (wSR tC ad (sSR_came sr ((SR_came sr) + 1)) ++ wRS tC (ad 3) rs_1) := hD
      refine lv_iconst (v := 1) hx hb d_SR_putWaiting_49 (by decide) ?_
      obtain ⟨hq0, hr1⟩ := Prod.mk.inj (g_some hf)
      obtain ⟨hq1, hr2⟩ := Prod.mk.inj hr1
      subst hq0
      subst hq1
      subst hr2
      exact cx_iret hx hb hr hlocks hP hS d_SR_putWaiting_50
    · have hf := g_f hf cb_1
      refine lv_bipush (v := (-4)) hx hb d_SR_putWaiting_24 (by decide) ?_
      obtain ⟨hq0, hr1⟩ := Prod.mk.inj (g_some hf)
      obtain ⟨hq1, hr2⟩ := Prod.mk.inj hr1
      subst hq0
      subst hq1
      subst hr2
      exact cx_iret hx hb hr hlocks hP hS d_SR_putWaiting_26
  · have hf := g_f hf cb
    refine lv_aload_n hx hb d_SR_putWaiting_9 rfl (lv_at hl 0 rfl) ?_
    obtain ⟨⟨r_1, sr_1⟩, hc_2⟩ : ∃ z : Int32 × SRt, z = f_SR_dropLate sr := ⟨_, rfl⟩
    have hf := g_let hf hc_2
    try dsimp only at hf
    refine cx2_callV (As := []) (rest := []) (wSR tC ad sr_1 ++ wRS tC (ad 3) rs) (wRS tC (ad 3) rs) ⟨hx, hb, hml, hown, hts⟩ (c_SR_dropLate l dC dI tC ad sr r_1 sr_1 hc_2.symm) (k_SR_234 hts ⟨Nat.le_of_ble_eq_true rfl, Nat.le_of_ble_eq_true rfl⟩) hl.1 hP hD hS hA hK hN [0] [1, 2, 3, 4, 5, 6, 7] 8 0 0 rfl rfl rfl rfl rfl (adSR _ _ _ _) rfl rfl rfl rfl (by decide) rfl rfl (Nat.le_of_ble_eq_true rfl) d_SR_putWaiting_10 ⟨Nat.zero_le _, Nat.zero_le _⟩ (fun H locs hP hD hS => ?_)
    refine W.eq (g2 := F0 m 13 ls [.int r_1]) rfl ?_
    obtain ⟨hq0, hr1⟩ := Prod.mk.inj (g_some hf)
    obtain ⟨hq1, hr2⟩ := Prod.mk.inj hr1
    subst hq0
    subst hq1
    subst hr2
    exact cx_iret hx hb hr hlocks hP hS d_SR_putWaiting_13
