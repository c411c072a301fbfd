def f_SR_isWaitedFor (x1 : Int32) (sr : SRt) (la : LAt) (rs : RSt) (nu : NUt) : Option Int32 :=
  if x1 < 0 ∨ 300 ≤ x1.toNatClampNeg then none else
  (f_SR_by ((RS_numbers rs x1.toNatClampNeg).toInt64) (LA_step la)).bind fun r =>
  gl_let (((LA_step la) * r)) fun v2 =>
  if (RS_keys rs x1.toNatClampNeg) < 0 ∨ 8 ≤ (RS_keys rs x1.toNatClampNeg).toNatClampNeg then none else
  if (v2 + (LA_size la)) ≤ (NU_numbered nu (RS_keys rs x1.toNatClampNeg).toNatClampNeg).toInt64 then (
    some 0
  ) else
  some 1
set_option maxHeartbeats 4000000 in
set_option maxRecDepth 100000 in
theorem c_SR_isWaitedFor (l : Launch) (dC : Nat → ClassId) (dI : Nat → Nat → Nat) (tC : Nat → ClassId) (ad : Nat → Nat → Nat) (x1 : Int32) (sr : SRt) (la : LAt) (rs : RSt) (nu : NUt) (res : Int32) (hf : f_SR_isWaitedFor x1 sr la rs nu = some res) : cx_M l y_SR_isWaitedFor w_SR_isWaitedFor { frames := 2, cells := 0, slots := 0, locals := 48 } (dC, dI) classes (tyS tC) [.ref (ad 0 0), .int x1] (wSR tC ad sr ++ wLA tC (ad 1) la ++ wRS tC (ad 3) rs ++ wNU tC (ad 5) nu) (wSR tC ad sr ++ wLA tC (ad 1) la ++ wRS tC (ad 3) rs ++ wNU tC (ad 5) nu) (some (.int res)) := by
  refine cx_of (cc := b_SR_isWaitedFor) (maxL := 4) (ret := some .boolean) (plainFor_of_name (by decide)) rfl (Nat.le_of_ble_eq_true rfl) ?_
  intro p e s m below meth c hx hb hr hml hown hts hlocks A hA H locs ls hK hN hP hD hS hl
  have hown : s.vm.findClass R_SR = some m.cls := hown
  have hl : lv_has ls 4 [(0, .ref (ad 0 0)), (1, .int x1)] := hl
  unfold f_SR_isWaitedFor at hf
  refine lv_aload_n hx hb d_SR_isWaitedFor_0 rfl (lv_at hl 0 rfl) ?_
  refine va_get (D := (dC, dI)) (ci := 0) (v := .ref (ad 1 0)) (C := R_SR) (T := F_SR) (N := 14) hx hb hts (in_SR _) hown hK hP 0 rfl rfl 0 (by decide) (hts _ (List.mem_cons_of_mem _ mw_232)) (fun _ h9 => h9) rfl d_SR_isWaitedFor_1 ?_
  refine va_get (D := (dC, dI)) (ci := 1) (v := .long (LA_step la)) (C := R_LA) (T := F_LA) (N := 8) hx hb hts (in_LA _) hown hK hP 1 rfl rfl 2 (by decide) (hts _ (List.mem_cons_of_mem _ mw_204)) (fun _ h9 => h9) rfl d_SR_isWaitedFor_4 ?_
  refine lv_aload_n hx hb d_SR_isWaitedFor_7 rfl (lv_at hl 0 rfl) ?_
  refine va_get (D := (dC, dI)) (ci := 0) (v := .ref (ad 3 0)) (C := R_SR) (T := F_SR) (N := 14) hx hb hts (in_SR _) hown hK hP 0 rfl rfl 2 (by decide) (hts _ (List.mem_cons_of_mem _ mw_234)) (fun _ h9 => h9) rfl d_SR_isWaitedFor_8 ?_
  refine va_get (D := (dC, dI)) (ci := 3) (v := .ref ((ad 3) 4)) (C := R_RS) (T := F_RS) (N := 7) hx hb hts (in_RS _) hown hK hP 4 rfl rfl 3 (by decide) (hts _ (List.mem_cons_of_mem _ mw_52)) (fun _ h9 => h9) rfl d_SR_isWaitedFor_11 ?_
  refine lv_iload_n hx hb d_SR_isWaitedFor_14 rfl (lv_at hl 1 rfl) ?_
  obtain ⟨ck, hf⟩ := g_ck hf
  refine va_iald (D := (dC, dI)) hx hb hK hP 8 0 rfl rfl ck d_SR_isWaitedFor_15 ?_
  refine lv_i2l hx hb d_SR_isWaitedFor_16 rfl ?_
  refine lv_aload_n hx hb d_SR_isWaitedFor_17 rfl (lv_at hl 0 rfl) ?_
  refine va_get (D := (dC, dI)) (ci := 0) (v := .ref (ad 1 0)) (C := R_SR) (T := F_SR) (N := 14) hx hb hts (in_SR _) hown hK hP 0 rfl rfl 0 (by decide) (hts _ (List.mem_cons_of_mem _ mw_232)) (fun _ h9 => h9) rfl d_SR_isWaitedFor_18 ?_
  refine va_get (D := (dC, dI)) (ci := 1) (v := .long (LA_step la)) (C := R_LA) (T := F_LA) (N := 8) hx hb hts (in_LA _) hown hK hP 1 rfl rfl 2 (by decide) (hts _ (List.mem_cons_of_mem _ mw_204)) (fun _ h9 => h9) rfl d_SR_isWaitedFor_21 ?_
  obtain ⟨r, hc, hf⟩ := g_bind hf
  try dsimp only at hf
  refine cx_callS (As := [.long ((RS_numbers rs x1.toNatClampNeg).toInt64), .long (LA_step la)]) (rest := [.long (LA_step la)]) ⟨hx, hb, hml, hown, hts⟩ (c_SR_by l dC dI tC  ((RS_numbers rs x1.toNatClampNeg).toInt64) (LA_step la) r hc) (k_SR_361 hts ⟨Nat.le_of_ble_eq_true rfl, Nat.le_of_ble_eq_true rfl⟩) hl.1 hP hD hS hA hK hN [] rfl rfl rfl rfl rfl (Nat.le_of_ble_eq_true rfl) d_SR_isWaitedFor_24 ⟨Nat.zero_le _, Nat.zero_le _⟩ (fun H locs hP hD hS => ?_)
  have hP : va_P (dC, dI) classes (wSR tC ad sr ++ wLA tC (ad 1) la ++ wRS tC (ad 3) rs ++ wNU tC (ad 5) nu) H := hP
  have hD : va_D A (wSR tC ad sr ++ wLA tC (ad 1) la ++ wRS tC (ad 3) rs ++ wNU tC (ad 5) nu) := hD
  refine W.eq (g2 := F0 m 27 ls [.long r, .long (LA_step la)]) rfl ?_
  refine lv_lmul hx hb d_SR_isWaitedFor_27 ?_
  refine lv_topl (fun v2 h_v2 => ?_)
  have hf := g_let hf h_v2
  refine lv_lstore_n (lv' := [(2, .long v2), (0, .ref (ad 0 0)), (1, .int x1)]) hx hb d_SR_isWaitedFor_28 rfl hl (by decide) rfl (fun ls hl => ?_)
  refine lv_lload_n hx hb d_SR_isWaitedFor_29 rfl (lv_at hl 0 rfl) ?_
  refine lv_aload_n hx hb d_SR_isWaitedFor_30 rfl (lv_at hl 1 rfl) ?_
  refine va_get (D := (dC, dI)) (ci := 0) (v := .ref (ad 1 0)) (C := R_SR) (T := F_SR) (N := 14) hx hb hts (in_SR _) hown hK hP 0 rfl rfl 0 (by decide) (hts _ (List.mem_cons_of_mem _ mw_232)) (fun _ h9 => h9) rfl d_SR_isWaitedFor_31 ?_
  refine va_get (D := (dC, dI)) (ci := 1) (v := .long (LA_size la)) (C := R_LA) (T := F_LA) (N := 8) hx hb hts (in_LA _) hown hK hP 1 rfl rfl 1 (by decide) (hts _ (List.mem_cons_of_mem _ mw_202)) (fun _ h9 => h9) rfl d_SR_isWaitedFor_34 ?_
  refine lv_ladd hx hb d_SR_isWaitedFor_37 ?_
  refine lv_aload_n hx hb d_SR_isWaitedFor_38 rfl (lv_at hl 1 rfl) ?_
  refine va_get (D := (dC, dI)) (ci := 0) (v := .ref (ad 5 0)) (C := R_SR) (T := F_SR) (N := 14) hx hb hts (in_SR _) hown hK hP 0 rfl rfl 4 (by decide) (hts _ (List.mem_cons_of_mem _ mw_236)) (fun _ h9 => h9) rfl d_SR_isWaitedFor_39 ?_
  refine va_get (D := (dC, dI)) (ci := 5) (v := .ref ((ad 5) 1)) (C := R_NU) (T := F_NU) (N := 2) hx hb hts (in_NU _) hown hK hP 11 rfl rfl 0 (by decide) (hts _ (List.mem_cons_of_mem _ mw_136)) (fun _ h9 => h9) rfl d_SR_isWaitedFor_42 ?_
  refine lv_aload_n hx hb d_SR_isWaitedFor_45 rfl (lv_at hl 1 rfl) ?_
  refine va_get (D := (dC, dI)) (ci := 0) (v := .ref (ad 3 0)) (C := R_SR) (T := F_SR) (N := 14) hx hb hts (in_SR _) hown hK hP 0 rfl rfl 2 (by decide) (hts _ (List.mem_cons_of_mem _ mw_234)) (fun _ h9 => h9) rfl d_SR_isWaitedFor_46 ?_
  refine va_get (D := (dC, dI)) (ci := 3) (v := .ref ((ad 3) 1)) (C := R_RS) (T := F_RS) (N := 7) hx hb hts (in_RS _) hown hK hP 4 rfl rfl 0 (by decide) (hts _ (List.mem_cons_of_mem _ mw_46)) (fun _ h9 => h9) rfl d_SR_isWaitedFor_49 ?_
  refine lv_iload_n hx hb d_SR_isWaitedFor_52 rfl (lv_at hl 2 rfl) ?_
  refine va_iald (D := (dC, dI)) hx hb hK hP 5 0 rfl rfl ck d_SR_isWaitedFor_53 ?_
  obtain ⟨ck_1, hf⟩ := g_ck hf
  refine va_iald (D := (dC, dI)) hx hb hK hP 12 0 rfl rfl ck_1 d_SR_isWaitedFor_54 ?_
  refine lv_i2l hx hb d_SR_isWaitedFor_55 rfl ?_
  refine cq_le (tgt := 64) hx hb d_SR_isWaitedFor_56 d_SR_isWaitedFor_57 (by decide) (fun cb => ?_) (fun cb => ?_)
  · have hf := g_t hf cb
    refine lv_iconst (v := 0) hx hb d_SR_isWaitedFor_64 (by decide) ?_
    have hq0 := (g_some hf)
    subst hq0
    exact cx_zret hx hb hr hlocks rfl hP hS d_SR_isWaitedFor_65
  · have hf := g_f hf cb
    refine lv_iconst (v := 1) hx hb d_SR_isWaitedFor_60 (by decide) ?_
    refine lv_goto (tgt := 65) hx hb d_SR_isWaitedFor_61 (by decide) ?_
    have hq0 := (g_some hf)
    subst hq0
    exact cx_zret hx hb hr hlocks rfl hP hS d_SR_isWaitedFor_65
