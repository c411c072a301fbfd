def f_SR_spans (k : Nat) (x1 : Int32) (sr : SRt) (la : LAt) (ss : SSt) (nu : NUt) : Option Int32 :=
  if (f_SR_isKey x1) = 0 then (
    some (-1)
  ) else
  if (LA_kind la) = 3 then (
    if x1 < 0 ∨ 8 ≤ x1.toNatClampNeg then none else
    some (NU_numbered nu x1.toNatClampNeg)
  ) else
  (f_SS_ofKey k x1 ss).bind fun r =>
  some r
set_option maxHeartbeats 4000000 in
set_option maxRecDepth 100000 in
theorem c_SR_spans (l : Launch) (dC : Nat → ClassId) (dI : Nat → Nat → Nat) (tC : Nat → ClassId) (ad : Nat → Nat → Nat) (k : Nat) (x1 : Int32) (sr : SRt) (la : LAt) (ss : SSt) (nu : NUt) (res : Int32) (hf : f_SR_spans k x1 sr la ss nu = some res) : cx_M l y_SR_spans w_SR_spans { frames := 2, cells := 0, slots := 0, locals := 45 } (dC, dI) classes (tyS tC) [.ref (ad 0 0), .int x1] (wSR tC ad sr ++ wLA tC (ad 1) la ++ wSS tC (ad 4) ss ++ wNU tC (ad 5) nu) (wSR tC ad sr ++ wLA tC (ad 1) la ++ wSS tC (ad 4) ss ++ wNU tC (ad 5) nu) (some (.int res)) := by
  refine cx_of (cc := b_SR_spans) (maxL := 2) (ret := some .int) (plainFor_of_name (by decide)) rfl (Nat.le_of_ble_eq_true rfl) ?_
  intro p e s m below meth c hx hb hr hml hown hts hlocks A hA H locs ls hK hN hP hD hS hl
  have hown : s.vm.findClass R_SR = some m.cls := hown
  have hl : lv_has ls 2 [(0, .ref (ad 0 0)), (1, .int x1)] := hl
  unfold f_SR_spans at hf
  refine lv_iload_n hx hb d_SR_spans_0 rfl (lv_at hl 1 rfl) ?_
  refine cx_callS (As := [.int x1]) (rest := []) ⟨hx, hb, hml, hown, hts⟩ (c_SR_isKey l dC dI tC  x1 (f_SR_isKey x1) rfl) (k_SR_116 hts ⟨Nat.le_of_ble_eq_true rfl, Nat.le_of_ble_eq_true rfl⟩) hl.1 hP hD hS hA hK hN [] rfl rfl rfl rfl rfl (Nat.le_of_ble_eq_true rfl) d_SR_spans_1 ⟨Nat.zero_le _, Nat.zero_le _⟩ (fun H locs hP hD hS => ?_)
  have hP : va_P (dC, dI) classes (wSR tC ad sr ++ wLA tC (ad 1) la ++ wSS tC (ad 4) ss ++ wNU tC (ad 5) nu) H := hP
  have hD : va_D A (wSR tC ad sr ++ wLA tC (ad 1) la ++ wSS tC (ad 4) ss ++ wNU tC (ad 5) nu) := hD
  refine W.eq (g2 := F0 m 4 ls [.int (f_SR_isKey x1)]) rfl ?_
  refine lv_if_ne (tgt := 9) hx hb d_SR_spans_4 (by decide) (fun cb => ?_) (fun cb => ?_)
  · have hf := g_f hf cb
    refine lv_aload_n hx hb d_SR_spans_9 rfl (lv_at hl 0 rfl) ?_
    refine va_get (D := (dC, dI)) (ci := 0) (v := .ref (ad 1 0)) (C := R_SR) (T := F_SR) (N := 14) hx hb hts (in_SR _) hown hK hP 0 rfl rfl 0 (by decide) (hts _ (List.mem_cons_of_mem _ mw_232)) (fun _ h9 => h9) rfl d_SR_spans_10 ?_
    refine va_get (D := (dC, dI)) (ci := 1) (v := .int (LA_kind la)) (C := R_LA) (T := F_LA) (N := 8) hx hb hts (in_LA _) hown hK hP 1 rfl rfl 0 (by decide) (hts _ (List.mem_cons_of_mem _ mw_200)) (fun _ h9 => h9) rfl d_SR_spans_13 ?_
    refine lv_iconst (v := 3) hx hb d_SR_spans_16 (by decide) ?_
    refine lv_icmp_ne (tgt := 32) hx hb d_SR_spans_17 (by decide) (fun cb_1 => ?_) (fun cb_1 => ?_)
    · have hf := g_f hf cb_1
      refine lv_aload_n hx hb d_SR_spans_32 rfl (lv_at hl 0 rfl) ?_
      refine va_get (D := (dC, dI)) (ci := 0) (v := .ref (ad 4 0)) (C := R_SR) (T := F_SR) (N := 14) hx hb hts (in_SR _) hown hK hP 0 rfl rfl 3 (by decide) (hts _ (List.mem_cons_of_mem _ mw_235)) (fun _ h9 => h9) rfl d_SR_spans_33 ?_
      refine lv_iload_n hx hb d_SR_spans_36 rfl (lv_at hl 1 rfl) ?_
      obtain ⟨r, hc_1, hf⟩ := g_bind hf
      try dsimp only at hf
      refine cx2_callV (As := [.int x1]) (rest := []) (wSR tC ad sr ++ wLA tC (ad 1) la ++ wSS tC (ad 4) ss ++ wNU tC (ad 5) nu) (wSR tC ad sr ++ wLA tC (ad 1) la ++ wNU tC (ad 5) nu) ⟨hx, hb, hml, hown, hts⟩ (c_SS_ofKey l dC dI tC (ad 4) k x1 ss r hc_1) (k_SR_183 hts ⟨Nat.le_of_ble_eq_true rfl, Nat.le_of_ble_eq_true rfl⟩) hl.1 hP hD hS hA hK hN [4, 5, 6, 7, 8, 9, 10, 11, 12, 13, 14, 15] [0, 1, 2, 3, 16, 17, 18] 19 4 4 rfl rfl rfl rfl rfl rfl rfl rfl rfl rfl (by decide) rfl rfl (Nat.le_of_ble_eq_true rfl) d_SR_spans_37 ⟨Nat.zero_le _, Nat.zero_le _⟩ (fun H locs hP hD hS => ?_)
      refine W.eq (g2 := F0 m 40 ls [.int r]) rfl ?_
      have hq0 := (g_some hf)
      subst hq0
      exact cx_iret hx hb hr hlocks hP hS d_SR_spans_40
    · have hf := g_t hf cb_1
      refine lv_aload_n hx hb d_SR_spans_20 rfl (lv_at hl 0 rfl) ?_
      refine va_get (D := (dC, dI)) (ci := 0) (v := .ref (ad 5 0)) (C := R_SR) (T := F_SR) (N := 14) hx hb hts (in_SR _) hown hK hP 0 rfl rfl 4 (by decide) (hts _ (List.mem_cons_of_mem _ mw_236)) (fun _ h9 => h9) rfl d_SR_spans_21 ?_
      refine va_get (D := (dC, dI)) (ci := 5) (v := .ref ((ad 5) 1)) (C := R_NU) (T := F_NU) (N := 2) hx hb hts (in_NU _) hown hK hP 16 rfl rfl 0 (by decide) (hts _ (List.mem_cons_of_mem _ mw_136)) (fun _ h9 => h9) rfl d_SR_spans_24 ?_
      refine lv_iload_n hx hb d_SR_spans_27 rfl (lv_at hl 1 rfl) ?_
      obtain ⟨ck, hf⟩ := g_ck hf
      refine va_iald (D := (dC, dI)) hx hb hK hP 17 0 rfl rfl ck d_SR_spans_28 ?_
      refine lv_goto (tgt := 40) hx hb d_SR_spans_29 (by decide) ?_
      have hq0 := (g_some hf)
      subst hq0
      exact cx_iret hx hb hr hlocks hP hS d_SR_spans_40
  · have hf := g_t hf cb
    refine lv_iconst (v := (-1)) hx hb d_SR_spans_7 (by decide) ?_
    have hq0 := (g_some hf)
    subst hq0
    exact cx_iret hx hb hr hlocks hP hS d_SR_spans_8
