def f_SR_span (k : Nat) (x1 : Int32) (x2 : Int32) (x3 : Int32) (sr : SRt) (rs : RSt) (ss : SSt) (co : COt) : Option (Int64 × COt) :=
  (f_SS_nthOfKey k x1 x2 ss).bind fun r =>
  if r = (-1) then (
    some ((-1000000000000001), co)
  ) else
  if x3 = 1 then (
    if r < 0 ∨ 200 ≤ r.toNatClampNeg then none else
    some ((SS_begins ss r.toNatClampNeg), co)
  ) else
  if x3 = 2 then (
    if r < 0 ∨ 200 ≤ r.toNatClampNeg then none else
    some ((SS_ends ss r.toNatClampNeg), co)
  ) else
  if x3 = 3 then (
    some ((-1000000000000002), co)
  ) else
  if x3 = 4 then (
    (f_SR_gather k r sr rs co 1000 (SS_had ss)).bind fun co_1 =>
    some ((f_CO_part x3 co_1), co_1)
  ) else
  if x3 = 5 then (
    (f_SR_gather k r sr rs co 1000 (SS_had ss)).bind fun co_2 =>
    some ((f_CO_part x3 co_2), co_2)
  ) else
  if x3 = 6 then (
    (f_SR_gather k r sr rs co 1000 (SS_had ss)).bind fun co_3 =>
    some ((f_CO_part x3 co_3), co_3)
  ) else
  if x3 = 7 then (
    (f_SR_gather k r sr rs co 1000 (SS_had ss)).bind fun co_4 =>
    some ((f_CO_part x3 co_4), co_4)
  ) else
  if x3 = 8 then (
    (f_SR_gather k r sr rs co 1000 (SS_had ss)).bind fun co_5 =>
    some ((f_CO_part x3 co_5), co_5)
  ) else
  if x3 = 9 then (
    if r < 0 ∨ 200 ≤ r.toNatClampNeg then none else
    some ((SS_fires ss r.toNatClampNeg).toInt64, co)
  ) else
  if x3 = 10 then (
    if r < 0 ∨ 200 ≤ r.toNatClampNeg then none else
    some ((SS_since ss r.toNatClampNeg).toInt64, co)
  ) else
  some ((-1000000000000002), co)
set_option maxHeartbeats 4000000 in
set_option maxRecDepth 100000 in
theorem c_SR_span (l : Launch) (dC : Nat → ClassId) (dI : Nat → Nat → Nat) (tC : Nat → ClassId) (ad : Nat → Nat → Nat) (k : Nat) (x1 : Int32) (x2 : Int32) (x3 : Int32) (sr : SRt) (rs : RSt) (ss : SSt) (co : COt) (res : Int64) (coR : COt) (hf : f_SR_span k x1 x2 x3 sr rs ss co = some (res, coR)) : cx_M l y_SR_span w_SR_span { frames := 3, cells := 0, slots := 0, locals := 70 } (dC, dI) classes (tyS tC) [.ref (ad 0 0), .int x1, .int x2, .int x3] (wSR tC ad sr ++ wRS tC (ad 3) rs ++ wSS tC (ad 4) ss ++ wCO tC (ad 7) co) (wSR tC ad sr ++ wRS tC (ad 3) rs ++ wSS tC (ad 4) ss ++ wCO tC (ad 7) coR) (some (.long res)) := by
  refine cx_of (cc := b_SR_span) (maxL := 5) (ret := some .long) (plainFor_of_name (by decide)) rfl (Nat.le_of_ble_eq_true rfl) ?_
  intro p e s m below meth c hx hb hr hml hown hts hlocks A hA H locs ls hK hN hP hD hS hl
  have hown : s.vm.findClass R_SR = some m.cls := hown
  have hl : lv_has ls 5 [(0, .ref (ad 0 0)), (1, .int x1), (2, .int x2), (3, .int x3)] := hl
  unfold f_SR_span at hf
  refine lv_aload_n hx hb d_SR_span_0 rfl (lv_at hl 0 rfl) ?_
  refine va_get (D := (dC, dI)) (ci := 0) (v := .ref (ad 4 0)) (C := R_SR) (T := F_SR) (N := 14) hx hb hts (in_SR _) hown hK hP 0 rfl rfl 3 (by decide) (hts _ (List.mem_cons_of_mem _ mw_235)) (fun _ h9 => h9) rfl d_SR_span_1 ?_
  refine lv_iload_n hx hb d_SR_span_4 rfl (lv_at hl 1 rfl) ?_
  refine lv_iload_n hx hb d_SR_span_5 rfl (lv_at hl 2 rfl) ?_
  obtain ⟨r, hc, hf⟩ := g_bind hf
  try dsimp only at hf
  refine cx2_callV (As := [.int x1, .int x2]) (rest := []) (wSR tC ad sr ++ wRS tC (ad 3) rs ++ wSS tC (ad 4) ss ++ wCO tC (ad 7) co) (wSR tC ad sr ++ wRS tC (ad 3) rs ++ wCO tC (ad 7) co) ⟨hx, hb, hml, hown, hts⟩ (c_SS_nthOfKey l dC dI tC (ad 4) k x1 x2 ss r hc) (k_SR_187 hts ⟨Nat.le_of_ble_eq_true rfl, Nat.le_of_ble_eq_true rfl⟩) hl.1 hP hD hS hA hK hN [8, 9, 10, 11, 12, 13, 14, 15, 16, 17, 18, 19] [0, 1, 2, 3, 4, 5, 6, 7, 20] 21 8 4 rfl rfl rfl rfl rfl rfl rfl rfl rfl rfl (by decide) rfl rfl (Nat.le_of_ble_eq_true rfl) d_SR_span_6 ⟨Nat.zero_le _, Nat.zero_le _⟩ (fun H locs hP hD hS => ?_)
  refine W.eq (g2 := F0 m 9 ls [.int r]) rfl ?_
  refine lv_istore (lv' := [(4, .int r), (0, .ref (ad 0 0)), (1, .int x1), (2, .int x2), (3, .int x3)]) hx hb d_SR_span_9 hl (by decide) rfl (fun ls hl => ?_)
  refine lv_iload hx hb d_SR_span_11 (lv_at hl 0 rfl) ?_
  refine lv_iconst (v := (-1)) hx hb d_SR_span_13 (by decide) ?_
  refine lv_icmp_ne (tgt := 21) hx hb d_SR_span_14 (by decide) (fun cb => ?_) (fun cb => ?_)
  · have hf := g_f hf cb
    refine lv_iload_n hx hb d_SR_span_21 rfl (lv_at hl 4 rfl) ?_
    by_cases cb_1 : x3 = 1
    · have hf := g_t hf cb_1
      refine lv_tableIn (tgt := 76) hx hb d_SR_span_22 (by rw [cb_1]; decide) (by rw [cb_1]; decide) (by rw [cb_1]; rfl) (by decide) ?_
      refine lv_aload_n hx hb d_SR_span_76 rfl (lv_at hl 1 rfl) ?_
      refine va_get (D := (dC, dI)) (ci := 0) (v := .ref (ad 4 0)) (C := R_SR) (T := F_SR) (N := 14) hx hb hts (in_SR _) hown hK hP 0 rfl rfl 3 (by decide) (hts _ (List.mem_cons_of_mem _ mw_235)) (fun _ h9 => h9) rfl d_SR_span_77 ?_
      refine va_get (D := (dC, dI)) (ci := 4) (v := .ref ((ad 4) 2)) (C := R_SS) (T := F_SS) (N := 12) hx hb hts (in_SS _) hown hK hP 8 rfl rfl 1 (by decide) (hts _ (List.mem_cons_of_mem _ mw_84)) (fun _ h9 => h9) rfl d_SR_span_80 ?_
      refine lv_iload hx hb d_SR_span_83 (lv_at hl 0 rfl) ?_
      obtain ⟨ck, hf⟩ := g_ck hf
      refine va_lald (D := (dC, dI)) hx hb hK hP 10 1 rfl rfl ck d_SR_span_85 ?_
      obtain ⟨hq0, hr1⟩ := Prod.mk.inj (g_some hf)
      subst hq0
      subst hr1
      exact cx_lret hx hb hr hlocks hP hS d_SR_span_86
    have hf := g_f hf cb_1
    by_cases cb_2 : x3 = 2
    · have hf := g_t hf cb_2
      refine lv_tableIn (tgt := 87) hx hb d_SR_span_22 (by rw [cb_2]; decide) (by rw [cb_2]; decide) (by rw [cb_2]; rfl) (by decide) ?_
      refine lv_aload_n hx hb d_SR_span_87 rfl (lv_at hl 1 rfl) ?_
      refine va_get (D := (dC, dI)) (ci := 0) (v := .ref (ad 4 0)) (C := R_SR) (T := F_SR) (N := 14) hx hb hts (in_SR _) hown hK hP 0 rfl rfl 3 (by decide) (hts _ (List.mem_cons_of_mem _ mw_235)) (fun _ h9 => h9) rfl d_SR_span_88 ?_
      refine va_get (D := (dC, dI)) (ci := 4) (v := .ref ((ad 4) 3)) (C := R_SS) (T := F_SS) (N := 12) hx hb hts (in_SS _) hown hK hP 8 rfl rfl 2 (by decide) (hts _ (List.mem_cons_of_mem _ mw_86)) (fun _ h9 => h9) rfl d_SR_span_91 ?_
      refine lv_iload hx hb d_SR_span_94 (lv_at hl 0 rfl) ?_
      obtain ⟨ck_1, hf⟩ := g_ck hf
      refine va_lald (D := (dC, dI)) hx hb hK hP 11 1 rfl rfl ck_1 d_SR_span_96 ?_
      obtain ⟨hq0, hr1⟩ := Prod.mk.inj (g_some hf)
      subst hq0
      subst hr1
      exact cx_lret hx hb hr hlocks hP hS d_SR_span_97
    have hf := g_f hf cb_2
    by_cases cb_3 : x3 = 3
    · have hf := g_t hf cb_3
      refine lv_tableIn (tgt := 144) hx hb d_SR_span_22 (by rw [cb_3]; decide) (by rw [cb_3]; decide) (by rw [cb_3]; rfl) (by decide) ?_
      refine lv_ldc2 (v := (-1000000000000002)) hx hb hown (hts _ (List.mem_cons_of_mem _ mw_428)) d_SR_span_144 ?_
      obtain ⟨hq0, hr1⟩ := Prod.mk.inj (g_some hf)
      subst hq0
      subst hr1
      exact cx_lret hx hb hr hlocks hP hS d_SR_span_147
    have hf := g_f hf cb_3
    by_cases cb_4 : x3 = 4
    · have hf := g_t hf cb_4
      refine lv_tableIn (tgt := 98) hx hb d_SR_span_22 (by rw [cb_4]; decide) (by rw [cb_4]; decide) (by rw [cb_4]; rfl) (by decide) ?_
      refine lv_aload_n hx hb d_SR_span_98 rfl (lv_at hl 1 rfl) ?_
      refine lv_iload hx hb d_SR_span_99 (lv_at hl 0 rfl) ?_
      refine lv_aload_n hx hb d_SR_span_101 rfl (lv_at hl 1 rfl) ?_
      refine va_get (D := (dC, dI)) (ci := 0) (v := .ref (ad 4 0)) (C := R_SR) (T := F_SR) (N := 14) hx hb hts (in_SR _) hown hK hP 0 rfl rfl 3 (by decide) (hts _ (List.mem_cons_of_mem _ mw_235)) (fun _ h9 => h9) rfl d_SR_span_102 ?_
      refine va_get (D := (dC, dI)) (ci := 4) (v := .ref ((ad 4) 7)) (C := R_SS) (T := F_SS) (N := 12) hx hb hts (in_SS _) hown hK hP 8 rfl rfl 6 (by decide) (hts _ (List.mem_cons_of_mem _ mw_94)) (fun _ h9 => h9) rfl d_SR_span_105 ?_
      obtain ⟨co_1, hc_1, hf⟩ := g_bind hf
      try dsimp only at hf
      refine cx2_callV (As := [.int r, .ref ((ad 4) 7)]) (rest := []) (wSR tC ad sr ++ wRS tC (ad 3) rs ++ wSS tC (ad 4) ss ++ wCO tC (ad 7) co_1) ([((ad 4) 0, .inr (4, [.ref ((ad 4) 1), .ref ((ad 4) 2), .ref ((ad 4) 3), .ref ((ad 4) 4), .ref ((ad 4) 5), .ref ((ad 4) 6), .ref ((ad 4) 7), .ref ((ad 4) 8), .ref ((ad 4) 9), .ref ((ad 4) 10), .ref ((ad 4) 11), .int (SS_kept ss)])), ((ad 4) 1, .inl (tC 0, 200, .inl (SS_keys ss))), ((ad 4) 2, .inl (tC 1, 200, .inr (.inl (SS_begins ss)))), ((ad 4) 3, .inl (tC 1, 200, .inr (.inl (SS_ends ss)))), ((ad 4) 4, .inl (tC 0, 200, .inl (SS_fires ss))), ((ad 4) 5, .inl (tC 0, 200, .inl (SS_since ss))), ((ad 4) 6, .inl (tC 2, 200, .inl (SS_ended ss))), ((ad 4) 8, .inl (tC 1, 1000, .inr (.inl (SS_untold ss)))), ((ad 4) 9, .inl (tC 1, 5, .inr (.inl (SS_united ss)))), ((ad 4) 10, .inl (tC 0, 200, .inl (SS_due ss))), ((ad 4) 11, .inl (tC 0, 200, .inl (SS_order ss)))]) ⟨hx, hb, hml, hown, hts⟩ (c_SR_gather l dC dI tC ad ((ad 4) 7) k r sr rs co 1000 (SS_had ss) co_1 hc_1) (k_SR_201 hts ⟨Nat.le_of_ble_eq_true rfl, Nat.le_of_ble_eq_true rfl⟩) hl.1 hP hD hS hA hK hN [0, 1, 2, 3, 4, 5, 6, 7, 20, 15] [8, 9, 10, 11, 12, 13, 14, 16, 17, 18, 19] 21 0 0 rfl rfl rfl rfl rfl (cx_hw (cx_hw (cx_hw rfl rfl) (adCO _ _ _ _)) rfl) rfl rfl rfl rfl (by decide) rfl rfl (Nat.le_of_ble_eq_true rfl) d_SR_span_108 ⟨Nat.zero_le _, Nat.zero_le _⟩ (fun H locs hP hD hS => ?_)
      refine W.eq (g2 := F0 m 111 ls []) rfl ?_
      refine lv_aload_n hx hb d_SR_span_111 rfl (lv_at hl 1 rfl) ?_
      refine va_get (D := (dC, dI)) (ci := 0) (v := .ref (ad 7 0)) (C := R_SR) (T := F_SR) (N := 14) hx hb hts (in_SR _) hown hK hP 0 rfl rfl 6 (by decide) (hts _ (List.mem_cons_of_mem _ mw_238)) (fun _ h9 => h9) rfl d_SR_span_112 ?_
      refine lv_iload_n hx hb d_SR_span_115 rfl (lv_at hl 4 rfl) ?_
      refine cx2_callV (As := [.int x3]) (rest := []) (wSR tC ad sr ++ wRS tC (ad 3) rs ++ wSS tC (ad 4) ss ++ wCO tC (ad 7) co_1) (wSR tC ad sr ++ wRS tC (ad 3) rs ++ wSS tC (ad 4) ss) ⟨hx, hb, hml, hown, hts⟩ (c_CO_part l dC dI tC (ad 7) x3 co_1 (f_CO_part x3 co_1) rfl) (k_SR_205 hts ⟨Nat.le_of_ble_eq_true rfl, Nat.le_of_ble_eq_true rfl⟩) hl.1 hP hD hS hA hK hN [20] [0, 1, 2, 3, 4, 5, 6, 7, 8, 9, 10, 11, 12, 13, 14, 15, 16, 17, 18, 19] 21 20 7 rfl rfl rfl rfl rfl rfl rfl rfl rfl rfl (by decide) rfl rfl (Nat.le_of_ble_eq_true rfl) d_SR_span_116 ⟨Nat.zero_le _, Nat.zero_le _⟩ (fun H locs hP hD hS => ?_)
      refine W.eq (g2 := F0 m 119 ls [.long (f_CO_part x3 co_1)]) rfl ?_
      obtain ⟨hq0, hr1⟩ := Prod.mk.inj (g_some hf)
      subst hq0
      subst hr1
      exact cx_lret hx hb hr hlocks hP hS d_SR_span_119
    have hf := g_f hf cb_4
    by_cases cb_5 : x3 = 5
    · have hf := g_t hf cb_5
      refine lv_tableIn (tgt := 98) hx hb d_SR_span_22 (by rw [cb_5]; decide) (by rw [cb_5]; decide) (by rw [cb_5]; rfl) (by decide) ?_
      refine lv_aload_n hx hb d_SR_span_98 rfl (lv_at hl 1 rfl) ?_
      refine lv_iload hx hb d_SR_span_99 (lv_at hl 0 rfl) ?_
      refine lv_aload_n hx hb d_SR_span_101 rfl (lv_at hl 1 rfl) ?_
      refine va_get (D := (dC, dI)) (ci := 0) (v := .ref (ad 4 0)) (C := R_SR) (T := F_SR) (N := 14) hx hb hts (in_SR _) hown hK hP 0 rfl rfl 3 (by decide) (hts _ (List.mem_cons_of_mem _ mw_235)) (fun _ h9 => h9) rfl d_SR_span_102 ?_
      refine va_get (D := (dC, dI)) (ci := 4) (v := .ref ((ad 4) 7)) (C := R_SS) (T := F_SS) (N := 12) hx hb hts (in_SS _) hown hK hP 8 rfl rfl 6 (by decide) (hts _ (List.mem_cons_of_mem _ mw_94)) (fun _ h9 => h9) rfl d_SR_span_105 ?_
      obtain ⟨co_2, hc_3, hf⟩ := g_bind hf
      try dsimp only at hf
      refine cx2_callV (As := [.int r, .ref ((ad 4) 7)]) (rest := []) (wSR tC ad sr ++ wRS tC (ad 3) rs ++ wSS tC (ad 4) ss ++ wCO tC (ad 7) co_2) ([((ad 4) 0, .inr (4, [.ref ((ad 4) 1), .ref ((ad 4) 2), .ref ((ad 4) 3), .ref ((ad 4) 4), .ref ((ad 4) 5), .ref ((ad 4) 6), .ref ((ad 4) 7), .ref ((ad 4) 8), .ref ((ad 4) 9), .ref ((ad 4) 10), .ref ((ad 4) 11), .int (SS_kept ss)])), ((ad 4) 1, .inl (tC 0, 200, .inl (SS_keys ss))), ((ad 4) 2, .inl (tC 1, 200, .inr (.inl (SS_begins ss)))), ((ad 4) 3, .inl (tC 1, 200, .inr (.inl (SS_ends ss)))), ((ad 4) 4, .inl (tC 0, 200, .inl (SS_fires ss))), ((ad 4) 5, .inl (tC 0, 200, .inl (SS_since ss))), ((ad 4) 6, .inl (tC 2, 200, .inl (SS_ended ss))), ((ad 4) 8, .inl (tC 1, 1000, .inr (.inl (SS_untold ss)))), ((ad 4) 9, .inl (tC 1, 5, .inr (.inl (SS_united ss)))), ((ad 4) 10, .inl (tC 0, 200, .inl (SS_due ss))), ((ad 4) 11, .inl (tC 0, 200, .inl (SS_order ss)))]) ⟨hx, hb, hml, hown, hts⟩ (c_SR_gather l dC dI tC ad ((ad 4) 7) k r sr rs co 1000 (SS_had ss) co_2 hc_3) (k_SR_201 hts ⟨Nat.le_of_ble_eq_true rfl, Nat.le_of_ble_eq_true rfl⟩) hl.1 hP hD hS hA hK hN [0, 1, 2, 3, 4, 5, 6, 7, 20, 15] [8, 9, 10, 11, 12, 13, 14, 16, 17, 18, 19] 21 0 0 rfl rfl rfl rfl rfl (cx_hw (cx_hw (cx_hw rfl rfl) (adCO _ _ _ _)) rfl) rfl rfl rfl rfl (by decide) rfl rfl (Nat.le_of_ble_eq_true rfl) d_SR_span_108 ⟨Nat.zero_le _, Nat.zero_le _⟩ (fun H locs hP hD hS => ?_)
      refine W.eq (g2 := F0 m 111 ls []) rfl ?_
      refine lv_aload_n hx hb d_SR_span_111 rfl (lv_at hl 1 rfl) ?_
      refine va_get (D := (dC, dI)) (ci := 0) (v := .ref (ad 7 0)) (C := R_SR) (T := F_SR) (N := 14) hx hb hts (in_SR _) hown hK hP 0 rfl rfl 6 (by decide) (hts _ (List.mem_cons_of_mem _ mw_238)) (fun _ h9 => h9) rfl d_SR_span_112 ?_
      refine lv_iload_n hx hb d_SR_span_115 rfl (lv_at hl 4 rfl) ?_
      refine cx2_callV (As := [.int x3]) (rest := []) (wSR tC ad sr ++ wRS tC (ad 3) rs ++ wSS tC (ad 4) ss ++ wCO tC (ad 7) co_2) (wSR tC ad sr ++ wRS tC (ad 3) rs ++ wSS tC (ad 4) ss) ⟨hx, hb, hml, hown, hts⟩ (c_CO_part l dC dI tC (ad 7) x3 co_2 (f_CO_part x3 co_2) rfl) (k_SR_205 hts ⟨Nat.le_of_ble_eq_true rfl, Nat.le_of_ble_eq_true rfl⟩) hl.1 hP hD hS hA hK hN [20] [0, 1, 2, 3, 4, 5, 6, 7, 8, 9, 10, 11, 12, 13, 14, 15, 16, 17, 18, 19] 21 20 7 rfl rfl rfl rfl rfl rfl rfl rfl rfl rfl (by decide) rfl rfl (Nat.le_of_ble_eq_true rfl) d_SR_span_116 ⟨Nat.zero_le _, Nat.zero_le _⟩ (fun H locs hP hD hS => ?_)
      refine W.eq (g2 := F0 m 119 ls [.long (f_CO_part x3 co_2)]) rfl ?_
      obtain ⟨hq0, hr1⟩ := Prod.mk.inj (g_some hf)
      subst hq0
      subst hr1
      exact cx_lret hx hb hr hlocks hP hS d_SR_span_119
    have hf := g_f hf cb_5
    by_cases cb_6 : x3 = 6
    · have hf := g_t hf cb_6
      refine lv_tableIn (tgt := 98) hx hb d_SR_span_22 (by rw [cb_6]; decide) (by rw [cb_6]; decide) (by rw [cb_6]; rfl) (by decide) ?_
      refine lv_aload_n hx hb d_SR_span_98 rfl (lv_at hl 1 rfl) ?_
      refine lv_iload hx hb d_SR_span_99 (lv_at hl 0 rfl) ?_
      refine lv_aload_n hx hb d_SR_span_101 rfl (lv_at hl 1 rfl) ?_
      refine va_get (D := (dC, dI)) (ci := 0) (v := .ref (ad 4 0)) (C := R_SR) (T := F_SR) (N := 14) hx hb hts (in_SR _) hown hK hP 0 rfl rfl 3 (by decide) (hts _ (List.mem_cons_of_mem _ mw_235)) (fun _ h9 => h9) rfl d_SR_span_102 ?_
      refine va_get (D := (dC, dI)) (ci := 4) (v := .ref ((ad 4) 7)) (C := R_SS) (T := F_SS) (N := 12) hx hb hts (in_SS _) hown hK hP 8 rfl rfl 6 (by decide) (hts _ (List.mem_cons_of_mem _ mw_94)) (fun _ h9 => h9) rfl d_SR_span_105 ?_
      obtain ⟨co_3, hc_5, hf⟩ := g_bind hf
      try dsimp only at hf
      refine cx2_callV (As := [.int r, .ref ((ad 4) 7)]) (rest := []) (wSR tC ad sr ++ wRS tC (ad 3) rs ++ wSS tC (ad 4) ss ++ wCO tC (ad 7) co_3) ([((ad 4) 0, .inr (4, [.ref ((ad 4) 1), .ref ((ad 4) 2), .ref ((ad 4) 3), .ref ((ad 4) 4), .ref ((ad 4) 5), .ref ((ad 4) 6), .ref ((ad 4) 7), .ref ((ad 4) 8), .ref ((ad 4) 9), .ref ((ad 4) 10), .ref ((ad 4) 11), .int (SS_kept ss)])), ((ad 4) 1, .inl (tC 0, 200, .inl (SS_keys ss))), ((ad 4) 2, .inl (tC 1, 200, .inr (.inl (SS_begins ss)))), ((ad 4) 3, .inl (tC 1, 200, .inr (.inl (SS_ends ss)))), ((ad 4) 4, .inl (tC 0, 200, .inl (SS_fires ss))), ((ad 4) 5, .inl (tC 0, 200, .inl (SS_since ss))), ((ad 4) 6, .inl (tC 2, 200, .inl (SS_ended ss))), ((ad 4) 8, .inl (tC 1, 1000, .inr (.inl (SS_untold ss)))), ((ad 4) 9, .inl (tC 1, 5, .inr (.inl (SS_united ss)))), ((ad 4) 10, .inl (tC 0, 200, .inl (SS_due ss))), ((ad 4) 11, .inl (tC 0, 200, .inl (SS_order ss)))]) ⟨hx, hb, hml, hown, hts⟩ (c_SR_gather l dC dI tC ad ((ad 4) 7) k r sr rs co 1000 (SS_had ss) co_3 hc_5) (k_SR_201 hts ⟨Nat.le_of_ble_eq_true rfl, Nat.le_of_ble_eq_true rfl⟩) hl.1 hP hD hS hA hK hN [0, 1, 2, 3, 4, 5, 6, 7, 20, 15] [8, 9, 10, 11, 12, 13, 14, 16, 17, 18, 19] 21 0 0 rfl rfl rfl rfl rfl (cx_hw (cx_hw (cx_hw rfl rfl) (adCO _ _ _ _)) rfl) rfl rfl rfl rfl (by decide) rfl rfl (Nat.le_of_ble_eq_true rfl) d_SR_span_108 ⟨Nat.zero_le _, Nat.zero_le _⟩ (fun H locs hP hD hS => ?_)
      refine W.eq (g2 := F0 m 111 ls []) rfl ?_
      refine lv_aload_n hx hb d_SR_span_111 rfl (lv_at hl 1 rfl) ?_
      refine va_get (D := (dC, dI)) (ci := 0) (v := .ref (ad 7 0)) (C := R_SR) (T := F_SR) (N := 14) hx hb hts (in_SR _) hown hK hP 0 rfl rfl 6 (by decide) (hts _ (List.mem_cons_of_mem _ mw_238)) (fun _ h9 => h9) rfl d_SR_span_112 ?_
      refine lv_iload_n hx hb d_SR_span_115 rfl (lv_at hl 4 rfl) ?_
      refine cx2_callV (As := [.int x3]) (rest := []) (wSR tC ad sr ++ wRS tC (ad 3) rs ++ wSS tC (ad 4) ss ++ wCO tC (ad 7) co_3) (wSR tC ad sr ++ wRS tC (ad 3) rs ++ wSS tC (ad 4) ss) ⟨hx, hb, hml, hown, hts⟩ (c_CO_part l dC dI tC (ad 7) x3 co_3 (f_CO_part x3 co_3) rfl) (k_SR_205 hts ⟨Nat.le_of_ble_eq_true rfl, Nat.le_of_ble_eq_true rfl⟩) hl.1 hP hD hS hA hK hN [20] [0, 1, 2, 3, 4, 5, 6, 7, 8, 9, 10, 11, 12, 13, 14, 15, 16, 17, 18, 19] 21 20 7 rfl rfl rfl rfl rfl rfl rfl rfl rfl rfl (by decide) rfl rfl (Nat.le_of_ble_eq_true rfl) d_SR_span_116 ⟨Nat.zero_le _, Nat.zero_le _⟩ (fun H locs hP hD hS => ?_)
      refine W.eq (g2 := F0 m 119 ls [.long (f_CO_part x3 co_3)]) rfl ?_
      obtain ⟨hq0, hr1⟩ := Prod.mk.inj (g_some hf)
      subst hq0
      subst hr1
      exact cx_lret hx hb hr hlocks hP hS d_SR_span_119
    have hf := g_f hf cb_6
    by_cases cb_7 : x3 = 7
    · have hf := g_t hf cb_7
      refine lv_tableIn (tgt := 98) hx hb d_SR_span_22 (by rw [cb_7]; decide) (by rw [cb_7]; decide) (by rw [cb_7]; rfl) (by decide) ?_
      refine lv_aload_n hx hb d_SR_span_98 rfl (lv_at hl 1 rfl) ?_
      refine lv_iload hx hb d_SR_span_99 (lv_at hl 0 rfl) ?_
      refine lv_aload_n hx hb d_SR_span_101 rfl (lv_at hl 1 rfl) ?_
      refine va_get (D := (dC, dI)) (ci := 0) (v := .ref (ad 4 0)) (C := R_SR) (T := F_SR) (N := 14) hx hb hts (in_SR _) hown hK hP 0 rfl rfl 3 (by decide) (hts _ (List.mem_cons_of_mem _ mw_235)) (fun _ h9 => h9) rfl d_SR_span_102 ?_
      refine va_get (D := (dC, dI)) (ci := 4) (v := .ref ((ad 4) 7)) (C := R_SS) (T := F_SS) (N := 12) hx hb hts (in_SS _) hown hK hP 8 rfl rfl 6 (by decide) (hts _ (List.mem_cons_of_mem _ mw_94)) (fun _ h9 => h9) rfl d_SR_span_105 ?_
      obtain ⟨co_4, hc_7, hf⟩ := g_bind hf
      try dsimp only at hf
      refine cx2_callV (As := [.int r, .ref ((ad 4) 7)]) (rest := []) (wSR tC ad sr ++ wRS tC (ad 3) rs ++ wSS tC (ad 4) ss ++ wCO tC (ad 7) co_4) ([((ad 4) 0, .inr (4, [.ref ((ad 4) 1), .ref ((ad 4) 2), .ref ((ad 4) 3), .ref ((ad 4) 4), .ref ((ad 4) 5), .ref ((ad 4) 6), .ref ((ad 4) 7), .ref ((ad 4) 8), .ref ((ad 4) 9), .ref ((ad 4) 10), .ref ((ad 4) 11), .int (SS_kept ss)])), ((ad 4) 1, .inl (tC 0, 200, .inl (SS_keys ss))), ((ad 4) 2, .inl (tC 1, 200, .inr (.inl (SS_begins ss)))), ((ad 4) 3, .inl (tC 1, 200, .inr (.inl (SS_ends ss)))), ((ad 4) 4, .inl (tC 0, 200, .inl (SS_fires ss))), ((ad 4) 5, .inl (tC 0, 200, .inl (SS_since ss))), ((ad 4) 6, .inl (tC 2, 200, .inl (SS_ended ss))), ((ad 4) 8, .inl (tC 1, 1000, .inr (.inl (SS_untold ss)))), ((ad 4) 9, .inl (tC 1, 5, .inr (.inl (SS_united ss)))), ((ad 4) 10, .inl (tC 0, 200, .inl (SS_due ss))), ((ad 4) 11, .inl (tC 0, 200, .inl (SS_order ss)))]) ⟨hx, hb, hml, hown, hts⟩ (c_SR_gather l dC dI tC ad ((ad 4) 7) k r sr rs co 1000 (SS_had ss) co_4 hc_7) (k_SR_201 hts ⟨Nat.le_of_ble_eq_true rfl, Nat.le_of_ble_eq_true rfl⟩) hl.1 hP hD hS hA hK hN [0, 1, 2, 3, 4, 5, 6, 7, 20, 15] [8, 9, 10, 11, 12, 13, 14, 16, 17, 18, 19] 21 0 0 rfl rfl rfl rfl rfl (cx_hw (cx_hw (cx_hw rfl rfl) (adCO _ _ _ _)) rfl) rfl rfl rfl rfl (by decide) rfl rfl (Nat.le_of_ble_eq_true rfl) d_SR_span_108 ⟨Nat.zero_le _, Nat.zero_le _⟩ (fun H locs hP hD hS => ?_)
      refine W.eq (g2 := F0 m 111 ls []) rfl ?_
      refine lv_aload_n hx hb d_SR_span_111 rfl (lv_at hl 1 rfl) ?_
      refine va_get (D := (dC, dI)) (ci := 0) (v := .ref (ad 7 0)) (C := R_SR) (T := F_SR) (N := 14) hx hb hts (in_SR _) hown hK hP 0 rfl rfl 6 (by decide) (hts _ (List.mem_cons_of_mem _ mw_238)) (fun _ h9 => h9) rfl d_SR_span_112 ?_
      refine lv_iload_n hx hb d_SR_span_115 rfl (lv_at hl 4 rfl) ?_
      refine cx2_callV (As := [.int x3]) (rest := []) (wSR tC ad sr ++ wRS tC (ad 3) rs ++ wSS tC (ad 4) ss ++ wCO tC (ad 7) co_4) (wSR tC ad sr ++ wRS tC (ad 3) rs ++ wSS tC (ad 4) ss) ⟨hx, hb, hml, hown, hts⟩ (c_CO_part l dC dI tC (ad 7) x3 co_4 (f_CO_part x3 co_4) rfl) (k_SR_205 hts ⟨Nat.le_of_ble_eq_true rfl, Nat.le_of_ble_eq_true rfl⟩) hl.1 hP hD hS hA hK hN [20] [0, 1, 2, 3, 4, 5, 6, 7, 8, 9, 10, 11, 12, 13, 14, 15, 16, 17, 18, 19] 21 20 7 rfl rfl rfl rfl rfl rfl rfl rfl rfl rfl (by decide) rfl rfl (Nat.le_of_ble_eq_true rfl) d_SR_span_116 ⟨Nat.zero_le _, Nat.zero_le _⟩ (fun H locs hP hD hS => ?_)
      refine W.eq (g2 := F0 m 119 ls [.long (f_CO_part x3 co_4)]) rfl ?_
      obtain ⟨hq0, hr1⟩ := Prod.mk.inj (g_some hf)
      subst hq0
      subst hr1
      exact cx_lret hx hb hr hlocks hP hS d_SR_span_119
    have hf := g_f hf cb_7
    by_cases cb_8 : x3 = 8
    · have hf := g_t hf cb_8
      refine lv_tableIn (tgt := 98) hx hb d_SR_span_22 (by rw [cb_8]; decide) (by rw [cb_8]; decide) (by rw [cb_8]; rfl) (by decide) ?_
      refine lv_aload_n hx hb d_SR_span_98 rfl (lv_at hl 1 rfl) ?_
      refine lv_iload hx hb d_SR_span_99 (lv_at hl 0 rfl) ?_
      refine lv_aload_n hx hb d_SR_span_101 rfl (lv_at hl 1 rfl) ?_
      refine va_get (D := (dC, dI)) (ci := 0) (v := .ref (ad 4 0)) (C := R_SR) (T := F_SR) (N := 14) hx hb hts (in_SR _) hown hK hP 0 rfl rfl 3 (by decide) (hts _ (List.mem_cons_of_mem _ mw_235)) (fun _ h9 => h9) rfl d_SR_span_102 ?_
      refine va_get (D := (dC, dI)) (ci := 4) (v := .ref ((ad 4) 7)) (C := R_SS) (T := F_SS) (N := 12) hx hb hts (in_SS _) hown hK hP 8 rfl rfl 6 (by decide) (hts _ (List.mem_cons_of_mem _ mw_94)) (fun _ h9 => h9) rfl d_SR_span_105 ?_
      obtain ⟨co_5, hc_9, hf⟩ := g_bind hf
      try dsimp only at hf
      refine cx2_callV (As := [.int r, .ref ((ad 4) 7)]) (rest := []) (wSR tC ad sr ++ wRS tC (ad 3) rs ++ wSS tC (ad 4) ss ++ wCO tC (ad 7) co_5) ([((ad 4) 0, .inr (4, [.ref ((ad 4) 1), .ref ((ad 4) 2), .ref ((ad 4) 3), .ref ((ad 4) 4), .ref ((ad 4) 5), .ref ((ad 4) 6), .ref ((ad 4) 7), .ref ((ad 4) 8), .ref ((ad 4) 9), .ref ((ad 4) 10), .ref ((ad 4) 11), .int (SS_kept ss)])), ((ad 4) 1, .inl (tC 0, 200, .inl (SS_keys ss))), ((ad 4) 2, .inl (tC 1, 200, .inr (.inl (SS_begins ss)))), ((ad 4) 3, .inl (tC 1, 200, .inr (.inl (SS_ends ss)))), ((ad 4) 4, .inl (tC 0, 200, .inl (SS_fires ss))), ((ad 4) 5, .inl (tC 0, 200, .inl (SS_since ss))), ((ad 4) 6, .inl (tC 2, 200, .inl (SS_ended ss))), ((ad 4) 8, .inl (tC 1, 1000, .inr (.inl (SS_untold ss)))), ((ad 4) 9, .inl (tC 1, 5, .inr (.inl (SS_united ss)))), ((ad 4) 10, .inl (tC 0, 200, .inl (SS_due ss))), ((ad 4) 11, .inl (tC 0, 200, .inl (SS_order ss)))]) ⟨hx, hb, hml, hown, hts⟩ (c_SR_gather l dC dI tC ad ((ad 4) 7) k r sr rs co 1000 (SS_had ss) co_5 hc_9) (k_SR_201 hts ⟨Nat.le_of_ble_eq_true rfl, Nat.le_of_ble_eq_true rfl⟩) hl.1 hP hD hS hA hK hN [0, 1, 2, 3, 4, 5, 6, 7, 20, 15] [8, 9, 10, 11, 12, 13, 14, 16, 17, 18, 19] 21 0 0 rfl rfl rfl rfl rfl (cx_hw (cx_hw (cx_hw rfl rfl) (adCO _ _ _ _)) rfl) rfl rfl rfl rfl (by decide) rfl rfl (Nat.le_of_ble_eq_true rfl) d_SR_span_108 ⟨Nat.zero_le _, Nat.zero_le _⟩ (fun H locs hP hD hS => ?_)
      refine W.eq (g2 := F0 m 111 ls []) rfl ?_
      refine lv_aload_n hx hb d_SR_span_111 rfl (lv_at hl 1 rfl) ?_
      refine va_get (D := (dC, dI)) (ci := 0) (v := .ref (ad 7 0)) (C := R_SR) (T := F_SR) (N := 14) hx hb hts (in_SR _) hown hK hP 0 rfl rfl 6 (by decide) (hts _ (List.mem_cons_of_mem _ mw_238)) (fun _ h9 => h9) rfl d_SR_span_112 ?_
      refine lv_iload_n hx hb d_SR_span_115 rfl (lv_at hl 4 rfl) ?_
      refine cx2_callV (As := [.int x3]) (rest := []) (wSR tC ad sr ++ wRS tC (ad 3) rs ++ wSS tC (ad 4) ss ++ wCO tC (ad 7) co_5) (wSR tC ad sr ++ wRS tC (ad 3) rs ++ wSS tC (ad 4) ss) ⟨hx, hb, hml, hown, hts⟩ (c_CO_part l dC dI tC (ad 7) x3 co_5 (f_CO_part x3 co_5) rfl) (k_SR_205 hts ⟨Nat.le_of_ble_eq_true rfl, Nat.le_of_ble_eq_true rfl⟩) hl.1 hP hD hS hA hK hN [20] [0, 1, 2, 3, 4, 5, 6, 7, 8, 9, 10, 11, 12, 13, 14, 15, 16, 17, 18, 19] 21 20 7 rfl rfl rfl rfl rfl rfl rfl rfl rfl rfl (by decide) rfl rfl (Nat.le_of_ble_eq_true rfl) d_SR_span_116 ⟨Nat.zero_le _, Nat.zero_le _⟩ (fun H locs hP hD hS => ?_)
      refine W.eq (g2 := F0 m 119 ls [.long (f_CO_part x3 co_5)]) rfl ?_
      obtain ⟨hq0, hr1⟩ := Prod.mk.inj (g_some hf)
      subst hq0
      subst hr1
      exact cx_lret hx hb hr hlocks hP hS d_SR_span_119
    have hf := g_f hf cb_8
    by_cases cb_9 : x3 = 9
    · have hf := g_t hf cb_9
      refine lv_tableIn (tgt := 120) hx hb d_SR_span_22 (by rw [cb_9]; decide) (by rw [cb_9]; decide) (by rw [cb_9]; rfl) (by decide) ?_
      refine lv_aload_n hx hb d_SR_span_120 rfl (lv_at hl 1 rfl) ?_
      refine va_get (D := (dC, dI)) (ci := 0) (v := .ref (ad 4 0)) (C := R_SR) (T := F_SR) (N := 14) hx hb hts (in_SR _) hown hK hP 0 rfl rfl 3 (by decide) (hts _ (List.mem_cons_of_mem _ mw_235)) (fun _ h9 => h9) rfl d_SR_span_121 ?_
      refine va_get (D := (dC, dI)) (ci := 4) (v := .ref ((ad 4) 4)) (C := R_SS) (T := F_SS) (N := 12) hx hb hts (in_SS _) hown hK hP 8 rfl rfl 3 (by decide) (hts _ (List.mem_cons_of_mem _ mw_88)) (fun _ h9 => h9) rfl d_SR_span_124 ?_
      refine lv_iload hx hb d_SR_span_127 (lv_at hl 0 rfl) ?_
      obtain ⟨ck_2, hf⟩ := g_ck hf
      refine va_iald (D := (dC, dI)) hx hb hK hP 12 0 rfl rfl ck_2 d_SR_span_129 ?_
      refine lv_i2l hx hb d_SR_span_130 rfl ?_
      obtain ⟨hq0, hr1⟩ := Prod.mk.inj (g_some hf)
      subst hq0
      subst hr1
      exact cx_lret hx hb hr hlocks hP hS d_SR_span_131
    have hf := g_f hf cb_9
    by_cases cb_10 : x3 = 10
    · have hf := g_t hf cb_10
      refine lv_tableIn (tgt := 132) hx hb d_SR_span_22 (by rw [cb_10]; decide) (by rw [cb_10]; decide) (by rw [cb_10]; rfl) (by decide) ?_
      refine lv_aload_n hx hb d_SR_span_132 rfl (lv_at hl 1 rfl) ?_
      refine va_get (D := (dC, dI)) (ci := 0) (v := .ref (ad 4 0)) (C := R_SR) (T := F_SR) (N := 14) hx hb hts (in_SR _) hown hK hP 0 rfl rfl 3 (by decide) (hts _ (List.mem_cons_of_mem _ mw_235)) (fun _ h9 => h9) rfl d_SR_span_133 ?_
      refine va_get (D := (dC, dI)) (ci := 4) (v := .ref ((ad 4) 5)) (C := R_SS) (T := F_SS) (N := 12) hx hb hts (in_SS _) hown hK hP 8 rfl rfl 4 (by decide) (hts _ (List.mem_cons_of_mem _ mw_90)) (fun _ h9 => h9) rfl d_SR_span_136 ?_
      refine lv_iload hx hb d_SR_span_139 (lv_at hl 0 rfl) ?_
      obtain ⟨ck_3, hf⟩ := g_ck hf
      refine va_iald (D := (dC, dI)) hx hb hK hP 13 0 rfl rfl ck_3 d_SR_span_141 ?_
      refine lv_i2l hx hb d_SR_span_142 rfl ?_
      obtain ⟨hq0, hr1⟩ := Prod.mk.inj (g_some hf)
      subst hq0
      subst hr1
      exact cx_lret hx hb hr hlocks hP hS d_SR_span_143
    have hf := g_f hf cb_10
    have n_cb_1 := cx_ne (n := 1) (by decide) cb_1
    have n_cb_2 := cx_ne (n := 2) (by decide) cb_2
    have n_cb_3 := cx_ne (n := 3) (by decide) cb_3
    have n_cb_4 := cx_ne (n := 4) (by decide) cb_4
    have n_cb_5 := cx_ne (n := 5) (by decide) cb_5
    have n_cb_6 := cx_ne (n := 6) (by decide) cb_6
    have n_cb_7 := cx_ne (n := 7) (by decide) cb_7
    have n_cb_8 := cx_ne (n := 8) (by decide) cb_8
    have n_cb_9 := cx_ne (n := 9) (by decide) cb_9
    have n_cb_10 := cx_ne (n := 10) (by decide) cb_10
    refine lv_tableOut (tgt := 144) hx hb d_SR_span_22 (by omega) (by decide) ?_
    refine lv_ldc2 (v := (-1000000000000002)) hx hb hown (hts _ (List.mem_cons_of_mem _ mw_428)) d_SR_span_144 ?_
    obtain ⟨hq0, hr1⟩ := Prod.mk.inj (g_some hf)
    subst hq0
    subst hr1
    exact cx_lret hx hb hr hlocks hP hS d_SR_span_147
  · have hf := g_t hf cb
    refine lv_ldc2 (v := (-1000000000000001)) hx hb hown (hts _ (List.mem_cons_of_mem _ mw_426)) d_SR_span_17 ?_
    obtain ⟨hq0, hr1⟩ := Prod.mk.inj (g_some hf)
    subst hq0
    subst hr1
    exact cx_lret hx hb hr hlocks hP hS d_SR_span_20
