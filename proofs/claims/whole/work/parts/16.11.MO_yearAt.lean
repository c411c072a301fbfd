def f_MO_yearAt (x0 : Int64) : Option Int64 :=
  gl_let ((x0 - 1)) fun v2 =>
  (f_MO_by v2 4).bind fun r =>
  (f_MO_by v2 100).bind fun r_1 =>
  (f_MO_by v2 400).bind fun r_2 =>
  some ((((365 * (x0 - 1970)) + (r - 492)) - (r_1 - 19)) + (r_2 - 4))
set_option maxHeartbeats 4000000 in
set_option maxRecDepth 100000 in
theorem c_MO_yearAt (l : Launch) (dC : Nat → ClassId) (dI : Nat → Nat → Nat) (tC : Nat → ClassId)  (x0 : Int64) (res : Int64) (hf : f_MO_yearAt x0 = some res) : cx_M l y_MO_yearAt w_MO_yearAt { frames := 1, cells := 0, slots := 0, locals := 25 } (dC, dI) classes (tyS tC) [.long x0] ([]) ([]) (some (.long res)) := by
  refine cx_of (cc := b_MO_yearAt) (maxL := 4) (ret := some .long) (plainFor_of_name (by decide)) rfl (Nat.le_of_ble_eq_true rfl) ?_
  intro p e s m below meth c hx hb hr hml hown hts hlocks A hA H locs ls hK hN hP hD hS hl
  have hown : s.vm.findClass R_MO = some m.cls := hown
  have hl : lv_has ls 4 [(0, .long x0)] := hl
  unfold f_MO_yearAt at hf
  refine lv_lload_n hx hb d_MO_yearAt_0 rfl (lv_at hl 0 rfl) ?_
  refine lv_lconst (v := 1) hx hb d_MO_yearAt_1 (by decide) ?_
  refine lv_lsub hx hb d_MO_yearAt_2 ?_
  refine lv_topl (fun v2 h_v2 => ?_)
  have hf := g_let hf h_v2
  refine lv_lstore_n (lv' := [(2, .long v2), (0, .long x0)]) hx hb d_MO_yearAt_3 rfl hl (by decide) rfl (fun ls hl => ?_)
  refine lv_ldc2 (v := 365) hx hb hown (hts _ (List.mem_cons_of_mem _ mw_875)) d_MO_yearAt_4 ?_
  refine lv_lload_n hx hb d_MO_yearAt_7 rfl (lv_at hl 1 rfl) ?_
  refine lv_ldc2 (v := 1970) hx hb hown (hts _ (List.mem_cons_of_mem _ mw_871)) d_MO_yearAt_8 ?_
  refine lv_lsub hx hb d_MO_yearAt_11 ?_
  refine lv_lmul hx hb d_MO_yearAt_12 ?_
  refine lv_lload_n hx hb d_MO_yearAt_13 rfl (lv_at hl 0 rfl) ?_
  refine lv_ldc2 (v := 4) hx hb hown (hts _ (List.mem_cons_of_mem _ mw_876)) d_MO_yearAt_14 ?_
  obtain ⟨r, hc, hf⟩ := g_bind hf
  try dsimp only at hf
  refine cx_callS (As := [.long v2, .long 4]) (rest := [.long (365 * (x0 - 1970))]) ⟨hx, hb, hml, hown, hts⟩ (c_MO_by l dC dI tC  v2 4 r hc) (k_MO_147 hts ⟨Nat.le_of_ble_eq_true rfl, Nat.le_of_ble_eq_true rfl⟩) hl.1 hP hD hS hA hK hN [] rfl rfl rfl rfl rfl (Nat.le_of_ble_eq_true rfl) d_MO_yearAt_17 ⟨Nat.zero_le _, Nat.zero_le _⟩ (fun H locs hP hD hS => ?_)
  have hP : va_P (dC, dI) classes ([]) H := hP
  have hD : va_D A ([]) := hD
  refine W.eq (g2 := F0 m 20 ls [.long r, .long (365 * (x0 - 1970))]) rfl ?_
  refine lv_ldc2 (v := 492) hx hb hown (hts _ (List.mem_cons_of_mem _ mw_877)) d_MO_yearAt_20 ?_
  refine lv_lsub hx hb d_MO_yearAt_23 ?_
  refine lv_ladd hx hb d_MO_yearAt_24 ?_
  refine lv_lload_n hx hb d_MO_yearAt_25 rfl (lv_at hl 0 rfl) ?_
  refine lv_ldc2 (v := 100) hx hb hown (hts _ (List.mem_cons_of_mem _ mw_878)) d_MO_yearAt_26 ?_
  obtain ⟨r_1, hc_1, hf⟩ := g_bind hf
  try dsimp only at hf
  refine cx_callS (As := [.long v2, .long 100]) (rest := [.long ((365 * (x0 - 1970)) + (r - 492))]) ⟨hx, hb, hml, hown, hts⟩ (c_MO_by l dC dI tC  v2 100 r_1 hc_1) (k_MO_147 hts ⟨Nat.le_of_ble_eq_true rfl, Nat.le_of_ble_eq_true rfl⟩) hl.1 hP hD hS hA hK hN [] rfl rfl rfl rfl rfl (Nat.le_of_ble_eq_true rfl) d_MO_yearAt_29 ⟨Nat.zero_le _, Nat.zero_le _⟩ (fun H locs hP hD hS => ?_)
  have hP : va_P (dC, dI) classes ([]) H := hP
  have hD : va_D A ([]) := hD
  refine W.eq (g2 := F0 m 32 ls [.long r_1, .long ((365 * (x0 - 1970)) + (r - 492))]) rfl ?_
  refine lv_ldc2 (v := 19) hx hb hown (hts _ (List.mem_cons_of_mem _ mw_879)) d_MO_yearAt_32 ?_
  refine lv_lsub hx hb d_MO_yearAt_35 ?_
  refine lv_lsub hx hb d_MO_yearAt_36 ?_
  refine lv_lload_n hx hb d_MO_yearAt_37 rfl (lv_at hl 0 rfl) ?_
  refine lv_ldc2 (v := 400) hx hb hown (hts _ (List.mem_cons_of_mem _ mw_880)) d_MO_yearAt_38 ?_
  obtain ⟨r_2, hc_2, hf⟩ := g_bind hf
  try dsimp only at hf
  refine cx_callS (As := [.long v2, .long 400]) (rest := [.long (((365 * (x0 - 1970)) + (r - 492)) - (r_1 - 19))]) ⟨hx, hb, hml, hown, hts⟩ (c_MO_by l dC dI tC  v2 400 r_2 hc_2) (k_MO_147 hts ⟨Nat.le_of_ble_eq_true rfl, Nat.le_of_ble_eq_true rfl⟩) hl.1 hP hD hS hA hK hN [] rfl rfl rfl rfl rfl (Nat.le_of_ble_eq_true rfl) d_MO_yearAt_41 ⟨Nat.zero_le _, Nat.zero_le _⟩ (fun H locs hP hD hS => ?_)
  have hP : va_P (dC, dI) classes ([]) H := hP
  have hD : va_D A ([]) := hD
  refine W.eq (g2 := F0 m 44 ls [.long r_2, .long (((365 * (x0 - 1970)) + (r - 492)) - (r_1 - 19))]) rfl ?_
  refine lv_ldc2 (v := 4) hx hb hown (hts _ (List.mem_cons_of_mem _ mw_876)) d_MO_yearAt_44 ?_
  refine lv_lsub hx hb d_MO_yearAt_47 ?_
  refine lv_ladd hx hb d_MO_yearAt_48 ?_
  have hq0 := (g_some hf)
  subst hq0
  exact cx_lret hx hb hr hlocks hP hS d_MO_yearAt_49
