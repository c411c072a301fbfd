def f_MO_beside (x1 : Int64) (x3 : Int64) (mo : MOt) : Option MOt :=
  (f_MO_by (x1 - (MO_offset mo)) x3).bind fun r =>
  gl_let (((MO_offset mo) + (x3 * r))) fun v5 =>
  (f_MO_want v5 (v5 + x3) mo).bind fun mo_1 =>
  some mo_1
set_option maxHeartbeats 4000000 in
set_option maxRecDepth 100000 in
theorem c_MO_beside (l : Launch) (dC : Nat → ClassId) (dI : Nat → Nat → Nat) (tC : Nat → ClassId) (a : Nat → Nat) (x1 : Int64) (x3 : Int64) (mo : MOt) (moR : MOt) (hf : f_MO_beside x1 x3 mo = some moR) : cx_M l y_MO_beside w_MO_beside { frames := 1, cells := 0, slots := 0, locals := 25 } (dC, dI) classes (tyS tC) [.ref (a 0), .long x1, .long x3] (wMO tC a mo) (wMO tC a moR) (none) := by
  refine cx_of (cc := b_MO_beside) (maxL := 7) (ret := none) (plainFor_of_name (by decide)) rfl (Nat.le_of_ble_eq_true rfl) ?_
  intro p e s m below meth c hx hb hr hml hown hts hlocks A hA H locs ls hK hN hP hD hS hl
  have hown : s.vm.findClass R_MO = some m.cls := hown
  have hl : lv_has ls 7 [(0, .ref (a 0)), (1, .long x1), (3, .long x3)] := hl
  unfold f_MO_beside at hf
  refine lv_aload_n hx hb d_MO_beside_0 rfl (lv_at hl 0 rfl) ?_
  refine va_get (D := (dC, dI)) (ci := 8) (v := .long (MO_offset mo)) (C := R_MO) (T := F_MO) (N := 42) hx hb hts (in_MO _) hown hK hP 0 rfl rfl 3 (by decide) (hts _ (List.mem_cons_of_mem _ mw_695)) (fun _ h9 => h9) rfl d_MO_beside_1 ?_
  refine lv_lload_n hx hb d_MO_beside_4 rfl (lv_at hl 2 rfl) ?_
  refine lv_lload_n hx hb d_MO_beside_5 rfl (lv_at hl 1 rfl) ?_
  refine lv_aload_n hx hb d_MO_beside_6 rfl (lv_at hl 0 rfl) ?_
  refine va_get (D := (dC, dI)) (ci := 8) (v := .long (MO_offset mo)) (C := R_MO) (T := F_MO) (N := 42) hx hb hts (in_MO _) hown hK hP 0 rfl rfl 3 (by decide) (hts _ (List.mem_cons_of_mem _ mw_695)) (fun _ h9 => h9) rfl d_MO_beside_7 ?_
  refine lv_lsub hx hb d_MO_beside_10 ?_
  refine lv_lload_n hx hb d_MO_beside_11 rfl (lv_at hl 2 rfl) ?_
  obtain ⟨r, hc, hf⟩ := g_bind hf
  try dsimp only at hf
  refine cx_callS (As := [.long (x1 - (MO_offset mo)), .long x3]) (rest := [.long x3, .long (MO_offset mo)]) ⟨hx, hb, hml, hown, hts⟩ (c_MO_by l dC dI tC  (x1 - (MO_offset mo)) x3 r hc) (k_MO_147 hts ⟨Nat.le_of_ble_eq_true rfl, Nat.le_of_ble_eq_true rfl⟩) hl.1 hP hD hS hA hK hN [] rfl rfl rfl rfl rfl (Nat.le_of_ble_eq_true rfl) d_MO_beside_12 ⟨Nat.zero_le _, Nat.zero_le _⟩ (fun H locs hP hD hS => ?_)
  have hP : va_P (dC, dI) classes (wMO tC a mo) H := hP
  have hD : va_D A (wMO tC a mo) := hD
  refine W.eq (g2 := F0 m 15 ls [.long r, .long x3, .long (MO_offset mo)]) rfl ?_
  refine lv_lmul hx hb d_MO_beside_15 ?_
  refine lv_ladd hx hb d_MO_beside_16 ?_
  refine lv_topl (fun v5 h_v5 => ?_)
  have hf := g_let hf h_v5
  refine lv_lstore (lv' := [(5, .long v5), (0, .ref (a 0)), (1, .long x1), (3, .long x3)]) hx hb d_MO_beside_17 hl (by decide) rfl (fun ls hl => ?_)
  refine lv_aload_n hx hb d_MO_beside_19 rfl (lv_at hl 1 rfl) ?_
  refine lv_lload hx hb d_MO_beside_20 (lv_at hl 0 rfl) ?_
  refine lv_lload hx hb d_MO_beside_22 (lv_at hl 0 rfl) ?_
  refine lv_lload_n hx hb d_MO_beside_24 rfl (lv_at hl 3 rfl) ?_
  refine lv_ladd hx hb d_MO_beside_25 ?_
  obtain ⟨mo_1, hc_1, hf⟩ := g_bind hf
  try dsimp only at hf
  refine cx3_callV (As := [.long v5, .long (v5 + x3)]) (rest := []) (wMO tC a mo_1) ⟨hx, hb, hml, hown, hts⟩ (c_MO_want l dC dI tC a v5 (v5 + x3) mo mo_1 hc_1) (k_MO_186 hts ⟨Nat.le_of_ble_eq_true rfl, Nat.le_of_ble_eq_true rfl⟩) hl.1 hP hD hS hA hK hN 0 8 rfl rfl rfl (adMO _ _ _ _) rfl rfl (Nat.le_of_ble_eq_true rfl) d_MO_beside_26 ⟨Nat.zero_le _, Nat.zero_le _⟩ (fun H locs hP hD hS => ?_)
  refine W.eq (g2 := F0 m 29 ls []) rfl ?_
  have hq0 := (g_some hf)
  subst hq0
  exact cx_vret hx hb hr hlocks hP hS d_MO_beside_29
