def f_SR_month (x1 : Int32) (sr : SRt) : Option Int32 :=
  if (f_SR_isWithin (x1.toInt64) (-3000000) 3000000) = 0 then (
    some (-2000000000)
  ) else
  (f_CA_firstDay (x1.toInt64)).bind fun r =>
  some (r.toInt32)
set_option maxHeartbeats 4000000 in
set_option maxRecDepth 100000 in
theorem c_SR_month (l : Launch) (dC : Nat → ClassId) (dI : Nat → Nat → Nat) (tC : Nat → ClassId) (ad : Nat → Nat → Nat) (x1 : Int32) (sr : SRt) (res : Int32) (hf : f_SR_month x1 sr = some res) : cx_M l y_SR_month w_SR_month { frames := 2, cells := 0, slots := 0, locals := 54 } (dC, dI) classes (tyS tC) [.ref (ad 0 0), .int x1] (wSR tC ad sr) (wSR tC ad sr) (some (.int res)) := by
  refine cx_of (cc := b_SR_month) (maxL := 2) (ret := some .int) (plainFor_of_name (by decide)) rfl (Nat.le_of_ble_eq_true rfl) ?_
  intro p e s m below meth c hx hb hr hml hown hts hlocks A hA H locs ls hK hN hP hD hS hl
  have hown : s.vm.findClass R_SR = some m.cls := hown
  have hl : lv_has ls 2 [(0, .ref (ad 0 0)), (1, .int x1)] := hl
  unfold f_SR_month at hf
  refine lv_iload_n hx hb d_SR_month_0 rfl (lv_at hl 1 rfl) ?_
  refine lv_i2l hx hb d_SR_month_1 rfl ?_
  refine lv_ldc2 (v := (-3000000)) hx hb hown (hts _ (List.mem_cons_of_mem _ mw_459)) d_SR_month_2 ?_
  refine lv_ldc2 (v := 3000000) hx hb hown (hts _ (List.mem_cons_of_mem _ mw_460)) d_SR_month_5 ?_
  refine cx_callS (As := [.long (x1.toInt64), .long (-3000000), .long 3000000]) (rest := []) ⟨hx, hb, hml, hown, hts⟩ (c_SR_isWithin l dC dI tC  (x1.toInt64) (-3000000) 3000000 (f_SR_isWithin (x1.toInt64) (-3000000) 3000000) rfl) (k_SR_95 hts ⟨Nat.le_of_ble_eq_true rfl, Nat.le_of_ble_eq_true rfl⟩) hl.1 hP hD hS hA hK hN [] rfl rfl rfl rfl rfl (Nat.le_of_ble_eq_true rfl) d_SR_month_8 ⟨Nat.zero_le _, Nat.zero_le _⟩ (fun H locs hP hD hS => ?_)
  have hP : va_P (dC, dI) classes (wSR tC ad sr) H := hP
  have hD : va_D A (wSR tC ad sr) := hD
  refine W.eq (g2 := F0 m 11 ls [.int (f_SR_isWithin (x1.toInt64) (-3000000) 3000000)]) rfl ?_
  refine lv_if_eq (tgt := 23) hx hb d_SR_month_11 (by decide) (fun cb => ?_) (fun cb => ?_)
  · have hf := g_t hf cb
    refine lv_ldc (v := (-2000000000)) hx hb hown (hts _ (List.mem_cons_of_mem _ mw_475)) d_SR_month_23 ?_
    have hq0 := (g_some hf)
    subst hq0
    exact cx_iret hx hb hr hlocks hP hS d_SR_month_25
  · have hf := g_f hf cb
    refine lv_iload_n hx hb d_SR_month_14 rfl (lv_at hl 1 rfl) ?_
    refine lv_i2l hx hb d_SR_month_15 rfl ?_
    obtain ⟨r, hc_1, hf⟩ := g_bind hf
    try dsimp only at hf
    refine cx_callS (As := [.long (x1.toInt64)]) (rest := []) ⟨hx, hb, hml, hown, hts⟩ (c_CA_firstDay l dC dI tC  (x1.toInt64) r hc_1) (k_SR_219 hts ⟨Nat.le_of_ble_eq_true rfl, Nat.le_of_ble_eq_true rfl⟩) hl.1 hP hD hS hA hK hN [] rfl rfl rfl rfl rfl (Nat.le_of_ble_eq_true rfl) d_SR_month_16 ⟨Nat.zero_le _, Nat.zero_le _⟩ (fun H locs hP hD hS => ?_)
    have hP : va_P (dC, dI) classes (wSR tC ad sr) H := hP
    have hD : va_D A (wSR tC ad sr) := hD
    refine W.eq (g2 := F0 m 19 ls [.long r]) rfl ?_
    refine lv_l2i hx hb d_SR_month_19 rfl ?_
    refine lv_goto (tgt := 25) hx hb d_SR_month_20 (by decide) ?_
    have hq0 := (g_some hf)
    subst hq0
    exact cx_iret hx hb hr hlocks hP hS d_SR_month_25
