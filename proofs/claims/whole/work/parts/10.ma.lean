def f_MA_floorDiv (x0 : Int64) (x2 : Int64) : Option Int64 :=
  if x2 = 0 then none else
  gl_let ((x0 / x2)) fun v4 =>
  if 0 ≤ (x0 ^^^ x2) then (
    some v4
  ) else
  if (v4 * x2) = x0 then (
    some v4
  ) else
  some (v4 - 1)
set_option maxHeartbeats 4000000 in
set_option maxRecDepth 100000 in
theorem c_MA_floorDiv (l : Launch) (dC : Nat → ClassId) (dI : Nat → Nat → Nat) (tC : Nat → ClassId)  (x0 : Int64) (x2 : Int64) (res : Int64) (hf : f_MA_floorDiv x0 x2 = some res) : cx_M l y_MA_floorDiv w_MA_floorDiv { frames := 0, cells := 0, slots := 0, locals := 0 } (dC, dI) classes (tyS tC) [.long x0, .long x2] ([]) ([]) (some (.long res)) := by
  refine cx_of (cc := b_MA_floorDiv) (maxL := 6) (ret := some .long) (by decide +kernel) rfl (Nat.le_of_ble_eq_true rfl) ?_
  intro p e s m below meth c hx hb hr hml hown hts hlocks A hA H locs ls hK hN hP hD hS hl
  have hown : s.vm.findClass R_MA = some m.cls := hown
  have hl : lv_has ls 6 [(0, .long x0), (2, .long x2)] := hl
  unfold f_MA_floorDiv at hf
  refine lv_lload_n hx hb d_MA_floorDiv_0 rfl (lv_at hl 0 rfl) ?_
  refine lv_lload_n hx hb d_MA_floorDiv_1 rfl (lv_at hl 1 rfl) ?_
  obtain ⟨ck, hf⟩ := g_ck hf
  refine lv_ldiv hx hb d_MA_floorDiv_2 ck ?_
  refine lv_topl (fun v4 h_v4 => ?_)
  have hf := g_let hf h_v4
  refine lv_lstore (lv' := [(4, .long v4), (0, .long x0), (2, .long x2)]) hx hb d_MA_floorDiv_3 hl (by decide) rfl (fun ls hl => ?_)
  refine lv_lload_n hx hb d_MA_floorDiv_5 rfl (lv_at hl 1 rfl) ?_
  refine lv_lload_n hx hb d_MA_floorDiv_6 rfl (lv_at hl 2 rfl) ?_
  refine lv_lxor hx hb d_MA_floorDiv_7 ?_
  refine lv_lconst (v := 0) hx hb d_MA_floorDiv_8 (by decide) ?_
  refine cq_ge (tgt := 27) hx hb d_MA_floorDiv_9 d_MA_floorDiv_10 (by decide) (fun cb => ?_) (fun cb => ?_)
  · have hf := g_t hf cb
    refine lv_lload hx hb d_MA_floorDiv_27 (lv_at hl 0 rfl) ?_
    have hq0 := (g_some hf)
    subst hq0
    exact cx_lret hx hb hr hlocks hP hS d_MA_floorDiv_29
  · have hf := g_f hf cb
    refine lv_lload hx hb d_MA_floorDiv_13 (lv_at hl 0 rfl) ?_
    refine lv_lload_n hx hb d_MA_floorDiv_15 rfl (lv_at hl 2 rfl) ?_
    refine lv_lmul hx hb d_MA_floorDiv_16 ?_
    refine lv_lload_n hx hb d_MA_floorDiv_17 rfl (lv_at hl 1 rfl) ?_
    refine cq_eq (tgt := 27) hx hb d_MA_floorDiv_18 d_MA_floorDiv_19 (by decide) (fun cb_1 => ?_) (fun cb_1 => ?_)
    · have hf := g_t hf cb_1
      refine lv_lload hx hb d_MA_floorDiv_27 (lv_at hl 0 rfl) ?_
      have hq0 := (g_some hf)
      subst hq0
      exact cx_lret hx hb hr hlocks hP hS d_MA_floorDiv_29
    · have hf := g_f hf cb_1
      refine lv_lload hx hb d_MA_floorDiv_22 (lv_at hl 0 rfl) ?_
      refine lv_lconst (v := 1) hx hb d_MA_floorDiv_24 (by decide) ?_
      refine lv_lsub hx hb d_MA_floorDiv_25 ?_
      have hq0 := (g_some hf)
      subst hq0
      exact cx_lret hx hb hr hlocks hP hS d_MA_floorDiv_26
def f_SR_isWithin (x0 : Int64) (x2 : Int64) (x4 : Int64) : Int32 :=
  if x0 < x2 then (
    0
  ) else
  if x4 < x0 then (
    0
  ) else
  1
theorem z_SR_isWithin (x0 : Int64) (x2 : Int64) (x4 : Int64) : narrow .boolean (.int (f_SR_isWithin x0 x2 x4)) = .int (f_SR_isWithin x0 x2 x4) := by
  unfold f_SR_isWithin
  first | ((repeat' split) <;> rfl) | exact z_SR_isWithin _ _ _
set_option maxHeartbeats 4000000 in
set_option maxRecDepth 100000 in
theorem c_SR_isWithin (l : Launch) (dC : Nat → ClassId) (dI : Nat → Nat → Nat) (tC : Nat → ClassId)  (x0 : Int64) (x2 : Int64) (x4 : Int64) (res : Int32) (hf : f_SR_isWithin x0 x2 x4 = res) : cx_M l y_SR_isWithin w_SR_isWithin { frames := 0, cells := 0, slots := 0, locals := 0 } (dC, dI) classes (tyS tC) [.long x0, .long x2, .long x4] ([]) ([]) (some (.int res)) := by
  refine cx_of (cc := b_SR_isWithin) (maxL := 6) (ret := some .boolean) (plainFor_of_name (by decide)) rfl (Nat.le_of_ble_eq_true rfl) ?_
  intro p e s m below meth c hx hb hr hml hown hts hlocks A hA H locs ls hK hN hP hD hS hl
  have hown : s.vm.findClass R_SR = some m.cls := hown
  have hl : lv_has ls 6 [(0, .long x0), (2, .long x2), (4, .long x4)] := hl
  unfold f_SR_isWithin at hf
  refine lv_lload_n hx hb d_SR_isWithin_0 rfl (lv_at hl 0 rfl) ?_
  refine lv_lload_n hx hb d_SR_isWithin_1 rfl (lv_at hl 1 rfl) ?_
  refine cq_lt (tgt := 17) hx hb d_SR_isWithin_2 d_SR_isWithin_3 (by decide) (fun cb => ?_) (fun cb => ?_)
  · have hf := g_t hf cb
    refine lv_iconst (v := 0) hx hb d_SR_isWithin_17 (by decide) ?_
    have hq0 := hf
    subst hq0
    exact cx_zret hx hb hr hlocks rfl hP hS d_SR_isWithin_18
  · have hf := g_f hf cb
    refine lv_lload_n hx hb d_SR_isWithin_6 rfl (lv_at hl 0 rfl) ?_
    refine lv_lload hx hb d_SR_isWithin_7 (lv_at hl 2 rfl) ?_
    refine cq_gt (tgt := 17) hx hb d_SR_isWithin_9 d_SR_isWithin_10 (by decide) (fun cb_1 => ?_) (fun cb_1 => ?_)
    · have hf := g_t hf cb_1
      refine lv_iconst (v := 0) hx hb d_SR_isWithin_17 (by decide) ?_
      have hq0 := hf
      subst hq0
      exact cx_zret hx hb hr hlocks rfl hP hS d_SR_isWithin_18
    · have hf := g_f hf cb_1
      refine lv_iconst (v := 1) hx hb d_SR_isWithin_13 (by decide) ?_
      refine lv_goto (tgt := 18) hx hb d_SR_isWithin_14 (by decide) ?_
      have hq0 := hf
      subst hq0
      exact cx_zret hx hb hr hlocks rfl hP hS d_SR_isWithin_18
def f_SR_by (x0 : Int64) (x2 : Int64) : Option Int64 :=
  if 1 ≤ x2 then (
    (f_MA_floorDiv x0 x2).bind fun r =>
    some r
  ) else
  some 0
set_option maxHeartbeats 4000000 in
set_option maxRecDepth 100000 in
theorem c_SR_by (l : Launch) (dC : Nat → ClassId) (dI : Nat → Nat → Nat) (tC : Nat → ClassId)  (x0 : Int64) (x2 : Int64) (res : Int64) (hf : f_SR_by x0 x2 = some res) : cx_M l y_SR_by w_SR_by { frames := 1, cells := 0, slots := 0, locals := 25 } (dC, dI) classes (tyS tC) [.long x0, .long x2] ([]) ([]) (some (.long res)) := by
  refine cx_of (cc := b_SR_by) (maxL := 4) (ret := some .long) (plainFor_of_name (by decide)) rfl (Nat.le_of_ble_eq_true rfl) ?_
  intro p e s m below meth c hx hb hr hml hown hts hlocks A hA H locs ls hK hN hP hD hS hl
  have hown : s.vm.findClass R_SR = some m.cls := hown
  have hl : lv_has ls 4 [(0, .long x0), (2, .long x2)] := hl
  unfold f_SR_by at hf
  refine lv_lload_n hx hb d_SR_by_0 rfl (lv_at hl 1 rfl) ?_
  refine lv_lconst (v := 1) hx hb d_SR_by_1 (by decide) ?_
  refine cq_ge (tgt := 10) hx hb d_SR_by_2 d_SR_by_3 (by decide) (fun cb => ?_) (fun cb => ?_)
  · have hf := g_t hf cb
    refine lv_lload_n hx hb d_SR_by_10 rfl (lv_at hl 0 rfl) ?_
    refine lv_lload_n hx hb d_SR_by_11 rfl (lv_at hl 1 rfl) ?_
    obtain ⟨r, hc, hf⟩ := g_bind hf
    try dsimp only at hf
    refine cx_callS (As := [.long x0, .long x2]) (rest := []) ⟨hx, hb, hml, hown, hts⟩ (c_MA_floorDiv l dC dI tC  x0 x2 r hc) (k_SR_228 hts ⟨Nat.le_of_ble_eq_true rfl, Nat.le_of_ble_eq_true rfl⟩) hl.1 hP hD hS hA hK hN [] rfl rfl rfl rfl rfl (Nat.le_of_ble_eq_true rfl) d_SR_by_12 ⟨Nat.zero_le _, Nat.zero_le _⟩ (fun H locs hP hD hS => ?_)
    have hP : va_P (dC, dI) classes ([]) H := hP
    have hD : va_D A ([]) := hD
    refine W.eq (g2 := F0 m 15 ls [.long r]) rfl ?_
    have hq0 := (g_some hf)
    subst hq0
    exact cx_lret hx hb hr hlocks hP hS d_SR_by_15
  · have hf := g_f hf cb
    refine lv_lconst (v := 0) hx hb d_SR_by_6 (by decide) ?_
    refine lv_goto (tgt := 15) hx hb d_SR_by_7 (by decide) ?_
    have hq0 := (g_some hf)
    subst hq0
    exact cx_lret hx hb hr hlocks hP hS d_SR_by_15
def f_SR_isKey (x0 : Int32) : Int32 :=
  (f_SR_isWithin (x0.toInt64) 0 7)
theorem z_SR_isKey (x0 : Int32) : narrow .boolean (.int (f_SR_isKey x0)) = .int (f_SR_isKey x0) := by
  unfold f_SR_isKey
  first | ((repeat' split) <;> rfl) | exact z_SR_isWithin _ _ _
set_option maxHeartbeats 4000000 in
set_option maxRecDepth 100000 in
theorem c_SR_isKey (l : Launch) (dC : Nat → ClassId) (dI : Nat → Nat → Nat) (tC : Nat → ClassId)  (x0 : Int32) (res : Int32) (hf : f_SR_isKey x0 = res) : cx_M l y_SR_isKey w_SR_isKey { frames := 1, cells := 0, slots := 0, locals := 25 } (dC, dI) classes (tyS tC) [.int x0] ([]) ([]) (some (.int res)) := by
  refine cx_of (cc := b_SR_isKey) (maxL := 1) (ret := some .boolean) (plainFor_of_name (by decide)) rfl (Nat.le_of_ble_eq_true rfl) ?_
  intro p e s m below meth c hx hb hr hml hown hts hlocks A hA H locs ls hK hN hP hD hS hl
  have hown : s.vm.findClass R_SR = some m.cls := hown
  have hl : lv_has ls 1 [(0, .int x0)] := hl
  unfold f_SR_isKey at hf
  refine lv_iload_n hx hb d_SR_isKey_0 rfl (lv_at hl 0 rfl) ?_
  refine lv_i2l hx hb d_SR_isKey_1 rfl ?_
  refine lv_lconst (v := 0) hx hb d_SR_isKey_2 (by decide) ?_
  refine lv_ldc2 (v := 7) hx hb hown (hts _ (List.mem_cons_of_mem _ mw_441)) d_SR_isKey_3 ?_
  refine cx_callS (As := [.long (x0.toInt64), .long 0, .long 7]) (rest := []) ⟨hx, hb, hml, hown, hts⟩ (c_SR_isWithin l dC dI tC  (x0.toInt64) 0 7 (f_SR_isWithin (x0.toInt64) 0 7) rfl) (k_SR_95 hts ⟨Nat.le_of_ble_eq_true rfl, Nat.le_of_ble_eq_true rfl⟩) hl.1 hP hD hS hA hK hN [] rfl rfl rfl rfl rfl (Nat.le_of_ble_eq_true rfl) d_SR_isKey_6 ⟨Nat.zero_le _, Nat.zero_le _⟩ (fun H locs hP hD hS => ?_)
  have hP : va_P (dC, dI) classes ([]) H := hP
  have hD : va_D A ([]) := hD
  refine W.eq (g2 := F0 m 9 ls [.int (f_SR_isWithin (x0.toInt64) 0 7)]) rfl ?_
  have hq0 := hf
  subst hq0
  exact cx_zret hx hb hr hlocks (z_SR_isWithin (x0.toInt64) 0 7) hP hS d_SR_isKey_9
def f_SR_nearest (x0 : Int32) (x1 : Int32) (x2 : Int32) : Int32 :=
  if x1 ≤ x0 then (
    if x0 ≤ x2 then (
      x0
    ) else
    x2
  ) else
  x1
set_option maxHeartbeats 4000000 in
set_option maxRecDepth 100000 in
theorem c_SR_nearest (l : Launch) (dC : Nat → ClassId) (dI : Nat → Nat → Nat) (tC : Nat → ClassId)  (x0 : Int32) (x1 : Int32) (x2 : Int32) (res : Int32) (hf : f_SR_nearest x0 x1 x2 = res) : cx_M l y_SR_nearest w_SR_nearest { frames := 0, cells := 0, slots := 0, locals := 0 } (dC, dI) classes (tyS tC) [.int x0, .int x1, .int x2] ([]) ([]) (some (.int res)) := by
  refine cx_of (cc := b_SR_nearest) (maxL := 3) (ret := some .int) (plainFor_of_name (by decide)) rfl (Nat.le_of_ble_eq_true rfl) ?_
  intro p e s m below meth c hx hb hr hml hown hts hlocks A hA H locs ls hK hN hP hD hS hl
  have hown : s.vm.findClass R_SR = some m.cls := hown
  have hl : lv_has ls 3 [(0, .int x0), (1, .int x1), (2, .int x2)] := hl
  unfold f_SR_nearest at hf
  refine lv_iload_n hx hb d_SR_nearest_0 rfl (lv_at hl 0 rfl) ?_
  refine lv_iload_n hx hb d_SR_nearest_1 rfl (lv_at hl 1 rfl) ?_
  refine lv_icmp_ge (tgt := 9) hx hb d_SR_nearest_2 (by decide) (fun cb => ?_) (fun cb => ?_)
  · have hf := g_t hf cb
    refine lv_iload_n hx hb d_SR_nearest_9 rfl (lv_at hl 0 rfl) ?_
    refine lv_iload_n hx hb d_SR_nearest_10 rfl (lv_at hl 2 rfl) ?_
    refine lv_icmp_le (tgt := 18) hx hb d_SR_nearest_11 (by decide) (fun cb_1 => ?_) (fun cb_1 => ?_)
    · have hf := g_t hf cb_1
      refine lv_iload_n hx hb d_SR_nearest_18 rfl (lv_at hl 0 rfl) ?_
      have hq0 := hf
      subst hq0
      exact cx_iret hx hb hr hlocks hP hS d_SR_nearest_19
    · have hf := g_f hf cb_1
      refine lv_iload_n hx hb d_SR_nearest_14 rfl (lv_at hl 2 rfl) ?_
      refine lv_goto (tgt := 19) hx hb d_SR_nearest_15 (by decide) ?_
      have hq0 := hf
      subst hq0
      exact cx_iret hx hb hr hlocks hP hS d_SR_nearest_19
  · have hf := g_f hf cb
    refine lv_iload_n hx hb d_SR_nearest_5 rfl (lv_at hl 1 rfl) ?_
    refine lv_goto (tgt := 19) hx hb d_SR_nearest_6 (by decide) ?_
    have hq0 := hf
    subst hq0
    exact cx_iret hx hb hr hlocks hP hS d_SR_nearest_19
def f_CA_firstDay (x0 : Int64) : Option Int64 :=
  gl_let ((x0 + 23638)) fun v2 =>
  (f_MA_floorDiv v2 12).bind fun r =>
  (f_MA_floorDiv r 4).bind fun r_1 =>
  (f_MA_floorDiv r 100).bind fun r_2 =>
  (f_MA_floorDiv r 400).bind fun r_3 =>
  gl_let (((r_1 - r_2) + r_3)) fun v6 =>
  gl_let ((((153 * (v2 - (12 * r))) + 2) / 5)) fun v8 =>
  some ((((365 * r) + v6) + v8) - 719468)
set_option maxHeartbeats 4000000 in
set_option maxRecDepth 100000 in
theorem c_CA_firstDay (l : Launch) (dC : Nat → ClassId) (dI : Nat → Nat → Nat) (tC : Nat → ClassId)  (x0 : Int64) (res : Int64) (hf : f_CA_firstDay x0 = some res) : cx_M l y_CA_firstDay w_CA_firstDay { frames := 1, cells := 0, slots := 0, locals := 25 } (dC, dI) classes (tyS tC) [.long x0] ([]) ([]) (some (.long res)) := by
  refine cx_of (cc := b_CA_firstDay) (maxL := 10) (ret := some .long) (plainFor_of_name (by decide)) rfl (Nat.le_of_ble_eq_true rfl) ?_
  intro p e s m below meth c hx hb hr hml hown hts hlocks A hA H locs ls hK hN hP hD hS hl
  have hown : s.vm.findClass R_CA = some m.cls := hown
  have hl : lv_has ls 10 [(0, .long x0)] := hl
  unfold f_CA_firstDay at hf
  refine lv_lload_n hx hb d_CA_firstDay_0 rfl (lv_at hl 0 rfl) ?_
  refine lv_ldc2 (v := 23638) hx hb hown (hts _ (List.mem_cons_of_mem _ mw_464)) d_CA_firstDay_1 ?_
  refine lv_ladd hx hb d_CA_firstDay_4 ?_
  refine lv_topl (fun v2 h_v2 => ?_)
  have hf := g_let hf h_v2
  refine lv_lstore_n (lv' := [(2, .long v2), (0, .long x0)]) hx hb d_CA_firstDay_5 rfl hl (by decide) rfl (fun ls hl => ?_)
  refine lv_lload_n hx hb d_CA_firstDay_6 rfl (lv_at hl 0 rfl) ?_
  refine lv_ldc2 (v := 12) hx hb hown (hts _ (List.mem_cons_of_mem _ mw_465)) d_CA_firstDay_7 ?_
  obtain ⟨r, hc, hf⟩ := g_bind hf
  try dsimp only at hf
  refine cx_callS (As := [.long v2, .long 12]) (rest := []) ⟨hx, hb, hml, hown, hts⟩ (c_MA_floorDiv l dC dI tC  v2 12 r hc) (k_CA_13 hts ⟨Nat.le_of_ble_eq_true rfl, Nat.le_of_ble_eq_true rfl⟩) hl.1 hP hD hS hA hK hN [] rfl rfl rfl rfl rfl (Nat.le_of_ble_eq_true rfl) d_CA_firstDay_10 ⟨Nat.zero_le _, Nat.zero_le _⟩ (fun H locs hP hD hS => ?_)
  have hP : va_P (dC, dI) classes ([]) H := hP
  have hD : va_D A ([]) := hD
  refine W.eq (g2 := F0 m 13 ls [.long r]) rfl ?_
  refine lv_lstore (lv' := [(4, .long r), (2, .long v2), (0, .long x0)]) hx hb d_CA_firstDay_13 hl (by decide) rfl (fun ls hl => ?_)
  refine lv_lload hx hb d_CA_firstDay_15 (lv_at hl 0 rfl) ?_
  refine lv_ldc2 (v := 4) hx hb hown (hts _ (List.mem_cons_of_mem _ mw_467)) d_CA_firstDay_17 ?_
  obtain ⟨r_1, hc_1, hf⟩ := g_bind hf
  try dsimp only at hf
  refine cx_callS (As := [.long r, .long 4]) (rest := []) ⟨hx, hb, hml, hown, hts⟩ (c_MA_floorDiv l dC dI tC  r 4 r_1 hc_1) (k_CA_13 hts ⟨Nat.le_of_ble_eq_true rfl, Nat.le_of_ble_eq_true rfl⟩) hl.1 hP hD hS hA hK hN [] rfl rfl rfl rfl rfl (Nat.le_of_ble_eq_true rfl) d_CA_firstDay_20 ⟨Nat.zero_le _, Nat.zero_le _⟩ (fun H locs hP hD hS => ?_)
  have hP : va_P (dC, dI) classes ([]) H := hP
  have hD : va_D A ([]) := hD
  refine W.eq (g2 := F0 m 23 ls [.long r_1]) rfl ?_
  refine lv_lload hx hb d_CA_firstDay_23 (lv_at hl 0 rfl) ?_
  refine lv_ldc2 (v := 100) hx hb hown (hts _ (List.mem_cons_of_mem _ mw_468)) d_CA_firstDay_25 ?_
  obtain ⟨r_2, hc_2, hf⟩ := g_bind hf
  try dsimp only at hf
  refine cx_callS (As := [.long r, .long 100]) (rest := [.long r_1]) ⟨hx, hb, hml, hown, hts⟩ (c_MA_floorDiv l dC dI tC  r 100 r_2 hc_2) (k_CA_13 hts ⟨Nat.le_of_ble_eq_true rfl, Nat.le_of_ble_eq_true rfl⟩) hl.1 hP hD hS hA hK hN [] rfl rfl rfl rfl rfl (Nat.le_of_ble_eq_true rfl) d_CA_firstDay_28 ⟨Nat.zero_le _, Nat.zero_le _⟩ (fun H locs hP hD hS => ?_)
  have hP : va_P (dC, dI) classes ([]) H := hP
  have hD : va_D A ([]) := hD
  refine W.eq (g2 := F0 m 31 ls [.long r_2, .long r_1]) rfl ?_
  refine lv_lsub hx hb d_CA_firstDay_31 ?_
  refine lv_lload hx hb d_CA_firstDay_32 (lv_at hl 0 rfl) ?_
  refine lv_ldc2 (v := 400) hx hb hown (hts _ (List.mem_cons_of_mem _ mw_469)) d_CA_firstDay_34 ?_
  obtain ⟨r_3, hc_3, hf⟩ := g_bind hf
  try dsimp only at hf
  refine cx_callS (As := [.long r, .long 400]) (rest := [.long (r_1 - r_2)]) ⟨hx, hb, hml, hown, hts⟩ (c_MA_floorDiv l dC dI tC  r 400 r_3 hc_3) (k_CA_13 hts ⟨Nat.le_of_ble_eq_true rfl, Nat.le_of_ble_eq_true rfl⟩) hl.1 hP hD hS hA hK hN [] rfl rfl rfl rfl rfl (Nat.le_of_ble_eq_true rfl) d_CA_firstDay_37 ⟨Nat.zero_le _, Nat.zero_le _⟩ (fun H locs hP hD hS => ?_)
  have hP : va_P (dC, dI) classes ([]) H := hP
  have hD : va_D A ([]) := hD
  refine W.eq (g2 := F0 m 40 ls [.long r_3, .long (r_1 - r_2)]) rfl ?_
  refine lv_ladd hx hb d_CA_firstDay_40 ?_
  refine lv_topl (fun v6 h_v6 => ?_)
  have hf := g_let hf h_v6
  refine lv_lstore (lv' := [(6, .long v6), (4, .long r), (2, .long v2), (0, .long x0)]) hx hb d_CA_firstDay_41 hl (by decide) rfl (fun ls hl => ?_)
  refine lv_ldc2 (v := 153) hx hb hown (hts _ (List.mem_cons_of_mem _ mw_470)) d_CA_firstDay_43 ?_
  refine lv_lload_n hx hb d_CA_firstDay_46 rfl (lv_at hl 2 rfl) ?_
  refine lv_ldc2 (v := 12) hx hb hown (hts _ (List.mem_cons_of_mem _ mw_465)) d_CA_firstDay_47 ?_
  refine lv_lload hx hb d_CA_firstDay_50 (lv_at hl 1 rfl) ?_
  refine lv_lmul hx hb d_CA_firstDay_52 ?_
  refine lv_lsub hx hb d_CA_firstDay_53 ?_
  refine lv_lmul hx hb d_CA_firstDay_54 ?_
  refine lv_ldc2 (v := 2) hx hb hown (hts _ (List.mem_cons_of_mem _ mw_471)) d_CA_firstDay_55 ?_
  refine lv_ladd hx hb d_CA_firstDay_58 ?_
  refine lv_ldc2 (v := 5) hx hb hown (hts _ (List.mem_cons_of_mem _ mw_472)) d_CA_firstDay_59 ?_
  refine lv_ldiv hx hb d_CA_firstDay_62 (by decide) ?_
  refine lv_topl (fun v8 h_v8 => ?_)
  have hf := g_let hf h_v8
  refine lv_lstore (lv' := [(8, .long v8), (6, .long v6), (4, .long r), (2, .long v2), (0, .long x0)]) hx hb d_CA_firstDay_63 hl (by decide) rfl (fun ls hl => ?_)
  refine lv_ldc2 (v := 365) hx hb hown (hts _ (List.mem_cons_of_mem _ mw_473)) d_CA_firstDay_65 ?_
  refine lv_lload hx hb d_CA_firstDay_68 (lv_at hl 2 rfl) ?_
  refine lv_lmul hx hb d_CA_firstDay_70 ?_
  refine lv_lload hx hb d_CA_firstDay_71 (lv_at hl 1 rfl) ?_
  refine lv_ladd hx hb d_CA_firstDay_73 ?_
  refine lv_lload hx hb d_CA_firstDay_74 (lv_at hl 0 rfl) ?_
  refine lv_ladd hx hb d_CA_firstDay_76 ?_
  refine lv_ldc2 (v := 719468) hx hb hown (hts _ (List.mem_cons_of_mem _ mw_474)) d_CA_firstDay_77 ?_
  refine lv_lsub hx hb d_CA_firstDay_80 ?_
  have hq0 := (g_some hf)
  subst hq0
  exact cx_lret hx hb hr hlocks hP hS d_CA_firstDay_81
def f_CA_monthOf_L19 (x0 : Int64) : Nat → Int64 → Int32 → Option (Int64)
  | 0, _, _ => none
  | n + 1, v2_1, v4 =>
    if 5 ≤ v4 then (
      some v2_1
    ) else
    (f_CA_firstDay (v2_1 + 1)).bind fun r_1 =>
    if x0 < r_1 then (
      some v2_1
    ) else
    gl_let ((v2_1 + 1)) fun v2_3 =>
    gl_let (v4 + 1) fun v4_1 =>
    f_CA_monthOf_L19 x0 n v2_3 v4_1
def f_CA_monthOf (k : Nat) (x0 : Int64) : Option Int64 :=
  (f_MA_floorDiv (x0 * 4800) 146097).bind fun r =>
  gl_let ((r - 2)) fun v2 =>
  (f_CA_monthOf_L19 x0 k v2 0).bind fun v2_2 =>
  some v2_2
set_option maxHeartbeats 4000000 in
set_option maxRecDepth 100000 in
theorem c_CA_monthOf (l : Launch) (dC : Nat → ClassId) (dI : Nat → Nat → Nat) (tC : Nat → ClassId)  (k : Nat) (x0 : Int64) (res : Int64) (hf : f_CA_monthOf k x0 = some res) : cx_M l y_CA_monthOf w_CA_monthOf { frames := 2, cells := 0, slots := 0, locals := 54 } (dC, dI) classes (tyS tC) [.long x0] ([]) ([]) (some (.long res)) := by
  refine cx_of (cc := b_CA_monthOf) (maxL := 5) (ret := some .long) (plainFor_of_name (by decide)) rfl (Nat.le_of_ble_eq_true rfl) ?_
  intro p e s m below meth c hx hb hr hml hown hts hlocks A hA H locs ls hK hN hP hD hS hl
  have hown : s.vm.findClass R_CA = some m.cls := hown
  have hl : lv_has ls 5 [(0, .long x0)] := hl
  unfold f_CA_monthOf at hf
  refine lv_lload_n hx hb d_CA_monthOf_0 rfl (lv_at hl 0 rfl) ?_
  refine lv_ldc2 (v := 4800) hx hb hown (hts _ (List.mem_cons_of_mem _ mw_645)) d_CA_monthOf_1 ?_
  refine lv_lmul hx hb d_CA_monthOf_4 ?_
  refine lv_ldc2 (v := 146097) hx hb hown (hts _ (List.mem_cons_of_mem _ mw_646)) d_CA_monthOf_5 ?_
  obtain ⟨r, hc, hf⟩ := g_bind hf
  try dsimp only at hf
  refine cx_callS (As := [.long (x0 * 4800), .long 146097]) (rest := []) ⟨hx, hb, hml, hown, hts⟩ (c_MA_floorDiv l dC dI tC  (x0 * 4800) 146097 r hc) (k_CA_13 hts ⟨Nat.le_of_ble_eq_true rfl, Nat.le_of_ble_eq_true rfl⟩) hl.1 hP hD hS hA hK hN [] rfl rfl rfl rfl rfl (Nat.le_of_ble_eq_true rfl) d_CA_monthOf_8 ⟨Nat.zero_le _, Nat.zero_le _⟩ (fun H locs hP hD hS => ?_)
  have hP : va_P (dC, dI) classes ([]) H := hP
  have hD : va_D A ([]) := hD
  refine W.eq (g2 := F0 m 11 ls [.long r]) rfl ?_
  refine lv_ldc2 (v := 2) hx hb hown (hts _ (List.mem_cons_of_mem _ mw_471)) d_CA_monthOf_11 ?_
  refine lv_lsub hx hb d_CA_monthOf_14 ?_
  refine lv_topl (fun v2 h_v2 => ?_)
  have hf := g_let hf h_v2
  refine lv_lstore_n (lv' := [(2, .long v2), (0, .long x0)]) hx hb d_CA_monthOf_15 rfl hl (by decide) rfl (fun ls hl => ?_)
  refine lv_iconst (v := 0) hx hb d_CA_monthOf_16 (by decide) ?_
  refine lv_istore (lv' := [(4, .int 0), (2, .long v2), (0, .long x0)]) hx hb d_CA_monthOf_17 hl (by decide) rfl (fun ls hl => ?_)
  have L_19 : ∀ (n : Nat) (v2_1 : Int64) (v4 : Int32) (v2_2 : Int64), f_CA_monthOf_L19 x0 n v2_1 v4 = some v2_2 → ∀ (H : Heap) (locs : List Loc) (ls : Array Slot), va_P (dC, dI) classes ([]) H → va_D A ([]) → va_S A s.heap H locs → lv_has ls 5 [(0, .long x0), (2, .long v2_1), (4, .int v4)] → (∀ (H : Heap) (locs : List Loc) (ls : Array Slot), va_P (dC, dI) classes ([]) H → va_D A ([]) → va_S A s.heap H locs → lv_has ls 5 [(2, .long v2_2)] → W p l e { frames := 2, cells := 0, slots := 0, locals := 54 } s m [.long x0].toArray below meth c H locs 0 0 (cx_Z (dC, dI) classes below [.long x0] s ([]) (some (.long res)) A) (F0 m 46 ls [])) → W p l e { frames := 2, cells := 0, slots := 0, locals := 54 } s m [.long x0].toArray below meth c H locs 0 0 (cx_Z (dC, dI) classes below [.long x0] s ([]) (some (.long res)) A) (F0 m 19 ls []) := by
    intro n
    induction n with
    | zero =>
      intro v2_1 v4 v2_2 hf
      rw [f_CA_monthOf_L19] at hf
      cases hf
    | succ n ih =>
      intro v2_1 v4 v2_2 hf H locs ls hP hD hS hl kk
      rw [f_CA_monthOf_L19] at hf
      refine lv_iload hx hb d_CA_monthOf_19 (lv_at hl 2 rfl) ?_
      refine lv_iconst (v := 5) hx hb d_CA_monthOf_21 (by decide) ?_
      refine lv_icmp_ge (tgt := 46) hx hb d_CA_monthOf_22 (by decide) (fun cb => ?_) (fun cb => ?_)
      · have hf := g_t hf cb
        have hq0 := (g_some hf)
        subst hq0
        exact kk _ _ _ hP hD hS (lv_sub hl [1] rfl)
      · have hf := g_f hf cb
        refine lv_lload_n hx hb d_CA_monthOf_25 rfl (lv_at hl 1 rfl) ?_
        refine lv_lconst (v := 1) hx hb d_CA_monthOf_26 (by decide) ?_
        refine lv_ladd hx hb d_CA_monthOf_27 ?_
        obtain ⟨r_1, hc_1, hf⟩ := g_bind hf
        try dsimp only at hf
        refine cx_callS (As := [.long (v2_1 + 1)]) (rest := []) ⟨hx, hb, hml, hown, hts⟩ (c_CA_firstDay l dC dI tC  (v2_1 + 1) r_1 hc_1) (k_CA_39 hts ⟨Nat.le_of_ble_eq_true rfl, Nat.le_of_ble_eq_true rfl⟩) hl.1 hP hD hS hA hK hN [] rfl rfl rfl rfl rfl (Nat.le_of_ble_eq_true rfl) d_CA_monthOf_28 ⟨Nat.zero_le _, Nat.zero_le _⟩ (fun H locs hP hD hS => ?_)
        have hP : va_P (dC, dI) classes ([]) H := hP
        have hD : va_D A ([]) := hD
        refine W.eq (g2 := F0 m 31 ls [.long r_1]) rfl ?_
        refine lv_lload_n hx hb d_CA_monthOf_31 rfl (lv_at hl 0 rfl) ?_
        refine cq_gt (tgt := 46) hx hb d_CA_monthOf_32 d_CA_monthOf_33 (by decide) (fun cb_1 => ?_) (fun cb_1 => ?_)
        · have hf := g_t hf cb_1
          have hq0 := (g_some hf)
          subst hq0
          exact kk _ _ _ hP hD hS (lv_sub hl [1] rfl)
        · have hf := g_f hf cb_1
          refine lv_lload_n hx hb d_CA_monthOf_36 rfl (lv_at hl 1 rfl) ?_
          refine lv_lconst (v := 1) hx hb d_CA_monthOf_37 (by decide) ?_
          refine lv_ladd hx hb d_CA_monthOf_38 ?_
          refine lv_topl (fun v2_3 h_v2_3 => ?_)
          have hf := g_let hf h_v2_3
          refine lv_lstore_n (lv' := [(2, .long v2_3), (0, .long x0), (4, .int v4)]) hx hb d_CA_monthOf_39 rfl hl (by decide) rfl (fun ls hl => ?_)
          obtain ⟨v4_1, h_v4_1⟩ : ∃ z : Int32, z = v4 + 1 := ⟨_, rfl⟩
          have hf := g_let hf h_v4_1
          refine lv_iinc (v := v4_1) (lv' := [(4, .int v4_1), (2, .long v2_3), (0, .long x0)]) hx hb d_CA_monthOf_40 hl (k := 2) rfl (by rw [h_v4_1]; rfl) (by decide) rfl (fun ls hl => ?_)
          refine lv_goto (tgt := 19) hx hb d_CA_monthOf_43 (by decide) ?_
          exact ih v2_3 v4_1 v2_2 hf H locs ls hP hD hS (lv_sub hl [2, 1, 0] rfl) kk
  obtain ⟨v2_2, hL_19, hf⟩ := g_bind hf
  try dsimp only at hf
  refine L_19 k v2 0 v2_2 hL_19 H locs ls hP hD hS (lv_sub hl [2, 1, 0] rfl) (fun H locs ls hP hD hS hl => ?_)
  refine lv_lload_n hx hb d_CA_monthOf_46 rfl (lv_at hl 0 rfl) ?_
  have hq0 := (g_some hf)
  subst hq0
  exact cx_lret hx hb hr hlocks hP hS d_CA_monthOf_47
