def f_MO_daysIn (x0 : Int64) (x2 : Int32) : Int32 :=
  if x2 = 1 then (
    if (f_MO_isLeap x0) = 0 then (
      28
    ) else
    29
  ) else
  if x2 = 3 then (
    30
  ) else
  if x2 = 5 then (
    30
  ) else
  if x2 = 8 then (
    30
  ) else
  if x2 = 10 then (
    30
  ) else
  31
set_option maxHeartbeats 4000000 in
set_option maxRecDepth 100000 in
theorem c_MO_daysIn (l : Launch) (dC : Nat → ClassId) (dI : Nat → Nat → Nat) (tC : Nat → ClassId)  (x0 : Int64) (x2 : Int32) (res : Int32) (hf : f_MO_daysIn x0 x2 = res) : cx_M l y_MO_daysIn w_MO_daysIn { frames := 1, cells := 0, slots := 0, locals := 21 } (dC, dI) classes (tyS tC) [.long x0, .int x2] ([]) ([]) (some (.int res)) := by
  refine cx_of (cc := b_MO_daysIn) (maxL := 3) (ret := some .int) (plainFor_of_name (by decide)) rfl (Nat.le_of_ble_eq_true rfl) ?_
  intro p e s m below meth c hx hb hr hml hown hts hlocks A hA H locs ls hK hN hP hD hS hl
  have hown : s.vm.findClass R_MO = some m.cls := hown
  have hl : lv_has ls 3 [(0, .long x0), (2, .int x2)] := hl
  unfold f_MO_daysIn at hf
  refine lv_iload_n hx hb d_MO_daysIn_0 rfl (lv_at hl 1 rfl) ?_
  refine lv_iconst (v := 1) hx hb d_MO_daysIn_1 (by decide) ?_
  refine lv_icmp_ne (tgt := 22) hx hb d_MO_daysIn_2 (by decide) (fun cb => ?_) (fun cb => ?_)
  · have hf := g_f hf cb
    refine lv_iload_n hx hb d_MO_daysIn_22 rfl (lv_at hl 1 rfl) ?_
    refine lv_iconst (v := 3) hx hb d_MO_daysIn_23 (by decide) ?_
    refine lv_icmp_eq (tgt := 44) hx hb d_MO_daysIn_24 (by decide) (fun cb_1 => ?_) (fun cb_1 => ?_)
    · have hf := g_t hf cb_1
      refine lv_bipush (v := 30) hx hb d_MO_daysIn_44 (by decide) ?_
      refine lv_goto (tgt := 51) hx hb d_MO_daysIn_46 (by decide) ?_
      have hq0 := hf
      subst hq0
      exact cx_iret hx hb hr hlocks hP hS d_MO_daysIn_51
    · have hf := g_f hf cb_1
      refine lv_iload_n hx hb d_MO_daysIn_27 rfl (lv_at hl 1 rfl) ?_
      refine lv_iconst (v := 5) hx hb d_MO_daysIn_28 (by decide) ?_
      refine lv_icmp_eq (tgt := 44) hx hb d_MO_daysIn_29 (by decide) (fun cb_2 => ?_) (fun cb_2 => ?_)
      · have hf := g_t hf cb_2
        refine lv_bipush (v := 30) hx hb d_MO_daysIn_44 (by decide) ?_
        refine lv_goto (tgt := 51) hx hb d_MO_daysIn_46 (by decide) ?_
        have hq0 := hf
        subst hq0
        exact cx_iret hx hb hr hlocks hP hS d_MO_daysIn_51
      · have hf := g_f hf cb_2
        refine lv_iload_n hx hb d_MO_daysIn_32 rfl (lv_at hl 1 rfl) ?_
        refine lv_bipush (v := 8) hx hb d_MO_daysIn_33 (by decide) ?_
        refine lv_icmp_eq (tgt := 44) hx hb d_MO_daysIn_35 (by decide) (fun cb_3 => ?_) (fun cb_3 => ?_)
        · have hf := g_t hf cb_3
          refine lv_bipush (v := 30) hx hb d_MO_daysIn_44 (by decide) ?_
          refine lv_goto (tgt := 51) hx hb d_MO_daysIn_46 (by decide) ?_
          have hq0 := hf
          subst hq0
          exact cx_iret hx hb hr hlocks hP hS d_MO_daysIn_51
        · have hf := g_f hf cb_3
          refine lv_iload_n hx hb d_MO_daysIn_38 rfl (lv_at hl 1 rfl) ?_
          refine lv_bipush (v := 10) hx hb d_MO_daysIn_39 (by decide) ?_
          refine lv_icmp_ne (tgt := 49) hx hb d_MO_daysIn_41 (by decide) (fun cb_4 => ?_) (fun cb_4 => ?_)
          · have hf := g_f hf cb_4
            refine lv_bipush (v := 31) hx hb d_MO_daysIn_49 (by decide) ?_
            have hq0 := hf
            subst hq0
            exact cx_iret hx hb hr hlocks hP hS d_MO_daysIn_51
          · have hf := g_t hf cb_4
            refine lv_bipush (v := 30) hx hb d_MO_daysIn_44 (by decide) ?_
            refine lv_goto (tgt := 51) hx hb d_MO_daysIn_46 (by decide) ?_
            have hq0 := hf
            subst hq0
            exact cx_iret hx hb hr hlocks hP hS d_MO_daysIn_51
  · have hf := g_t hf cb
    refine lv_lload_n hx hb d_MO_daysIn_5 rfl (lv_at hl 0 rfl) ?_
    refine cx_callS (As := [.long x0]) (rest := []) ⟨hx, hb, hml, hown, hts⟩ (c_MO_isLeap l dC dI tC  x0 (f_MO_isLeap x0) rfl) (k_MO_159 hts ⟨Nat.le_of_ble_eq_true rfl, Nat.le_of_ble_eq_true rfl⟩) hl.1 hP hD hS hA hK hN [] rfl rfl rfl rfl rfl (Nat.le_of_ble_eq_true rfl) d_MO_daysIn_6 ⟨Nat.zero_le _, Nat.zero_le _⟩ (fun H locs hP hD hS => ?_)
    have hP : va_P (dC, dI) classes ([]) H := hP
    have hD : va_D A ([]) := hD
    refine W.eq (g2 := F0 m 9 ls [.int (f_MO_isLeap x0)]) rfl ?_
    refine lv_if_eq (tgt := 17) hx hb d_MO_daysIn_9 (by decide) (fun cb_5 => ?_) (fun cb_5 => ?_)
    · have hf := g_t hf cb_5
      refine lv_bipush (v := 28) hx hb d_MO_daysIn_17 (by decide) ?_
      refine lv_goto (tgt := 51) hx hb d_MO_daysIn_19 (by decide) ?_
      have hq0 := hf
      subst hq0
      exact cx_iret hx hb hr hlocks hP hS d_MO_daysIn_51
    · have hf := g_f hf cb_5
      refine lv_bipush (v := 29) hx hb d_MO_daysIn_12 (by decide) ?_
      refine lv_goto (tgt := 51) hx hb d_MO_daysIn_14 (by decide) ?_
      have hq0 := hf
      subst hq0
      exact cx_iret hx hb hr hlocks hP hS d_MO_daysIn_51
