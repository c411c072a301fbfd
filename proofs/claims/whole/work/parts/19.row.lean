theorem mw_487 : (Jvm.Cond.constantLong "SpanRules" (120 : Nat) (100000000 : Int64)) ∈ ww := ww_mem (List.mem_append_right _ (List.mem_append_right _ (List.mem_append_right _ (List.mem_append_left _ (List.mem_of_getElem? (i := 7) rfl))))) rfl
theorem mw_488 : (Jvm.Cond.constantLong "SpanRules" (122 : Nat) (1000000000000 : Int64)) ∈ ww := ww_mem (List.mem_append_right _ (List.mem_append_right _ (List.mem_append_right _ (List.mem_append_left _ (List.mem_of_getElem? (i := 8) rfl))))) rfl
theorem mw_489 : (Jvm.Cond.methodLink "SpanRules" (124 : Nat) ({ cls := "SpanRules$Forbidden", name := "has", desc := "(IJ)Z" } : Jvm.MethodName)) ∈ ww := ww_mem (List.mem_append_right _ (List.mem_append_right _ (List.mem_append_right _ (List.mem_append_left _ (List.mem_of_getElem? (i := 9) rfl))))) rfl
theorem mw_556 : (Jvm.Cond.methodLink "SpanRules" (135 : Nat) ({ cls := "SpanRules", name := "putWaiting", desc := "(IJJ)I" } : Jvm.MethodName)) ∈ ww := ww_mem (List.mem_append_right _ (List.mem_append_right _ (List.mem_append_right _ (List.mem_append_left _ (List.mem_of_getElem? (i := 76) rfl))))) rfl
theorem mw_558 : (Jvm.Cond.instanceMethod ({ cls := "SpanRules", name := "putWaiting", desc := "(IJJ)I" } : Jvm.MethodName)) ∈ ww := ww_mem (List.mem_append_right _ (List.mem_append_right _ (List.mem_append_right _ (List.mem_append_left _ (List.mem_of_getElem? (i := 78) rfl))))) rfl
theorem mw_559 : (Jvm.Cond.code ({ cls := "SpanRules", name := "putWaiting", desc := "(IJJ)I" } : Jvm.MethodName) prog_1_method_21_code (6 : Nat) (Option.some Jvm.ClassFile.FieldType.int)) ∈ ww := ww_mem (List.mem_append_right _ (List.mem_append_right _ (List.mem_append_right _ (List.mem_append_left _ (List.mem_of_getElem? (i := 79) rfl))))) rfl
theorem mw_572 : (Jvm.Cond.methodLink "SpanRules" (139 : Nat) ({ cls := "SpanRules", name := "putByGap", desc := "(IJJ)I" } : Jvm.MethodName)) ∈ ww := ww_mem (List.mem_append_right _ (List.mem_append_right _ (List.mem_append_right _ (List.mem_append_left _ (List.mem_of_getElem? (i := 92) rfl))))) rfl
theorem mw_574 : (Jvm.Cond.instanceMethod ({ cls := "SpanRules", name := "putByGap", desc := "(IJJ)I" } : Jvm.MethodName)) ∈ ww := ww_mem (List.mem_append_right _ (List.mem_append_right _ (List.mem_append_right _ (List.mem_append_left _ (List.mem_of_getElem? (i := 94) rfl))))) rfl
theorem mw_575 : (Jvm.Cond.code ({ cls := "SpanRules", name := "putByGap", desc := "(IJJ)I" } : Jvm.MethodName) prog_1_method_22_code (9 : Nat) (Option.some Jvm.ClassFile.FieldType.int)) ∈ ww := ww_mem (List.mem_append_right _ (List.mem_append_right _ (List.mem_append_right _ (List.mem_append_left _ (List.mem_of_getElem? (i := 95) rfl))))) rfl
theorem mw_621 : (Jvm.Cond.methodLink "SpanRules" (142 : Nat) ({ cls := "SpanRules", name := "putByLayout", desc := "(IJJ)I" } : Jvm.MethodName)) ∈ ww := ww_mem (List.mem_append_right _ (List.mem_append_right _ (List.mem_append_right _ (List.mem_append_left _ (List.mem_of_getElem? (i := 141) rfl))))) rfl
theorem mw_623 : (Jvm.Cond.instanceMethod ({ cls := "SpanRules", name := "putByLayout", desc := "(IJJ)I" } : Jvm.MethodName)) ∈ ww := ww_mem (List.mem_append_right _ (List.mem_append_right _ (List.mem_append_right _ (List.mem_append_left _ (List.mem_of_getElem? (i := 143) rfl))))) rfl
theorem mw_624 : (Jvm.Cond.code ({ cls := "SpanRules", name := "putByLayout", desc := "(IJJ)I" } : Jvm.MethodName) prog_1_method_23_code (9 : Nat) (Option.some Jvm.ClassFile.FieldType.int)) ∈ ww := ww_mem (List.mem_append_right _ (List.mem_append_right _ (List.mem_append_right _ (List.mem_append_left _ (List.mem_of_getElem? (i := 144) rfl))))) rfl
theorem ms_SR_putByGap : (Jvm.Cond.selects "SpanRules" ({ cls := "SpanRules", name := "putByGap", desc := "(IJJ)I" } : Jvm.MethodName) ({ cls := "SpanRules", name := "putByGap", desc := "(IJJ)I" } : Jvm.MethodName)) ∈ ww := ww_mem (List.mem_append_left _ (List.mem_map.mpr ⟨(({ cls := "SpanRules", name := "putByGap", desc := "(IJJ)I" } : Jvm.MethodName), 14), List.mem_of_getElem? (i := 13) (by decide +kernel), rfl⟩)) rfl
theorem ms_SR_putByLayout : (Jvm.Cond.selects "SpanRules" ({ cls := "SpanRules", name := "putByLayout", desc := "(IJJ)I" } : Jvm.MethodName) ({ cls := "SpanRules", name := "putByLayout", desc := "(IJJ)I" } : Jvm.MethodName)) ∈ ww := ww_mem (List.mem_append_left _ (List.mem_map.mpr ⟨(({ cls := "SpanRules", name := "putByLayout", desc := "(IJJ)I" } : Jvm.MethodName), 14), List.mem_of_getElem? (i := 19) (by decide +kernel), rfl⟩)) rfl
theorem ms_SR_putWaiting : (Jvm.Cond.selects "SpanRules" ({ cls := "SpanRules", name := "putWaiting", desc := "(IJJ)I" } : Jvm.MethodName) ({ cls := "SpanRules", name := "putWaiting", desc := "(IJJ)I" } : Jvm.MethodName)) ∈ ww := ww_mem (List.mem_append_left _ (List.mem_map.mpr ⟨(({ cls := "SpanRules", name := "putWaiting", desc := "(IJJ)I" } : Jvm.MethodName), 14), List.mem_of_getElem? (i := 11) (by decide +kernel), rfl⟩)) rfl
abbrev b_SR_row : ByteArray := prog_1_method_8_code
def y_SR_row : MethodName := ⟨R_SR, "row", "(IJJ)I"⟩
def w_SR_row : List Cond := .code y_SR_row b_SR_row 8 (some .int) :: ww
theorem k_SR_124 {R : Room} {s : State} {args : Array Value} {cd : Cond} (hts : ∀ w ∈ cd :: ww, w.before args s = true) (hR : 0 + 1 ≤ R.frames ∧ 8 + (5 + 11) + 0 ≤ R.locals) : CallW R s args R_SR R_FB 124 y_FB_has b_FB_has 5 (some .boolean) w_FB_has { frames := 0, cells := 0, slots := 0, locals := 0 } 0 0 2 := cwV 2 hts (gi_V mw_489 mw_311 mw_312 mw_2 mw_313) rfl rfl rfl (by decide +kernel) hR
theorem k_SR_135 {R : Room} {s : State} {args : Array Value} {cd : Cond} (hts : ∀ w ∈ cd :: ww, w.before args s = true) (hR : 1 + 1 ≤ R.frames ∧ 8 + (6 + 11) + 27 ≤ R.locals) : CallW R s args R_SR R_SR 135 y_SR_putWaiting b_SR_putWaiting 6 (some .int) w_SR_putWaiting { frames := 1, cells := 0, slots := 0, locals := 27 } 0 0 3 := cwV 3 hts (gi_V mw_556 mw_558 ms_SR_putWaiting mw_1 mw_559) rfl rfl rfl (by decide +kernel) hR
theorem k_SR_139 {R : Room} {s : State} {args : Array Value} {cd : Cond} (hts : ∀ w ∈ cd :: ww, w.before args s = true) (hR : 5 + 1 ≤ R.frames ∧ 8 + (9 + 11) + 114 ≤ R.locals) : CallW R s args R_SR R_SR 139 y_SR_putByGap b_SR_putByGap 9 (some .int) w_SR_putByGap { frames := 5, cells := 0, slots := 0, locals := 114 } 0 0 3 := cwV 3 hts (gi_V mw_572 mw_574 ms_SR_putByGap mw_1 mw_575) rfl rfl rfl (by decide +kernel) hR
theorem k_SR_142 {R : Room} {s : State} {args : Array Value} {cd : Cond} (hts : ∀ w ∈ cd :: ww, w.before args s = true) (hR : 5 + 1 ≤ R.frames ∧ 8 + (9 + 11) + 126 ≤ R.locals) : CallW R s args R_SR R_SR 142 y_SR_putByLayout b_SR_putByLayout 9 (some .int) w_SR_putByLayout { frames := 5, cells := 0, slots := 0, locals := 126 } 0 0 3 := cwV 3 hts (gi_V mw_621 mw_623 ms_SR_putByLayout mw_1 mw_624) rfl rfl rfl (by decide +kernel) hR
theorem d_SR_row_0 : decode b_SR_row 0 = .ok (.iload_n 1, 1) := by decide +kernel
theorem d_SR_row_1 : decode b_SR_row 1 = .ok (.invokestatic 116, 3) := by decide +kernel
theorem d_SR_row_4 : decode b_SR_row 4 = .ok (.ifCond .ne 5, 3) := by decide +kernel
theorem d_SR_row_7 : decode b_SR_row 7 = .ok (.iconst (-1), 1) := by decide +kernel
theorem d_SR_row_8 : decode b_SR_row 8 = .ok (.ireturn, 1) := by decide +kernel
theorem d_SR_row_9 : decode b_SR_row 9 = .ok (.aload_n 0, 1) := by decide +kernel
theorem d_SR_row_10 : decode b_SR_row 10 = .ok (.getfield 87, 3) := by decide +kernel
theorem d_SR_row_13 : decode b_SR_row 13 = .ok (.getfield 102, 3) := by decide +kernel
theorem d_SR_row_16 : decode b_SR_row 16 = .ok (.iconst 4, 1) := by decide +kernel
theorem d_SR_row_17 : decode b_SR_row 17 = .ok (.if_icmp .ne 9, 3) := by decide +kernel
theorem d_SR_row_20 : decode b_SR_row 20 = .ok (.ldc2_w 120, 3) := by decide +kernel
theorem d_SR_row_23 : decode b_SR_row 23 = .ok (.goto 6, 3) := by decide +kernel
theorem d_SR_row_26 : decode b_SR_row 26 = .ok (.ldc2_w 122, 3) := by decide +kernel
theorem d_SR_row_29 : decode b_SR_row 29 = .ok (.lstore 6, 2) := by decide +kernel
theorem d_SR_row_31 : decode b_SR_row 31 = .ok (.lload_n 2, 1) := by decide +kernel
theorem d_SR_row_32 : decode b_SR_row 32 = .ok (.lload 6, 2) := by decide +kernel
theorem d_SR_row_34 : decode b_SR_row 34 = .ok (.lneg, 1) := by decide +kernel
theorem d_SR_row_35 : decode b_SR_row 35 = .ok (.lload 6, 2) := by decide +kernel
theorem d_SR_row_37 : decode b_SR_row 37 = .ok (.invokestatic 95, 3) := by decide +kernel
theorem d_SR_row_40 : decode b_SR_row 40 = .ok (.ifCond .ne 6, 3) := by decide +kernel
theorem d_SR_row_43 : decode b_SR_row 43 = .ok (.bipush (-2), 2) := by decide +kernel
theorem d_SR_row_45 : decode b_SR_row 45 = .ok (.ireturn, 1) := by decide +kernel
theorem d_SR_row_46 : decode b_SR_row 46 = .ok (.aload_n 0, 1) := by decide +kernel
theorem d_SR_row_47 : decode b_SR_row 47 = .ok (.getfield 87, 3) := by decide +kernel
theorem d_SR_row_50 : decode b_SR_row 50 = .ok (.getfield 102, 3) := by decide +kernel
theorem d_SR_row_53 : decode b_SR_row 53 = .ok (.iconst 5, 1) := by decide +kernel
theorem d_SR_row_54 : decode b_SR_row 54 = .ok (.if_icmp .ne 32, 3) := by decide +kernel
theorem d_SR_row_57 : decode b_SR_row 57 = .ok (.aload_n 0, 1) := by decide +kernel
theorem d_SR_row_58 : decode b_SR_row 58 = .ok (.getfield 10, 3) := by decide +kernel
theorem d_SR_row_61 : decode b_SR_row 61 = .ok (.aload_n 0, 1) := by decide +kernel
theorem d_SR_row_62 : decode b_SR_row 62 = .ok (.getfield 87, 3) := by decide +kernel
theorem d_SR_row_65 : decode b_SR_row 65 = .ok (.getfield 109, 3) := by decide +kernel
theorem d_SR_row_68 : decode b_SR_row 68 = .ok (.lload 4, 2) := by decide +kernel
theorem d_SR_row_70 : decode b_SR_row 70 = .ok (.invokevirtual 124, 3) := by decide +kernel
theorem d_SR_row_73 : decode b_SR_row 73 = .ok (.ifCond .eq 13, 3) := by decide +kernel
theorem d_SR_row_76 : decode b_SR_row 76 = .ok (.new 128, 3) := by decide +kernel
theorem d_SR_row_79 : decode b_SR_row 79 = .ok (.dup, 1) := by decide +kernel
theorem d_SR_row_80 : decode b_SR_row 80 = .ok (.ldc 130, 2) := by decide +kernel
theorem d_SR_row_82 : decode b_SR_row 82 = .ok (.invokespecial 132, 3) := by decide +kernel
theorem d_SR_row_85 : decode b_SR_row 85 = .ok (.athrow, 1) := by decide +kernel
theorem d_SR_row_86 : decode b_SR_row 86 = .ok (.aload_n 0, 1) := by decide +kernel
theorem d_SR_row_87 : decode b_SR_row 87 = .ok (.getfield 87, 3) := by decide +kernel
theorem d_SR_row_90 : decode b_SR_row 90 = .ok (.getfield 102, 3) := by decide +kernel
theorem d_SR_row_93 : decode b_SR_row 93 = .ok (.iconst 3, 1) := by decide +kernel
theorem d_SR_row_94 : decode b_SR_row 94 = .ok (.if_icmp .ne 12, 3) := by decide +kernel
theorem d_SR_row_97 : decode b_SR_row 97 = .ok (.aload_n 0, 1) := by decide +kernel
theorem d_SR_row_98 : decode b_SR_row 98 = .ok (.iload_n 1, 1) := by decide +kernel
theorem d_SR_row_99 : decode b_SR_row 99 = .ok (.lload_n 2, 1) := by decide +kernel
theorem d_SR_row_100 : decode b_SR_row 100 = .ok (.lload 4, 2) := by decide +kernel
theorem d_SR_row_102 : decode b_SR_row 102 = .ok (.invokevirtual 135, 3) := by decide +kernel
theorem d_SR_row_105 : decode b_SR_row 105 = .ok (.ireturn, 1) := by decide +kernel
theorem d_SR_row_106 : decode b_SR_row 106 = .ok (.aload_n 0, 1) := by decide +kernel
theorem d_SR_row_107 : decode b_SR_row 107 = .ok (.getfield 87, 3) := by decide +kernel
theorem d_SR_row_110 : decode b_SR_row 110 = .ok (.getfield 102, 3) := by decide +kernel
theorem d_SR_row_113 : decode b_SR_row 113 = .ok (.iconst 2, 1) := by decide +kernel
theorem d_SR_row_114 : decode b_SR_row 114 = .ok (.if_icmp .ne 12, 3) := by decide +kernel
theorem d_SR_row_117 : decode b_SR_row 117 = .ok (.aload_n 0, 1) := by decide +kernel
theorem d_SR_row_118 : decode b_SR_row 118 = .ok (.iload_n 1, 1) := by decide +kernel
theorem d_SR_row_119 : decode b_SR_row 119 = .ok (.lload_n 2, 1) := by decide +kernel
theorem d_SR_row_120 : decode b_SR_row 120 = .ok (.lload 4, 2) := by decide +kernel
theorem d_SR_row_122 : decode b_SR_row 122 = .ok (.invokevirtual 139, 3) := by decide +kernel
theorem d_SR_row_125 : decode b_SR_row 125 = .ok (.ireturn, 1) := by decide +kernel
theorem d_SR_row_126 : decode b_SR_row 126 = .ok (.aload_n 0, 1) := by decide +kernel
theorem d_SR_row_127 : decode b_SR_row 127 = .ok (.iload_n 1, 1) := by decide +kernel
theorem d_SR_row_128 : decode b_SR_row 128 = .ok (.lload_n 2, 1) := by decide +kernel
theorem d_SR_row_129 : decode b_SR_row 129 = .ok (.lload 4, 2) := by decide +kernel
theorem d_SR_row_131 : decode b_SR_row 131 = .ok (.invokevirtual 142, 3) := by decide +kernel
theorem d_SR_row_134 : decode b_SR_row 134 = .ok (.ireturn, 1) := by decide +kernel
def f_SR_row_B17 (la : LAt) : Int64 :=
  if (LA_kind la) = 4 then (
    100000000
  ) else
  1000000000000
def f_SR_row (k : Nat) (x1 : Int32) (x2 : Int64) (x4 : Int64) (sr : SRt) (la : LAt) (fb : FBt) (rs : RSt) (ss : SSt) (fs : FSt) (co : COt) : Option (Option Int32 × SRt × LAt × RSt × SSt × FSt × COt) :=
  if (f_SR_isKey x1) = 0 then (
    some (some (-1), sr, la, rs, ss, fs, co)
  ) else
  gl_let (f_SR_row_B17 la) fun t =>
  if (f_SR_isWithin x2 (-t) t) = 0 then (
    some (some (-2), sr, la, rs, ss, fs, co)
  ) else
  if (LA_kind la) = 5 then (
    (f_FB_has k (LA_ownRule la) x4 fb).bind fun r_3 =>
    if r_3 = 0 then (
      if (LA_kind la) = 3 then (
        (f_SR_putWaiting k x1 x2 x4 sr rs).bind fun (r_6, sr_6, rs_6) =>
        some (some r_6, sr_6, la, rs_6, ss, fs, co)
      ) else
      if (LA_kind la) = 2 then (
        (f_SR_putByGap k x1 x2 x4 sr la rs ss fs co).bind fun (r_5, sr_5, rs_5, ss_4, fs_4, co_4) =>
        some (some r_5, sr_5, la, rs_5, ss_4, fs_4, co_4)
      ) else
      (f_SR_putByLayout k x1 x2 x4 sr la rs ss fs co).bind fun (r_4, sr_4, la_2, rs_4, ss_3, fs_3, co_3) =>
      some (some r_4, sr_4, la_2, rs_4, ss_3, fs_3, co_3)
    ) else
    some (none, sr, la, rs, ss, fs, co)
  ) else
  if (LA_kind la) = 3 then (
    (f_SR_putWaiting k x1 x2 x4 sr rs).bind fun (r_2, sr_3, rs_3) =>
    some (some r_2, sr_3, la, rs_3, ss, fs, co)
  ) else
  if (LA_kind la) = 2 then (
    (f_SR_putByGap k x1 x2 x4 sr la rs ss fs co).bind fun (r_1, sr_2, rs_2, ss_2, fs_2, co_2) =>
    some (some r_1, sr_2, la, rs_2, ss_2, fs_2, co_2)
  ) else
  (f_SR_putByLayout k x1 x2 x4 sr la rs ss fs co).bind fun (r, sr_1, la_1, rs_1, ss_1, fs_1, co_1) =>
  some (some r, sr_1, la_1, rs_1, ss_1, fs_1, co_1)
set_option maxHeartbeats 4000000 in
set_option maxRecDepth 100000 in
theorem c_SR_row (l : Launch) (dC : Nat → ClassId) (dI : Nat → Nat → Nat) (tC : Nat → ClassId) (ad : Nat → Nat → Nat) (k : Nat) (x1 : Int32) (x2 : Int64) (x4 : Int64) (sr : SRt) (la : LAt) (fb : FBt) (rs : RSt) (ss : SSt) (fs : FSt) (co : COt) (res : Int32) (srR : SRt) (laR : LAt) (rsR : RSt) (ssR : SSt) (fsR : FSt) (coR : COt) (hf : f_SR_row k x1 x2 x4 sr la fb rs ss fs co = some (some res, srR, laR, rsR, ssR, fsR, coR)) : cx_M l y_SR_row w_SR_row { frames := 6, cells := 0, slots := 0, locals := 154 } (dC, dI) classes (tyS tC) [.ref (ad 0 0), .int x1, .long x2, .long x4] (wSR tC ad sr ++ wLA tC (ad 1) la ++ wFB tC (ad 2) fb ++ wRS tC (ad 3) rs ++ wSS tC (ad 4) ss ++ wFS tC (ad 6) fs ++ wCO tC (ad 7) co) (wSR tC ad srR ++ wLA tC (ad 1) laR ++ wFB tC (ad 2) fb ++ wRS tC (ad 3) rsR ++ wSS tC (ad 4) ssR ++ wFS tC (ad 6) fsR ++ wCO tC (ad 7) coR) (some (.int res)) := by
  refine cx_of (cc := b_SR_row) (maxL := 8) (ret := some .int) (plainFor_of_name (by decide)) rfl (Nat.le_of_ble_eq_true rfl) ?_
  intro p e s m below meth c hx hb hr hml hown hts hlocks A hA H locs ls hK hN hP hD hS hl
  have hown : s.vm.findClass R_SR = some m.cls := hown
  have hl : lv_has ls 8 [(0, .ref (ad 0 0)), (1, .int x1), (2, .long x2), (4, .long x4)] := hl
  unfold f_SR_row at hf
  refine lv_iload_n hx hb d_SR_row_0 rfl (lv_at hl 1 rfl) ?_
  refine cx_callS (As := [.int x1]) (rest := []) ⟨hx, hb, hml, hown, hts⟩ (c_SR_isKey l dC dI tC  x1 (f_SR_isKey x1) rfl) (k_SR_116 hts ⟨Nat.le_of_ble_eq_true rfl, Nat.le_of_ble_eq_true rfl⟩) hl.1 hP hD hS hA hK hN [] rfl rfl rfl rfl rfl (Nat.le_of_ble_eq_true rfl) d_SR_row_1 ⟨Nat.zero_le _, Nat.zero_le _⟩ (fun H locs hP hD hS => ?_)
  have hP : va_P (dC, dI) classes (wSR tC ad sr ++ wLA tC (ad 1) la ++ wFB tC (ad 2) fb ++ wRS tC (ad 3) rs ++ wSS tC (ad 4) ss ++ wFS tC (ad 6) fs ++ wCO tC (ad 7) co) H := hP
  have hD : va_D A (wSR tC ad sr ++ wLA tC (ad 1) la ++ wFB tC (ad 2) fb ++ wRS tC (ad 3) rs ++ wSS tC (ad 4) ss ++ wFS tC (ad 6) fs ++ wCO tC (ad 7) co) := hD
  refine W.eq (g2 := F0 m 4 ls [.int (f_SR_isKey x1)]) rfl ?_
  refine lv_if_ne (tgt := 9) hx hb d_SR_row_4 (by decide) (fun cb => ?_) (fun cb => ?_)
  · have hf := g_f hf cb
    refine lv_aload_n hx hb d_SR_row_9 rfl (lv_at hl 0 rfl) ?_
    refine va_get (D := (dC, dI)) (ci := 0) (v := .ref (ad 1 0)) (C := R_SR) (T := F_SR) (N := 14) hx hb hts (in_SR _) hown hK hP 0 rfl rfl 0 (by decide) (hts _ (List.mem_cons_of_mem _ mw_232)) (fun _ h9 => h9) rfl d_SR_row_10 ?_
    refine va_get (D := (dC, dI)) (ci := 1) (v := .int (LA_kind la)) (C := R_LA) (T := F_LA) (N := 8) hx hb hts (in_LA _) hown hK hP 1 rfl rfl 0 (by decide) (hts _ (List.mem_cons_of_mem _ mw_200)) (fun _ h9 => h9) rfl d_SR_row_13 ?_
    refine lv_iconst (v := 4) hx hb d_SR_row_16 (by decide) ?_
    obtain ⟨t, hB_29⟩ : ∃ z : Int64, z = f_SR_row_B17 la := ⟨_, rfl⟩
    have hf := g_let hf hB_29
    have hB_29 := hB_29.symm
    try dsimp only at hf
    have K_29 : ∀ (H : Heap) (locs : List Loc) (ls : Array Slot), va_P (dC, dI) classes (wSR tC ad sr ++ wLA tC (ad 1) la ++ wFB tC (ad 2) fb ++ wRS tC (ad 3) rs ++ wSS tC (ad 4) ss ++ wFS tC (ad 6) fs ++ wCO tC (ad 7) co) H → va_D A (wSR tC ad sr ++ wLA tC (ad 1) la ++ wFB tC (ad 2) fb ++ wRS tC (ad 3) rs ++ wSS tC (ad 4) ss ++ wFS tC (ad 6) fs ++ wCO tC (ad 7) co) → va_S A s.heap H locs → lv_has ls 8 [(0, .ref (ad 0 0)), (1, .int x1), (2, .long x2), (4, .long x4)] → W p l e { frames := 6, cells := 0, slots := 0, locals := 154 } s m [.ref (ad 0 0), .int x1, .long x2, .long x4].toArray below meth c H locs 0 0 (cx_Z (dC, dI) classes below [.ref (ad 0 0), .int x1, .long x2, .long x4] s (wSR tC ad srR ++ wLA tC (ad 1) laR ++ wFB tC (ad 2) fb ++ wRS tC (ad 3) rsR ++ wSS tC (ad 4) ssR ++ wFS tC (ad 6) fsR ++ wCO tC (ad 7) coR) (some (.int res)) A) (F0 m 29 ls [.long t]) := by
      intro H locs ls hP hD hS hl
      refine lv_lstore (lv' := [(6, .long t), (0, .ref (ad 0 0)), (1, .int x1), (2, .long x2), (4, .long x4)]) hx hb d_SR_row_29 hl (by decide) rfl (fun ls hl => ?_)
      refine lv_lload_n hx hb d_SR_row_31 rfl (lv_at hl 3 rfl) ?_
      refine lv_lload hx hb d_SR_row_32 (lv_at hl 0 rfl) ?_
      refine lv_lneg hx hb d_SR_row_34 ?_
      refine lv_lload hx hb d_SR_row_35 (lv_at hl 0 rfl) ?_
      refine cx_callS (As := [.long x2, .long (-t), .long t]) (rest := []) ⟨hx, hb, hml, hown, hts⟩ (c_SR_isWithin l dC dI tC  x2 (-t) t (f_SR_isWithin x2 (-t) t) rfl) (k_SR_95 hts ⟨Nat.le_of_ble_eq_true rfl, Nat.le_of_ble_eq_true rfl⟩) hl.1 hP hD hS hA hK hN [] rfl rfl rfl rfl rfl (Nat.le_of_ble_eq_true rfl) d_SR_row_37 ⟨Nat.zero_le _, Nat.zero_le _⟩ (fun H locs hP hD hS => ?_)
      have hP : va_P (dC, dI) classes (wSR tC ad sr ++ wLA tC (ad 1) la ++ wFB tC (ad 2) fb ++ wRS tC (ad 3) rs ++ wSS tC (ad 4) ss ++ wFS tC (ad 6) fs ++ wCO tC (ad 7) co) H := hP
      have hD : va_D A (wSR tC ad sr ++ wLA tC (ad 1) la ++ wFB tC (ad 2) fb ++ wRS tC (ad 3) rs ++ wSS tC (ad 4) ss ++ wFS tC (ad 6) fs ++ wCO tC (ad 7) co) := hD
      refine W.eq (g2 := F0 m 40 ls [.int (f_SR_isWithin x2 (-t) t)]) rfl ?_
      refine lv_if_ne (tgt := 46) hx hb d_SR_row_40 (by decide) (fun cb_2 => ?_) (fun cb_2 => ?_)
      · have hf := g_f hf cb_2
        refine lv_aload_n hx hb d_SR_row_46 rfl (lv_at hl 1 rfl) ?_
        refine va_get (D := (dC, dI)) (ci := 0) (v := .ref (ad 1 0)) (C := R_SR) (T := F_SR) (N := 14) hx hb hts (in_SR _) hown hK hP 0 rfl rfl 0 (by decide) (hts _ (List.mem_cons_of_mem _ mw_232)) (fun _ h9 => h9) rfl d_SR_row_47 ?_
        refine va_get (D := (dC, dI)) (ci := 1) (v := .int (LA_kind la)) (C := R_LA) (T := F_LA) (N := 8) hx hb hts (in_LA _) hown hK hP 1 rfl rfl 0 (by decide) (hts _ (List.mem_cons_of_mem _ mw_200)) (fun _ h9 => h9) rfl d_SR_row_50 ?_
        refine lv_iconst (v := 5) hx hb d_SR_row_53 (by decide) ?_
        refine lv_icmp_ne (tgt := 86) hx hb d_SR_row_54 (by decide) (fun cb_3 => ?_) (fun cb_3 => ?_)
        · have hf := g_f hf cb_3
          refine lv_aload_n hx hb d_SR_row_86 rfl (lv_at hl 1 rfl) ?_
          refine va_get (D := (dC, dI)) (ci := 0) (v := .ref (ad 1 0)) (C := R_SR) (T := F_SR) (N := 14) hx hb hts (in_SR _) hown hK hP 0 rfl rfl 0 (by decide) (hts _ (List.mem_cons_of_mem _ mw_232)) (fun _ h9 => h9) rfl d_SR_row_87 ?_
          refine va_get (D := (dC, dI)) (ci := 1) (v := .int (LA_kind la)) (C := R_LA) (T := F_LA) (N := 8) hx hb hts (in_LA _) hown hK hP 1 rfl rfl 0 (by decide) (hts _ (List.mem_cons_of_mem _ mw_200)) (fun _ h9 => h9) rfl d_SR_row_90 ?_
          refine lv_iconst (v := 3) hx hb d_SR_row_93 (by decide) ?_
          refine lv_icmp_ne (tgt := 106) hx hb d_SR_row_94 (by decide) (fun cb_4 => ?_) (fun cb_4 => ?_)
          · have hf := g_f hf cb_4
            refine lv_aload_n hx hb d_SR_row_106 rfl (lv_at hl 1 rfl) ?_
            refine va_get (D := (dC, dI)) (ci := 0) (v := .ref (ad 1 0)) (C := R_SR) (T := F_SR) (N := 14) hx hb hts (in_SR _) hown hK hP 0 rfl rfl 0 (by decide) (hts _ (List.mem_cons_of_mem _ mw_232)) (fun _ h9 => h9) rfl d_SR_row_107 ?_
            refine va_get (D := (dC, dI)) (ci := 1) (v := .int (LA_kind la)) (C := R_LA) (T := F_LA) (N := 8) hx hb hts (in_LA _) hown hK hP 1 rfl rfl 0 (by decide) (hts _ (List.mem_cons_of_mem _ mw_200)) (fun _ h9 => h9) rfl d_SR_row_110 ?_
            refine lv_iconst (v := 2) hx hb d_SR_row_113 (by decide) ?_
            refine lv_icmp_ne (tgt := 126) hx hb d_SR_row_114 (by decide) (fun cb_5 => ?_) (fun cb_5 => ?_)
            · have hf := g_f hf cb_5
              refine lv_aload_n hx hb d_SR_row_126 rfl (lv_at hl 1 rfl) ?_
              refine lv_iload_n hx hb d_SR_row_127 rfl (lv_at hl 2 rfl) ?_
              refine lv_lload_n hx hb d_SR_row_128 rfl (lv_at hl 3 rfl) ?_
              refine lv_lload hx hb d_SR_row_129 (lv_at hl 4 rfl) ?_
              obtain ⟨⟨r, sr_1, la_1, rs_1, ss_1, fs_1, co_1⟩, hc_2, hf⟩ := g_bind hf
              try dsimp only at hf
              refine cx2_callV (As := [.int x1, .long x2, .long x4]) (rest := []) (wSR tC ad sr_1 ++ wLA tC (ad 1) la_1 ++ wFB tC (ad 2) fb ++ wRS tC (ad 3) rs_1 ++ wSS tC (ad 4) ss_1 ++ wFS tC (ad 6) fs_1 ++ wCO tC (ad 7) co_1) (wFB tC (ad 2) fb) ⟨hx, hb, hml, hown, hts⟩ (c_SR_putByLayout l dC dI tC ad k x1 x2 x4 sr la rs ss fs co r sr_1 la_1 rs_1 ss_1 fs_1 co_1 hc_2) (k_SR_142 hts ⟨Nat.le_of_ble_eq_true rfl, Nat.le_of_ble_eq_true rfl⟩) hl.1 hP hD hS hA hK hN [0, 1, 2, 3, 7, 8, 9, 10, 11, 12, 13, 14, 15, 16, 17, 18, 19, 20, 21, 22, 23, 24, 25, 26, 27, 28] [4, 5, 6] 29 0 0 rfl rfl rfl rfl rfl (cx_hw (cx_hw (cx_hw (cx_hw (cx_hw (adSR _ _ _ _) (adLA _ _ _ _)) (adRS _ _ _ _)) (adSS _ _ _ _)) (adFS _ _ _ _)) (adCO _ _ _ _)) rfl rfl rfl rfl (by decide) rfl rfl (Nat.le_of_ble_eq_true rfl) d_SR_row_131 ⟨Nat.zero_le _, Nat.zero_le _⟩ (fun H locs hP hD hS => ?_)
              refine W.eq (g2 := F0 m 134 ls [.int r]) rfl ?_
              obtain ⟨hq0, hr1⟩ := Prod.mk.inj (g_some hf)
              obtain ⟨hq1, hr2⟩ := Prod.mk.inj hr1
              obtain ⟨hq2, hr3⟩ := Prod.mk.inj hr2
              obtain ⟨hq3, hr4⟩ := Prod.mk.inj hr3
              obtain ⟨hq4, hr5⟩ := Prod.mk.inj hr4
              obtain ⟨hq5, hr6⟩ := Prod.mk.inj hr5
              have hq0 := g_some hq0
              subst hq0
              subst hq1
              subst hq2
              subst hq3
              subst hq4
              subst hq5
              subst hr6
              exact cx_iret hx hb hr hlocks hP hS d_SR_row_134
            · have hf := g_t hf cb_5
              refine lv_aload_n hx hb d_SR_row_117 rfl (lv_at hl 1 rfl) ?_
              refine lv_iload_n hx hb d_SR_row_118 rfl (lv_at hl 2 rfl) ?_
              refine lv_lload_n hx hb d_SR_row_119 rfl (lv_at hl 3 rfl) ?_
              refine lv_lload hx hb d_SR_row_120 (lv_at hl 4 rfl) ?_
              obtain ⟨⟨r_1, sr_2, rs_2, ss_2, fs_2, co_2⟩, hc_3, hf⟩ := g_bind hf
              try dsimp only at hf
              refine cx2_callV (As := [.int x1, .long x2, .long x4]) (rest := []) (wSR tC ad sr_2 ++ wLA tC (ad 1) la ++ wFB tC (ad 2) fb ++ wRS tC (ad 3) rs_2 ++ wSS tC (ad 4) ss_2 ++ wFS tC (ad 6) fs_2 ++ wCO tC (ad 7) co_2) (wFB tC (ad 2) fb) ⟨hx, hb, hml, hown, hts⟩ (c_SR_putByGap l dC dI tC ad k x1 x2 x4 sr la rs ss fs co r_1 sr_2 rs_2 ss_2 fs_2 co_2 hc_3) (k_SR_139 hts ⟨Nat.le_of_ble_eq_true rfl, Nat.le_of_ble_eq_true rfl⟩) hl.1 hP hD hS hA hK hN [0, 1, 2, 3, 7, 8, 9, 10, 11, 12, 13, 14, 15, 16, 17, 18, 19, 20, 21, 22, 23, 24, 25, 26, 27, 28] [4, 5, 6] 29 0 0 rfl rfl rfl rfl rfl (cx_hw (cx_hw (cx_hw (cx_hw (cx_hw (adSR _ _ _ _) rfl) (adRS _ _ _ _)) (adSS _ _ _ _)) (adFS _ _ _ _)) (adCO _ _ _ _)) rfl rfl rfl rfl (by decide) rfl rfl (Nat.le_of_ble_eq_true rfl) d_SR_row_122 ⟨Nat.zero_le _, Nat.zero_le _⟩ (fun H locs hP hD hS => ?_)
              refine W.eq (g2 := F0 m 125 ls [.int r_1]) rfl ?_
              obtain ⟨hq0, hr1⟩ := Prod.mk.inj (g_some hf)
              obtain ⟨hq1, hr2⟩ := Prod.mk.inj hr1
              obtain ⟨hq2, hr3⟩ := Prod.mk.inj hr2
              obtain ⟨hq3, hr4⟩ := Prod.mk.inj hr3
              obtain ⟨hq4, hr5⟩ := Prod.mk.inj hr4
              obtain ⟨hq5, hr6⟩ := Prod.mk.inj hr5
              have hq0 := g_some hq0
              subst hq0
              subst hq1
              subst hq2
              subst hq3
              subst hq4
              subst hq5
              subst hr6
              exact cx_iret hx hb hr hlocks hP hS d_SR_row_125
          · have hf := g_t hf cb_4
            refine lv_aload_n hx hb d_SR_row_97 rfl (lv_at hl 1 rfl) ?_
            refine lv_iload_n hx hb d_SR_row_98 rfl (lv_at hl 2 rfl) ?_
            refine lv_lload_n hx hb d_SR_row_99 rfl (lv_at hl 3 rfl) ?_
            refine lv_lload hx hb d_SR_row_100 (lv_at hl 4 rfl) ?_
            obtain ⟨⟨r_2, sr_3, rs_3⟩, hc_4, hf⟩ := g_bind hf
            try dsimp only at hf
            refine cx2_callV (As := [.int x1, .long x2, .long x4]) (rest := []) (wSR tC ad sr_3 ++ wLA tC (ad 1) la ++ wFB tC (ad 2) fb ++ wRS tC (ad 3) rs_3 ++ wSS tC (ad 4) ss ++ wFS tC (ad 6) fs ++ wCO tC (ad 7) co) (wLA tC (ad 1) la ++ wFB tC (ad 2) fb ++ wSS tC (ad 4) ss ++ wFS tC (ad 6) fs ++ wCO tC (ad 7) co) ⟨hx, hb, hml, hown, hts⟩ (c_SR_putWaiting l dC dI tC ad k x1 x2 x4 sr rs r_2 sr_3 rs_3 hc_4) (k_SR_135 hts ⟨Nat.le_of_ble_eq_true rfl, Nat.le_of_ble_eq_true rfl⟩) hl.1 hP hD hS hA hK hN [0, 7, 8, 9, 10, 11, 12, 13] [1, 2, 3, 4, 5, 6, 14, 15, 16, 17, 18, 19, 20, 21, 22, 23, 24, 25, 26, 27, 28] 29 0 0 rfl rfl rfl rfl rfl (cx_hw (adSR _ _ _ _) (adRS _ _ _ _)) rfl rfl rfl rfl (by decide) rfl rfl (Nat.le_of_ble_eq_true rfl) d_SR_row_102 ⟨Nat.zero_le _, Nat.zero_le _⟩ (fun H locs hP hD hS => ?_)
            refine W.eq (g2 := F0 m 105 ls [.int r_2]) rfl ?_
            obtain ⟨hq0, hr1⟩ := Prod.mk.inj (g_some hf)
            obtain ⟨hq1, hr2⟩ := Prod.mk.inj hr1
            obtain ⟨hq2, hr3⟩ := Prod.mk.inj hr2
            obtain ⟨hq3, hr4⟩ := Prod.mk.inj hr3
            obtain ⟨hq4, hr5⟩ := Prod.mk.inj hr4
            obtain ⟨hq5, hr6⟩ := Prod.mk.inj hr5
            have hq0 := g_some hq0
            subst hq0
            subst hq1
            subst hq2
            subst hq3
            subst hq4
            subst hq5
            subst hr6
            exact cx_iret hx hb hr hlocks hP hS d_SR_row_105
        · have hf := g_t hf cb_3
          refine lv_aload_n hx hb d_SR_row_57 rfl (lv_at hl 1 rfl) ?_
          refine va_get (D := (dC, dI)) (ci := 0) (v := .ref (ad 2 0)) (C := R_SR) (T := F_SR) (N := 14) hx hb hts (in_SR _) hown hK hP 0 rfl rfl 1 (by decide) (hts _ (List.mem_cons_of_mem _ mw_233)) (fun _ h9 => h9) rfl d_SR_row_58 ?_
          refine lv_aload_n hx hb d_SR_row_61 rfl (lv_at hl 1 rfl) ?_
          refine va_get (D := (dC, dI)) (ci := 0) (v := .ref (ad 1 0)) (C := R_SR) (T := F_SR) (N := 14) hx hb hts (in_SR _) hown hK hP 0 rfl rfl 0 (by decide) (hts _ (List.mem_cons_of_mem _ mw_232)) (fun _ h9 => h9) rfl d_SR_row_62 ?_
          refine va_get (D := (dC, dI)) (ci := 1) (v := .int (LA_ownRule la)) (C := R_LA) (T := F_LA) (N := 8) hx hb hts (in_LA _) hown hK hP 1 rfl rfl 6 (by decide) (hts _ (List.mem_cons_of_mem _ mw_212)) (fun _ h9 => h9) rfl d_SR_row_65 ?_
          refine lv_lload hx hb d_SR_row_68 (lv_at hl 4 rfl) ?_
          obtain ⟨r_3, hc_5, hf⟩ := g_bind hf
          try dsimp only at hf
          refine cx2_callV (As := [.int (LA_ownRule la), .long x4]) (rest := []) (wSR tC ad sr ++ wLA tC (ad 1) la ++ wFB tC (ad 2) fb ++ wRS tC (ad 3) rs ++ wSS tC (ad 4) ss ++ wFS tC (ad 6) fs ++ wCO tC (ad 7) co) (wSR tC ad sr ++ wLA tC (ad 1) la ++ wRS tC (ad 3) rs ++ wSS tC (ad 4) ss ++ wFS tC (ad 6) fs ++ wCO tC (ad 7) co) ⟨hx, hb, hml, hown, hts⟩ (c_FB_has l dC dI tC (ad 2) k (LA_ownRule la) x4 fb r_3 hc_5) (k_SR_124 hts ⟨Nat.le_of_ble_eq_true rfl, Nat.le_of_ble_eq_true rfl⟩) hl.1 hP hD hS hA hK hN [4, 5, 6] [0, 1, 2, 3, 7, 8, 9, 10, 11, 12, 13, 14, 15, 16, 17, 18, 19, 20, 21, 22, 23, 24, 25, 26, 27, 28] 29 4 2 rfl rfl rfl rfl rfl rfl rfl rfl rfl rfl (by decide) rfl rfl (Nat.le_of_ble_eq_true rfl) d_SR_row_70 ⟨Nat.zero_le _, Nat.zero_le _⟩ (fun H locs hP hD hS => ?_)
          refine W.eq (g2 := F0 m 73 ls [.int r_3]) rfl ?_
          refine lv_if_eq (tgt := 86) hx hb d_SR_row_73 (by decide) (fun cb_6 => ?_) (fun cb_6 => ?_)
          · have hf := g_t hf cb_6
            refine lv_aload_n hx hb d_SR_row_86 rfl (lv_at hl 1 rfl) ?_
            refine va_get (D := (dC, dI)) (ci := 0) (v := .ref (ad 1 0)) (C := R_SR) (T := F_SR) (N := 14) hx hb hts (in_SR _) hown hK hP 0 rfl rfl 0 (by decide) (hts _ (List.mem_cons_of_mem _ mw_232)) (fun _ h9 => h9) rfl d_SR_row_87 ?_
            refine va_get (D := (dC, dI)) (ci := 1) (v := .int (LA_kind la)) (C := R_LA) (T := F_LA) (N := 8) hx hb hts (in_LA _) hown hK hP 1 rfl rfl 0 (by decide) (hts _ (List.mem_cons_of_mem _ mw_200)) (fun _ h9 => h9) rfl d_SR_row_90 ?_
            refine lv_iconst (v := 3) hx hb d_SR_row_93 (by decide) ?_
            refine lv_icmp_ne (tgt := 106) hx hb d_SR_row_94 (by decide) (fun cb_7 => ?_) (fun cb_7 => ?_)
            · have hf := g_f hf cb_7
              refine lv_aload_n hx hb d_SR_row_106 rfl (lv_at hl 1 rfl) ?_
              refine va_get (D := (dC, dI)) (ci := 0) (v := .ref (ad 1 0)) (C := R_SR) (T := F_SR) (N := 14) hx hb hts (in_SR _) hown hK hP 0 rfl rfl 0 (by decide) (hts _ (List.mem_cons_of_mem _ mw_232)) (fun _ h9 => h9) rfl d_SR_row_107 ?_
              refine va_get (D := (dC, dI)) (ci := 1) (v := .int (LA_kind la)) (C := R_LA) (T := F_LA) (N := 8) hx hb hts (in_LA _) hown hK hP 1 rfl rfl 0 (by decide) (hts _ (List.mem_cons_of_mem _ mw_200)) (fun _ h9 => h9) rfl d_SR_row_110 ?_
              refine lv_iconst (v := 2) hx hb d_SR_row_113 (by decide) ?_
              refine lv_icmp_ne (tgt := 126) hx hb d_SR_row_114 (by decide) (fun cb_8 => ?_) (fun cb_8 => ?_)
              · have hf := g_f hf cb_8
                refine lv_aload_n hx hb d_SR_row_126 rfl (lv_at hl 1 rfl) ?_
                refine lv_iload_n hx hb d_SR_row_127 rfl (lv_at hl 2 rfl) ?_
                refine lv_lload_n hx hb d_SR_row_128 rfl (lv_at hl 3 rfl) ?_
                refine lv_lload hx hb d_SR_row_129 (lv_at hl 4 rfl) ?_
                obtain ⟨⟨r_4, sr_4, la_2, rs_4, ss_3, fs_3, co_3⟩, hc_6, hf⟩ := g_bind hf
                try dsimp only at hf
                refine cx2_callV (As := [.int x1, .long x2, .long x4]) (rest := []) (wSR tC ad sr_4 ++ wLA tC (ad 1) la_2 ++ wFB tC (ad 2) fb ++ wRS tC (ad 3) rs_4 ++ wSS tC (ad 4) ss_3 ++ wFS tC (ad 6) fs_3 ++ wCO tC (ad 7) co_3) (wFB tC (ad 2) fb) ⟨hx, hb, hml, hown, hts⟩ (c_SR_putByLayout l dC dI tC ad k x1 x2 x4 sr la rs ss fs co r_4 sr_4 la_2 rs_4 ss_3 fs_3 co_3 hc_6) (k_SR_142 hts ⟨Nat.le_of_ble_eq_true rfl, Nat.le_of_ble_eq_true rfl⟩) hl.1 hP hD hS hA hK hN [0, 1, 2, 3, 7, 8, 9, 10, 11, 12, 13, 14, 15, 16, 17, 18, 19, 20, 21, 22, 23, 24, 25, 26, 27, 28] [4, 5, 6] 29 0 0 rfl rfl rfl rfl rfl (cx_hw (cx_hw (cx_hw (cx_hw (cx_hw (adSR _ _ _ _) (adLA _ _ _ _)) (adRS _ _ _ _)) (adSS _ _ _ _)) (adFS _ _ _ _)) (adCO _ _ _ _)) rfl rfl rfl rfl (by decide) rfl rfl (Nat.le_of_ble_eq_true rfl) d_SR_row_131 ⟨Nat.zero_le _, Nat.zero_le _⟩ (fun H locs hP hD hS => ?_)
                refine W.eq (g2 := F0 m 134 ls [.int r_4]) rfl ?_
                obtain ⟨hq0, hr1⟩ := Prod.mk.inj (g_some hf)
                obtain ⟨hq1, hr2⟩ := Prod.mk.inj hr1
                obtain ⟨hq2, hr3⟩ := Prod.mk.inj hr2
                obtain ⟨hq3, hr4⟩ := Prod.mk.inj hr3
                obtain ⟨hq4, hr5⟩ := Prod.mk.inj hr4
                obtain ⟨hq5, hr6⟩ := Prod.mk.inj hr5
                have hq0 := g_some hq0
                subst hq0
                subst hq1
                subst hq2
                subst hq3
                subst hq4
                subst hq5
                subst hr6
                exact cx_iret hx hb hr hlocks hP hS d_SR_row_134
              · have hf := g_t hf cb_8
                refine lv_aload_n hx hb d_SR_row_117 rfl (lv_at hl 1 rfl) ?_
                refine lv_iload_n hx hb d_SR_row_118 rfl (lv_at hl 2 rfl) ?_
                refine lv_lload_n hx hb d_SR_row_119 rfl (lv_at hl 3 rfl) ?_
                refine lv_lload hx hb d_SR_row_120 (lv_at hl 4 rfl) ?_
                obtain ⟨⟨r_5, sr_5, rs_5, ss_4, fs_4, co_4⟩, hc_7, hf⟩ := g_bind hf
                try dsimp only at hf
                refine cx2_callV (As := [.int x1, .long x2, .long x4]) (rest := []) (wSR tC ad sr_5 ++ wLA tC (ad 1) la ++ wFB tC (ad 2) fb ++ wRS tC (ad 3) rs_5 ++ wSS tC (ad 4) ss_4 ++ wFS tC (ad 6) fs_4 ++ wCO tC (ad 7) co_4) (wFB tC (ad 2) fb) ⟨hx, hb, hml, hown, hts⟩ (c_SR_putByGap l dC dI tC ad k x1 x2 x4 sr la rs ss fs co r_5 sr_5 rs_5 ss_4 fs_4 co_4 hc_7) (k_SR_139 hts ⟨Nat.le_of_ble_eq_true rfl, Nat.le_of_ble_eq_true rfl⟩) hl.1 hP hD hS hA hK hN [0, 1, 2, 3, 7, 8, 9, 10, 11, 12, 13, 14, 15, 16, 17, 18, 19, 20, 21, 22, 23, 24, 25, 26, 27, 28] [4, 5, 6] 29 0 0 rfl rfl rfl rfl rfl (cx_hw (cx_hw (cx_hw (cx_hw (cx_hw (adSR _ _ _ _) rfl) (adRS _ _ _ _)) (adSS _ _ _ _)) (adFS _ _ _ _)) (adCO _ _ _ _)) rfl rfl rfl rfl (by decide) rfl rfl (Nat.le_of_ble_eq_true rfl) d_SR_row_122 ⟨Nat.zero_le _, Nat.zero_le _⟩ (fun H locs hP hD hS => ?_)
                refine W.eq (g2 := F0 m 125 ls [.int r_5]) rfl ?_
                obtain ⟨hq0, hr1⟩ := Prod.mk.inj (g_some hf)
                obtain ⟨hq1, hr2⟩ := Prod.mk.inj hr1
                obtain ⟨hq2, hr3⟩ := Prod.mk.inj hr2
                obtain ⟨hq3, hr4⟩ := Prod.mk.inj hr3
                obtain ⟨hq4, hr5⟩ := Prod.mk.inj hr4
                obtain ⟨hq5, hr6⟩ := Prod.mk.inj hr5
                have hq0 := g_some hq0
                subst hq0
                subst hq1
                subst hq2
                subst hq3
                subst hq4
                subst hq5
                subst hr6
                exact cx_iret hx hb hr hlocks hP hS d_SR_row_125
            · have hf := g_t hf cb_7
              refine lv_aload_n hx hb d_SR_row_97 rfl (lv_at hl 1 rfl) ?_
              refine lv_iload_n hx hb d_SR_row_98 rfl (lv_at hl 2 rfl) ?_
              refine lv_lload_n hx hb d_SR_row_99 rfl (lv_at hl 3 rfl) ?_
              refine lv_lload hx hb d_SR_row_100 (lv_at hl 4 rfl) ?_
              obtain ⟨⟨r_6, sr_6, rs_6⟩, hc_8, hf⟩ := g_bind hf
              try dsimp only at hf
              refine cx2_callV (As := [.int x1, .long x2, .long x4]) (rest := []) (wSR tC ad sr_6 ++ wLA tC (ad 1) la ++ wFB tC (ad 2) fb ++ wRS tC (ad 3) rs_6 ++ wSS tC (ad 4) ss ++ wFS tC (ad 6) fs ++ wCO tC (ad 7) co) (wLA tC (ad 1) la ++ wFB tC (ad 2) fb ++ wSS tC (ad 4) ss ++ wFS tC (ad 6) fs ++ wCO tC (ad 7) co) ⟨hx, hb, hml, hown, hts⟩ (c_SR_putWaiting l dC dI tC ad k x1 x2 x4 sr rs r_6 sr_6 rs_6 hc_8) (k_SR_135 hts ⟨Nat.le_of_ble_eq_true rfl, Nat.le_of_ble_eq_true rfl⟩) hl.1 hP hD hS hA hK hN [0, 7, 8, 9, 10, 11, 12, 13] [1, 2, 3, 4, 5, 6, 14, 15, 16, 17, 18, 19, 20, 21, 22, 23, 24, 25, 26, 27, 28] 29 0 0 rfl rfl rfl rfl rfl (cx_hw (adSR _ _ _ _) (adRS _ _ _ _)) rfl rfl rfl rfl (by decide) rfl rfl (Nat.le_of_ble_eq_true rfl) d_SR_row_102 ⟨Nat.zero_le _, Nat.zero_le _⟩ (fun H locs hP hD hS => ?_)
              refine W.eq (g2 := F0 m 105 ls [.int r_6]) rfl ?_
              obtain ⟨hq0, hr1⟩ := Prod.mk.inj (g_some hf)
              obtain ⟨hq1, hr2⟩ := Prod.mk.inj hr1
              obtain ⟨hq2, hr3⟩ := Prod.mk.inj hr2
              obtain ⟨hq3, hr4⟩ := Prod.mk.inj hr3
              obtain ⟨hq4, hr5⟩ := Prod.mk.inj hr4
              obtain ⟨hq5, hr6⟩ := Prod.mk.inj hr5
              have hq0 := g_some hq0
              subst hq0
              subst hq1
              subst hq2
              subst hq3
              subst hq4
              subst hq5
              subst hr6
              exact cx_iret hx hb hr hlocks hP hS d_SR_row_105
          · have hf := g_f hf cb_6
            cases hf
      · have hf := g_t hf cb_2
        refine lv_bipush (v := (-2)) hx hb d_SR_row_43 (by decide) ?_
        obtain ⟨hq0, hr1⟩ := Prod.mk.inj (g_some hf)
        obtain ⟨hq1, hr2⟩ := Prod.mk.inj hr1
        obtain ⟨hq2, hr3⟩ := Prod.mk.inj hr2
        obtain ⟨hq3, hr4⟩ := Prod.mk.inj hr3
        obtain ⟨hq4, hr5⟩ := Prod.mk.inj hr4
        obtain ⟨hq5, hr6⟩ := Prod.mk.inj hr5
        have hq0 := g_some hq0
        subst hq0
        subst hq1
        subst hq2
        subst hq3
        subst hq4
        subst hq5
        subst hr6
        exact cx_iret hx hb hr hlocks hP hS d_SR_row_45
    have hf := hB_29
    unfold f_SR_row_B17 at hf
    refine lv_icmp_ne (tgt := 26) hx hb d_SR_row_17 (by decide) (fun cb_1 => ?_) (fun cb_1 => ?_)
    · have hf := g_f hf cb_1
      refine lv_ldc2 (v := 1000000000000) hx hb hown (hts _ (List.mem_cons_of_mem _ mw_488)) d_SR_row_26 ?_
      have hq0 := hf
      subst hq0
      exact K_29 _ _ _ hP hD hS (lv_sub hl [0, 1, 2, 3] rfl)
    · have hf := g_t hf cb_1
      refine lv_ldc2 (v := 100000000) hx hb hown (hts _ (List.mem_cons_of_mem _ mw_487)) d_SR_row_20 ?_
      refine lv_goto (tgt := 29) hx hb d_SR_row_23 (by decide) ?_
      have hq0 := hf
      subst hq0
      exact K_29 _ _ _ hP hD hS (lv_sub hl [0, 1, 2, 3] rfl)
  · have hf := g_t hf cb
    refine lv_iconst (v := (-1)) hx hb d_SR_row_7 (by decide) ?_
    obtain ⟨hq0, hr1⟩ := Prod.mk.inj (g_some hf)
    obtain ⟨hq1, hr2⟩ := Prod.mk.inj hr1
    obtain ⟨hq2, hr3⟩ := Prod.mk.inj hr2
    obtain ⟨hq3, hr4⟩ := Prod.mk.inj hr3
    obtain ⟨hq4, hr5⟩ := Prod.mk.inj hr4
    obtain ⟨hq5, hr6⟩ := Prod.mk.inj hr5
    have hq0 := g_some hq0
    subst hq0
    subst hq1
    subst hq2
    subst hq3
    subst hq4
    subst hq5
    subst hr6
    exact cx_iret hx hb hr hlocks hP hS d_SR_row_8
