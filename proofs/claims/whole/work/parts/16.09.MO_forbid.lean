def f_MO_forbid (k : Nat) (x1 : Int32) (x2 : Int64) (mo : MOt) : Option (Int32 × MOt) :=
  if (f_MO_in (x1.toInt64) 0 2) = 0 then (
    some ((-2), (sMO_thrown mo 0))
  ) else
  if (MO_kind mo) = 5 then (
    gl_let ((sMO_thrown mo 0) : MOt) fun mo_1 =>
    (f_MO_isForbidden k x1 x2 mo_1).bind fun r =>
    if r = 0 then (
      if x1 < 0 ∨ 3 ≤ x1.toNatClampNeg then none else
      if (MO_forbidden mo_1 x1.toNatClampNeg) = 8 then (
        some ((-4), mo_1)
      ) else
      if ((8 * x1) + (MO_forbidden mo_1 x1.toNatClampNeg)) < 0 ∨ 24 ≤ ((8 * x1) + (MO_forbidden mo_1 x1.toNatClampNeg)).toNatClampNeg then none else
      some (((upd (MO_forbidden mo_1) x1.toNatClampNeg ((MO_forbidden mo_1 x1.toNatClampNeg) + 1)) x1.toNatClampNeg), (sMO_bad (sMO_forbidden mo_1 (upd (MO_forbidden mo_1) x1.toNatClampNeg ((MO_forbidden mo_1 x1.toNatClampNeg) + 1))) (vp_updL (MO_bad mo_1) ((8 * x1) + (MO_forbidden mo_1 x1.toNatClampNeg)).toNatClampNeg x2)))
    ) else
    if x1 < 0 ∨ 3 ≤ x1.toNatClampNeg then none else
    some ((MO_forbidden mo_1 x1.toNatClampNeg), mo_1)
  ) else
  some ((-3), (sMO_thrown mo 0))
set_option maxHeartbeats 4000000 in
set_option maxRecDepth 100000 in
theorem c_MO_forbid (l : Launch) (dC : Nat → ClassId) (dI : Nat → Nat → Nat) (tC : Nat → ClassId) (a : Nat → Nat) (k : Nat) (x1 : Int32) (x2 : Int64) (mo : MOt) (res : Int32) (moR : MOt) (hf : f_MO_forbid k x1 x2 mo = some (res, moR)) : cx_M l y_MO_forbid w_MO_forbid { frames := 1, cells := 0, slots := 0, locals := 25 } (dC, dI) classes (tyS tC) [.ref (a 0), .int x1, .long x2] (wMO tC a mo) (wMO tC a moR) (some (.int res)) := by
  refine cx_of (cc := b_MO_forbid) (maxL := 4) (ret := some .int) (plainFor_of_name (by decide)) rfl (Nat.le_of_ble_eq_true rfl) ?_
  intro p e s m below meth c hx hb hr hml hown hts hlocks A hA H locs ls hK hN hP hD hS hl
  have hown : s.vm.findClass R_MO = some m.cls := hown
  have hl : lv_has ls 4 [(0, .ref (a 0)), (1, .int x1), (2, .long x2)] := hl
  unfold f_MO_forbid at hf
  refine lv_aload_n hx hb d_MO_forbid_0 rfl (lv_at hl 0 rfl) ?_
  refine lv_iconst (v := 0) hx hb d_MO_forbid_1 (by decide) ?_
  refine va_put (D := (dC, dI)) (ci := 8) (v := .int 0) (ty := .int) (C := R_MO) (T := F_MO) (N := 42) hx hb hts (in_MO _) t_MO t_MO_ok n_MO hown hK hP hD hS 0 rfl rfl 12 (by decide) (hts _ (List.mem_cons_of_mem _ mw_704)) (fun _ h9 => h9) rfl (by decide +kernel) rfl rfl (Nat.le_of_ble_eq_true rfl) d_MO_forbid_2 (fun H locs hP hD hS => ?_)
  have hP : va_P (dC, dI) classes (wMO tC a (sMO_thrown mo 0)) H := hP
  have hD : va_D A (wMO tC a (sMO_thrown mo 0)) := hD
  refine lv_iload_n hx hb d_MO_forbid_5 rfl (lv_at hl 1 rfl) ?_
  refine lv_i2l hx hb d_MO_forbid_6 rfl ?_
  refine lv_lconst (v := 0) hx hb d_MO_forbid_7 (by decide) ?_
  refine lv_ldc2 (v := 2) hx hb hown (hts _ (List.mem_cons_of_mem _ mw_849)) d_MO_forbid_8 ?_
  refine cx_callS (As := [.long (x1.toInt64), .long 0, .long 2]) (rest := []) ⟨hx, hb, hml, hown, hts⟩ (c_MO_in l dC dI tC  (x1.toInt64) 0 2 (f_MO_in (x1.toInt64) 0 2) rfl) (k_MO_111 hts ⟨Nat.le_of_ble_eq_true rfl, Nat.le_of_ble_eq_true rfl⟩) hl.1 hP hD hS hA hK hN [] rfl rfl rfl rfl rfl (Nat.le_of_ble_eq_true rfl) d_MO_forbid_11 ⟨Nat.zero_le _, Nat.zero_le _⟩ (fun H locs hP hD hS => ?_)
  have hP : va_P (dC, dI) classes (wMO tC a (sMO_thrown mo 0)) H := hP
  have hD : va_D A (wMO tC a (sMO_thrown mo 0)) := hD
  refine W.eq (g2 := F0 m 14 ls [.int (f_MO_in (x1.toInt64) 0 2)]) rfl ?_
  refine lv_if_ne (tgt := 20) hx hb d_MO_forbid_14 (by decide) (fun cb => ?_) (fun cb => ?_)
  · have hf := g_f hf cb
    refine lv_aload_n hx hb d_MO_forbid_20 rfl (lv_at hl 0 rfl) ?_
    refine va_get (D := (dC, dI)) (ci := 8) (v := .int (MO_kind mo)) (C := R_MO) (T := F_MO) (N := 42) hx hb hts (in_MO _) hown hK hP 0 rfl rfl 0 (by decide) (hts _ (List.mem_cons_of_mem _ mw_692)) (fun _ h9 => h9) rfl d_MO_forbid_21 ?_
    refine lv_iconst (v := 5) hx hb d_MO_forbid_24 (by decide) ?_
    refine lv_icmp_eq (tgt := 31) hx hb d_MO_forbid_25 (by decide) (fun cb_1 => ?_) (fun cb_1 => ?_)
    · have hf := g_t hf cb_1
      refine lv_aload_n hx hb d_MO_forbid_31 rfl (lv_at hl 0 rfl) ?_
      refine lv_iload_n hx hb d_MO_forbid_32 rfl (lv_at hl 1 rfl) ?_
      refine lv_lload_n hx hb d_MO_forbid_33 rfl (lv_at hl 2 rfl) ?_
      obtain ⟨mo_1, h_mo_1⟩ : ∃ z : MOt, z = (sMO_thrown mo 0) := ⟨_, rfl⟩
      have hf := g_let hf h_mo_1
      have hP : va_P (dC, dI) classes (wMO tC a mo_1) H := by rw [h_mo_1]; exact hP
      have hD : va_D A (wMO tC a mo_1) := by rw [h_mo_1]; exact hD
      obtain ⟨r, hc_1, hf⟩ := g_bind hf
      try dsimp only at hf
      refine cx3_callV (As := [.int x1, .long x2]) (rest := []) (wMO tC a mo_1) ⟨hx, hb, hml, hown, hts⟩ (c_MO_isForbidden l dC dI tC a k x1 x2 mo_1 r hc_1) (k_MO_137 hts ⟨Nat.le_of_ble_eq_true rfl, Nat.le_of_ble_eq_true rfl⟩) hl.1 hP hD hS hA hK hN 0 8 rfl rfl rfl rfl rfl rfl (Nat.le_of_ble_eq_true rfl) d_MO_forbid_34 ⟨Nat.zero_le _, Nat.zero_le _⟩ (fun H locs hP hD hS => ?_)
      refine W.eq (g2 := F0 m 37 ls [.int r]) rfl ?_
      refine lv_if_eq (tgt := 47) hx hb d_MO_forbid_37 (by decide) (fun cb_2 => ?_) (fun cb_2 => ?_)
      · have hf := g_t hf cb_2
        refine lv_aload_n hx hb d_MO_forbid_47 rfl (lv_at hl 0 rfl) ?_
        refine va_get (D := (dC, dI)) (ci := 8) (v := .ref (a 1)) (C := R_MO) (T := F_MO) (N := 42) hx hb hts (in_MO _) hown hK hP 0 rfl rfl 9 (by decide) (hts _ (List.mem_cons_of_mem _ mw_701)) (fun _ h9 => h9) rfl d_MO_forbid_48 ?_
        refine lv_iload_n hx hb d_MO_forbid_51 rfl (lv_at hl 1 rfl) ?_
        obtain ⟨ck, hf⟩ := g_ck hf
        refine va_iald (D := (dC, dI)) hx hb hK hP 1 0 rfl rfl ck d_MO_forbid_52 ?_
        refine lv_bipush (v := 8) hx hb d_MO_forbid_53 (by decide) ?_
        refine lv_icmp_ne (tgt := 61) hx hb d_MO_forbid_55 (by decide) (fun cb_3 => ?_) (fun cb_3 => ?_)
        · have hf := g_f hf cb_3
          refine lv_aload_n hx hb d_MO_forbid_61 rfl (lv_at hl 0 rfl) ?_
          refine va_get (D := (dC, dI)) (ci := 8) (v := .ref (a 2)) (C := R_MO) (T := F_MO) (N := 42) hx hb hts (in_MO _) hown hK hP 0 rfl rfl 10 (by decide) (hts _ (List.mem_cons_of_mem _ mw_702)) (fun _ h9 => h9) rfl d_MO_forbid_62 ?_
          refine lv_bipush (v := 8) hx hb d_MO_forbid_65 (by decide) ?_
          refine lv_iload_n hx hb d_MO_forbid_67 rfl (lv_at hl 1 rfl) ?_
          refine lv_imul hx hb d_MO_forbid_68 ?_
          refine lv_aload_n hx hb d_MO_forbid_69 rfl (lv_at hl 0 rfl) ?_
          refine va_get (D := (dC, dI)) (ci := 8) (v := .ref (a 1)) (C := R_MO) (T := F_MO) (N := 42) hx hb hts (in_MO _) hown hK hP 0 rfl rfl 9 (by decide) (hts _ (List.mem_cons_of_mem _ mw_701)) (fun _ h9 => h9) rfl d_MO_forbid_70 ?_
          refine lv_iload_n hx hb d_MO_forbid_73 rfl (lv_at hl 1 rfl) ?_
          refine va_iald (D := (dC, dI)) hx hb hK hP 1 0 rfl rfl ck d_MO_forbid_74 ?_
          refine lv_iadd hx hb d_MO_forbid_75 ?_
          refine lv_lload_n hx hb d_MO_forbid_76 rfl (lv_at hl 2 rfl) ?_
          obtain ⟨ck_1, hf⟩ := g_ck hf
          refine va_last (D := (dC, dI)) hx hb hK hP hD hS 2 1 rfl rfl ck_1 d_MO_forbid_77 (fun H locs hP hD hS => ?_)
          have hP : va_P (dC, dI) classes (wMO tC a (sMO_bad mo_1 (vp_updL (MO_bad mo_1) ((8 * x1) + (MO_forbidden mo_1 x1.toNatClampNeg)).toNatClampNeg x2))) H := hP
          have hD : va_D A (wMO tC a (sMO_bad mo_1 (vp_updL (MO_bad mo_1) ((8 * x1) + (MO_forbidden mo_1 x1.toNatClampNeg)).toNatClampNeg x2))) := hD
          refine lv_aload_n hx hb d_MO_forbid_78 rfl (lv_at hl 0 rfl) ?_
          refine va_get (D := (dC, dI)) (ci := 8) (v := .ref (a 1)) (C := R_MO) (T := F_MO) (N := 42) hx hb hts (in_MO _) hown hK hP 0 rfl rfl 9 (by decide) (hts _ (List.mem_cons_of_mem _ mw_701)) (fun _ h9 => h9) rfl d_MO_forbid_79 ?_
          refine lv_iload_n hx hb d_MO_forbid_82 rfl (lv_at hl 1 rfl) ?_
          refine lv_dup2_11 hx hb d_MO_forbid_83 rfl rfl ?_
          refine va_iald (D := (dC, dI)) hx hb hK hP 1 0 rfl rfl ck d_MO_forbid_84 ?_
          refine lv_iconst (v := 1) hx hb d_MO_forbid_85 (by decide) ?_
          refine lv_iadd hx hb d_MO_forbid_86 ?_
          refine va_iast (D := (dC, dI)) hx hb hK hP hD hS 1 0 rfl rfl ck d_MO_forbid_87 (fun H locs hP hD hS => ?_)
          have hP : va_P (dC, dI) classes (wMO tC a (sMO_bad (sMO_forbidden mo_1 (upd (MO_forbidden mo_1) x1.toNatClampNeg ((MO_forbidden mo_1 x1.toNatClampNeg) + 1))) (vp_updL (MO_bad mo_1) ((8 * x1) + (MO_forbidden mo_1 x1.toNatClampNeg)).toNatClampNeg x2))) H := hP
          have hD : va_D A (wMO tC a (sMO_bad (sMO_forbidden mo_1 (upd (MO_forbidden mo_1) x1.toNatClampNeg ((MO_forbidden mo_1 x1.toNatClampNeg) + 1))) (vp_updL (MO_bad mo_1) ((8 * x1) + (MO_forbidden mo_1 x1.toNatClampNeg)).toNatClampNeg x2))) := hD
          refine lv_aload_n hx hb d_MO_forbid_88 rfl (lv_at hl 0 rfl) ?_
          refine va_get (D := (dC, dI)) (ci := 8) (v := .ref (a 1)) (C := R_MO) (T := F_MO) (N := 42) hx hb hts (in_MO _) hown hK hP 0 rfl rfl 9 (by decide) (hts _ (List.mem_cons_of_mem _ mw_701)) (fun _ h9 => h9) rfl d_MO_forbid_89 ?_
          refine lv_iload_n hx hb d_MO_forbid_92 rfl (lv_at hl 1 rfl) ?_
          refine va_iald (D := (dC, dI)) hx hb hK hP 1 0 rfl rfl ck d_MO_forbid_93 ?_
          obtain ⟨hq0, hr1⟩ := Prod.mk.inj (g_some hf)
          subst hq0
          subst hr1
          exact cx_iret hx hb hr hlocks hP hS d_MO_forbid_94
        · have hf := g_t hf cb_3
          refine lv_bipush (v := (-4)) hx hb d_MO_forbid_58 (by decide) ?_
          obtain ⟨hq0, hr1⟩ := Prod.mk.inj (g_some hf)
          subst hq0
          subst hr1
          exact cx_iret hx hb hr hlocks hP hS d_MO_forbid_60
      · have hf := g_f hf cb_2
        refine lv_aload_n hx hb d_MO_forbid_40 rfl (lv_at hl 0 rfl) ?_
        refine va_get (D := (dC, dI)) (ci := 8) (v := .ref (a 1)) (C := R_MO) (T := F_MO) (N := 42) hx hb hts (in_MO _) hown hK hP 0 rfl rfl 9 (by decide) (hts _ (List.mem_cons_of_mem _ mw_701)) (fun _ h9 => h9) rfl d_MO_forbid_41 ?_
        refine lv_iload_n hx hb d_MO_forbid_44 rfl (lv_at hl 1 rfl) ?_
        obtain ⟨ck_2, hf⟩ := g_ck hf
        refine va_iald (D := (dC, dI)) hx hb hK hP 1 0 rfl rfl ck_2 d_MO_forbid_45 ?_
        obtain ⟨hq0, hr1⟩ := Prod.mk.inj (g_some hf)
        subst hq0
        subst hr1
        exact cx_iret hx hb hr hlocks hP hS d_MO_forbid_46
    · have hf := g_f hf cb_1
      refine lv_bipush (v := (-3)) hx hb d_MO_forbid_28 (by decide) ?_
      obtain ⟨hq0, hr1⟩ := Prod.mk.inj (g_some hf)
      subst hq0
      subst hr1
      exact cx_iret hx hb hr hlocks hP hS d_MO_forbid_30
  · have hf := g_t hf cb
    refine lv_bipush (v := (-2)) hx hb d_MO_forbid_17 (by decide) ?_
    obtain ⟨hq0, hr1⟩ := Prod.mk.inj (g_some hf)
    subst hq0
    subst hr1
    exact cx_iret hx hb hr hlocks hP hS d_MO_forbid_19
