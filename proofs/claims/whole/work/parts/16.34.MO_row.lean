def f_MO_row_B24 (mo : MOt) : Int64 :=
  if (MO_kind mo) = 4 then (
    100000000
  ) else
  1000000000000
def f_MO_row (k : Nat) (x1 : Int32) (x2 : Int64) (x4 : Int64) (mo : MOt) : Option (Int32 × MOt) :=
  if (f_MO_in (x1.toInt64) 0 7) = 0 then (
    some ((-1), (sMO_thrown mo 0))
  ) else
  gl_let ((sMO_thrown mo 0) : MOt) fun mo_1 =>
  gl_let (f_MO_row_B24 mo) fun t =>
  if (f_MO_in x2 (-t) t) = 0 then (
    some ((-2), mo_1)
  ) else
  if (MO_kind mo_1) = 5 then (
    (f_MO_isForbidden k (MO_rule mo_1) x4 mo_1).bind fun r_3 =>
    if r_3 = 0 then (
      if (MO_kind mo_1) = 3 then (
        (f_MO_counted k x1 x2 x4 mo_1).bind fun (r_6, mo_9) =>
        some (r_6, mo_9)
      ) else
      (f_MO_wantFor k x2 x4 mo_1).bind fun mo_6 =>
      if (MO_kind mo_6) = 2 then (
        (f_MO_gap k x1 x2 x4 mo_6).bind fun (r_5, mo_8) =>
        some (r_5, mo_8)
      ) else
      (f_MO_plain k x1 x2 x4 mo_6).bind fun (r_4, mo_7) =>
      some (r_4, mo_7)
    ) else
    some (0, (sMO_thrown mo_1 1))
  ) else
  if (MO_kind mo_1) = 3 then (
    (f_MO_counted k x1 x2 x4 mo_1).bind fun (r_2, mo_5) =>
    some (r_2, mo_5)
  ) else
  (f_MO_wantFor k x2 x4 mo_1).bind fun mo_2 =>
  if (MO_kind mo_2) = 2 then (
    (f_MO_gap k x1 x2 x4 mo_2).bind fun (r_1, mo_4) =>
    some (r_1, mo_4)
  ) else
  (f_MO_plain k x1 x2 x4 mo_2).bind fun (r, mo_3) =>
  some (r, mo_3)
set_option maxHeartbeats 4000000 in
set_option maxRecDepth 100000 in
theorem c_MO_row (l : Launch) (dC : Nat → ClassId) (dI : Nat → Nat → Nat) (tC : Nat → ClassId) (a : Nat → Nat) (k : Nat) (x1 : Int32) (x2 : Int64) (x4 : Int64) (mo : MOt) (res : Int32) (moR : MOt) (hf : f_MO_row k x1 x2 x4 mo = some (res, moR)) : cx_M l y_MO_row w_MO_row { frames := 5, cells := 0, slots := 0, locals := 130 } (dC, dI) classes (tyS tC) [.ref (a 0), .int x1, .long x2, .long x4] (wMO tC a mo) (wMO tC a moR) (some (.int res)) := by
  refine cx_of (cc := b_MO_row) (maxL := 8) (ret := some .int) (plainFor_of_name (by decide)) rfl (Nat.le_of_ble_eq_true rfl) ?_
  intro p e s m below meth c hx hb hr hml hown hts hlocks A hA H locs ls hK hN hP hD hS hl
  have hown : s.vm.findClass R_MO = some m.cls := hown
  have hl : lv_has ls 8 [(0, .ref (a 0)), (1, .int x1), (2, .long x2), (4, .long x4)] := hl
  unfold f_MO_row at hf
  refine lv_aload_n hx hb d_MO_row_0 rfl (lv_at hl 0 rfl) ?_
  refine lv_iconst (v := 0) hx hb d_MO_row_1 (by decide) ?_
  refine va_put (D := (dC, dI)) (ci := 8) (v := .int 0) (ty := .int) (C := R_MO) (T := F_MO) (N := 42) hx hb hts (in_MO _) t_MO t_MO_ok n_MO hown hK hP hD hS 0 rfl rfl 12 (by decide) (hts _ (List.mem_cons_of_mem _ mw_704)) (fun _ h9 => h9) rfl (by decide +kernel) rfl rfl (Nat.le_of_ble_eq_true rfl) d_MO_row_2 (fun H locs hP hD hS => ?_)
  have hP : va_P (dC, dI) classes (wMO tC a (sMO_thrown mo 0)) H := hP
  have hD : va_D A (wMO tC a (sMO_thrown mo 0)) := hD
  refine lv_iload_n hx hb d_MO_row_5 rfl (lv_at hl 1 rfl) ?_
  refine lv_i2l hx hb d_MO_row_6 rfl ?_
  refine lv_lconst (v := 0) hx hb d_MO_row_7 (by decide) ?_
  refine lv_ldc2 (v := 7) hx hb hown (hts _ (List.mem_cons_of_mem _ mw_892)) d_MO_row_8 ?_
  refine cx_callS (As := [.long (x1.toInt64), .long 0, .long 7]) (rest := []) ⟨hx, hb, hml, hown, hts⟩ (c_MO_in l dC dI tC  (x1.toInt64) 0 7 (f_MO_in (x1.toInt64) 0 7) rfl) (k_MO_111 hts ⟨Nat.le_of_ble_eq_true rfl, Nat.le_of_ble_eq_true rfl⟩) hl.1 hP hD hS hA hK hN [] rfl rfl rfl rfl rfl (Nat.le_of_ble_eq_true rfl) d_MO_row_11 ⟨Nat.zero_le _, Nat.zero_le _⟩ (fun H locs hP hD hS => ?_)
  have hP : va_P (dC, dI) classes (wMO tC a (sMO_thrown mo 0)) H := hP
  have hD : va_D A (wMO tC a (sMO_thrown mo 0)) := hD
  refine W.eq (g2 := F0 m 14 ls [.int (f_MO_in (x1.toInt64) 0 7)]) rfl ?_
  refine lv_if_ne (tgt := 19) hx hb d_MO_row_14 (by decide) (fun cb => ?_) (fun cb => ?_)
  · have hf := g_f hf cb
    refine lv_aload_n hx hb d_MO_row_19 rfl (lv_at hl 0 rfl) ?_
    refine va_get (D := (dC, dI)) (ci := 8) (v := .int (MO_kind mo)) (C := R_MO) (T := F_MO) (N := 42) hx hb hts (in_MO _) hown hK hP 0 rfl rfl 0 (by decide) (hts _ (List.mem_cons_of_mem _ mw_692)) (fun _ h9 => h9) rfl d_MO_row_20 ?_
    refine lv_iconst (v := 4) hx hb d_MO_row_23 (by decide) ?_
    obtain ⟨mo_1, h_mo_1⟩ : ∃ z : MOt, z = (sMO_thrown mo 0) := ⟨_, rfl⟩
    have hf := g_let hf h_mo_1
    have hP : va_P (dC, dI) classes (wMO tC a mo_1) H := by rw [h_mo_1]; exact hP
    have hD : va_D A (wMO tC a mo_1) := by rw [h_mo_1]; exact hD
    obtain ⟨t, hB_36⟩ : ∃ z : Int64, z = f_MO_row_B24 mo := ⟨_, rfl⟩
    have hf := g_let hf hB_36
    have hB_36 := hB_36.symm
    try dsimp only at hf
    have K_36 : ∀ (H : Heap) (locs : List Loc) (ls : Array Slot), va_P (dC, dI) classes (wMO tC a mo_1) H → va_D A (wMO tC a mo_1) → va_S A s.heap H locs → lv_has ls 8 [(0, .ref (a 0)), (1, .int x1), (2, .long x2), (4, .long x4)] → W p l e { frames := 5, cells := 0, slots := 0, locals := 130 } s m [.ref (a 0), .int x1, .long x2, .long x4].toArray below meth c H locs 0 0 (cx_Z (dC, dI) classes below [.ref (a 0), .int x1, .long x2, .long x4] s (wMO tC a moR) (some (.int res)) A) (F0 m 36 ls [.long t]) := by
      intro H locs ls hP hD hS hl
      refine lv_lstore (lv' := [(6, .long t), (0, .ref (a 0)), (1, .int x1), (2, .long x2), (4, .long x4)]) hx hb d_MO_row_36 hl (by decide) rfl (fun ls hl => ?_)
      refine lv_lload_n hx hb d_MO_row_38 rfl (lv_at hl 3 rfl) ?_
      refine lv_lload hx hb d_MO_row_39 (lv_at hl 0 rfl) ?_
      refine lv_lneg hx hb d_MO_row_41 ?_
      refine lv_lload hx hb d_MO_row_42 (lv_at hl 0 rfl) ?_
      refine cx_callS (As := [.long x2, .long (-t), .long t]) (rest := []) ⟨hx, hb, hml, hown, hts⟩ (c_MO_in l dC dI tC  x2 (-t) t (f_MO_in x2 (-t) t) rfl) (k_MO_111 hts ⟨Nat.le_of_ble_eq_true rfl, Nat.le_of_ble_eq_true rfl⟩) hl.1 hP hD hS hA hK hN [] rfl rfl rfl rfl rfl (Nat.le_of_ble_eq_true rfl) d_MO_row_44 ⟨Nat.zero_le _, Nat.zero_le _⟩ (fun H locs hP hD hS => ?_)
      have hP : va_P (dC, dI) classes (wMO tC a mo_1) H := hP
      have hD : va_D A (wMO tC a mo_1) := hD
      refine W.eq (g2 := F0 m 47 ls [.int (f_MO_in x2 (-t) t)]) rfl ?_
      refine lv_if_ne (tgt := 53) hx hb d_MO_row_47 (by decide) (fun cb_2 => ?_) (fun cb_2 => ?_)
      · have hf := g_f hf cb_2
        refine lv_aload_n hx hb d_MO_row_53 rfl (lv_at hl 1 rfl) ?_
        refine va_get (D := (dC, dI)) (ci := 8) (v := .int (MO_kind mo_1)) (C := R_MO) (T := F_MO) (N := 42) hx hb hts (in_MO _) hown hK hP 0 rfl rfl 0 (by decide) (hts _ (List.mem_cons_of_mem _ mw_692)) (fun _ h9 => h9) rfl d_MO_row_54 ?_
        refine lv_iconst (v := 5) hx hb d_MO_row_57 (by decide) ?_
        refine lv_icmp_ne (tgt := 81) hx hb d_MO_row_58 (by decide) (fun cb_3 => ?_) (fun cb_3 => ?_)
        · have hf := g_f hf cb_3
          refine lv_aload_n hx hb d_MO_row_81 rfl (lv_at hl 1 rfl) ?_
          refine va_get (D := (dC, dI)) (ci := 8) (v := .int (MO_kind mo_1)) (C := R_MO) (T := F_MO) (N := 42) hx hb hts (in_MO _) hown hK hP 0 rfl rfl 0 (by decide) (hts _ (List.mem_cons_of_mem _ mw_692)) (fun _ h9 => h9) rfl d_MO_row_82 ?_
          refine lv_iconst (v := 3) hx hb d_MO_row_85 (by decide) ?_
          refine lv_icmp_ne (tgt := 98) hx hb d_MO_row_86 (by decide) (fun cb_4 => ?_) (fun cb_4 => ?_)
          · have hf := g_f hf cb_4
            refine lv_aload_n hx hb d_MO_row_98 rfl (lv_at hl 1 rfl) ?_
            refine lv_lload_n hx hb d_MO_row_99 rfl (lv_at hl 3 rfl) ?_
            refine lv_lload hx hb d_MO_row_100 (lv_at hl 4 rfl) ?_
            obtain ⟨mo_2, hc_2, hf⟩ := g_bind hf
            try dsimp only at hf
            refine cx3_callV (As := [.long x2, .long x4]) (rest := []) (wMO tC a mo_2) ⟨hx, hb, hml, hown, hts⟩ (c_MO_wantFor l dC dI tC a k x2 x4 mo_1 mo_2 hc_2) (k_MO_245 hts ⟨Nat.le_of_ble_eq_true rfl, Nat.le_of_ble_eq_true rfl⟩) hl.1 hP hD hS hA hK hN 0 8 rfl rfl rfl (adMO _ _ _ _) rfl rfl (Nat.le_of_ble_eq_true rfl) d_MO_row_102 ⟨Nat.zero_le _, Nat.zero_le _⟩ (fun H locs hP hD hS => ?_)
            refine W.eq (g2 := F0 m 105 ls []) rfl ?_
            refine lv_aload_n hx hb d_MO_row_105 rfl (lv_at hl 1 rfl) ?_
            refine va_get (D := (dC, dI)) (ci := 8) (v := .int (MO_kind mo_2)) (C := R_MO) (T := F_MO) (N := 42) hx hb hts (in_MO _) hown hK hP 0 rfl rfl 0 (by decide) (hts _ (List.mem_cons_of_mem _ mw_692)) (fun _ h9 => h9) rfl d_MO_row_106 ?_
            refine lv_iconst (v := 2) hx hb d_MO_row_109 (by decide) ?_
            refine lv_icmp_ne (tgt := 124) hx hb d_MO_row_110 (by decide) (fun cb_5 => ?_) (fun cb_5 => ?_)
            · have hf := g_f hf cb_5
              refine lv_aload_n hx hb d_MO_row_124 rfl (lv_at hl 1 rfl) ?_
              refine lv_iload_n hx hb d_MO_row_125 rfl (lv_at hl 2 rfl) ?_
              refine lv_lload_n hx hb d_MO_row_126 rfl (lv_at hl 3 rfl) ?_
              refine lv_lload hx hb d_MO_row_127 (lv_at hl 4 rfl) ?_
              obtain ⟨⟨r, mo_3⟩, hc_3, hf⟩ := g_bind hf
              try dsimp only at hf
              refine cx3_callV (As := [.int x1, .long x2, .long x4]) (rest := []) (wMO tC a mo_3) ⟨hx, hb, hml, hown, hts⟩ (c_MO_plain l dC dI tC a k x1 x2 x4 mo_2 r mo_3 hc_3) (k_MO_251 hts ⟨Nat.le_of_ble_eq_true rfl, Nat.le_of_ble_eq_true rfl⟩) hl.1 hP hD hS hA hK hN 0 8 rfl rfl rfl (adMO _ _ _ _) rfl rfl (Nat.le_of_ble_eq_true rfl) d_MO_row_129 ⟨Nat.zero_le _, Nat.zero_le _⟩ (fun H locs hP hD hS => ?_)
              refine W.eq (g2 := F0 m 132 ls [.int r]) rfl ?_
              obtain ⟨hq0, hr1⟩ := Prod.mk.inj (g_some hf)
              subst hq0
              subst hr1
              exact cx_iret hx hb hr hlocks hP hS d_MO_row_132
            · have hf := g_t hf cb_5
              refine lv_aload_n hx hb d_MO_row_113 rfl (lv_at hl 1 rfl) ?_
              refine lv_iload_n hx hb d_MO_row_114 rfl (lv_at hl 2 rfl) ?_
              refine lv_lload_n hx hb d_MO_row_115 rfl (lv_at hl 3 rfl) ?_
              refine lv_lload hx hb d_MO_row_116 (lv_at hl 4 rfl) ?_
              obtain ⟨⟨r_1, mo_4⟩, hc_4, hf⟩ := g_bind hf
              try dsimp only at hf
              refine cx3_callV (As := [.int x1, .long x2, .long x4]) (rest := []) (wMO tC a mo_4) ⟨hx, hb, hml, hown, hts⟩ (c_MO_gap l dC dI tC a k x1 x2 x4 mo_2 r_1 mo_4 hc_4) (k_MO_248 hts ⟨Nat.le_of_ble_eq_true rfl, Nat.le_of_ble_eq_true rfl⟩) hl.1 hP hD hS hA hK hN 0 8 rfl rfl rfl (adMO _ _ _ _) rfl rfl (Nat.le_of_ble_eq_true rfl) d_MO_row_118 ⟨Nat.zero_le _, Nat.zero_le _⟩ (fun H locs hP hD hS => ?_)
              refine W.eq (g2 := F0 m 121 ls [.int r_1]) rfl ?_
              refine lv_goto (tgt := 132) hx hb d_MO_row_121 (by decide) ?_
              obtain ⟨hq0, hr1⟩ := Prod.mk.inj (g_some hf)
              subst hq0
              subst hr1
              exact cx_iret hx hb hr hlocks hP hS d_MO_row_132
          · have hf := g_t hf cb_4
            refine lv_aload_n hx hb d_MO_row_89 rfl (lv_at hl 1 rfl) ?_
            refine lv_iload_n hx hb d_MO_row_90 rfl (lv_at hl 2 rfl) ?_
            refine lv_lload_n hx hb d_MO_row_91 rfl (lv_at hl 3 rfl) ?_
            refine lv_lload hx hb d_MO_row_92 (lv_at hl 4 rfl) ?_
            obtain ⟨⟨r_2, mo_5⟩, hc_5, hf⟩ := g_bind hf
            try dsimp only at hf
            refine cx3_callV (As := [.int x1, .long x2, .long x4]) (rest := []) (wMO tC a mo_5) ⟨hx, hb, hml, hown, hts⟩ (c_MO_counted l dC dI tC a k x1 x2 x4 mo_1 r_2 mo_5 hc_5) (k_MO_241 hts ⟨Nat.le_of_ble_eq_true rfl, Nat.le_of_ble_eq_true rfl⟩) hl.1 hP hD hS hA hK hN 0 8 rfl rfl rfl (adMO _ _ _ _) rfl rfl (Nat.le_of_ble_eq_true rfl) d_MO_row_94 ⟨Nat.zero_le _, Nat.zero_le _⟩ (fun H locs hP hD hS => ?_)
            refine W.eq (g2 := F0 m 97 ls [.int r_2]) rfl ?_
            obtain ⟨hq0, hr1⟩ := Prod.mk.inj (g_some hf)
            subst hq0
            subst hr1
            exact cx_iret hx hb hr hlocks hP hS d_MO_row_97
        · have hf := g_t hf cb_3
          refine lv_aload_n hx hb d_MO_row_61 rfl (lv_at hl 1 rfl) ?_
          refine lv_aload_n hx hb d_MO_row_62 rfl (lv_at hl 1 rfl) ?_
          refine va_get (D := (dC, dI)) (ci := 8) (v := .int (MO_rule mo_1)) (C := R_MO) (T := F_MO) (N := 42) hx hb hts (in_MO _) hown hK hP 0 rfl rfl 8 (by decide) (hts _ (List.mem_cons_of_mem _ mw_700)) (fun _ h9 => h9) rfl d_MO_row_63 ?_
          refine lv_lload hx hb d_MO_row_66 (lv_at hl 4 rfl) ?_
          obtain ⟨r_3, hc_6, hf⟩ := g_bind hf
          try dsimp only at hf
          refine cx3_callV (As := [.int (MO_rule mo_1), .long x4]) (rest := []) (wMO tC a mo_1) ⟨hx, hb, hml, hown, hts⟩ (c_MO_isForbidden l dC dI tC a k (MO_rule mo_1) x4 mo_1 r_3 hc_6) (k_MO_137 hts ⟨Nat.le_of_ble_eq_true rfl, Nat.le_of_ble_eq_true rfl⟩) hl.1 hP hD hS hA hK hN 0 8 rfl rfl rfl rfl rfl rfl (Nat.le_of_ble_eq_true rfl) d_MO_row_68 ⟨Nat.zero_le _, Nat.zero_le _⟩ (fun H locs hP hD hS => ?_)
          refine W.eq (g2 := F0 m 71 ls [.int r_3]) rfl ?_
          refine lv_if_eq (tgt := 81) hx hb d_MO_row_71 (by decide) (fun cb_6 => ?_) (fun cb_6 => ?_)
          · have hf := g_t hf cb_6
            refine lv_aload_n hx hb d_MO_row_81 rfl (lv_at hl 1 rfl) ?_
            refine va_get (D := (dC, dI)) (ci := 8) (v := .int (MO_kind mo_1)) (C := R_MO) (T := F_MO) (N := 42) hx hb hts (in_MO _) hown hK hP 0 rfl rfl 0 (by decide) (hts _ (List.mem_cons_of_mem _ mw_692)) (fun _ h9 => h9) rfl d_MO_row_82 ?_
            refine lv_iconst (v := 3) hx hb d_MO_row_85 (by decide) ?_
            refine lv_icmp_ne (tgt := 98) hx hb d_MO_row_86 (by decide) (fun cb_7 => ?_) (fun cb_7 => ?_)
            · have hf := g_f hf cb_7
              refine lv_aload_n hx hb d_MO_row_98 rfl (lv_at hl 1 rfl) ?_
              refine lv_lload_n hx hb d_MO_row_99 rfl (lv_at hl 3 rfl) ?_
              refine lv_lload hx hb d_MO_row_100 (lv_at hl 4 rfl) ?_
              obtain ⟨mo_6, hc_7, hf⟩ := g_bind hf
              try dsimp only at hf
              refine cx3_callV (As := [.long x2, .long x4]) (rest := []) (wMO tC a mo_6) ⟨hx, hb, hml, hown, hts⟩ (c_MO_wantFor l dC dI tC a k x2 x4 mo_1 mo_6 hc_7) (k_MO_245 hts ⟨Nat.le_of_ble_eq_true rfl, Nat.le_of_ble_eq_true rfl⟩) hl.1 hP hD hS hA hK hN 0 8 rfl rfl rfl (adMO _ _ _ _) rfl rfl (Nat.le_of_ble_eq_true rfl) d_MO_row_102 ⟨Nat.zero_le _, Nat.zero_le _⟩ (fun H locs hP hD hS => ?_)
              refine W.eq (g2 := F0 m 105 ls []) rfl ?_
              refine lv_aload_n hx hb d_MO_row_105 rfl (lv_at hl 1 rfl) ?_
              refine va_get (D := (dC, dI)) (ci := 8) (v := .int (MO_kind mo_6)) (C := R_MO) (T := F_MO) (N := 42) hx hb hts (in_MO _) hown hK hP 0 rfl rfl 0 (by decide) (hts _ (List.mem_cons_of_mem _ mw_692)) (fun _ h9 => h9) rfl d_MO_row_106 ?_
              refine lv_iconst (v := 2) hx hb d_MO_row_109 (by decide) ?_
              refine lv_icmp_ne (tgt := 124) hx hb d_MO_row_110 (by decide) (fun cb_8 => ?_) (fun cb_8 => ?_)
              · have hf := g_f hf cb_8
                refine lv_aload_n hx hb d_MO_row_124 rfl (lv_at hl 1 rfl) ?_
                refine lv_iload_n hx hb d_MO_row_125 rfl (lv_at hl 2 rfl) ?_
                refine lv_lload_n hx hb d_MO_row_126 rfl (lv_at hl 3 rfl) ?_
                refine lv_lload hx hb d_MO_row_127 (lv_at hl 4 rfl) ?_
                obtain ⟨⟨r_4, mo_7⟩, hc_8, hf⟩ := g_bind hf
                try dsimp only at hf
                refine cx3_callV (As := [.int x1, .long x2, .long x4]) (rest := []) (wMO tC a mo_7) ⟨hx, hb, hml, hown, hts⟩ (c_MO_plain l dC dI tC a k x1 x2 x4 mo_6 r_4 mo_7 hc_8) (k_MO_251 hts ⟨Nat.le_of_ble_eq_true rfl, Nat.le_of_ble_eq_true rfl⟩) hl.1 hP hD hS hA hK hN 0 8 rfl rfl rfl (adMO _ _ _ _) rfl rfl (Nat.le_of_ble_eq_true rfl) d_MO_row_129 ⟨Nat.zero_le _, Nat.zero_le _⟩ (fun H locs hP hD hS => ?_)
                refine W.eq (g2 := F0 m 132 ls [.int r_4]) rfl ?_
                obtain ⟨hq0, hr1⟩ := Prod.mk.inj (g_some hf)
                subst hq0
                subst hr1
                exact cx_iret hx hb hr hlocks hP hS d_MO_row_132
              · have hf := g_t hf cb_8
                refine lv_aload_n hx hb d_MO_row_113 rfl (lv_at hl 1 rfl) ?_
                refine lv_iload_n hx hb d_MO_row_114 rfl (lv_at hl 2 rfl) ?_
                refine lv_lload_n hx hb d_MO_row_115 rfl (lv_at hl 3 rfl) ?_
                refine lv_lload hx hb d_MO_row_116 (lv_at hl 4 rfl) ?_
                obtain ⟨⟨r_5, mo_8⟩, hc_9, hf⟩ := g_bind hf
                try dsimp only at hf
                refine cx3_callV (As := [.int x1, .long x2, .long x4]) (rest := []) (wMO tC a mo_8) ⟨hx, hb, hml, hown, hts⟩ (c_MO_gap l dC dI tC a k x1 x2 x4 mo_6 r_5 mo_8 hc_9) (k_MO_248 hts ⟨Nat.le_of_ble_eq_true rfl, Nat.le_of_ble_eq_true rfl⟩) hl.1 hP hD hS hA hK hN 0 8 rfl rfl rfl (adMO _ _ _ _) rfl rfl (Nat.le_of_ble_eq_true rfl) d_MO_row_118 ⟨Nat.zero_le _, Nat.zero_le _⟩ (fun H locs hP hD hS => ?_)
                refine W.eq (g2 := F0 m 121 ls [.int r_5]) rfl ?_
                refine lv_goto (tgt := 132) hx hb d_MO_row_121 (by decide) ?_
                obtain ⟨hq0, hr1⟩ := Prod.mk.inj (g_some hf)
                subst hq0
                subst hr1
                exact cx_iret hx hb hr hlocks hP hS d_MO_row_132
            · have hf := g_t hf cb_7
              refine lv_aload_n hx hb d_MO_row_89 rfl (lv_at hl 1 rfl) ?_
              refine lv_iload_n hx hb d_MO_row_90 rfl (lv_at hl 2 rfl) ?_
              refine lv_lload_n hx hb d_MO_row_91 rfl (lv_at hl 3 rfl) ?_
              refine lv_lload hx hb d_MO_row_92 (lv_at hl 4 rfl) ?_
              obtain ⟨⟨r_6, mo_9⟩, hc_10, hf⟩ := g_bind hf
              try dsimp only at hf
              refine cx3_callV (As := [.int x1, .long x2, .long x4]) (rest := []) (wMO tC a mo_9) ⟨hx, hb, hml, hown, hts⟩ (c_MO_counted l dC dI tC a k x1 x2 x4 mo_1 r_6 mo_9 hc_10) (k_MO_241 hts ⟨Nat.le_of_ble_eq_true rfl, Nat.le_of_ble_eq_true rfl⟩) hl.1 hP hD hS hA hK hN 0 8 rfl rfl rfl (adMO _ _ _ _) rfl rfl (Nat.le_of_ble_eq_true rfl) d_MO_row_94 ⟨Nat.zero_le _, Nat.zero_le _⟩ (fun H locs hP hD hS => ?_)
              refine W.eq (g2 := F0 m 97 ls [.int r_6]) rfl ?_
              obtain ⟨hq0, hr1⟩ := Prod.mk.inj (g_some hf)
              subst hq0
              subst hr1
              exact cx_iret hx hb hr hlocks hP hS d_MO_row_97
          · have hf := g_f hf cb_6
            refine lv_aload_n hx hb d_MO_row_74 rfl (lv_at hl 1 rfl) ?_
            refine lv_iconst (v := 1) hx hb d_MO_row_75 (by decide) ?_
            refine va_put (D := (dC, dI)) (ci := 8) (v := .int 1) (ty := .int) (C := R_MO) (T := F_MO) (N := 42) hx hb hts (in_MO _) t_MO t_MO_ok n_MO hown hK hP hD hS 0 rfl rfl 12 (by decide) (hts _ (List.mem_cons_of_mem _ mw_704)) (fun _ h9 => h9) rfl (by decide +kernel) rfl rfl (Nat.le_of_ble_eq_true rfl) d_MO_row_76 (fun H locs hP hD hS => ?_)
            have hP : va_P (dC, dI) classes (wMO tC a (sMO_thrown mo_1 1)) H := hP
            have hD : va_D A (wMO tC a (sMO_thrown mo_1 1)) := hD
            refine lv_iconst (v := 0) hx hb d_MO_row_79 (by decide) ?_
            obtain ⟨hq0, hr1⟩ := Prod.mk.inj (g_some hf)
            subst hq0
            subst hr1
            exact cx_iret hx hb hr hlocks hP hS d_MO_row_80
      · have hf := g_t hf cb_2
        refine lv_bipush (v := (-2)) hx hb d_MO_row_50 (by decide) ?_
        obtain ⟨hq0, hr1⟩ := Prod.mk.inj (g_some hf)
        subst hq0
        subst hr1
        exact cx_iret hx hb hr hlocks hP hS d_MO_row_52
    have hf := hB_36
    unfold f_MO_row_B24 at hf
    refine lv_icmp_ne (tgt := 33) hx hb d_MO_row_24 (by decide) (fun cb_1 => ?_) (fun cb_1 => ?_)
    · have hf := g_f hf cb_1
      refine lv_ldc2 (v := 1000000000000) hx hb hown (hts _ (List.mem_cons_of_mem _ mw_894)) d_MO_row_33 ?_
      have hq0 := hf
      subst hq0
      exact K_36 _ _ _ hP hD hS (lv_sub hl [0, 1, 2, 3] rfl)
    · have hf := g_t hf cb_1
      refine lv_ldc2 (v := 100000000) hx hb hown (hts _ (List.mem_cons_of_mem _ mw_893)) d_MO_row_27 ?_
      refine lv_goto (tgt := 36) hx hb d_MO_row_30 (by decide) ?_
      have hq0 := hf
      subst hq0
      exact K_36 _ _ _ hP hD hS (lv_sub hl [0, 1, 2, 3] rfl)
  · have hf := g_t hf cb
    refine lv_iconst (v := (-1)) hx hb d_MO_row_17 (by decide) ?_
    obtain ⟨hq0, hr1⟩ := Prod.mk.inj (g_some hf)
    subst hq0
    subst hr1
    exact cx_iret hx hb hr hlocks hP hS d_MO_row_18
