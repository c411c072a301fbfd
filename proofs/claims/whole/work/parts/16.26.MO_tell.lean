def f_MO_tell_L13  : Nat → Int32 → MOt → Option (MOt)
  | 0, _, _ => none
  | n + 1, v8, mo_2 =>
    if 3990 ≤ v8 then (
      some mo_2
    ) else
    if (v8 + 10) < 0 ∨ 4000 ≤ (v8 + 10).toNatClampNeg then none else
    if v8 < 0 ∨ 4000 ≤ v8.toNatClampNeg then none else
    gl_let (v8 + 1) fun v8_1 =>
    gl_let ((sMO_told mo_2 (vp_updL (MO_told mo_2) v8.toNatClampNeg (MO_told mo_2 (v8 + 10).toNatClampNeg))) : MOt) fun mo_4 =>
    f_MO_tell_L13  n v8_1 mo_4
def f_MO_tell_B7 (k : Nat) (mo : MOt) : Option (MOt) :=
  if (MO_kept mo) = 400 then (
    (f_MO_tell_L13 k 0 mo).bind fun mo_3 =>
    some (sMO_kept mo_3 ((MO_kept mo_3) - 1))
  ) else
  some mo
def f_MO_tell_L108 (v8_2 : Int32) : Nat → Int32 → MOt → Option (MOt)
  | 0, _, _ => none
  | n + 1, v9, mo_6 =>
    if 5 ≤ v9 then (
      some mo_6
    ) else
    if v9 < 0 ∨ 5 ≤ v9.toNatClampNeg then none else
    if ((v8_2 + 4) + v9) < 0 ∨ 4000 ≤ ((v8_2 + 4) + v9).toNatClampNeg then none else
    gl_let (v9 + 1) fun v9_1 =>
    gl_let ((sMO_told mo_6 (vp_updL (MO_told mo_6) ((v8_2 + 4) + v9).toNatClampNeg (MO_got mo_6 v9.toNatClampNeg))) : MOt) fun mo_8 =>
    f_MO_tell_L108 v8_2 n v9_1 mo_8
def f_MO_tell_B179 (x6 : Int32) : Int32 :=
  if x6 = 0 then (
    1
  ) else
  0
def f_MO_tell (k : Nat) (x1 : Int32) (x2 : Int64) (x4 : Int64) (x6 : Int32) (x7 : Int32) (mo : MOt) : Option MOt :=
  (f_MO_tell_B7 k mo).bind fun mo_1 =>
  gl_let ((10 * (MO_kept mo_1))) fun v8_2 =>
  if v8_2 < 0 ∨ 4000 ≤ v8_2.toNatClampNeg then none else
  if (v8_2 + 1) < 0 ∨ 4000 ≤ (v8_2 + 1).toNatClampNeg then none else
  if (v8_2 + 2) < 0 ∨ 4000 ≤ (v8_2 + 2).toNatClampNeg then none else
  if (v8_2 + 3) < 0 ∨ 4000 ≤ (v8_2 + 3).toNatClampNeg then none else
  gl_let ((sMO_told mo_1 (vp_updL (vp_updL (vp_updL (vp_updL (MO_told mo_1) v8_2.toNatClampNeg (x1.toInt64)) (v8_2 + 1).toNatClampNeg x2) (v8_2 + 2).toNatClampNeg x4) (v8_2 + 3).toNatClampNeg (x6.toInt64))) : MOt) fun mo_5 =>
  (f_MO_tell_L108 v8_2 k 0 mo_5).bind fun mo_7 =>
  if (v8_2 + 9) < 0 ∨ 4000 ≤ (v8_2 + 9).toNatClampNeg then none else
  gl_let ((sMO_firings (sMO_kept (sMO_told mo_7 (vp_updL (MO_told mo_7) (v8_2 + 9).toNatClampNeg (x7.toInt64))) ((MO_kept mo_7) + 1)) ((MO_firings mo_7) + 1)) : MOt) fun mo_9 =>
  gl_let (f_MO_tell_B179 x6) fun t =>
  if x6 = 2 then (
    some (sMO_lately (sMO_early mo_9 ((MO_early mo_7) + t)) ((MO_lately mo_9) + 1))
  ) else
  some (sMO_lately (sMO_early mo_9 ((MO_early mo_7) + t)) ((MO_lately mo_9) + 0))
set_option maxHeartbeats 4000000 in
set_option maxRecDepth 100000 in
theorem c_MO_tell (l : Launch) (dC : Nat → ClassId) (dI : Nat → Nat → Nat) (tC : Nat → ClassId) (a : Nat → Nat) (k : Nat) (x1 : Int32) (x2 : Int64) (x4 : Int64) (x6 : Int32) (x7 : Int32) (mo : MOt) (moR : MOt) (hf : f_MO_tell k x1 x2 x4 x6 x7 mo = some moR) : cx_M l y_MO_tell w_MO_tell { frames := 0, cells := 0, slots := 0, locals := 0 } (dC, dI) classes (tyS tC) [.ref (a 0), .int x1, .long x2, .long x4, .int x6, .int x7] (wMO tC a mo) (wMO tC a moR) (none) := by
  refine cx_of (cc := b_MO_tell) (maxL := 10) (ret := none) (plainFor_of_name (by decide)) rfl (Nat.le_of_ble_eq_true rfl) ?_
  intro p e s m below meth c hx hb hr hml hown hts hlocks A hA H locs ls hK hN hP hD hS hl
  have hown : s.vm.findClass R_MO = some m.cls := hown
  have hl : lv_has ls 10 [(0, .ref (a 0)), (1, .int x1), (2, .long x2), (4, .long x4), (6, .int x6), (7, .int x7)] := hl
  unfold f_MO_tell at hf
  refine lv_aload_n hx hb d_MO_tell_0 rfl (lv_at hl 0 rfl) ?_
  refine va_get (D := (dC, dI)) (ci := 8) (v := .int (MO_kept mo)) (C := R_MO) (T := F_MO) (N := 42) hx hb hts (in_MO _) hown hK hP 0 rfl rfl 33 (by decide) (hts _ (List.mem_cons_of_mem _ mw_725)) (fun _ h9 => h9) rfl d_MO_tell_1 ?_
  refine lv_sipush (v := 400) hx hb d_MO_tell_4 (by decide) ?_
  obtain ⟨mo_1, hB_54, hf⟩ := g_bind hf
  try dsimp only at hf
  have K_54 : ∀ (H : Heap) (locs : List Loc) (ls : Array Slot), va_P (dC, dI) classes (wMO tC a mo_1) H → va_D A (wMO tC a mo_1) → va_S A s.heap H locs → lv_has ls 10 [(0, .ref (a 0)), (1, .int x1), (2, .long x2), (4, .long x4), (6, .int x6), (7, .int x7)] → W p l e { frames := 0, cells := 0, slots := 0, locals := 0 } s m [.ref (a 0), .int x1, .long x2, .long x4, .int x6, .int x7].toArray below meth c H locs 0 0 (cx_Z (dC, dI) classes below [.ref (a 0), .int x1, .long x2, .long x4, .int x6, .int x7] s (wMO tC a moR) (none) A) (F0 m 54 ls []) := by
    intro H locs ls hP hD hS hl
    refine lv_bipush (v := 10) hx hb d_MO_tell_54 (by decide) ?_
    refine lv_aload_n hx hb d_MO_tell_56 rfl (lv_at hl 0 rfl) ?_
    refine va_get (D := (dC, dI)) (ci := 8) (v := .int (MO_kept mo_1)) (C := R_MO) (T := F_MO) (N := 42) hx hb hts (in_MO _) hown hK hP 0 rfl rfl 33 (by decide) (hts _ (List.mem_cons_of_mem _ mw_725)) (fun _ h9 => h9) rfl d_MO_tell_57 ?_
    refine lv_imul hx hb d_MO_tell_60 ?_
    refine lv_topi (fun v8_2 h_v8_2 => ?_)
    have hf := g_let hf h_v8_2
    refine lv_istore (lv' := [(8, .int v8_2), (0, .ref (a 0)), (1, .int x1), (2, .long x2), (4, .long x4), (6, .int x6), (7, .int x7)]) hx hb d_MO_tell_61 hl (by decide) rfl (fun ls hl => ?_)
    refine lv_aload_n hx hb d_MO_tell_63 rfl (lv_at hl 1 rfl) ?_
    refine va_get (D := (dC, dI)) (ci := 8) (v := .ref (a 18)) (C := R_MO) (T := F_MO) (N := 42) hx hb hts (in_MO _) hown hK hP 0 rfl rfl 32 (by decide) (hts _ (List.mem_cons_of_mem _ mw_724)) (fun _ h9 => h9) rfl d_MO_tell_64 ?_
    refine lv_iload hx hb d_MO_tell_67 (lv_at hl 0 rfl) ?_
    refine lv_iload_n hx hb d_MO_tell_69 rfl (lv_at hl 2 rfl) ?_
    refine lv_i2l hx hb d_MO_tell_70 rfl ?_
    obtain ⟨ck_2, hf⟩ := g_ck hf
    refine va_last (D := (dC, dI)) hx hb hK hP hD hS 18 1 rfl rfl ck_2 d_MO_tell_71 (fun H locs hP hD hS => ?_)
    have hP : va_P (dC, dI) classes (wMO tC a (sMO_told mo_1 (vp_updL (MO_told mo_1) v8_2.toNatClampNeg (x1.toInt64)))) H := hP
    have hD : va_D A (wMO tC a (sMO_told mo_1 (vp_updL (MO_told mo_1) v8_2.toNatClampNeg (x1.toInt64)))) := hD
    refine lv_aload_n hx hb d_MO_tell_72 rfl (lv_at hl 1 rfl) ?_
    refine va_get (D := (dC, dI)) (ci := 8) (v := .ref (a 18)) (C := R_MO) (T := F_MO) (N := 42) hx hb hts (in_MO _) hown hK hP 0 rfl rfl 32 (by decide) (hts _ (List.mem_cons_of_mem _ mw_724)) (fun _ h9 => h9) rfl d_MO_tell_73 ?_
    refine lv_iload hx hb d_MO_tell_76 (lv_at hl 0 rfl) ?_
    refine lv_iconst (v := 1) hx hb d_MO_tell_78 (by decide) ?_
    refine lv_iadd hx hb d_MO_tell_79 ?_
    refine lv_lload_n hx hb d_MO_tell_80 rfl (lv_at hl 3 rfl) ?_
    obtain ⟨ck_3, hf⟩ := g_ck hf
    refine va_last (D := (dC, dI)) hx hb hK hP hD hS 18 1 rfl rfl ck_3 d_MO_tell_81 (fun H locs hP hD hS => ?_)
    have hP : va_P (dC, dI) classes (wMO tC a (sMO_told mo_1 (vp_updL (vp_updL (MO_told mo_1) v8_2.toNatClampNeg (x1.toInt64)) (v8_2 + 1).toNatClampNeg x2))) H := hP
    have hD : va_D A (wMO tC a (sMO_told mo_1 (vp_updL (vp_updL (MO_told mo_1) v8_2.toNatClampNeg (x1.toInt64)) (v8_2 + 1).toNatClampNeg x2))) := hD
    refine lv_aload_n hx hb d_MO_tell_82 rfl (lv_at hl 1 rfl) ?_
    refine va_get (D := (dC, dI)) (ci := 8) (v := .ref (a 18)) (C := R_MO) (T := F_MO) (N := 42) hx hb hts (in_MO _) hown hK hP 0 rfl rfl 32 (by decide) (hts _ (List.mem_cons_of_mem _ mw_724)) (fun _ h9 => h9) rfl d_MO_tell_83 ?_
    refine lv_iload hx hb d_MO_tell_86 (lv_at hl 0 rfl) ?_
    refine lv_iconst (v := 2) hx hb d_MO_tell_88 (by decide) ?_
    refine lv_iadd hx hb d_MO_tell_89 ?_
    refine lv_lload hx hb d_MO_tell_90 (lv_at hl 4 rfl) ?_
    obtain ⟨ck_4, hf⟩ := g_ck hf
    refine va_last (D := (dC, dI)) hx hb hK hP hD hS 18 1 rfl rfl ck_4 d_MO_tell_92 (fun H locs hP hD hS => ?_)
    have hP : va_P (dC, dI) classes (wMO tC a (sMO_told mo_1 (vp_updL (vp_updL (vp_updL (MO_told mo_1) v8_2.toNatClampNeg (x1.toInt64)) (v8_2 + 1).toNatClampNeg x2) (v8_2 + 2).toNatClampNeg x4))) H := hP
    have hD : va_D A (wMO tC a (sMO_told mo_1 (vp_updL (vp_updL (vp_updL (MO_told mo_1) v8_2.toNatClampNeg (x1.toInt64)) (v8_2 + 1).toNatClampNeg x2) (v8_2 + 2).toNatClampNeg x4))) := hD
    refine lv_aload_n hx hb d_MO_tell_93 rfl (lv_at hl 1 rfl) ?_
    refine va_get (D := (dC, dI)) (ci := 8) (v := .ref (a 18)) (C := R_MO) (T := F_MO) (N := 42) hx hb hts (in_MO _) hown hK hP 0 rfl rfl 32 (by decide) (hts _ (List.mem_cons_of_mem _ mw_724)) (fun _ h9 => h9) rfl d_MO_tell_94 ?_
    refine lv_iload hx hb d_MO_tell_97 (lv_at hl 0 rfl) ?_
    refine lv_iconst (v := 3) hx hb d_MO_tell_99 (by decide) ?_
    refine lv_iadd hx hb d_MO_tell_100 ?_
    refine lv_iload hx hb d_MO_tell_101 (lv_at hl 5 rfl) ?_
    refine lv_i2l hx hb d_MO_tell_103 rfl ?_
    obtain ⟨ck_5, hf⟩ := g_ck hf
    refine va_last (D := (dC, dI)) hx hb hK hP hD hS 18 1 rfl rfl ck_5 d_MO_tell_104 (fun H locs hP hD hS => ?_)
    have hP : va_P (dC, dI) classes (wMO tC a (sMO_told mo_1 (vp_updL (vp_updL (vp_updL (vp_updL (MO_told mo_1) v8_2.toNatClampNeg (x1.toInt64)) (v8_2 + 1).toNatClampNeg x2) (v8_2 + 2).toNatClampNeg x4) (v8_2 + 3).toNatClampNeg (x6.toInt64)))) H := hP
    have hD : va_D A (wMO tC a (sMO_told mo_1 (vp_updL (vp_updL (vp_updL (vp_updL (MO_told mo_1) v8_2.toNatClampNeg (x1.toInt64)) (v8_2 + 1).toNatClampNeg x2) (v8_2 + 2).toNatClampNeg x4) (v8_2 + 3).toNatClampNeg (x6.toInt64)))) := hD
    refine lv_iconst (v := 0) hx hb d_MO_tell_105 (by decide) ?_
    refine lv_istore (lv' := [(9, .int 0), (8, .int v8_2), (0, .ref (a 0)), (1, .int x1), (2, .long x2), (4, .long x4), (6, .int x6), (7, .int x7)]) hx hb d_MO_tell_106 hl (by decide) rfl (fun ls hl => ?_)
    obtain ⟨mo_5, h_mo_5⟩ : ∃ z : MOt, z = (sMO_told mo_1 (vp_updL (vp_updL (vp_updL (vp_updL (MO_told mo_1) v8_2.toNatClampNeg (x1.toInt64)) (v8_2 + 1).toNatClampNeg x2) (v8_2 + 2).toNatClampNeg x4) (v8_2 + 3).toNatClampNeg (x6.toInt64))) := ⟨_, rfl⟩
    have hf := g_let hf h_mo_5
    have hP : va_P (dC, dI) classes (wMO tC a mo_5) H := by rw [h_mo_5]; exact hP
    have hD : va_D A (wMO tC a mo_5) := by rw [h_mo_5]; exact hD
    have L_108 : ∀ (n : Nat) (v9 : Int32) (mo_6 : MOt) (mo_7 : MOt), f_MO_tell_L108 v8_2 n v9 mo_6 = some mo_7 → ∀ (H : Heap) (locs : List Loc) (ls : Array Slot), va_P (dC, dI) classes (wMO tC a mo_6) H → va_D A (wMO tC a mo_6) → va_S A s.heap H locs → lv_has ls 10 [(0, .ref (a 0)), (6, .int x6), (7, .int x7), (8, .int v8_2), (9, .int v9)] → (∀ (H : Heap) (locs : List Loc) (ls : Array Slot), va_P (dC, dI) classes (wMO tC a mo_7) H → va_D A (wMO tC a mo_7) → va_S A s.heap H locs → lv_has ls 10 [(0, .ref (a 0)), (6, .int x6), (7, .int x7), (8, .int v8_2)] → W p l e { frames := 0, cells := 0, slots := 0, locals := 0 } s m [.ref (a 0), .int x1, .long x2, .long x4, .int x6, .int x7].toArray below meth c H locs 0 0 (cx_Z (dC, dI) classes below [.ref (a 0), .int x1, .long x2, .long x4, .int x6, .int x7] s (wMO tC a moR) (none) A) (F0 m 139 ls [])) → W p l e { frames := 0, cells := 0, slots := 0, locals := 0 } s m [.ref (a 0), .int x1, .long x2, .long x4, .int x6, .int x7].toArray below meth c H locs 0 0 (cx_Z (dC, dI) classes below [.ref (a 0), .int x1, .long x2, .long x4, .int x6, .int x7] s (wMO tC a moR) (none) A) (F0 m 108 ls []) := by
      intro n
      induction n with
      | zero =>
        intro v9 mo_6 mo_7 hf
        rw [f_MO_tell_L108] at hf
        cases hf
      | succ n ih =>
        intro v9 mo_6 mo_7 hf H locs ls hP hD hS hl kk
        rw [f_MO_tell_L108] at hf
        refine lv_iload hx hb d_MO_tell_108 (lv_at hl 4 rfl) ?_
        refine lv_iconst (v := 5) hx hb d_MO_tell_110 (by decide) ?_
        refine lv_icmp_ge (tgt := 139) hx hb d_MO_tell_111 (by decide) (fun cb_2 => ?_) (fun cb_2 => ?_)
        · have hf := g_t hf cb_2
          have hq0 := (g_some hf)
          subst hq0
          exact kk _ _ _ hP hD hS (lv_sub hl [0, 1, 2, 3] rfl)
        · have hf := g_f hf cb_2
          refine lv_aload_n hx hb d_MO_tell_114 rfl (lv_at hl 0 rfl) ?_
          refine va_get (D := (dC, dI)) (ci := 8) (v := .ref (a 18)) (C := R_MO) (T := F_MO) (N := 42) hx hb hts (in_MO _) hown hK hP 0 rfl rfl 32 (by decide) (hts _ (List.mem_cons_of_mem _ mw_724)) (fun _ h9 => h9) rfl d_MO_tell_115 ?_
          refine lv_iload hx hb d_MO_tell_118 (lv_at hl 3 rfl) ?_
          refine lv_iconst (v := 4) hx hb d_MO_tell_120 (by decide) ?_
          refine lv_iadd hx hb d_MO_tell_121 ?_
          refine lv_iload hx hb d_MO_tell_122 (lv_at hl 4 rfl) ?_
          refine lv_iadd hx hb d_MO_tell_124 ?_
          refine lv_aload_n hx hb d_MO_tell_125 rfl (lv_at hl 0 rfl) ?_
          refine va_get (D := (dC, dI)) (ci := 8) (v := .ref (a 21)) (C := R_MO) (T := F_MO) (N := 42) hx hb hts (in_MO _) hown hK hP 0 rfl rfl 40 (by decide) (hts _ (List.mem_cons_of_mem _ mw_732)) (fun _ h9 => h9) rfl d_MO_tell_126 ?_
          refine lv_iload hx hb d_MO_tell_129 (lv_at hl 4 rfl) ?_
          obtain ⟨ck_6, hf⟩ := g_ck hf
          refine va_lald (D := (dC, dI)) hx hb hK hP 21 1 rfl rfl ck_6 d_MO_tell_131 ?_
          obtain ⟨ck_7, hf⟩ := g_ck hf
          refine va_last (D := (dC, dI)) hx hb hK hP hD hS 18 1 rfl rfl ck_7 d_MO_tell_132 (fun H locs hP hD hS => ?_)
          have hP : va_P (dC, dI) classes (wMO tC a (sMO_told mo_6 (vp_updL (MO_told mo_6) ((v8_2 + 4) + v9).toNatClampNeg (MO_got mo_6 v9.toNatClampNeg)))) H := hP
          have hD : va_D A (wMO tC a (sMO_told mo_6 (vp_updL (MO_told mo_6) ((v8_2 + 4) + v9).toNatClampNeg (MO_got mo_6 v9.toNatClampNeg)))) := hD
          obtain ⟨v9_1, h_v9_1⟩ : ∃ z : Int32, z = v9 + 1 := ⟨_, rfl⟩
          have hf := g_let hf h_v9_1
          refine lv_iinc (v := v9_1) (lv' := [(9, .int v9_1), (0, .ref (a 0)), (6, .int x6), (7, .int x7), (8, .int v8_2)]) hx hb d_MO_tell_133 hl (k := 4) rfl (by rw [h_v9_1]; rfl) (by decide) rfl (fun ls hl => ?_)
          refine lv_goto (tgt := 108) hx hb d_MO_tell_136 (by decide) ?_
          obtain ⟨mo_8, h_mo_8⟩ : ∃ z : MOt, z = (sMO_told mo_6 (vp_updL (MO_told mo_6) ((v8_2 + 4) + v9).toNatClampNeg (MO_got mo_6 v9.toNatClampNeg))) := ⟨_, rfl⟩
          have hf := g_let hf h_mo_8
          have hP : va_P (dC, dI) classes (wMO tC a mo_8) H := by rw [h_mo_8]; exact hP
          have hD : va_D A (wMO tC a mo_8) := by rw [h_mo_8]; exact hD
          exact ih v9_1 mo_8 mo_7 hf H locs ls hP hD hS (lv_sub hl [1, 2, 3, 4, 0] rfl) kk
    obtain ⟨mo_7, hL_108, hf⟩ := g_bind hf
    try dsimp only at hf
    refine L_108 k 0 mo_5 mo_7 hL_108 H locs ls hP hD hS (lv_sub hl [2, 6, 7, 1, 0] rfl) (fun H locs ls hP hD hS hl => ?_)
    refine lv_aload_n hx hb d_MO_tell_139 rfl (lv_at hl 0 rfl) ?_
    refine va_get (D := (dC, dI)) (ci := 8) (v := .ref (a 18)) (C := R_MO) (T := F_MO) (N := 42) hx hb hts (in_MO _) hown hK hP 0 rfl rfl 32 (by decide) (hts _ (List.mem_cons_of_mem _ mw_724)) (fun _ h9 => h9) rfl d_MO_tell_140 ?_
    refine lv_iload hx hb d_MO_tell_143 (lv_at hl 3 rfl) ?_
    refine lv_bipush (v := 9) hx hb d_MO_tell_145 (by decide) ?_
    refine lv_iadd hx hb d_MO_tell_147 ?_
    refine lv_iload hx hb d_MO_tell_148 (lv_at hl 2 rfl) ?_
    refine lv_i2l hx hb d_MO_tell_150 rfl ?_
    obtain ⟨ck_8, hf⟩ := g_ck hf
    refine va_last (D := (dC, dI)) hx hb hK hP hD hS 18 1 rfl rfl ck_8 d_MO_tell_151 (fun H locs hP hD hS => ?_)
    have hP : va_P (dC, dI) classes (wMO tC a (sMO_told mo_7 (vp_updL (MO_told mo_7) (v8_2 + 9).toNatClampNeg (x7.toInt64)))) H := hP
    have hD : va_D A (wMO tC a (sMO_told mo_7 (vp_updL (MO_told mo_7) (v8_2 + 9).toNatClampNeg (x7.toInt64)))) := hD
    refine lv_aload_n hx hb d_MO_tell_152 rfl (lv_at hl 0 rfl) ?_
    refine lv_dup hx hb d_MO_tell_153 rfl ?_
    refine va_get (D := (dC, dI)) (ci := 8) (v := .int (MO_kept mo_7)) (C := R_MO) (T := F_MO) (N := 42) hx hb hts (in_MO _) hown hK hP 0 rfl rfl 33 (by decide) (hts _ (List.mem_cons_of_mem _ mw_725)) (fun _ h9 => h9) rfl d_MO_tell_154 ?_
    refine lv_iconst (v := 1) hx hb d_MO_tell_157 (by decide) ?_
    refine lv_iadd hx hb d_MO_tell_158 ?_
    refine va_put (D := (dC, dI)) (ci := 8) (v := .int ((MO_kept mo_7) + 1)) (ty := .int) (C := R_MO) (T := F_MO) (N := 42) hx hb hts (in_MO _) t_MO t_MO_ok n_MO hown hK hP hD hS 0 rfl rfl 33 (by decide) (hts _ (List.mem_cons_of_mem _ mw_725)) (fun _ h9 => h9) rfl (by decide +kernel) rfl rfl (Nat.le_of_ble_eq_true rfl) d_MO_tell_159 (fun H locs hP hD hS => ?_)
    have hP : va_P (dC, dI) classes (wMO tC a (sMO_kept (sMO_told mo_7 (vp_updL (MO_told mo_7) (v8_2 + 9).toNatClampNeg (x7.toInt64))) ((MO_kept mo_7) + 1))) H := hP
    have hD : va_D A (wMO tC a (sMO_kept (sMO_told mo_7 (vp_updL (MO_told mo_7) (v8_2 + 9).toNatClampNeg (x7.toInt64))) ((MO_kept mo_7) + 1))) := hD
    refine lv_aload_n hx hb d_MO_tell_162 rfl (lv_at hl 0 rfl) ?_
    refine lv_dup hx hb d_MO_tell_163 rfl ?_
    refine va_get (D := (dC, dI)) (ci := 8) (v := .int (MO_firings mo_7)) (C := R_MO) (T := F_MO) (N := 42) hx hb hts (in_MO _) hown hK hP 0 rfl rfl 34 (by decide) (hts _ (List.mem_cons_of_mem _ mw_726)) (fun _ h9 => h9) rfl d_MO_tell_164 ?_
    refine lv_iconst (v := 1) hx hb d_MO_tell_167 (by decide) ?_
    refine lv_iadd hx hb d_MO_tell_168 ?_
    refine va_put (D := (dC, dI)) (ci := 8) (v := .int ((MO_firings mo_7) + 1)) (ty := .int) (C := R_MO) (T := F_MO) (N := 42) hx hb hts (in_MO _) t_MO t_MO_ok n_MO hown hK hP hD hS 0 rfl rfl 34 (by decide) (hts _ (List.mem_cons_of_mem _ mw_726)) (fun _ h9 => h9) rfl (by decide +kernel) rfl rfl (Nat.le_of_ble_eq_true rfl) d_MO_tell_169 (fun H locs hP hD hS => ?_)
    have hP : va_P (dC, dI) classes (wMO tC a (sMO_firings (sMO_kept (sMO_told mo_7 (vp_updL (MO_told mo_7) (v8_2 + 9).toNatClampNeg (x7.toInt64))) ((MO_kept mo_7) + 1)) ((MO_firings mo_7) + 1))) H := hP
    have hD : va_D A (wMO tC a (sMO_firings (sMO_kept (sMO_told mo_7 (vp_updL (MO_told mo_7) (v8_2 + 9).toNatClampNeg (x7.toInt64))) ((MO_kept mo_7) + 1)) ((MO_firings mo_7) + 1))) := hD
    refine lv_aload_n hx hb d_MO_tell_172 rfl (lv_at hl 0 rfl) ?_
    refine lv_dup hx hb d_MO_tell_173 rfl ?_
    refine va_get (D := (dC, dI)) (ci := 8) (v := .int (MO_early mo_7)) (C := R_MO) (T := F_MO) (N := 42) hx hb hts (in_MO _) hown hK hP 0 rfl rfl 35 (by decide) (hts _ (List.mem_cons_of_mem _ mw_727)) (fun _ h9 => h9) rfl d_MO_tell_174 ?_
    refine lv_iload hx hb d_MO_tell_177 (lv_at hl 1 rfl) ?_
    obtain ⟨mo_9, h_mo_9⟩ : ∃ z : MOt, z = (sMO_firings (sMO_kept (sMO_told mo_7 (vp_updL (MO_told mo_7) (v8_2 + 9).toNatClampNeg (x7.toInt64))) ((MO_kept mo_7) + 1)) ((MO_firings mo_7) + 1)) := ⟨_, rfl⟩
    have hf := g_let hf h_mo_9
    have hP : va_P (dC, dI) classes (wMO tC a mo_9) H := by rw [h_mo_9]; exact hP
    have hD : va_D A (wMO tC a mo_9) := by rw [h_mo_9]; exact hD
    obtain ⟨t, hB_187⟩ : ∃ z : Int32, z = f_MO_tell_B179 x6 := ⟨_, rfl⟩
    have hf := g_let hf hB_187
    have hB_187 := hB_187.symm
    try dsimp only at hf
    have K_187 : ∀ (H : Heap) (locs : List Loc) (ls : Array Slot), va_P (dC, dI) classes (wMO tC a mo_9) H → va_D A (wMO tC a mo_9) → va_S A s.heap H locs → lv_has ls 10 [(0, .ref (a 0)), (6, .int x6)] → W p l e { frames := 0, cells := 0, slots := 0, locals := 0 } s m [.ref (a 0), .int x1, .long x2, .long x4, .int x6, .int x7].toArray below meth c H locs 0 0 (cx_Z (dC, dI) classes below [.ref (a 0), .int x1, .long x2, .long x4, .int x6, .int x7] s (wMO tC a moR) (none) A) (F0 m 187 ls [.int t, .int (MO_early mo_7), .ref (a 0)]) := by
      intro H locs ls hP hD hS hl
      refine lv_iadd hx hb d_MO_tell_187 ?_
      refine va_put (D := (dC, dI)) (ci := 8) (v := .int ((MO_early mo_7) + t)) (ty := .int) (C := R_MO) (T := F_MO) (N := 42) hx hb hts (in_MO _) t_MO t_MO_ok n_MO hown hK hP hD hS 0 rfl rfl 35 (by decide) (hts _ (List.mem_cons_of_mem _ mw_727)) (fun _ h9 => h9) rfl (by decide +kernel) rfl rfl (Nat.le_of_ble_eq_true rfl) d_MO_tell_188 (fun H locs hP hD hS => ?_)
      have hP : va_P (dC, dI) classes (wMO tC a (sMO_early mo_9 ((MO_early mo_7) + t))) H := hP
      have hD : va_D A (wMO tC a (sMO_early mo_9 ((MO_early mo_7) + t))) := hD
      refine lv_aload_n hx hb d_MO_tell_191 rfl (lv_at hl 0 rfl) ?_
      refine lv_dup hx hb d_MO_tell_192 rfl ?_
      refine va_get (D := (dC, dI)) (ci := 8) (v := .int (MO_lately mo_9)) (C := R_MO) (T := F_MO) (N := 42) hx hb hts (in_MO _) hown hK hP 0 rfl rfl 36 (by decide) (hts _ (List.mem_cons_of_mem _ mw_728)) (fun _ h9 => h9) rfl d_MO_tell_193 ?_
      refine lv_iload hx hb d_MO_tell_196 (lv_at hl 1 rfl) ?_
      refine lv_iconst (v := 2) hx hb d_MO_tell_198 (by decide) ?_
      refine lv_icmp_ne (tgt := 206) hx hb d_MO_tell_199 (by decide) (fun cb_4 => ?_) (fun cb_4 => ?_)
      · have hf := g_f hf cb_4
        refine lv_iconst (v := 0) hx hb d_MO_tell_206 (by decide) ?_
        refine lv_iadd hx hb d_MO_tell_207 ?_
        refine va_put (D := (dC, dI)) (ci := 8) (v := .int ((MO_lately mo_9) + 0)) (ty := .int) (C := R_MO) (T := F_MO) (N := 42) hx hb hts (in_MO _) t_MO t_MO_ok n_MO hown hK hP hD hS 0 rfl rfl 36 (by decide) (hts _ (List.mem_cons_of_mem _ mw_728)) (fun _ h9 => h9) rfl (by decide +kernel) rfl rfl (Nat.le_of_ble_eq_true rfl) d_MO_tell_208 (fun H locs hP hD hS => ?_)
        have hP : va_P (dC, dI) classes (wMO tC a (sMO_lately (sMO_early mo_9 ((MO_early mo_7) + t)) ((MO_lately mo_9) + 0))) H := hP
        have hD : va_D A (wMO tC a (sMO_lately (sMO_early mo_9 ((MO_early mo_7) + t)) ((MO_lately mo_9) + 0))) := hD
        have hq0 := (g_some hf)
        subst hq0
        exact cx_vret hx hb hr hlocks hP hS d_MO_tell_211
      · have hf := g_t hf cb_4
        refine lv_iconst (v := 1) hx hb d_MO_tell_202 (by decide) ?_
        refine lv_goto (tgt := 207) hx hb d_MO_tell_203 (by decide) ?_
        refine lv_iadd hx hb d_MO_tell_207 ?_
        refine va_put (D := (dC, dI)) (ci := 8) (v := .int ((MO_lately mo_9) + 1)) (ty := .int) (C := R_MO) (T := F_MO) (N := 42) hx hb hts (in_MO _) t_MO t_MO_ok n_MO hown hK hP hD hS 0 rfl rfl 36 (by decide) (hts _ (List.mem_cons_of_mem _ mw_728)) (fun _ h9 => h9) rfl (by decide +kernel) rfl rfl (Nat.le_of_ble_eq_true rfl) d_MO_tell_208 (fun H locs hP hD hS => ?_)
        have hP : va_P (dC, dI) classes (wMO tC a (sMO_lately (sMO_early mo_9 ((MO_early mo_7) + t)) ((MO_lately mo_9) + 1))) H := hP
        have hD : va_D A (wMO tC a (sMO_lately (sMO_early mo_9 ((MO_early mo_7) + t)) ((MO_lately mo_9) + 1))) := hD
        have hq0 := (g_some hf)
        subst hq0
        exact cx_vret hx hb hr hlocks hP hS d_MO_tell_211
    have hf := hB_187
    unfold f_MO_tell_B179 at hf
    refine lv_if_ne (tgt := 186) hx hb d_MO_tell_179 (by decide) (fun cb_3 => ?_) (fun cb_3 => ?_)
    · have hf := g_f hf cb_3
      refine lv_iconst (v := 0) hx hb d_MO_tell_186 (by decide) ?_
      have hq0 := hf
      subst hq0
      exact K_187 _ _ _ hP hD hS (lv_sub hl [0, 1] rfl)
    · have hf := g_t hf cb_3
      refine lv_iconst (v := 1) hx hb d_MO_tell_182 (by decide) ?_
      refine lv_goto (tgt := 187) hx hb d_MO_tell_183 (by decide) ?_
      have hq0 := hf
      subst hq0
      exact K_187 _ _ _ hP hD hS (lv_sub hl [0, 1] rfl)
  have hf := hB_54
  unfold f_MO_tell_B7 at hf
  refine lv_icmp_ne (tgt := 54) hx hb d_MO_tell_7 (by decide) (fun cb => ?_) (fun cb => ?_)
  · have hf := g_f hf cb
    have hq0 := (g_some hf)
    subst hq0
    exact K_54 _ _ _ hP hD hS (lv_sub hl [0, 1, 2, 3, 4, 5] rfl)
  · have hf := g_t hf cb
    refine lv_iconst (v := 0) hx hb d_MO_tell_10 (by decide) ?_
    refine lv_istore (lv' := [(8, .int 0), (0, .ref (a 0)), (1, .int x1), (2, .long x2), (4, .long x4), (6, .int x6), (7, .int x7)]) hx hb d_MO_tell_11 hl (by decide) rfl (fun ls hl => ?_)
    have L_13 : ∀ (n : Nat) (v8 : Int32) (mo_2 : MOt) (mo_3 : MOt), f_MO_tell_L13 n v8 mo_2 = some mo_3 → ∀ (H : Heap) (locs : List Loc) (ls : Array Slot), va_P (dC, dI) classes (wMO tC a mo_2) H → va_D A (wMO tC a mo_2) → va_S A s.heap H locs → lv_has ls 10 [(0, .ref (a 0)), (1, .int x1), (2, .long x2), (4, .long x4), (6, .int x6), (7, .int x7), (8, .int v8)] → (∀ (H : Heap) (locs : List Loc) (ls : Array Slot), va_P (dC, dI) classes (wMO tC a mo_3) H → va_D A (wMO tC a mo_3) → va_S A s.heap H locs → lv_has ls 10 [(0, .ref (a 0)), (1, .int x1), (2, .long x2), (4, .long x4), (6, .int x6), (7, .int x7)] → W p l e { frames := 0, cells := 0, slots := 0, locals := 0 } s m [.ref (a 0), .int x1, .long x2, .long x4, .int x6, .int x7].toArray below meth c H locs 0 0 (cx_Z (dC, dI) classes below [.ref (a 0), .int x1, .long x2, .long x4, .int x6, .int x7] s (wMO tC a moR) (none) A) (F0 m 44 ls [])) → W p l e { frames := 0, cells := 0, slots := 0, locals := 0 } s m [.ref (a 0), .int x1, .long x2, .long x4, .int x6, .int x7].toArray below meth c H locs 0 0 (cx_Z (dC, dI) classes below [.ref (a 0), .int x1, .long x2, .long x4, .int x6, .int x7] s (wMO tC a moR) (none) A) (F0 m 13 ls []) := by
      intro n
      induction n with
      | zero =>
        intro v8 mo_2 mo_3 hf
        rw [f_MO_tell_L13] at hf
        cases hf
      | succ n ih =>
        intro v8 mo_2 mo_3 hf H locs ls hP hD hS hl kk
        rw [f_MO_tell_L13] at hf
        refine lv_iload hx hb d_MO_tell_13 (lv_at hl 6 rfl) ?_
        refine lv_sipush (v := 3990) hx hb d_MO_tell_15 (by decide) ?_
        refine lv_icmp_ge (tgt := 44) hx hb d_MO_tell_18 (by decide) (fun cb_1 => ?_) (fun cb_1 => ?_)
        · have hf := g_t hf cb_1
          have hq0 := (g_some hf)
          subst hq0
          exact kk _ _ _ hP hD hS (lv_sub hl [0, 1, 2, 3, 4, 5] rfl)
        · have hf := g_f hf cb_1
          refine lv_aload_n hx hb d_MO_tell_21 rfl (lv_at hl 0 rfl) ?_
          refine va_get (D := (dC, dI)) (ci := 8) (v := .ref (a 18)) (C := R_MO) (T := F_MO) (N := 42) hx hb hts (in_MO _) hown hK hP 0 rfl rfl 32 (by decide) (hts _ (List.mem_cons_of_mem _ mw_724)) (fun _ h9 => h9) rfl d_MO_tell_22 ?_
          refine lv_iload hx hb d_MO_tell_25 (lv_at hl 6 rfl) ?_
          refine lv_aload_n hx hb d_MO_tell_27 rfl (lv_at hl 0 rfl) ?_
          refine va_get (D := (dC, dI)) (ci := 8) (v := .ref (a 18)) (C := R_MO) (T := F_MO) (N := 42) hx hb hts (in_MO _) hown hK hP 0 rfl rfl 32 (by decide) (hts _ (List.mem_cons_of_mem _ mw_724)) (fun _ h9 => h9) rfl d_MO_tell_28 ?_
          refine lv_iload hx hb d_MO_tell_31 (lv_at hl 6 rfl) ?_
          refine lv_bipush (v := 10) hx hb d_MO_tell_33 (by decide) ?_
          refine lv_iadd hx hb d_MO_tell_35 ?_
          obtain ⟨ck, hf⟩ := g_ck hf
          refine va_lald (D := (dC, dI)) hx hb hK hP 18 1 rfl rfl ck d_MO_tell_36 ?_
          obtain ⟨ck_1, hf⟩ := g_ck hf
          refine va_last (D := (dC, dI)) hx hb hK hP hD hS 18 1 rfl rfl ck_1 d_MO_tell_37 (fun H locs hP hD hS => ?_)
          have hP : va_P (dC, dI) classes (wMO tC a (sMO_told mo_2 (vp_updL (MO_told mo_2) v8.toNatClampNeg (MO_told mo_2 (v8 + 10).toNatClampNeg)))) H := hP
          have hD : va_D A (wMO tC a (sMO_told mo_2 (vp_updL (MO_told mo_2) v8.toNatClampNeg (MO_told mo_2 (v8 + 10).toNatClampNeg)))) := hD
          obtain ⟨v8_1, h_v8_1⟩ : ∃ z : Int32, z = v8 + 1 := ⟨_, rfl⟩
          have hf := g_let hf h_v8_1
          refine lv_iinc (v := v8_1) (lv' := [(8, .int v8_1), (0, .ref (a 0)), (1, .int x1), (2, .long x2), (4, .long x4), (6, .int x6), (7, .int x7)]) hx hb d_MO_tell_38 hl (k := 6) rfl (by rw [h_v8_1]; rfl) (by decide) rfl (fun ls hl => ?_)
          refine lv_goto (tgt := 13) hx hb d_MO_tell_41 (by decide) ?_
          obtain ⟨mo_4, h_mo_4⟩ : ∃ z : MOt, z = (sMO_told mo_2 (vp_updL (MO_told mo_2) v8.toNatClampNeg (MO_told mo_2 (v8 + 10).toNatClampNeg))) := ⟨_, rfl⟩
          have hf := g_let hf h_mo_4
          have hP : va_P (dC, dI) classes (wMO tC a mo_4) H := by rw [h_mo_4]; exact hP
          have hD : va_D A (wMO tC a mo_4) := by rw [h_mo_4]; exact hD
          exact ih v8_1 mo_4 mo_3 hf H locs ls hP hD hS (lv_sub hl [1, 2, 3, 4, 5, 6, 0] rfl) kk
    obtain ⟨mo_3, hL_13, hf⟩ := g_bind hf
    try dsimp only at hf
    refine L_13 k 0 mo mo_3 hL_13 H locs ls hP hD hS (lv_sub hl [1, 2, 3, 4, 5, 6, 0] rfl) (fun H locs ls hP hD hS hl => ?_)
    refine lv_aload_n hx hb d_MO_tell_44 rfl (lv_at hl 0 rfl) ?_
    refine lv_dup hx hb d_MO_tell_45 rfl ?_
    refine va_get (D := (dC, dI)) (ci := 8) (v := .int (MO_kept mo_3)) (C := R_MO) (T := F_MO) (N := 42) hx hb hts (in_MO _) hown hK hP 0 rfl rfl 33 (by decide) (hts _ (List.mem_cons_of_mem _ mw_725)) (fun _ h9 => h9) rfl d_MO_tell_46 ?_
    refine lv_iconst (v := 1) hx hb d_MO_tell_49 (by decide) ?_
    refine lv_isub hx hb d_MO_tell_50 ?_
    refine va_put (D := (dC, dI)) (ci := 8) (v := .int ((MO_kept mo_3) - 1)) (ty := .int) (C := R_MO) (T := F_MO) (N := 42) hx hb hts (in_MO _) t_MO t_MO_ok n_MO hown hK hP hD hS 0 rfl rfl 33 (by decide) (hts _ (List.mem_cons_of_mem _ mw_725)) (fun _ h9 => h9) rfl (by decide +kernel) rfl rfl (Nat.le_of_ble_eq_true rfl) d_MO_tell_51 (fun H locs hP hD hS => ?_)
    have hP : va_P (dC, dI) classes (wMO tC a (sMO_kept mo_3 ((MO_kept mo_3) - 1))) H := hP
    have hD : va_D A (wMO tC a (sMO_kept mo_3 ((MO_kept mo_3) - 1))) := hD
    have hq0 := (g_some hf)
    subst hq0
    exact K_54 _ _ _ hP hD hS (lv_sub hl [0, 1, 2, 3, 4, 5] rfl)
