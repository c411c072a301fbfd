def f_CO_clear (co : COt) : COt :=
  (sCO_mix (sCO_greatest (sCO_least (sCO_sum (sCO_rows co 0) 0) 0) 0) 0)
set_option maxHeartbeats 4000000 in
set_option maxRecDepth 100000 in
theorem c_CO_clear (l : Launch) (dC : Nat → ClassId) (dI : Nat → Nat → Nat) (tC : Nat → ClassId) (a : Nat → Nat) (co : COt) (coR : COt) (hf : f_CO_clear co = coR) : cx_M l y_CO_clear w_CO_clear { frames := 0, cells := 0, slots := 0, locals := 0 } (dC, dI) classes (tyS tC) [.ref (a 0)] (wCO tC a co) (wCO tC a coR) (none) := by
  refine cx_of (cc := b_CO_clear) (maxL := 1) (ret := none) (plainFor_of_name (by decide)) rfl (Nat.le_of_ble_eq_true rfl) ?_
  intro p e s m below meth c hx hb hr hml hown hts hlocks A hA H locs ls hK hN hP hD hS hl
  have hown : s.vm.findClass R_CO = some m.cls := hown
  have hl : lv_has ls 1 [(0, .ref (a 0))] := hl
  unfold f_CO_clear at hf
  refine lv_aload_n hx hb d_CO_clear_0 rfl (lv_at hl 0 rfl) ?_
  refine lv_iconst (v := 0) hx hb d_CO_clear_1 (by decide) ?_
  refine va_put (D := (dC, dI)) (ci := 7) (v := .int 0) (ty := .int) (C := R_CO) (T := F_CO) (N := 5) hx hb hts (in_CO _) t_CO t_CO_ok n_CO hown hK hP hD hS 0 rfl rfl 0 (by decide) (hts _ (List.mem_cons_of_mem _ mw_172)) (fun _ h9 => h9) rfl (by decide +kernel) rfl rfl (Nat.le_of_ble_eq_true rfl) d_CO_clear_2 (fun H locs hP hD hS => ?_)
  have hP : va_P (dC, dI) classes (wCO tC a (sCO_rows co 0)) H := hP
  have hD : va_D A (wCO tC a (sCO_rows co 0)) := hD
  refine lv_aload_n hx hb d_CO_clear_5 rfl (lv_at hl 0 rfl) ?_
  refine lv_lconst (v := 0) hx hb d_CO_clear_6 (by decide) ?_
  refine va_put (D := (dC, dI)) (ci := 7) (v := .long 0) (ty := .long) (C := R_CO) (T := F_CO) (N := 5) hx hb hts (in_CO _) t_CO t_CO_ok n_CO hown hK hP hD hS 0 rfl rfl 1 (by decide) (hts _ (List.mem_cons_of_mem _ mw_173)) (fun _ h9 => h9) rfl (by decide +kernel) rfl rfl (Nat.le_of_ble_eq_true rfl) d_CO_clear_7 (fun H locs hP hD hS => ?_)
  have hP : va_P (dC, dI) classes (wCO tC a (sCO_sum (sCO_rows co 0) 0)) H := hP
  have hD : va_D A (wCO tC a (sCO_sum (sCO_rows co 0) 0)) := hD
  refine lv_aload_n hx hb d_CO_clear_10 rfl (lv_at hl 0 rfl) ?_
  refine lv_lconst (v := 0) hx hb d_CO_clear_11 (by decide) ?_
  refine va_put (D := (dC, dI)) (ci := 7) (v := .long 0) (ty := .long) (C := R_CO) (T := F_CO) (N := 5) hx hb hts (in_CO _) t_CO t_CO_ok n_CO hown hK hP hD hS 0 rfl rfl 2 (by decide) (hts _ (List.mem_cons_of_mem _ mw_174)) (fun _ h9 => h9) rfl (by decide +kernel) rfl rfl (Nat.le_of_ble_eq_true rfl) d_CO_clear_12 (fun H locs hP hD hS => ?_)
  have hP : va_P (dC, dI) classes (wCO tC a (sCO_least (sCO_sum (sCO_rows co 0) 0) 0)) H := hP
  have hD : va_D A (wCO tC a (sCO_least (sCO_sum (sCO_rows co 0) 0) 0)) := hD
  refine lv_aload_n hx hb d_CO_clear_15 rfl (lv_at hl 0 rfl) ?_
  refine lv_lconst (v := 0) hx hb d_CO_clear_16 (by decide) ?_
  refine va_put (D := (dC, dI)) (ci := 7) (v := .long 0) (ty := .long) (C := R_CO) (T := F_CO) (N := 5) hx hb hts (in_CO _) t_CO t_CO_ok n_CO hown hK hP hD hS 0 rfl rfl 3 (by decide) (hts _ (List.mem_cons_of_mem _ mw_175)) (fun _ h9 => h9) rfl (by decide +kernel) rfl rfl (Nat.le_of_ble_eq_true rfl) d_CO_clear_17 (fun H locs hP hD hS => ?_)
  have hP : va_P (dC, dI) classes (wCO tC a (sCO_greatest (sCO_least (sCO_sum (sCO_rows co 0) 0) 0) 0)) H := hP
  have hD : va_D A (wCO tC a (sCO_greatest (sCO_least (sCO_sum (sCO_rows co 0) 0) 0) 0)) := hD
  refine lv_aload_n hx hb d_CO_clear_20 rfl (lv_at hl 0 rfl) ?_
  refine lv_lconst (v := 0) hx hb d_CO_clear_21 (by decide) ?_
  refine va_put (D := (dC, dI)) (ci := 7) (v := .long 0) (ty := .long) (C := R_CO) (T := F_CO) (N := 5) hx hb hts (in_CO _) t_CO t_CO_ok n_CO hown hK hP hD hS 0 rfl rfl 4 (by decide) (hts _ (List.mem_cons_of_mem _ mw_176)) (fun _ h9 => h9) rfl (by decide +kernel) rfl rfl (Nat.le_of_ble_eq_true rfl) d_CO_clear_22 (fun H locs hP hD hS => ?_)
  have hP : va_P (dC, dI) classes (wCO tC a (sCO_mix (sCO_greatest (sCO_least (sCO_sum (sCO_rows co 0) 0) 0) 0) 0)) H := hP
  have hD : va_D A (wCO tC a (sCO_mix (sCO_greatest (sCO_least (sCO_sum (sCO_rows co 0) 0) 0) 0) 0)) := hD
  have hq0 := hf
  subst hq0
  exact cx_vret hx hb hr hlocks hP hS d_CO_clear_25
def f_CO_add_B5 (x1 : Int64) (co : COt) : Int64 :=
  if (CO_rows co) = 0 then (
    x1
  ) else
  (if x1 < (CO_least co) then x1 else (CO_least co))
def f_CO_add_B28 (x1 : Int64) (co : COt) (co_1 : COt) : Int64 :=
  if (CO_rows co) = 0 then (
    x1
  ) else
  (if x1 < (CO_greatest co_1) then (CO_greatest co_1) else x1)
def f_CO_add (x1 : Int64) (co : COt) : COt :=
  gl_let (f_CO_add_B5 x1 co) fun t =>
  gl_let ((sCO_least co t) : COt) fun co_1 =>
  gl_let (f_CO_add_B28 x1 co co_1) fun t_1 =>
  (sCO_mix (sCO_greatest (sCO_sum (sCO_rows co_1 ((CO_rows co_1) + 1)) ((CO_sum co_1) + x1)) t_1) ((31 * (CO_mix co_1)) + x1))
set_option maxHeartbeats 4000000 in
set_option maxRecDepth 100000 in
theorem c_CO_add (l : Launch) (dC : Nat → ClassId) (dI : Nat → Nat → Nat) (tC : Nat → ClassId) (a : Nat → Nat) (x1 : Int64) (co : COt) (coR : COt) (hf : f_CO_add x1 co = coR) : cx_M l y_CO_add w_CO_add { frames := 1, cells := 0, slots := 0, locals := 24 } (dC, dI) classes (tyS tC) [.ref (a 0), .long x1] (wCO tC a co) (wCO tC a coR) (none) := by
  refine cx_of (cc := b_CO_add) (maxL := 3) (ret := none) (plainFor_of_name (by decide)) rfl (Nat.le_of_ble_eq_true rfl) ?_
  intro p e s m below meth c hx hb hr hml hown hts hlocks A hA H locs ls hK hN hP hD hS hl
  have hown : s.vm.findClass R_CO = some m.cls := hown
  have hl : lv_has ls 3 [(0, .ref (a 0)), (1, .long x1)] := hl
  unfold f_CO_add at hf
  refine lv_aload_n hx hb d_CO_add_0 rfl (lv_at hl 0 rfl) ?_
  refine lv_aload_n hx hb d_CO_add_1 rfl (lv_at hl 0 rfl) ?_
  refine va_get (D := (dC, dI)) (ci := 7) (v := .int (CO_rows co)) (C := R_CO) (T := F_CO) (N := 5) hx hb hts (in_CO _) hown hK hP 0 rfl rfl 0 (by decide) (hts _ (List.mem_cons_of_mem _ mw_172)) (fun _ h9 => h9) rfl d_CO_add_2 ?_
  obtain ⟨t, hB_20⟩ : ∃ z : Int64, z = f_CO_add_B5 x1 co := ⟨_, rfl⟩
  have hf := g_let hf hB_20
  have hB_20 := hB_20.symm
  try dsimp only at hf
  have K_20 : ∀ (H : Heap) (locs : List Loc) (ls : Array Slot), va_P (dC, dI) classes (wCO tC a co) H → va_D A (wCO tC a co) → va_S A s.heap H locs → lv_has ls 3 [(0, .ref (a 0)), (1, .long x1)] → W p l e { frames := 1, cells := 0, slots := 0, locals := 24 } s m [.ref (a 0), .long x1].toArray below meth c H locs 0 0 (cx_Z (dC, dI) classes below [.ref (a 0), .long x1] s (wCO tC a coR) (none) A) (F0 m 20 ls [.long t, .ref (a 0)]) := by
    intro H locs ls hP hD hS hl
    refine va_put (D := (dC, dI)) (ci := 7) (v := .long t) (ty := .long) (C := R_CO) (T := F_CO) (N := 5) hx hb hts (in_CO _) t_CO t_CO_ok n_CO hown hK hP hD hS 0 rfl rfl 2 (by decide) (hts _ (List.mem_cons_of_mem _ mw_174)) (fun _ h9 => h9) rfl (by decide +kernel) rfl rfl (Nat.le_of_ble_eq_true rfl) d_CO_add_20 (fun H locs hP hD hS => ?_)
    have hP : va_P (dC, dI) classes (wCO tC a (sCO_least co t)) H := hP
    have hD : va_D A (wCO tC a (sCO_least co t)) := hD
    refine lv_aload_n hx hb d_CO_add_23 rfl (lv_at hl 0 rfl) ?_
    refine lv_aload_n hx hb d_CO_add_24 rfl (lv_at hl 0 rfl) ?_
    refine va_get (D := (dC, dI)) (ci := 7) (v := .int (CO_rows co)) (C := R_CO) (T := F_CO) (N := 5) hx hb hts (in_CO _) hown hK hP 0 rfl rfl 0 (by decide) (hts _ (List.mem_cons_of_mem _ mw_172)) (fun _ h9 => h9) rfl d_CO_add_25 ?_
    obtain ⟨co_1, h_co_1⟩ : ∃ z : COt, z = (sCO_least co t) := ⟨_, rfl⟩
    have hf := g_let hf h_co_1
    have hP : va_P (dC, dI) classes (wCO tC a co_1) H := by rw [h_co_1]; exact hP
    have hD : va_D A (wCO tC a co_1) := by rw [h_co_1]; exact hD
    obtain ⟨t_1, hB_43⟩ : ∃ z : Int64, z = f_CO_add_B28 x1 co co_1 := ⟨_, rfl⟩
    have hf := g_let hf hB_43
    have hB_43 := hB_43.symm
    try dsimp only at hf
    have K_43 : ∀ (H : Heap) (locs : List Loc) (ls : Array Slot), va_P (dC, dI) classes (wCO tC a co_1) H → va_D A (wCO tC a co_1) → va_S A s.heap H locs → lv_has ls 3 [(0, .ref (a 0)), (1, .long x1)] → W p l e { frames := 1, cells := 0, slots := 0, locals := 24 } s m [.ref (a 0), .long x1].toArray below meth c H locs 0 0 (cx_Z (dC, dI) classes below [.ref (a 0), .long x1] s (wCO tC a coR) (none) A) (F0 m 43 ls [.long t_1, .ref (a 0)]) := by
      intro H locs ls hP hD hS hl
      refine va_put (D := (dC, dI)) (ci := 7) (v := .long t_1) (ty := .long) (C := R_CO) (T := F_CO) (N := 5) hx hb hts (in_CO _) t_CO t_CO_ok n_CO hown hK hP hD hS 0 rfl rfl 3 (by decide) (hts _ (List.mem_cons_of_mem _ mw_175)) (fun _ h9 => h9) rfl (by decide +kernel) rfl rfl (Nat.le_of_ble_eq_true rfl) d_CO_add_43 (fun H locs hP hD hS => ?_)
      have hP : va_P (dC, dI) classes (wCO tC a (sCO_greatest co_1 t_1)) H := hP
      have hD : va_D A (wCO tC a (sCO_greatest co_1 t_1)) := hD
      refine lv_aload_n hx hb d_CO_add_46 rfl (lv_at hl 0 rfl) ?_
      refine lv_dup hx hb d_CO_add_47 rfl ?_
      refine va_get (D := (dC, dI)) (ci := 7) (v := .int (CO_rows co_1)) (C := R_CO) (T := F_CO) (N := 5) hx hb hts (in_CO _) hown hK hP 0 rfl rfl 0 (by decide) (hts _ (List.mem_cons_of_mem _ mw_172)) (fun _ h9 => h9) rfl d_CO_add_48 ?_
      refine lv_iconst (v := 1) hx hb d_CO_add_51 (by decide) ?_
      refine lv_iadd hx hb d_CO_add_52 ?_
      refine va_put (D := (dC, dI)) (ci := 7) (v := .int ((CO_rows co_1) + 1)) (ty := .int) (C := R_CO) (T := F_CO) (N := 5) hx hb hts (in_CO _) t_CO t_CO_ok n_CO hown hK hP hD hS 0 rfl rfl 0 (by decide) (hts _ (List.mem_cons_of_mem _ mw_172)) (fun _ h9 => h9) rfl (by decide +kernel) rfl rfl (Nat.le_of_ble_eq_true rfl) d_CO_add_53 (fun H locs hP hD hS => ?_)
      have hP : va_P (dC, dI) classes (wCO tC a (sCO_greatest (sCO_rows co_1 ((CO_rows co_1) + 1)) t_1)) H := hP
      have hD : va_D A (wCO tC a (sCO_greatest (sCO_rows co_1 ((CO_rows co_1) + 1)) t_1)) := hD
      refine lv_aload_n hx hb d_CO_add_56 rfl (lv_at hl 0 rfl) ?_
      refine lv_dup hx hb d_CO_add_57 rfl ?_
      refine va_get (D := (dC, dI)) (ci := 7) (v := .long (CO_sum co_1)) (C := R_CO) (T := F_CO) (N := 5) hx hb hts (in_CO _) hown hK hP 0 rfl rfl 1 (by decide) (hts _ (List.mem_cons_of_mem _ mw_173)) (fun _ h9 => h9) rfl d_CO_add_58 ?_
      refine lv_lload_n hx hb d_CO_add_61 rfl (lv_at hl 1 rfl) ?_
      refine lv_ladd hx hb d_CO_add_62 ?_
      refine va_put (D := (dC, dI)) (ci := 7) (v := .long ((CO_sum co_1) + x1)) (ty := .long) (C := R_CO) (T := F_CO) (N := 5) hx hb hts (in_CO _) t_CO t_CO_ok n_CO hown hK hP hD hS 0 rfl rfl 1 (by decide) (hts _ (List.mem_cons_of_mem _ mw_173)) (fun _ h9 => h9) rfl (by decide +kernel) rfl rfl (Nat.le_of_ble_eq_true rfl) d_CO_add_63 (fun H locs hP hD hS => ?_)
      have hP : va_P (dC, dI) classes (wCO tC a (sCO_greatest (sCO_sum (sCO_rows co_1 ((CO_rows co_1) + 1)) ((CO_sum co_1) + x1)) t_1)) H := hP
      have hD : va_D A (wCO tC a (sCO_greatest (sCO_sum (sCO_rows co_1 ((CO_rows co_1) + 1)) ((CO_sum co_1) + x1)) t_1)) := hD
      refine lv_aload_n hx hb d_CO_add_66 rfl (lv_at hl 0 rfl) ?_
      refine lv_ldc2 (v := 31) hx hb hown (hts _ (List.mem_cons_of_mem _ mw_353)) d_CO_add_67 ?_
      refine lv_aload_n hx hb d_CO_add_70 rfl (lv_at hl 0 rfl) ?_
      refine va_get (D := (dC, dI)) (ci := 7) (v := .long (CO_mix co_1)) (C := R_CO) (T := F_CO) (N := 5) hx hb hts (in_CO _) hown hK hP 0 rfl rfl 4 (by decide) (hts _ (List.mem_cons_of_mem _ mw_176)) (fun _ h9 => h9) rfl d_CO_add_71 ?_
      refine lv_lmul hx hb d_CO_add_74 ?_
      refine lv_lload_n hx hb d_CO_add_75 rfl (lv_at hl 1 rfl) ?_
      refine lv_ladd hx hb d_CO_add_76 ?_
      refine va_put (D := (dC, dI)) (ci := 7) (v := .long ((31 * (CO_mix co_1)) + x1)) (ty := .long) (C := R_CO) (T := F_CO) (N := 5) hx hb hts (in_CO _) t_CO t_CO_ok n_CO hown hK hP hD hS 0 rfl rfl 4 (by decide) (hts _ (List.mem_cons_of_mem _ mw_176)) (fun _ h9 => h9) rfl (by decide +kernel) rfl rfl (Nat.le_of_ble_eq_true rfl) d_CO_add_77 (fun H locs hP hD hS => ?_)
      have hP : va_P (dC, dI) classes (wCO tC a (sCO_mix (sCO_greatest (sCO_sum (sCO_rows co_1 ((CO_rows co_1) + 1)) ((CO_sum co_1) + x1)) t_1) ((31 * (CO_mix co_1)) + x1))) H := hP
      have hD : va_D A (wCO tC a (sCO_mix (sCO_greatest (sCO_sum (sCO_rows co_1 ((CO_rows co_1) + 1)) ((CO_sum co_1) + x1)) t_1) ((31 * (CO_mix co_1)) + x1))) := hD
      have hq0 := hf
      subst hq0
      exact cx_vret hx hb hr hlocks hP hS d_CO_add_80
    have hf := hB_43
    unfold f_CO_add_B28 at hf
    refine lv_if_ne (tgt := 35) hx hb d_CO_add_28 (by decide) (fun cb_1 => ?_) (fun cb_1 => ?_)
    · have hf := g_f hf cb_1
      refine lv_aload_n hx hb d_CO_add_35 rfl (lv_at hl 0 rfl) ?_
      refine va_get (D := (dC, dI)) (ci := 7) (v := .long (CO_greatest co_1)) (C := R_CO) (T := F_CO) (N := 5) hx hb hts (in_CO _) hown hK hP 0 rfl rfl 3 (by decide) (hts _ (List.mem_cons_of_mem _ mw_175)) (fun _ h9 => h9) rfl d_CO_add_36 ?_
      refine lv_lload_n hx hb d_CO_add_39 rfl (lv_at hl 1 rfl) ?_
      refine va_mmax_long hx hb (by rw [hml]; exact hl.1.symm) hown (hts _ (List.mem_cons_of_mem _ mw_350)) (hts _ (List.mem_cons_of_mem _ mw_351)) (hts _ (List.mem_cons_of_mem _ mw_14)) (hts _ (List.mem_cons_of_mem _ mw_352)) (Nat.le_of_ble_eq_true rfl) (Nat.le_of_ble_eq_true rfl) (Nat.zero_le _) (Nat.zero_le _) d_CO_add_40 ?_
      have hq0 := hf
      subst hq0
      exact K_43 _ _ _ hP hD hS (lv_sub hl [0, 1] rfl)
    · have hf := g_t hf cb_1
      refine lv_lload_n hx hb d_CO_add_31 rfl (lv_at hl 1 rfl) ?_
      refine lv_goto (tgt := 43) hx hb d_CO_add_32 (by decide) ?_
      have hq0 := hf
      subst hq0
      exact K_43 _ _ _ hP hD hS (lv_sub hl [0, 1] rfl)
  have hf := hB_20
  unfold f_CO_add_B5 at hf
  refine lv_if_ne (tgt := 12) hx hb d_CO_add_5 (by decide) (fun cb => ?_) (fun cb => ?_)
  · have hf := g_f hf cb
    refine lv_aload_n hx hb d_CO_add_12 rfl (lv_at hl 0 rfl) ?_
    refine va_get (D := (dC, dI)) (ci := 7) (v := .long (CO_least co)) (C := R_CO) (T := F_CO) (N := 5) hx hb hts (in_CO _) hown hK hP 0 rfl rfl 2 (by decide) (hts _ (List.mem_cons_of_mem _ mw_174)) (fun _ h9 => h9) rfl d_CO_add_13 ?_
    refine lv_lload_n hx hb d_CO_add_16 rfl (lv_at hl 1 rfl) ?_
    refine va_mmin_long hx hb (by rw [hml]; exact hl.1.symm) hown (hts _ (List.mem_cons_of_mem _ mw_347)) (hts _ (List.mem_cons_of_mem _ mw_348)) (hts _ (List.mem_cons_of_mem _ mw_14)) (hts _ (List.mem_cons_of_mem _ mw_349)) (Nat.le_of_ble_eq_true rfl) (Nat.le_of_ble_eq_true rfl) (Nat.zero_le _) (Nat.zero_le _) d_CO_add_17 ?_
    have hq0 := hf
    subst hq0
    exact K_20 _ _ _ hP hD hS (lv_sub hl [0, 1] rfl)
  · have hf := g_t hf cb
    refine lv_lload_n hx hb d_CO_add_8 rfl (lv_at hl 1 rfl) ?_
    refine lv_goto (tgt := 20) hx hb d_CO_add_9 (by decide) ?_
    have hq0 := hf
    subst hq0
    exact K_20 _ _ _ hP hD hS (lv_sub hl [0, 1] rfl)
def f_CO_part (x1 : Int32) (co : COt) : Int64 :=
  if x1 = 4 then (
    (CO_rows co).toInt64
  ) else
  if x1 = 5 then (
    (CO_sum co)
  ) else
  if x1 = 6 then (
    (CO_least co)
  ) else
  if x1 = 7 then (
    (CO_greatest co)
  ) else
  (CO_mix co)
set_option maxHeartbeats 4000000 in
set_option maxRecDepth 100000 in
theorem c_CO_part (l : Launch) (dC : Nat → ClassId) (dI : Nat → Nat → Nat) (tC : Nat → ClassId) (a : Nat → Nat) (x1 : Int32) (co : COt) (res : Int64) (hf : f_CO_part x1 co = res) : cx_M l y_CO_part w_CO_part { frames := 0, cells := 0, slots := 0, locals := 0 } (dC, dI) classes (tyS tC) [.ref (a 0), .int x1] (wCO tC a co) (wCO tC a co) (some (.long res)) := by
  refine cx_of (cc := b_CO_part) (maxL := 2) (ret := some .long) (plainFor_of_name (by decide)) rfl (Nat.le_of_ble_eq_true rfl) ?_
  intro p e s m below meth c hx hb hr hml hown hts hlocks A hA H locs ls hK hN hP hD hS hl
  have hown : s.vm.findClass R_CO = some m.cls := hown
  have hl : lv_has ls 2 [(0, .ref (a 0)), (1, .int x1)] := hl
  unfold f_CO_part at hf
  refine lv_iload_n hx hb d_CO_part_0 rfl (lv_at hl 1 rfl) ?_
  by_cases cb : x1 = 4
  · have hf := g_t hf cb
    refine lv_tableIn (tgt := 32) hx hb d_CO_part_1 (by rw [cb]; decide) (by rw [cb]; decide) (by rw [cb]; rfl) (by decide) ?_
    refine lv_aload_n hx hb d_CO_part_32 rfl (lv_at hl 0 rfl) ?_
    refine va_get (D := (dC, dI)) (ci := 7) (v := .int (CO_rows co)) (C := R_CO) (T := F_CO) (N := 5) hx hb hts (in_CO _) hown hK hP 0 rfl rfl 0 (by decide) (hts _ (List.mem_cons_of_mem _ mw_172)) (fun _ h9 => h9) rfl d_CO_part_33 ?_
    refine lv_i2l hx hb d_CO_part_36 rfl ?_
    have hq0 := hf
    subst hq0
    exact cx_lret hx hb hr hlocks hP hS d_CO_part_37
  have hf := g_f hf cb
  by_cases cb_1 : x1 = 5
  · have hf := g_t hf cb_1
    refine lv_tableIn (tgt := 38) hx hb d_CO_part_1 (by rw [cb_1]; decide) (by rw [cb_1]; decide) (by rw [cb_1]; rfl) (by decide) ?_
    refine lv_aload_n hx hb d_CO_part_38 rfl (lv_at hl 0 rfl) ?_
    refine va_get (D := (dC, dI)) (ci := 7) (v := .long (CO_sum co)) (C := R_CO) (T := F_CO) (N := 5) hx hb hts (in_CO _) hown hK hP 0 rfl rfl 1 (by decide) (hts _ (List.mem_cons_of_mem _ mw_173)) (fun _ h9 => h9) rfl d_CO_part_39 ?_
    have hq0 := hf
    subst hq0
    exact cx_lret hx hb hr hlocks hP hS d_CO_part_42
  have hf := g_f hf cb_1
  by_cases cb_2 : x1 = 6
  · have hf := g_t hf cb_2
    refine lv_tableIn (tgt := 43) hx hb d_CO_part_1 (by rw [cb_2]; decide) (by rw [cb_2]; decide) (by rw [cb_2]; rfl) (by decide) ?_
    refine lv_aload_n hx hb d_CO_part_43 rfl (lv_at hl 0 rfl) ?_
    refine va_get (D := (dC, dI)) (ci := 7) (v := .long (CO_least co)) (C := R_CO) (T := F_CO) (N := 5) hx hb hts (in_CO _) hown hK hP 0 rfl rfl 2 (by decide) (hts _ (List.mem_cons_of_mem _ mw_174)) (fun _ h9 => h9) rfl d_CO_part_44 ?_
    have hq0 := hf
    subst hq0
    exact cx_lret hx hb hr hlocks hP hS d_CO_part_47
  have hf := g_f hf cb_2
  by_cases cb_3 : x1 = 7
  · have hf := g_t hf cb_3
    refine lv_tableIn (tgt := 48) hx hb d_CO_part_1 (by rw [cb_3]; decide) (by rw [cb_3]; decide) (by rw [cb_3]; rfl) (by decide) ?_
    refine lv_aload_n hx hb d_CO_part_48 rfl (lv_at hl 0 rfl) ?_
    refine va_get (D := (dC, dI)) (ci := 7) (v := .long (CO_greatest co)) (C := R_CO) (T := F_CO) (N := 5) hx hb hts (in_CO _) hown hK hP 0 rfl rfl 3 (by decide) (hts _ (List.mem_cons_of_mem _ mw_175)) (fun _ h9 => h9) rfl d_CO_part_49 ?_
    have hq0 := hf
    subst hq0
    exact cx_lret hx hb hr hlocks hP hS d_CO_part_52
  have hf := g_f hf cb_3
  have n_cb := cx_ne (n := 4) (by decide) cb
  have n_cb_1 := cx_ne (n := 5) (by decide) cb_1
  have n_cb_2 := cx_ne (n := 6) (by decide) cb_2
  have n_cb_3 := cx_ne (n := 7) (by decide) cb_3
  refine lv_tableOut (tgt := 53) hx hb d_CO_part_1 (by omega) (by decide) ?_
  refine lv_aload_n hx hb d_CO_part_53 rfl (lv_at hl 0 rfl) ?_
  refine va_get (D := (dC, dI)) (ci := 7) (v := .long (CO_mix co)) (C := R_CO) (T := F_CO) (N := 5) hx hb hts (in_CO _) hown hK hP 0 rfl rfl 4 (by decide) (hts _ (List.mem_cons_of_mem _ mw_176)) (fun _ h9 => h9) rfl d_CO_part_54 ?_
  have hq0 := hf
  subst hq0
  exact cx_lret hx hb hr hlocks hP hS d_CO_part_57
def f_FS_kept (fs : FSt) : Int32 :=
  (if 400 < (FS_total fs) then 400 else (FS_total fs))
set_option maxHeartbeats 4000000 in
set_option maxRecDepth 100000 in
theorem c_FS_kept (l : Launch) (dC : Nat → ClassId) (dI : Nat → Nat → Nat) (tC : Nat → ClassId) (a : Nat → Nat) (fs : FSt) (res : Int32) (hf : f_FS_kept fs = res) : cx_M l y_FS_kept w_FS_kept { frames := 1, cells := 0, slots := 0, locals := 24 } (dC, dI) classes (tyS tC) [.ref (a 0)] (wFS tC a fs) (wFS tC a fs) (some (.int res)) := by
  refine cx_of (cc := b_FS_kept) (maxL := 1) (ret := some .int) (plainFor_of_name (by decide)) rfl (Nat.le_of_ble_eq_true rfl) ?_
  intro p e s m below meth c hx hb hr hml hown hts hlocks A hA H locs ls hK hN hP hD hS hl
  have hown : s.vm.findClass R_FS = some m.cls := hown
  have hl : lv_has ls 1 [(0, .ref (a 0))] := hl
  unfold f_FS_kept at hf
  refine lv_aload_n hx hb d_FS_kept_0 rfl (lv_at hl 0 rfl) ?_
  refine va_get (D := (dC, dI)) (ci := 6) (v := .int (FS_total fs)) (C := R_FS) (T := F_FS) (N := 4) hx hb hts (in_FS _) hown hK hP 0 rfl rfl 1 (by decide) (hts _ (List.mem_cons_of_mem _ mw_151)) (fun _ h9 => h9) rfl d_FS_kept_1 ?_
  refine lv_sipush (v := 400) hx hb d_FS_kept_4 (by decide) ?_
  refine va_mmin hx hb (by rw [hml]; exact hl.1.symm) hown (hts _ (List.mem_cons_of_mem _ mw_419)) (hts _ (List.mem_cons_of_mem _ mw_420)) (hts _ (List.mem_cons_of_mem _ mw_14)) (hts _ (List.mem_cons_of_mem _ mw_421)) (Nat.le_of_ble_eq_true rfl) (Nat.le_of_ble_eq_true rfl) (Nat.zero_le _) (Nat.zero_le _) d_FS_kept_7 ?_
  have hq0 := hf
  subst hq0
  exact cx_iret hx hb hr hlocks hP hS d_FS_kept_10
def f_FS_cell (x1 : Int32) (x2 : Int32) (fs : FSt) : Option Int64 :=
  if ((((((FS_total fs) - (f_FS_kept fs)) + x1) - (((FS_total fs) - (f_FS_kept fs)) + x1) / 400 * 400) * 10) + x2) < 0 ∨ 4000 ≤ ((((((FS_total fs) - (f_FS_kept fs)) + x1) - (((FS_total fs) - (f_FS_kept fs)) + x1) / 400 * 400) * 10) + x2).toNatClampNeg then none else
  some (FS_cells fs ((((((FS_total fs) - (f_FS_kept fs)) + x1) - (((FS_total fs) - (f_FS_kept fs)) + x1) / 400 * 400) * 10) + x2).toNatClampNeg)
set_option maxHeartbeats 4000000 in
set_option maxRecDepth 100000 in
theorem c_FS_cell (l : Launch) (dC : Nat → ClassId) (dI : Nat → Nat → Nat) (tC : Nat → ClassId) (a : Nat → Nat) (x1 : Int32) (x2 : Int32) (fs : FSt) (res : Int64) (hf : f_FS_cell x1 x2 fs = some res) : cx_M l y_FS_cell w_FS_cell { frames := 2, cells := 0, slots := 0, locals := 44 } (dC, dI) classes (tyS tC) [.ref (a 0), .int x1, .int x2] (wFS tC a fs) (wFS tC a fs) (some (.long res)) := by
  refine cx_of (cc := b_FS_cell) (maxL := 3) (ret := some .long) (plainFor_of_name (by decide)) rfl (Nat.le_of_ble_eq_true rfl) ?_
  intro p e s m below meth c hx hb hr hml hown hts hlocks A hA H locs ls hK hN hP hD hS hl
  have hown : s.vm.findClass R_FS = some m.cls := hown
  have hl : lv_has ls 3 [(0, .ref (a 0)), (1, .int x1), (2, .int x2)] := hl
  unfold f_FS_cell at hf
  refine lv_aload_n hx hb d_FS_cell_0 rfl (lv_at hl 0 rfl) ?_
  refine va_get (D := (dC, dI)) (ci := 6) (v := .ref (a 1)) (C := R_FS) (T := F_FS) (N := 4) hx hb hts (in_FS _) hown hK hP 0 rfl rfl 0 (by decide) (hts _ (List.mem_cons_of_mem _ mw_150)) (fun _ h9 => h9) rfl d_FS_cell_1 ?_
  refine lv_aload_n hx hb d_FS_cell_4 rfl (lv_at hl 0 rfl) ?_
  refine va_get (D := (dC, dI)) (ci := 6) (v := .int (FS_total fs)) (C := R_FS) (T := F_FS) (N := 4) hx hb hts (in_FS _) hown hK hP 0 rfl rfl 1 (by decide) (hts _ (List.mem_cons_of_mem _ mw_151)) (fun _ h9 => h9) rfl d_FS_cell_5 ?_
  refine lv_aload_n hx hb d_FS_cell_8 rfl (lv_at hl 0 rfl) ?_
  refine cx_callV (As := []) (rest := [.int (FS_total fs), .ref (a 1)]) ⟨hx, hb, hml, hown, hts⟩ (c_FS_kept l dC dI tC a fs (f_FS_kept fs) rfl) (k_FS_31 hts ⟨Nat.le_of_ble_eq_true rfl, Nat.le_of_ble_eq_true rfl⟩) hl.1 hP hD hS hA hK hN [0, 1] 0 6 rfl rfl rfl rfl rfl rfl rfl rfl (Nat.le_of_ble_eq_true rfl) d_FS_cell_9 ⟨Nat.zero_le _, Nat.zero_le _⟩ (fun H locs hP hD hS => ?_)
  have hP : va_P (dC, dI) classes (wFS tC a fs) H := hP
  have hD : va_D A (wFS tC a fs) := hD
  refine W.eq (g2 := F0 m 12 ls [.int (f_FS_kept fs), .int (FS_total fs), .ref (a 1)]) rfl ?_
  refine lv_isub hx hb d_FS_cell_12 ?_
  refine lv_iload_n hx hb d_FS_cell_13 rfl (lv_at hl 1 rfl) ?_
  refine lv_iadd hx hb d_FS_cell_14 ?_
  refine lv_sipush (v := 400) hx hb d_FS_cell_15 (by decide) ?_
  refine lv_irem hx hb d_FS_cell_18 (by decide) ?_
  refine lv_bipush (v := 10) hx hb d_FS_cell_19 (by decide) ?_
  refine lv_imul hx hb d_FS_cell_21 ?_
  refine lv_iload_n hx hb d_FS_cell_22 rfl (lv_at hl 2 rfl) ?_
  refine lv_iadd hx hb d_FS_cell_23 ?_
  obtain ⟨ck, hf⟩ := g_ck hf
  refine va_lald (D := (dC, dI)) hx hb hK hP 1 1 rfl rfl ck d_FS_cell_24 ?_
  have hq0 := (g_some hf)
  subst hq0
  exact cx_lret hx hb hr hlocks hP hS d_FS_cell_25
def f_FS_add_L58 (co : COt) (v9 : Int32) : Nat → Int32 → FSt → Option (FSt)
  | 0, _, _ => none
  | n + 1, v10, fs_2 =>
    if 8 < v10 then (
      some fs_2
    ) else
    if (v9 + v10) < 0 ∨ 4000 ≤ (v9 + v10).toNatClampNeg then none else
    gl_let (v10 + 1) fun v10_1 =>
    gl_let ((sFS_cells fs_2 (vp_updL (FS_cells fs_2) (v9 + v10).toNatClampNeg (f_CO_part v10 co))) : FSt) fun fs_4 =>
    f_FS_add_L58 co v9 n v10_1 fs_4
def f_FS_add (k : Nat) (x1 : Int32) (x2 : Int64) (x4 : Int64) (x6 : Int32) (x7 : Int32) (fs : FSt) (co : COt) : Option FSt :=
  gl_let ((((FS_total fs) - (FS_total fs) / 400 * 400) * 10)) fun v9 =>
  if v9 < 0 ∨ 4000 ≤ v9.toNatClampNeg then none else
  if (v9 + 1) < 0 ∨ 4000 ≤ (v9 + 1).toNatClampNeg then none else
  if (v9 + 2) < 0 ∨ 4000 ≤ (v9 + 2).toNatClampNeg then none else
  if (v9 + 3) < 0 ∨ 4000 ≤ (v9 + 3).toNatClampNeg then none else
  gl_let ((sFS_cells fs (vp_updL (vp_updL (vp_updL (vp_updL (FS_cells fs) v9.toNatClampNeg (x1.toInt64)) (v9 + 1).toNatClampNeg x2) (v9 + 2).toNatClampNeg x4) (v9 + 3).toNatClampNeg (x6.toInt64))) : FSt) fun fs_1 =>
  (f_FS_add_L58 co v9 k 4 fs_1).bind fun fs_3 =>
  if (v9 + 9) < 0 ∨ 4000 ≤ (v9 + 9).toNatClampNeg then none else
  if x6 = 0 then (
    some (sFS_early (sFS_total (sFS_cells fs_3 (vp_updL (FS_cells fs_3) (v9 + 9).toNatClampNeg (x7.toInt64))) ((FS_total fs_3) + 1)) ((FS_early fs_3) + 1))
  ) else
  if x6 = 2 then (
    some (sFS_lately (sFS_total (sFS_cells fs_3 (vp_updL (FS_cells fs_3) (v9 + 9).toNatClampNeg (x7.toInt64))) ((FS_total fs_3) + 1)) ((FS_lately fs_3) + 1))
  ) else
  some (sFS_total (sFS_cells fs_3 (vp_updL (FS_cells fs_3) (v9 + 9).toNatClampNeg (x7.toInt64))) ((FS_total fs_3) + 1))
set_option maxHeartbeats 4000000 in
set_option maxRecDepth 100000 in
theorem c_FS_add (l : Launch) (dC : Nat → ClassId) (dI : Nat → Nat → Nat) (tC : Nat → ClassId) (a : Nat → Nat) (a_q8 : Nat → Nat) (k : Nat) (x1 : Int32) (x2 : Int64) (x4 : Int64) (x6 : Int32) (x7 : Int32) (fs : FSt) (co : COt) (fsR : FSt) (hf : f_FS_add k x1 x2 x4 x6 x7 fs co = some fsR) : cx_M l y_FS_add w_FS_add { frames := 1, cells := 0, slots := 0, locals := 21 } (dC, dI) classes (tyS tC) [.ref (a 0), .int x1, .long x2, .long x4, .int x6, .int x7, .ref (a_q8 0)] (wFS tC a fs ++ wCO tC a_q8 co) (wFS tC a fsR ++ wCO tC a_q8 co) (none) := by
  refine cx_of (cc := b_FS_add) (maxL := 11) (ret := none) (plainFor_of_name (by decide)) rfl (Nat.le_of_ble_eq_true rfl) ?_
  intro p e s m below meth c hx hb hr hml hown hts hlocks A hA H locs ls hK hN hP hD hS hl
  have hown : s.vm.findClass R_FS = some m.cls := hown
  have hl : lv_has ls 11 [(0, .ref (a 0)), (1, .int x1), (2, .long x2), (4, .long x4), (6, .int x6), (7, .int x7), (8, .ref (a_q8 0))] := hl
  unfold f_FS_add at hf
  refine lv_aload_n hx hb d_FS_add_0 rfl (lv_at hl 0 rfl) ?_
  refine va_get (D := (dC, dI)) (ci := 6) (v := .int (FS_total fs)) (C := R_FS) (T := F_FS) (N := 4) hx hb hts (in_FS _) hown hK hP 0 rfl rfl 1 (by decide) (hts _ (List.mem_cons_of_mem _ mw_151)) (fun _ h9 => h9) rfl d_FS_add_1 ?_
  refine lv_sipush (v := 400) hx hb d_FS_add_4 (by decide) ?_
  refine lv_irem hx hb d_FS_add_7 (by decide) ?_
  refine lv_bipush (v := 10) hx hb d_FS_add_8 (by decide) ?_
  refine lv_imul hx hb d_FS_add_10 ?_
  refine lv_topi (fun v9 h_v9 => ?_)
  have hf := g_let hf h_v9
  refine lv_istore (lv' := [(9, .int v9), (0, .ref (a 0)), (1, .int x1), (2, .long x2), (4, .long x4), (6, .int x6), (7, .int x7), (8, .ref (a_q8 0))]) hx hb d_FS_add_11 hl (by decide) rfl (fun ls hl => ?_)
  refine lv_aload_n hx hb d_FS_add_13 rfl (lv_at hl 1 rfl) ?_
  refine va_get (D := (dC, dI)) (ci := 6) (v := .ref (a 1)) (C := R_FS) (T := F_FS) (N := 4) hx hb hts (in_FS _) hown hK hP 0 rfl rfl 0 (by decide) (hts _ (List.mem_cons_of_mem _ mw_150)) (fun _ h9 => h9) rfl d_FS_add_14 ?_
  refine lv_iload hx hb d_FS_add_17 (lv_at hl 0 rfl) ?_
  refine lv_iload_n hx hb d_FS_add_19 rfl (lv_at hl 2 rfl) ?_
  refine lv_i2l hx hb d_FS_add_20 rfl ?_
  obtain ⟨ck, hf⟩ := g_ck hf
  refine va_last (D := (dC, dI)) hx hb hK hP hD hS 1 1 rfl rfl ck d_FS_add_21 (fun H locs hP hD hS => ?_)
  have hP : va_P (dC, dI) classes (wFS tC a (sFS_cells fs (vp_updL (FS_cells fs) v9.toNatClampNeg (x1.toInt64))) ++ wCO tC a_q8 co) H := hP
  have hD : va_D A (wFS tC a (sFS_cells fs (vp_updL (FS_cells fs) v9.toNatClampNeg (x1.toInt64))) ++ wCO tC a_q8 co) := hD
  refine lv_aload_n hx hb d_FS_add_22 rfl (lv_at hl 1 rfl) ?_
  refine va_get (D := (dC, dI)) (ci := 6) (v := .ref (a 1)) (C := R_FS) (T := F_FS) (N := 4) hx hb hts (in_FS _) hown hK hP 0 rfl rfl 0 (by decide) (hts _ (List.mem_cons_of_mem _ mw_150)) (fun _ h9 => h9) rfl d_FS_add_23 ?_
  refine lv_iload hx hb d_FS_add_26 (lv_at hl 0 rfl) ?_
  refine lv_iconst (v := 1) hx hb d_FS_add_28 (by decide) ?_
  refine lv_iadd hx hb d_FS_add_29 ?_
  refine lv_lload_n hx hb d_FS_add_30 rfl (lv_at hl 3 rfl) ?_
  obtain ⟨ck_1, hf⟩ := g_ck hf
  refine va_last (D := (dC, dI)) hx hb hK hP hD hS 1 1 rfl rfl ck_1 d_FS_add_31 (fun H locs hP hD hS => ?_)
  have hP : va_P (dC, dI) classes (wFS tC a (sFS_cells fs (vp_updL (vp_updL (FS_cells fs) v9.toNatClampNeg (x1.toInt64)) (v9 + 1).toNatClampNeg x2)) ++ wCO tC a_q8 co) H := hP
  have hD : va_D A (wFS tC a (sFS_cells fs (vp_updL (vp_updL (FS_cells fs) v9.toNatClampNeg (x1.toInt64)) (v9 + 1).toNatClampNeg x2)) ++ wCO tC a_q8 co) := hD
  refine lv_aload_n hx hb d_FS_add_32 rfl (lv_at hl 1 rfl) ?_
  refine va_get (D := (dC, dI)) (ci := 6) (v := .ref (a 1)) (C := R_FS) (T := F_FS) (N := 4) hx hb hts (in_FS _) hown hK hP 0 rfl rfl 0 (by decide) (hts _ (List.mem_cons_of_mem _ mw_150)) (fun _ h9 => h9) rfl d_FS_add_33 ?_
  refine lv_iload hx hb d_FS_add_36 (lv_at hl 0 rfl) ?_
  refine lv_iconst (v := 2) hx hb d_FS_add_38 (by decide) ?_
  refine lv_iadd hx hb d_FS_add_39 ?_
  refine lv_lload hx hb d_FS_add_40 (lv_at hl 4 rfl) ?_
  obtain ⟨ck_2, hf⟩ := g_ck hf
  refine va_last (D := (dC, dI)) hx hb hK hP hD hS 1 1 rfl rfl ck_2 d_FS_add_42 (fun H locs hP hD hS => ?_)
  have hP : va_P (dC, dI) classes (wFS tC a (sFS_cells fs (vp_updL (vp_updL (vp_updL (FS_cells fs) v9.toNatClampNeg (x1.toInt64)) (v9 + 1).toNatClampNeg x2) (v9 + 2).toNatClampNeg x4)) ++ wCO tC a_q8 co) H := hP
  have hD : va_D A (wFS tC a (sFS_cells fs (vp_updL (vp_updL (vp_updL (FS_cells fs) v9.toNatClampNeg (x1.toInt64)) (v9 + 1).toNatClampNeg x2) (v9 + 2).toNatClampNeg x4)) ++ wCO tC a_q8 co) := hD
  refine lv_aload_n hx hb d_FS_add_43 rfl (lv_at hl 1 rfl) ?_
  refine va_get (D := (dC, dI)) (ci := 6) (v := .ref (a 1)) (C := R_FS) (T := F_FS) (N := 4) hx hb hts (in_FS _) hown hK hP 0 rfl rfl 0 (by decide) (hts _ (List.mem_cons_of_mem _ mw_150)) (fun _ h9 => h9) rfl d_FS_add_44 ?_
  refine lv_iload hx hb d_FS_add_47 (lv_at hl 0 rfl) ?_
  refine lv_iconst (v := 3) hx hb d_FS_add_49 (by decide) ?_
  refine lv_iadd hx hb d_FS_add_50 ?_
  refine lv_iload hx hb d_FS_add_51 (lv_at hl 5 rfl) ?_
  refine lv_i2l hx hb d_FS_add_53 rfl ?_
  obtain ⟨ck_3, hf⟩ := g_ck hf
  refine va_last (D := (dC, dI)) hx hb hK hP hD hS 1 1 rfl rfl ck_3 d_FS_add_54 (fun H locs hP hD hS => ?_)
  have hP : va_P (dC, dI) classes (wFS tC a (sFS_cells fs (vp_updL (vp_updL (vp_updL (vp_updL (FS_cells fs) v9.toNatClampNeg (x1.toInt64)) (v9 + 1).toNatClampNeg x2) (v9 + 2).toNatClampNeg x4) (v9 + 3).toNatClampNeg (x6.toInt64))) ++ wCO tC a_q8 co) H := hP
  have hD : va_D A (wFS tC a (sFS_cells fs (vp_updL (vp_updL (vp_updL (vp_updL (FS_cells fs) v9.toNatClampNeg (x1.toInt64)) (v9 + 1).toNatClampNeg x2) (v9 + 2).toNatClampNeg x4) (v9 + 3).toNatClampNeg (x6.toInt64))) ++ wCO tC a_q8 co) := hD
  refine lv_iconst (v := 4) hx hb d_FS_add_55 (by decide) ?_
  refine lv_istore (lv' := [(10, .int 4), (9, .int v9), (0, .ref (a 0)), (1, .int x1), (2, .long x2), (4, .long x4), (6, .int x6), (7, .int x7), (8, .ref (a_q8 0))]) hx hb d_FS_add_56 hl (by decide) rfl (fun ls hl => ?_)
  obtain ⟨fs_1, h_fs_1⟩ : ∃ z : FSt, z = (sFS_cells fs (vp_updL (vp_updL (vp_updL (vp_updL (FS_cells fs) v9.toNatClampNeg (x1.toInt64)) (v9 + 1).toNatClampNeg x2) (v9 + 2).toNatClampNeg x4) (v9 + 3).toNatClampNeg (x6.toInt64))) := ⟨_, rfl⟩
  have hf := g_let hf h_fs_1
  have hP : va_P (dC, dI) classes (wFS tC a fs_1 ++ wCO tC a_q8 co) H := by rw [h_fs_1]; exact hP
  have hD : va_D A (wFS tC a fs_1 ++ wCO tC a_q8 co) := by rw [h_fs_1]; exact hD
  have L_58 : ∀ (n : Nat) (v10 : Int32) (fs_2 : FSt) (fs_3 : FSt), f_FS_add_L58 co v9 n v10 fs_2 = some fs_3 → ∀ (H : Heap) (locs : List Loc) (ls : Array Slot), va_P (dC, dI) classes (wFS tC a fs_2 ++ wCO tC a_q8 co) H → va_D A (wFS tC a fs_2 ++ wCO tC a_q8 co) → va_S A s.heap H locs → lv_has ls 11 [(0, .ref (a 0)), (6, .int x6), (7, .int x7), (8, .ref (a_q8 0)), (9, .int v9), (10, .int v10)] → (∀ (H : Heap) (locs : List Loc) (ls : Array Slot), va_P (dC, dI) classes (wFS tC a fs_3 ++ wCO tC a_q8 co) H → va_D A (wFS tC a fs_3 ++ wCO tC a_q8 co) → va_S A s.heap H locs → lv_has ls 11 [(0, .ref (a 0)), (6, .int x6), (7, .int x7), (9, .int v9)] → W p l e { frames := 1, cells := 0, slots := 0, locals := 21 } s m [.ref (a 0), .int x1, .long x2, .long x4, .int x6, .int x7, .ref (a_q8 0)].toArray below meth c H locs 0 0 (cx_Z (dC, dI) classes below [.ref (a 0), .int x1, .long x2, .long x4, .int x6, .int x7, .ref (a_q8 0)] s (wFS tC a fsR ++ wCO tC a_q8 co) (none) A) (F0 m 88 ls [])) → W p l e { frames := 1, cells := 0, slots := 0, locals := 21 } s m [.ref (a 0), .int x1, .long x2, .long x4, .int x6, .int x7, .ref (a_q8 0)].toArray below meth c H locs 0 0 (cx_Z (dC, dI) classes below [.ref (a 0), .int x1, .long x2, .long x4, .int x6, .int x7, .ref (a_q8 0)] s (wFS tC a fsR ++ wCO tC a_q8 co) (none) A) (F0 m 58 ls []) := by
    intro n
    induction n with
    | zero =>
      intro v10 fs_2 fs_3 hf
      rw [f_FS_add_L58] at hf
      cases hf
    | succ n ih =>
      intro v10 fs_2 fs_3 hf H locs ls hP hD hS hl kk
      rw [f_FS_add_L58] at hf
      refine lv_iload hx hb d_FS_add_58 (lv_at hl 5 rfl) ?_
      refine lv_bipush (v := 8) hx hb d_FS_add_60 (by decide) ?_
      refine lv_icmp_gt (tgt := 88) hx hb d_FS_add_62 (by decide) (fun cb => ?_) (fun cb => ?_)
      · have hf := g_t hf cb
        have hq0 := (g_some hf)
        subst hq0
        exact kk _ _ _ hP hD hS (lv_sub hl [0, 1, 2, 4] rfl)
      · have hf := g_f hf cb
        refine lv_aload_n hx hb d_FS_add_65 rfl (lv_at hl 0 rfl) ?_
        refine va_get (D := (dC, dI)) (ci := 6) (v := .ref (a 1)) (C := R_FS) (T := F_FS) (N := 4) hx hb hts (in_FS _) hown hK hP 0 rfl rfl 0 (by decide) (hts _ (List.mem_cons_of_mem _ mw_150)) (fun _ h9 => h9) rfl d_FS_add_66 ?_
        refine lv_iload hx hb d_FS_add_69 (lv_at hl 4 rfl) ?_
        refine lv_iload hx hb d_FS_add_71 (lv_at hl 5 rfl) ?_
        refine lv_iadd hx hb d_FS_add_73 ?_
        refine lv_aload hx hb d_FS_add_74 (lv_at hl 3 rfl) ?_
        refine lv_iload hx hb d_FS_add_76 (lv_at hl 5 rfl) ?_
        refine cx_callV (As := [.int v10]) (rest := [.int (v9 + v10), .ref (a 1)]) ⟨hx, hb, hml, hown, hts⟩ (c_CO_part l dC dI tC a_q8 v10 co (f_CO_part v10 co) rfl) (k_FS_35 hts ⟨Nat.le_of_ble_eq_true rfl, Nat.le_of_ble_eq_true rfl⟩) hl.1 hP hD hS hA hK hN [2] 2 7 rfl rfl rfl rfl rfl rfl rfl rfl (Nat.le_of_ble_eq_true rfl) d_FS_add_78 ⟨Nat.zero_le _, Nat.zero_le _⟩ (fun H locs hP hD hS => ?_)
        have hP : va_P (dC, dI) classes (wFS tC a fs_2 ++ wCO tC a_q8 co) H := hP
        have hD : va_D A (wFS tC a fs_2 ++ wCO tC a_q8 co) := hD
        refine W.eq (g2 := F0 m 81 ls [.long (f_CO_part v10 co), .int (v9 + v10), .ref (a 1)]) rfl ?_
        obtain ⟨ck_4, hf⟩ := g_ck hf
        refine va_last (D := (dC, dI)) hx hb hK hP hD hS 1 1 rfl rfl ck_4 d_FS_add_81 (fun H locs hP hD hS => ?_)
        have hP : va_P (dC, dI) classes (wFS tC a (sFS_cells fs_2 (vp_updL (FS_cells fs_2) (v9 + v10).toNatClampNeg (f_CO_part v10 co))) ++ wCO tC a_q8 co) H := hP
        have hD : va_D A (wFS tC a (sFS_cells fs_2 (vp_updL (FS_cells fs_2) (v9 + v10).toNatClampNeg (f_CO_part v10 co))) ++ wCO tC a_q8 co) := hD
        obtain ⟨v10_1, h_v10_1⟩ : ∃ z : Int32, z = v10 + 1 := ⟨_, rfl⟩
        have hf := g_let hf h_v10_1
        refine lv_iinc (v := v10_1) (lv' := [(10, .int v10_1), (0, .ref (a 0)), (6, .int x6), (7, .int x7), (8, .ref (a_q8 0)), (9, .int v9)]) hx hb d_FS_add_82 hl (k := 5) rfl (by rw [h_v10_1]; rfl) (by decide) rfl (fun ls hl => ?_)
        refine lv_goto (tgt := 58) hx hb d_FS_add_85 (by decide) ?_
        obtain ⟨fs_4, h_fs_4⟩ : ∃ z : FSt, z = (sFS_cells fs_2 (vp_updL (FS_cells fs_2) (v9 + v10).toNatClampNeg (f_CO_part v10 co))) := ⟨_, rfl⟩
        have hf := g_let hf h_fs_4
        have hP : va_P (dC, dI) classes (wFS tC a fs_4 ++ wCO tC a_q8 co) H := by rw [h_fs_4]; exact hP
        have hD : va_D A (wFS tC a fs_4 ++ wCO tC a_q8 co) := by rw [h_fs_4]; exact hD
        exact ih v10_1 fs_4 fs_3 hf H locs ls hP hD hS (lv_sub hl [1, 2, 3, 4, 5, 0] rfl) kk
  obtain ⟨fs_3, hL_58, hf⟩ := g_bind hf
  try dsimp only at hf
  refine L_58 k 4 fs_1 fs_3 hL_58 H locs ls hP hD hS (lv_sub hl [2, 6, 7, 8, 1, 0] rfl) (fun H locs ls hP hD hS hl => ?_)
  refine lv_aload_n hx hb d_FS_add_88 rfl (lv_at hl 0 rfl) ?_
  refine va_get (D := (dC, dI)) (ci := 6) (v := .ref (a 1)) (C := R_FS) (T := F_FS) (N := 4) hx hb hts (in_FS _) hown hK hP 0 rfl rfl 0 (by decide) (hts _ (List.mem_cons_of_mem _ mw_150)) (fun _ h9 => h9) rfl d_FS_add_89 ?_
  refine lv_iload hx hb d_FS_add_92 (lv_at hl 3 rfl) ?_
  refine lv_bipush (v := 9) hx hb d_FS_add_94 (by decide) ?_
  refine lv_iadd hx hb d_FS_add_96 ?_
  refine lv_iload hx hb d_FS_add_97 (lv_at hl 2 rfl) ?_
  refine lv_i2l hx hb d_FS_add_99 rfl ?_
  obtain ⟨ck_5, hf⟩ := g_ck hf
  refine va_last (D := (dC, dI)) hx hb hK hP hD hS 1 1 rfl rfl ck_5 d_FS_add_100 (fun H locs hP hD hS => ?_)
  have hP : va_P (dC, dI) classes (wFS tC a (sFS_cells fs_3 (vp_updL (FS_cells fs_3) (v9 + 9).toNatClampNeg (x7.toInt64))) ++ wCO tC a_q8 co) H := hP
  have hD : va_D A (wFS tC a (sFS_cells fs_3 (vp_updL (FS_cells fs_3) (v9 + 9).toNatClampNeg (x7.toInt64))) ++ wCO tC a_q8 co) := hD
  refine lv_aload_n hx hb d_FS_add_101 rfl (lv_at hl 0 rfl) ?_
  refine lv_dup hx hb d_FS_add_102 rfl ?_
  refine va_get (D := (dC, dI)) (ci := 6) (v := .int (FS_total fs_3)) (C := R_FS) (T := F_FS) (N := 4) hx hb hts (in_FS _) hown hK hP 0 rfl rfl 1 (by decide) (hts _ (List.mem_cons_of_mem _ mw_151)) (fun _ h9 => h9) rfl d_FS_add_103 ?_
  refine lv_iconst (v := 1) hx hb d_FS_add_106 (by decide) ?_
  refine lv_iadd hx hb d_FS_add_107 ?_
  refine va_put (D := (dC, dI)) (ci := 6) (v := .int ((FS_total fs_3) + 1)) (ty := .int) (C := R_FS) (T := F_FS) (N := 4) hx hb hts (in_FS _) t_FS t_FS_ok n_FS hown hK hP hD hS 0 rfl rfl 1 (by decide) (hts _ (List.mem_cons_of_mem _ mw_151)) (fun _ h9 => h9) rfl (by decide +kernel) rfl rfl (Nat.le_of_ble_eq_true rfl) d_FS_add_108 (fun H locs hP hD hS => ?_)
  have hP : va_P (dC, dI) classes (wFS tC a (sFS_total (sFS_cells fs_3 (vp_updL (FS_cells fs_3) (v9 + 9).toNatClampNeg (x7.toInt64))) ((FS_total fs_3) + 1)) ++ wCO tC a_q8 co) H := hP
  have hD : va_D A (wFS tC a (sFS_total (sFS_cells fs_3 (vp_updL (FS_cells fs_3) (v9 + 9).toNatClampNeg (x7.toInt64))) ((FS_total fs_3) + 1)) ++ wCO tC a_q8 co) := hD
  refine lv_iload hx hb d_FS_add_111 (lv_at hl 1 rfl) ?_
  refine lv_if_ne (tgt := 129) hx hb d_FS_add_113 (by decide) (fun cb_1 => ?_) (fun cb_1 => ?_)
  · have hf := g_f hf cb_1
    refine lv_iload hx hb d_FS_add_129 (lv_at hl 1 rfl) ?_
    refine lv_iconst (v := 2) hx hb d_FS_add_131 (by decide) ?_
    refine lv_icmp_ne (tgt := 145) hx hb d_FS_add_132 (by decide) (fun cb_2 => ?_) (fun cb_2 => ?_)
    · have hf := g_f hf cb_2
      have hq0 := (g_some hf)
      subst hq0
      exact cx_vret hx hb hr hlocks hP hS d_FS_add_145
    · have hf := g_t hf cb_2
      refine lv_aload_n hx hb d_FS_add_135 rfl (lv_at hl 0 rfl) ?_
      refine lv_dup hx hb d_FS_add_136 rfl ?_
      refine va_get (D := (dC, dI)) (ci := 6) (v := .int (FS_lately fs_3)) (C := R_FS) (T := F_FS) (N := 4) hx hb hts (in_FS _) hown hK hP 0 rfl rfl 3 (by decide) (hts _ (List.mem_cons_of_mem _ mw_155)) (fun _ h9 => h9) rfl d_FS_add_137 ?_
      refine lv_iconst (v := 1) hx hb d_FS_add_140 (by decide) ?_
      refine lv_iadd hx hb d_FS_add_141 ?_
      refine va_put (D := (dC, dI)) (ci := 6) (v := .int ((FS_lately fs_3) + 1)) (ty := .int) (C := R_FS) (T := F_FS) (N := 4) hx hb hts (in_FS _) t_FS t_FS_ok n_FS hown hK hP hD hS 0 rfl rfl 3 (by decide) (hts _ (List.mem_cons_of_mem _ mw_155)) (fun _ h9 => h9) rfl (by decide +kernel) rfl rfl (Nat.le_of_ble_eq_true rfl) d_FS_add_142 (fun H locs hP hD hS => ?_)
      have hP : va_P (dC, dI) classes (wFS tC a (sFS_lately (sFS_total (sFS_cells fs_3 (vp_updL (FS_cells fs_3) (v9 + 9).toNatClampNeg (x7.toInt64))) ((FS_total fs_3) + 1)) ((FS_lately fs_3) + 1)) ++ wCO tC a_q8 co) H := hP
      have hD : va_D A (wFS tC a (sFS_lately (sFS_total (sFS_cells fs_3 (vp_updL (FS_cells fs_3) (v9 + 9).toNatClampNeg (x7.toInt64))) ((FS_total fs_3) + 1)) ((FS_lately fs_3) + 1)) ++ wCO tC a_q8 co) := hD
      have hq0 := (g_some hf)
      subst hq0
      exact cx_vret hx hb hr hlocks hP hS d_FS_add_145
  · have hf := g_t hf cb_1
    refine lv_aload_n hx hb d_FS_add_116 rfl (lv_at hl 0 rfl) ?_
    refine lv_dup hx hb d_FS_add_117 rfl ?_
    refine va_get (D := (dC, dI)) (ci := 6) (v := .int (FS_early fs_3)) (C := R_FS) (T := F_FS) (N := 4) hx hb hts (in_FS _) hown hK hP 0 rfl rfl 2 (by decide) (hts _ (List.mem_cons_of_mem _ mw_153)) (fun _ h9 => h9) rfl d_FS_add_118 ?_
    refine lv_iconst (v := 1) hx hb d_FS_add_121 (by decide) ?_
    refine lv_iadd hx hb d_FS_add_122 ?_
    refine va_put (D := (dC, dI)) (ci := 6) (v := .int ((FS_early fs_3) + 1)) (ty := .int) (C := R_FS) (T := F_FS) (N := 4) hx hb hts (in_FS _) t_FS t_FS_ok n_FS hown hK hP hD hS 0 rfl rfl 2 (by decide) (hts _ (List.mem_cons_of_mem _ mw_153)) (fun _ h9 => h9) rfl (by decide +kernel) rfl rfl (Nat.le_of_ble_eq_true rfl) d_FS_add_123 (fun H locs hP hD hS => ?_)
    have hP : va_P (dC, dI) classes (wFS tC a (sFS_early (sFS_total (sFS_cells fs_3 (vp_updL (FS_cells fs_3) (v9 + 9).toNatClampNeg (x7.toInt64))) ((FS_total fs_3) + 1)) ((FS_early fs_3) + 1)) ++ wCO tC a_q8 co) H := hP
    have hD : va_D A (wFS tC a (sFS_early (sFS_total (sFS_cells fs_3 (vp_updL (FS_cells fs_3) (v9 + 9).toNatClampNeg (x7.toInt64))) ((FS_total fs_3) + 1)) ((FS_early fs_3) + 1)) ++ wCO tC a_q8 co) := hD
    refine lv_goto (tgt := 145) hx hb d_FS_add_126 (by decide) ?_
    have hq0 := (g_some hf)
    subst hq0
    exact cx_vret hx hb hr hlocks hP hS d_FS_add_145
def f_FB_has_L3 (x1 : Int32) (x2 : Int64) (fb : FBt) : Nat → Int32 → Option (Int32)
  | 0, _ => none
  | n + 1, v4 =>
    if x1 < 0 ∨ 3 ≤ x1.toNatClampNeg then none else
    if (FB_known fb x1.toNatClampNeg) ≤ v4 then (
      some 0
    ) else
    if ((x1 * 8) + v4) < 0 ∨ 24 ≤ ((x1 * 8) + v4).toNatClampNeg then none else
    if (FB_values fb ((x1 * 8) + v4).toNatClampNeg) = x2 then (
      some 1
    ) else
    gl_let (v4 + 1) fun v4_1 =>
    f_FB_has_L3 x1 x2 fb n v4_1
def f_FB_has (k : Nat) (x1 : Int32) (x2 : Int64) (fb : FBt) : Option Int32 :=
  f_FB_has_L3 x1 x2 fb k 0
set_option maxHeartbeats 4000000 in
set_option maxRecDepth 100000 in
theorem c_FB_has (l : Launch) (dC : Nat → ClassId) (dI : Nat → Nat → Nat) (tC : Nat → ClassId) (a : Nat → Nat) (k : Nat) (x1 : Int32) (x2 : Int64) (fb : FBt) (res : Int32) (hf : f_FB_has k x1 x2 fb = some res) : cx_M l y_FB_has w_FB_has { frames := 0, cells := 0, slots := 0, locals := 0 } (dC, dI) classes (tyS tC) [.ref (a 0), .int x1, .long x2] (wFB tC a fb) (wFB tC a fb) (some (.int res)) := by
  refine cx_of (cc := b_FB_has) (maxL := 5) (ret := some .boolean) (plainFor_of_name (by decide)) rfl (Nat.le_of_ble_eq_true rfl) ?_
  intro p e s m below meth c hx hb hr hml hown hts hlocks A hA H locs ls hK hN hP hD hS hl
  have hown : s.vm.findClass R_FB = some m.cls := hown
  have hl : lv_has ls 5 [(0, .ref (a 0)), (1, .int x1), (2, .long x2)] := hl
  unfold f_FB_has at hf
  refine lv_iconst (v := 0) hx hb d_FB_has_0 (by decide) ?_
  refine lv_istore (lv' := [(4, .int 0), (0, .ref (a 0)), (1, .int x1), (2, .long x2)]) hx hb d_FB_has_1 hl (by decide) rfl (fun ls hl => ?_)
  have L_3 : ∀ (n : Nat) (v4 : Int32), f_FB_has_L3 x1 x2 fb n v4 = some res → ∀ (H : Heap) (locs : List Loc) (ls : Array Slot), va_P (dC, dI) classes (wFB tC a fb) H → va_D A (wFB tC a fb) → va_S A s.heap H locs → lv_has ls 5 [(0, .ref (a 0)), (1, .int x1), (2, .long x2), (4, .int v4)] → W p l e { frames := 0, cells := 0, slots := 0, locals := 0 } s m [.ref (a 0), .int x1, .long x2].toArray below meth c H locs 0 0 (cx_Z (dC, dI) classes below [.ref (a 0), .int x1, .long x2] s (wFB tC a fb) (some (.int res)) A) (F0 m 3 ls []) := by
    intro n
    induction n with
    | zero =>
      intro v4 hf
      rw [f_FB_has_L3] at hf
      cases hf
    | succ n ih =>
      intro v4 hf H locs ls hP hD hS hl
      rw [f_FB_has_L3] at hf
      refine lv_iload hx hb d_FB_has_3 (lv_at hl 3 rfl) ?_
      refine lv_aload_n hx hb d_FB_has_5 rfl (lv_at hl 0 rfl) ?_
      refine va_get (D := (dC, dI)) (ci := 2) (v := .ref (a 2)) (C := R_FB) (T := F_FB) (N := 2) hx hb hts (in_FB _) hown hK hP 0 rfl rfl 1 (by decide) (hts _ (List.mem_cons_of_mem _ mw_31)) (fun _ h9 => h9) rfl d_FB_has_6 ?_
      refine lv_iload_n hx hb d_FB_has_9 rfl (lv_at hl 1 rfl) ?_
      obtain ⟨ck, hf⟩ := g_ck hf
      refine va_iald (D := (dC, dI)) hx hb hK hP 2 0 rfl rfl ck d_FB_has_10 ?_
      refine lv_icmp_ge (tgt := 39) hx hb d_FB_has_11 (by decide) (fun cb => ?_) (fun cb => ?_)
      · have hf := g_t hf cb
        refine lv_iconst (v := 0) hx hb d_FB_has_39 (by decide) ?_
        have hq0 := (g_some hf)
        subst hq0
        exact cx_zret hx hb hr hlocks rfl hP hS d_FB_has_40
      · have hf := g_f hf cb
        refine lv_aload_n hx hb d_FB_has_14 rfl (lv_at hl 0 rfl) ?_
        refine va_get (D := (dC, dI)) (ci := 2) (v := .ref (a 1)) (C := R_FB) (T := F_FB) (N := 2) hx hb hts (in_FB _) hown hK hP 0 rfl rfl 0 (by decide) (hts _ (List.mem_cons_of_mem _ mw_30)) (fun _ h9 => h9) rfl d_FB_has_15 ?_
        refine lv_iload_n hx hb d_FB_has_18 rfl (lv_at hl 1 rfl) ?_
        refine lv_bipush (v := 8) hx hb d_FB_has_19 (by decide) ?_
        refine lv_imul hx hb d_FB_has_21 ?_
        refine lv_iload hx hb d_FB_has_22 (lv_at hl 3 rfl) ?_
        refine lv_iadd hx hb d_FB_has_24 ?_
        obtain ⟨ck_1, hf⟩ := g_ck hf
        refine va_lald (D := (dC, dI)) hx hb hK hP 1 1 rfl rfl ck_1 d_FB_has_25 ?_
        refine lv_lload_n hx hb d_FB_has_26 rfl (lv_at hl 2 rfl) ?_
        refine cq_ne (tgt := 33) hx hb d_FB_has_27 d_FB_has_28 (by decide) (fun cb_1 => ?_) (fun cb_1 => ?_)
        · have hf := g_f hf cb_1
          obtain ⟨v4_1, h_v4_1⟩ : ∃ z : Int32, z = v4 + 1 := ⟨_, rfl⟩
          have hf := g_let hf h_v4_1
          refine lv_iinc (v := v4_1) (lv' := [(4, .int v4_1), (0, .ref (a 0)), (1, .int x1), (2, .long x2)]) hx hb d_FB_has_33 hl (k := 3) rfl (by rw [h_v4_1]; rfl) (by decide) rfl (fun ls hl => ?_)
          refine lv_goto (tgt := 3) hx hb d_FB_has_36 (by decide) ?_
          exact ih v4_1 hf H locs ls hP hD hS (lv_sub hl [1, 2, 3, 0] rfl)
        · have hf := g_t hf cb_1
          refine lv_iconst (v := 1) hx hb d_FB_has_31 (by decide) ?_
          have hq0 := (g_some hf)
          subst hq0
          exact cx_zret hx hb hr hlocks rfl hP hS d_FB_has_32
  exact L_3 k 0 hf H locs ls hP hD hS (lv_sub hl [1, 2, 3, 0] rfl)
def f_FB_add (k : Nat) (x1 : Int32) (x2 : Int64) (fb : FBt) : Option (Int32 × FBt) :=
  (f_FB_has k x1 x2 fb).bind fun r =>
  if r = 0 then (
    if x1 < 0 ∨ 3 ≤ x1.toNatClampNeg then none else
    if (FB_known fb x1.toNatClampNeg) < 8 then (
      if ((x1 * 8) + (FB_known fb x1.toNatClampNeg)) < 0 ∨ 24 ≤ ((x1 * 8) + (FB_known fb x1.toNatClampNeg)).toNatClampNeg then none else
      some (((upd (FB_known fb) x1.toNatClampNeg ((FB_known fb x1.toNatClampNeg) + 1)) x1.toNatClampNeg), (sFB_known (sFB_values fb (vp_updL (FB_values fb) ((x1 * 8) + (FB_known fb x1.toNatClampNeg)).toNatClampNeg x2)) (upd (FB_known fb) x1.toNatClampNeg ((FB_known fb x1.toNatClampNeg) + 1))))
    ) else
    some ((-4), fb)
  ) else
  if x1 < 0 ∨ 3 ≤ x1.toNatClampNeg then none else
  some ((FB_known fb x1.toNatClampNeg), fb)
set_option maxHeartbeats 4000000 in
set_option maxRecDepth 100000 in
theorem c_FB_add (l : Launch) (dC : Nat → ClassId) (dI : Nat → Nat → Nat) (tC : Nat → ClassId) (a : Nat → Nat) (k : Nat) (x1 : Int32) (x2 : Int64) (fb : FBt) (res : Int32) (fbR : FBt) (hf : f_FB_add k x1 x2 fb = some (res, fbR)) : cx_M l y_FB_add w_FB_add { frames := 1, cells := 0, slots := 0, locals := 24 } (dC, dI) classes (tyS tC) [.ref (a 0), .int x1, .long x2] (wFB tC a fb) (wFB tC a fbR) (some (.int res)) := by
  refine cx_of (cc := b_FB_add) (maxL := 4) (ret := some .int) (plainFor_of_name (by decide)) rfl (Nat.le_of_ble_eq_true rfl) ?_
  intro p e s m below meth c hx hb hr hml hown hts hlocks A hA H locs ls hK hN hP hD hS hl
  have hown : s.vm.findClass R_FB = some m.cls := hown
  have hl : lv_has ls 4 [(0, .ref (a 0)), (1, .int x1), (2, .long x2)] := hl
  unfold f_FB_add at hf
  refine lv_aload_n hx hb d_FB_add_0 rfl (lv_at hl 0 rfl) ?_
  refine lv_iload_n hx hb d_FB_add_1 rfl (lv_at hl 1 rfl) ?_
  refine lv_lload_n hx hb d_FB_add_2 rfl (lv_at hl 2 rfl) ?_
  obtain ⟨r, hc, hf⟩ := g_bind hf
  try dsimp only at hf
  refine cx_callV (As := [.int x1, .long x2]) (rest := []) ⟨hx, hb, hml, hown, hts⟩ (c_FB_has l dC dI tC a k x1 x2 fb r hc) (k_FB_19 hts ⟨Nat.le_of_ble_eq_true rfl, Nat.le_of_ble_eq_true rfl⟩) hl.1 hP hD hS hA hK hN [0, 1, 2] 0 2 rfl rfl rfl rfl rfl rfl rfl rfl (Nat.le_of_ble_eq_true rfl) d_FB_add_3 ⟨Nat.zero_le _, Nat.zero_le _⟩ (fun H locs hP hD hS => ?_)
  have hP : va_P (dC, dI) classes (wFB tC a fb) H := hP
  have hD : va_D A (wFB tC a fb) := hD
  refine W.eq (g2 := F0 m 6 ls [.int r]) rfl ?_
  refine lv_if_eq (tgt := 16) hx hb d_FB_add_6 (by decide) (fun cb => ?_) (fun cb => ?_)
  · have hf := g_t hf cb
    refine lv_aload_n hx hb d_FB_add_16 rfl (lv_at hl 0 rfl) ?_
    refine va_get (D := (dC, dI)) (ci := 2) (v := .ref (a 2)) (C := R_FB) (T := F_FB) (N := 2) hx hb hts (in_FB _) hown hK hP 0 rfl rfl 1 (by decide) (hts _ (List.mem_cons_of_mem _ mw_31)) (fun _ h9 => h9) rfl d_FB_add_17 ?_
    refine lv_iload_n hx hb d_FB_add_20 rfl (lv_at hl 1 rfl) ?_
    obtain ⟨ck, hf⟩ := g_ck hf
    refine va_iald (D := (dC, dI)) hx hb hK hP 2 0 rfl rfl ck d_FB_add_21 ?_
    refine lv_bipush (v := 8) hx hb d_FB_add_22 (by decide) ?_
    refine lv_icmp_lt (tgt := 30) hx hb d_FB_add_24 (by decide) (fun cb_1 => ?_) (fun cb_1 => ?_)
    · have hf := g_t hf cb_1
      refine lv_aload_n hx hb d_FB_add_30 rfl (lv_at hl 0 rfl) ?_
      refine va_get (D := (dC, dI)) (ci := 2) (v := .ref (a 1)) (C := R_FB) (T := F_FB) (N := 2) hx hb hts (in_FB _) hown hK hP 0 rfl rfl 0 (by decide) (hts _ (List.mem_cons_of_mem _ mw_30)) (fun _ h9 => h9) rfl d_FB_add_31 ?_
      refine lv_iload_n hx hb d_FB_add_34 rfl (lv_at hl 1 rfl) ?_
      refine lv_bipush (v := 8) hx hb d_FB_add_35 (by decide) ?_
      refine lv_imul hx hb d_FB_add_37 ?_
      refine lv_aload_n hx hb d_FB_add_38 rfl (lv_at hl 0 rfl) ?_
      refine va_get (D := (dC, dI)) (ci := 2) (v := .ref (a 2)) (C := R_FB) (T := F_FB) (N := 2) hx hb hts (in_FB _) hown hK hP 0 rfl rfl 1 (by decide) (hts _ (List.mem_cons_of_mem _ mw_31)) (fun _ h9 => h9) rfl d_FB_add_39 ?_
      refine lv_iload_n hx hb d_FB_add_42 rfl (lv_at hl 1 rfl) ?_
      refine va_iald (D := (dC, dI)) hx hb hK hP 2 0 rfl rfl ck d_FB_add_43 ?_
      refine lv_iadd hx hb d_FB_add_44 ?_
      refine lv_lload_n hx hb d_FB_add_45 rfl (lv_at hl 2 rfl) ?_
      obtain ⟨ck_1, hf⟩ := g_ck hf
      refine va_last (D := (dC, dI)) hx hb hK hP hD hS 1 1 rfl rfl ck_1 d_FB_add_46 (fun H locs hP hD hS => ?_)
      have hP : va_P (dC, dI) classes (wFB tC a (sFB_values fb (vp_updL (FB_values fb) ((x1 * 8) + (FB_known fb x1.toNatClampNeg)).toNatClampNeg x2))) H := hP
      have hD : va_D A (wFB tC a (sFB_values fb (vp_updL (FB_values fb) ((x1 * 8) + (FB_known fb x1.toNatClampNeg)).toNatClampNeg x2))) := hD
      refine lv_aload_n hx hb d_FB_add_47 rfl (lv_at hl 0 rfl) ?_
      refine va_get (D := (dC, dI)) (ci := 2) (v := .ref (a 2)) (C := R_FB) (T := F_FB) (N := 2) hx hb hts (in_FB _) hown hK hP 0 rfl rfl 1 (by decide) (hts _ (List.mem_cons_of_mem _ mw_31)) (fun _ h9 => h9) rfl d_FB_add_48 ?_
      refine lv_iload_n hx hb d_FB_add_51 rfl (lv_at hl 1 rfl) ?_
      refine lv_dup2_11 hx hb d_FB_add_52 rfl rfl ?_
      refine va_iald (D := (dC, dI)) hx hb hK hP 2 0 rfl rfl ck d_FB_add_53 ?_
      refine lv_iconst (v := 1) hx hb d_FB_add_54 (by decide) ?_
      refine lv_iadd hx hb d_FB_add_55 ?_
      refine va_iast (D := (dC, dI)) hx hb hK hP hD hS 2 0 rfl rfl ck d_FB_add_56 (fun H locs hP hD hS => ?_)
      have hP : va_P (dC, dI) classes (wFB tC a (sFB_known (sFB_values fb (vp_updL (FB_values fb) ((x1 * 8) + (FB_known fb x1.toNatClampNeg)).toNatClampNeg x2)) (upd (FB_known fb) x1.toNatClampNeg ((FB_known fb x1.toNatClampNeg) + 1)))) H := hP
      have hD : va_D A (wFB tC a (sFB_known (sFB_values fb (vp_updL (FB_values fb) ((x1 * 8) + (FB_known fb x1.toNatClampNeg)).toNatClampNeg x2)) (upd (FB_known fb) x1.toNatClampNeg ((FB_known fb x1.toNatClampNeg) + 1)))) := hD
      refine lv_aload_n hx hb d_FB_add_57 rfl (lv_at hl 0 rfl) ?_
      refine va_get (D := (dC, dI)) (ci := 2) (v := .ref (a 2)) (C := R_FB) (T := F_FB) (N := 2) hx hb hts (in_FB _) hown hK hP 0 rfl rfl 1 (by decide) (hts _ (List.mem_cons_of_mem _ mw_31)) (fun _ h9 => h9) rfl d_FB_add_58 ?_
      refine lv_iload_n hx hb d_FB_add_61 rfl (lv_at hl 1 rfl) ?_
      refine va_iald (D := (dC, dI)) hx hb hK hP 2 0 rfl rfl ck d_FB_add_62 ?_
      obtain ⟨hq0, hr1⟩ := Prod.mk.inj (g_some hf)
      subst hq0
      subst hr1
      exact cx_iret hx hb hr hlocks hP hS d_FB_add_63
    · have hf := g_f hf cb_1
      refine lv_bipush (v := (-4)) hx hb d_FB_add_27 (by decide) ?_
      obtain ⟨hq0, hr1⟩ := Prod.mk.inj (g_some hf)
      subst hq0
      subst hr1
      exact cx_iret hx hb hr hlocks hP hS d_FB_add_29
  · have hf := g_f hf cb
    refine lv_aload_n hx hb d_FB_add_9 rfl (lv_at hl 0 rfl) ?_
    refine va_get (D := (dC, dI)) (ci := 2) (v := .ref (a 2)) (C := R_FB) (T := F_FB) (N := 2) hx hb hts (in_FB _) hown hK hP 0 rfl rfl 1 (by decide) (hts _ (List.mem_cons_of_mem _ mw_31)) (fun _ h9 => h9) rfl d_FB_add_10 ?_
    refine lv_iload_n hx hb d_FB_add_13 rfl (lv_at hl 1 rfl) ?_
    obtain ⟨ck_2, hf⟩ := g_ck hf
    refine va_iald (D := (dC, dI)) hx hb hK hP 2 0 rfl rfl ck_2 d_FB_add_14 ?_
    obtain ⟨hq0, hr1⟩ := Prod.mk.inj (g_some hf)
    subst hq0
    subst hr1
    exact cx_iret hx hb hr hlocks hP hS d_FB_add_15
