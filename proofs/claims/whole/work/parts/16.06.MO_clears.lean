def f_MO_clears_B21 (x1 : Int32) (mo : MOt) : Int32 :=
  if (MO_clears mo) = x1 then (
    0
  ) else
  1
def f_MO_clears (x1 : Int32) (mo : MOt) : Option (Int32 × MOt) :=
  if (MO_kind mo) = 3 then (
    some ((-3), (sMO_thrown mo 0))
  ) else
  gl_let ((sMO_thrown mo 0) : MOt) fun mo_1 =>
  gl_let (f_MO_clears_B21 x1 mo) fun t =>
  if ¬ (x1 = 0 ∨ x1 = 1) then none else
  some (t, (sMO_clears mo_1 x1))
set_option maxHeartbeats 4000000 in
set_option maxRecDepth 100000 in
theorem c_MO_clears (l : Launch) (dC : Nat → ClassId) (dI : Nat → Nat → Nat) (tC : Nat → ClassId) (a : Nat → Nat) (x1 : Int32) (mo : MOt) (res : Int32) (moR : MOt) (hf : f_MO_clears x1 mo = some (res, moR)) : cx_M l y_MO_clears w_MO_clears { frames := 0, cells := 0, slots := 0, locals := 0 } (dC, dI) classes (tyS tC) [.ref (a 0), .int x1] (wMO tC a mo) (wMO tC a moR) (some (.int res)) := by
  refine cx_of (cc := b_MO_clears) (maxL := 3) (ret := some .int) (plainFor_of_name (by decide)) rfl (Nat.le_of_ble_eq_true rfl) ?_
  intro p e s m below meth c hx hb hr hml hown hts hlocks A hA H locs ls hK hN hP hD hS hl
  have hown : s.vm.findClass R_MO = some m.cls := hown
  have hl : lv_has ls 3 [(0, .ref (a 0)), (1, .int x1)] := hl
  unfold f_MO_clears at hf
  refine lv_aload_n hx hb d_MO_clears_0 rfl (lv_at hl 0 rfl) ?_
  refine lv_iconst (v := 0) hx hb d_MO_clears_1 (by decide) ?_
  refine va_put (D := (dC, dI)) (ci := 8) (v := .int 0) (ty := .int) (C := R_MO) (T := F_MO) (N := 42) hx hb hts (in_MO _) t_MO t_MO_ok n_MO hown hK hP hD hS 0 rfl rfl 12 (by decide) (hts _ (List.mem_cons_of_mem _ mw_704)) (fun _ h9 => h9) rfl (by decide +kernel) rfl rfl (Nat.le_of_ble_eq_true rfl) d_MO_clears_2 (fun H locs hP hD hS => ?_)
  have hP : va_P (dC, dI) classes (wMO tC a (sMO_thrown mo 0)) H := hP
  have hD : va_D A (wMO tC a (sMO_thrown mo 0)) := hD
  refine lv_aload_n hx hb d_MO_clears_5 rfl (lv_at hl 0 rfl) ?_
  refine va_get (D := (dC, dI)) (ci := 8) (v := .int (MO_kind mo)) (C := R_MO) (T := F_MO) (N := 42) hx hb hts (in_MO _) hown hK hP 0 rfl rfl 0 (by decide) (hts _ (List.mem_cons_of_mem _ mw_692)) (fun _ h9 => h9) rfl d_MO_clears_6 ?_
  refine lv_iconst (v := 3) hx hb d_MO_clears_9 (by decide) ?_
  refine lv_icmp_ne (tgt := 16) hx hb d_MO_clears_10 (by decide) (fun cb => ?_) (fun cb => ?_)
  · have hf := g_f hf cb
    refine lv_aload_n hx hb d_MO_clears_16 rfl (lv_at hl 0 rfl) ?_
    refine va_get (D := (dC, dI)) (ci := 8) (v := .int (MO_clears mo)) (C := R_MO) (T := F_MO) (N := 42) hx hb hts (in_MO _) hown hK hP 0 rfl rfl 7 (by decide) (hts _ (List.mem_cons_of_mem _ mw_699)) (fun _ h9 => h9) rfl d_MO_clears_17 ?_
    refine lv_iload_n hx hb d_MO_clears_20 rfl (lv_at hl 1 rfl) ?_
    obtain ⟨mo_1, h_mo_1⟩ : ∃ z : MOt, z = (sMO_thrown mo 0) := ⟨_, rfl⟩
    have hf := g_let hf h_mo_1
    have hP : va_P (dC, dI) classes (wMO tC a mo_1) H := by rw [h_mo_1]; exact hP
    have hD : va_D A (wMO tC a mo_1) := by rw [h_mo_1]; exact hD
    obtain ⟨t, hB_29⟩ : ∃ z : Int32, z = f_MO_clears_B21 x1 mo := ⟨_, rfl⟩
    have hf := g_let hf hB_29
    have hB_29 := hB_29.symm
    try dsimp only at hf
    have K_29 : ∀ (H : Heap) (locs : List Loc) (ls : Array Slot), va_P (dC, dI) classes (wMO tC a mo_1) H → va_D A (wMO tC a mo_1) → va_S A s.heap H locs → lv_has ls 3 [(0, .ref (a 0)), (1, .int x1)] → W p l e { frames := 0, cells := 0, slots := 0, locals := 0 } s m [.ref (a 0), .int x1].toArray below meth c H locs 0 0 (cx_Z (dC, dI) classes below [.ref (a 0), .int x1] s (wMO tC a moR) (some (.int res)) A) (F0 m 29 ls [.int t]) := by
      intro H locs ls hP hD hS hl
      refine lv_istore_n (lv' := [(2, .int t), (0, .ref (a 0)), (1, .int x1)]) hx hb d_MO_clears_29 rfl hl (by decide) rfl (fun ls hl => ?_)
      refine lv_aload_n hx hb d_MO_clears_30 rfl (lv_at hl 1 rfl) ?_
      refine lv_iload_n hx hb d_MO_clears_31 rfl (lv_at hl 2 rfl) ?_
      obtain ⟨ck, hf⟩ := g_ck hf
      refine va_put (D := (dC, dI)) (ci := 8) (v := .int x1) (ty := .boolean) (C := R_MO) (T := F_MO) (N := 42) hx hb hts (in_MO _) t_MO t_MO_ok n_MO hown hK hP hD hS 0 rfl rfl 7 (by decide) (hts _ (List.mem_cons_of_mem _ mw_699)) (fun _ h9 => h9) rfl (by decide +kernel) (cx_nz ck) (cx_nzf ck) (Nat.le_of_ble_eq_true rfl) d_MO_clears_32 (fun H locs hP hD hS => ?_)
      have hP : va_P (dC, dI) classes (wMO tC a (sMO_clears mo_1 x1)) H := hP
      have hD : va_D A (wMO tC a (sMO_clears mo_1 x1)) := hD
      refine lv_iload_n hx hb d_MO_clears_35 rfl (lv_at hl 0 rfl) ?_
      obtain ⟨hq0, hr1⟩ := Prod.mk.inj (g_some hf)
      subst hq0
      subst hr1
      exact cx_iret hx hb hr hlocks hP hS d_MO_clears_36
    have hf := hB_29
    unfold f_MO_clears_B21 at hf
    refine lv_icmp_eq (tgt := 28) hx hb d_MO_clears_21 (by decide) (fun cb_1 => ?_) (fun cb_1 => ?_)
    · have hf := g_t hf cb_1
      refine lv_iconst (v := 0) hx hb d_MO_clears_28 (by decide) ?_
      have hq0 := hf
      subst hq0
      exact K_29 _ _ _ hP hD hS (lv_sub hl [0, 1] rfl)
    · have hf := g_f hf cb_1
      refine lv_iconst (v := 1) hx hb d_MO_clears_24 (by decide) ?_
      refine lv_goto (tgt := 29) hx hb d_MO_clears_25 (by decide) ?_
      have hq0 := hf
      subst hq0
      exact K_29 _ _ _ hP hD hS (lv_sub hl [0, 1] rfl)
  · have hf := g_t hf cb
    refine lv_bipush (v := (-3)) hx hb d_MO_clears_13 (by decide) ?_
    obtain ⟨hq0, hr1⟩ := Prod.mk.inj (g_some hf)
    subst hq0
    subst hr1
    exact cx_iret hx hb hr hlocks hP hS d_MO_clears_15
