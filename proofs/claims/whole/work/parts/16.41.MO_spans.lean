def f_MO_spans_L38 (x1 : Int32) (mo_1 : MOt) : Nat → Int32 → Int32 → Option (Int32)
  | 0, _, _ => none
  | n + 1, v2, v3 =>
    if 200 ≤ v3 then (
      some v2
    ) else
    if v3 < 0 ∨ 200 ≤ v3.toNatClampNeg then none else
    if (MO_sKey mo_1 v3.toNatClampNeg) = x1 then (
      gl_let ((v2 + 1)) fun v2_3 =>
      gl_let (v3 + 1) fun v3_2 =>
      f_MO_spans_L38 x1 mo_1 n v2_3 v3_2
    ) else
    gl_let ((v2 + 0)) fun v2_2 =>
    gl_let (v3 + 1) fun v3_1 =>
    f_MO_spans_L38 x1 mo_1 n v2_2 v3_1
def f_MO_spans (k : Nat) (x1 : Int32) (mo : MOt) : Option (Int32 × MOt) :=
  if (f_MO_in (x1.toInt64) 0 7) = 0 then (
    some ((-1), (sMO_thrown mo 0))
  ) else
  if (MO_kind mo) = 3 then (
    if x1 < 0 ∨ 8 ≤ x1.toNatClampNeg then none else
    some ((MO_numbered mo x1.toNatClampNeg), (sMO_thrown mo 0))
  ) else
  gl_let ((sMO_thrown mo 0) : MOt) fun mo_1 =>
  (f_MO_spans_L38 x1 mo_1 k 0 0).bind fun v2_1 =>
  some (v2_1, mo_1)
set_option maxHeartbeats 4000000 in
set_option maxRecDepth 100000 in
theorem c_MO_spans (l : Launch) (dC : Nat → ClassId) (dI : Nat → Nat → Nat) (tC : Nat → ClassId) (a : Nat → Nat) (k : Nat) (x1 : Int32) (mo : MOt) (res : Int32) (moR : MOt) (hf : f_MO_spans k x1 mo = some (res, moR)) : cx_M l y_MO_spans w_MO_spans { frames := 1, cells := 0, slots := 0, locals := 25 } (dC, dI) classes (tyS tC) [.ref (a 0), .int x1] (wMO tC a mo) (wMO tC a moR) (some (.int res)) := by
  refine cx_of (cc := b_MO_spans) (maxL := 4) (ret := some .int) (plainFor_of_name (by decide)) rfl (Nat.le_of_ble_eq_true rfl) ?_
  intro p e s m below meth c hx hb hr hml hown hts hlocks A hA H locs ls hK hN hP hD hS hl
  have hown : s.vm.findClass R_MO = some m.cls := hown
  have hl : lv_has ls 4 [(0, .ref (a 0)), (1, .int x1)] := hl
  unfold f_MO_spans at hf
  refine lv_aload_n hx hb d_MO_spans_0 rfl (lv_at hl 0 rfl) ?_
  refine lv_iconst (v := 0) hx hb d_MO_spans_1 (by decide) ?_
  refine va_put (D := (dC, dI)) (ci := 8) (v := .int 0) (ty := .int) (C := R_MO) (T := F_MO) (N := 42) hx hb hts (in_MO _) t_MO t_MO_ok n_MO hown hK hP hD hS 0 rfl rfl 12 (by decide) (hts _ (List.mem_cons_of_mem _ mw_704)) (fun _ h9 => h9) rfl (by decide +kernel) rfl rfl (Nat.le_of_ble_eq_true rfl) d_MO_spans_2 (fun H locs hP hD hS => ?_)
  have hP : va_P (dC, dI) classes (wMO tC a (sMO_thrown mo 0)) H := hP
  have hD : va_D A (wMO tC a (sMO_thrown mo 0)) := hD
  refine lv_iload_n hx hb d_MO_spans_5 rfl (lv_at hl 1 rfl) ?_
  refine lv_i2l hx hb d_MO_spans_6 rfl ?_
  refine lv_lconst (v := 0) hx hb d_MO_spans_7 (by decide) ?_
  refine lv_ldc2 (v := 7) hx hb hown (hts _ (List.mem_cons_of_mem _ mw_892)) d_MO_spans_8 ?_
  refine cx_callS (As := [.long (x1.toInt64), .long 0, .long 7]) (rest := []) ⟨hx, hb, hml, hown, hts⟩ (c_MO_in l dC dI tC  (x1.toInt64) 0 7 (f_MO_in (x1.toInt64) 0 7) rfl) (k_MO_111 hts ⟨Nat.le_of_ble_eq_true rfl, Nat.le_of_ble_eq_true rfl⟩) hl.1 hP hD hS hA hK hN [] rfl rfl rfl rfl rfl (Nat.le_of_ble_eq_true rfl) d_MO_spans_11 ⟨Nat.zero_le _, Nat.zero_le _⟩ (fun H locs hP hD hS => ?_)
  have hP : va_P (dC, dI) classes (wMO tC a (sMO_thrown mo 0)) H := hP
  have hD : va_D A (wMO tC a (sMO_thrown mo 0)) := hD
  refine W.eq (g2 := F0 m 14 ls [.int (f_MO_in (x1.toInt64) 0 7)]) rfl ?_
  refine lv_if_ne (tgt := 19) hx hb d_MO_spans_14 (by decide) (fun cb => ?_) (fun cb => ?_)
  · have hf := g_f hf cb
    refine lv_aload_n hx hb d_MO_spans_19 rfl (lv_at hl 0 rfl) ?_
    refine va_get (D := (dC, dI)) (ci := 8) (v := .int (MO_kind mo)) (C := R_MO) (T := F_MO) (N := 42) hx hb hts (in_MO _) hown hK hP 0 rfl rfl 0 (by decide) (hts _ (List.mem_cons_of_mem _ mw_692)) (fun _ h9 => h9) rfl d_MO_spans_20 ?_
    refine lv_iconst (v := 3) hx hb d_MO_spans_23 (by decide) ?_
    refine lv_icmp_ne (tgt := 34) hx hb d_MO_spans_24 (by decide) (fun cb_1 => ?_) (fun cb_1 => ?_)
    · have hf := g_f hf cb_1
      refine lv_iconst (v := 0) hx hb d_MO_spans_34 (by decide) ?_
      refine lv_istore_n (lv' := [(2, .int 0), (0, .ref (a 0)), (1, .int x1)]) hx hb d_MO_spans_35 rfl hl (by decide) rfl (fun ls hl => ?_)
      refine lv_iconst (v := 0) hx hb d_MO_spans_36 (by decide) ?_
      refine lv_istore_n (lv' := [(3, .int 0), (2, .int 0), (0, .ref (a 0)), (1, .int x1)]) hx hb d_MO_spans_37 rfl hl (by decide) rfl (fun ls hl => ?_)
      obtain ⟨mo_1, h_mo_1⟩ : ∃ z : MOt, z = (sMO_thrown mo 0) := ⟨_, rfl⟩
      have hf := g_let hf h_mo_1
      have hP : va_P (dC, dI) classes (wMO tC a mo_1) H := by rw [h_mo_1]; exact hP
      have hD : va_D A (wMO tC a mo_1) := by rw [h_mo_1]; exact hD
      have L_38 : ∀ (n : Nat) (v2 : Int32) (v3 : Int32) (v2_1 : Int32), f_MO_spans_L38 x1 mo_1 n v2 v3 = some v2_1 → ∀ (H : Heap) (locs : List Loc) (ls : Array Slot), va_P (dC, dI) classes (wMO tC a mo_1) H → va_D A (wMO tC a mo_1) → va_S A s.heap H locs → lv_has ls 4 [(0, .ref (a 0)), (1, .int x1), (2, .int v2), (3, .int v3)] → (∀ (H : Heap) (locs : List Loc) (ls : Array Slot), va_P (dC, dI) classes (wMO tC a mo_1) H → va_D A (wMO tC a mo_1) → va_S A s.heap H locs → lv_has ls 4 [(2, .int v2_1)] → W p l e { frames := 1, cells := 0, slots := 0, locals := 25 } s m [.ref (a 0), .int x1].toArray below meth c H locs 0 0 (cx_Z (dC, dI) classes below [.ref (a 0), .int x1] s (wMO tC a moR) (some (.int res)) A) (F0 m 69 ls [])) → W p l e { frames := 1, cells := 0, slots := 0, locals := 25 } s m [.ref (a 0), .int x1].toArray below meth c H locs 0 0 (cx_Z (dC, dI) classes below [.ref (a 0), .int x1] s (wMO tC a moR) (some (.int res)) A) (F0 m 38 ls []) := by
        intro n
        induction n with
        | zero =>
          intro v2 v3 v2_1 hf
          rw [f_MO_spans_L38] at hf
          cases hf
        | succ n ih =>
          intro v2 v3 v2_1 hf H locs ls hP hD hS hl kk
          rw [f_MO_spans_L38] at hf
          refine lv_iload_n hx hb d_MO_spans_38 rfl (lv_at hl 3 rfl) ?_
          refine lv_sipush (v := 200) hx hb d_MO_spans_39 (by decide) ?_
          refine lv_icmp_ge (tgt := 69) hx hb d_MO_spans_42 (by decide) (fun cb_2 => ?_) (fun cb_2 => ?_)
          · have hf := g_t hf cb_2
            have hq0 := (g_some hf)
            subst hq0
            exact kk _ _ _ hP hD hS (lv_sub hl [2] rfl)
          · have hf := g_f hf cb_2
            refine lv_iload_n hx hb d_MO_spans_45 rfl (lv_at hl 2 rfl) ?_
            refine lv_aload_n hx hb d_MO_spans_46 rfl (lv_at hl 0 rfl) ?_
            refine va_get (D := (dC, dI)) (ci := 8) (v := .ref (a 8)) (C := R_MO) (T := F_MO) (N := 42) hx hb hts (in_MO _) hown hK hP 0 rfl rfl 21 (by decide) (hts _ (List.mem_cons_of_mem _ mw_713)) (fun _ h9 => h9) rfl d_MO_spans_47 ?_
            refine lv_iload_n hx hb d_MO_spans_50 rfl (lv_at hl 3 rfl) ?_
            obtain ⟨ck, hf⟩ := g_ck hf
            refine va_iald (D := (dC, dI)) hx hb hK hP 8 0 rfl rfl ck d_MO_spans_51 ?_
            refine lv_iload_n hx hb d_MO_spans_52 rfl (lv_at hl 1 rfl) ?_
            refine lv_icmp_ne (tgt := 60) hx hb d_MO_spans_53 (by decide) (fun cb_3 => ?_) (fun cb_3 => ?_)
            · have hf := g_f hf cb_3
              refine lv_iconst (v := 0) hx hb d_MO_spans_60 (by decide) ?_
              refine lv_iadd hx hb d_MO_spans_61 ?_
              refine lv_topi (fun v2_2 h_v2_2 => ?_)
              have hf := g_let hf h_v2_2
              refine lv_istore_n (lv' := [(2, .int v2_2), (0, .ref (a 0)), (1, .int x1), (3, .int v3)]) hx hb d_MO_spans_62 rfl hl (by decide) rfl (fun ls hl => ?_)
              obtain ⟨v3_1, h_v3_1⟩ : ∃ z : Int32, z = v3 + 1 := ⟨_, rfl⟩
              have hf := g_let hf h_v3_1
              refine lv_iinc (v := v3_1) (lv' := [(3, .int v3_1), (2, .int v2_2), (0, .ref (a 0)), (1, .int x1)]) hx hb d_MO_spans_63 hl (k := 3) rfl (by rw [h_v3_1]; rfl) (by decide) rfl (fun ls hl => ?_)
              refine lv_goto (tgt := 38) hx hb d_MO_spans_66 (by decide) ?_
              exact ih v2_2 v3_1 v2_1 hf H locs ls hP hD hS (lv_sub hl [2, 3, 1, 0] rfl) kk
            · have hf := g_t hf cb_3
              refine lv_iconst (v := 1) hx hb d_MO_spans_56 (by decide) ?_
              refine lv_goto (tgt := 61) hx hb d_MO_spans_57 (by decide) ?_
              refine lv_iadd hx hb d_MO_spans_61 ?_
              refine lv_topi (fun v2_3 h_v2_3 => ?_)
              have hf := g_let hf h_v2_3
              refine lv_istore_n (lv' := [(2, .int v2_3), (0, .ref (a 0)), (1, .int x1), (3, .int v3)]) hx hb d_MO_spans_62 rfl hl (by decide) rfl (fun ls hl => ?_)
              obtain ⟨v3_2, h_v3_2⟩ : ∃ z : Int32, z = v3 + 1 := ⟨_, rfl⟩
              have hf := g_let hf h_v3_2
              refine lv_iinc (v := v3_2) (lv' := [(3, .int v3_2), (2, .int v2_3), (0, .ref (a 0)), (1, .int x1)]) hx hb d_MO_spans_63 hl (k := 3) rfl (by rw [h_v3_2]; rfl) (by decide) rfl (fun ls hl => ?_)
              refine lv_goto (tgt := 38) hx hb d_MO_spans_66 (by decide) ?_
              exact ih v2_3 v3_2 v2_1 hf H locs ls hP hD hS (lv_sub hl [2, 3, 1, 0] rfl) kk
      obtain ⟨v2_1, hL_38, hf⟩ := g_bind hf
      try dsimp only at hf
      refine L_38 k 0 0 v2_1 hL_38 H locs ls hP hD hS (lv_sub hl [2, 3, 1, 0] rfl) (fun H locs ls hP hD hS hl => ?_)
      refine lv_iload_n hx hb d_MO_spans_69 rfl (lv_at hl 0 rfl) ?_
      obtain ⟨hq0, hr1⟩ := Prod.mk.inj (g_some hf)
      subst hq0
      subst hr1
      exact cx_iret hx hb hr hlocks hP hS d_MO_spans_70
    · have hf := g_t hf cb_1
      refine lv_aload_n hx hb d_MO_spans_27 rfl (lv_at hl 0 rfl) ?_
      refine va_get (D := (dC, dI)) (ci := 8) (v := .ref (a 16)) (C := R_MO) (T := F_MO) (N := 42) hx hb hts (in_MO _) hown hK hP 0 rfl rfl 30 (by decide) (hts _ (List.mem_cons_of_mem _ mw_722)) (fun _ h9 => h9) rfl d_MO_spans_28 ?_
      refine lv_iload_n hx hb d_MO_spans_31 rfl (lv_at hl 1 rfl) ?_
      obtain ⟨ck_1, hf⟩ := g_ck hf
      refine va_iald (D := (dC, dI)) hx hb hK hP 16 0 rfl rfl ck_1 d_MO_spans_32 ?_
      obtain ⟨hq0, hr1⟩ := Prod.mk.inj (g_some hf)
      subst hq0
      subst hr1
      exact cx_iret hx hb hr hlocks hP hS d_MO_spans_33
  · have hf := g_t hf cb
    refine lv_iconst (v := (-1)) hx hb d_MO_spans_17 (by decide) ?_
    obtain ⟨hq0, hr1⟩ := Prod.mk.inj (g_some hf)
    subst hq0
    subst hr1
    exact cx_iret hx hb hr hlocks hP hS d_MO_spans_18
