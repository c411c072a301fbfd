def f_MO_gap_B84 (mo : MOt) (v6_1 : Int64) (v11 : Int32) : Option (Int64) :=
  if v6_1 ≤ (MO_sBegin mo v11.toNatClampNeg) then (
    some v6_1
  ) else
  some (MO_sBegin mo v11.toNatClampNeg)
def f_MO_gap_L22 (x1 : Int32) (mo : MOt) : Nat → Int64 → Int64 → Int32 → Int32 → Option (Int64 × Int64 × Int32)
  | 0, _, _, _, _ => none
  | n + 1, v6_1, v8_1, v10, v11 =>
    if 200 ≤ v11 then (
      some (v6_1, v8_1, v10)
    ) else
    if v11 < 0 ∨ 200 ≤ v11.toNatClampNeg then none else
    if (MO_sKey mo v11.toNatClampNeg) = x1 then (
      if (MO_wEnd mo (0 : Int32).toNatClampNeg) ≤ (MO_sBegin mo v11.toNatClampNeg) then (
        gl_let (v11 + 1) fun v11_2 =>
        f_MO_gap_L22 x1 mo n v6_1 v8_1 v10 v11_2
      ) else
      if (MO_sEnd mo v11.toNatClampNeg) ≤ (MO_wBegin mo (0 : Int32).toNatClampNeg) then (
        gl_let (v11 + 1) fun v11_3 =>
        f_MO_gap_L22 x1 mo n v6_1 v8_1 v10 v11_3
      ) else
      (f_MO_gap_B84 mo v6_1 v11).bind fun t =>
      if (MO_sEnd mo v11.toNatClampNeg) ≤ v8_1 then (
        gl_let (v10 + 1) fun v10_2 =>
        gl_let (v11 + 1) fun v11_4 =>
        f_MO_gap_L22 x1 mo n t v8_1 v10_2 v11_4
      ) else
      gl_let ((MO_sEnd mo v11.toNatClampNeg)) fun v8_3 =>
      gl_let (v10 + 1) fun v10_3 =>
      gl_let (v11 + 1) fun v11_5 =>
      f_MO_gap_L22 x1 mo n t v8_3 v10_3 v11_5
    ) else
    gl_let (v11 + 1) fun v11_1 =>
    f_MO_gap_L22 x1 mo n v6_1 v8_1 v10 v11_1
def f_MO_gap_L212 (k : Nat) (x1 : Int32) : Nat → Int32 → Int32 → MOt → Option (Int32 × MOt)
  | 0, _, _, _ => none
  | n + 1, v12, v13, mo_3 =>
    if 200 ≤ v13 then (
      some (v12, mo_3)
    ) else
    if v13 < 0 ∨ 200 ≤ v13.toNatClampNeg then none else
    if (MO_sKey mo_3 v13.toNatClampNeg) = x1 then (
      if (MO_wEnd mo_3 (0 : Int32).toNatClampNeg) ≤ (MO_sBegin mo_3 v13.toNatClampNeg) then (
        gl_let (v13 + 1) fun v13_2 =>
        f_MO_gap_L212 k x1 n v12 v13_2 mo_3
      ) else
      if (MO_sEnd mo_3 v13.toNatClampNeg) ≤ (MO_wBegin mo_3 (0 : Int32).toNatClampNeg) then (
        gl_let (v13 + 1) fun v13_3 =>
        f_MO_gap_L212 k x1 n v12 v13_3 mo_3
      ) else
      if v12 = (-1) then (
        gl_let (v13 + 1) fun v13_5 =>
        f_MO_gap_L212 k x1 n v13 v13_5 mo_3
      ) else
      (f_MO_join k v12 v13 mo_3).bind fun mo_5 =>
      gl_let (v13 + 1) fun v13_4 =>
      f_MO_gap_L212 k x1 n v12 v13_4 mo_5
    ) else
    gl_let (v13 + 1) fun v13_1 =>
    f_MO_gap_L212 k x1 n v12 v13_1 mo_3
def f_MO_gap_B295 (k : Nat) (x1 : Int32) (v6_2 : Int64) (v8_2 : Int64) (v12_1 : Int32) (mo_4 : MOt) : Option (Int32 × MOt) :=
  if v12_1 = (-1) then (
    (f_MO_newSpan k x1 v6_2 v8_2 mo_4).bind fun (r_1, mo_7) =>
    some (r_1, mo_7)
  ) else
  some (v12_1, mo_4)
def f_MO_gap_B340 (v8_2 : Int64) (v12_2 : Int32) (mo_6 : MOt) (mo_8 : MOt) : Int32 :=
  if (MO_sEnded mo_6 v12_2.toNatClampNeg) = 0 then (
    0
  ) else
  if (MO_now mo_8) < v8_2 then (
    0
  ) else
  1
def f_MO_gap (k : Nat) (x1 : Int32) (x2 : Int64) (x4 : Int64) (mo : MOt) : Option (Int32 × MOt) :=
  gl_let ((MO_wBegin mo (0 : Int32).toNatClampNeg)) fun v6 =>
  gl_let ((MO_wEnd mo (0 : Int32).toNatClampNeg)) fun v8 =>
  (f_MO_gap_L22 x1 mo k v6 v8 0 0).bind fun (v6_2, v8_2, v10_1) =>
  if (MO_now mo) < (v8_2 + (MO_lateness mo)) then (
    if (MO_rows mo) = 300 then (
      some ((-4), mo)
    ) else
    if (((MO_spans mo) - v10_1) + 1) ≤ 200 then (
      (f_MO_newRow k x1 x2 x4 mo).bind fun (r, mo_1) =>
      gl_let ((sMO_came mo_1 ((MO_came mo_1) + 1)) : MOt) fun mo_2 =>
      (f_MO_gap_L212 k x1 k (-1) 0 mo_2).bind fun (v12_1, mo_4) =>
      (f_MO_gap_B295 k x1 v6_2 v8_2 v12_1 mo_4).bind fun (v12_2, mo_6) =>
      if v12_2 < 0 ∨ 200 ≤ v12_2.toNatClampNeg then none else
      gl_let ((sMO_sEnd (sMO_sBegin mo_6 (vp_updL (MO_sBegin mo_6) v12_2.toNatClampNeg v6_2)) (vp_updL (MO_sEnd mo_6) v12_2.toNatClampNeg v8_2)) : MOt) fun mo_8 =>
      gl_let (f_MO_gap_B340 v8_2 v12_2 mo_6 mo_8) fun t_1 =>
      gl_let ((sMO_sEnded mo_8 (upd (MO_sEnded mo_8) v12_2.toNatClampNeg (vp_nar .boolean t_1))) : MOt) fun mo_9 =>
      (f_MO_putInto k v12_2 r mo_9).bind fun mo_10 =>
      some (1, mo_10)
    ) else
    some ((-4), mo)
  ) else
  gl_let (f_MO_drop mo) fun (r_2, mo_11) =>
  some (r_2, mo_11)
set_option maxHeartbeats 4000000 in
set_option maxRecDepth 100000 in
theorem c_MO_gap (l : Launch) (dC : Nat → ClassId) (dI : Nat → Nat → Nat) (tC : Nat → ClassId) (a : Nat → Nat) (k : Nat) (x1 : Int32) (x2 : Int64) (x4 : Int64) (mo : MOt) (res : Int32) (moR : MOt) (hf : f_MO_gap k x1 x2 x4 mo = some (res, moR)) : cx_M l y_MO_gap w_MO_gap { frames := 4, cells := 0, slots := 0, locals := 91 } (dC, dI) classes (tyS tC) [.ref (a 0), .int x1, .long x2, .long x4] (wMO tC a mo) (wMO tC a moR) (some (.int res)) := by
  refine cx_of (cc := b_MO_gap) (maxL := 14) (ret := some .int) (plainFor_of_name (by decide)) rfl (Nat.le_of_ble_eq_true rfl) ?_
  intro p e s m below meth c hx hb hr hml hown hts hlocks A hA H locs ls hK hN hP hD hS hl
  have hown : s.vm.findClass R_MO = some m.cls := hown
  have hl : lv_has ls 14 [(0, .ref (a 0)), (1, .int x1), (2, .long x2), (4, .long x4)] := hl
  unfold f_MO_gap at hf
  refine lv_aload_n hx hb d_MO_gap_0 rfl (lv_at hl 0 rfl) ?_
  refine va_get (D := (dC, dI)) (ci := 8) (v := .ref (a 19)) (C := R_MO) (T := F_MO) (N := 42) hx hb hts (in_MO _) hown hK hP 0 rfl rfl 38 (by decide) (hts _ (List.mem_cons_of_mem _ mw_730)) (fun _ h9 => h9) rfl d_MO_gap_1 ?_
  refine lv_iconst (v := 0) hx hb d_MO_gap_4 (by decide) ?_
  refine va_lald (D := (dC, dI)) hx hb hK hP 19 1 rfl rfl (show ¬ ((0 : Int32) < 0 ∨ 16 ≤ (0 : Int32).toNatClampNeg) from by decide) d_MO_gap_5 ?_
  refine lv_topl (fun v6 h_v6 => ?_)
  have hf := g_let hf h_v6
  refine lv_lstore (lv' := [(6, .long v6), (0, .ref (a 0)), (1, .int x1), (2, .long x2), (4, .long x4)]) hx hb d_MO_gap_6 hl (by decide) rfl (fun ls hl => ?_)
  refine lv_aload_n hx hb d_MO_gap_8 rfl (lv_at hl 1 rfl) ?_
  refine va_get (D := (dC, dI)) (ci := 8) (v := .ref (a 20)) (C := R_MO) (T := F_MO) (N := 42) hx hb hts (in_MO _) hown hK hP 0 rfl rfl 39 (by decide) (hts _ (List.mem_cons_of_mem _ mw_731)) (fun _ h9 => h9) rfl d_MO_gap_9 ?_
  refine lv_iconst (v := 0) hx hb d_MO_gap_12 (by decide) ?_
  refine va_lald (D := (dC, dI)) hx hb hK hP 20 1 rfl rfl (show ¬ ((0 : Int32) < 0 ∨ 16 ≤ (0 : Int32).toNatClampNeg) from by decide) d_MO_gap_13 ?_
  refine lv_topl (fun v8 h_v8 => ?_)
  have hf := g_let hf h_v8
  refine lv_lstore (lv' := [(8, .long v8), (6, .long v6), (0, .ref (a 0)), (1, .int x1), (2, .long x2), (4, .long x4)]) hx hb d_MO_gap_14 hl (by decide) rfl (fun ls hl => ?_)
  refine lv_iconst (v := 0) hx hb d_MO_gap_16 (by decide) ?_
  refine lv_istore (lv' := [(10, .int 0), (8, .long v8), (6, .long v6), (0, .ref (a 0)), (1, .int x1), (2, .long x2), (4, .long x4)]) hx hb d_MO_gap_17 hl (by decide) rfl (fun ls hl => ?_)
  refine lv_iconst (v := 0) hx hb d_MO_gap_19 (by decide) ?_
  refine lv_istore (lv' := [(11, .int 0), (10, .int 0), (8, .long v8), (6, .long v6), (0, .ref (a 0)), (1, .int x1), (2, .long x2), (4, .long x4)]) hx hb d_MO_gap_20 hl (by decide) rfl (fun ls hl => ?_)
  have L_22 : ∀ (n : Nat) (v6_1 : Int64) (v8_1 : Int64) (v10 : Int32) (v11 : Int32) (v6_2 : Int64) (v8_2 : Int64) (v10_1 : Int32), f_MO_gap_L22 x1 mo n v6_1 v8_1 v10 v11 = some (v6_2, v8_2, v10_1) → ∀ (H : Heap) (locs : List Loc) (ls : Array Slot), va_P (dC, dI) classes (wMO tC a mo) H → va_D A (wMO tC a mo) → va_S A s.heap H locs → lv_has ls 14 [(0, .ref (a 0)), (1, .int x1), (2, .long x2), (4, .long x4), (6, .long v6_1), (8, .long v8_1), (10, .int v10), (11, .int v11)] → (∀ (H : Heap) (locs : List Loc) (ls : Array Slot), va_P (dC, dI) classes (wMO tC a mo) H → va_D A (wMO tC a mo) → va_S A s.heap H locs → lv_has ls 14 [(0, .ref (a 0)), (1, .int x1), (2, .long x2), (4, .long x4), (6, .long v6_2), (8, .long v8_2), (10, .int v10_1)] → W p l e { frames := 4, cells := 0, slots := 0, locals := 91 } s m [.ref (a 0), .int x1, .long x2, .long x4].toArray below meth c H locs 0 0 (cx_Z (dC, dI) classes below [.ref (a 0), .int x1, .long x2, .long x4] s (wMO tC a moR) (some (.int res)) A) (F0 m 138 ls [])) → W p l e { frames := 4, cells := 0, slots := 0, locals := 91 } s m [.ref (a 0), .int x1, .long x2, .long x4].toArray below meth c H locs 0 0 (cx_Z (dC, dI) classes below [.ref (a 0), .int x1, .long x2, .long x4] s (wMO tC a moR) (some (.int res)) A) (F0 m 22 ls []) := by
    intro n
    induction n with
    | zero =>
      intro v6_1 v8_1 v10 v11 v6_2 v8_2 v10_1 hf
      rw [f_MO_gap_L22] at hf
      cases hf
    | succ n ih =>
      intro v6_1 v8_1 v10 v11 v6_2 v8_2 v10_1 hf H locs ls hP hD hS hl kk
      rw [f_MO_gap_L22] at hf
      refine lv_iload hx hb d_MO_gap_22 (lv_at hl 7 rfl) ?_
      refine lv_sipush (v := 200) hx hb d_MO_gap_24 (by decide) ?_
      refine lv_icmp_ge (tgt := 138) hx hb d_MO_gap_27 (by decide) (fun cb => ?_) (fun cb => ?_)
      · have hf := g_t hf cb
        obtain ⟨hq0, hr1⟩ := Prod.mk.inj (g_some hf)
        obtain ⟨hq1, hr2⟩ := Prod.mk.inj hr1
        subst hq0
        subst hq1
        subst hr2
        exact kk _ _ _ hP hD hS (lv_sub hl [0, 1, 2, 3, 4, 5, 6] rfl)
      · have hf := g_f hf cb
        refine lv_aload_n hx hb d_MO_gap_30 rfl (lv_at hl 0 rfl) ?_
        refine va_get (D := (dC, dI)) (ci := 8) (v := .ref (a 8)) (C := R_MO) (T := F_MO) (N := 42) hx hb hts (in_MO _) hown hK hP 0 rfl rfl 21 (by decide) (hts _ (List.mem_cons_of_mem _ mw_713)) (fun _ h9 => h9) rfl d_MO_gap_31 ?_
        refine lv_iload hx hb d_MO_gap_34 (lv_at hl 7 rfl) ?_
        obtain ⟨ck, hf⟩ := g_ck hf
        refine va_iald (D := (dC, dI)) hx hb hK hP 8 0 rfl rfl ck d_MO_gap_36 ?_
        refine lv_iload_n hx hb d_MO_gap_37 rfl (lv_at hl 1 rfl) ?_
        refine lv_icmp_ne (tgt := 132) hx hb d_MO_gap_38 (by decide) (fun cb_1 => ?_) (fun cb_1 => ?_)
        · have hf := g_f hf cb_1
          obtain ⟨v11_1, h_v11_1⟩ : ∃ z : Int32, z = v11 + 1 := ⟨_, rfl⟩
          have hf := g_let hf h_v11_1
          refine lv_iinc (v := v11_1) (lv' := [(11, .int v11_1), (0, .ref (a 0)), (1, .int x1), (2, .long x2), (4, .long x4), (6, .long v6_1), (8, .long v8_1), (10, .int v10)]) hx hb d_MO_gap_132 hl (k := 7) rfl (by rw [h_v11_1]; rfl) (by decide) rfl (fun ls hl => ?_)
          refine lv_goto (tgt := 22) hx hb d_MO_gap_135 (by decide) ?_
          exact ih v6_1 v8_1 v10 v11_1 v6_2 v8_2 v10_1 hf H locs ls hP hD hS (lv_sub hl [1, 2, 3, 4, 5, 6, 7, 0] rfl) kk
        · have hf := g_t hf cb_1
          refine lv_aload_n hx hb d_MO_gap_41 rfl (lv_at hl 0 rfl) ?_
          refine va_get (D := (dC, dI)) (ci := 8) (v := .ref (a 9)) (C := R_MO) (T := F_MO) (N := 42) hx hb hts (in_MO _) hown hK hP 0 rfl rfl 22 (by decide) (hts _ (List.mem_cons_of_mem _ mw_714)) (fun _ h9 => h9) rfl d_MO_gap_42 ?_
          refine lv_iload hx hb d_MO_gap_45 (lv_at hl 7 rfl) ?_
          refine va_lald (D := (dC, dI)) hx hb hK hP 9 1 rfl rfl ck d_MO_gap_47 ?_
          refine lv_aload_n hx hb d_MO_gap_48 rfl (lv_at hl 0 rfl) ?_
          refine va_get (D := (dC, dI)) (ci := 8) (v := .ref (a 20)) (C := R_MO) (T := F_MO) (N := 42) hx hb hts (in_MO _) hown hK hP 0 rfl rfl 39 (by decide) (hts _ (List.mem_cons_of_mem _ mw_731)) (fun _ h9 => h9) rfl d_MO_gap_49 ?_
          refine lv_iconst (v := 0) hx hb d_MO_gap_52 (by decide) ?_
          refine va_lald (D := (dC, dI)) hx hb hK hP 20 1 rfl rfl (show ¬ ((0 : Int32) < 0 ∨ 16 ≤ (0 : Int32).toNatClampNeg) from by decide) d_MO_gap_53 ?_
          refine cq_ge (tgt := 132) hx hb d_MO_gap_54 d_MO_gap_55 (by decide) (fun cb_2 => ?_) (fun cb_2 => ?_)
          · have hf := g_t hf cb_2
            obtain ⟨v11_2, h_v11_2⟩ : ∃ z : Int32, z = v11 + 1 := ⟨_, rfl⟩
            have hf := g_let hf h_v11_2
            refine lv_iinc (v := v11_2) (lv' := [(11, .int v11_2), (0, .ref (a 0)), (1, .int x1), (2, .long x2), (4, .long x4), (6, .long v6_1), (8, .long v8_1), (10, .int v10)]) hx hb d_MO_gap_132 hl (k := 7) rfl (by rw [h_v11_2]; rfl) (by decide) rfl (fun ls hl => ?_)
            refine lv_goto (tgt := 22) hx hb d_MO_gap_135 (by decide) ?_
            exact ih v6_1 v8_1 v10 v11_2 v6_2 v8_2 v10_1 hf H locs ls hP hD hS (lv_sub hl [1, 2, 3, 4, 5, 6, 7, 0] rfl) kk
          · have hf := g_f hf cb_2
            refine lv_aload_n hx hb d_MO_gap_58 rfl (lv_at hl 0 rfl) ?_
            refine va_get (D := (dC, dI)) (ci := 8) (v := .ref (a 19)) (C := R_MO) (T := F_MO) (N := 42) hx hb hts (in_MO _) hown hK hP 0 rfl rfl 38 (by decide) (hts _ (List.mem_cons_of_mem _ mw_730)) (fun _ h9 => h9) rfl d_MO_gap_59 ?_
            refine lv_iconst (v := 0) hx hb d_MO_gap_62 (by decide) ?_
            refine va_lald (D := (dC, dI)) hx hb hK hP 19 1 rfl rfl (show ¬ ((0 : Int32) < 0 ∨ 16 ≤ (0 : Int32).toNatClampNeg) from by decide) d_MO_gap_63 ?_
            refine lv_aload_n hx hb d_MO_gap_64 rfl (lv_at hl 0 rfl) ?_
            refine va_get (D := (dC, dI)) (ci := 8) (v := .ref (a 10)) (C := R_MO) (T := F_MO) (N := 42) hx hb hts (in_MO _) hown hK hP 0 rfl rfl 23 (by decide) (hts _ (List.mem_cons_of_mem _ mw_715)) (fun _ h9 => h9) rfl d_MO_gap_65 ?_
            refine lv_iload hx hb d_MO_gap_68 (lv_at hl 7 rfl) ?_
            refine va_lald (D := (dC, dI)) hx hb hK hP 10 1 rfl rfl ck d_MO_gap_70 ?_
            refine cq_ge (tgt := 132) hx hb d_MO_gap_71 d_MO_gap_72 (by decide) (fun cb_3 => ?_) (fun cb_3 => ?_)
            · have hf := g_t hf cb_3
              obtain ⟨v11_3, h_v11_3⟩ : ∃ z : Int32, z = v11 + 1 := ⟨_, rfl⟩
              have hf := g_let hf h_v11_3
              refine lv_iinc (v := v11_3) (lv' := [(11, .int v11_3), (0, .ref (a 0)), (1, .int x1), (2, .long x2), (4, .long x4), (6, .long v6_1), (8, .long v8_1), (10, .int v10)]) hx hb d_MO_gap_132 hl (k := 7) rfl (by rw [h_v11_3]; rfl) (by decide) rfl (fun ls hl => ?_)
              refine lv_goto (tgt := 22) hx hb d_MO_gap_135 (by decide) ?_
              exact ih v6_1 v8_1 v10 v11_3 v6_2 v8_2 v10_1 hf H locs ls hP hD hS (lv_sub hl [1, 2, 3, 4, 5, 6, 7, 0] rfl) kk
            · have hf := g_f hf cb_3
              refine lv_aload_n hx hb d_MO_gap_75 rfl (lv_at hl 0 rfl) ?_
              refine va_get (D := (dC, dI)) (ci := 8) (v := .ref (a 9)) (C := R_MO) (T := F_MO) (N := 42) hx hb hts (in_MO _) hown hK hP 0 rfl rfl 22 (by decide) (hts _ (List.mem_cons_of_mem _ mw_714)) (fun _ h9 => h9) rfl d_MO_gap_76 ?_
              refine lv_iload hx hb d_MO_gap_79 (lv_at hl 7 rfl) ?_
              refine va_lald (D := (dC, dI)) hx hb hK hP 9 1 rfl rfl ck d_MO_gap_81 ?_
              refine lv_lload hx hb d_MO_gap_82 (lv_at hl 4 rfl) ?_
              obtain ⟨t, hB_100, hf⟩ := g_bind hf
              try dsimp only at hf
              have K_100 : ∀ (H : Heap) (locs : List Loc) (ls : Array Slot), va_P (dC, dI) classes (wMO tC a mo) H → va_D A (wMO tC a mo) → va_S A s.heap H locs → lv_has ls 14 [(0, .ref (a 0)), (1, .int x1), (2, .long x2), (4, .long x4), (8, .long v8_1), (10, .int v10), (11, .int v11)] → W p l e { frames := 4, cells := 0, slots := 0, locals := 91 } s m [.ref (a 0), .int x1, .long x2, .long x4].toArray below meth c H locs 0 0 (cx_Z (dC, dI) classes below [.ref (a 0), .int x1, .long x2, .long x4] s (wMO tC a moR) (some (.int res)) A) (F0 m 100 ls [.long t]) := by
                intro H locs ls hP hD hS hl
                refine lv_lstore (lv' := [(6, .long t), (0, .ref (a 0)), (1, .int x1), (2, .long x2), (4, .long x4), (8, .long v8_1), (10, .int v10), (11, .int v11)]) hx hb d_MO_gap_100 hl (by decide) rfl (fun ls hl => ?_)
                refine lv_aload_n hx hb d_MO_gap_102 rfl (lv_at hl 1 rfl) ?_
                refine va_get (D := (dC, dI)) (ci := 8) (v := .ref (a 10)) (C := R_MO) (T := F_MO) (N := 42) hx hb hts (in_MO _) hown hK hP 0 rfl rfl 23 (by decide) (hts _ (List.mem_cons_of_mem _ mw_715)) (fun _ h9 => h9) rfl d_MO_gap_103 ?_
                refine lv_iload hx hb d_MO_gap_106 (lv_at hl 7 rfl) ?_
                refine va_lald (D := (dC, dI)) hx hb hK hP 10 1 rfl rfl ck d_MO_gap_108 ?_
                refine lv_lload hx hb d_MO_gap_109 (lv_at hl 5 rfl) ?_
                refine cq_le (tgt := 125) hx hb d_MO_gap_111 d_MO_gap_112 (by decide) (fun cb_5 => ?_) (fun cb_5 => ?_)
                · have hf := g_t hf cb_5
                  refine lv_lload hx hb d_MO_gap_125 (lv_at hl 5 rfl) ?_
                  refine lv_lstore (lv' := [(8, .long v8_1), (6, .long t), (0, .ref (a 0)), (1, .int x1), (2, .long x2), (4, .long x4), (10, .int v10), (11, .int v11)]) hx hb d_MO_gap_127 hl (by decide) rfl (fun ls hl => ?_)
                  obtain ⟨v10_2, h_v10_2⟩ : ∃ z : Int32, z = v10 + 1 := ⟨_, rfl⟩
                  have hf := g_let hf h_v10_2
                  refine lv_iinc (v := v10_2) (lv' := [(10, .int v10_2), (8, .long v8_1), (6, .long t), (0, .ref (a 0)), (1, .int x1), (2, .long x2), (4, .long x4), (11, .int v11)]) hx hb d_MO_gap_129 hl (k := 6) rfl (by rw [h_v10_2]; rfl) (by decide) rfl (fun ls hl => ?_)
                  obtain ⟨v11_4, h_v11_4⟩ : ∃ z : Int32, z = v11 + 1 := ⟨_, rfl⟩
                  have hf := g_let hf h_v11_4
                  refine lv_iinc (v := v11_4) (lv' := [(11, .int v11_4), (10, .int v10_2), (8, .long v8_1), (6, .long t), (0, .ref (a 0)), (1, .int x1), (2, .long x2), (4, .long x4)]) hx hb d_MO_gap_132 hl (k := 7) rfl (by rw [h_v11_4]; rfl) (by decide) rfl (fun ls hl => ?_)
                  refine lv_goto (tgt := 22) hx hb d_MO_gap_135 (by decide) ?_
                  exact ih t v8_1 v10_2 v11_4 v6_2 v8_2 v10_1 hf H locs ls hP hD hS (lv_sub hl [4, 5, 6, 7, 3, 2, 1, 0] rfl) kk
                · have hf := g_f hf cb_5
                  refine lv_aload_n hx hb d_MO_gap_115 rfl (lv_at hl 1 rfl) ?_
                  refine va_get (D := (dC, dI)) (ci := 8) (v := .ref (a 10)) (C := R_MO) (T := F_MO) (N := 42) hx hb hts (in_MO _) hown hK hP 0 rfl rfl 23 (by decide) (hts _ (List.mem_cons_of_mem _ mw_715)) (fun _ h9 => h9) rfl d_MO_gap_116 ?_
                  refine lv_iload hx hb d_MO_gap_119 (lv_at hl 7 rfl) ?_
                  refine va_lald (D := (dC, dI)) hx hb hK hP 10 1 rfl rfl ck d_MO_gap_121 ?_
                  refine lv_goto (tgt := 127) hx hb d_MO_gap_122 (by decide) ?_
                  refine lv_topl (fun v8_3 h_v8_3 => ?_)
                  have hf := g_let hf h_v8_3
                  refine lv_lstore (lv' := [(8, .long v8_3), (6, .long t), (0, .ref (a 0)), (1, .int x1), (2, .long x2), (4, .long x4), (10, .int v10), (11, .int v11)]) hx hb d_MO_gap_127 hl (by decide) rfl (fun ls hl => ?_)
                  obtain ⟨v10_3, h_v10_3⟩ : ∃ z : Int32, z = v10 + 1 := ⟨_, rfl⟩
                  have hf := g_let hf h_v10_3
                  refine lv_iinc (v := v10_3) (lv' := [(10, .int v10_3), (8, .long v8_3), (6, .long t), (0, .ref (a 0)), (1, .int x1), (2, .long x2), (4, .long x4), (11, .int v11)]) hx hb d_MO_gap_129 hl (k := 6) rfl (by rw [h_v10_3]; rfl) (by decide) rfl (fun ls hl => ?_)
                  obtain ⟨v11_5, h_v11_5⟩ : ∃ z : Int32, z = v11 + 1 := ⟨_, rfl⟩
                  have hf := g_let hf h_v11_5
                  refine lv_iinc (v := v11_5) (lv' := [(11, .int v11_5), (10, .int v10_3), (8, .long v8_3), (6, .long t), (0, .ref (a 0)), (1, .int x1), (2, .long x2), (4, .long x4)]) hx hb d_MO_gap_132 hl (k := 7) rfl (by rw [h_v11_5]; rfl) (by decide) rfl (fun ls hl => ?_)
                  refine lv_goto (tgt := 22) hx hb d_MO_gap_135 (by decide) ?_
                  exact ih t v8_3 v10_3 v11_5 v6_2 v8_2 v10_1 hf H locs ls hP hD hS (lv_sub hl [4, 5, 6, 7, 3, 2, 1, 0] rfl) kk
              have hf := hB_100
              unfold f_MO_gap_B84 at hf
              refine cq_ge (tgt := 98) hx hb d_MO_gap_84 d_MO_gap_85 (by decide) (fun cb_4 => ?_) (fun cb_4 => ?_)
              · have hf := g_t hf cb_4
                refine lv_lload hx hb d_MO_gap_98 (lv_at hl 4 rfl) ?_
                have hq0 := (g_some hf)
                subst hq0
                exact K_100 _ _ _ hP hD hS (lv_sub hl [0, 1, 2, 3, 5, 6, 7] rfl)
              · have hf := g_f hf cb_4
                refine lv_aload_n hx hb d_MO_gap_88 rfl (lv_at hl 0 rfl) ?_
                refine va_get (D := (dC, dI)) (ci := 8) (v := .ref (a 9)) (C := R_MO) (T := F_MO) (N := 42) hx hb hts (in_MO _) hown hK hP 0 rfl rfl 22 (by decide) (hts _ (List.mem_cons_of_mem _ mw_714)) (fun _ h9 => h9) rfl d_MO_gap_89 ?_
                refine lv_iload hx hb d_MO_gap_92 (lv_at hl 7 rfl) ?_
                refine va_lald (D := (dC, dI)) hx hb hK hP 9 1 rfl rfl ck d_MO_gap_94 ?_
                refine lv_goto (tgt := 100) hx hb d_MO_gap_95 (by decide) ?_
                have hq0 := (g_some hf)
                subst hq0
                exact K_100 _ _ _ hP hD hS (lv_sub hl [0, 1, 2, 3, 5, 6, 7] rfl)
  obtain ⟨⟨v6_2, v8_2, v10_1⟩, hL_22, hf⟩ := g_bind hf
  try dsimp only at hf
  refine L_22 k v6 v8 0 0 v6_2 v8_2 v10_1 hL_22 H locs ls hP hD hS (lv_sub hl [4, 5, 6, 7, 3, 2, 1, 0] rfl) (fun H locs ls hP hD hS hl => ?_)
  refine lv_lload hx hb d_MO_gap_138 (lv_at hl 5 rfl) ?_
  refine lv_aload_n hx hb d_MO_gap_140 rfl (lv_at hl 0 rfl) ?_
  refine va_get (D := (dC, dI)) (ci := 8) (v := .long (MO_lateness mo)) (C := R_MO) (T := F_MO) (N := 42) hx hb hts (in_MO _) hown hK hP 0 rfl rfl 4 (by decide) (hts _ (List.mem_cons_of_mem _ mw_696)) (fun _ h9 => h9) rfl d_MO_gap_141 ?_
  refine lv_ladd hx hb d_MO_gap_144 ?_
  refine lv_aload_n hx hb d_MO_gap_145 rfl (lv_at hl 0 rfl) ?_
  refine va_get (D := (dC, dI)) (ci := 8) (v := .long (MO_now mo)) (C := R_MO) (T := F_MO) (N := 42) hx hb hts (in_MO _) hown hK hP 0 rfl rfl 11 (by decide) (hts _ (List.mem_cons_of_mem _ mw_703)) (fun _ h9 => h9) rfl d_MO_gap_146 ?_
  refine cq_gt (tgt := 158) hx hb d_MO_gap_149 d_MO_gap_150 (by decide) (fun cb_6 => ?_) (fun cb_6 => ?_)
  · have hf := g_t hf cb_6
    refine lv_aload_n hx hb d_MO_gap_158 rfl (lv_at hl 0 rfl) ?_
    refine va_get (D := (dC, dI)) (ci := 8) (v := .int (MO_rows mo)) (C := R_MO) (T := F_MO) (N := 42) hx hb hts (in_MO _) hown hK hP 0 rfl rfl 18 (by decide) (hts _ (List.mem_cons_of_mem _ mw_710)) (fun _ h9 => h9) rfl d_MO_gap_159 ?_
    refine lv_sipush (v := 300) hx hb d_MO_gap_162 (by decide) ?_
    refine lv_icmp_eq (tgt := 183) hx hb d_MO_gap_165 (by decide) (fun cb_7 => ?_) (fun cb_7 => ?_)
    · have hf := g_t hf cb_7
      refine lv_bipush (v := (-4)) hx hb d_MO_gap_183 (by decide) ?_
      obtain ⟨hq0, hr1⟩ := Prod.mk.inj (g_some hf)
      subst hq0
      subst hr1
      exact cx_iret hx hb hr hlocks hP hS d_MO_gap_185
    · have hf := g_f hf cb_7
      refine lv_aload_n hx hb d_MO_gap_168 rfl (lv_at hl 0 rfl) ?_
      refine va_get (D := (dC, dI)) (ci := 8) (v := .int (MO_spans mo)) (C := R_MO) (T := F_MO) (N := 42) hx hb hts (in_MO _) hown hK hP 0 rfl rfl 29 (by decide) (hts _ (List.mem_cons_of_mem _ mw_721)) (fun _ h9 => h9) rfl d_MO_gap_169 ?_
      refine lv_iload hx hb d_MO_gap_172 (lv_at hl 6 rfl) ?_
      refine lv_isub hx hb d_MO_gap_174 ?_
      refine lv_iconst (v := 1) hx hb d_MO_gap_175 (by decide) ?_
      refine lv_iadd hx hb d_MO_gap_176 ?_
      refine lv_sipush (v := 200) hx hb d_MO_gap_177 (by decide) ?_
      refine lv_icmp_le (tgt := 186) hx hb d_MO_gap_180 (by decide) (fun cb_8 => ?_) (fun cb_8 => ?_)
      · have hf := g_t hf cb_8
        refine lv_aload_n hx hb d_MO_gap_186 rfl (lv_at hl 0 rfl) ?_
        refine lv_iload_n hx hb d_MO_gap_187 rfl (lv_at hl 1 rfl) ?_
        refine lv_lload_n hx hb d_MO_gap_188 rfl (lv_at hl 2 rfl) ?_
        refine lv_lload hx hb d_MO_gap_189 (lv_at hl 3 rfl) ?_
        obtain ⟨⟨r, mo_1⟩, hc, hf⟩ := g_bind hf
        try dsimp only at hf
        refine cx3_callV (As := [.int x1, .long x2, .long x4]) (rest := []) (wMO tC a mo_1) ⟨hx, hb, hml, hown, hts⟩ (c_MO_newRow l dC dI tC a k x1 x2 x4 mo r mo_1 hc) (k_MO_261 hts ⟨Nat.le_of_ble_eq_true rfl, Nat.le_of_ble_eq_true rfl⟩) hl.1 hP hD hS hA hK hN 0 8 rfl rfl rfl (adMO _ _ _ _) rfl rfl (Nat.le_of_ble_eq_true rfl) d_MO_gap_191 ⟨Nat.zero_le _, Nat.zero_le _⟩ (fun H locs hP hD hS => ?_)
        refine W.eq (g2 := F0 m 194 ls [.int r]) rfl ?_
        refine lv_istore (lv' := [(11, .int r), (0, .ref (a 0)), (1, .int x1), (2, .long x2), (4, .long x4), (6, .long v6_2), (8, .long v8_2), (10, .int v10_1)]) hx hb d_MO_gap_194 hl (by decide) rfl (fun ls hl => ?_)
        refine lv_aload_n hx hb d_MO_gap_196 rfl (lv_at hl 1 rfl) ?_
        refine lv_dup hx hb d_MO_gap_197 rfl ?_
        refine va_get (D := (dC, dI)) (ci := 8) (v := .int (MO_came mo_1)) (C := R_MO) (T := F_MO) (N := 42) hx hb hts (in_MO _) hown hK hP 0 rfl rfl 19 (by decide) (hts _ (List.mem_cons_of_mem _ mw_711)) (fun _ h9 => h9) rfl d_MO_gap_198 ?_
        refine lv_iconst (v := 1) hx hb d_MO_gap_201 (by decide) ?_
        refine lv_iadd hx hb d_MO_gap_202 ?_
        refine va_put (D := (dC, dI)) (ci := 8) (v := .int ((MO_came mo_1) + 1)) (ty := .int) (C := R_MO) (T := F_MO) (N := 42) hx hb hts (in_MO _) t_MO t_MO_ok n_MO hown hK hP hD hS 0 rfl rfl 19 (by decide) (hts _ (List.mem_cons_of_mem _ mw_711)) (fun _ h9 => h9) rfl (by decide +kernel) rfl rfl (Nat.le_of_ble_eq_true rfl) d_MO_gap_203 (fun H locs hP hD hS => ?_)
        have hP : va_P (dC, dI) classes (wMO tC a (sMO_came mo_1 ((MO_came mo_1) + 1))) H := hP
        have hD : va_D A (wMO tC a (sMO_came mo_1 ((MO_came mo_1) + 1))) := hD
        refine lv_iconst (v := (-1)) hx hb d_MO_gap_206 (by decide) ?_
        refine lv_istore (lv' := [(12, .int (-1)), (11, .int r), (0, .ref (a 0)), (1, .int x1), (2, .long x2), (4, .long x4), (6, .long v6_2), (8, .long v8_2), (10, .int v10_1)]) hx hb d_MO_gap_207 hl (by decide) rfl (fun ls hl => ?_)
        refine lv_iconst (v := 0) hx hb d_MO_gap_209 (by decide) ?_
        refine lv_istore (lv' := [(13, .int 0), (12, .int (-1)), (11, .int r), (0, .ref (a 0)), (1, .int x1), (2, .long x2), (4, .long x4), (6, .long v6_2), (8, .long v8_2), (10, .int v10_1)]) hx hb d_MO_gap_210 hl (by decide) rfl (fun ls hl => ?_)
        obtain ⟨mo_2, h_mo_2⟩ : ∃ z : MOt, z = (sMO_came mo_1 ((MO_came mo_1) + 1)) := ⟨_, rfl⟩
        have hf := g_let hf h_mo_2
        have hP : va_P (dC, dI) classes (wMO tC a mo_2) H := by rw [h_mo_2]; exact hP
        have hD : va_D A (wMO tC a mo_2) := by rw [h_mo_2]; exact hD
        have L_212 : ∀ (n : Nat) (v12 : Int32) (v13 : Int32) (mo_3 : MOt) (v12_1 : Int32) (mo_4 : MOt), f_MO_gap_L212 k x1 n v12 v13 mo_3 = some (v12_1, mo_4) → ∀ (H : Heap) (locs : List Loc) (ls : Array Slot), va_P (dC, dI) classes (wMO tC a mo_3) H → va_D A (wMO tC a mo_3) → va_S A s.heap H locs → lv_has ls 14 [(0, .ref (a 0)), (1, .int x1), (6, .long v6_2), (8, .long v8_2), (11, .int r), (12, .int v12), (13, .int v13)] → (∀ (H : Heap) (locs : List Loc) (ls : Array Slot), va_P (dC, dI) classes (wMO tC a mo_4) H → va_D A (wMO tC a mo_4) → va_S A s.heap H locs → lv_has ls 14 [(0, .ref (a 0)), (1, .int x1), (6, .long v6_2), (8, .long v8_2), (11, .int r), (12, .int v12_1)] → W p l e { frames := 4, cells := 0, slots := 0, locals := 91 } s m [.ref (a 0), .int x1, .long x2, .long x4].toArray below meth c H locs 0 0 (cx_Z (dC, dI) classes below [.ref (a 0), .int x1, .long x2, .long x4] s (wMO tC a moR) (some (.int res)) A) (F0 m 292 ls [])) → W p l e { frames := 4, cells := 0, slots := 0, locals := 91 } s m [.ref (a 0), .int x1, .long x2, .long x4].toArray below meth c H locs 0 0 (cx_Z (dC, dI) classes below [.ref (a 0), .int x1, .long x2, .long x4] s (wMO tC a moR) (some (.int res)) A) (F0 m 212 ls []) := by
          intro n
          induction n with
          | zero =>
            intro v12 v13 mo_3 v12_1 mo_4 hf
            rw [f_MO_gap_L212] at hf
            cases hf
          | succ n ih =>
            intro v12 v13 mo_3 v12_1 mo_4 hf H locs ls hP hD hS hl kk
            rw [f_MO_gap_L212] at hf
            refine lv_iload hx hb d_MO_gap_212 (lv_at hl 6 rfl) ?_
            refine lv_sipush (v := 200) hx hb d_MO_gap_214 (by decide) ?_
            refine lv_icmp_ge (tgt := 292) hx hb d_MO_gap_217 (by decide) (fun cb_9 => ?_) (fun cb_9 => ?_)
            · have hf := g_t hf cb_9
              obtain ⟨hq0, hr1⟩ := Prod.mk.inj (g_some hf)
              subst hq0
              subst hr1
              exact kk _ _ _ hP hD hS (lv_sub hl [0, 1, 2, 3, 4, 5] rfl)
            · have hf := g_f hf cb_9
              refine lv_aload_n hx hb d_MO_gap_220 rfl (lv_at hl 0 rfl) ?_
              refine va_get (D := (dC, dI)) (ci := 8) (v := .ref (a 8)) (C := R_MO) (T := F_MO) (N := 42) hx hb hts (in_MO _) hown hK hP 0 rfl rfl 21 (by decide) (hts _ (List.mem_cons_of_mem _ mw_713)) (fun _ h9 => h9) rfl d_MO_gap_221 ?_
              refine lv_iload hx hb d_MO_gap_224 (lv_at hl 6 rfl) ?_
              obtain ⟨ck_1, hf⟩ := g_ck hf
              refine va_iald (D := (dC, dI)) hx hb hK hP 8 0 rfl rfl ck_1 d_MO_gap_226 ?_
              refine lv_iload_n hx hb d_MO_gap_227 rfl (lv_at hl 1 rfl) ?_
              refine lv_icmp_ne (tgt := 286) hx hb d_MO_gap_228 (by decide) (fun cb_10 => ?_) (fun cb_10 => ?_)
              · have hf := g_f hf cb_10
                obtain ⟨v13_1, h_v13_1⟩ : ∃ z : Int32, z = v13 + 1 := ⟨_, rfl⟩
                have hf := g_let hf h_v13_1
                refine lv_iinc (v := v13_1) (lv' := [(13, .int v13_1), (0, .ref (a 0)), (1, .int x1), (6, .long v6_2), (8, .long v8_2), (11, .int r), (12, .int v12)]) hx hb d_MO_gap_286 hl (k := 6) rfl (by rw [h_v13_1]; rfl) (by decide) rfl (fun ls hl => ?_)
                refine lv_goto (tgt := 212) hx hb d_MO_gap_289 (by decide) ?_
                exact ih v12 v13_1 mo_3 v12_1 mo_4 hf H locs ls hP hD hS (lv_sub hl [1, 2, 3, 4, 5, 6, 0] rfl) kk
              · have hf := g_t hf cb_10
                refine lv_aload_n hx hb d_MO_gap_231 rfl (lv_at hl 0 rfl) ?_
                refine va_get (D := (dC, dI)) (ci := 8) (v := .ref (a 9)) (C := R_MO) (T := F_MO) (N := 42) hx hb hts (in_MO _) hown hK hP 0 rfl rfl 22 (by decide) (hts _ (List.mem_cons_of_mem _ mw_714)) (fun _ h9 => h9) rfl d_MO_gap_232 ?_
                refine lv_iload hx hb d_MO_gap_235 (lv_at hl 6 rfl) ?_
                refine va_lald (D := (dC, dI)) hx hb hK hP 9 1 rfl rfl ck_1 d_MO_gap_237 ?_
                refine lv_aload_n hx hb d_MO_gap_238 rfl (lv_at hl 0 rfl) ?_
                refine va_get (D := (dC, dI)) (ci := 8) (v := .ref (a 20)) (C := R_MO) (T := F_MO) (N := 42) hx hb hts (in_MO _) hown hK hP 0 rfl rfl 39 (by decide) (hts _ (List.mem_cons_of_mem _ mw_731)) (fun _ h9 => h9) rfl d_MO_gap_239 ?_
                refine lv_iconst (v := 0) hx hb d_MO_gap_242 (by decide) ?_
                refine va_lald (D := (dC, dI)) hx hb hK hP 20 1 rfl rfl (show ¬ ((0 : Int32) < 0 ∨ 16 ≤ (0 : Int32).toNatClampNeg) from by decide) d_MO_gap_243 ?_
                refine cq_ge (tgt := 286) hx hb d_MO_gap_244 d_MO_gap_245 (by decide) (fun cb_11 => ?_) (fun cb_11 => ?_)
                · have hf := g_t hf cb_11
                  obtain ⟨v13_2, h_v13_2⟩ : ∃ z : Int32, z = v13 + 1 := ⟨_, rfl⟩
                  have hf := g_let hf h_v13_2
                  refine lv_iinc (v := v13_2) (lv' := [(13, .int v13_2), (0, .ref (a 0)), (1, .int x1), (6, .long v6_2), (8, .long v8_2), (11, .int r), (12, .int v12)]) hx hb d_MO_gap_286 hl (k := 6) rfl (by rw [h_v13_2]; rfl) (by decide) rfl (fun ls hl => ?_)
                  refine lv_goto (tgt := 212) hx hb d_MO_gap_289 (by decide) ?_
                  exact ih v12 v13_2 mo_3 v12_1 mo_4 hf H locs ls hP hD hS (lv_sub hl [1, 2, 3, 4, 5, 6, 0] rfl) kk
                · have hf := g_f hf cb_11
                  refine lv_aload_n hx hb d_MO_gap_248 rfl (lv_at hl 0 rfl) ?_
                  refine va_get (D := (dC, dI)) (ci := 8) (v := .ref (a 19)) (C := R_MO) (T := F_MO) (N := 42) hx hb hts (in_MO _) hown hK hP 0 rfl rfl 38 (by decide) (hts _ (List.mem_cons_of_mem _ mw_730)) (fun _ h9 => h9) rfl d_MO_gap_249 ?_
                  refine lv_iconst (v := 0) hx hb d_MO_gap_252 (by decide) ?_
                  refine va_lald (D := (dC, dI)) hx hb hK hP 19 1 rfl rfl (show ¬ ((0 : Int32) < 0 ∨ 16 ≤ (0 : Int32).toNatClampNeg) from by decide) d_MO_gap_253 ?_
                  refine lv_aload_n hx hb d_MO_gap_254 rfl (lv_at hl 0 rfl) ?_
                  refine va_get (D := (dC, dI)) (ci := 8) (v := .ref (a 10)) (C := R_MO) (T := F_MO) (N := 42) hx hb hts (in_MO _) hown hK hP 0 rfl rfl 23 (by decide) (hts _ (List.mem_cons_of_mem _ mw_715)) (fun _ h9 => h9) rfl d_MO_gap_255 ?_
                  refine lv_iload hx hb d_MO_gap_258 (lv_at hl 6 rfl) ?_
                  refine va_lald (D := (dC, dI)) hx hb hK hP 10 1 rfl rfl ck_1 d_MO_gap_260 ?_
                  refine cq_ge (tgt := 286) hx hb d_MO_gap_261 d_MO_gap_262 (by decide) (fun cb_12 => ?_) (fun cb_12 => ?_)
                  · have hf := g_t hf cb_12
                    obtain ⟨v13_3, h_v13_3⟩ : ∃ z : Int32, z = v13 + 1 := ⟨_, rfl⟩
                    have hf := g_let hf h_v13_3
                    refine lv_iinc (v := v13_3) (lv' := [(13, .int v13_3), (0, .ref (a 0)), (1, .int x1), (6, .long v6_2), (8, .long v8_2), (11, .int r), (12, .int v12)]) hx hb d_MO_gap_286 hl (k := 6) rfl (by rw [h_v13_3]; rfl) (by decide) rfl (fun ls hl => ?_)
                    refine lv_goto (tgt := 212) hx hb d_MO_gap_289 (by decide) ?_
                    exact ih v12 v13_3 mo_3 v12_1 mo_4 hf H locs ls hP hD hS (lv_sub hl [1, 2, 3, 4, 5, 6, 0] rfl) kk
                  · have hf := g_f hf cb_12
                    refine lv_iload hx hb d_MO_gap_265 (lv_at hl 5 rfl) ?_
                    refine lv_iconst (v := (-1)) hx hb d_MO_gap_267 (by decide) ?_
                    refine lv_icmp_ne (tgt := 278) hx hb d_MO_gap_268 (by decide) (fun cb_13 => ?_) (fun cb_13 => ?_)
                    · have hf := g_f hf cb_13
                      refine lv_aload_n hx hb d_MO_gap_278 rfl (lv_at hl 0 rfl) ?_
                      refine lv_iload hx hb d_MO_gap_279 (lv_at hl 5 rfl) ?_
                      refine lv_iload hx hb d_MO_gap_281 (lv_at hl 6 rfl) ?_
                      obtain ⟨mo_5, hc_1, hf⟩ := g_bind hf
                      try dsimp only at hf
                      refine cx3_callV (As := [.int v12, .int v13]) (rest := []) (wMO tC a mo_5) ⟨hx, hb, hml, hown, hts⟩ (c_MO_join l dC dI tC a k v12 v13 mo_3 mo_5 hc_1) (k_MO_273 hts ⟨Nat.le_of_ble_eq_true rfl, Nat.le_of_ble_eq_true rfl⟩) hl.1 hP hD hS hA hK hN 0 8 rfl rfl rfl (adMO _ _ _ _) rfl rfl (Nat.le_of_ble_eq_true rfl) d_MO_gap_283 ⟨Nat.zero_le _, Nat.zero_le _⟩ (fun H locs hP hD hS => ?_)
                      refine W.eq (g2 := F0 m 286 ls []) rfl ?_
                      obtain ⟨v13_4, h_v13_4⟩ : ∃ z : Int32, z = v13 + 1 := ⟨_, rfl⟩
                      have hf := g_let hf h_v13_4
                      refine lv_iinc (v := v13_4) (lv' := [(13, .int v13_4), (0, .ref (a 0)), (1, .int x1), (6, .long v6_2), (8, .long v8_2), (11, .int r), (12, .int v12)]) hx hb d_MO_gap_286 hl (k := 6) rfl (by rw [h_v13_4]; rfl) (by decide) rfl (fun ls hl => ?_)
                      refine lv_goto (tgt := 212) hx hb d_MO_gap_289 (by decide) ?_
                      exact ih v12 v13_4 mo_5 v12_1 mo_4 hf H locs ls hP hD hS (lv_sub hl [1, 2, 3, 4, 5, 6, 0] rfl) kk
                    · have hf := g_t hf cb_13
                      refine lv_iload hx hb d_MO_gap_271 (lv_at hl 6 rfl) ?_
                      refine lv_istore (lv' := [(12, .int v13), (0, .ref (a 0)), (1, .int x1), (6, .long v6_2), (8, .long v8_2), (11, .int r), (13, .int v13)]) hx hb d_MO_gap_273 hl (by decide) rfl (fun ls hl => ?_)
                      refine lv_goto (tgt := 286) hx hb d_MO_gap_275 (by decide) ?_
                      obtain ⟨v13_5, h_v13_5⟩ : ∃ z : Int32, z = v13 + 1 := ⟨_, rfl⟩
                      have hf := g_let hf h_v13_5
                      refine lv_iinc (v := v13_5) (lv' := [(13, .int v13_5), (12, .int v13), (0, .ref (a 0)), (1, .int x1), (6, .long v6_2), (8, .long v8_2), (11, .int r)]) hx hb d_MO_gap_286 hl (k := 6) rfl (by rw [h_v13_5]; rfl) (by decide) rfl (fun ls hl => ?_)
                      refine lv_goto (tgt := 212) hx hb d_MO_gap_289 (by decide) ?_
                      exact ih v13 v13_5 mo_3 v12_1 mo_4 hf H locs ls hP hD hS (lv_sub hl [2, 3, 4, 5, 6, 1, 0] rfl) kk
        obtain ⟨⟨v12_1, mo_4⟩, hL_212, hf⟩ := g_bind hf
        try dsimp only at hf
        refine L_212 k (-1) 0 mo_2 v12_1 mo_4 hL_212 H locs ls hP hD hS (lv_sub hl [3, 4, 7, 8, 2, 1, 0] rfl) (fun H locs ls hP hD hS hl => ?_)
        refine lv_iload hx hb d_MO_gap_292 (lv_at hl 5 rfl) ?_
        refine lv_iconst (v := (-1)) hx hb d_MO_gap_294 (by decide) ?_
        obtain ⟨⟨v12_2, mo_6⟩, hB_309, hf⟩ := g_bind hf
        try dsimp only at hf
        have K_309 : ∀ (H : Heap) (locs : List Loc) (ls : Array Slot), va_P (dC, dI) classes (wMO tC a mo_6) H → va_D A (wMO tC a mo_6) → va_S A s.heap H locs → lv_has ls 14 [(0, .ref (a 0)), (6, .long v6_2), (8, .long v8_2), (11, .int r), (12, .int v12_2)] → W p l e { frames := 4, cells := 0, slots := 0, locals := 91 } s m [.ref (a 0), .int x1, .long x2, .long x4].toArray below meth c H locs 0 0 (cx_Z (dC, dI) classes below [.ref (a 0), .int x1, .long x2, .long x4] s (wMO tC a moR) (some (.int res)) A) (F0 m 309 ls []) := by
          intro H locs ls hP hD hS hl
          refine lv_aload_n hx hb d_MO_gap_309 rfl (lv_at hl 0 rfl) ?_
          refine va_get (D := (dC, dI)) (ci := 8) (v := .ref (a 9)) (C := R_MO) (T := F_MO) (N := 42) hx hb hts (in_MO _) hown hK hP 0 rfl rfl 22 (by decide) (hts _ (List.mem_cons_of_mem _ mw_714)) (fun _ h9 => h9) rfl d_MO_gap_310 ?_
          refine lv_iload hx hb d_MO_gap_313 (lv_at hl 4 rfl) ?_
          refine lv_lload hx hb d_MO_gap_315 (lv_at hl 1 rfl) ?_
          obtain ⟨ck_2, hf⟩ := g_ck hf
          refine va_last (D := (dC, dI)) hx hb hK hP hD hS 9 1 rfl rfl ck_2 d_MO_gap_317 (fun H locs hP hD hS => ?_)
          have hP : va_P (dC, dI) classes (wMO tC a (sMO_sBegin mo_6 (vp_updL (MO_sBegin mo_6) v12_2.toNatClampNeg v6_2))) H := hP
          have hD : va_D A (wMO tC a (sMO_sBegin mo_6 (vp_updL (MO_sBegin mo_6) v12_2.toNatClampNeg v6_2))) := hD
          refine lv_aload_n hx hb d_MO_gap_318 rfl (lv_at hl 0 rfl) ?_
          refine va_get (D := (dC, dI)) (ci := 8) (v := .ref (a 10)) (C := R_MO) (T := F_MO) (N := 42) hx hb hts (in_MO _) hown hK hP 0 rfl rfl 23 (by decide) (hts _ (List.mem_cons_of_mem _ mw_715)) (fun _ h9 => h9) rfl d_MO_gap_319 ?_
          refine lv_iload hx hb d_MO_gap_322 (lv_at hl 4 rfl) ?_
          refine lv_lload hx hb d_MO_gap_324 (lv_at hl 2 rfl) ?_
          refine va_last (D := (dC, dI)) hx hb hK hP hD hS 10 1 rfl rfl ck_2 d_MO_gap_326 (fun H locs hP hD hS => ?_)
          have hP : va_P (dC, dI) classes (wMO tC a (sMO_sEnd (sMO_sBegin mo_6 (vp_updL (MO_sBegin mo_6) v12_2.toNatClampNeg v6_2)) (vp_updL (MO_sEnd mo_6) v12_2.toNatClampNeg v8_2))) H := hP
          have hD : va_D A (wMO tC a (sMO_sEnd (sMO_sBegin mo_6 (vp_updL (MO_sBegin mo_6) v12_2.toNatClampNeg v6_2)) (vp_updL (MO_sEnd mo_6) v12_2.toNatClampNeg v8_2))) := hD
          refine lv_aload_n hx hb d_MO_gap_327 rfl (lv_at hl 0 rfl) ?_
          refine va_get (D := (dC, dI)) (ci := 8) (v := .ref (a 13)) (C := R_MO) (T := F_MO) (N := 42) hx hb hts (in_MO _) hown hK hP 0 rfl rfl 26 (by decide) (hts _ (List.mem_cons_of_mem _ mw_718)) (fun _ h9 => h9) rfl d_MO_gap_328 ?_
          refine lv_iload hx hb d_MO_gap_331 (lv_at hl 4 rfl) ?_
          refine lv_aload_n hx hb d_MO_gap_333 rfl (lv_at hl 0 rfl) ?_
          refine va_get (D := (dC, dI)) (ci := 8) (v := .ref (a 13)) (C := R_MO) (T := F_MO) (N := 42) hx hb hts (in_MO _) hown hK hP 0 rfl rfl 26 (by decide) (hts _ (List.mem_cons_of_mem _ mw_718)) (fun _ h9 => h9) rfl d_MO_gap_334 ?_
          refine lv_iload hx hb d_MO_gap_337 (lv_at hl 4 rfl) ?_
          refine va_zald (D := (dC, dI)) hx hb hK hP 13 2 rfl rfl ck_2 d_MO_gap_339 ?_
          obtain ⟨mo_8, h_mo_8⟩ : ∃ z : MOt, z = (sMO_sEnd (sMO_sBegin mo_6 (vp_updL (MO_sBegin mo_6) v12_2.toNatClampNeg v6_2)) (vp_updL (MO_sEnd mo_6) v12_2.toNatClampNeg v8_2)) := ⟨_, rfl⟩
          have hf := g_let hf h_mo_8
          have hP : va_P (dC, dI) classes (wMO tC a mo_8) H := by rw [h_mo_8]; exact hP
          have hD : va_D A (wMO tC a mo_8) := by rw [h_mo_8]; exact hD
          obtain ⟨t_1, hB_358⟩ : ∃ z : Int32, z = f_MO_gap_B340 v8_2 v12_2 mo_6 mo_8 := ⟨_, rfl⟩
          have hf := g_let hf hB_358
          have hB_358 := hB_358.symm
          try dsimp only at hf
          have K_358 : ∀ (H : Heap) (locs : List Loc) (ls : Array Slot), va_P (dC, dI) classes (wMO tC a mo_8) H → va_D A (wMO tC a mo_8) → va_S A s.heap H locs → lv_has ls 14 [(0, .ref (a 0)), (11, .int r), (12, .int v12_2)] → W p l e { frames := 4, cells := 0, slots := 0, locals := 91 } s m [.ref (a 0), .int x1, .long x2, .long x4].toArray below meth c H locs 0 0 (cx_Z (dC, dI) classes below [.ref (a 0), .int x1, .long x2, .long x4] s (wMO tC a moR) (some (.int res)) A) (F0 m 358 ls [.int t_1, .int v12_2, .ref (a 13)]) := by
            intro H locs ls hP hD hS hl
            refine va_zast (D := (dC, dI)) hx hb hK hP hD hS 13 2 rfl rfl ck_2 d_MO_gap_358 (fun H locs hP hD hS => ?_)
            have hP : va_P (dC, dI) classes (wMO tC a (sMO_sEnded mo_8 (upd (MO_sEnded mo_8) v12_2.toNatClampNeg (vp_nar .boolean t_1)))) H := hP
            have hD : va_D A (wMO tC a (sMO_sEnded mo_8 (upd (MO_sEnded mo_8) v12_2.toNatClampNeg (vp_nar .boolean t_1)))) := hD
            refine lv_aload_n hx hb d_MO_gap_359 rfl (lv_at hl 0 rfl) ?_
            refine lv_iload hx hb d_MO_gap_360 (lv_at hl 2 rfl) ?_
            refine lv_iload hx hb d_MO_gap_362 (lv_at hl 1 rfl) ?_
            obtain ⟨mo_9, h_mo_9⟩ : ∃ z : MOt, z = (sMO_sEnded mo_8 (upd (MO_sEnded mo_8) v12_2.toNatClampNeg (vp_nar .boolean t_1))) := ⟨_, rfl⟩
            have hf := g_let hf h_mo_9
            have hP : va_P (dC, dI) classes (wMO tC a mo_9) H := by rw [h_mo_9]; exact hP
            have hD : va_D A (wMO tC a mo_9) := by rw [h_mo_9]; exact hD
            obtain ⟨mo_10, hc_3, hf⟩ := g_bind hf
            try dsimp only at hf
            refine cx3_callV (As := [.int v12_2, .int r]) (rest := []) (wMO tC a mo_10) ⟨hx, hb, hml, hown, hts⟩ (c_MO_putInto l dC dI tC a k v12_2 r mo_9 mo_10 hc_3) (k_MO_270 hts ⟨Nat.le_of_ble_eq_true rfl, Nat.le_of_ble_eq_true rfl⟩) hl.1 hP hD hS hA hK hN 0 8 rfl rfl rfl (adMO _ _ _ _) rfl rfl (Nat.le_of_ble_eq_true rfl) d_MO_gap_364 ⟨Nat.zero_le _, Nat.zero_le _⟩ (fun H locs hP hD hS => ?_)
            refine W.eq (g2 := F0 m 367 ls []) rfl ?_
            refine lv_iconst (v := 1) hx hb d_MO_gap_367 (by decide) ?_
            obtain ⟨hq0, hr1⟩ := Prod.mk.inj (g_some hf)
            subst hq0
            subst hr1
            exact cx_iret hx hb hr hlocks hP hS d_MO_gap_368
          have hf := hB_358
          unfold f_MO_gap_B340 at hf
          refine lv_if_eq (tgt := 357) hx hb d_MO_gap_340 (by decide) (fun cb_15 => ?_) (fun cb_15 => ?_)
          · have hf := g_t hf cb_15
            refine lv_iconst (v := 0) hx hb d_MO_gap_357 (by decide) ?_
            have hq0 := hf
            subst hq0
            exact K_358 _ _ _ hP hD hS (lv_sub hl [0, 3, 4] rfl)
          · have hf := g_f hf cb_15
            refine lv_lload hx hb d_MO_gap_343 (lv_at hl 2 rfl) ?_
            refine lv_aload_n hx hb d_MO_gap_345 rfl (lv_at hl 0 rfl) ?_
            refine va_get (D := (dC, dI)) (ci := 8) (v := .long (MO_now mo_8)) (C := R_MO) (T := F_MO) (N := 42) hx hb hts (in_MO _) hown hK hP 0 rfl rfl 11 (by decide) (hts _ (List.mem_cons_of_mem _ mw_703)) (fun _ h9 => h9) rfl d_MO_gap_346 ?_
            refine cq_gt (tgt := 357) hx hb d_MO_gap_349 d_MO_gap_350 (by decide) (fun cb_16 => ?_) (fun cb_16 => ?_)
            · have hf := g_t hf cb_16
              refine lv_iconst (v := 0) hx hb d_MO_gap_357 (by decide) ?_
              have hq0 := hf
              subst hq0
              exact K_358 _ _ _ hP hD hS (lv_sub hl [0, 3, 4] rfl)
            · have hf := g_f hf cb_16
              refine lv_iconst (v := 1) hx hb d_MO_gap_353 (by decide) ?_
              refine lv_goto (tgt := 358) hx hb d_MO_gap_354 (by decide) ?_
              have hq0 := hf
              subst hq0
              exact K_358 _ _ _ hP hD hS (lv_sub hl [0, 3, 4] rfl)
        have hf := hB_309
        unfold f_MO_gap_B295 at hf
        refine lv_icmp_ne (tgt := 309) hx hb d_MO_gap_295 (by decide) (fun cb_14 => ?_) (fun cb_14 => ?_)
        · have hf := g_f hf cb_14
          obtain ⟨hq0, hr1⟩ := Prod.mk.inj (g_some hf)
          subst hq0
          subst hr1
          exact K_309 _ _ _ hP hD hS (lv_sub hl [0, 2, 3, 4, 5] rfl)
        · have hf := g_t hf cb_14
          refine lv_aload_n hx hb d_MO_gap_298 rfl (lv_at hl 0 rfl) ?_
          refine lv_iload_n hx hb d_MO_gap_299 rfl (lv_at hl 1 rfl) ?_
          refine lv_lload hx hb d_MO_gap_300 (lv_at hl 2 rfl) ?_
          refine lv_lload hx hb d_MO_gap_302 (lv_at hl 3 rfl) ?_
          obtain ⟨⟨r_1, mo_7⟩, hc_2, hf⟩ := g_bind hf
          try dsimp only at hf
          refine cx3_callV (As := [.int x1, .long v6_2, .long v8_2]) (rest := []) (wMO tC a mo_7) ⟨hx, hb, hml, hown, hts⟩ (c_MO_newSpan l dC dI tC a k x1 v6_2 v8_2 mo_4 r_1 mo_7 hc_2) (k_MO_267 hts ⟨Nat.le_of_ble_eq_true rfl, Nat.le_of_ble_eq_true rfl⟩) hl.1 hP hD hS hA hK hN 0 8 rfl rfl rfl (adMO _ _ _ _) rfl rfl (Nat.le_of_ble_eq_true rfl) d_MO_gap_304 ⟨Nat.zero_le _, Nat.zero_le _⟩ (fun H locs hP hD hS => ?_)
          refine W.eq (g2 := F0 m 307 ls [.int r_1]) rfl ?_
          refine lv_istore (lv' := [(12, .int r_1), (0, .ref (a 0)), (1, .int x1), (6, .long v6_2), (8, .long v8_2), (11, .int r)]) hx hb d_MO_gap_307 hl (by decide) rfl (fun ls hl => ?_)
          obtain ⟨hq0, hr1⟩ := Prod.mk.inj (g_some hf)
          subst hq0
          subst hr1
          exact K_309 _ _ _ hP hD hS (lv_sub hl [1, 3, 4, 5, 0] rfl)
      · have hf := g_f hf cb_8
        refine lv_bipush (v := (-4)) hx hb d_MO_gap_183 (by decide) ?_
        obtain ⟨hq0, hr1⟩ := Prod.mk.inj (g_some hf)
        subst hq0
        subst hr1
        exact cx_iret hx hb hr hlocks hP hS d_MO_gap_185
  · have hf := g_f hf cb_6
    refine lv_aload_n hx hb d_MO_gap_153 rfl (lv_at hl 0 rfl) ?_
    obtain ⟨⟨r_2, mo_11⟩, hc_4⟩ : ∃ z : Int32 × MOt, z = f_MO_drop mo := ⟨_, rfl⟩
    have hf := g_let hf hc_4
    try dsimp only at hf
    refine cx3_callV (As := []) (rest := []) (wMO tC a mo_11) ⟨hx, hb, hml, hown, hts⟩ (c_MO_drop l dC dI tC a mo r_2 mo_11 hc_4.symm) (k_MO_257 hts ⟨Nat.le_of_ble_eq_true rfl, Nat.le_of_ble_eq_true rfl⟩) hl.1 hP hD hS hA hK hN 0 8 rfl rfl rfl (adMO _ _ _ _) rfl rfl (Nat.le_of_ble_eq_true rfl) d_MO_gap_154 ⟨Nat.zero_le _, Nat.zero_le _⟩ (fun H locs hP hD hS => ?_)
    refine W.eq (g2 := F0 m 157 ls [.int r_2]) rfl ?_
    obtain ⟨hq0, hr1⟩ := Prod.mk.inj (g_some hf)
    subst hq0
    subst hr1
    exact cx_iret hx hb hr hlocks hP hS d_MO_gap_157
