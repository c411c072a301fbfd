def f_MO_join_L2 (x1 : Int32) (x2 : Int32) : Nat → Int32 → MOt → Option (MOt)
  | 0, _, _ => none
  | n + 1, v3, mo_1 =>
    if 300 ≤ v3 then (
      some mo_1
    ) else
    gl_let (((300 * x1) + v3)) fun v4 =>
    gl_let (((300 * x2) + v3)) fun v5 =>
    if v5 < 0 ∨ 60000 ≤ v5.toNatClampNeg then none else
    if (MO_has mo_1 v5.toNatClampNeg) = 0 then (
      gl_let (v3 + 1) fun v3_1 =>
      f_MO_join_L2 x1 x2 n v3_1 mo_1
    ) else
    if v4 < 0 ∨ 60000 ≤ v4.toNatClampNeg then none else
    gl_let (v3 + 1) fun v3_2 =>
    gl_let ((sMO_toldOf (sMO_has mo_1 (upd (MO_has mo_1) v4.toNatClampNeg 1)) (upd (MO_toldOf mo_1) v4.toNatClampNeg (vp_nar .boolean (MO_toldOf mo_1 v5.toNatClampNeg)))) : MOt) fun mo_3 =>
    f_MO_join_L2 x1 x2 n v3_2 mo_3
def f_MO_join_B82 (x1 : Int32) (x2 : Int32) (mo_2 : MOt) : Option (Int32) :=
  if (MO_sFired mo_2 x2.toNatClampNeg) ≤ (MO_sFired mo_2 x1.toNatClampNeg) then (
    some (MO_sFired mo_2 x1.toNatClampNeg)
  ) else
  some (MO_sFired mo_2 x2.toNatClampNeg)
def f_MO_join_B127 (x1 : Int32) (x2 : Int32) (mo_2 : MOt) (mo_4 : MOt) : Option (Int32) :=
  if (MO_sEnded mo_2 x1.toNatClampNeg) = 0 then (
    if (MO_sEnded mo_4 x2.toNatClampNeg) = 0 then (
      some 0
    ) else
    some 1
  ) else
  some 1
def f_MO_join (k : Nat) (x1 : Int32) (x2 : Int32) (mo : MOt) : Option MOt :=
  (f_MO_join_L2 x1 x2 k 0 mo).bind fun mo_2 =>
  if x2 < 0 ∨ 200 ≤ x2.toNatClampNeg then none else
  if x1 < 0 ∨ 200 ≤ x1.toNatClampNeg then none else
  (f_MO_join_B82 x1 x2 mo_2).bind fun t =>
  gl_let ((sMO_sPut (sMO_sFired mo_2 (upd (MO_sFired mo_2) x1.toNatClampNeg t)) (upd (MO_sPut mo_2) x1.toNatClampNeg ((MO_sPut mo_2 x1.toNatClampNeg) + (MO_sPut mo_2 x2.toNatClampNeg)))) : MOt) fun mo_4 =>
  (f_MO_join_B127 x1 x2 mo_2 mo_4).bind fun t_1 =>
  some (sMO_spans (sMO_sEnded (sMO_sKey mo_4 (upd (MO_sKey mo_4) x2.toNatClampNeg (-1))) (upd (MO_sEnded mo_4) x1.toNatClampNeg (vp_nar .boolean t_1))) ((MO_spans mo_4) - 1))
set_option maxHeartbeats 4000000 in
set_option maxRecDepth 100000 in
theorem c_MO_join (l : Launch) (dC : Nat → ClassId) (dI : Nat → Nat → Nat) (tC : Nat → ClassId) (a : Nat → Nat) (k : Nat) (x1 : Int32) (x2 : Int32) (mo : MOt) (moR : MOt) (hf : f_MO_join k x1 x2 mo = some moR) : cx_M l y_MO_join w_MO_join { frames := 0, cells := 0, slots := 0, locals := 0 } (dC, dI) classes (tyS tC) [.ref (a 0), .int x1, .int x2] (wMO tC a mo) (wMO tC a moR) (none) := by
  refine cx_of (cc := b_MO_join) (maxL := 6) (ret := none) (plainFor_of_name (by decide)) rfl (Nat.le_of_ble_eq_true rfl) ?_
  intro p e s m below meth c hx hb hr hml hown hts hlocks A hA H locs ls hK hN hP hD hS hl
  have hown : s.vm.findClass R_MO = some m.cls := hown
  have hl : lv_has ls 6 [(0, .ref (a 0)), (1, .int x1), (2, .int x2)] := hl
  unfold f_MO_join at hf
  refine lv_iconst (v := 0) hx hb d_MO_join_0 (by decide) ?_
  refine lv_istore_n (lv' := [(3, .int 0), (0, .ref (a 0)), (1, .int x1), (2, .int x2)]) hx hb d_MO_join_1 rfl hl (by decide) rfl (fun ls hl => ?_)
  have L_2 : ∀ (n : Nat) (v3 : Int32) (mo_1 : MOt) (mo_2 : MOt), f_MO_join_L2 x1 x2 n v3 mo_1 = some mo_2 → ∀ (H : Heap) (locs : List Loc) (ls : Array Slot), va_P (dC, dI) classes (wMO tC a mo_1) H → va_D A (wMO tC a mo_1) → va_S A s.heap H locs → lv_has ls 6 [(0, .ref (a 0)), (1, .int x1), (2, .int x2), (3, .int v3)] → (∀ (H : Heap) (locs : List Loc) (ls : Array Slot), va_P (dC, dI) classes (wMO tC a mo_2) H → va_D A (wMO tC a mo_2) → va_S A s.heap H locs → lv_has ls 6 [(0, .ref (a 0)), (1, .int x1), (2, .int x2)] → W p l e { frames := 0, cells := 0, slots := 0, locals := 0 } s m [.ref (a 0), .int x1, .int x2].toArray below meth c H locs 0 0 (cx_Z (dC, dI) classes below [.ref (a 0), .int x1, .int x2] s (wMO tC a moR) (none) A) (F0 m 65 ls [])) → W p l e { frames := 0, cells := 0, slots := 0, locals := 0 } s m [.ref (a 0), .int x1, .int x2].toArray below meth c H locs 0 0 (cx_Z (dC, dI) classes below [.ref (a 0), .int x1, .int x2] s (wMO tC a moR) (none) A) (F0 m 2 ls []) := by
    intro n
    induction n with
    | zero =>
      intro v3 mo_1 mo_2 hf
      rw [f_MO_join_L2] at hf
      cases hf
    | succ n ih =>
      intro v3 mo_1 mo_2 hf H locs ls hP hD hS hl kk
      rw [f_MO_join_L2] at hf
      refine lv_iload_n hx hb d_MO_join_2 rfl (lv_at hl 3 rfl) ?_
      refine lv_sipush (v := 300) hx hb d_MO_join_3 (by decide) ?_
      refine lv_icmp_ge (tgt := 65) hx hb d_MO_join_6 (by decide) (fun cb => ?_) (fun cb => ?_)
      · have hf := g_t hf cb
        have hq0 := (g_some hf)
        subst hq0
        exact kk _ _ _ hP hD hS (lv_sub hl [0, 1, 2] rfl)
      · have hf := g_f hf cb
        refine lv_sipush (v := 300) hx hb d_MO_join_9 (by decide) ?_
        refine lv_iload_n hx hb d_MO_join_12 rfl (lv_at hl 1 rfl) ?_
        refine lv_imul hx hb d_MO_join_13 ?_
        refine lv_iload_n hx hb d_MO_join_14 rfl (lv_at hl 3 rfl) ?_
        refine lv_iadd hx hb d_MO_join_15 ?_
        refine lv_topi (fun v4 h_v4 => ?_)
        have hf := g_let hf h_v4
        refine lv_istore (lv' := [(4, .int v4), (0, .ref (a 0)), (1, .int x1), (2, .int x2), (3, .int v3)]) hx hb d_MO_join_16 hl (by decide) rfl (fun ls hl => ?_)
        refine lv_sipush (v := 300) hx hb d_MO_join_18 (by decide) ?_
        refine lv_iload_n hx hb d_MO_join_21 rfl (lv_at hl 3 rfl) ?_
        refine lv_imul hx hb d_MO_join_22 ?_
        refine lv_iload_n hx hb d_MO_join_23 rfl (lv_at hl 4 rfl) ?_
        refine lv_iadd hx hb d_MO_join_24 ?_
        refine lv_topi (fun v5 h_v5 => ?_)
        have hf := g_let hf h_v5
        refine lv_istore (lv' := [(5, .int v5), (4, .int v4), (0, .ref (a 0)), (1, .int x1), (2, .int x2), (3, .int v3)]) hx hb d_MO_join_25 hl (by decide) rfl (fun ls hl => ?_)
        refine lv_aload_n hx hb d_MO_join_27 rfl (lv_at hl 2 rfl) ?_
        refine va_get (D := (dC, dI)) (ci := 8) (v := .ref (a 14)) (C := R_MO) (T := F_MO) (N := 42) hx hb hts (in_MO _) hown hK hP 0 rfl rfl 27 (by decide) (hts _ (List.mem_cons_of_mem _ mw_719)) (fun _ h9 => h9) rfl d_MO_join_28 ?_
        refine lv_iload hx hb d_MO_join_31 (lv_at hl 0 rfl) ?_
        obtain ⟨ck, hf⟩ := g_ck hf
        refine va_zald (D := (dC, dI)) hx hb hK hP 14 2 rfl rfl ck d_MO_join_33 ?_
        refine lv_if_eq (tgt := 59) hx hb d_MO_join_34 (by decide) (fun cb_1 => ?_) (fun cb_1 => ?_)
        · have hf := g_t hf cb_1
          obtain ⟨v3_1, h_v3_1⟩ : ∃ z : Int32, z = v3 + 1 := ⟨_, rfl⟩
          have hf := g_let hf h_v3_1
          refine lv_iinc (v := v3_1) (lv' := [(3, .int v3_1), (5, .int v5), (4, .int v4), (0, .ref (a 0)), (1, .int x1), (2, .int x2)]) hx hb d_MO_join_59 hl (k := 5) rfl (by rw [h_v3_1]; rfl) (by decide) rfl (fun ls hl => ?_)
          refine lv_goto (tgt := 2) hx hb d_MO_join_62 (by decide) ?_
          exact ih v3_1 mo_1 mo_2 hf H locs ls hP hD hS (lv_sub hl [3, 4, 5, 0] rfl) kk
        · have hf := g_f hf cb_1
          refine lv_aload_n hx hb d_MO_join_37 rfl (lv_at hl 2 rfl) ?_
          refine va_get (D := (dC, dI)) (ci := 8) (v := .ref (a 14)) (C := R_MO) (T := F_MO) (N := 42) hx hb hts (in_MO _) hown hK hP 0 rfl rfl 27 (by decide) (hts _ (List.mem_cons_of_mem _ mw_719)) (fun _ h9 => h9) rfl d_MO_join_38 ?_
          refine lv_iload hx hb d_MO_join_41 (lv_at hl 1 rfl) ?_
          refine lv_iconst (v := 1) hx hb d_MO_join_43 (by decide) ?_
          obtain ⟨ck_1, hf⟩ := g_ck hf
          refine va_zast (D := (dC, dI)) hx hb hK hP hD hS 14 2 rfl rfl ck_1 d_MO_join_44 (fun H locs hP hD hS => ?_)
          have hP : va_P (dC, dI) classes (wMO tC a (sMO_has mo_1 (upd (MO_has mo_1) v4.toNatClampNeg 1))) H := hP
          have hD : va_D A (wMO tC a (sMO_has mo_1 (upd (MO_has mo_1) v4.toNatClampNeg 1))) := hD
          refine lv_aload_n hx hb d_MO_join_45 rfl (lv_at hl 2 rfl) ?_
          refine va_get (D := (dC, dI)) (ci := 8) (v := .ref (a 15)) (C := R_MO) (T := F_MO) (N := 42) hx hb hts (in_MO _) hown hK hP 0 rfl rfl 28 (by decide) (hts _ (List.mem_cons_of_mem _ mw_720)) (fun _ h9 => h9) rfl d_MO_join_46 ?_
          refine lv_iload hx hb d_MO_join_49 (lv_at hl 1 rfl) ?_
          refine lv_aload_n hx hb d_MO_join_51 rfl (lv_at hl 2 rfl) ?_
          refine va_get (D := (dC, dI)) (ci := 8) (v := .ref (a 15)) (C := R_MO) (T := F_MO) (N := 42) hx hb hts (in_MO _) hown hK hP 0 rfl rfl 28 (by decide) (hts _ (List.mem_cons_of_mem _ mw_720)) (fun _ h9 => h9) rfl d_MO_join_52 ?_
          refine lv_iload hx hb d_MO_join_55 (lv_at hl 0 rfl) ?_
          refine va_zald (D := (dC, dI)) hx hb hK hP 15 2 rfl rfl ck d_MO_join_57 ?_
          refine va_zast (D := (dC, dI)) hx hb hK hP hD hS 15 2 rfl rfl ck_1 d_MO_join_58 (fun H locs hP hD hS => ?_)
          have hP : va_P (dC, dI) classes (wMO tC a (sMO_toldOf (sMO_has mo_1 (upd (MO_has mo_1) v4.toNatClampNeg 1)) (upd (MO_toldOf mo_1) v4.toNatClampNeg (vp_nar .boolean (MO_toldOf mo_1 v5.toNatClampNeg))))) H := hP
          have hD : va_D A (wMO tC a (sMO_toldOf (sMO_has mo_1 (upd (MO_has mo_1) v4.toNatClampNeg 1)) (upd (MO_toldOf mo_1) v4.toNatClampNeg (vp_nar .boolean (MO_toldOf mo_1 v5.toNatClampNeg))))) := hD
          obtain ⟨v3_2, h_v3_2⟩ : ∃ z : Int32, z = v3 + 1 := ⟨_, rfl⟩
          have hf := g_let hf h_v3_2
          refine lv_iinc (v := v3_2) (lv' := [(3, .int v3_2), (5, .int v5), (4, .int v4), (0, .ref (a 0)), (1, .int x1), (2, .int x2)]) hx hb d_MO_join_59 hl (k := 5) rfl (by rw [h_v3_2]; rfl) (by decide) rfl (fun ls hl => ?_)
          refine lv_goto (tgt := 2) hx hb d_MO_join_62 (by decide) ?_
          obtain ⟨mo_3, h_mo_3⟩ : ∃ z : MOt, z = (sMO_toldOf (sMO_has mo_1 (upd (MO_has mo_1) v4.toNatClampNeg 1)) (upd (MO_toldOf mo_1) v4.toNatClampNeg (vp_nar .boolean (MO_toldOf mo_1 v5.toNatClampNeg)))) := ⟨_, rfl⟩
          have hf := g_let hf h_mo_3
          have hP : va_P (dC, dI) classes (wMO tC a mo_3) H := by rw [h_mo_3]; exact hP
          have hD : va_D A (wMO tC a mo_3) := by rw [h_mo_3]; exact hD
          exact ih v3_2 mo_3 mo_2 hf H locs ls hP hD hS (lv_sub hl [3, 4, 5, 0] rfl) kk
  obtain ⟨mo_2, hL_2, hf⟩ := g_bind hf
  try dsimp only at hf
  refine L_2 k 0 mo mo_2 hL_2 H locs ls hP hD hS (lv_sub hl [1, 2, 3, 0] rfl) (fun H locs ls hP hD hS hl => ?_)
  refine lv_aload_n hx hb d_MO_join_65 rfl (lv_at hl 0 rfl) ?_
  refine va_get (D := (dC, dI)) (ci := 8) (v := .ref (a 11)) (C := R_MO) (T := F_MO) (N := 42) hx hb hts (in_MO _) hown hK hP 0 rfl rfl 24 (by decide) (hts _ (List.mem_cons_of_mem _ mw_716)) (fun _ h9 => h9) rfl d_MO_join_66 ?_
  refine lv_iload_n hx hb d_MO_join_69 rfl (lv_at hl 1 rfl) ?_
  refine lv_aload_n hx hb d_MO_join_70 rfl (lv_at hl 0 rfl) ?_
  refine va_get (D := (dC, dI)) (ci := 8) (v := .ref (a 11)) (C := R_MO) (T := F_MO) (N := 42) hx hb hts (in_MO _) hown hK hP 0 rfl rfl 24 (by decide) (hts _ (List.mem_cons_of_mem _ mw_716)) (fun _ h9 => h9) rfl d_MO_join_71 ?_
  refine lv_iload_n hx hb d_MO_join_74 rfl (lv_at hl 2 rfl) ?_
  obtain ⟨ck_2, hf⟩ := g_ck hf
  refine va_iald (D := (dC, dI)) hx hb hK hP 11 0 rfl rfl ck_2 d_MO_join_75 ?_
  refine lv_aload_n hx hb d_MO_join_76 rfl (lv_at hl 0 rfl) ?_
  refine va_get (D := (dC, dI)) (ci := 8) (v := .ref (a 11)) (C := R_MO) (T := F_MO) (N := 42) hx hb hts (in_MO _) hown hK hP 0 rfl rfl 24 (by decide) (hts _ (List.mem_cons_of_mem _ mw_716)) (fun _ h9 => h9) rfl d_MO_join_77 ?_
  refine lv_iload_n hx hb d_MO_join_80 rfl (lv_at hl 1 rfl) ?_
  obtain ⟨ck_3, hf⟩ := g_ck hf
  refine va_iald (D := (dC, dI)) hx hb hK hP 11 0 rfl rfl ck_3 d_MO_join_81 ?_
  obtain ⟨t, hB_100, hf⟩ := g_bind hf
  try dsimp only at hf
  have K_100 : ∀ (H : Heap) (locs : List Loc) (ls : Array Slot), va_P (dC, dI) classes (wMO tC a mo_2) H → va_D A (wMO tC a mo_2) → va_S A s.heap H locs → lv_has ls 6 [(0, .ref (a 0)), (1, .int x1), (2, .int x2)] → W p l e { frames := 0, cells := 0, slots := 0, locals := 0 } s m [.ref (a 0), .int x1, .int x2].toArray below meth c H locs 0 0 (cx_Z (dC, dI) classes below [.ref (a 0), .int x1, .int x2] s (wMO tC a moR) (none) A) (F0 m 100 ls [.int t, .int x1, .ref (a 11)]) := by
    intro H locs ls hP hD hS hl
    refine va_iast (D := (dC, dI)) hx hb hK hP hD hS 11 0 rfl rfl ck_3 d_MO_join_100 (fun H locs hP hD hS => ?_)
    have hP : va_P (dC, dI) classes (wMO tC a (sMO_sFired mo_2 (upd (MO_sFired mo_2) x1.toNatClampNeg t))) H := hP
    have hD : va_D A (wMO tC a (sMO_sFired mo_2 (upd (MO_sFired mo_2) x1.toNatClampNeg t))) := hD
    refine lv_aload_n hx hb d_MO_join_101 rfl (lv_at hl 0 rfl) ?_
    refine va_get (D := (dC, dI)) (ci := 8) (v := .ref (a 12)) (C := R_MO) (T := F_MO) (N := 42) hx hb hts (in_MO _) hown hK hP 0 rfl rfl 25 (by decide) (hts _ (List.mem_cons_of_mem _ mw_717)) (fun _ h9 => h9) rfl d_MO_join_102 ?_
    refine lv_iload_n hx hb d_MO_join_105 rfl (lv_at hl 1 rfl) ?_
    refine lv_dup2_11 hx hb d_MO_join_106 rfl rfl ?_
    refine va_iald (D := (dC, dI)) hx hb hK hP 12 0 rfl rfl ck_3 d_MO_join_107 ?_
    refine lv_aload_n hx hb d_MO_join_108 rfl (lv_at hl 0 rfl) ?_
    refine va_get (D := (dC, dI)) (ci := 8) (v := .ref (a 12)) (C := R_MO) (T := F_MO) (N := 42) hx hb hts (in_MO _) hown hK hP 0 rfl rfl 25 (by decide) (hts _ (List.mem_cons_of_mem _ mw_717)) (fun _ h9 => h9) rfl d_MO_join_109 ?_
    refine lv_iload_n hx hb d_MO_join_112 rfl (lv_at hl 2 rfl) ?_
    refine va_iald (D := (dC, dI)) hx hb hK hP 12 0 rfl rfl ck_2 d_MO_join_113 ?_
    refine lv_iadd hx hb d_MO_join_114 ?_
    refine va_iast (D := (dC, dI)) hx hb hK hP hD hS 12 0 rfl rfl ck_3 d_MO_join_115 (fun H locs hP hD hS => ?_)
    have hP : va_P (dC, dI) classes (wMO tC a (sMO_sPut (sMO_sFired mo_2 (upd (MO_sFired mo_2) x1.toNatClampNeg t)) (upd (MO_sPut mo_2) x1.toNatClampNeg ((MO_sPut mo_2 x1.toNatClampNeg) + (MO_sPut mo_2 x2.toNatClampNeg))))) H := hP
    have hD : va_D A (wMO tC a (sMO_sPut (sMO_sFired mo_2 (upd (MO_sFired mo_2) x1.toNatClampNeg t)) (upd (MO_sPut mo_2) x1.toNatClampNeg ((MO_sPut mo_2 x1.toNatClampNeg) + (MO_sPut mo_2 x2.toNatClampNeg))))) := hD
    refine lv_aload_n hx hb d_MO_join_116 rfl (lv_at hl 0 rfl) ?_
    refine va_get (D := (dC, dI)) (ci := 8) (v := .ref (a 13)) (C := R_MO) (T := F_MO) (N := 42) hx hb hts (in_MO _) hown hK hP 0 rfl rfl 26 (by decide) (hts _ (List.mem_cons_of_mem _ mw_718)) (fun _ h9 => h9) rfl d_MO_join_117 ?_
    refine lv_iload_n hx hb d_MO_join_120 rfl (lv_at hl 1 rfl) ?_
    refine lv_aload_n hx hb d_MO_join_121 rfl (lv_at hl 0 rfl) ?_
    refine va_get (D := (dC, dI)) (ci := 8) (v := .ref (a 13)) (C := R_MO) (T := F_MO) (N := 42) hx hb hts (in_MO _) hown hK hP 0 rfl rfl 26 (by decide) (hts _ (List.mem_cons_of_mem _ mw_718)) (fun _ h9 => h9) rfl d_MO_join_122 ?_
    refine lv_iload_n hx hb d_MO_join_125 rfl (lv_at hl 1 rfl) ?_
    refine va_zald (D := (dC, dI)) hx hb hK hP 13 2 rfl rfl ck_3 d_MO_join_126 ?_
    obtain ⟨mo_4, h_mo_4⟩ : ∃ z : MOt, z = (sMO_sPut (sMO_sFired mo_2 (upd (MO_sFired mo_2) x1.toNatClampNeg t)) (upd (MO_sPut mo_2) x1.toNatClampNeg ((MO_sPut mo_2 x1.toNatClampNeg) + (MO_sPut mo_2 x2.toNatClampNeg)))) := ⟨_, rfl⟩
    have hf := g_let hf h_mo_4
    have hP : va_P (dC, dI) classes (wMO tC a mo_4) H := by rw [h_mo_4]; exact hP
    have hD : va_D A (wMO tC a mo_4) := by rw [h_mo_4]; exact hD
    obtain ⟨t_1, hB_144, hf⟩ := g_bind hf
    try dsimp only at hf
    have K_144 : ∀ (H : Heap) (locs : List Loc) (ls : Array Slot), va_P (dC, dI) classes (wMO tC a mo_4) H → va_D A (wMO tC a mo_4) → va_S A s.heap H locs → lv_has ls 6 [(0, .ref (a 0)), (2, .int x2)] → W p l e { frames := 0, cells := 0, slots := 0, locals := 0 } s m [.ref (a 0), .int x1, .int x2].toArray below meth c H locs 0 0 (cx_Z (dC, dI) classes below [.ref (a 0), .int x1, .int x2] s (wMO tC a moR) (none) A) (F0 m 144 ls [.int t_1, .int x1, .ref (a 13)]) := by
      intro H locs ls hP hD hS hl
      refine va_zast (D := (dC, dI)) hx hb hK hP hD hS 13 2 rfl rfl ck_3 d_MO_join_144 (fun H locs hP hD hS => ?_)
      have hP : va_P (dC, dI) classes (wMO tC a (sMO_sEnded mo_4 (upd (MO_sEnded mo_4) x1.toNatClampNeg (vp_nar .boolean t_1)))) H := hP
      have hD : va_D A (wMO tC a (sMO_sEnded mo_4 (upd (MO_sEnded mo_4) x1.toNatClampNeg (vp_nar .boolean t_1)))) := hD
      refine lv_aload_n hx hb d_MO_join_145 rfl (lv_at hl 0 rfl) ?_
      refine va_get (D := (dC, dI)) (ci := 8) (v := .ref (a 8)) (C := R_MO) (T := F_MO) (N := 42) hx hb hts (in_MO _) hown hK hP 0 rfl rfl 21 (by decide) (hts _ (List.mem_cons_of_mem _ mw_713)) (fun _ h9 => h9) rfl d_MO_join_146 ?_
      refine lv_iload_n hx hb d_MO_join_149 rfl (lv_at hl 1 rfl) ?_
      refine lv_iconst (v := (-1)) hx hb d_MO_join_150 (by decide) ?_
      refine va_iast (D := (dC, dI)) hx hb hK hP hD hS 8 0 rfl rfl ck_2 d_MO_join_151 (fun H locs hP hD hS => ?_)
      have hP : va_P (dC, dI) classes (wMO tC a (sMO_sEnded (sMO_sKey mo_4 (upd (MO_sKey mo_4) x2.toNatClampNeg (-1))) (upd (MO_sEnded mo_4) x1.toNatClampNeg (vp_nar .boolean t_1)))) H := hP
      have hD : va_D A (wMO tC a (sMO_sEnded (sMO_sKey mo_4 (upd (MO_sKey mo_4) x2.toNatClampNeg (-1))) (upd (MO_sEnded mo_4) x1.toNatClampNeg (vp_nar .boolean t_1)))) := hD
      refine lv_aload_n hx hb d_MO_join_152 rfl (lv_at hl 0 rfl) ?_
      refine lv_dup hx hb d_MO_join_153 rfl ?_
      refine va_get (D := (dC, dI)) (ci := 8) (v := .int (MO_spans mo_4)) (C := R_MO) (T := F_MO) (N := 42) hx hb hts (in_MO _) hown hK hP 0 rfl rfl 29 (by decide) (hts _ (List.mem_cons_of_mem _ mw_721)) (fun _ h9 => h9) rfl d_MO_join_154 ?_
      refine lv_iconst (v := 1) hx hb d_MO_join_157 (by decide) ?_
      refine lv_isub hx hb d_MO_join_158 ?_
      refine va_put (D := (dC, dI)) (ci := 8) (v := .int ((MO_spans mo_4) - 1)) (ty := .int) (C := R_MO) (T := F_MO) (N := 42) hx hb hts (in_MO _) t_MO t_MO_ok n_MO hown hK hP hD hS 0 rfl rfl 29 (by decide) (hts _ (List.mem_cons_of_mem _ mw_721)) (fun _ h9 => h9) rfl (by decide +kernel) rfl rfl (Nat.le_of_ble_eq_true rfl) d_MO_join_159 (fun H locs hP hD hS => ?_)
      have hP : va_P (dC, dI) classes (wMO tC a (sMO_spans (sMO_sEnded (sMO_sKey mo_4 (upd (MO_sKey mo_4) x2.toNatClampNeg (-1))) (upd (MO_sEnded mo_4) x1.toNatClampNeg (vp_nar .boolean t_1))) ((MO_spans mo_4) - 1))) H := hP
      have hD : va_D A (wMO tC a (sMO_spans (sMO_sEnded (sMO_sKey mo_4 (upd (MO_sKey mo_4) x2.toNatClampNeg (-1))) (upd (MO_sEnded mo_4) x1.toNatClampNeg (vp_nar .boolean t_1))) ((MO_spans mo_4) - 1))) := hD
      have hq0 := (g_some hf)
      subst hq0
      exact cx_vret hx hb hr hlocks hP hS d_MO_join_162
    have hf := hB_144
    unfold f_MO_join_B127 at hf
    refine lv_if_ne (tgt := 139) hx hb d_MO_join_127 (by decide) (fun cb_3 => ?_) (fun cb_3 => ?_)
    · have hf := g_f hf cb_3
      refine lv_iconst (v := 1) hx hb d_MO_join_139 (by decide) ?_
      refine lv_goto (tgt := 144) hx hb d_MO_join_140 (by decide) ?_
      have hq0 := (g_some hf)
      subst hq0
      exact K_144 _ _ _ hP hD hS (lv_sub hl [0, 2] rfl)
    · have hf := g_t hf cb_3
      refine lv_aload_n hx hb d_MO_join_130 rfl (lv_at hl 0 rfl) ?_
      refine va_get (D := (dC, dI)) (ci := 8) (v := .ref (a 13)) (C := R_MO) (T := F_MO) (N := 42) hx hb hts (in_MO _) hown hK hP 0 rfl rfl 26 (by decide) (hts _ (List.mem_cons_of_mem _ mw_718)) (fun _ h9 => h9) rfl d_MO_join_131 ?_
      refine lv_iload_n hx hb d_MO_join_134 rfl (lv_at hl 2 rfl) ?_
      refine va_zald (D := (dC, dI)) hx hb hK hP 13 2 rfl rfl ck_2 d_MO_join_135 ?_
      refine lv_if_eq (tgt := 143) hx hb d_MO_join_136 (by decide) (fun cb_4 => ?_) (fun cb_4 => ?_)
      · have hf := g_t hf cb_4
        refine lv_iconst (v := 0) hx hb d_MO_join_143 (by decide) ?_
        have hq0 := (g_some hf)
        subst hq0
        exact K_144 _ _ _ hP hD hS (lv_sub hl [0, 2] rfl)
      · have hf := g_f hf cb_4
        refine lv_iconst (v := 1) hx hb d_MO_join_139 (by decide) ?_
        refine lv_goto (tgt := 144) hx hb d_MO_join_140 (by decide) ?_
        have hq0 := (g_some hf)
        subst hq0
        exact K_144 _ _ _ hP hD hS (lv_sub hl [0, 2] rfl)
  have hf := hB_100
  unfold f_MO_join_B82 at hf
  refine lv_icmp_le (tgt := 94) hx hb d_MO_join_82 (by decide) (fun cb_2 => ?_) (fun cb_2 => ?_)
  · have hf := g_t hf cb_2
    refine lv_aload_n hx hb d_MO_join_94 rfl (lv_at hl 0 rfl) ?_
    refine va_get (D := (dC, dI)) (ci := 8) (v := .ref (a 11)) (C := R_MO) (T := F_MO) (N := 42) hx hb hts (in_MO _) hown hK hP 0 rfl rfl 24 (by decide) (hts _ (List.mem_cons_of_mem _ mw_716)) (fun _ h9 => h9) rfl d_MO_join_95 ?_
    refine lv_iload_n hx hb d_MO_join_98 rfl (lv_at hl 1 rfl) ?_
    refine va_iald (D := (dC, dI)) hx hb hK hP 11 0 rfl rfl ck_3 d_MO_join_99 ?_
    have hq0 := (g_some hf)
    subst hq0
    exact K_100 _ _ _ hP hD hS (lv_sub hl [0, 1, 2] rfl)
  · have hf := g_f hf cb_2
    refine lv_aload_n hx hb d_MO_join_85 rfl (lv_at hl 0 rfl) ?_
    refine va_get (D := (dC, dI)) (ci := 8) (v := .ref (a 11)) (C := R_MO) (T := F_MO) (N := 42) hx hb hts (in_MO _) hown hK hP 0 rfl rfl 24 (by decide) (hts _ (List.mem_cons_of_mem _ mw_716)) (fun _ h9 => h9) rfl d_MO_join_86 ?_
    refine lv_iload_n hx hb d_MO_join_89 rfl (lv_at hl 2 rfl) ?_
    refine va_iald (D := (dC, dI)) hx hb hK hP 11 0 rfl rfl ck_2 d_MO_join_90 ?_
    refine lv_goto (tgt := 100) hx hb d_MO_join_91 (by decide) ?_
    have hq0 := (g_some hf)
    subst hq0
    exact K_100 _ _ _ hP hD hS (lv_sub hl [0, 1, 2] rfl)
