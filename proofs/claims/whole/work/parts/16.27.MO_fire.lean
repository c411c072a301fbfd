def f_MO_fire_B30 (mo_1 : MOt) (v4 : Int32) : Option (Int32) :=
  if (MO_has mo_1 v4.toNatClampNeg) = 0 then (
    some 0
  ) else
  if (MO_clears mo_1) = 0 then (
    some 1
  ) else
  if (MO_toldOf mo_1 v4.toNatClampNeg) = 0 then (
    some 1
  ) else
  some 0
def f_MO_fire_L2 (x1 : Int32) : Nat → Int32 → MOt → Option (MOt)
  | 0, _, _ => none
  | n + 1, v3, mo_1 =>
    if 300 ≤ v3 then (
      some mo_1
    ) else
    gl_let (((300 * x1) + v3)) fun v4 =>
    if v4 < 0 ∨ 60000 ≤ v4.toNatClampNeg then none else
    (f_MO_fire_B30 mo_1 v4).bind fun t =>
    if v3 < 0 ∨ 300 ≤ v3.toNatClampNeg then none else
    gl_let (v3 + 1) fun v3_1 =>
    gl_let ((sMO_isIn (sMO_toldOf mo_1 (upd (MO_toldOf mo_1) v4.toNatClampNeg (vp_nar .boolean (MO_has mo_1 v4.toNatClampNeg)))) (upd (MO_isIn mo_1) v3.toNatClampNeg (vp_nar .boolean t))) : MOt) fun mo_3 =>
    f_MO_fire_L2 x1 n v3_1 mo_3
def f_MO_fire_B108 (x1 : Int32) (x2 : Int32) (mo_4 : MOt) : Int32 :=
  if (MO_sEnded mo_4 x1.toNatClampNeg) = 0 then (
    if x2 ≤ 0 then (
      0
    ) else
    1
  ) else
  1
def f_MO_fire (k : Nat) (x1 : Int32) (x2 : Int32) (mo : MOt) : Option MOt :=
  (f_MO_fire_L2 x1 k 0 mo).bind fun mo_2 =>
  (f_MO_contents k mo_2).bind fun mo_4 =>
  if x1 < 0 ∨ 200 ≤ x1.toNatClampNeg then none else
  gl_let ((sMO_sPut (sMO_sFired mo_4 (upd (MO_sFired mo_4) x1.toNatClampNeg ((MO_sFired mo_4 x1.toNatClampNeg) + 1))) (upd (MO_sPut mo_4) x1.toNatClampNeg 0)) : MOt) fun mo_5 =>
  gl_let (f_MO_fire_B108 x1 x2 mo_4) fun t_1 =>
  gl_let ((sMO_sEnded mo_5 (upd (MO_sEnded mo_5) x1.toNatClampNeg (vp_nar .boolean t_1))) : MOt) fun mo_6 =>
  (f_MO_tell k (MO_sKey mo_5 x1.toNatClampNeg) (MO_sBegin mo_5 x1.toNatClampNeg) (MO_sEnd mo_5 x1.toNatClampNeg) x2 (MO_sFired mo_5 x1.toNatClampNeg) mo_6).bind fun mo_7 =>
  some mo_7
set_option maxHeartbeats 4000000 in
set_option maxRecDepth 100000 in
theorem c_MO_fire (l : Launch) (dC : Nat → ClassId) (dI : Nat → Nat → Nat) (tC : Nat → ClassId) (a : Nat → Nat) (k : Nat) (x1 : Int32) (x2 : Int32) (mo : MOt) (moR : MOt) (hf : f_MO_fire k x1 x2 mo = some moR) : cx_M l y_MO_fire w_MO_fire { frames := 2, cells := 0, slots := 0, locals := 45 } (dC, dI) classes (tyS tC) [.ref (a 0), .int x1, .int x2] (wMO tC a mo) (wMO tC a moR) (none) := by
  refine cx_of (cc := b_MO_fire) (maxL := 5) (ret := none) (plainFor_of_name (by decide)) rfl (Nat.le_of_ble_eq_true rfl) ?_
  intro p e s m below meth c hx hb hr hml hown hts hlocks A hA H locs ls hK hN hP hD hS hl
  have hown : s.vm.findClass R_MO = some m.cls := hown
  have hl : lv_has ls 5 [(0, .ref (a 0)), (1, .int x1), (2, .int x2)] := hl
  unfold f_MO_fire at hf
  refine lv_iconst (v := 0) hx hb d_MO_fire_0 (by decide) ?_
  refine lv_istore_n (lv' := [(3, .int 0), (0, .ref (a 0)), (1, .int x1), (2, .int x2)]) hx hb d_MO_fire_1 rfl hl (by decide) rfl (fun ls hl => ?_)
  have L_2 : ∀ (n : Nat) (v3 : Int32) (mo_1 : MOt) (mo_2 : MOt), f_MO_fire_L2 x1 n v3 mo_1 = some mo_2 → ∀ (H : Heap) (locs : List Loc) (ls : Array Slot), va_P (dC, dI) classes (wMO tC a mo_1) H → va_D A (wMO tC a mo_1) → va_S A s.heap H locs → lv_has ls 5 [(0, .ref (a 0)), (1, .int x1), (2, .int x2), (3, .int v3)] → (∀ (H : Heap) (locs : List Loc) (ls : Array Slot), va_P (dC, dI) classes (wMO tC a mo_2) H → va_D A (wMO tC a mo_2) → va_S A s.heap H locs → lv_has ls 5 [(0, .ref (a 0)), (1, .int x1), (2, .int x2)] → W p l e { frames := 2, cells := 0, slots := 0, locals := 45 } s m [.ref (a 0), .int x1, .int x2].toArray below meth c H locs 0 0 (cx_Z (dC, dI) classes below [.ref (a 0), .int x1, .int x2] s (wMO tC a moR) (none) A) (F0 m 76 ls [])) → W p l e { frames := 2, cells := 0, slots := 0, locals := 45 } s m [.ref (a 0), .int x1, .int x2].toArray below meth c H locs 0 0 (cx_Z (dC, dI) classes below [.ref (a 0), .int x1, .int x2] s (wMO tC a moR) (none) A) (F0 m 2 ls []) := by
    intro n
    induction n with
    | zero =>
      intro v3 mo_1 mo_2 hf
      rw [f_MO_fire_L2] at hf
      cases hf
    | succ n ih =>
      intro v3 mo_1 mo_2 hf H locs ls hP hD hS hl kk
      rw [f_MO_fire_L2] at hf
      refine lv_iload_n hx hb d_MO_fire_2 rfl (lv_at hl 3 rfl) ?_
      refine lv_sipush (v := 300) hx hb d_MO_fire_3 (by decide) ?_
      refine lv_icmp_ge (tgt := 76) hx hb d_MO_fire_6 (by decide) (fun cb => ?_) (fun cb => ?_)
      · have hf := g_t hf cb
        have hq0 := (g_some hf)
        subst hq0
        exact kk _ _ _ hP hD hS (lv_sub hl [0, 1, 2] rfl)
      · have hf := g_f hf cb
        refine lv_sipush (v := 300) hx hb d_MO_fire_9 (by decide) ?_
        refine lv_iload_n hx hb d_MO_fire_12 rfl (lv_at hl 1 rfl) ?_
        refine lv_imul hx hb d_MO_fire_13 ?_
        refine lv_iload_n hx hb d_MO_fire_14 rfl (lv_at hl 3 rfl) ?_
        refine lv_iadd hx hb d_MO_fire_15 ?_
        refine lv_topi (fun v4 h_v4 => ?_)
        have hf := g_let hf h_v4
        refine lv_istore (lv' := [(4, .int v4), (0, .ref (a 0)), (1, .int x1), (2, .int x2), (3, .int v3)]) hx hb d_MO_fire_16 hl (by decide) rfl (fun ls hl => ?_)
        refine lv_aload_n hx hb d_MO_fire_18 rfl (lv_at hl 1 rfl) ?_
        refine va_get (D := (dC, dI)) (ci := 8) (v := .ref (a 22)) (C := R_MO) (T := F_MO) (N := 42) hx hb hts (in_MO _) hown hK hP 0 rfl rfl 41 (by decide) (hts _ (List.mem_cons_of_mem _ mw_733)) (fun _ h9 => h9) rfl d_MO_fire_19 ?_
        refine lv_iload_n hx hb d_MO_fire_22 rfl (lv_at hl 4 rfl) ?_
        refine lv_aload_n hx hb d_MO_fire_23 rfl (lv_at hl 1 rfl) ?_
        refine va_get (D := (dC, dI)) (ci := 8) (v := .ref (a 14)) (C := R_MO) (T := F_MO) (N := 42) hx hb hts (in_MO _) hown hK hP 0 rfl rfl 27 (by decide) (hts _ (List.mem_cons_of_mem _ mw_719)) (fun _ h9 => h9) rfl d_MO_fire_24 ?_
        refine lv_iload hx hb d_MO_fire_27 (lv_at hl 0 rfl) ?_
        obtain ⟨ck, hf⟩ := g_ck hf
        refine va_zald (D := (dC, dI)) hx hb hK hP 14 2 rfl rfl ck d_MO_fire_29 ?_
        obtain ⟨t, hB_55, hf⟩ := g_bind hf
        try dsimp only at hf
        have K_55 : ∀ (H : Heap) (locs : List Loc) (ls : Array Slot), va_P (dC, dI) classes (wMO tC a mo_1) H → va_D A (wMO tC a mo_1) → va_S A s.heap H locs → lv_has ls 5 [(0, .ref (a 0)), (1, .int x1), (2, .int x2), (3, .int v3), (4, .int v4)] → W p l e { frames := 2, cells := 0, slots := 0, locals := 45 } s m [.ref (a 0), .int x1, .int x2].toArray below meth c H locs 0 0 (cx_Z (dC, dI) classes below [.ref (a 0), .int x1, .int x2] s (wMO tC a moR) (none) A) (F0 m 55 ls [.int t, .int v3, .ref (a 22)]) := by
          intro H locs ls hP hD hS hl
          obtain ⟨ck_1, hf⟩ := g_ck hf
          refine va_zast (D := (dC, dI)) hx hb hK hP hD hS 22 2 rfl rfl ck_1 d_MO_fire_55 (fun H locs hP hD hS => ?_)
          have hP : va_P (dC, dI) classes (wMO tC a (sMO_isIn mo_1 (upd (MO_isIn mo_1) v3.toNatClampNeg (vp_nar .boolean t)))) H := hP
          have hD : va_D A (wMO tC a (sMO_isIn mo_1 (upd (MO_isIn mo_1) v3.toNatClampNeg (vp_nar .boolean t)))) := hD
          refine lv_aload_n hx hb d_MO_fire_56 rfl (lv_at hl 0 rfl) ?_
          refine va_get (D := (dC, dI)) (ci := 8) (v := .ref (a 15)) (C := R_MO) (T := F_MO) (N := 42) hx hb hts (in_MO _) hown hK hP 0 rfl rfl 28 (by decide) (hts _ (List.mem_cons_of_mem _ mw_720)) (fun _ h9 => h9) rfl d_MO_fire_57 ?_
          refine lv_iload hx hb d_MO_fire_60 (lv_at hl 4 rfl) ?_
          refine lv_aload_n hx hb d_MO_fire_62 rfl (lv_at hl 0 rfl) ?_
          refine va_get (D := (dC, dI)) (ci := 8) (v := .ref (a 14)) (C := R_MO) (T := F_MO) (N := 42) hx hb hts (in_MO _) hown hK hP 0 rfl rfl 27 (by decide) (hts _ (List.mem_cons_of_mem _ mw_719)) (fun _ h9 => h9) rfl d_MO_fire_63 ?_
          refine lv_iload hx hb d_MO_fire_66 (lv_at hl 4 rfl) ?_
          refine va_zald (D := (dC, dI)) hx hb hK hP 14 2 rfl rfl ck d_MO_fire_68 ?_
          refine va_zast (D := (dC, dI)) hx hb hK hP hD hS 15 2 rfl rfl ck d_MO_fire_69 (fun H locs hP hD hS => ?_)
          have hP : va_P (dC, dI) classes (wMO tC a (sMO_isIn (sMO_toldOf mo_1 (upd (MO_toldOf mo_1) v4.toNatClampNeg (vp_nar .boolean (MO_has mo_1 v4.toNatClampNeg)))) (upd (MO_isIn mo_1) v3.toNatClampNeg (vp_nar .boolean t)))) H := hP
          have hD : va_D A (wMO tC a (sMO_isIn (sMO_toldOf mo_1 (upd (MO_toldOf mo_1) v4.toNatClampNeg (vp_nar .boolean (MO_has mo_1 v4.toNatClampNeg)))) (upd (MO_isIn mo_1) v3.toNatClampNeg (vp_nar .boolean t)))) := hD
          obtain ⟨v3_1, h_v3_1⟩ : ∃ z : Int32, z = v3 + 1 := ⟨_, rfl⟩
          have hf := g_let hf h_v3_1
          refine lv_iinc (v := v3_1) (lv' := [(3, .int v3_1), (0, .ref (a 0)), (1, .int x1), (2, .int x2), (4, .int v4)]) hx hb d_MO_fire_70 hl (k := 3) rfl (by rw [h_v3_1]; rfl) (by decide) rfl (fun ls hl => ?_)
          refine lv_goto (tgt := 2) hx hb d_MO_fire_73 (by decide) ?_
          obtain ⟨mo_3, h_mo_3⟩ : ∃ z : MOt, z = (sMO_isIn (sMO_toldOf mo_1 (upd (MO_toldOf mo_1) v4.toNatClampNeg (vp_nar .boolean (MO_has mo_1 v4.toNatClampNeg)))) (upd (MO_isIn mo_1) v3.toNatClampNeg (vp_nar .boolean t))) := ⟨_, rfl⟩
          have hf := g_let hf h_mo_3
          have hP : va_P (dC, dI) classes (wMO tC a mo_3) H := by rw [h_mo_3]; exact hP
          have hD : va_D A (wMO tC a mo_3) := by rw [h_mo_3]; exact hD
          exact ih v3_1 mo_3 mo_2 hf H locs ls hP hD hS (lv_sub hl [1, 2, 3, 0] rfl) kk
        have hf := hB_55
        unfold f_MO_fire_B30 at hf
        refine lv_if_eq (tgt := 54) hx hb d_MO_fire_30 (by decide) (fun cb_1 => ?_) (fun cb_1 => ?_)
        · have hf := g_t hf cb_1
          refine lv_iconst (v := 0) hx hb d_MO_fire_54 (by decide) ?_
          have hq0 := (g_some hf)
          subst hq0
          exact K_55 _ _ _ hP hD hS (lv_sub hl [1, 2, 3, 4, 0] rfl)
        · have hf := g_f hf cb_1
          refine lv_aload_n hx hb d_MO_fire_33 rfl (lv_at hl 1 rfl) ?_
          refine va_get (D := (dC, dI)) (ci := 8) (v := .int (MO_clears mo_1)) (C := R_MO) (T := F_MO) (N := 42) hx hb hts (in_MO _) hown hK hP 0 rfl rfl 7 (by decide) (hts _ (List.mem_cons_of_mem _ mw_699)) (fun _ h9 => h9) rfl d_MO_fire_34 ?_
          refine lv_if_eq (tgt := 50) hx hb d_MO_fire_37 (by decide) (fun cb_2 => ?_) (fun cb_2 => ?_)
          · have hf := g_t hf cb_2
            refine lv_iconst (v := 1) hx hb d_MO_fire_50 (by decide) ?_
            refine lv_goto (tgt := 55) hx hb d_MO_fire_51 (by decide) ?_
            have hq0 := (g_some hf)
            subst hq0
            exact K_55 _ _ _ hP hD hS (lv_sub hl [1, 2, 3, 4, 0] rfl)
          · have hf := g_f hf cb_2
            refine lv_aload_n hx hb d_MO_fire_40 rfl (lv_at hl 1 rfl) ?_
            refine va_get (D := (dC, dI)) (ci := 8) (v := .ref (a 15)) (C := R_MO) (T := F_MO) (N := 42) hx hb hts (in_MO _) hown hK hP 0 rfl rfl 28 (by decide) (hts _ (List.mem_cons_of_mem _ mw_720)) (fun _ h9 => h9) rfl d_MO_fire_41 ?_
            refine lv_iload hx hb d_MO_fire_44 (lv_at hl 0 rfl) ?_
            refine va_zald (D := (dC, dI)) hx hb hK hP 15 2 rfl rfl ck d_MO_fire_46 ?_
            refine lv_if_ne (tgt := 54) hx hb d_MO_fire_47 (by decide) (fun cb_3 => ?_) (fun cb_3 => ?_)
            · have hf := g_f hf cb_3
              refine lv_iconst (v := 0) hx hb d_MO_fire_54 (by decide) ?_
              have hq0 := (g_some hf)
              subst hq0
              exact K_55 _ _ _ hP hD hS (lv_sub hl [1, 2, 3, 4, 0] rfl)
            · have hf := g_t hf cb_3
              refine lv_iconst (v := 1) hx hb d_MO_fire_50 (by decide) ?_
              refine lv_goto (tgt := 55) hx hb d_MO_fire_51 (by decide) ?_
              have hq0 := (g_some hf)
              subst hq0
              exact K_55 _ _ _ hP hD hS (lv_sub hl [1, 2, 3, 4, 0] rfl)
  obtain ⟨mo_2, hL_2, hf⟩ := g_bind hf
  try dsimp only at hf
  refine L_2 k 0 mo mo_2 hL_2 H locs ls hP hD hS (lv_sub hl [1, 2, 3, 0] rfl) (fun H locs ls hP hD hS hl => ?_)
  refine lv_aload_n hx hb d_MO_fire_76 rfl (lv_at hl 0 rfl) ?_
  obtain ⟨mo_4, hc, hf⟩ := g_bind hf
  try dsimp only at hf
  refine cx3_callV (As := []) (rest := []) (wMO tC a mo_4) ⟨hx, hb, hml, hown, hts⟩ (c_MO_contents l dC dI tC a k mo_2 mo_4 hc) (k_MO_224 hts ⟨Nat.le_of_ble_eq_true rfl, Nat.le_of_ble_eq_true rfl⟩) hl.1 hP hD hS hA hK hN 0 8 rfl rfl rfl (adMO _ _ _ _) rfl rfl (Nat.le_of_ble_eq_true rfl) d_MO_fire_77 ⟨Nat.zero_le _, Nat.zero_le _⟩ (fun H locs hP hD hS => ?_)
  refine W.eq (g2 := F0 m 80 ls []) rfl ?_
  refine lv_aload_n hx hb d_MO_fire_80 rfl (lv_at hl 0 rfl) ?_
  refine va_get (D := (dC, dI)) (ci := 8) (v := .ref (a 11)) (C := R_MO) (T := F_MO) (N := 42) hx hb hts (in_MO _) hown hK hP 0 rfl rfl 24 (by decide) (hts _ (List.mem_cons_of_mem _ mw_716)) (fun _ h9 => h9) rfl d_MO_fire_81 ?_
  refine lv_iload_n hx hb d_MO_fire_84 rfl (lv_at hl 1 rfl) ?_
  refine lv_dup2_11 hx hb d_MO_fire_85 rfl rfl ?_
  obtain ⟨ck_2, hf⟩ := g_ck hf
  refine va_iald (D := (dC, dI)) hx hb hK hP 11 0 rfl rfl ck_2 d_MO_fire_86 ?_
  refine lv_iconst (v := 1) hx hb d_MO_fire_87 (by decide) ?_
  refine lv_iadd hx hb d_MO_fire_88 ?_
  refine va_iast (D := (dC, dI)) hx hb hK hP hD hS 11 0 rfl rfl ck_2 d_MO_fire_89 (fun H locs hP hD hS => ?_)
  have hP : va_P (dC, dI) classes (wMO tC a (sMO_sFired mo_4 (upd (MO_sFired mo_4) x1.toNatClampNeg ((MO_sFired mo_4 x1.toNatClampNeg) + 1)))) H := hP
  have hD : va_D A (wMO tC a (sMO_sFired mo_4 (upd (MO_sFired mo_4) x1.toNatClampNeg ((MO_sFired mo_4 x1.toNatClampNeg) + 1)))) := hD
  refine lv_aload_n hx hb d_MO_fire_90 rfl (lv_at hl 0 rfl) ?_
  refine va_get (D := (dC, dI)) (ci := 8) (v := .ref (a 12)) (C := R_MO) (T := F_MO) (N := 42) hx hb hts (in_MO _) hown hK hP 0 rfl rfl 25 (by decide) (hts _ (List.mem_cons_of_mem _ mw_717)) (fun _ h9 => h9) rfl d_MO_fire_91 ?_
  refine lv_iload_n hx hb d_MO_fire_94 rfl (lv_at hl 1 rfl) ?_
  refine lv_iconst (v := 0) hx hb d_MO_fire_95 (by decide) ?_
  refine va_iast (D := (dC, dI)) hx hb hK hP hD hS 12 0 rfl rfl ck_2 d_MO_fire_96 (fun H locs hP hD hS => ?_)
  have hP : va_P (dC, dI) classes (wMO tC a (sMO_sPut (sMO_sFired mo_4 (upd (MO_sFired mo_4) x1.toNatClampNeg ((MO_sFired mo_4 x1.toNatClampNeg) + 1))) (upd (MO_sPut mo_4) x1.toNatClampNeg 0))) H := hP
  have hD : va_D A (wMO tC a (sMO_sPut (sMO_sFired mo_4 (upd (MO_sFired mo_4) x1.toNatClampNeg ((MO_sFired mo_4 x1.toNatClampNeg) + 1))) (upd (MO_sPut mo_4) x1.toNatClampNeg 0))) := hD
  refine lv_aload_n hx hb d_MO_fire_97 rfl (lv_at hl 0 rfl) ?_
  refine va_get (D := (dC, dI)) (ci := 8) (v := .ref (a 13)) (C := R_MO) (T := F_MO) (N := 42) hx hb hts (in_MO _) hown hK hP 0 rfl rfl 26 (by decide) (hts _ (List.mem_cons_of_mem _ mw_718)) (fun _ h9 => h9) rfl d_MO_fire_98 ?_
  refine lv_iload_n hx hb d_MO_fire_101 rfl (lv_at hl 1 rfl) ?_
  refine lv_aload_n hx hb d_MO_fire_102 rfl (lv_at hl 0 rfl) ?_
  refine va_get (D := (dC, dI)) (ci := 8) (v := .ref (a 13)) (C := R_MO) (T := F_MO) (N := 42) hx hb hts (in_MO _) hown hK hP 0 rfl rfl 26 (by decide) (hts _ (List.mem_cons_of_mem _ mw_718)) (fun _ h9 => h9) rfl d_MO_fire_103 ?_
  refine lv_iload_n hx hb d_MO_fire_106 rfl (lv_at hl 1 rfl) ?_
  refine va_zald (D := (dC, dI)) hx hb hK hP 13 2 rfl rfl ck_2 d_MO_fire_107 ?_
  obtain ⟨mo_5, h_mo_5⟩ : ∃ z : MOt, z = (sMO_sPut (sMO_sFired mo_4 (upd (MO_sFired mo_4) x1.toNatClampNeg ((MO_sFired mo_4 x1.toNatClampNeg) + 1))) (upd (MO_sPut mo_4) x1.toNatClampNeg 0)) := ⟨_, rfl⟩
  have hf := g_let hf h_mo_5
  have hP : va_P (dC, dI) classes (wMO tC a mo_5) H := by rw [h_mo_5]; exact hP
  have hD : va_D A (wMO tC a mo_5) := by rw [h_mo_5]; exact hD
  obtain ⟨t_1, hB_120⟩ : ∃ z : Int32, z = f_MO_fire_B108 x1 x2 mo_4 := ⟨_, rfl⟩
  have hf := g_let hf hB_120
  have hB_120 := hB_120.symm
  try dsimp only at hf
  have K_120 : ∀ (H : Heap) (locs : List Loc) (ls : Array Slot), va_P (dC, dI) classes (wMO tC a mo_5) H → va_D A (wMO tC a mo_5) → va_S A s.heap H locs → lv_has ls 5 [(0, .ref (a 0)), (1, .int x1), (2, .int x2)] → W p l e { frames := 2, cells := 0, slots := 0, locals := 45 } s m [.ref (a 0), .int x1, .int x2].toArray below meth c H locs 0 0 (cx_Z (dC, dI) classes below [.ref (a 0), .int x1, .int x2] s (wMO tC a moR) (none) A) (F0 m 120 ls [.int t_1, .int x1, .ref (a 13)]) := by
    intro H locs ls hP hD hS hl
    refine va_zast (D := (dC, dI)) hx hb hK hP hD hS 13 2 rfl rfl ck_2 d_MO_fire_120 (fun H locs hP hD hS => ?_)
    have hP : va_P (dC, dI) classes (wMO tC a (sMO_sEnded mo_5 (upd (MO_sEnded mo_5) x1.toNatClampNeg (vp_nar .boolean t_1)))) H := hP
    have hD : va_D A (wMO tC a (sMO_sEnded mo_5 (upd (MO_sEnded mo_5) x1.toNatClampNeg (vp_nar .boolean t_1)))) := hD
    refine lv_aload_n hx hb d_MO_fire_121 rfl (lv_at hl 0 rfl) ?_
    refine lv_aload_n hx hb d_MO_fire_122 rfl (lv_at hl 0 rfl) ?_
    refine va_get (D := (dC, dI)) (ci := 8) (v := .ref (a 8)) (C := R_MO) (T := F_MO) (N := 42) hx hb hts (in_MO _) hown hK hP 0 rfl rfl 21 (by decide) (hts _ (List.mem_cons_of_mem _ mw_713)) (fun _ h9 => h9) rfl d_MO_fire_123 ?_
    refine lv_iload_n hx hb d_MO_fire_126 rfl (lv_at hl 1 rfl) ?_
    refine va_iald (D := (dC, dI)) hx hb hK hP 8 0 rfl rfl ck_2 d_MO_fire_127 ?_
    refine lv_aload_n hx hb d_MO_fire_128 rfl (lv_at hl 0 rfl) ?_
    refine va_get (D := (dC, dI)) (ci := 8) (v := .ref (a 9)) (C := R_MO) (T := F_MO) (N := 42) hx hb hts (in_MO _) hown hK hP 0 rfl rfl 22 (by decide) (hts _ (List.mem_cons_of_mem _ mw_714)) (fun _ h9 => h9) rfl d_MO_fire_129 ?_
    refine lv_iload_n hx hb d_MO_fire_132 rfl (lv_at hl 1 rfl) ?_
    refine va_lald (D := (dC, dI)) hx hb hK hP 9 1 rfl rfl ck_2 d_MO_fire_133 ?_
    refine lv_aload_n hx hb d_MO_fire_134 rfl (lv_at hl 0 rfl) ?_
    refine va_get (D := (dC, dI)) (ci := 8) (v := .ref (a 10)) (C := R_MO) (T := F_MO) (N := 42) hx hb hts (in_MO _) hown hK hP 0 rfl rfl 23 (by decide) (hts _ (List.mem_cons_of_mem _ mw_715)) (fun _ h9 => h9) rfl d_MO_fire_135 ?_
    refine lv_iload_n hx hb d_MO_fire_138 rfl (lv_at hl 1 rfl) ?_
    refine va_lald (D := (dC, dI)) hx hb hK hP 10 1 rfl rfl ck_2 d_MO_fire_139 ?_
    refine lv_iload_n hx hb d_MO_fire_140 rfl (lv_at hl 2 rfl) ?_
    refine lv_aload_n hx hb d_MO_fire_141 rfl (lv_at hl 0 rfl) ?_
    refine va_get (D := (dC, dI)) (ci := 8) (v := .ref (a 11)) (C := R_MO) (T := F_MO) (N := 42) hx hb hts (in_MO _) hown hK hP 0 rfl rfl 24 (by decide) (hts _ (List.mem_cons_of_mem _ mw_716)) (fun _ h9 => h9) rfl d_MO_fire_142 ?_
    refine lv_iload_n hx hb d_MO_fire_145 rfl (lv_at hl 1 rfl) ?_
    refine va_iald (D := (dC, dI)) hx hb hK hP 11 0 rfl rfl ck_2 d_MO_fire_146 ?_
    obtain ⟨mo_6, h_mo_6⟩ : ∃ z : MOt, z = (sMO_sEnded mo_5 (upd (MO_sEnded mo_5) x1.toNatClampNeg (vp_nar .boolean t_1))) := ⟨_, rfl⟩
    have hf := g_let hf h_mo_6
    have hP : va_P (dC, dI) classes (wMO tC a mo_6) H := by rw [h_mo_6]; exact hP
    have hD : va_D A (wMO tC a mo_6) := by rw [h_mo_6]; exact hD
    obtain ⟨mo_7, hc_1, hf⟩ := g_bind hf
    try dsimp only at hf
    refine cx3_callV (As := [.int (MO_sKey mo_5 x1.toNatClampNeg), .long (MO_sBegin mo_5 x1.toNatClampNeg), .long (MO_sEnd mo_5 x1.toNatClampNeg), .int x2, .int (MO_sFired mo_5 x1.toNatClampNeg)]) (rest := []) (wMO tC a mo_7) ⟨hx, hb, hml, hown, hts⟩ (c_MO_tell l dC dI tC a k (MO_sKey mo_5 x1.toNatClampNeg) (MO_sBegin mo_5 x1.toNatClampNeg) (MO_sEnd mo_5 x1.toNatClampNeg) x2 (MO_sFired mo_5 x1.toNatClampNeg) mo_6 mo_7 hc_1) (k_MO_227 hts ⟨Nat.le_of_ble_eq_true rfl, Nat.le_of_ble_eq_true rfl⟩) hl.1 hP hD hS hA hK hN 0 8 rfl rfl rfl (adMO _ _ _ _) rfl rfl (Nat.le_of_ble_eq_true rfl) d_MO_fire_147 ⟨Nat.zero_le _, Nat.zero_le _⟩ (fun H locs hP hD hS => ?_)
    refine W.eq (g2 := F0 m 150 ls []) rfl ?_
    have hq0 := (g_some hf)
    subst hq0
    exact cx_vret hx hb hr hlocks hP hS d_MO_fire_150
  have hf := hB_120
  unfold f_MO_fire_B108 at hf
  refine lv_if_ne (tgt := 115) hx hb d_MO_fire_108 (by decide) (fun cb_4 => ?_) (fun cb_4 => ?_)
  · have hf := g_f hf cb_4
    refine lv_iconst (v := 1) hx hb d_MO_fire_115 (by decide) ?_
    refine lv_goto (tgt := 120) hx hb d_MO_fire_116 (by decide) ?_
    have hq0 := hf
    subst hq0
    exact K_120 _ _ _ hP hD hS (lv_sub hl [0, 1, 2] rfl)
  · have hf := g_t hf cb_4
    refine lv_iload_n hx hb d_MO_fire_111 rfl (lv_at hl 2 rfl) ?_
    refine lv_if_le (tgt := 119) hx hb d_MO_fire_112 (by decide) (fun cb_5 => ?_) (fun cb_5 => ?_)
    · have hf := g_t hf cb_5
      refine lv_iconst (v := 0) hx hb d_MO_fire_119 (by decide) ?_
      have hq0 := hf
      subst hq0
      exact K_120 _ _ _ hP hD hS (lv_sub hl [0, 1, 2] rfl)
    · have hf := g_f hf cb_5
      refine lv_iconst (v := 1) hx hb d_MO_fire_115 (by decide) ?_
      refine lv_goto (tgt := 120) hx hb d_MO_fire_116 (by decide) ?_
      have hq0 := hf
      subst hq0
      exact K_120 _ _ _ hP hD hS (lv_sub hl [0, 1, 2] rfl)
