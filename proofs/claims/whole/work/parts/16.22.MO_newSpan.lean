def f_MO_newSpan_L3 (mo : MOt) : Nat → Int32 → Option (Int32)
  | 0, _ => none
  | n + 1, v6 =>
    if v6 < 0 ∨ 200 ≤ v6.toNatClampNeg then none else
    if (MO_sKey mo v6.toNatClampNeg) = (-1) then (
      some v6
    ) else
    gl_let (v6 + 1) fun v6_2 =>
    f_MO_newSpan_L3 mo n v6_2
def f_MO_newSpan_L72 (v6_1 : Int32) : Nat → Int32 → MOt → Option (MOt)
  | 0, _, _ => none
  | n + 1, v7, mo_2 =>
    if 300 ≤ v7 then (
      some mo_2
    ) else
    if ((300 * v6_1) + v7) < 0 ∨ 60000 ≤ ((300 * v6_1) + v7).toNatClampNeg then none else
    gl_let (v7 + 1) fun v7_1 =>
    gl_let ((sMO_toldOf (sMO_has mo_2 (upd (MO_has mo_2) ((300 * v6_1) + v7).toNatClampNeg 0)) (upd (MO_toldOf mo_2) ((300 * v6_1) + v7).toNatClampNeg 0)) : MOt) fun mo_4 =>
    f_MO_newSpan_L72 v6_1 n v7_1 mo_4
def f_MO_newSpan (k : Nat) (x1 : Int32) (x2 : Int64) (x4 : Int64) (mo : MOt) : Option (Int32 × MOt) :=
  (f_MO_newSpan_L3 mo k 0).bind fun v6_1 =>
  if v6_1 < 0 ∨ 200 ≤ v6_1.toNatClampNeg then none else
  gl_let ((sMO_sEnded (sMO_sPut (sMO_sFired (sMO_sEnd (sMO_sBegin (sMO_sKey mo (upd (MO_sKey mo) v6_1.toNatClampNeg x1)) (vp_updL (MO_sBegin mo) v6_1.toNatClampNeg x2)) (vp_updL (MO_sEnd mo) v6_1.toNatClampNeg x4)) (upd (MO_sFired mo) v6_1.toNatClampNeg 0)) (upd (MO_sPut mo) v6_1.toNatClampNeg 0)) (upd (MO_sEnded mo) v6_1.toNatClampNeg 0)) : MOt) fun mo_1 =>
  (f_MO_newSpan_L72 v6_1 k 0 mo_1).bind fun mo_3 =>
  some (v6_1, (sMO_spans mo_3 ((MO_spans mo_3) + 1)))
set_option maxHeartbeats 4000000 in
set_option maxRecDepth 100000 in
theorem c_MO_newSpan (l : Launch) (dC : Nat → ClassId) (dI : Nat → Nat → Nat) (tC : Nat → ClassId) (a : Nat → Nat) (k : Nat) (x1 : Int32) (x2 : Int64) (x4 : Int64) (mo : MOt) (res : Int32) (moR : MOt) (hf : f_MO_newSpan k x1 x2 x4 mo = some (res, moR)) : cx_M l y_MO_newSpan w_MO_newSpan { frames := 0, cells := 0, slots := 0, locals := 0 } (dC, dI) classes (tyS tC) [.ref (a 0), .int x1, .long x2, .long x4] (wMO tC a mo) (wMO tC a moR) (some (.int res)) := by
  refine cx_of (cc := b_MO_newSpan) (maxL := 8) (ret := some .int) (plainFor_of_name (by decide)) rfl (Nat.le_of_ble_eq_true rfl) ?_
  intro p e s m below meth c hx hb hr hml hown hts hlocks A hA H locs ls hK hN hP hD hS hl
  have hown : s.vm.findClass R_MO = some m.cls := hown
  have hl : lv_has ls 8 [(0, .ref (a 0)), (1, .int x1), (2, .long x2), (4, .long x4)] := hl
  unfold f_MO_newSpan at hf
  refine lv_iconst (v := 0) hx hb d_MO_newSpan_0 (by decide) ?_
  refine lv_istore (lv' := [(6, .int 0), (0, .ref (a 0)), (1, .int x1), (2, .long x2), (4, .long x4)]) hx hb d_MO_newSpan_1 hl (by decide) rfl (fun ls hl => ?_)
  have L_3 : ∀ (n : Nat) (v6 : Int32) (v6_1 : Int32), f_MO_newSpan_L3 mo n v6 = some v6_1 → ∀ (H : Heap) (locs : List Loc) (ls : Array Slot), va_P (dC, dI) classes (wMO tC a mo) H → va_D A (wMO tC a mo) → va_S A s.heap H locs → lv_has ls 8 [(0, .ref (a 0)), (1, .int x1), (2, .long x2), (4, .long x4), (6, .int v6)] → (∀ (H : Heap) (locs : List Loc) (ls : Array Slot), va_P (dC, dI) classes (wMO tC a mo) H → va_D A (wMO tC a mo) → va_S A s.heap H locs → lv_has ls 8 [(0, .ref (a 0)), (1, .int x1), (2, .long x2), (4, .long x4), (6, .int v6_1)] → W p l e { frames := 0, cells := 0, slots := 0, locals := 0 } s m [.ref (a 0), .int x1, .long x2, .long x4].toArray below meth c H locs 0 0 (cx_Z (dC, dI) classes below [.ref (a 0), .int x1, .long x2, .long x4] s (wMO tC a moR) (some (.int res)) A) (F0 m 20 ls [])) → W p l e { frames := 0, cells := 0, slots := 0, locals := 0 } s m [.ref (a 0), .int x1, .long x2, .long x4].toArray below meth c H locs 0 0 (cx_Z (dC, dI) classes below [.ref (a 0), .int x1, .long x2, .long x4] s (wMO tC a moR) (some (.int res)) A) (F0 m 3 ls []) := by
    intro n
    induction n with
    | zero =>
      intro v6 v6_1 hf
      rw [f_MO_newSpan_L3] at hf
      cases hf
    | succ n ih =>
      intro v6 v6_1 hf H locs ls hP hD hS hl kk
      rw [f_MO_newSpan_L3] at hf
      refine lv_aload_n hx hb d_MO_newSpan_3 rfl (lv_at hl 0 rfl) ?_
      refine va_get (D := (dC, dI)) (ci := 8) (v := .ref (a 8)) (C := R_MO) (T := F_MO) (N := 42) hx hb hts (in_MO _) hown hK hP 0 rfl rfl 21 (by decide) (hts _ (List.mem_cons_of_mem _ mw_713)) (fun _ h9 => h9) rfl d_MO_newSpan_4 ?_
      refine lv_iload hx hb d_MO_newSpan_7 (lv_at hl 4 rfl) ?_
      obtain ⟨ck, hf⟩ := g_ck hf
      refine va_iald (D := (dC, dI)) hx hb hK hP 8 0 rfl rfl ck d_MO_newSpan_9 ?_
      refine lv_iconst (v := (-1)) hx hb d_MO_newSpan_10 (by decide) ?_
      refine lv_icmp_eq (tgt := 20) hx hb d_MO_newSpan_11 (by decide) (fun cb => ?_) (fun cb => ?_)
      · have hf := g_t hf cb
        have hq0 := (g_some hf)
        subst hq0
        exact kk _ _ _ hP hD hS (lv_sub hl [0, 1, 2, 3, 4] rfl)
      · have hf := g_f hf cb
        obtain ⟨v6_2, h_v6_2⟩ : ∃ z : Int32, z = v6 + 1 := ⟨_, rfl⟩
        have hf := g_let hf h_v6_2
        refine lv_iinc (v := v6_2) (lv' := [(6, .int v6_2), (0, .ref (a 0)), (1, .int x1), (2, .long x2), (4, .long x4)]) hx hb d_MO_newSpan_14 hl (k := 4) rfl (by rw [h_v6_2]; rfl) (by decide) rfl (fun ls hl => ?_)
        refine lv_goto (tgt := 3) hx hb d_MO_newSpan_17 (by decide) ?_
        exact ih v6_2 v6_1 hf H locs ls hP hD hS (lv_sub hl [1, 2, 3, 4, 0] rfl) kk
  obtain ⟨v6_1, hL_3, hf⟩ := g_bind hf
  try dsimp only at hf
  refine L_3 k 0 v6_1 hL_3 H locs ls hP hD hS (lv_sub hl [1, 2, 3, 4, 0] rfl) (fun H locs ls hP hD hS hl => ?_)
  refine lv_aload_n hx hb d_MO_newSpan_20 rfl (lv_at hl 0 rfl) ?_
  refine va_get (D := (dC, dI)) (ci := 8) (v := .ref (a 8)) (C := R_MO) (T := F_MO) (N := 42) hx hb hts (in_MO _) hown hK hP 0 rfl rfl 21 (by decide) (hts _ (List.mem_cons_of_mem _ mw_713)) (fun _ h9 => h9) rfl d_MO_newSpan_21 ?_
  refine lv_iload hx hb d_MO_newSpan_24 (lv_at hl 4 rfl) ?_
  refine lv_iload_n hx hb d_MO_newSpan_26 rfl (lv_at hl 1 rfl) ?_
  obtain ⟨ck_1, hf⟩ := g_ck hf
  refine va_iast (D := (dC, dI)) hx hb hK hP hD hS 8 0 rfl rfl ck_1 d_MO_newSpan_27 (fun H locs hP hD hS => ?_)
  have hP : va_P (dC, dI) classes (wMO tC a (sMO_sKey mo (upd (MO_sKey mo) v6_1.toNatClampNeg x1))) H := hP
  have hD : va_D A (wMO tC a (sMO_sKey mo (upd (MO_sKey mo) v6_1.toNatClampNeg x1))) := hD
  refine lv_aload_n hx hb d_MO_newSpan_28 rfl (lv_at hl 0 rfl) ?_
  refine va_get (D := (dC, dI)) (ci := 8) (v := .ref (a 9)) (C := R_MO) (T := F_MO) (N := 42) hx hb hts (in_MO _) hown hK hP 0 rfl rfl 22 (by decide) (hts _ (List.mem_cons_of_mem _ mw_714)) (fun _ h9 => h9) rfl d_MO_newSpan_29 ?_
  refine lv_iload hx hb d_MO_newSpan_32 (lv_at hl 4 rfl) ?_
  refine lv_lload_n hx hb d_MO_newSpan_34 rfl (lv_at hl 2 rfl) ?_
  refine va_last (D := (dC, dI)) hx hb hK hP hD hS 9 1 rfl rfl ck_1 d_MO_newSpan_35 (fun H locs hP hD hS => ?_)
  have hP : va_P (dC, dI) classes (wMO tC a (sMO_sBegin (sMO_sKey mo (upd (MO_sKey mo) v6_1.toNatClampNeg x1)) (vp_updL (MO_sBegin mo) v6_1.toNatClampNeg x2))) H := hP
  have hD : va_D A (wMO tC a (sMO_sBegin (sMO_sKey mo (upd (MO_sKey mo) v6_1.toNatClampNeg x1)) (vp_updL (MO_sBegin mo) v6_1.toNatClampNeg x2))) := hD
  refine lv_aload_n hx hb d_MO_newSpan_36 rfl (lv_at hl 0 rfl) ?_
  refine va_get (D := (dC, dI)) (ci := 8) (v := .ref (a 10)) (C := R_MO) (T := F_MO) (N := 42) hx hb hts (in_MO _) hown hK hP 0 rfl rfl 23 (by decide) (hts _ (List.mem_cons_of_mem _ mw_715)) (fun _ h9 => h9) rfl d_MO_newSpan_37 ?_
  refine lv_iload hx hb d_MO_newSpan_40 (lv_at hl 4 rfl) ?_
  refine lv_lload hx hb d_MO_newSpan_42 (lv_at hl 3 rfl) ?_
  refine va_last (D := (dC, dI)) hx hb hK hP hD hS 10 1 rfl rfl ck_1 d_MO_newSpan_44 (fun H locs hP hD hS => ?_)
  have hP : va_P (dC, dI) classes (wMO tC a (sMO_sEnd (sMO_sBegin (sMO_sKey mo (upd (MO_sKey mo) v6_1.toNatClampNeg x1)) (vp_updL (MO_sBegin mo) v6_1.toNatClampNeg x2)) (vp_updL (MO_sEnd mo) v6_1.toNatClampNeg x4))) H := hP
  have hD : va_D A (wMO tC a (sMO_sEnd (sMO_sBegin (sMO_sKey mo (upd (MO_sKey mo) v6_1.toNatClampNeg x1)) (vp_updL (MO_sBegin mo) v6_1.toNatClampNeg x2)) (vp_updL (MO_sEnd mo) v6_1.toNatClampNeg x4))) := hD
  refine lv_aload_n hx hb d_MO_newSpan_45 rfl (lv_at hl 0 rfl) ?_
  refine va_get (D := (dC, dI)) (ci := 8) (v := .ref (a 11)) (C := R_MO) (T := F_MO) (N := 42) hx hb hts (in_MO _) hown hK hP 0 rfl rfl 24 (by decide) (hts _ (List.mem_cons_of_mem _ mw_716)) (fun _ h9 => h9) rfl d_MO_newSpan_46 ?_
  refine lv_iload hx hb d_MO_newSpan_49 (lv_at hl 4 rfl) ?_
  refine lv_iconst (v := 0) hx hb d_MO_newSpan_51 (by decide) ?_
  refine va_iast (D := (dC, dI)) hx hb hK hP hD hS 11 0 rfl rfl ck_1 d_MO_newSpan_52 (fun H locs hP hD hS => ?_)
  have hP : va_P (dC, dI) classes (wMO tC a (sMO_sFired (sMO_sEnd (sMO_sBegin (sMO_sKey mo (upd (MO_sKey mo) v6_1.toNatClampNeg x1)) (vp_updL (MO_sBegin mo) v6_1.toNatClampNeg x2)) (vp_updL (MO_sEnd mo) v6_1.toNatClampNeg x4)) (upd (MO_sFired mo) v6_1.toNatClampNeg 0))) H := hP
  have hD : va_D A (wMO tC a (sMO_sFired (sMO_sEnd (sMO_sBegin (sMO_sKey mo (upd (MO_sKey mo) v6_1.toNatClampNeg x1)) (vp_updL (MO_sBegin mo) v6_1.toNatClampNeg x2)) (vp_updL (MO_sEnd mo) v6_1.toNatClampNeg x4)) (upd (MO_sFired mo) v6_1.toNatClampNeg 0))) := hD
  refine lv_aload_n hx hb d_MO_newSpan_53 rfl (lv_at hl 0 rfl) ?_
  refine va_get (D := (dC, dI)) (ci := 8) (v := .ref (a 12)) (C := R_MO) (T := F_MO) (N := 42) hx hb hts (in_MO _) hown hK hP 0 rfl rfl 25 (by decide) (hts _ (List.mem_cons_of_mem _ mw_717)) (fun _ h9 => h9) rfl d_MO_newSpan_54 ?_
  refine lv_iload hx hb d_MO_newSpan_57 (lv_at hl 4 rfl) ?_
  refine lv_iconst (v := 0) hx hb d_MO_newSpan_59 (by decide) ?_
  refine va_iast (D := (dC, dI)) hx hb hK hP hD hS 12 0 rfl rfl ck_1 d_MO_newSpan_60 (fun H locs hP hD hS => ?_)
  have hP : va_P (dC, dI) classes (wMO tC a (sMO_sPut (sMO_sFired (sMO_sEnd (sMO_sBegin (sMO_sKey mo (upd (MO_sKey mo) v6_1.toNatClampNeg x1)) (vp_updL (MO_sBegin mo) v6_1.toNatClampNeg x2)) (vp_updL (MO_sEnd mo) v6_1.toNatClampNeg x4)) (upd (MO_sFired mo) v6_1.toNatClampNeg 0)) (upd (MO_sPut mo) v6_1.toNatClampNeg 0))) H := hP
  have hD : va_D A (wMO tC a (sMO_sPut (sMO_sFired (sMO_sEnd (sMO_sBegin (sMO_sKey mo (upd (MO_sKey mo) v6_1.toNatClampNeg x1)) (vp_updL (MO_sBegin mo) v6_1.toNatClampNeg x2)) (vp_updL (MO_sEnd mo) v6_1.toNatClampNeg x4)) (upd (MO_sFired mo) v6_1.toNatClampNeg 0)) (upd (MO_sPut mo) v6_1.toNatClampNeg 0))) := hD
  refine lv_aload_n hx hb d_MO_newSpan_61 rfl (lv_at hl 0 rfl) ?_
  refine va_get (D := (dC, dI)) (ci := 8) (v := .ref (a 13)) (C := R_MO) (T := F_MO) (N := 42) hx hb hts (in_MO _) hown hK hP 0 rfl rfl 26 (by decide) (hts _ (List.mem_cons_of_mem _ mw_718)) (fun _ h9 => h9) rfl d_MO_newSpan_62 ?_
  refine lv_iload hx hb d_MO_newSpan_65 (lv_at hl 4 rfl) ?_
  refine lv_iconst (v := 0) hx hb d_MO_newSpan_67 (by decide) ?_
  refine va_zast (D := (dC, dI)) hx hb hK hP hD hS 13 2 rfl rfl ck_1 d_MO_newSpan_68 (fun H locs hP hD hS => ?_)
  have hP : va_P (dC, dI) classes (wMO tC a (sMO_sEnded (sMO_sPut (sMO_sFired (sMO_sEnd (sMO_sBegin (sMO_sKey mo (upd (MO_sKey mo) v6_1.toNatClampNeg x1)) (vp_updL (MO_sBegin mo) v6_1.toNatClampNeg x2)) (vp_updL (MO_sEnd mo) v6_1.toNatClampNeg x4)) (upd (MO_sFired mo) v6_1.toNatClampNeg 0)) (upd (MO_sPut mo) v6_1.toNatClampNeg 0)) (upd (MO_sEnded mo) v6_1.toNatClampNeg 0))) H := hP
  have hD : va_D A (wMO tC a (sMO_sEnded (sMO_sPut (sMO_sFired (sMO_sEnd (sMO_sBegin (sMO_sKey mo (upd (MO_sKey mo) v6_1.toNatClampNeg x1)) (vp_updL (MO_sBegin mo) v6_1.toNatClampNeg x2)) (vp_updL (MO_sEnd mo) v6_1.toNatClampNeg x4)) (upd (MO_sFired mo) v6_1.toNatClampNeg 0)) (upd (MO_sPut mo) v6_1.toNatClampNeg 0)) (upd (MO_sEnded mo) v6_1.toNatClampNeg 0))) := hD
  refine lv_iconst (v := 0) hx hb d_MO_newSpan_69 (by decide) ?_
  refine lv_istore (lv' := [(7, .int 0), (0, .ref (a 0)), (1, .int x1), (2, .long x2), (4, .long x4), (6, .int v6_1)]) hx hb d_MO_newSpan_70 hl (by decide) rfl (fun ls hl => ?_)
  obtain ⟨mo_1, h_mo_1⟩ : ∃ z : MOt, z = (sMO_sEnded (sMO_sPut (sMO_sFired (sMO_sEnd (sMO_sBegin (sMO_sKey mo (upd (MO_sKey mo) v6_1.toNatClampNeg x1)) (vp_updL (MO_sBegin mo) v6_1.toNatClampNeg x2)) (vp_updL (MO_sEnd mo) v6_1.toNatClampNeg x4)) (upd (MO_sFired mo) v6_1.toNatClampNeg 0)) (upd (MO_sPut mo) v6_1.toNatClampNeg 0)) (upd (MO_sEnded mo) v6_1.toNatClampNeg 0)) := ⟨_, rfl⟩
  have hf := g_let hf h_mo_1
  have hP : va_P (dC, dI) classes (wMO tC a mo_1) H := by rw [h_mo_1]; exact hP
  have hD : va_D A (wMO tC a mo_1) := by rw [h_mo_1]; exact hD
  have L_72 : ∀ (n : Nat) (v7 : Int32) (mo_2 : MOt) (mo_3 : MOt), f_MO_newSpan_L72 v6_1 n v7 mo_2 = some mo_3 → ∀ (H : Heap) (locs : List Loc) (ls : Array Slot), va_P (dC, dI) classes (wMO tC a mo_2) H → va_D A (wMO tC a mo_2) → va_S A s.heap H locs → lv_has ls 8 [(0, .ref (a 0)), (6, .int v6_1), (7, .int v7)] → (∀ (H : Heap) (locs : List Loc) (ls : Array Slot), va_P (dC, dI) classes (wMO tC a mo_3) H → va_D A (wMO tC a mo_3) → va_S A s.heap H locs → lv_has ls 8 [(0, .ref (a 0)), (6, .int v6_1)] → W p l e { frames := 0, cells := 0, slots := 0, locals := 0 } s m [.ref (a 0), .int x1, .long x2, .long x4].toArray below meth c H locs 0 0 (cx_Z (dC, dI) classes below [.ref (a 0), .int x1, .long x2, .long x4] s (wMO tC a moR) (some (.int res)) A) (F0 m 116 ls [])) → W p l e { frames := 0, cells := 0, slots := 0, locals := 0 } s m [.ref (a 0), .int x1, .long x2, .long x4].toArray below meth c H locs 0 0 (cx_Z (dC, dI) classes below [.ref (a 0), .int x1, .long x2, .long x4] s (wMO tC a moR) (some (.int res)) A) (F0 m 72 ls []) := by
    intro n
    induction n with
    | zero =>
      intro v7 mo_2 mo_3 hf
      rw [f_MO_newSpan_L72] at hf
      cases hf
    | succ n ih =>
      intro v7 mo_2 mo_3 hf H locs ls hP hD hS hl kk
      rw [f_MO_newSpan_L72] at hf
      refine lv_iload hx hb d_MO_newSpan_72 (lv_at hl 2 rfl) ?_
      refine lv_sipush (v := 300) hx hb d_MO_newSpan_74 (by decide) ?_
      refine lv_icmp_ge (tgt := 116) hx hb d_MO_newSpan_77 (by decide) (fun cb_1 => ?_) (fun cb_1 => ?_)
      · have hf := g_t hf cb_1
        have hq0 := (g_some hf)
        subst hq0
        exact kk _ _ _ hP hD hS (lv_sub hl [0, 1] rfl)
      · have hf := g_f hf cb_1
        refine lv_aload_n hx hb d_MO_newSpan_80 rfl (lv_at hl 0 rfl) ?_
        refine va_get (D := (dC, dI)) (ci := 8) (v := .ref (a 14)) (C := R_MO) (T := F_MO) (N := 42) hx hb hts (in_MO _) hown hK hP 0 rfl rfl 27 (by decide) (hts _ (List.mem_cons_of_mem _ mw_719)) (fun _ h9 => h9) rfl d_MO_newSpan_81 ?_
        refine lv_sipush (v := 300) hx hb d_MO_newSpan_84 (by decide) ?_
        refine lv_iload hx hb d_MO_newSpan_87 (lv_at hl 1 rfl) ?_
        refine lv_imul hx hb d_MO_newSpan_89 ?_
        refine lv_iload hx hb d_MO_newSpan_90 (lv_at hl 2 rfl) ?_
        refine lv_iadd hx hb d_MO_newSpan_92 ?_
        refine lv_iconst (v := 0) hx hb d_MO_newSpan_93 (by decide) ?_
        obtain ⟨ck_2, hf⟩ := g_ck hf
        refine va_zast (D := (dC, dI)) hx hb hK hP hD hS 14 2 rfl rfl ck_2 d_MO_newSpan_94 (fun H locs hP hD hS => ?_)
        have hP : va_P (dC, dI) classes (wMO tC a (sMO_has mo_2 (upd (MO_has mo_2) ((300 * v6_1) + v7).toNatClampNeg 0))) H := hP
        have hD : va_D A (wMO tC a (sMO_has mo_2 (upd (MO_has mo_2) ((300 * v6_1) + v7).toNatClampNeg 0))) := hD
        refine lv_aload_n hx hb d_MO_newSpan_95 rfl (lv_at hl 0 rfl) ?_
        refine va_get (D := (dC, dI)) (ci := 8) (v := .ref (a 15)) (C := R_MO) (T := F_MO) (N := 42) hx hb hts (in_MO _) hown hK hP 0 rfl rfl 28 (by decide) (hts _ (List.mem_cons_of_mem _ mw_720)) (fun _ h9 => h9) rfl d_MO_newSpan_96 ?_
        refine lv_sipush (v := 300) hx hb d_MO_newSpan_99 (by decide) ?_
        refine lv_iload hx hb d_MO_newSpan_102 (lv_at hl 1 rfl) ?_
        refine lv_imul hx hb d_MO_newSpan_104 ?_
        refine lv_iload hx hb d_MO_newSpan_105 (lv_at hl 2 rfl) ?_
        refine lv_iadd hx hb d_MO_newSpan_107 ?_
        refine lv_iconst (v := 0) hx hb d_MO_newSpan_108 (by decide) ?_
        refine va_zast (D := (dC, dI)) hx hb hK hP hD hS 15 2 rfl rfl ck_2 d_MO_newSpan_109 (fun H locs hP hD hS => ?_)
        have hP : va_P (dC, dI) classes (wMO tC a (sMO_toldOf (sMO_has mo_2 (upd (MO_has mo_2) ((300 * v6_1) + v7).toNatClampNeg 0)) (upd (MO_toldOf mo_2) ((300 * v6_1) + v7).toNatClampNeg 0))) H := hP
        have hD : va_D A (wMO tC a (sMO_toldOf (sMO_has mo_2 (upd (MO_has mo_2) ((300 * v6_1) + v7).toNatClampNeg 0)) (upd (MO_toldOf mo_2) ((300 * v6_1) + v7).toNatClampNeg 0))) := hD
        obtain ⟨v7_1, h_v7_1⟩ : ∃ z : Int32, z = v7 + 1 := ⟨_, rfl⟩
        have hf := g_let hf h_v7_1
        refine lv_iinc (v := v7_1) (lv' := [(7, .int v7_1), (0, .ref (a 0)), (6, .int v6_1)]) hx hb d_MO_newSpan_110 hl (k := 2) rfl (by rw [h_v7_1]; rfl) (by decide) rfl (fun ls hl => ?_)
        refine lv_goto (tgt := 72) hx hb d_MO_newSpan_113 (by decide) ?_
        obtain ⟨mo_4, h_mo_4⟩ : ∃ z : MOt, z = (sMO_toldOf (sMO_has mo_2 (upd (MO_has mo_2) ((300 * v6_1) + v7).toNatClampNeg 0)) (upd (MO_toldOf mo_2) ((300 * v6_1) + v7).toNatClampNeg 0)) := ⟨_, rfl⟩
        have hf := g_let hf h_mo_4
        have hP : va_P (dC, dI) classes (wMO tC a mo_4) H := by rw [h_mo_4]; exact hP
        have hD : va_D A (wMO tC a mo_4) := by rw [h_mo_4]; exact hD
        exact ih v7_1 mo_4 mo_3 hf H locs ls hP hD hS (lv_sub hl [1, 2, 0] rfl) kk
  obtain ⟨mo_3, hL_72, hf⟩ := g_bind hf
  try dsimp only at hf
  refine L_72 k 0 mo_1 mo_3 hL_72 H locs ls hP hD hS (lv_sub hl [1, 5, 0] rfl) (fun H locs ls hP hD hS hl => ?_)
  refine lv_aload_n hx hb d_MO_newSpan_116 rfl (lv_at hl 0 rfl) ?_
  refine lv_dup hx hb d_MO_newSpan_117 rfl ?_
  refine va_get (D := (dC, dI)) (ci := 8) (v := .int (MO_spans mo_3)) (C := R_MO) (T := F_MO) (N := 42) hx hb hts (in_MO _) hown hK hP 0 rfl rfl 29 (by decide) (hts _ (List.mem_cons_of_mem _ mw_721)) (fun _ h9 => h9) rfl d_MO_newSpan_118 ?_
  refine lv_iconst (v := 1) hx hb d_MO_newSpan_121 (by decide) ?_
  refine lv_iadd hx hb d_MO_newSpan_122 ?_
  refine va_put (D := (dC, dI)) (ci := 8) (v := .int ((MO_spans mo_3) + 1)) (ty := .int) (C := R_MO) (T := F_MO) (N := 42) hx hb hts (in_MO _) t_MO t_MO_ok n_MO hown hK hP hD hS 0 rfl rfl 29 (by decide) (hts _ (List.mem_cons_of_mem _ mw_721)) (fun _ h9 => h9) rfl (by decide +kernel) rfl rfl (Nat.le_of_ble_eq_true rfl) d_MO_newSpan_123 (fun H locs hP hD hS => ?_)
  have hP : va_P (dC, dI) classes (wMO tC a (sMO_spans mo_3 ((MO_spans mo_3) + 1))) H := hP
  have hD : va_D A (wMO tC a (sMO_spans mo_3 ((MO_spans mo_3) + 1))) := hD
  refine lv_iload hx hb d_MO_newSpan_126 (lv_at hl 1 rfl) ?_
  obtain ⟨hq0, hr1⟩ := Prod.mk.inj (g_some hf)
  subst hq0
  subst hr1
  exact cx_iret hx hb hr hlocks hP hS d_MO_newSpan_128
