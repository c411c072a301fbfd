def f_MO_newRow_L3 (mo : MOt) : Nat → Int32 → Option (Int32)
  | 0, _ => none
  | n + 1, v6 =>
    if v6 < 0 ∨ 300 ≤ v6.toNatClampNeg then none else
    if (MO_rKey mo v6.toNatClampNeg) = (-1) then (
      some v6
    ) else
    gl_let (v6 + 1) fun v6_2 =>
    f_MO_newRow_L3 mo n v6_2
def f_MO_newRow (k : Nat) (x1 : Int32) (x2 : Int64) (x4 : Int64) (mo : MOt) : Option (Int32 × MOt) :=
  (f_MO_newRow_L3 mo k 0).bind fun v6_1 =>
  if v6_1 < 0 ∨ 300 ≤ v6_1.toNatClampNeg then none else
  some (v6_1, (sMO_rows (sMO_rNumber (sMO_rCame (sMO_rValue (sMO_rTime (sMO_rKey mo (upd (MO_rKey mo) v6_1.toNatClampNeg x1)) (vp_updL (MO_rTime mo) v6_1.toNatClampNeg x2)) (vp_updL (MO_rValue mo) v6_1.toNatClampNeg x4)) (upd (MO_rCame mo) v6_1.toNatClampNeg (MO_came mo))) (upd (MO_rNumber mo) v6_1.toNatClampNeg (-1))) ((MO_rows mo) + 1)))
set_option maxHeartbeats 4000000 in
set_option maxRecDepth 100000 in
theorem c_MO_newRow (l : Launch) (dC : Nat → ClassId) (dI : Nat → Nat → Nat) (tC : Nat → ClassId) (a : Nat → Nat) (k : Nat) (x1 : Int32) (x2 : Int64) (x4 : Int64) (mo : MOt) (res : Int32) (moR : MOt) (hf : f_MO_newRow k x1 x2 x4 mo = some (res, moR)) : cx_M l y_MO_newRow w_MO_newRow { frames := 0, cells := 0, slots := 0, locals := 0 } (dC, dI) classes (tyS tC) [.ref (a 0), .int x1, .long x2, .long x4] (wMO tC a mo) (wMO tC a moR) (some (.int res)) := by
  refine cx_of (cc := b_MO_newRow) (maxL := 7) (ret := some .int) (plainFor_of_name (by decide)) rfl (Nat.le_of_ble_eq_true rfl) ?_
  intro p e s m below meth c hx hb hr hml hown hts hlocks A hA H locs ls hK hN hP hD hS hl
  have hown : s.vm.findClass R_MO = some m.cls := hown
  have hl : lv_has ls 7 [(0, .ref (a 0)), (1, .int x1), (2, .long x2), (4, .long x4)] := hl
  unfold f_MO_newRow at hf
  refine lv_iconst (v := 0) hx hb d_MO_newRow_0 (by decide) ?_
  refine lv_istore (lv' := [(6, .int 0), (0, .ref (a 0)), (1, .int x1), (2, .long x2), (4, .long x4)]) hx hb d_MO_newRow_1 hl (by decide) rfl (fun ls hl => ?_)
  have L_3 : ∀ (n : Nat) (v6 : Int32) (v6_1 : Int32), f_MO_newRow_L3 mo n v6 = some v6_1 → ∀ (H : Heap) (locs : List Loc) (ls : Array Slot), va_P (dC, dI) classes (wMO tC a mo) H → va_D A (wMO tC a mo) → va_S A s.heap H locs → lv_has ls 7 [(0, .ref (a 0)), (1, .int x1), (2, .long x2), (4, .long x4), (6, .int v6)] → (∀ (H : Heap) (locs : List Loc) (ls : Array Slot), va_P (dC, dI) classes (wMO tC a mo) H → va_D A (wMO tC a mo) → va_S A s.heap H locs → lv_has ls 7 [(0, .ref (a 0)), (1, .int x1), (2, .long x2), (4, .long x4), (6, .int v6_1)] → W p l e { frames := 0, cells := 0, slots := 0, locals := 0 } s m [.ref (a 0), .int x1, .long x2, .long x4].toArray below meth c H locs 0 0 (cx_Z (dC, dI) classes below [.ref (a 0), .int x1, .long x2, .long x4] s (wMO tC a moR) (some (.int res)) A) (F0 m 20 ls [])) → W p l e { frames := 0, cells := 0, slots := 0, locals := 0 } s m [.ref (a 0), .int x1, .long x2, .long x4].toArray below meth c H locs 0 0 (cx_Z (dC, dI) classes below [.ref (a 0), .int x1, .long x2, .long x4] s (wMO tC a moR) (some (.int res)) A) (F0 m 3 ls []) := by
    intro n
    induction n with
    | zero =>
      intro v6 v6_1 hf
      rw [f_MO_newRow_L3] at hf
      cases hf
    | succ n ih =>
      intro v6 v6_1 hf H locs ls hP hD hS hl kk
      rw [f_MO_newRow_L3] at hf
      refine lv_aload_n hx hb d_MO_newRow_3 rfl (lv_at hl 0 rfl) ?_
      refine va_get (D := (dC, dI)) (ci := 8) (v := .ref (a 3)) (C := R_MO) (T := F_MO) (N := 42) hx hb hts (in_MO _) hown hK hP 0 rfl rfl 13 (by decide) (hts _ (List.mem_cons_of_mem _ mw_705)) (fun _ h9 => h9) rfl d_MO_newRow_4 ?_
      refine lv_iload hx hb d_MO_newRow_7 (lv_at hl 4 rfl) ?_
      obtain ⟨ck, hf⟩ := g_ck hf
      refine va_iald (D := (dC, dI)) hx hb hK hP 3 0 rfl rfl ck d_MO_newRow_9 ?_
      refine lv_iconst (v := (-1)) hx hb d_MO_newRow_10 (by decide) ?_
      refine lv_icmp_eq (tgt := 20) hx hb d_MO_newRow_11 (by decide) (fun cb => ?_) (fun cb => ?_)
      · have hf := g_t hf cb
        have hq0 := (g_some hf)
        subst hq0
        exact kk _ _ _ hP hD hS (lv_sub hl [0, 1, 2, 3, 4] rfl)
      · have hf := g_f hf cb
        obtain ⟨v6_2, h_v6_2⟩ : ∃ z : Int32, z = v6 + 1 := ⟨_, rfl⟩
        have hf := g_let hf h_v6_2
        refine lv_iinc (v := v6_2) (lv' := [(6, .int v6_2), (0, .ref (a 0)), (1, .int x1), (2, .long x2), (4, .long x4)]) hx hb d_MO_newRow_14 hl (k := 4) rfl (by rw [h_v6_2]; rfl) (by decide) rfl (fun ls hl => ?_)
        refine lv_goto (tgt := 3) hx hb d_MO_newRow_17 (by decide) ?_
        exact ih v6_2 v6_1 hf H locs ls hP hD hS (lv_sub hl [1, 2, 3, 4, 0] rfl) kk
  obtain ⟨v6_1, hL_3, hf⟩ := g_bind hf
  try dsimp only at hf
  refine L_3 k 0 v6_1 hL_3 H locs ls hP hD hS (lv_sub hl [1, 2, 3, 4, 0] rfl) (fun H locs ls hP hD hS hl => ?_)
  refine lv_aload_n hx hb d_MO_newRow_20 rfl (lv_at hl 0 rfl) ?_
  refine va_get (D := (dC, dI)) (ci := 8) (v := .ref (a 3)) (C := R_MO) (T := F_MO) (N := 42) hx hb hts (in_MO _) hown hK hP 0 rfl rfl 13 (by decide) (hts _ (List.mem_cons_of_mem _ mw_705)) (fun _ h9 => h9) rfl d_MO_newRow_21 ?_
  refine lv_iload hx hb d_MO_newRow_24 (lv_at hl 4 rfl) ?_
  refine lv_iload_n hx hb d_MO_newRow_26 rfl (lv_at hl 1 rfl) ?_
  obtain ⟨ck_1, hf⟩ := g_ck hf
  refine va_iast (D := (dC, dI)) hx hb hK hP hD hS 3 0 rfl rfl ck_1 d_MO_newRow_27 (fun H locs hP hD hS => ?_)
  have hP : va_P (dC, dI) classes (wMO tC a (sMO_rKey mo (upd (MO_rKey mo) v6_1.toNatClampNeg x1))) H := hP
  have hD : va_D A (wMO tC a (sMO_rKey mo (upd (MO_rKey mo) v6_1.toNatClampNeg x1))) := hD
  refine lv_aload_n hx hb d_MO_newRow_28 rfl (lv_at hl 0 rfl) ?_
  refine va_get (D := (dC, dI)) (ci := 8) (v := .ref (a 4)) (C := R_MO) (T := F_MO) (N := 42) hx hb hts (in_MO _) hown hK hP 0 rfl rfl 14 (by decide) (hts _ (List.mem_cons_of_mem _ mw_706)) (fun _ h9 => h9) rfl d_MO_newRow_29 ?_
  refine lv_iload hx hb d_MO_newRow_32 (lv_at hl 4 rfl) ?_
  refine lv_lload_n hx hb d_MO_newRow_34 rfl (lv_at hl 2 rfl) ?_
  refine va_last (D := (dC, dI)) hx hb hK hP hD hS 4 1 rfl rfl ck_1 d_MO_newRow_35 (fun H locs hP hD hS => ?_)
  have hP : va_P (dC, dI) classes (wMO tC a (sMO_rTime (sMO_rKey mo (upd (MO_rKey mo) v6_1.toNatClampNeg x1)) (vp_updL (MO_rTime mo) v6_1.toNatClampNeg x2))) H := hP
  have hD : va_D A (wMO tC a (sMO_rTime (sMO_rKey mo (upd (MO_rKey mo) v6_1.toNatClampNeg x1)) (vp_updL (MO_rTime mo) v6_1.toNatClampNeg x2))) := hD
  refine lv_aload_n hx hb d_MO_newRow_36 rfl (lv_at hl 0 rfl) ?_
  refine va_get (D := (dC, dI)) (ci := 8) (v := .ref (a 5)) (C := R_MO) (T := F_MO) (N := 42) hx hb hts (in_MO _) hown hK hP 0 rfl rfl 15 (by decide) (hts _ (List.mem_cons_of_mem _ mw_707)) (fun _ h9 => h9) rfl d_MO_newRow_37 ?_
  refine lv_iload hx hb d_MO_newRow_40 (lv_at hl 4 rfl) ?_
  refine lv_lload hx hb d_MO_newRow_42 (lv_at hl 3 rfl) ?_
  refine va_last (D := (dC, dI)) hx hb hK hP hD hS 5 1 rfl rfl ck_1 d_MO_newRow_44 (fun H locs hP hD hS => ?_)
  have hP : va_P (dC, dI) classes (wMO tC a (sMO_rValue (sMO_rTime (sMO_rKey mo (upd (MO_rKey mo) v6_1.toNatClampNeg x1)) (vp_updL (MO_rTime mo) v6_1.toNatClampNeg x2)) (vp_updL (MO_rValue mo) v6_1.toNatClampNeg x4))) H := hP
  have hD : va_D A (wMO tC a (sMO_rValue (sMO_rTime (sMO_rKey mo (upd (MO_rKey mo) v6_1.toNatClampNeg x1)) (vp_updL (MO_rTime mo) v6_1.toNatClampNeg x2)) (vp_updL (MO_rValue mo) v6_1.toNatClampNeg x4))) := hD
  refine lv_aload_n hx hb d_MO_newRow_45 rfl (lv_at hl 0 rfl) ?_
  refine va_get (D := (dC, dI)) (ci := 8) (v := .ref (a 6)) (C := R_MO) (T := F_MO) (N := 42) hx hb hts (in_MO _) hown hK hP 0 rfl rfl 16 (by decide) (hts _ (List.mem_cons_of_mem _ mw_708)) (fun _ h9 => h9) rfl d_MO_newRow_46 ?_
  refine lv_iload hx hb d_MO_newRow_49 (lv_at hl 4 rfl) ?_
  refine lv_aload_n hx hb d_MO_newRow_51 rfl (lv_at hl 0 rfl) ?_
  refine va_get (D := (dC, dI)) (ci := 8) (v := .int (MO_came mo)) (C := R_MO) (T := F_MO) (N := 42) hx hb hts (in_MO _) hown hK hP 0 rfl rfl 19 (by decide) (hts _ (List.mem_cons_of_mem _ mw_711)) (fun _ h9 => h9) rfl d_MO_newRow_52 ?_
  refine va_iast (D := (dC, dI)) hx hb hK hP hD hS 6 0 rfl rfl ck_1 d_MO_newRow_55 (fun H locs hP hD hS => ?_)
  have hP : va_P (dC, dI) classes (wMO tC a (sMO_rCame (sMO_rValue (sMO_rTime (sMO_rKey mo (upd (MO_rKey mo) v6_1.toNatClampNeg x1)) (vp_updL (MO_rTime mo) v6_1.toNatClampNeg x2)) (vp_updL (MO_rValue mo) v6_1.toNatClampNeg x4)) (upd (MO_rCame mo) v6_1.toNatClampNeg (MO_came mo)))) H := hP
  have hD : va_D A (wMO tC a (sMO_rCame (sMO_rValue (sMO_rTime (sMO_rKey mo (upd (MO_rKey mo) v6_1.toNatClampNeg x1)) (vp_updL (MO_rTime mo) v6_1.toNatClampNeg x2)) (vp_updL (MO_rValue mo) v6_1.toNatClampNeg x4)) (upd (MO_rCame mo) v6_1.toNatClampNeg (MO_came mo)))) := hD
  refine lv_aload_n hx hb d_MO_newRow_56 rfl (lv_at hl 0 rfl) ?_
  refine va_get (D := (dC, dI)) (ci := 8) (v := .ref (a 7)) (C := R_MO) (T := F_MO) (N := 42) hx hb hts (in_MO _) hown hK hP 0 rfl rfl 17 (by decide) (hts _ (List.mem_cons_of_mem _ mw_709)) (fun _ h9 => h9) rfl d_MO_newRow_57 ?_
  refine lv_iload hx hb d_MO_newRow_60 (lv_at hl 4 rfl) ?_
  refine lv_iconst (v := (-1)) hx hb d_MO_newRow_62 (by decide) ?_
  refine va_iast (D := (dC, dI)) hx hb hK hP hD hS 7 0 rfl rfl ck_1 d_MO_newRow_63 (fun H locs hP hD hS => ?_)
  have hP : va_P (dC, dI) classes (wMO tC a (sMO_rNumber (sMO_rCame (sMO_rValue (sMO_rTime (sMO_rKey mo (upd (MO_rKey mo) v6_1.toNatClampNeg x1)) (vp_updL (MO_rTime mo) v6_1.toNatClampNeg x2)) (vp_updL (MO_rValue mo) v6_1.toNatClampNeg x4)) (upd (MO_rCame mo) v6_1.toNatClampNeg (MO_came mo))) (upd (MO_rNumber mo) v6_1.toNatClampNeg (-1)))) H := hP
  have hD : va_D A (wMO tC a (sMO_rNumber (sMO_rCame (sMO_rValue (sMO_rTime (sMO_rKey mo (upd (MO_rKey mo) v6_1.toNatClampNeg x1)) (vp_updL (MO_rTime mo) v6_1.toNatClampNeg x2)) (vp_updL (MO_rValue mo) v6_1.toNatClampNeg x4)) (upd (MO_rCame mo) v6_1.toNatClampNeg (MO_came mo))) (upd (MO_rNumber mo) v6_1.toNatClampNeg (-1)))) := hD
  refine lv_aload_n hx hb d_MO_newRow_64 rfl (lv_at hl 0 rfl) ?_
  refine lv_dup hx hb d_MO_newRow_65 rfl ?_
  refine va_get (D := (dC, dI)) (ci := 8) (v := .int (MO_rows mo)) (C := R_MO) (T := F_MO) (N := 42) hx hb hts (in_MO _) hown hK hP 0 rfl rfl 18 (by decide) (hts _ (List.mem_cons_of_mem _ mw_710)) (fun _ h9 => h9) rfl d_MO_newRow_66 ?_
  refine lv_iconst (v := 1) hx hb d_MO_newRow_69 (by decide) ?_
  refine lv_iadd hx hb d_MO_newRow_70 ?_
  refine va_put (D := (dC, dI)) (ci := 8) (v := .int ((MO_rows mo) + 1)) (ty := .int) (C := R_MO) (T := F_MO) (N := 42) hx hb hts (in_MO _) t_MO t_MO_ok n_MO hown hK hP hD hS 0 rfl rfl 18 (by decide) (hts _ (List.mem_cons_of_mem _ mw_710)) (fun _ h9 => h9) rfl (by decide +kernel) rfl rfl (Nat.le_of_ble_eq_true rfl) d_MO_newRow_71 (fun H locs hP hD hS => ?_)
  have hP : va_P (dC, dI) classes (wMO tC a (sMO_rows (sMO_rNumber (sMO_rCame (sMO_rValue (sMO_rTime (sMO_rKey mo (upd (MO_rKey mo) v6_1.toNatClampNeg x1)) (vp_updL (MO_rTime mo) v6_1.toNatClampNeg x2)) (vp_updL (MO_rValue mo) v6_1.toNatClampNeg x4)) (upd (MO_rCame mo) v6_1.toNatClampNeg (MO_came mo))) (upd (MO_rNumber mo) v6_1.toNatClampNeg (-1))) ((MO_rows mo) + 1))) H := hP
  have hD : va_D A (wMO tC a (sMO_rows (sMO_rNumber (sMO_rCame (sMO_rValue (sMO_rTime (sMO_rKey mo (upd (MO_rKey mo) v6_1.toNatClampNeg x1)) (vp_updL (MO_rTime mo) v6_1.toNatClampNeg x2)) (vp_updL (MO_rValue mo) v6_1.toNatClampNeg x4)) (upd (MO_rCame mo) v6_1.toNatClampNeg (MO_came mo))) (upd (MO_rNumber mo) v6_1.toNatClampNeg (-1))) ((MO_rows mo) + 1))) := hD
  refine lv_iload hx hb d_MO_newRow_74 (lv_at hl 4 rfl) ?_
  obtain ⟨hq0, hr1⟩ := Prod.mk.inj (g_some hf)
  subst hq0
  subst hr1
  exact cx_iret hx hb hr hlocks hP hS d_MO_newRow_76
