def f_SR_numberRows_L2 (sr : SRt) : Nat → Int32 → RSt → NUt → Option (RSt × NUt)
  | 0, _, _, _ => none
  | n + 1, v1, rs_1, nu_1 =>
    if (RS_kept rs_1) ≤ v1 then (
      some (rs_1, nu_1)
    ) else
    if v1 < 0 ∨ 300 ≤ v1.toNatClampNeg then none else
    gl_let ((RS_order rs_1 v1.toNatClampNeg)) fun v2 =>
    (f_SR_isNumbered v2 sr rs_1).bind fun r =>
    if r = 0 then (
      if v2 < 0 ∨ 300 ≤ v2.toNatClampNeg then none else
      if (SR_theMark sr) ≤ (RS_times rs_1 v2.toNatClampNeg) then (
        gl_let (v1 + 1) fun v1_2 =>
        f_SR_numberRows_L2 sr n v1_2 rs_1 nu_1
      ) else
      if (RS_keys rs_1 v2.toNatClampNeg) < 0 ∨ 8 ≤ (RS_keys rs_1 v2.toNatClampNeg).toNatClampNeg then none else
      gl_let (v1 + 1) fun v1_3 =>
      gl_let ((sRS_numbers rs_1 (upd (RS_numbers rs_1) v2.toNatClampNeg (NU_numbered nu_1 (RS_keys rs_1 v2.toNatClampNeg).toNatClampNeg))) : RSt) fun rs_3 =>
      gl_let ((sNU_numbered nu_1 (upd (NU_numbered nu_1) (RS_keys rs_1 v2.toNatClampNeg).toNatClampNeg ((NU_numbered nu_1 (RS_keys rs_1 v2.toNatClampNeg).toNatClampNeg) + 1))) : NUt) fun nu_3 =>
      f_SR_numberRows_L2 sr n v1_3 rs_3 nu_3
    ) else
    gl_let (v1 + 1) fun v1_1 =>
    f_SR_numberRows_L2 sr n v1_1 rs_1 nu_1
def f_SR_numberRows (k : Nat) (sr : SRt) (rs : RSt) (nu : NUt) : Option (RSt × NUt) :=
  (f_SR_numberRows_L2 sr k 0 rs nu).bind fun (rs_2, nu_2) =>
  some (rs_2, nu_2)
set_option maxHeartbeats 4000000 in
set_option maxRecDepth 100000 in
theorem c_SR_numberRows (l : Launch) (dC : Nat → ClassId) (dI : Nat → Nat → Nat) (tC : Nat → ClassId) (ad : Nat → Nat → Nat) (k : Nat) (sr : SRt) (rs : RSt) (nu : NUt) (rsR : RSt) (nuR : NUt) (hf : f_SR_numberRows k sr rs nu = some (rsR, nuR)) : cx_M l y_SR_numberRows w_SR_numberRows { frames := 1, cells := 0, slots := 0, locals := 21 } (dC, dI) classes (tyS tC) [.ref (ad 0 0)] (wSR tC ad sr ++ wRS tC (ad 3) rs ++ wNU tC (ad 5) nu) (wSR tC ad sr ++ wRS tC (ad 3) rsR ++ wNU tC (ad 5) nuR) (none) := by
  refine cx_of (cc := b_SR_numberRows) (maxL := 3) (ret := none) (plainFor_of_name (by decide)) rfl (Nat.le_of_ble_eq_true rfl) ?_
  intro p e s m below meth c hx hb hr hml hown hts hlocks A hA H locs ls hK hN hP hD hS hl
  have hown : s.vm.findClass R_SR = some m.cls := hown
  have hl : lv_has ls 3 [(0, .ref (ad 0 0))] := hl
  unfold f_SR_numberRows at hf
  refine lv_iconst (v := 0) hx hb d_SR_numberRows_0 (by decide) ?_
  refine lv_istore_n (lv' := [(1, .int 0), (0, .ref (ad 0 0))]) hx hb d_SR_numberRows_1 rfl hl (by decide) rfl (fun ls hl => ?_)
  have L_2 : ∀ (n : Nat) (v1 : Int32) (rs_1 : RSt) (nu_1 : NUt) (rs_2 : RSt) (nu_2 : NUt), f_SR_numberRows_L2 sr n v1 rs_1 nu_1 = some (rs_2, nu_2) → ∀ (H : Heap) (locs : List Loc) (ls : Array Slot), va_P (dC, dI) classes (wSR tC ad sr ++ wRS tC (ad 3) rs_1 ++ wNU tC (ad 5) nu_1) H → va_D A (wSR tC ad sr ++ wRS tC (ad 3) rs_1 ++ wNU tC (ad 5) nu_1) → va_S A s.heap H locs → lv_has ls 3 [(0, .ref (ad 0 0)), (1, .int v1)] → (∀ (H : Heap) (locs : List Loc) (ls : Array Slot), va_P (dC, dI) classes (wSR tC ad sr ++ wRS tC (ad 3) rs_2 ++ wNU tC (ad 5) nu_2) H → va_D A (wSR tC ad sr ++ wRS tC (ad 3) rs_2 ++ wNU tC (ad 5) nu_2) → va_S A s.heap H locs → lv_has ls 3 [] → W p l e { frames := 1, cells := 0, slots := 0, locals := 21 } s m [.ref (ad 0 0)].toArray below meth c H locs 0 0 (cx_Z (dC, dI) classes below [.ref (ad 0 0)] s (wSR tC ad sr ++ wRS tC (ad 3) rsR ++ wNU tC (ad 5) nuR) (none) A) (F0 m 85 ls [])) → W p l e { frames := 1, cells := 0, slots := 0, locals := 21 } s m [.ref (ad 0 0)].toArray below meth c H locs 0 0 (cx_Z (dC, dI) classes below [.ref (ad 0 0)] s (wSR tC ad sr ++ wRS tC (ad 3) rsR ++ wNU tC (ad 5) nuR) (none) A) (F0 m 2 ls []) := by
    intro n
    induction n with
    | zero =>
      intro v1 rs_1 nu_1 rs_2 nu_2 hf
      rw [f_SR_numberRows_L2] at hf
      cases hf
    | succ n ih =>
      intro v1 rs_1 nu_1 rs_2 nu_2 hf H locs ls hP hD hS hl kk
      rw [f_SR_numberRows_L2] at hf
      refine lv_iload_n hx hb d_SR_numberRows_2 rfl (lv_at hl 1 rfl) ?_
      refine lv_aload_n hx hb d_SR_numberRows_3 rfl (lv_at hl 0 rfl) ?_
      refine va_get (D := (dC, dI)) (ci := 0) (v := .ref (ad 3 0)) (C := R_SR) (T := F_SR) (N := 14) hx hb hts (in_SR _) hown hK hP 0 rfl rfl 2 (by decide) (hts _ (List.mem_cons_of_mem _ mw_234)) (fun _ h9 => h9) rfl d_SR_numberRows_4 ?_
      refine va_get (D := (dC, dI)) (ci := 3) (v := .int (RS_kept rs_1)) (C := R_RS) (T := F_RS) (N := 7) hx hb hts (in_RS _) hown hK hP 1 rfl rfl 6 (by decide) (hts _ (List.mem_cons_of_mem _ mw_58)) (fun _ h9 => h9) rfl d_SR_numberRows_7 ?_
      refine lv_icmp_ge (tgt := 85) hx hb d_SR_numberRows_10 (by decide) (fun cb => ?_) (fun cb => ?_)
      · have hf := g_t hf cb
        obtain ⟨hq0, hr1⟩ := Prod.mk.inj (g_some hf)
        subst hq0
        subst hr1
        exact kk _ _ _ hP hD hS (lv_sub hl [] rfl)
      · have hf := g_f hf cb
        refine lv_aload_n hx hb d_SR_numberRows_13 rfl (lv_at hl 0 rfl) ?_
        refine va_get (D := (dC, dI)) (ci := 0) (v := .ref (ad 3 0)) (C := R_SR) (T := F_SR) (N := 14) hx hb hts (in_SR _) hown hK hP 0 rfl rfl 2 (by decide) (hts _ (List.mem_cons_of_mem _ mw_234)) (fun _ h9 => h9) rfl d_SR_numberRows_14 ?_
        refine va_get (D := (dC, dI)) (ci := 3) (v := .ref ((ad 3) 6)) (C := R_RS) (T := F_RS) (N := 7) hx hb hts (in_RS _) hown hK hP 1 rfl rfl 5 (by decide) (hts _ (List.mem_cons_of_mem _ mw_56)) (fun _ h9 => h9) rfl d_SR_numberRows_17 ?_
        refine lv_iload_n hx hb d_SR_numberRows_20 rfl (lv_at hl 1 rfl) ?_
        obtain ⟨ck, hf⟩ := g_ck hf
        refine va_iald (D := (dC, dI)) hx hb hK hP 7 0 rfl rfl ck d_SR_numberRows_21 ?_
        refine lv_topi (fun v2 h_v2 => ?_)
        have hf := g_let hf h_v2
        refine lv_istore_n (lv' := [(2, .int v2), (0, .ref (ad 0 0)), (1, .int v1)]) hx hb d_SR_numberRows_22 rfl hl (by decide) rfl (fun ls hl => ?_)
        refine lv_aload_n hx hb d_SR_numberRows_23 rfl (lv_at hl 1 rfl) ?_
        refine lv_iload_n hx hb d_SR_numberRows_24 rfl (lv_at hl 0 rfl) ?_
        obtain ⟨r, hc, hf⟩ := g_bind hf
        try dsimp only at hf
        refine cx2_callV (As := [.int v2]) (rest := []) (wSR tC ad sr ++ wRS tC (ad 3) rs_1 ++ wNU tC (ad 5) nu_1) (wNU tC (ad 5) nu_1) ⟨hx, hb, hml, hown, hts⟩ (c_SR_isNumbered l dC dI tC ad v2 sr rs_1 r hc) (k_SR_349 hts ⟨Nat.le_of_ble_eq_true rfl, Nat.le_of_ble_eq_true rfl⟩) hl.1 hP hD hS hA hK hN [0, 1, 2, 3, 4, 5, 6, 7] [8, 9, 10] 11 0 0 rfl rfl rfl rfl rfl (cx_hw rfl rfl) rfl rfl rfl rfl (by decide) rfl rfl (Nat.le_of_ble_eq_true rfl) d_SR_numberRows_25 ⟨Nat.zero_le _, Nat.zero_le _⟩ (fun H locs hP hD hS => ?_)
        refine W.eq (g2 := F0 m 28 ls [.int r]) rfl ?_
        refine lv_if_ne (tgt := 79) hx hb d_SR_numberRows_28 (by decide) (fun cb_1 => ?_) (fun cb_1 => ?_)
        · have hf := g_f hf cb_1
          obtain ⟨v1_1, h_v1_1⟩ : ∃ z : Int32, z = v1 + 1 := ⟨_, rfl⟩
          have hf := g_let hf h_v1_1
          refine lv_iinc (v := v1_1) (lv' := [(1, .int v1_1), (2, .int v2), (0, .ref (ad 0 0))]) hx hb d_SR_numberRows_79 hl (k := 2) rfl (by rw [h_v1_1]; rfl) (by decide) rfl (fun ls hl => ?_)
          refine lv_goto (tgt := 2) hx hb d_SR_numberRows_82 (by decide) ?_
          exact ih v1_1 rs_1 nu_1 rs_2 nu_2 hf H locs ls hP hD hS (lv_sub hl [2, 0] rfl) kk
        · have hf := g_t hf cb_1
          refine lv_aload_n hx hb d_SR_numberRows_31 rfl (lv_at hl 1 rfl) ?_
          refine va_get (D := (dC, dI)) (ci := 0) (v := .ref (ad 3 0)) (C := R_SR) (T := F_SR) (N := 14) hx hb hts (in_SR _) hown hK hP 0 rfl rfl 2 (by decide) (hts _ (List.mem_cons_of_mem _ mw_234)) (fun _ h9 => h9) rfl d_SR_numberRows_32 ?_
          refine va_get (D := (dC, dI)) (ci := 3) (v := .ref ((ad 3) 2)) (C := R_RS) (T := F_RS) (N := 7) hx hb hts (in_RS _) hown hK hP 1 rfl rfl 1 (by decide) (hts _ (List.mem_cons_of_mem _ mw_48)) (fun _ h9 => h9) rfl d_SR_numberRows_35 ?_
          refine lv_iload_n hx hb d_SR_numberRows_38 rfl (lv_at hl 0 rfl) ?_
          obtain ⟨ck_1, hf⟩ := g_ck hf
          refine va_lald (D := (dC, dI)) hx hb hK hP 3 1 rfl rfl ck_1 d_SR_numberRows_39 ?_
          refine lv_aload_n hx hb d_SR_numberRows_40 rfl (lv_at hl 1 rfl) ?_
          refine va_get (D := (dC, dI)) (ci := 0) (v := .long (SR_theMark sr)) (C := R_SR) (T := F_SR) (N := 14) hx hb hts (in_SR _) hown hK hP 0 rfl rfl 8 (by decide) (hts _ (List.mem_cons_of_mem _ mw_240)) (fun _ h9 => h9) rfl d_SR_numberRows_41 ?_
          refine cq_ge (tgt := 79) hx hb d_SR_numberRows_44 d_SR_numberRows_45 (by decide) (fun cb_2 => ?_) (fun cb_2 => ?_)
          · have hf := g_t hf cb_2
            obtain ⟨v1_2, h_v1_2⟩ : ∃ z : Int32, z = v1 + 1 := ⟨_, rfl⟩
            have hf := g_let hf h_v1_2
            refine lv_iinc (v := v1_2) (lv' := [(1, .int v1_2), (2, .int v2), (0, .ref (ad 0 0))]) hx hb d_SR_numberRows_79 hl (k := 2) rfl (by rw [h_v1_2]; rfl) (by decide) rfl (fun ls hl => ?_)
            refine lv_goto (tgt := 2) hx hb d_SR_numberRows_82 (by decide) ?_
            exact ih v1_2 rs_1 nu_1 rs_2 nu_2 hf H locs ls hP hD hS (lv_sub hl [2, 0] rfl) kk
          · have hf := g_f hf cb_2
            refine lv_aload_n hx hb d_SR_numberRows_48 rfl (lv_at hl 1 rfl) ?_
            refine va_get (D := (dC, dI)) (ci := 0) (v := .ref (ad 3 0)) (C := R_SR) (T := F_SR) (N := 14) hx hb hts (in_SR _) hown hK hP 0 rfl rfl 2 (by decide) (hts _ (List.mem_cons_of_mem _ mw_234)) (fun _ h9 => h9) rfl d_SR_numberRows_49 ?_
            refine va_get (D := (dC, dI)) (ci := 3) (v := .ref ((ad 3) 4)) (C := R_RS) (T := F_RS) (N := 7) hx hb hts (in_RS _) hown hK hP 1 rfl rfl 3 (by decide) (hts _ (List.mem_cons_of_mem _ mw_52)) (fun _ h9 => h9) rfl d_SR_numberRows_52 ?_
            refine lv_iload_n hx hb d_SR_numberRows_55 rfl (lv_at hl 0 rfl) ?_
            refine lv_aload_n hx hb d_SR_numberRows_56 rfl (lv_at hl 1 rfl) ?_
            refine va_get (D := (dC, dI)) (ci := 0) (v := .ref (ad 5 0)) (C := R_SR) (T := F_SR) (N := 14) hx hb hts (in_SR _) hown hK hP 0 rfl rfl 4 (by decide) (hts _ (List.mem_cons_of_mem _ mw_236)) (fun _ h9 => h9) rfl d_SR_numberRows_57 ?_
            refine va_get (D := (dC, dI)) (ci := 5) (v := .ref ((ad 5) 1)) (C := R_NU) (T := F_NU) (N := 2) hx hb hts (in_NU _) hown hK hP 8 rfl rfl 0 (by decide) (hts _ (List.mem_cons_of_mem _ mw_136)) (fun _ h9 => h9) rfl d_SR_numberRows_60 ?_
            refine lv_aload_n hx hb d_SR_numberRows_63 rfl (lv_at hl 1 rfl) ?_
            refine va_get (D := (dC, dI)) (ci := 0) (v := .ref (ad 3 0)) (C := R_SR) (T := F_SR) (N := 14) hx hb hts (in_SR _) hown hK hP 0 rfl rfl 2 (by decide) (hts _ (List.mem_cons_of_mem _ mw_234)) (fun _ h9 => h9) rfl d_SR_numberRows_64 ?_
            refine va_get (D := (dC, dI)) (ci := 3) (v := .ref ((ad 3) 1)) (C := R_RS) (T := F_RS) (N := 7) hx hb hts (in_RS _) hown hK hP 1 rfl rfl 0 (by decide) (hts _ (List.mem_cons_of_mem _ mw_46)) (fun _ h9 => h9) rfl d_SR_numberRows_67 ?_
            refine lv_iload_n hx hb d_SR_numberRows_70 rfl (lv_at hl 0 rfl) ?_
            refine va_iald (D := (dC, dI)) hx hb hK hP 2 0 rfl rfl ck_1 d_SR_numberRows_71 ?_
            refine lv_dup2_11 hx hb d_SR_numberRows_72 rfl rfl ?_
            obtain ⟨ck_2, hf⟩ := g_ck hf
            refine va_iald (D := (dC, dI)) hx hb hK hP 9 0 rfl rfl ck_2 d_SR_numberRows_73 ?_
            refine lv_dup_x2 hx hb d_SR_numberRows_74 rfl rfl rfl ?_
            refine lv_iconst (v := 1) hx hb d_SR_numberRows_75 (by decide) ?_
            refine lv_iadd hx hb d_SR_numberRows_76 ?_
            refine va_iast (D := (dC, dI)) hx hb hK hP hD hS 9 0 rfl rfl ck_2 d_SR_numberRows_77 (fun H locs hP hD hS => ?_)
            have hP : va_P (dC, dI) classes (wSR tC ad sr ++ wRS tC (ad 3) rs_1 ++ wNU tC (ad 5) (sNU_numbered nu_1 (upd (NU_numbered nu_1) (RS_keys rs_1 v2.toNatClampNeg).toNatClampNeg ((NU_numbered nu_1 (RS_keys rs_1 v2.toNatClampNeg).toNatClampNeg) + 1)))) H := hP
            have hD : va_D A (wSR tC ad sr ++ wRS tC (ad 3) rs_1 ++ wNU tC (ad 5) (sNU_numbered nu_1 (upd (NU_numbered nu_1) (RS_keys rs_1 v2.toNatClampNeg).toNatClampNeg ((NU_numbered nu_1 (RS_keys rs_1 v2.toNatClampNeg).toNatClampNeg) + 1)))) := hD
            refine va_iast (D := (dC, dI)) hx hb hK hP hD hS 5 0 rfl rfl ck_1 d_SR_numberRows_78 (fun H locs hP hD hS => ?_)
            have hP : va_P (dC, dI) classes (wSR tC ad sr ++ wRS tC (ad 3) (sRS_numbers rs_1 (upd (RS_numbers rs_1) v2.toNatClampNeg (NU_numbered nu_1 (RS_keys rs_1 v2.toNatClampNeg).toNatClampNeg))) ++ wNU tC (ad 5) (sNU_numbered nu_1 (upd (NU_numbered nu_1) (RS_keys rs_1 v2.toNatClampNeg).toNatClampNeg ((NU_numbered nu_1 (RS_keys rs_1 v2.toNatClampNeg).toNatClampNeg) + 1)))) H := hP
            have hD : va_D A (wSR tC ad sr ++ wRS tC (ad 3) (sRS_numbers rs_1 (upd (RS_numbers rs_1) v2.toNatClampNeg (NU_numbered nu_1 (RS_keys rs_1 v2.toNatClampNeg).toNatClampNeg))) ++ wNU tC (ad 5) (sNU_numbered nu_1 (upd (NU_numbered nu_1) (RS_keys rs_1 v2.toNatClampNeg).toNatClampNeg ((NU_numbered nu_1 (RS_keys rs_1 v2.toNatClampNeg).toNatClampNeg) + 1)))) := hD
            obtain ⟨v1_3, h_v1_3⟩ : ∃ z : Int32, z = v1 + 1 := ⟨_, rfl⟩
            have hf := g_let hf h_v1_3
            refine lv_iinc (v := v1_3) (lv' := [(1, .int v1_3), (2, .int v2), (0, .ref (ad 0 0))]) hx hb d_SR_numberRows_79 hl (k := 2) rfl (by rw [h_v1_3]; rfl) (by decide) rfl (fun ls hl => ?_)
            refine lv_goto (tgt := 2) hx hb d_SR_numberRows_82 (by decide) ?_
            obtain ⟨rs_3, h_rs_3⟩ : ∃ z : RSt, z = (sRS_numbers rs_1 (upd (RS_numbers rs_1) v2.toNatClampNeg (NU_numbered nu_1 (RS_keys rs_1 v2.toNatClampNeg).toNatClampNeg))) := ⟨_, rfl⟩
            have hf := g_let hf h_rs_3
            have hP : va_P (dC, dI) classes (wSR tC ad sr ++ wRS tC (ad 3) rs_3 ++ wNU tC (ad 5) (sNU_numbered nu_1 (upd (NU_numbered nu_1) (RS_keys rs_1 v2.toNatClampNeg).toNatClampNeg ((NU_numbered nu_1 (RS_keys rs_1 v2.toNatClampNeg).toNatClampNeg) + 1)))) H := by rw [h_rs_3]; exact hP
            have hD : va_D A (wSR tC ad sr ++ wRS tC (ad 3) rs_3 ++ wNU tC (ad 5) (sNU_numbered nu_1 (upd (NU_numbered nu_1) (RS_keys rs_1 v2.toNatClampNeg).toNatClampNeg ((NU_numbered nu_1 (RS_keys rs_1 v2.toNatClampNeg).toNatClampNeg) + 1)))) := by rw [h_rs_3]; exact hD
            obtain ⟨nu_3, h_nu_3⟩ : ∃ z : NUt, z = (sNU_numbered nu_1 (upd (NU_numbered nu_1) (RS_keys rs_1 v2.toNatClampNeg).toNatClampNeg ((NU_numbered nu_1 (RS_keys rs_1 v2.toNatClampNeg).toNatClampNeg) + 1))) := ⟨_, rfl⟩
            have hf := g_let hf h_nu_3
            have hP : va_P (dC, dI) classes (wSR tC ad sr ++ wRS tC (ad 3) rs_3 ++ wNU tC (ad 5) nu_3) H := by rw [h_nu_3]; exact hP
            have hD : va_D A (wSR tC ad sr ++ wRS tC (ad 3) rs_3 ++ wNU tC (ad 5) nu_3) := by rw [h_nu_3]; exact hD
            exact ih v1_3 rs_3 nu_3 rs_2 nu_2 hf H locs ls hP hD hS (lv_sub hl [2, 0] rfl) kk
  obtain ⟨⟨rs_2, nu_2⟩, hL_2, hf⟩ := g_bind hf
  try dsimp only at hf
  refine L_2 k 0 rs nu rs_2 nu_2 hL_2 H locs ls hP hD hS (lv_sub hl [1, 0] rfl) (fun H locs ls hP hD hS hl => ?_)
  obtain ⟨hq0, hr1⟩ := Prod.mk.inj (g_some hf)
  subst hq0
  subst hr1
  exact cx_vret hx hb hr hlocks hP hS d_SR_numberRows_85
