def f_SR_endCounted_L8 (k : Nat) (sr : SRt) (la : LAt) (rs_1 : RSt) : Nat → Int32 → Int32 → NUt → FSt → COt → Option (Int32 × NUt × FSt × COt)
  | 0, _, _, _, _, _ => none
  | n + 1, v1, v2, nu_2, fs_1, co_1 =>
    if 8 ≤ v2 then (
      some (v1, nu_2, fs_1, co_1)
    ) else
    (f_SR_fireCounted k v2 sr la rs_1 nu_2 fs_1 co_1).bind fun (r, nu_4, fs_3, co_3) =>
    gl_let ((v1 + r)) fun v1_2 =>
    gl_let (v2 + 1) fun v2_1 =>
    f_SR_endCounted_L8 k sr la rs_1 n v1_2 v2_1 nu_4 fs_3 co_3
def f_SR_endCounted_L30 (sr : SRt) (la : LAt) (nu_3 : NUt) : Nat → Int32 → RSt → Option (RSt)
  | 0, _, _ => none
  | n + 1, v2_2, rs_2 =>
    if (RS_kept rs_2) ≤ v2_2 then (
      some rs_2
    ) else
    if v2_2 < 0 ∨ 300 ≤ v2_2.toNatClampNeg then none else
    gl_let ((RS_order rs_2 v2_2.toNatClampNeg)) fun v3 =>
    (f_SR_isNumbered v3 sr rs_2).bind fun r_1 =>
    if r_1 = 0 then (
      if v3 < 0 ∨ 300 ≤ v3.toNatClampNeg then none else
      gl_let (v2_2 + 1) fun v2_3 =>
      gl_let ((sRS_leaves rs_2 (upd (RS_leaves rs_2) v3.toNatClampNeg 0)) : RSt) fun rs_4 =>
      f_SR_endCounted_L30 sr la nu_3 n v2_3 rs_4
    ) else
    (f_SR_isWaitedFor v3 sr la rs_2 nu_3).bind fun r_2 =>
    if r_2 = 0 then (
      if v3 < 0 ∨ 300 ≤ v3.toNatClampNeg then none else
      gl_let (v2_2 + 1) fun v2_5 =>
      gl_let ((sRS_leaves rs_2 (upd (RS_leaves rs_2) v3.toNatClampNeg 1)) : RSt) fun rs_6 =>
      f_SR_endCounted_L30 sr la nu_3 n v2_5 rs_6
    ) else
    if v3 < 0 ∨ 300 ≤ v3.toNatClampNeg then none else
    gl_let (v2_2 + 1) fun v2_4 =>
    gl_let ((sRS_leaves rs_2 (upd (RS_leaves rs_2) v3.toNatClampNeg 0)) : RSt) fun rs_5 =>
    f_SR_endCounted_L30 sr la nu_3 n v2_4 rs_5
def f_SR_endCounted (k : Nat) (sr : SRt) (la : LAt) (rs : RSt) (nu : NUt) (fs : FSt) (co : COt) : Option (Int32 × RSt × NUt × FSt × COt) :=
  (f_SR_numberRows k sr rs nu).bind fun (rs_1, nu_1) =>
  (f_SR_endCounted_L8 k sr la rs_1 k 0 0 nu_1 fs co).bind fun (v1_1, nu_3, fs_2, co_2) =>
  (f_SR_endCounted_L30 sr la nu_3 k 0 rs_1).bind fun rs_3 =>
  (f_RS_sweep k rs_3).bind fun rs_7 =>
  some (v1_1, rs_7, nu_3, fs_2, co_2)
set_option maxHeartbeats 4000000 in
set_option maxRecDepth 100000 in
theorem c_SR_endCounted (l : Launch) (dC : Nat → ClassId) (dI : Nat → Nat → Nat) (tC : Nat → ClassId) (ad : Nat → Nat → Nat) (k : Nat) (sr : SRt) (la : LAt) (rs : RSt) (nu : NUt) (fs : FSt) (co : COt) (res : Int32) (rsR : RSt) (nuR : NUt) (fsR : FSt) (coR : COt) (hf : f_SR_endCounted k sr la rs nu fs co = some (res, rsR, nuR, fsR, coR)) : cx_M l y_SR_endCounted w_SR_endCounted { frames := 4, cells := 0, slots := 0, locals := 95 } (dC, dI) classes (tyS tC) [.ref (ad 0 0)] (wSR tC ad sr ++ wLA tC (ad 1) la ++ wRS tC (ad 3) rs ++ wNU tC (ad 5) nu ++ wFS tC (ad 6) fs ++ wCO tC (ad 7) co) (wSR tC ad sr ++ wLA tC (ad 1) la ++ wRS tC (ad 3) rsR ++ wNU tC (ad 5) nuR ++ wFS tC (ad 6) fsR ++ wCO tC (ad 7) coR) (some (.int res)) := by
  refine cx_of (cc := b_SR_endCounted) (maxL := 4) (ret := some .int) (plainFor_of_name (by decide)) rfl (Nat.le_of_ble_eq_true rfl) ?_
  intro p e s m below meth c hx hb hr hml hown hts hlocks A hA H locs ls hK hN hP hD hS hl
  have hown : s.vm.findClass R_SR = some m.cls := hown
  have hl : lv_has ls 4 [(0, .ref (ad 0 0))] := hl
  unfold f_SR_endCounted at hf
  refine lv_aload_n hx hb d_SR_endCounted_0 rfl (lv_at hl 0 rfl) ?_
  obtain ⟨⟨rs_1, nu_1⟩, hc, hf⟩ := g_bind hf
  try dsimp only at hf
  refine cx2_callV (As := []) (rest := []) (wSR tC ad sr ++ wLA tC (ad 1) la ++ wRS tC (ad 3) rs_1 ++ wNU tC (ad 5) nu_1 ++ wFS tC (ad 6) fs ++ wCO tC (ad 7) co) (wLA tC (ad 1) la ++ wFS tC (ad 6) fs ++ wCO tC (ad 7) co) ⟨hx, hb, hml, hown, hts⟩ (c_SR_numberRows l dC dI tC ad k sr rs nu rs_1 nu_1 hc) (k_SR_343 hts ⟨Nat.le_of_ble_eq_true rfl, Nat.le_of_ble_eq_true rfl⟩) hl.1 hP hD hS hA hK hN [0, 4, 5, 6, 7, 8, 9, 10, 11, 12, 13] [1, 2, 3, 14, 15, 16] 17 0 0 rfl rfl rfl rfl rfl (cx_hw (cx_hw rfl (adRS _ _ _ _)) (adNU _ _ _ _)) rfl rfl rfl rfl (by decide) rfl rfl (Nat.le_of_ble_eq_true rfl) d_SR_endCounted_1 ⟨Nat.zero_le _, Nat.zero_le _⟩ (fun H locs hP hD hS => ?_)
  refine W.eq (g2 := F0 m 4 ls []) rfl ?_
  refine lv_iconst (v := 0) hx hb d_SR_endCounted_4 (by decide) ?_
  refine lv_istore_n (lv' := [(1, .int 0), (0, .ref (ad 0 0))]) hx hb d_SR_endCounted_5 rfl hl (by decide) rfl (fun ls hl => ?_)
  refine lv_iconst (v := 0) hx hb d_SR_endCounted_6 (by decide) ?_
  refine lv_istore_n (lv' := [(2, .int 0), (1, .int 0), (0, .ref (ad 0 0))]) hx hb d_SR_endCounted_7 rfl hl (by decide) rfl (fun ls hl => ?_)
  have L_8 : ∀ (n : Nat) (v1 : Int32) (v2 : Int32) (nu_2 : NUt) (fs_1 : FSt) (co_1 : COt) (v1_1 : Int32) (nu_3 : NUt) (fs_2 : FSt) (co_2 : COt), f_SR_endCounted_L8 k sr la rs_1 n v1 v2 nu_2 fs_1 co_1 = some (v1_1, nu_3, fs_2, co_2) → ∀ (H : Heap) (locs : List Loc) (ls : Array Slot), va_P (dC, dI) classes (wSR tC ad sr ++ wLA tC (ad 1) la ++ wRS tC (ad 3) rs_1 ++ wNU tC (ad 5) nu_2 ++ wFS tC (ad 6) fs_1 ++ wCO tC (ad 7) co_1) H → va_D A (wSR tC ad sr ++ wLA tC (ad 1) la ++ wRS tC (ad 3) rs_1 ++ wNU tC (ad 5) nu_2 ++ wFS tC (ad 6) fs_1 ++ wCO tC (ad 7) co_1) → va_S A s.heap H locs → lv_has ls 4 [(0, .ref (ad 0 0)), (1, .int v1), (2, .int v2)] → (∀ (H : Heap) (locs : List Loc) (ls : Array Slot), va_P (dC, dI) classes (wSR tC ad sr ++ wLA tC (ad 1) la ++ wRS tC (ad 3) rs_1 ++ wNU tC (ad 5) nu_3 ++ wFS tC (ad 6) fs_2 ++ wCO tC (ad 7) co_2) H → va_D A (wSR tC ad sr ++ wLA tC (ad 1) la ++ wRS tC (ad 3) rs_1 ++ wNU tC (ad 5) nu_3 ++ wFS tC (ad 6) fs_2 ++ wCO tC (ad 7) co_2) → va_S A s.heap H locs → lv_has ls 4 [(0, .ref (ad 0 0)), (1, .int v1_1)] → W p l e { frames := 4, cells := 0, slots := 0, locals := 95 } s m [.ref (ad 0 0)].toArray below meth c H locs 0 0 (cx_Z (dC, dI) classes below [.ref (ad 0 0)] s (wSR tC ad sr ++ wLA tC (ad 1) la ++ wRS tC (ad 3) rsR ++ wNU tC (ad 5) nuR ++ wFS tC (ad 6) fsR ++ wCO tC (ad 7) coR) (some (.int res)) A) (F0 m 28 ls [])) → W p l e { frames := 4, cells := 0, slots := 0, locals := 95 } s m [.ref (ad 0 0)].toArray below meth c H locs 0 0 (cx_Z (dC, dI) classes below [.ref (ad 0 0)] s (wSR tC ad sr ++ wLA tC (ad 1) la ++ wRS tC (ad 3) rsR ++ wNU tC (ad 5) nuR ++ wFS tC (ad 6) fsR ++ wCO tC (ad 7) coR) (some (.int res)) A) (F0 m 8 ls []) := by
    intro n
    induction n with
    | zero =>
      intro v1 v2 nu_2 fs_1 co_1 v1_1 nu_3 fs_2 co_2 hf
      rw [f_SR_endCounted_L8] at hf
      cases hf
    | succ n ih =>
      intro v1 v2 nu_2 fs_1 co_1 v1_1 nu_3 fs_2 co_2 hf H locs ls hP hD hS hl kk
      rw [f_SR_endCounted_L8] at hf
      refine lv_iload_n hx hb d_SR_endCounted_8 rfl (lv_at hl 2 rfl) ?_
      refine lv_bipush (v := 8) hx hb d_SR_endCounted_9 (by decide) ?_
      refine lv_icmp_ge (tgt := 28) hx hb d_SR_endCounted_11 (by decide) (fun cb => ?_) (fun cb => ?_)
      · have hf := g_t hf cb
        obtain ⟨hq0, hr1⟩ := Prod.mk.inj (g_some hf)
        obtain ⟨hq1, hr2⟩ := Prod.mk.inj hr1
        obtain ⟨hq2, hr3⟩ := Prod.mk.inj hr2
        subst hq0
        subst hq1
        subst hq2
        subst hr3
        exact kk _ _ _ hP hD hS (lv_sub hl [0, 1] rfl)
      · have hf := g_f hf cb
        refine lv_iload_n hx hb d_SR_endCounted_14 rfl (lv_at hl 1 rfl) ?_
        refine lv_aload_n hx hb d_SR_endCounted_15 rfl (lv_at hl 0 rfl) ?_
        refine lv_iload_n hx hb d_SR_endCounted_16 rfl (lv_at hl 2 rfl) ?_
        obtain ⟨⟨r, nu_4, fs_3, co_3⟩, hc_1, hf⟩ := g_bind hf
        try dsimp only at hf
        refine cx3_callV (As := [.int v2]) (rest := [.int v1]) (wSR tC ad sr ++ wLA tC (ad 1) la ++ wRS tC (ad 3) rs_1 ++ wNU tC (ad 5) nu_4 ++ wFS tC (ad 6) fs_3 ++ wCO tC (ad 7) co_3) ⟨hx, hb, hml, hown, hts⟩ (c_SR_fireCounted l dC dI tC ad k v2 sr la rs_1 nu_2 fs_1 co_1 r nu_4 fs_3 co_3 hc_1) (k_SR_346 hts ⟨Nat.le_of_ble_eq_true rfl, Nat.le_of_ble_eq_true rfl⟩) hl.1 hP hD hS hA hK hN 0 0 rfl rfl rfl (cx_hw (cx_hw (cx_hw (cx_hw (cx_hw rfl rfl) rfl) (adNU _ _ _ _)) (adFS _ _ _ _)) (adCO _ _ _ _)) rfl rfl (Nat.le_of_ble_eq_true rfl) d_SR_endCounted_17 ⟨Nat.zero_le _, Nat.zero_le _⟩ (fun H locs hP hD hS => ?_)
        refine W.eq (g2 := F0 m 20 ls [.int r, .int v1]) rfl ?_
        refine lv_iadd hx hb d_SR_endCounted_20 ?_
        refine lv_topi (fun v1_2 h_v1_2 => ?_)
        have hf := g_let hf h_v1_2
        refine lv_istore_n (lv' := [(1, .int v1_2), (0, .ref (ad 0 0)), (2, .int v2)]) hx hb d_SR_endCounted_21 rfl hl (by decide) rfl (fun ls hl => ?_)
        obtain ⟨v2_1, h_v2_1⟩ : ∃ z : Int32, z = v2 + 1 := ⟨_, rfl⟩
        have hf := g_let hf h_v2_1
        refine lv_iinc (v := v2_1) (lv' := [(2, .int v2_1), (1, .int v1_2), (0, .ref (ad 0 0))]) hx hb d_SR_endCounted_22 hl (k := 2) rfl (by rw [h_v2_1]; rfl) (by decide) rfl (fun ls hl => ?_)
        refine lv_goto (tgt := 8) hx hb d_SR_endCounted_25 (by decide) ?_
        exact ih v1_2 v2_1 nu_4 fs_3 co_3 v1_1 nu_3 fs_2 co_2 hf H locs ls hP hD hS (lv_sub hl [2, 1, 0] rfl) kk
  obtain ⟨⟨v1_1, nu_3, fs_2, co_2⟩, hL_8, hf⟩ := g_bind hf
  try dsimp only at hf
  refine L_8 k 0 0 nu_1 fs co v1_1 nu_3 fs_2 co_2 hL_8 H locs ls hP hD hS (lv_sub hl [2, 1, 0] rfl) (fun H locs ls hP hD hS hl => ?_)
  refine lv_iconst (v := 0) hx hb d_SR_endCounted_28 (by decide) ?_
  refine lv_istore_n (lv' := [(2, .int 0), (0, .ref (ad 0 0)), (1, .int v1_1)]) hx hb d_SR_endCounted_29 rfl hl (by decide) rfl (fun ls hl => ?_)
  have L_30 : ∀ (n : Nat) (v2_2 : Int32) (rs_2 : RSt) (rs_3 : RSt), f_SR_endCounted_L30 sr la nu_3 n v2_2 rs_2 = some rs_3 → ∀ (H : Heap) (locs : List Loc) (ls : Array Slot), va_P (dC, dI) classes (wSR tC ad sr ++ wLA tC (ad 1) la ++ wRS tC (ad 3) rs_2 ++ wNU tC (ad 5) nu_3 ++ wFS tC (ad 6) fs_2 ++ wCO tC (ad 7) co_2) H → va_D A (wSR tC ad sr ++ wLA tC (ad 1) la ++ wRS tC (ad 3) rs_2 ++ wNU tC (ad 5) nu_3 ++ wFS tC (ad 6) fs_2 ++ wCO tC (ad 7) co_2) → va_S A s.heap H locs → lv_has ls 4 [(0, .ref (ad 0 0)), (1, .int v1_1), (2, .int v2_2)] → (∀ (H : Heap) (locs : List Loc) (ls : Array Slot), va_P (dC, dI) classes (wSR tC ad sr ++ wLA tC (ad 1) la ++ wRS tC (ad 3) rs_3 ++ wNU tC (ad 5) nu_3 ++ wFS tC (ad 6) fs_2 ++ wCO tC (ad 7) co_2) H → va_D A (wSR tC ad sr ++ wLA tC (ad 1) la ++ wRS tC (ad 3) rs_3 ++ wNU tC (ad 5) nu_3 ++ wFS tC (ad 6) fs_2 ++ wCO tC (ad 7) co_2) → va_S A s.heap H locs → lv_has ls 4 [(0, .ref (ad 0 0)), (1, .int v1_1)] → W p l e { frames := 4, cells := 0, slots := 0, locals := 95 } s m [.ref (ad 0 0)].toArray below meth c H locs 0 0 (cx_Z (dC, dI) classes below [.ref (ad 0 0)] s (wSR tC ad sr ++ wLA tC (ad 1) la ++ wRS tC (ad 3) rsR ++ wNU tC (ad 5) nuR ++ wFS tC (ad 6) fsR ++ wCO tC (ad 7) coR) (some (.int res)) A) (F0 m 87 ls [])) → W p l e { frames := 4, cells := 0, slots := 0, locals := 95 } s m [.ref (ad 0 0)].toArray below meth c H locs 0 0 (cx_Z (dC, dI) classes below [.ref (ad 0 0)] s (wSR tC ad sr ++ wLA tC (ad 1) la ++ wRS tC (ad 3) rsR ++ wNU tC (ad 5) nuR ++ wFS tC (ad 6) fsR ++ wCO tC (ad 7) coR) (some (.int res)) A) (F0 m 30 ls []) := by
    intro n
    induction n with
    | zero =>
      intro v2_2 rs_2 rs_3 hf
      rw [f_SR_endCounted_L30] at hf
      cases hf
    | succ n ih =>
      intro v2_2 rs_2 rs_3 hf H locs ls hP hD hS hl kk
      rw [f_SR_endCounted_L30] at hf
      refine lv_iload_n hx hb d_SR_endCounted_30 rfl (lv_at hl 2 rfl) ?_
      refine lv_aload_n hx hb d_SR_endCounted_31 rfl (lv_at hl 0 rfl) ?_
      refine va_get (D := (dC, dI)) (ci := 0) (v := .ref (ad 3 0)) (C := R_SR) (T := F_SR) (N := 14) hx hb hts (in_SR _) hown hK hP 0 rfl rfl 2 (by decide) (hts _ (List.mem_cons_of_mem _ mw_234)) (fun _ h9 => h9) rfl d_SR_endCounted_32 ?_
      refine va_get (D := (dC, dI)) (ci := 3) (v := .int (RS_kept rs_2)) (C := R_RS) (T := F_RS) (N := 7) hx hb hts (in_RS _) hown hK hP 4 rfl rfl 6 (by decide) (hts _ (List.mem_cons_of_mem _ mw_58)) (fun _ h9 => h9) rfl d_SR_endCounted_35 ?_
      refine lv_icmp_ge (tgt := 87) hx hb d_SR_endCounted_38 (by decide) (fun cb_1 => ?_) (fun cb_1 => ?_)
      · have hf := g_t hf cb_1
        have hq0 := (g_some hf)
        subst hq0
        exact kk _ _ _ hP hD hS (lv_sub hl [0, 1] rfl)
      · have hf := g_f hf cb_1
        refine lv_aload_n hx hb d_SR_endCounted_41 rfl (lv_at hl 0 rfl) ?_
        refine va_get (D := (dC, dI)) (ci := 0) (v := .ref (ad 3 0)) (C := R_SR) (T := F_SR) (N := 14) hx hb hts (in_SR _) hown hK hP 0 rfl rfl 2 (by decide) (hts _ (List.mem_cons_of_mem _ mw_234)) (fun _ h9 => h9) rfl d_SR_endCounted_42 ?_
        refine va_get (D := (dC, dI)) (ci := 3) (v := .ref ((ad 3) 6)) (C := R_RS) (T := F_RS) (N := 7) hx hb hts (in_RS _) hown hK hP 4 rfl rfl 5 (by decide) (hts _ (List.mem_cons_of_mem _ mw_56)) (fun _ h9 => h9) rfl d_SR_endCounted_45 ?_
        refine lv_iload_n hx hb d_SR_endCounted_48 rfl (lv_at hl 2 rfl) ?_
        obtain ⟨ck, hf⟩ := g_ck hf
        refine va_iald (D := (dC, dI)) hx hb hK hP 10 0 rfl rfl ck d_SR_endCounted_49 ?_
        refine lv_topi (fun v3 h_v3 => ?_)
        have hf := g_let hf h_v3
        refine lv_istore_n (lv' := [(3, .int v3), (0, .ref (ad 0 0)), (1, .int v1_1), (2, .int v2_2)]) hx hb d_SR_endCounted_50 rfl hl (by decide) rfl (fun ls hl => ?_)
        refine lv_aload_n hx hb d_SR_endCounted_51 rfl (lv_at hl 1 rfl) ?_
        refine va_get (D := (dC, dI)) (ci := 0) (v := .ref (ad 3 0)) (C := R_SR) (T := F_SR) (N := 14) hx hb hts (in_SR _) hown hK hP 0 rfl rfl 2 (by decide) (hts _ (List.mem_cons_of_mem _ mw_234)) (fun _ h9 => h9) rfl d_SR_endCounted_52 ?_
        refine va_get (D := (dC, dI)) (ci := 3) (v := .ref ((ad 3) 5)) (C := R_RS) (T := F_RS) (N := 7) hx hb hts (in_RS _) hown hK hP 4 rfl rfl 4 (by decide) (hts _ (List.mem_cons_of_mem _ mw_54)) (fun _ h9 => h9) rfl d_SR_endCounted_55 ?_
        refine lv_iload_n hx hb d_SR_endCounted_58 rfl (lv_at hl 0 rfl) ?_
        refine lv_aload_n hx hb d_SR_endCounted_59 rfl (lv_at hl 1 rfl) ?_
        refine lv_iload_n hx hb d_SR_endCounted_60 rfl (lv_at hl 0 rfl) ?_
        obtain ⟨r_1, hc_2, hf⟩ := g_bind hf
        try dsimp only at hf
        refine cx2_callV (As := [.int v3]) (rest := [.int v3, .ref ((ad 3) 5)]) (wSR tC ad sr ++ wLA tC (ad 1) la ++ wRS tC (ad 3) rs_2 ++ wNU tC (ad 5) nu_3 ++ wFS tC (ad 6) fs_2 ++ wCO tC (ad 7) co_2) (wLA tC (ad 1) la ++ wNU tC (ad 5) nu_3 ++ wFS tC (ad 6) fs_2 ++ wCO tC (ad 7) co_2) ⟨hx, hb, hml, hown, hts⟩ (c_SR_isNumbered l dC dI tC ad v3 sr rs_2 r_1 hc_2) (k_SR_349 hts ⟨Nat.le_of_ble_eq_true rfl, Nat.le_of_ble_eq_true rfl⟩) hl.1 hP hD hS hA hK hN [0, 4, 5, 6, 7, 8, 9, 10] [1, 2, 3, 11, 12, 13, 14, 15, 16] 17 0 0 rfl rfl rfl rfl rfl (cx_hw rfl rfl) rfl rfl rfl rfl (by decide) rfl rfl (Nat.le_of_ble_eq_true rfl) d_SR_endCounted_61 ⟨Nat.zero_le _, Nat.zero_le _⟩ (fun H locs hP hD hS => ?_)
        refine W.eq (g2 := F0 m 64 ls [.int r_1, .int v3, .ref ((ad 3) 5)]) rfl ?_
        refine lv_if_eq (tgt := 79) hx hb d_SR_endCounted_64 (by decide) (fun cb_2 => ?_) (fun cb_2 => ?_)
        · have hf := g_t hf cb_2
          refine lv_iconst (v := 0) hx hb d_SR_endCounted_79 (by decide) ?_
          obtain ⟨ck_1, hf⟩ := g_ck hf
          refine va_zast (D := (dC, dI)) hx hb hK hP hD hS 9 2 rfl rfl ck_1 d_SR_endCounted_80 (fun H locs hP hD hS => ?_)
          have hP : va_P (dC, dI) classes (wSR tC ad sr ++ wLA tC (ad 1) la ++ wRS tC (ad 3) (sRS_leaves rs_2 (upd (RS_leaves rs_2) v3.toNatClampNeg 0)) ++ wNU tC (ad 5) nu_3 ++ wFS tC (ad 6) fs_2 ++ wCO tC (ad 7) co_2) H := hP
          have hD : va_D A (wSR tC ad sr ++ wLA tC (ad 1) la ++ wRS tC (ad 3) (sRS_leaves rs_2 (upd (RS_leaves rs_2) v3.toNatClampNeg 0)) ++ wNU tC (ad 5) nu_3 ++ wFS tC (ad 6) fs_2 ++ wCO tC (ad 7) co_2) := hD
          obtain ⟨v2_3, h_v2_3⟩ : ∃ z : Int32, z = v2_2 + 1 := ⟨_, rfl⟩
          have hf := g_let hf h_v2_3
          refine lv_iinc (v := v2_3) (lv' := [(2, .int v2_3), (3, .int v3), (0, .ref (ad 0 0)), (1, .int v1_1)]) hx hb d_SR_endCounted_81 hl (k := 3) rfl (by rw [h_v2_3]; rfl) (by decide) rfl (fun ls hl => ?_)
          refine lv_goto (tgt := 30) hx hb d_SR_endCounted_84 (by decide) ?_
          obtain ⟨rs_4, h_rs_4⟩ : ∃ z : RSt, z = (sRS_leaves rs_2 (upd (RS_leaves rs_2) v3.toNatClampNeg 0)) := ⟨_, rfl⟩
          have hf := g_let hf h_rs_4
          have hP : va_P (dC, dI) classes (wSR tC ad sr ++ wLA tC (ad 1) la ++ wRS tC (ad 3) rs_4 ++ wNU tC (ad 5) nu_3 ++ wFS tC (ad 6) fs_2 ++ wCO tC (ad 7) co_2) H := by rw [h_rs_4]; exact hP
          have hD : va_D A (wSR tC ad sr ++ wLA tC (ad 1) la ++ wRS tC (ad 3) rs_4 ++ wNU tC (ad 5) nu_3 ++ wFS tC (ad 6) fs_2 ++ wCO tC (ad 7) co_2) := by rw [h_rs_4]; exact hD
          exact ih v2_3 rs_4 rs_3 hf H locs ls hP hD hS (lv_sub hl [2, 3, 0] rfl) kk
        · have hf := g_f hf cb_2
          refine lv_aload_n hx hb d_SR_endCounted_67 rfl (lv_at hl 1 rfl) ?_
          refine lv_iload_n hx hb d_SR_endCounted_68 rfl (lv_at hl 0 rfl) ?_
          obtain ⟨r_2, hc_3, hf⟩ := g_bind hf
          try dsimp only at hf
          refine cx2_callV (As := [.int v3]) (rest := [.int v3, .ref ((ad 3) 5)]) (wSR tC ad sr ++ wLA tC (ad 1) la ++ wRS tC (ad 3) rs_2 ++ wNU tC (ad 5) nu_3 ++ wFS tC (ad 6) fs_2 ++ wCO tC (ad 7) co_2) (wFS tC (ad 6) fs_2 ++ wCO tC (ad 7) co_2) ⟨hx, hb, hml, hown, hts⟩ (c_SR_isWaitedFor l dC dI tC ad v3 sr la rs_2 nu_3 r_2 hc_3) (k_SR_352 hts ⟨Nat.le_of_ble_eq_true rfl, Nat.le_of_ble_eq_true rfl⟩) hl.1 hP hD hS hA hK hN [0, 1, 2, 3, 4, 5, 6, 7, 8, 9, 10, 11, 12, 13] [14, 15, 16] 17 0 0 rfl rfl rfl rfl rfl (cx_hw (cx_hw (cx_hw rfl rfl) rfl) rfl) rfl rfl rfl rfl (by decide) rfl rfl (Nat.le_of_ble_eq_true rfl) d_SR_endCounted_69 ⟨Nat.zero_le _, Nat.zero_le _⟩ (fun H locs hP hD hS => ?_)
          refine W.eq (g2 := F0 m 72 ls [.int r_2, .int v3, .ref ((ad 3) 5)]) rfl ?_
          refine lv_if_ne (tgt := 79) hx hb d_SR_endCounted_72 (by decide) (fun cb_3 => ?_) (fun cb_3 => ?_)
          · have hf := g_f hf cb_3
            refine lv_iconst (v := 0) hx hb d_SR_endCounted_79 (by decide) ?_
            obtain ⟨ck_2, hf⟩ := g_ck hf
            refine va_zast (D := (dC, dI)) hx hb hK hP hD hS 9 2 rfl rfl ck_2 d_SR_endCounted_80 (fun H locs hP hD hS => ?_)
            have hP : va_P (dC, dI) classes (wSR tC ad sr ++ wLA tC (ad 1) la ++ wRS tC (ad 3) (sRS_leaves rs_2 (upd (RS_leaves rs_2) v3.toNatClampNeg 0)) ++ wNU tC (ad 5) nu_3 ++ wFS tC (ad 6) fs_2 ++ wCO tC (ad 7) co_2) H := hP
            have hD : va_D A (wSR tC ad sr ++ wLA tC (ad 1) la ++ wRS tC (ad 3) (sRS_leaves rs_2 (upd (RS_leaves rs_2) v3.toNatClampNeg 0)) ++ wNU tC (ad 5) nu_3 ++ wFS tC (ad 6) fs_2 ++ wCO tC (ad 7) co_2) := hD
            obtain ⟨v2_4, h_v2_4⟩ : ∃ z : Int32, z = v2_2 + 1 := ⟨_, rfl⟩
            have hf := g_let hf h_v2_4
            refine lv_iinc (v := v2_4) (lv' := [(2, .int v2_4), (3, .int v3), (0, .ref (ad 0 0)), (1, .int v1_1)]) hx hb d_SR_endCounted_81 hl (k := 3) rfl (by rw [h_v2_4]; rfl) (by decide) rfl (fun ls hl => ?_)
            refine lv_goto (tgt := 30) hx hb d_SR_endCounted_84 (by decide) ?_
            obtain ⟨rs_5, h_rs_5⟩ : ∃ z : RSt, z = (sRS_leaves rs_2 (upd (RS_leaves rs_2) v3.toNatClampNeg 0)) := ⟨_, rfl⟩
            have hf := g_let hf h_rs_5
            have hP : va_P (dC, dI) classes (wSR tC ad sr ++ wLA tC (ad 1) la ++ wRS tC (ad 3) rs_5 ++ wNU tC (ad 5) nu_3 ++ wFS tC (ad 6) fs_2 ++ wCO tC (ad 7) co_2) H := by rw [h_rs_5]; exact hP
            have hD : va_D A (wSR tC ad sr ++ wLA tC (ad 1) la ++ wRS tC (ad 3) rs_5 ++ wNU tC (ad 5) nu_3 ++ wFS tC (ad 6) fs_2 ++ wCO tC (ad 7) co_2) := by rw [h_rs_5]; exact hD
            exact ih v2_4 rs_5 rs_3 hf H locs ls hP hD hS (lv_sub hl [2, 3, 0] rfl) kk
          · have hf := g_t hf cb_3
            refine lv_iconst (v := 1) hx hb d_SR_endCounted_75 (by decide) ?_
            refine lv_goto (tgt := 80) hx hb d_SR_endCounted_76 (by decide) ?_
            obtain ⟨ck_3, hf⟩ := g_ck hf
            refine va_zast (D := (dC, dI)) hx hb hK hP hD hS 9 2 rfl rfl ck_3 d_SR_endCounted_80 (fun H locs hP hD hS => ?_)
            have hP : va_P (dC, dI) classes (wSR tC ad sr ++ wLA tC (ad 1) la ++ wRS tC (ad 3) (sRS_leaves rs_2 (upd (RS_leaves rs_2) v3.toNatClampNeg 1)) ++ wNU tC (ad 5) nu_3 ++ wFS tC (ad 6) fs_2 ++ wCO tC (ad 7) co_2) H := hP
            have hD : va_D A (wSR tC ad sr ++ wLA tC (ad 1) la ++ wRS tC (ad 3) (sRS_leaves rs_2 (upd (RS_leaves rs_2) v3.toNatClampNeg 1)) ++ wNU tC (ad 5) nu_3 ++ wFS tC (ad 6) fs_2 ++ wCO tC (ad 7) co_2) := hD
            obtain ⟨v2_5, h_v2_5⟩ : ∃ z : Int32, z = v2_2 + 1 := ⟨_, rfl⟩
            have hf := g_let hf h_v2_5
            refine lv_iinc (v := v2_5) (lv' := [(2, .int v2_5), (3, .int v3), (0, .ref (ad 0 0)), (1, .int v1_1)]) hx hb d_SR_endCounted_81 hl (k := 3) rfl (by rw [h_v2_5]; rfl) (by decide) rfl (fun ls hl => ?_)
            refine lv_goto (tgt := 30) hx hb d_SR_endCounted_84 (by decide) ?_
            obtain ⟨rs_6, h_rs_6⟩ : ∃ z : RSt, z = (sRS_leaves rs_2 (upd (RS_leaves rs_2) v3.toNatClampNeg 1)) := ⟨_, rfl⟩
            have hf := g_let hf h_rs_6
            have hP : va_P (dC, dI) classes (wSR tC ad sr ++ wLA tC (ad 1) la ++ wRS tC (ad 3) rs_6 ++ wNU tC (ad 5) nu_3 ++ wFS tC (ad 6) fs_2 ++ wCO tC (ad 7) co_2) H := by rw [h_rs_6]; exact hP
            have hD : va_D A (wSR tC ad sr ++ wLA tC (ad 1) la ++ wRS tC (ad 3) rs_6 ++ wNU tC (ad 5) nu_3 ++ wFS tC (ad 6) fs_2 ++ wCO tC (ad 7) co_2) := by rw [h_rs_6]; exact hD
            exact ih v2_5 rs_6 rs_3 hf H locs ls hP hD hS (lv_sub hl [2, 3, 0] rfl) kk
  obtain ⟨rs_3, hL_30, hf⟩ := g_bind hf
  try dsimp only at hf
  refine L_30 k 0 rs_1 rs_3 hL_30 H locs ls hP hD hS (lv_sub hl [1, 2, 0] rfl) (fun H locs ls hP hD hS hl => ?_)
  refine lv_aload_n hx hb d_SR_endCounted_87 rfl (lv_at hl 0 rfl) ?_
  refine va_get (D := (dC, dI)) (ci := 0) (v := .ref (ad 3 0)) (C := R_SR) (T := F_SR) (N := 14) hx hb hts (in_SR _) hown hK hP 0 rfl rfl 2 (by decide) (hts _ (List.mem_cons_of_mem _ mw_234)) (fun _ h9 => h9) rfl d_SR_endCounted_88 ?_
  obtain ⟨rs_7, hc_4, hf⟩ := g_bind hf
  try dsimp only at hf
  refine cx2_callV (As := []) (rest := []) (wSR tC ad sr ++ wLA tC (ad 1) la ++ wRS tC (ad 3) rs_7 ++ wNU tC (ad 5) nu_3 ++ wFS tC (ad 6) fs_2 ++ wCO tC (ad 7) co_2) (wSR tC ad sr ++ wLA tC (ad 1) la ++ wNU tC (ad 5) nu_3 ++ wFS tC (ad 6) fs_2 ++ wCO tC (ad 7) co_2) ⟨hx, hb, hml, hown, hts⟩ (c_RS_sweep l dC dI tC (ad 3) k rs_3 rs_7 hc_4) (k_SR_340 hts ⟨Nat.le_of_ble_eq_true rfl, Nat.le_of_ble_eq_true rfl⟩) hl.1 hP hD hS hA hK hN [4, 5, 6, 7, 8, 9, 10] [0, 1, 2, 3, 11, 12, 13, 14, 15, 16] 17 4 3 rfl rfl rfl rfl rfl (adRS _ _ _ _) rfl rfl rfl rfl (by decide) rfl rfl (Nat.le_of_ble_eq_true rfl) d_SR_endCounted_91 ⟨Nat.zero_le _, Nat.zero_le _⟩ (fun H locs hP hD hS => ?_)
  refine W.eq (g2 := F0 m 94 ls []) rfl ?_
  refine lv_iload_n hx hb d_SR_endCounted_94 rfl (lv_at hl 1 rfl) ?_
  obtain ⟨hq0, hr1⟩ := Prod.mk.inj (g_some hf)
  obtain ⟨hq1, hr2⟩ := Prod.mk.inj hr1
  obtain ⟨hq2, hr3⟩ := Prod.mk.inj hr2
  obtain ⟨hq3, hr4⟩ := Prod.mk.inj hr3
  subst hq0
  subst hq1
  subst hq2
  subst hq3
  subst hr4
  exact cx_iret hx hb hr hlocks hP hS d_SR_endCounted_95
