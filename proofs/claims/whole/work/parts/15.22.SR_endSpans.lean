def f_SR_endSpans_L14 (k : Nat) (sr : SRt) (rs : RSt) (r : Int32) : Nat → Int32 → SSt → FSt → COt → Option (SSt × FSt × COt)
  | 0, _, _, _, _ => none
  | n + 1, v2, ss_2, fs_1, co_1 =>
    if r ≤ v2 then (
      some (ss_2, fs_1, co_1)
    ) else
    if v2 < 0 ∨ 200 ≤ v2.toNatClampNeg then none else
    (f_SR_fire k (SS_due ss_2 v2.toNatClampNeg) 1 sr rs ss_2 fs_1 co_1).bind fun (ss_4, fs_3, co_3) =>
    gl_let (v2 + 1) fun v2_1 =>
    f_SR_endSpans_L14 k sr rs r n v2_1 ss_4 fs_3 co_3
def f_SR_endSpans_L64 (ss_6 : SSt) : Nat → Int32 → RSt → Option (RSt)
  | 0, _, _ => none
  | n + 1, v2_2, rs_1 =>
    if (RS_kept rs_1) ≤ v2_2 then (
      some rs_1
    ) else
    if v2_2 < 0 ∨ 300 ≤ v2_2.toNatClampNeg then none else
    gl_let ((RS_order rs_1 v2_2.toNatClampNeg)) fun v3 =>
    (f_SS_isIn 0 v3 5 (SS_united ss_6)).bind fun r_1 =>
    if r_1 = 0 then (
      if v3 < 0 ∨ 300 ≤ v3.toNatClampNeg then none else
      gl_let (v2_2 + 1) fun v2_4 =>
      gl_let ((sRS_leaves rs_1 (upd (RS_leaves rs_1) v3.toNatClampNeg 1)) : RSt) fun rs_4 =>
      f_SR_endSpans_L64 ss_6 n v2_4 rs_4
    ) else
    if v3 < 0 ∨ 300 ≤ v3.toNatClampNeg then none else
    gl_let (v2_2 + 1) fun v2_3 =>
    gl_let ((sRS_leaves rs_1 (upd (RS_leaves rs_1) v3.toNatClampNeg 0)) : RSt) fun rs_3 =>
    f_SR_endSpans_L64 ss_6 n v2_3 rs_3
def f_SR_endSpans (k : Nat) (sr : SRt) (rs : RSt) (ss : SSt) (fs : FSt) (co : COt) : Option (Int32 × RSt × SSt × FSt × COt) :=
  (f_SS_seekDue k (SR_theMark sr) ss).bind fun (r, ss_1) =>
  (f_SR_endSpans_L14 k sr rs r k 0 ss_1 fs co).bind fun (ss_3, fs_2, co_2) =>
  (f_SS_dropEndsUpTo k ((SR_theMark sr) - (SR_lateBy sr)) ss_3).bind fun ss_5 =>
  (f_SS_uniteRows k ss_5).bind fun ss_6 =>
  (f_SR_endSpans_L64 ss_6 k 0 rs).bind fun rs_2 =>
  (f_RS_sweep k rs_2).bind fun rs_5 =>
  some (r, rs_5, ss_6, fs_2, co_2)
set_option maxHeartbeats 4000000 in
set_option maxRecDepth 100000 in
theorem c_SR_endSpans (l : Launch) (dC : Nat → ClassId) (dI : Nat → Nat → Nat) (tC : Nat → ClassId) (ad : Nat → Nat → Nat) (k : Nat) (sr : SRt) (rs : RSt) (ss : SSt) (fs : FSt) (co : COt) (res : Int32) (rsR : RSt) (ssR : SSt) (fsR : FSt) (coR : COt) (hf : f_SR_endSpans k sr rs ss fs co = some (res, rsR, ssR, fsR, coR)) : cx_M l y_SR_endSpans w_SR_endSpans { frames := 4, cells := 0, slots := 0, locals := 92 } (dC, dI) classes (tyS tC) [.ref (ad 0 0)] (wSR tC ad sr ++ wRS tC (ad 3) rs ++ wSS tC (ad 4) ss ++ wFS tC (ad 6) fs ++ wCO tC (ad 7) co) (wSR tC ad sr ++ wRS tC (ad 3) rsR ++ wSS tC (ad 4) ssR ++ wFS tC (ad 6) fsR ++ wCO tC (ad 7) coR) (some (.int res)) := by
  refine cx_of (cc := b_SR_endSpans) (maxL := 4) (ret := some .int) (plainFor_of_name (by decide)) rfl (Nat.le_of_ble_eq_true rfl) ?_
  intro p e s m below meth c hx hb hr hml hown hts hlocks A hA H locs ls hK hN hP hD hS hl
  have hown : s.vm.findClass R_SR = some m.cls := hown
  have hl : lv_has ls 4 [(0, .ref (ad 0 0))] := hl
  unfold f_SR_endSpans at hf
  refine lv_aload_n hx hb d_SR_endSpans_0 rfl (lv_at hl 0 rfl) ?_
  refine va_get (D := (dC, dI)) (ci := 0) (v := .ref (ad 4 0)) (C := R_SR) (T := F_SR) (N := 14) hx hb hts (in_SR _) hown hK hP 0 rfl rfl 3 (by decide) (hts _ (List.mem_cons_of_mem _ mw_235)) (fun _ h9 => h9) rfl d_SR_endSpans_1 ?_
  refine lv_aload_n hx hb d_SR_endSpans_4 rfl (lv_at hl 0 rfl) ?_
  refine va_get (D := (dC, dI)) (ci := 0) (v := .long (SR_theMark sr)) (C := R_SR) (T := F_SR) (N := 14) hx hb hts (in_SR _) hown hK hP 0 rfl rfl 8 (by decide) (hts _ (List.mem_cons_of_mem _ mw_240)) (fun _ h9 => h9) rfl d_SR_endSpans_5 ?_
  obtain ⟨⟨r, ss_1⟩, hc, hf⟩ := g_bind hf
  try dsimp only at hf
  refine cx2_callV (As := [.long (SR_theMark sr)]) (rest := []) (wSR tC ad sr ++ wRS tC (ad 3) rs ++ wSS tC (ad 4) ss_1 ++ wFS tC (ad 6) fs ++ wCO tC (ad 7) co) (wSR tC ad sr ++ wRS tC (ad 3) rs ++ wFS tC (ad 6) fs ++ wCO tC (ad 7) co) ⟨hx, hb, hml, hown, hts⟩ (c_SS_seekDue l dC dI tC (ad 4) k (SR_theMark sr) ss r ss_1 hc) (k_SR_321 hts ⟨Nat.le_of_ble_eq_true rfl, Nat.le_of_ble_eq_true rfl⟩) hl.1 hP hD hS hA hK hN [8, 9, 10, 11, 12, 13, 14, 15, 16, 17, 18, 19] [0, 1, 2, 3, 4, 5, 6, 7, 20, 21, 22] 23 8 4 rfl rfl rfl rfl rfl (adSS _ _ _ _) rfl rfl rfl rfl (by decide) rfl rfl (Nat.le_of_ble_eq_true rfl) d_SR_endSpans_8 ⟨Nat.zero_le _, Nat.zero_le _⟩ (fun H locs hP hD hS => ?_)
  refine W.eq (g2 := F0 m 11 ls [.int r]) rfl ?_
  refine lv_istore_n (lv' := [(1, .int r), (0, .ref (ad 0 0))]) hx hb d_SR_endSpans_11 rfl hl (by decide) rfl (fun ls hl => ?_)
  refine lv_iconst (v := 0) hx hb d_SR_endSpans_12 (by decide) ?_
  refine lv_istore_n (lv' := [(2, .int 0), (1, .int r), (0, .ref (ad 0 0))]) hx hb d_SR_endSpans_13 rfl hl (by decide) rfl (fun ls hl => ?_)
  have L_14 : ∀ (n : Nat) (v2 : Int32) (ss_2 : SSt) (fs_1 : FSt) (co_1 : COt) (ss_3 : SSt) (fs_2 : FSt) (co_2 : COt), f_SR_endSpans_L14 k sr rs r n v2 ss_2 fs_1 co_1 = some (ss_3, fs_2, co_2) → ∀ (H : Heap) (locs : List Loc) (ls : Array Slot), va_P (dC, dI) classes (wSR tC ad sr ++ wRS tC (ad 3) rs ++ wSS tC (ad 4) ss_2 ++ wFS tC (ad 6) fs_1 ++ wCO tC (ad 7) co_1) H → va_D A (wSR tC ad sr ++ wRS tC (ad 3) rs ++ wSS tC (ad 4) ss_2 ++ wFS tC (ad 6) fs_1 ++ wCO tC (ad 7) co_1) → va_S A s.heap H locs → lv_has ls 4 [(0, .ref (ad 0 0)), (1, .int r), (2, .int v2)] → (∀ (H : Heap) (locs : List Loc) (ls : Array Slot), va_P (dC, dI) classes (wSR tC ad sr ++ wRS tC (ad 3) rs ++ wSS tC (ad 4) ss_3 ++ wFS tC (ad 6) fs_2 ++ wCO tC (ad 7) co_2) H → va_D A (wSR tC ad sr ++ wRS tC (ad 3) rs ++ wSS tC (ad 4) ss_3 ++ wFS tC (ad 6) fs_2 ++ wCO tC (ad 7) co_2) → va_S A s.heap H locs → lv_has ls 4 [(0, .ref (ad 0 0)), (1, .int r)] → W p l e { frames := 4, cells := 0, slots := 0, locals := 92 } s m [.ref (ad 0 0)].toArray below meth c H locs 0 0 (cx_Z (dC, dI) classes below [.ref (ad 0 0)] s (wSR tC ad sr ++ wRS tC (ad 3) rsR ++ wSS tC (ad 4) ssR ++ wFS tC (ad 6) fsR ++ wCO tC (ad 7) coR) (some (.int res)) A) (F0 m 39 ls [])) → W p l e { frames := 4, cells := 0, slots := 0, locals := 92 } s m [.ref (ad 0 0)].toArray below meth c H locs 0 0 (cx_Z (dC, dI) classes below [.ref (ad 0 0)] s (wSR tC ad sr ++ wRS tC (ad 3) rsR ++ wSS tC (ad 4) ssR ++ wFS tC (ad 6) fsR ++ wCO tC (ad 7) coR) (some (.int res)) A) (F0 m 14 ls []) := by
    intro n
    induction n with
    | zero =>
      intro v2 ss_2 fs_1 co_1 ss_3 fs_2 co_2 hf
      rw [f_SR_endSpans_L14] at hf
      cases hf
    | succ n ih =>
      intro v2 ss_2 fs_1 co_1 ss_3 fs_2 co_2 hf H locs ls hP hD hS hl kk
      rw [f_SR_endSpans_L14] at hf
      refine lv_iload_n hx hb d_SR_endSpans_14 rfl (lv_at hl 2 rfl) ?_
      refine lv_iload_n hx hb d_SR_endSpans_15 rfl (lv_at hl 1 rfl) ?_
      refine lv_icmp_ge (tgt := 39) hx hb d_SR_endSpans_16 (by decide) (fun cb => ?_) (fun cb => ?_)
      · have hf := g_t hf cb
        obtain ⟨hq0, hr1⟩ := Prod.mk.inj (g_some hf)
        obtain ⟨hq1, hr2⟩ := Prod.mk.inj hr1
        subst hq0
        subst hq1
        subst hr2
        exact kk _ _ _ hP hD hS (lv_sub hl [0, 1] rfl)
      · have hf := g_f hf cb
        refine lv_aload_n hx hb d_SR_endSpans_19 rfl (lv_at hl 0 rfl) ?_
        refine lv_aload_n hx hb d_SR_endSpans_20 rfl (lv_at hl 0 rfl) ?_
        refine va_get (D := (dC, dI)) (ci := 0) (v := .ref (ad 4 0)) (C := R_SR) (T := F_SR) (N := 14) hx hb hts (in_SR _) hown hK hP 0 rfl rfl 3 (by decide) (hts _ (List.mem_cons_of_mem _ mw_235)) (fun _ h9 => h9) rfl d_SR_endSpans_21 ?_
        refine va_get (D := (dC, dI)) (ci := 4) (v := .ref ((ad 4) 10)) (C := R_SS) (T := F_SS) (N := 12) hx hb hts (in_SS _) hown hK hP 8 rfl rfl 9 (by decide) (hts _ (List.mem_cons_of_mem _ mw_100)) (fun _ h9 => h9) rfl d_SR_endSpans_24 ?_
        refine lv_iload_n hx hb d_SR_endSpans_27 rfl (lv_at hl 2 rfl) ?_
        obtain ⟨ck, hf⟩ := g_ck hf
        refine va_iald (D := (dC, dI)) hx hb hK hP 18 0 rfl rfl ck d_SR_endSpans_28 ?_
        refine lv_iconst (v := 1) hx hb d_SR_endSpans_29 (by decide) ?_
        obtain ⟨⟨ss_4, fs_3, co_3⟩, hc_1, hf⟩ := g_bind hf
        try dsimp only at hf
        refine cx3_callV (As := [.int (SS_due ss_2 v2.toNatClampNeg), .int 1]) (rest := []) (wSR tC ad sr ++ wRS tC (ad 3) rs ++ wSS tC (ad 4) ss_4 ++ wFS tC (ad 6) fs_3 ++ wCO tC (ad 7) co_3) ⟨hx, hb, hml, hown, hts⟩ (c_SR_fire l dC dI tC ad k (SS_due ss_2 v2.toNatClampNeg) 1 sr rs ss_2 fs_1 co_1 ss_4 fs_3 co_3 hc_1) (k_SR_291 hts ⟨Nat.le_of_ble_eq_true rfl, Nat.le_of_ble_eq_true rfl⟩) hl.1 hP hD hS hA hK hN 0 0 rfl rfl rfl (cx_hw (cx_hw (cx_hw (cx_hw rfl rfl) (adSS _ _ _ _)) (adFS _ _ _ _)) (adCO _ _ _ _)) rfl rfl (Nat.le_of_ble_eq_true rfl) d_SR_endSpans_30 ⟨Nat.zero_le _, Nat.zero_le _⟩ (fun H locs hP hD hS => ?_)
        refine W.eq (g2 := F0 m 33 ls []) rfl ?_
        obtain ⟨v2_1, h_v2_1⟩ : ∃ z : Int32, z = v2 + 1 := ⟨_, rfl⟩
        have hf := g_let hf h_v2_1
        refine lv_iinc (v := v2_1) (lv' := [(2, .int v2_1), (0, .ref (ad 0 0)), (1, .int r)]) hx hb d_SR_endSpans_33 hl (k := 2) rfl (by rw [h_v2_1]; rfl) (by decide) rfl (fun ls hl => ?_)
        refine lv_goto (tgt := 14) hx hb d_SR_endSpans_36 (by decide) ?_
        exact ih v2_1 ss_4 fs_3 co_3 ss_3 fs_2 co_2 hf H locs ls hP hD hS (lv_sub hl [1, 2, 0] rfl) kk
  obtain ⟨⟨ss_3, fs_2, co_2⟩, hL_14, hf⟩ := g_bind hf
  try dsimp only at hf
  refine L_14 k 0 ss_1 fs co ss_3 fs_2 co_2 hL_14 H locs ls hP hD hS (lv_sub hl [2, 1, 0] rfl) (fun H locs ls hP hD hS hl => ?_)
  refine lv_aload_n hx hb d_SR_endSpans_39 rfl (lv_at hl 0 rfl) ?_
  refine va_get (D := (dC, dI)) (ci := 0) (v := .ref (ad 4 0)) (C := R_SR) (T := F_SR) (N := 14) hx hb hts (in_SR _) hown hK hP 0 rfl rfl 3 (by decide) (hts _ (List.mem_cons_of_mem _ mw_235)) (fun _ h9 => h9) rfl d_SR_endSpans_40 ?_
  refine lv_aload_n hx hb d_SR_endSpans_43 rfl (lv_at hl 0 rfl) ?_
  refine va_get (D := (dC, dI)) (ci := 0) (v := .long (SR_theMark sr)) (C := R_SR) (T := F_SR) (N := 14) hx hb hts (in_SR _) hown hK hP 0 rfl rfl 8 (by decide) (hts _ (List.mem_cons_of_mem _ mw_240)) (fun _ h9 => h9) rfl d_SR_endSpans_44 ?_
  refine lv_aload_n hx hb d_SR_endSpans_47 rfl (lv_at hl 0 rfl) ?_
  refine va_get (D := (dC, dI)) (ci := 0) (v := .long (SR_lateBy sr)) (C := R_SR) (T := F_SR) (N := 14) hx hb hts (in_SR _) hown hK hP 0 rfl rfl 7 (by decide) (hts _ (List.mem_cons_of_mem _ mw_239)) (fun _ h9 => h9) rfl d_SR_endSpans_48 ?_
  refine lv_lsub hx hb d_SR_endSpans_51 ?_
  obtain ⟨ss_5, hc_2, hf⟩ := g_bind hf
  try dsimp only at hf
  refine cx2_callV (As := [.long ((SR_theMark sr) - (SR_lateBy sr))]) (rest := []) (wSR tC ad sr ++ wRS tC (ad 3) rs ++ wSS tC (ad 4) ss_5 ++ wFS tC (ad 6) fs_2 ++ wCO tC (ad 7) co_2) (wSR tC ad sr ++ wRS tC (ad 3) rs ++ wFS tC (ad 6) fs_2 ++ wCO tC (ad 7) co_2) ⟨hx, hb, hml, hown, hts⟩ (c_SS_dropEndsUpTo l dC dI tC (ad 4) k ((SR_theMark sr) - (SR_lateBy sr)) ss_3 ss_5 hc_2) (k_SR_328 hts ⟨Nat.le_of_ble_eq_true rfl, Nat.le_of_ble_eq_true rfl⟩) hl.1 hP hD hS hA hK hN [8, 9, 10, 11, 12, 13, 14, 15, 16, 17, 18, 19] [0, 1, 2, 3, 4, 5, 6, 7, 20, 21, 22] 23 8 4 rfl rfl rfl rfl rfl (adSS _ _ _ _) rfl rfl rfl rfl (by decide) rfl rfl (Nat.le_of_ble_eq_true rfl) d_SR_endSpans_52 ⟨Nat.zero_le _, Nat.zero_le _⟩ (fun H locs hP hD hS => ?_)
  refine W.eq (g2 := F0 m 55 ls []) rfl ?_
  refine lv_aload_n hx hb d_SR_endSpans_55 rfl (lv_at hl 0 rfl) ?_
  refine va_get (D := (dC, dI)) (ci := 0) (v := .ref (ad 4 0)) (C := R_SR) (T := F_SR) (N := 14) hx hb hts (in_SR _) hown hK hP 0 rfl rfl 3 (by decide) (hts _ (List.mem_cons_of_mem _ mw_235)) (fun _ h9 => h9) rfl d_SR_endSpans_56 ?_
  obtain ⟨ss_6, hc_3, hf⟩ := g_bind hf
  try dsimp only at hf
  refine cx2_callV (As := []) (rest := []) (wSR tC ad sr ++ wRS tC (ad 3) rs ++ wSS tC (ad 4) ss_6 ++ wFS tC (ad 6) fs_2 ++ wCO tC (ad 7) co_2) (wSR tC ad sr ++ wRS tC (ad 3) rs ++ wFS tC (ad 6) fs_2 ++ wCO tC (ad 7) co_2) ⟨hx, hb, hml, hown, hts⟩ (c_SS_uniteRows l dC dI tC (ad 4) k ss_5 ss_6 hc_3) (k_SR_331 hts ⟨Nat.le_of_ble_eq_true rfl, Nat.le_of_ble_eq_true rfl⟩) hl.1 hP hD hS hA hK hN [8, 9, 10, 11, 12, 13, 14, 15, 16, 17, 18, 19] [0, 1, 2, 3, 4, 5, 6, 7, 20, 21, 22] 23 8 4 rfl rfl rfl rfl rfl (adSS _ _ _ _) rfl rfl rfl rfl (by decide) rfl rfl (Nat.le_of_ble_eq_true rfl) d_SR_endSpans_59 ⟨Nat.zero_le _, Nat.zero_le _⟩ (fun H locs hP hD hS => ?_)
  refine W.eq (g2 := F0 m 62 ls []) rfl ?_
  refine lv_iconst (v := 0) hx hb d_SR_endSpans_62 (by decide) ?_
  refine lv_istore_n (lv' := [(2, .int 0), (0, .ref (ad 0 0)), (1, .int r)]) hx hb d_SR_endSpans_63 rfl hl (by decide) rfl (fun ls hl => ?_)
  have L_64 : ∀ (n : Nat) (v2_2 : Int32) (rs_1 : RSt) (rs_2 : RSt), f_SR_endSpans_L64 ss_6 n v2_2 rs_1 = some rs_2 → ∀ (H : Heap) (locs : List Loc) (ls : Array Slot), va_P (dC, dI) classes (wSR tC ad sr ++ wRS tC (ad 3) rs_1 ++ wSS tC (ad 4) ss_6 ++ wFS tC (ad 6) fs_2 ++ wCO tC (ad 7) co_2) H → va_D A (wSR tC ad sr ++ wRS tC (ad 3) rs_1 ++ wSS tC (ad 4) ss_6 ++ wFS tC (ad 6) fs_2 ++ wCO tC (ad 7) co_2) → va_S A s.heap H locs → lv_has ls 4 [(0, .ref (ad 0 0)), (1, .int r), (2, .int v2_2)] → (∀ (H : Heap) (locs : List Loc) (ls : Array Slot), va_P (dC, dI) classes (wSR tC ad sr ++ wRS tC (ad 3) rs_2 ++ wSS tC (ad 4) ss_6 ++ wFS tC (ad 6) fs_2 ++ wCO tC (ad 7) co_2) H → va_D A (wSR tC ad sr ++ wRS tC (ad 3) rs_2 ++ wSS tC (ad 4) ss_6 ++ wFS tC (ad 6) fs_2 ++ wCO tC (ad 7) co_2) → va_S A s.heap H locs → lv_has ls 4 [(0, .ref (ad 0 0)), (1, .int r)] → W p l e { frames := 4, cells := 0, slots := 0, locals := 92 } s m [.ref (ad 0 0)].toArray below meth c H locs 0 0 (cx_Z (dC, dI) classes below [.ref (ad 0 0)] s (wSR tC ad sr ++ wRS tC (ad 3) rsR ++ wSS tC (ad 4) ssR ++ wFS tC (ad 6) fsR ++ wCO tC (ad 7) coR) (some (.int res)) A) (F0 m 120 ls [])) → W p l e { frames := 4, cells := 0, slots := 0, locals := 92 } s m [.ref (ad 0 0)].toArray below meth c H locs 0 0 (cx_Z (dC, dI) classes below [.ref (ad 0 0)] s (wSR tC ad sr ++ wRS tC (ad 3) rsR ++ wSS tC (ad 4) ssR ++ wFS tC (ad 6) fsR ++ wCO tC (ad 7) coR) (some (.int res)) A) (F0 m 64 ls []) := by
    intro n
    induction n with
    | zero =>
      intro v2_2 rs_1 rs_2 hf
      rw [f_SR_endSpans_L64] at hf
      cases hf
    | succ n ih =>
      intro v2_2 rs_1 rs_2 hf H locs ls hP hD hS hl kk
      rw [f_SR_endSpans_L64] at hf
      refine lv_iload_n hx hb d_SR_endSpans_64 rfl (lv_at hl 2 rfl) ?_
      refine lv_aload_n hx hb d_SR_endSpans_65 rfl (lv_at hl 0 rfl) ?_
      refine va_get (D := (dC, dI)) (ci := 0) (v := .ref (ad 3 0)) (C := R_SR) (T := F_SR) (N := 14) hx hb hts (in_SR _) hown hK hP 0 rfl rfl 2 (by decide) (hts _ (List.mem_cons_of_mem _ mw_234)) (fun _ h9 => h9) rfl d_SR_endSpans_66 ?_
      refine va_get (D := (dC, dI)) (ci := 3) (v := .int (RS_kept rs_1)) (C := R_RS) (T := F_RS) (N := 7) hx hb hts (in_RS _) hown hK hP 1 rfl rfl 6 (by decide) (hts _ (List.mem_cons_of_mem _ mw_58)) (fun _ h9 => h9) rfl d_SR_endSpans_69 ?_
      refine lv_icmp_ge (tgt := 120) hx hb d_SR_endSpans_72 (by decide) (fun cb_1 => ?_) (fun cb_1 => ?_)
      · have hf := g_t hf cb_1
        have hq0 := (g_some hf)
        subst hq0
        exact kk _ _ _ hP hD hS (lv_sub hl [0, 1] rfl)
      · have hf := g_f hf cb_1
        refine lv_aload_n hx hb d_SR_endSpans_75 rfl (lv_at hl 0 rfl) ?_
        refine va_get (D := (dC, dI)) (ci := 0) (v := .ref (ad 3 0)) (C := R_SR) (T := F_SR) (N := 14) hx hb hts (in_SR _) hown hK hP 0 rfl rfl 2 (by decide) (hts _ (List.mem_cons_of_mem _ mw_234)) (fun _ h9 => h9) rfl d_SR_endSpans_76 ?_
        refine va_get (D := (dC, dI)) (ci := 3) (v := .ref ((ad 3) 6)) (C := R_RS) (T := F_RS) (N := 7) hx hb hts (in_RS _) hown hK hP 1 rfl rfl 5 (by decide) (hts _ (List.mem_cons_of_mem _ mw_56)) (fun _ h9 => h9) rfl d_SR_endSpans_79 ?_
        refine lv_iload_n hx hb d_SR_endSpans_82 rfl (lv_at hl 2 rfl) ?_
        obtain ⟨ck_1, hf⟩ := g_ck hf
        refine va_iald (D := (dC, dI)) hx hb hK hP 7 0 rfl rfl ck_1 d_SR_endSpans_83 ?_
        refine lv_topi (fun v3 h_v3 => ?_)
        have hf := g_let hf h_v3
        refine lv_istore_n (lv' := [(3, .int v3), (0, .ref (ad 0 0)), (1, .int r), (2, .int v2_2)]) hx hb d_SR_endSpans_84 rfl hl (by decide) rfl (fun ls hl => ?_)
        refine lv_aload_n hx hb d_SR_endSpans_85 rfl (lv_at hl 1 rfl) ?_
        refine va_get (D := (dC, dI)) (ci := 0) (v := .ref (ad 3 0)) (C := R_SR) (T := F_SR) (N := 14) hx hb hts (in_SR _) hown hK hP 0 rfl rfl 2 (by decide) (hts _ (List.mem_cons_of_mem _ mw_234)) (fun _ h9 => h9) rfl d_SR_endSpans_86 ?_
        refine va_get (D := (dC, dI)) (ci := 3) (v := .ref ((ad 3) 5)) (C := R_RS) (T := F_RS) (N := 7) hx hb hts (in_RS _) hown hK hP 1 rfl rfl 4 (by decide) (hts _ (List.mem_cons_of_mem _ mw_54)) (fun _ h9 => h9) rfl d_SR_endSpans_89 ?_
        refine lv_iload_n hx hb d_SR_endSpans_92 rfl (lv_at hl 0 rfl) ?_
        refine lv_aload_n hx hb d_SR_endSpans_93 rfl (lv_at hl 1 rfl) ?_
        refine va_get (D := (dC, dI)) (ci := 0) (v := .ref (ad 4 0)) (C := R_SR) (T := F_SR) (N := 14) hx hb hts (in_SR _) hown hK hP 0 rfl rfl 3 (by decide) (hts _ (List.mem_cons_of_mem _ mw_235)) (fun _ h9 => h9) rfl d_SR_endSpans_94 ?_
        refine va_get (D := (dC, dI)) (ci := 4) (v := .ref ((ad 4) 9)) (C := R_SS) (T := F_SS) (N := 12) hx hb hts (in_SS _) hown hK hP 8 rfl rfl 8 (by decide) (hts _ (List.mem_cons_of_mem _ mw_98)) (fun _ h9 => h9) rfl d_SR_endSpans_97 ?_
        refine lv_iconst (v := 0) hx hb d_SR_endSpans_100 (by decide) ?_
        refine lv_iload_n hx hb d_SR_endSpans_101 rfl (lv_at hl 0 rfl) ?_
        obtain ⟨r_1, hc_4, hf⟩ := g_bind hf
        try dsimp only at hf
        refine cx2_callS (As := [.ref ((ad 4) 9), .int 0, .int v3]) (rest := [.int v3, .ref ((ad 3) 5)]) (wSR tC ad sr ++ wRS tC (ad 3) rs_1 ++ wSS tC (ad 4) ss_6 ++ wFS tC (ad 6) fs_2 ++ wCO tC (ad 7) co_2) (wSR tC ad sr ++ wRS tC (ad 3) rs_1 ++ [((ad 4) 0, .inr (4, [.ref ((ad 4) 1), .ref ((ad 4) 2), .ref ((ad 4) 3), .ref ((ad 4) 4), .ref ((ad 4) 5), .ref ((ad 4) 6), .ref ((ad 4) 7), .ref ((ad 4) 8), .ref ((ad 4) 9), .ref ((ad 4) 10), .ref ((ad 4) 11), .int (SS_kept ss_6)])), ((ad 4) 1, .inl (tC 0, 200, .inl (SS_keys ss_6))), ((ad 4) 2, .inl (tC 1, 200, .inr (.inl (SS_begins ss_6)))), ((ad 4) 3, .inl (tC 1, 200, .inr (.inl (SS_ends ss_6)))), ((ad 4) 4, .inl (tC 0, 200, .inl (SS_fires ss_6))), ((ad 4) 5, .inl (tC 0, 200, .inl (SS_since ss_6))), ((ad 4) 6, .inl (tC 2, 200, .inl (SS_ended ss_6))), ((ad 4) 7, .inl (tC 1, 1000, .inr (.inl (SS_had ss_6)))), ((ad 4) 8, .inl (tC 1, 1000, .inr (.inl (SS_untold ss_6)))), ((ad 4) 10, .inl (tC 0, 200, .inl (SS_due ss_6))), ((ad 4) 11, .inl (tC 0, 200, .inl (SS_order ss_6)))] ++ wFS tC (ad 6) fs_2 ++ wCO tC (ad 7) co_2) ⟨hx, hb, hml, hown, hts⟩ (c_SS_isIn l dC dI tC ((ad 4) 9) 0 v3 5 (SS_united ss_6) r_1 hc_4) (k_SR_312 hts ⟨Nat.le_of_ble_eq_true rfl, Nat.le_of_ble_eq_true rfl⟩) hl.1 hP hD hS hA hK hN [17] [0, 1, 2, 3, 4, 5, 6, 7, 8, 9, 10, 11, 12, 13, 14, 15, 16, 18, 19, 20, 21, 22] 23 rfl rfl rfl rfl rfl rfl rfl (by decide) rfl rfl (Nat.le_of_ble_eq_true rfl) d_SR_endSpans_102 ⟨Nat.zero_le _, Nat.zero_le _⟩ (fun H locs hP hD hS => ?_)
        refine W.eq (g2 := F0 m 105 ls [.int r_1, .int v3, .ref ((ad 3) 5)]) rfl ?_
        refine lv_if_ne (tgt := 112) hx hb d_SR_endSpans_105 (by decide) (fun cb_2 => ?_) (fun cb_2 => ?_)
        · have hf := g_f hf cb_2
          refine lv_iconst (v := 0) hx hb d_SR_endSpans_112 (by decide) ?_
          obtain ⟨ck_2, hf⟩ := g_ck hf
          refine va_zast (D := (dC, dI)) hx hb hK hP hD hS 6 2 rfl rfl ck_2 d_SR_endSpans_113 (fun H locs hP hD hS => ?_)
          have hP : va_P (dC, dI) classes (wSR tC ad sr ++ wRS tC (ad 3) (sRS_leaves rs_1 (upd (RS_leaves rs_1) v3.toNatClampNeg 0)) ++ wSS tC (ad 4) ss_6 ++ wFS tC (ad 6) fs_2 ++ wCO tC (ad 7) co_2) H := hP
          have hD : va_D A (wSR tC ad sr ++ wRS tC (ad 3) (sRS_leaves rs_1 (upd (RS_leaves rs_1) v3.toNatClampNeg 0)) ++ wSS tC (ad 4) ss_6 ++ wFS tC (ad 6) fs_2 ++ wCO tC (ad 7) co_2) := hD
          obtain ⟨v2_3, h_v2_3⟩ : ∃ z : Int32, z = v2_2 + 1 := ⟨_, rfl⟩
          have hf := g_let hf h_v2_3
          refine lv_iinc (v := v2_3) (lv' := [(2, .int v2_3), (3, .int v3), (0, .ref (ad 0 0)), (1, .int r)]) hx hb d_SR_endSpans_114 hl (k := 3) rfl (by rw [h_v2_3]; rfl) (by decide) rfl (fun ls hl => ?_)
          refine lv_goto (tgt := 64) hx hb d_SR_endSpans_117 (by decide) ?_
          obtain ⟨rs_3, h_rs_3⟩ : ∃ z : RSt, z = (sRS_leaves rs_1 (upd (RS_leaves rs_1) v3.toNatClampNeg 0)) := ⟨_, rfl⟩
          have hf := g_let hf h_rs_3
          have hP : va_P (dC, dI) classes (wSR tC ad sr ++ wRS tC (ad 3) rs_3 ++ wSS tC (ad 4) ss_6 ++ wFS tC (ad 6) fs_2 ++ wCO tC (ad 7) co_2) H := by rw [h_rs_3]; exact hP
          have hD : va_D A (wSR tC ad sr ++ wRS tC (ad 3) rs_3 ++ wSS tC (ad 4) ss_6 ++ wFS tC (ad 6) fs_2 ++ wCO tC (ad 7) co_2) := by rw [h_rs_3]; exact hD
          exact ih v2_3 rs_3 rs_2 hf H locs ls hP hD hS (lv_sub hl [2, 3, 0] rfl) kk
        · have hf := g_t hf cb_2
          refine lv_iconst (v := 1) hx hb d_SR_endSpans_108 (by decide) ?_
          refine lv_goto (tgt := 113) hx hb d_SR_endSpans_109 (by decide) ?_
          obtain ⟨ck_3, hf⟩ := g_ck hf
          refine va_zast (D := (dC, dI)) hx hb hK hP hD hS 6 2 rfl rfl ck_3 d_SR_endSpans_113 (fun H locs hP hD hS => ?_)
          have hP : va_P (dC, dI) classes (wSR tC ad sr ++ wRS tC (ad 3) (sRS_leaves rs_1 (upd (RS_leaves rs_1) v3.toNatClampNeg 1)) ++ wSS tC (ad 4) ss_6 ++ wFS tC (ad 6) fs_2 ++ wCO tC (ad 7) co_2) H := hP
          have hD : va_D A (wSR tC ad sr ++ wRS tC (ad 3) (sRS_leaves rs_1 (upd (RS_leaves rs_1) v3.toNatClampNeg 1)) ++ wSS tC (ad 4) ss_6 ++ wFS tC (ad 6) fs_2 ++ wCO tC (ad 7) co_2) := hD
          obtain ⟨v2_4, h_v2_4⟩ : ∃ z : Int32, z = v2_2 + 1 := ⟨_, rfl⟩
          have hf := g_let hf h_v2_4
          refine lv_iinc (v := v2_4) (lv' := [(2, .int v2_4), (3, .int v3), (0, .ref (ad 0 0)), (1, .int r)]) hx hb d_SR_endSpans_114 hl (k := 3) rfl (by rw [h_v2_4]; rfl) (by decide) rfl (fun ls hl => ?_)
          refine lv_goto (tgt := 64) hx hb d_SR_endSpans_117 (by decide) ?_
          obtain ⟨rs_4, h_rs_4⟩ : ∃ z : RSt, z = (sRS_leaves rs_1 (upd (RS_leaves rs_1) v3.toNatClampNeg 1)) := ⟨_, rfl⟩
          have hf := g_let hf h_rs_4
          have hP : va_P (dC, dI) classes (wSR tC ad sr ++ wRS tC (ad 3) rs_4 ++ wSS tC (ad 4) ss_6 ++ wFS tC (ad 6) fs_2 ++ wCO tC (ad 7) co_2) H := by rw [h_rs_4]; exact hP
          have hD : va_D A (wSR tC ad sr ++ wRS tC (ad 3) rs_4 ++ wSS tC (ad 4) ss_6 ++ wFS tC (ad 6) fs_2 ++ wCO tC (ad 7) co_2) := by rw [h_rs_4]; exact hD
          exact ih v2_4 rs_4 rs_2 hf H locs ls hP hD hS (lv_sub hl [2, 3, 0] rfl) kk
  obtain ⟨rs_2, hL_64, hf⟩ := g_bind hf
  try dsimp only at hf
  refine L_64 k 0 rs rs_2 hL_64 H locs ls hP hD hS (lv_sub hl [1, 2, 0] rfl) (fun H locs ls hP hD hS hl => ?_)
  refine lv_aload_n hx hb d_SR_endSpans_120 rfl (lv_at hl 0 rfl) ?_
  refine va_get (D := (dC, dI)) (ci := 0) (v := .ref (ad 3 0)) (C := R_SR) (T := F_SR) (N := 14) hx hb hts (in_SR _) hown hK hP 0 rfl rfl 2 (by decide) (hts _ (List.mem_cons_of_mem _ mw_234)) (fun _ h9 => h9) rfl d_SR_endSpans_121 ?_
  obtain ⟨rs_5, hc_5, hf⟩ := g_bind hf
  try dsimp only at hf
  refine cx2_callV (As := []) (rest := []) (wSR tC ad sr ++ wRS tC (ad 3) rs_5 ++ wSS tC (ad 4) ss_6 ++ wFS tC (ad 6) fs_2 ++ wCO tC (ad 7) co_2) (wSR tC ad sr ++ wSS tC (ad 4) ss_6 ++ wFS tC (ad 6) fs_2 ++ wCO tC (ad 7) co_2) ⟨hx, hb, hml, hown, hts⟩ (c_RS_sweep l dC dI tC (ad 3) k rs_2 rs_5 hc_5) (k_SR_340 hts ⟨Nat.le_of_ble_eq_true rfl, Nat.le_of_ble_eq_true rfl⟩) hl.1 hP hD hS hA hK hN [1, 2, 3, 4, 5, 6, 7] [0, 8, 9, 10, 11, 12, 13, 14, 15, 16, 17, 18, 19, 20, 21, 22] 23 1 3 rfl rfl rfl rfl rfl (adRS _ _ _ _) rfl rfl rfl rfl (by decide) rfl rfl (Nat.le_of_ble_eq_true rfl) d_SR_endSpans_124 ⟨Nat.zero_le _, Nat.zero_le _⟩ (fun H locs hP hD hS => ?_)
  refine W.eq (g2 := F0 m 127 ls []) rfl ?_
  refine lv_iload_n hx hb d_SR_endSpans_127 rfl (lv_at hl 1 rfl) ?_
  obtain ⟨hq0, hr1⟩ := Prod.mk.inj (g_some hf)
  obtain ⟨hq1, hr2⟩ := Prod.mk.inj hr1
  obtain ⟨hq2, hr3⟩ := Prod.mk.inj hr2
  obtain ⟨hq3, hr4⟩ := Prod.mk.inj hr3
  subst hq0
  subst hq1
  subst hq2
  subst hq3
  subst hr4
  exact cx_iret hx hb hr hlocks hP hS d_SR_endSpans_128
