def f_SR_fireCounted_L12 (k : Nat) (x1 : Int32) (sr : SRt) (la : LAt) (rs : RSt) (nu : NUt) : Nat → Int32 → Int64 → FSt → COt → Option (Int32 × Int64 × FSt × COt)
  | 0, _, _, _, _ => none
  | n + 1, v2, v3_1, fs_1, co_1 =>
    if (NU_numbered nu x1.toNatClampNeg).toInt64 < (v3_1 + (LA_size la)) then (
      some (v2, v3_1, fs_1, co_1)
    ) else
    (f_SR_gatherCounted k x1 v3_1 sr la rs co_1).bind fun co_3 =>
    (f_FS_add k x1 v3_1 (v3_1 + (LA_size la)) 1 1 fs_1 co_3).bind fun fs_3 =>
    gl_let (v2 + 1) fun v2_2 =>
    gl_let ((v3_1 + (LA_step la))) fun v3_3 =>
    f_SR_fireCounted_L12 k x1 sr la rs nu n v2_2 v3_3 fs_3 co_3
def f_SR_fireCounted (k : Nat) (x1 : Int32) (sr : SRt) (la : LAt) (rs : RSt) (nu : NUt) (fs : FSt) (co : COt) : Option (Int32 × NUt × FSt × COt) :=
  if x1 < 0 ∨ 8 ≤ x1.toNatClampNeg then none else
  gl_let ((NU_begins nu x1.toNatClampNeg)) fun v3 =>
  (f_SR_fireCounted_L12 k x1 sr la rs nu k 0 v3 fs co).bind fun (v2_1, v3_2, fs_2, co_2) =>
  some (v2_1, (sNU_begins nu (vp_updL (NU_begins nu) x1.toNatClampNeg v3_2)), fs_2, co_2)
set_option maxHeartbeats 4000000 in
set_option maxRecDepth 100000 in
theorem c_SR_fireCounted (l : Launch) (dC : Nat → ClassId) (dI : Nat → Nat → Nat) (tC : Nat → ClassId) (ad : Nat → Nat → Nat) (k : Nat) (x1 : Int32) (sr : SRt) (la : LAt) (rs : RSt) (nu : NUt) (fs : FSt) (co : COt) (res : Int32) (nuR : NUt) (fsR : FSt) (coR : COt) (hf : f_SR_fireCounted k x1 sr la rs nu fs co = some (res, nuR, fsR, coR)) : cx_M l y_SR_fireCounted w_SR_fireCounted { frames := 3, cells := 0, slots := 0, locals := 71 } (dC, dI) classes (tyS tC) [.ref (ad 0 0), .int x1] (wSR tC ad sr ++ wLA tC (ad 1) la ++ wRS tC (ad 3) rs ++ wNU tC (ad 5) nu ++ wFS tC (ad 6) fs ++ wCO tC (ad 7) co) (wSR tC ad sr ++ wLA tC (ad 1) la ++ wRS tC (ad 3) rs ++ wNU tC (ad 5) nuR ++ wFS tC (ad 6) fsR ++ wCO tC (ad 7) coR) (some (.int res)) := by
  refine cx_of (cc := b_SR_fireCounted) (maxL := 5) (ret := some .int) (plainFor_of_name (by decide)) rfl (Nat.le_of_ble_eq_true rfl) ?_
  intro p e s m below meth c hx hb hr hml hown hts hlocks A hA H locs ls hK hN hP hD hS hl
  have hown : s.vm.findClass R_SR = some m.cls := hown
  have hl : lv_has ls 5 [(0, .ref (ad 0 0)), (1, .int x1)] := hl
  unfold f_SR_fireCounted at hf
  refine lv_iconst (v := 0) hx hb d_SR_fireCounted_0 (by decide) ?_
  refine lv_istore_n (lv' := [(2, .int 0), (0, .ref (ad 0 0)), (1, .int x1)]) hx hb d_SR_fireCounted_1 rfl hl (by decide) rfl (fun ls hl => ?_)
  refine lv_aload_n hx hb d_SR_fireCounted_2 rfl (lv_at hl 1 rfl) ?_
  refine va_get (D := (dC, dI)) (ci := 0) (v := .ref (ad 5 0)) (C := R_SR) (T := F_SR) (N := 14) hx hb hts (in_SR _) hown hK hP 0 rfl rfl 4 (by decide) (hts _ (List.mem_cons_of_mem _ mw_236)) (fun _ h9 => h9) rfl d_SR_fireCounted_3 ?_
  refine va_get (D := (dC, dI)) (ci := 5) (v := .ref ((ad 5) 2)) (C := R_NU) (T := F_NU) (N := 2) hx hb hts (in_NU _) hown hK hP 11 rfl rfl 1 (by decide) (hts _ (List.mem_cons_of_mem _ mw_138)) (fun _ h9 => h9) rfl d_SR_fireCounted_6 ?_
  refine lv_iload_n hx hb d_SR_fireCounted_9 rfl (lv_at hl 2 rfl) ?_
  obtain ⟨ck, hf⟩ := g_ck hf
  refine va_lald (D := (dC, dI)) hx hb hK hP 13 1 rfl rfl ck d_SR_fireCounted_10 ?_
  refine lv_topl (fun v3 h_v3 => ?_)
  have hf := g_let hf h_v3
  refine lv_lstore_n (lv' := [(3, .long v3), (2, .int 0), (0, .ref (ad 0 0)), (1, .int x1)]) hx hb d_SR_fireCounted_11 rfl hl (by decide) rfl (fun ls hl => ?_)
  have L_12 : ∀ (n : Nat) (v2 : Int32) (v3_1 : Int64) (fs_1 : FSt) (co_1 : COt) (v2_1 : Int32) (v3_2 : Int64) (fs_2 : FSt) (co_2 : COt), f_SR_fireCounted_L12 k x1 sr la rs nu n v2 v3_1 fs_1 co_1 = some (v2_1, v3_2, fs_2, co_2) → ∀ (H : Heap) (locs : List Loc) (ls : Array Slot), va_P (dC, dI) classes (wSR tC ad sr ++ wLA tC (ad 1) la ++ wRS tC (ad 3) rs ++ wNU tC (ad 5) nu ++ wFS tC (ad 6) fs_1 ++ wCO tC (ad 7) co_1) H → va_D A (wSR tC ad sr ++ wLA tC (ad 1) la ++ wRS tC (ad 3) rs ++ wNU tC (ad 5) nu ++ wFS tC (ad 6) fs_1 ++ wCO tC (ad 7) co_1) → va_S A s.heap H locs → lv_has ls 5 [(0, .ref (ad 0 0)), (1, .int x1), (2, .int v2), (3, .long v3_1)] → (∀ (H : Heap) (locs : List Loc) (ls : Array Slot), va_P (dC, dI) classes (wSR tC ad sr ++ wLA tC (ad 1) la ++ wRS tC (ad 3) rs ++ wNU tC (ad 5) nu ++ wFS tC (ad 6) fs_2 ++ wCO tC (ad 7) co_2) H → va_D A (wSR tC ad sr ++ wLA tC (ad 1) la ++ wRS tC (ad 3) rs ++ wNU tC (ad 5) nu ++ wFS tC (ad 6) fs_2 ++ wCO tC (ad 7) co_2) → va_S A s.heap H locs → lv_has ls 5 [(0, .ref (ad 0 0)), (1, .int x1), (2, .int v2_1), (3, .long v3_2)] → W p l e { frames := 3, cells := 0, slots := 0, locals := 71 } s m [.ref (ad 0 0), .int x1].toArray below meth c H locs 0 0 (cx_Z (dC, dI) classes below [.ref (ad 0 0), .int x1] s (wSR tC ad sr ++ wLA tC (ad 1) la ++ wRS tC (ad 3) rs ++ wNU tC (ad 5) nuR ++ wFS tC (ad 6) fsR ++ wCO tC (ad 7) coR) (some (.int res)) A) (F0 m 81 ls [])) → W p l e { frames := 3, cells := 0, slots := 0, locals := 71 } s m [.ref (ad 0 0), .int x1].toArray below meth c H locs 0 0 (cx_Z (dC, dI) classes below [.ref (ad 0 0), .int x1] s (wSR tC ad sr ++ wLA tC (ad 1) la ++ wRS tC (ad 3) rs ++ wNU tC (ad 5) nuR ++ wFS tC (ad 6) fsR ++ wCO tC (ad 7) coR) (some (.int res)) A) (F0 m 12 ls []) := by
    intro n
    induction n with
    | zero =>
      intro v2 v3_1 fs_1 co_1 v2_1 v3_2 fs_2 co_2 hf
      rw [f_SR_fireCounted_L12] at hf
      cases hf
    | succ n ih =>
      intro v2 v3_1 fs_1 co_1 v2_1 v3_2 fs_2 co_2 hf H locs ls hP hD hS hl kk
      rw [f_SR_fireCounted_L12] at hf
      refine lv_lload_n hx hb d_SR_fireCounted_12 rfl (lv_at hl 3 rfl) ?_
      refine lv_aload_n hx hb d_SR_fireCounted_13 rfl (lv_at hl 0 rfl) ?_
      refine va_get (D := (dC, dI)) (ci := 0) (v := .ref (ad 1 0)) (C := R_SR) (T := F_SR) (N := 14) hx hb hts (in_SR _) hown hK hP 0 rfl rfl 0 (by decide) (hts _ (List.mem_cons_of_mem _ mw_232)) (fun _ h9 => h9) rfl d_SR_fireCounted_14 ?_
      refine va_get (D := (dC, dI)) (ci := 1) (v := .long (LA_size la)) (C := R_LA) (T := F_LA) (N := 8) hx hb hts (in_LA _) hown hK hP 1 rfl rfl 1 (by decide) (hts _ (List.mem_cons_of_mem _ mw_202)) (fun _ h9 => h9) rfl d_SR_fireCounted_17 ?_
      refine lv_ladd hx hb d_SR_fireCounted_20 ?_
      refine lv_aload_n hx hb d_SR_fireCounted_21 rfl (lv_at hl 0 rfl) ?_
      refine va_get (D := (dC, dI)) (ci := 0) (v := .ref (ad 5 0)) (C := R_SR) (T := F_SR) (N := 14) hx hb hts (in_SR _) hown hK hP 0 rfl rfl 4 (by decide) (hts _ (List.mem_cons_of_mem _ mw_236)) (fun _ h9 => h9) rfl d_SR_fireCounted_22 ?_
      refine va_get (D := (dC, dI)) (ci := 5) (v := .ref ((ad 5) 1)) (C := R_NU) (T := F_NU) (N := 2) hx hb hts (in_NU _) hown hK hP 11 rfl rfl 0 (by decide) (hts _ (List.mem_cons_of_mem _ mw_136)) (fun _ h9 => h9) rfl d_SR_fireCounted_25 ?_
      refine lv_iload_n hx hb d_SR_fireCounted_28 rfl (lv_at hl 1 rfl) ?_
      refine va_iald (D := (dC, dI)) hx hb hK hP 12 0 rfl rfl ck d_SR_fireCounted_29 ?_
      refine lv_i2l hx hb d_SR_fireCounted_30 rfl ?_
      refine cq_gt (tgt := 81) hx hb d_SR_fireCounted_31 d_SR_fireCounted_32 (by decide) (fun cb => ?_) (fun cb => ?_)
      · have hf := g_t hf cb
        obtain ⟨hq0, hr1⟩ := Prod.mk.inj (g_some hf)
        obtain ⟨hq1, hr2⟩ := Prod.mk.inj hr1
        obtain ⟨hq2, hr3⟩ := Prod.mk.inj hr2
        subst hq0
        subst hq1
        subst hq2
        subst hr3
        exact kk _ _ _ hP hD hS (lv_sub hl [0, 1, 2, 3] rfl)
      · have hf := g_f hf cb
        refine lv_aload_n hx hb d_SR_fireCounted_35 rfl (lv_at hl 0 rfl) ?_
        refine lv_iload_n hx hb d_SR_fireCounted_36 rfl (lv_at hl 1 rfl) ?_
        refine lv_lload_n hx hb d_SR_fireCounted_37 rfl (lv_at hl 3 rfl) ?_
        obtain ⟨co_3, hc, hf⟩ := g_bind hf
        try dsimp only at hf
        refine cx2_callV (As := [.int x1, .long v3_1]) (rest := []) (wSR tC ad sr ++ wLA tC (ad 1) la ++ wRS tC (ad 3) rs ++ wNU tC (ad 5) nu ++ wFS tC (ad 6) fs_1 ++ wCO tC (ad 7) co_3) (wNU tC (ad 5) nu ++ wFS tC (ad 6) fs_1) ⟨hx, hb, hml, hown, hts⟩ (c_SR_gatherCounted l dC dI tC ad k x1 v3_1 sr la rs co_1 co_3 hc) (k_SR_369 hts ⟨Nat.le_of_ble_eq_true rfl, Nat.le_of_ble_eq_true rfl⟩) hl.1 hP hD hS hA hK hN [0, 1, 2, 3, 4, 5, 6, 7, 8, 9, 10, 16] [11, 12, 13, 14, 15] 17 0 0 rfl rfl rfl rfl rfl (cx_hw (cx_hw (cx_hw rfl rfl) rfl) (adCO _ _ _ _)) rfl rfl rfl rfl (by decide) rfl rfl (Nat.le_of_ble_eq_true rfl) d_SR_fireCounted_38 ⟨Nat.zero_le _, Nat.zero_le _⟩ (fun H locs hP hD hS => ?_)
        refine W.eq (g2 := F0 m 41 ls []) rfl ?_
        refine lv_aload_n hx hb d_SR_fireCounted_41 rfl (lv_at hl 0 rfl) ?_
        refine va_get (D := (dC, dI)) (ci := 0) (v := .ref (ad 6 0)) (C := R_SR) (T := F_SR) (N := 14) hx hb hts (in_SR _) hown hK hP 0 rfl rfl 5 (by decide) (hts _ (List.mem_cons_of_mem _ mw_237)) (fun _ h9 => h9) rfl d_SR_fireCounted_42 ?_
        refine lv_iload_n hx hb d_SR_fireCounted_45 rfl (lv_at hl 1 rfl) ?_
        refine lv_lload_n hx hb d_SR_fireCounted_46 rfl (lv_at hl 3 rfl) ?_
        refine lv_lload_n hx hb d_SR_fireCounted_47 rfl (lv_at hl 3 rfl) ?_
        refine lv_aload_n hx hb d_SR_fireCounted_48 rfl (lv_at hl 0 rfl) ?_
        refine va_get (D := (dC, dI)) (ci := 0) (v := .ref (ad 1 0)) (C := R_SR) (T := F_SR) (N := 14) hx hb hts (in_SR _) hown hK hP 0 rfl rfl 0 (by decide) (hts _ (List.mem_cons_of_mem _ mw_232)) (fun _ h9 => h9) rfl d_SR_fireCounted_49 ?_
        refine va_get (D := (dC, dI)) (ci := 1) (v := .long (LA_size la)) (C := R_LA) (T := F_LA) (N := 8) hx hb hts (in_LA _) hown hK hP 1 rfl rfl 1 (by decide) (hts _ (List.mem_cons_of_mem _ mw_202)) (fun _ h9 => h9) rfl d_SR_fireCounted_52 ?_
        refine lv_ladd hx hb d_SR_fireCounted_55 ?_
        refine lv_iconst (v := 1) hx hb d_SR_fireCounted_56 (by decide) ?_
        refine lv_iconst (v := 1) hx hb d_SR_fireCounted_57 (by decide) ?_
        refine lv_aload_n hx hb d_SR_fireCounted_58 rfl (lv_at hl 0 rfl) ?_
        refine va_get (D := (dC, dI)) (ci := 0) (v := .ref (ad 7 0)) (C := R_SR) (T := F_SR) (N := 14) hx hb hts (in_SR _) hown hK hP 0 rfl rfl 6 (by decide) (hts _ (List.mem_cons_of_mem _ mw_238)) (fun _ h9 => h9) rfl d_SR_fireCounted_59 ?_
        obtain ⟨fs_3, hc_1, hf⟩ := g_bind hf
        try dsimp only at hf
        refine cx2_callV (As := [.int x1, .long v3_1, .long (v3_1 + (LA_size la)), .int 1, .int 1, .ref (ad 7 0)]) (rest := []) (wSR tC ad sr ++ wLA tC (ad 1) la ++ wRS tC (ad 3) rs ++ wNU tC (ad 5) nu ++ wFS tC (ad 6) fs_3 ++ wCO tC (ad 7) co_3) (wSR tC ad sr ++ wLA tC (ad 1) la ++ wRS tC (ad 3) rs ++ wNU tC (ad 5) nu) ⟨hx, hb, hml, hown, hts⟩ (c_FS_add l dC dI tC (ad 6) (ad 7) k x1 v3_1 (v3_1 + (LA_size la)) 1 1 fs_1 co_3 fs_3 hc_1) (k_SR_303 hts ⟨Nat.le_of_ble_eq_true rfl, Nat.le_of_ble_eq_true rfl⟩) hl.1 hP hD hS hA hK hN [14, 15, 16] [0, 1, 2, 3, 4, 5, 6, 7, 8, 9, 10, 11, 12, 13] 17 14 6 rfl rfl rfl rfl rfl (cx_hw (adFS _ _ _ _) rfl) rfl rfl rfl rfl (by decide) rfl rfl (Nat.le_of_ble_eq_true rfl) d_SR_fireCounted_62 ⟨Nat.zero_le _, Nat.zero_le _⟩ (fun H locs hP hD hS => ?_)
        refine W.eq (g2 := F0 m 65 ls []) rfl ?_
        obtain ⟨v2_2, h_v2_2⟩ : ∃ z : Int32, z = v2 + 1 := ⟨_, rfl⟩
        have hf := g_let hf h_v2_2
        refine lv_iinc (v := v2_2) (lv' := [(2, .int v2_2), (0, .ref (ad 0 0)), (1, .int x1), (3, .long v3_1)]) hx hb d_SR_fireCounted_65 hl (k := 2) rfl (by rw [h_v2_2]; rfl) (by decide) rfl (fun ls hl => ?_)
        refine lv_lload_n hx hb d_SR_fireCounted_68 rfl (lv_at hl 3 rfl) ?_
        refine lv_aload_n hx hb d_SR_fireCounted_69 rfl (lv_at hl 1 rfl) ?_
        refine va_get (D := (dC, dI)) (ci := 0) (v := .ref (ad 1 0)) (C := R_SR) (T := F_SR) (N := 14) hx hb hts (in_SR _) hown hK hP 0 rfl rfl 0 (by decide) (hts _ (List.mem_cons_of_mem _ mw_232)) (fun _ h9 => h9) rfl d_SR_fireCounted_70 ?_
        refine va_get (D := (dC, dI)) (ci := 1) (v := .long (LA_step la)) (C := R_LA) (T := F_LA) (N := 8) hx hb hts (in_LA _) hown hK hP 1 rfl rfl 2 (by decide) (hts _ (List.mem_cons_of_mem _ mw_204)) (fun _ h9 => h9) rfl d_SR_fireCounted_73 ?_
        refine lv_ladd hx hb d_SR_fireCounted_76 ?_
        refine lv_topl (fun v3_3 h_v3_3 => ?_)
        have hf := g_let hf h_v3_3
        refine lv_lstore_n (lv' := [(3, .long v3_3), (2, .int v2_2), (0, .ref (ad 0 0)), (1, .int x1)]) hx hb d_SR_fireCounted_77 rfl hl (by decide) rfl (fun ls hl => ?_)
        refine lv_goto (tgt := 12) hx hb d_SR_fireCounted_78 (by decide) ?_
        exact ih v2_2 v3_3 fs_3 co_3 v2_1 v3_2 fs_2 co_2 hf H locs ls hP hD hS (lv_sub hl [2, 3, 1, 0] rfl) kk
  obtain ⟨⟨v2_1, v3_2, fs_2, co_2⟩, hL_12, hf⟩ := g_bind hf
  try dsimp only at hf
  refine L_12 k 0 v3 fs co v2_1 v3_2 fs_2 co_2 hL_12 H locs ls hP hD hS (lv_sub hl [2, 3, 1, 0] rfl) (fun H locs ls hP hD hS hl => ?_)
  refine lv_aload_n hx hb d_SR_fireCounted_81 rfl (lv_at hl 0 rfl) ?_
  refine va_get (D := (dC, dI)) (ci := 0) (v := .ref (ad 5 0)) (C := R_SR) (T := F_SR) (N := 14) hx hb hts (in_SR _) hown hK hP 0 rfl rfl 4 (by decide) (hts _ (List.mem_cons_of_mem _ mw_236)) (fun _ h9 => h9) rfl d_SR_fireCounted_82 ?_
  refine va_get (D := (dC, dI)) (ci := 5) (v := .ref ((ad 5) 2)) (C := R_NU) (T := F_NU) (N := 2) hx hb hts (in_NU _) hown hK hP 11 rfl rfl 1 (by decide) (hts _ (List.mem_cons_of_mem _ mw_138)) (fun _ h9 => h9) rfl d_SR_fireCounted_85 ?_
  refine lv_iload_n hx hb d_SR_fireCounted_88 rfl (lv_at hl 1 rfl) ?_
  refine lv_lload_n hx hb d_SR_fireCounted_89 rfl (lv_at hl 3 rfl) ?_
  refine va_last (D := (dC, dI)) hx hb hK hP hD hS 13 1 rfl rfl ck d_SR_fireCounted_90 (fun H locs hP hD hS => ?_)
  have hP : va_P (dC, dI) classes (wSR tC ad sr ++ wLA tC (ad 1) la ++ wRS tC (ad 3) rs ++ wNU tC (ad 5) (sNU_begins nu (vp_updL (NU_begins nu) x1.toNatClampNeg v3_2)) ++ wFS tC (ad 6) fs_2 ++ wCO tC (ad 7) co_2) H := hP
  have hD : va_D A (wSR tC ad sr ++ wLA tC (ad 1) la ++ wRS tC (ad 3) rs ++ wNU tC (ad 5) (sNU_begins nu (vp_updL (NU_begins nu) x1.toNatClampNeg v3_2)) ++ wFS tC (ad 6) fs_2 ++ wCO tC (ad 7) co_2) := hD
  refine lv_iload_n hx hb d_SR_fireCounted_91 rfl (lv_at hl 2 rfl) ?_
  obtain ⟨hq0, hr1⟩ := Prod.mk.inj (g_some hf)
  obtain ⟨hq1, hr2⟩ := Prod.mk.inj hr1
  obtain ⟨hq2, hr3⟩ := Prod.mk.inj hr2
  subst hq0
  subst hq1
  subst hq2
  subst hr3
  exact cx_iret hx hb hr hlocks hP hS d_SR_fireCounted_92
