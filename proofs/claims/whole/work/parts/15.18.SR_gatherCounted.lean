def f_SR_gatherCounted_L10 (x1 : Int32) (x2 : Int64) (la : LAt) (rs : RSt) : Nat → Int32 → COt → Option (COt)
  | 0, _, _ => none
  | n + 1, v4, co_2 =>
    if (RS_kept rs) ≤ v4 then (
      some co_2
    ) else
    if v4 < 0 ∨ 300 ≤ v4.toNatClampNeg then none else
    gl_let ((RS_order rs v4.toNatClampNeg)) fun v5 =>
    if v5 < 0 ∨ 300 ≤ v5.toNatClampNeg then none else
    if (RS_keys rs v5.toNatClampNeg) = x1 then (
      if (f_SR_isWithin ((RS_numbers rs v5.toNatClampNeg).toInt64) x2 ((x2 + (LA_size la)) - 1)) = 0 then (
        gl_let (v4 + 1) fun v4_2 =>
        f_SR_gatherCounted_L10 x1 x2 la rs n v4_2 co_2
      ) else
      gl_let (f_CO_add (RS_values rs v5.toNatClampNeg) co_2) fun co_4 =>
      gl_let (v4 + 1) fun v4_3 =>
      f_SR_gatherCounted_L10 x1 x2 la rs n v4_3 co_4
    ) else
    gl_let (v4 + 1) fun v4_1 =>
    f_SR_gatherCounted_L10 x1 x2 la rs n v4_1 co_2
def f_SR_gatherCounted (k : Nat) (x1 : Int32) (x2 : Int64) (sr : SRt) (la : LAt) (rs : RSt) (co : COt) : Option COt :=
  gl_let (f_CO_clear co) fun co_1 =>
  (f_SR_gatherCounted_L10 x1 x2 la rs k 0 co_1).bind fun co_3 =>
  some co_3
set_option maxHeartbeats 4000000 in
set_option maxRecDepth 100000 in
theorem c_SR_gatherCounted (l : Launch) (dC : Nat → ClassId) (dI : Nat → Nat → Nat) (tC : Nat → ClassId) (ad : Nat → Nat → Nat) (k : Nat) (x1 : Int32) (x2 : Int64) (sr : SRt) (la : LAt) (rs : RSt) (co : COt) (coR : COt) (hf : f_SR_gatherCounted k x1 x2 sr la rs co = some coR) : cx_M l y_SR_gatherCounted w_SR_gatherCounted { frames := 2, cells := 0, slots := 0, locals := 46 } (dC, dI) classes (tyS tC) [.ref (ad 0 0), .int x1, .long x2] (wSR tC ad sr ++ wLA tC (ad 1) la ++ wRS tC (ad 3) rs ++ wCO tC (ad 7) co) (wSR tC ad sr ++ wLA tC (ad 1) la ++ wRS tC (ad 3) rs ++ wCO tC (ad 7) coR) (none) := by
  refine cx_of (cc := b_SR_gatherCounted) (maxL := 6) (ret := none) (plainFor_of_name (by decide)) rfl (Nat.le_of_ble_eq_true rfl) ?_
  intro p e s m below meth c hx hb hr hml hown hts hlocks A hA H locs ls hK hN hP hD hS hl
  have hown : s.vm.findClass R_SR = some m.cls := hown
  have hl : lv_has ls 6 [(0, .ref (ad 0 0)), (1, .int x1), (2, .long x2)] := hl
  unfold f_SR_gatherCounted at hf
  refine lv_aload_n hx hb d_SR_gatherCounted_0 rfl (lv_at hl 0 rfl) ?_
  refine va_get (D := (dC, dI)) (ci := 0) (v := .ref (ad 7 0)) (C := R_SR) (T := F_SR) (N := 14) hx hb hts (in_SR _) hown hK hP 0 rfl rfl 6 (by decide) (hts _ (List.mem_cons_of_mem _ mw_238)) (fun _ h9 => h9) rfl d_SR_gatherCounted_1 ?_
  obtain ⟨co_1, hc⟩ : ∃ z : COt, z = f_CO_clear co := ⟨_, rfl⟩
  have hf := g_let hf hc
  try dsimp only at hf
  refine cx2_callV (As := []) (rest := []) (wSR tC ad sr ++ wLA tC (ad 1) la ++ wRS tC (ad 3) rs ++ wCO tC (ad 7) co_1) (wSR tC ad sr ++ wLA tC (ad 1) la ++ wRS tC (ad 3) rs) ⟨hx, hb, hml, hown, hts⟩ (c_CO_clear l dC dI tC (ad 7) co co_1 hc.symm) (k_SR_306 hts ⟨Nat.le_of_ble_eq_true rfl, Nat.le_of_ble_eq_true rfl⟩) hl.1 hP hD hS hA hK hN [11] [0, 1, 2, 3, 4, 5, 6, 7, 8, 9, 10] 12 11 7 rfl rfl rfl rfl rfl (adCO _ _ _ _) rfl rfl rfl rfl (by decide) rfl rfl (Nat.le_of_ble_eq_true rfl) d_SR_gatherCounted_4 ⟨Nat.zero_le _, Nat.zero_le _⟩ (fun H locs hP hD hS => ?_)
  refine W.eq (g2 := F0 m 7 ls []) rfl ?_
  refine lv_iconst (v := 0) hx hb d_SR_gatherCounted_7 (by decide) ?_
  refine lv_istore (lv' := [(4, .int 0), (0, .ref (ad 0 0)), (1, .int x1), (2, .long x2)]) hx hb d_SR_gatherCounted_8 hl (by decide) rfl (fun ls hl => ?_)
  have L_10 : ∀ (n : Nat) (v4 : Int32) (co_2 : COt) (co_3 : COt), f_SR_gatherCounted_L10 x1 x2 la rs n v4 co_2 = some co_3 → ∀ (H : Heap) (locs : List Loc) (ls : Array Slot), va_P (dC, dI) classes (wSR tC ad sr ++ wLA tC (ad 1) la ++ wRS tC (ad 3) rs ++ wCO tC (ad 7) co_2) H → va_D A (wSR tC ad sr ++ wLA tC (ad 1) la ++ wRS tC (ad 3) rs ++ wCO tC (ad 7) co_2) → va_S A s.heap H locs → lv_has ls 6 [(0, .ref (ad 0 0)), (1, .int x1), (2, .long x2), (4, .int v4)] → (∀ (H : Heap) (locs : List Loc) (ls : Array Slot), va_P (dC, dI) classes (wSR tC ad sr ++ wLA tC (ad 1) la ++ wRS tC (ad 3) rs ++ wCO tC (ad 7) co_3) H → va_D A (wSR tC ad sr ++ wLA tC (ad 1) la ++ wRS tC (ad 3) rs ++ wCO tC (ad 7) co_3) → va_S A s.heap H locs → lv_has ls 6 [] → W p l e { frames := 2, cells := 0, slots := 0, locals := 46 } s m [.ref (ad 0 0), .int x1, .long x2].toArray below meth c H locs 0 0 (cx_Z (dC, dI) classes below [.ref (ad 0 0), .int x1, .long x2] s (wSR tC ad sr ++ wLA tC (ad 1) la ++ wRS tC (ad 3) rs ++ wCO tC (ad 7) coR) (none) A) (F0 m 100 ls [])) → W p l e { frames := 2, cells := 0, slots := 0, locals := 46 } s m [.ref (ad 0 0), .int x1, .long x2].toArray below meth c H locs 0 0 (cx_Z (dC, dI) classes below [.ref (ad 0 0), .int x1, .long x2] s (wSR tC ad sr ++ wLA tC (ad 1) la ++ wRS tC (ad 3) rs ++ wCO tC (ad 7) coR) (none) A) (F0 m 10 ls []) := by
    intro n
    induction n with
    | zero =>
      intro v4 co_2 co_3 hf
      rw [f_SR_gatherCounted_L10] at hf
      cases hf
    | succ n ih =>
      intro v4 co_2 co_3 hf H locs ls hP hD hS hl kk
      rw [f_SR_gatherCounted_L10] at hf
      refine lv_iload hx hb d_SR_gatherCounted_10 (lv_at hl 3 rfl) ?_
      refine lv_aload_n hx hb d_SR_gatherCounted_12 rfl (lv_at hl 0 rfl) ?_
      refine va_get (D := (dC, dI)) (ci := 0) (v := .ref (ad 3 0)) (C := R_SR) (T := F_SR) (N := 14) hx hb hts (in_SR _) hown hK hP 0 rfl rfl 2 (by decide) (hts _ (List.mem_cons_of_mem _ mw_234)) (fun _ h9 => h9) rfl d_SR_gatherCounted_13 ?_
      refine va_get (D := (dC, dI)) (ci := 3) (v := .int (RS_kept rs)) (C := R_RS) (T := F_RS) (N := 7) hx hb hts (in_RS _) hown hK hP 4 rfl rfl 6 (by decide) (hts _ (List.mem_cons_of_mem _ mw_58)) (fun _ h9 => h9) rfl d_SR_gatherCounted_16 ?_
      refine lv_icmp_ge (tgt := 100) hx hb d_SR_gatherCounted_19 (by decide) (fun cb => ?_) (fun cb => ?_)
      · have hf := g_t hf cb
        have hq0 := (g_some hf)
        subst hq0
        exact kk _ _ _ hP hD hS (lv_sub hl [] rfl)
      · have hf := g_f hf cb
        refine lv_aload_n hx hb d_SR_gatherCounted_22 rfl (lv_at hl 0 rfl) ?_
        refine va_get (D := (dC, dI)) (ci := 0) (v := .ref (ad 3 0)) (C := R_SR) (T := F_SR) (N := 14) hx hb hts (in_SR _) hown hK hP 0 rfl rfl 2 (by decide) (hts _ (List.mem_cons_of_mem _ mw_234)) (fun _ h9 => h9) rfl d_SR_gatherCounted_23 ?_
        refine va_get (D := (dC, dI)) (ci := 3) (v := .ref ((ad 3) 6)) (C := R_RS) (T := F_RS) (N := 7) hx hb hts (in_RS _) hown hK hP 4 rfl rfl 5 (by decide) (hts _ (List.mem_cons_of_mem _ mw_56)) (fun _ h9 => h9) rfl d_SR_gatherCounted_26 ?_
        refine lv_iload hx hb d_SR_gatherCounted_29 (lv_at hl 3 rfl) ?_
        obtain ⟨ck, hf⟩ := g_ck hf
        refine va_iald (D := (dC, dI)) hx hb hK hP 10 0 rfl rfl ck d_SR_gatherCounted_31 ?_
        refine lv_topi (fun v5 h_v5 => ?_)
        have hf := g_let hf h_v5
        refine lv_istore (lv' := [(5, .int v5), (0, .ref (ad 0 0)), (1, .int x1), (2, .long x2), (4, .int v4)]) hx hb d_SR_gatherCounted_32 hl (by decide) rfl (fun ls hl => ?_)
        refine lv_aload_n hx hb d_SR_gatherCounted_34 rfl (lv_at hl 1 rfl) ?_
        refine va_get (D := (dC, dI)) (ci := 0) (v := .ref (ad 3 0)) (C := R_SR) (T := F_SR) (N := 14) hx hb hts (in_SR _) hown hK hP 0 rfl rfl 2 (by decide) (hts _ (List.mem_cons_of_mem _ mw_234)) (fun _ h9 => h9) rfl d_SR_gatherCounted_35 ?_
        refine va_get (D := (dC, dI)) (ci := 3) (v := .ref ((ad 3) 1)) (C := R_RS) (T := F_RS) (N := 7) hx hb hts (in_RS _) hown hK hP 4 rfl rfl 0 (by decide) (hts _ (List.mem_cons_of_mem _ mw_46)) (fun _ h9 => h9) rfl d_SR_gatherCounted_38 ?_
        refine lv_iload hx hb d_SR_gatherCounted_41 (lv_at hl 0 rfl) ?_
        obtain ⟨ck_1, hf⟩ := g_ck hf
        refine va_iald (D := (dC, dI)) hx hb hK hP 5 0 rfl rfl ck_1 d_SR_gatherCounted_43 ?_
        refine lv_iload_n hx hb d_SR_gatherCounted_44 rfl (lv_at hl 2 rfl) ?_
        refine lv_icmp_ne (tgt := 94) hx hb d_SR_gatherCounted_45 (by decide) (fun cb_1 => ?_) (fun cb_1 => ?_)
        · have hf := g_f hf cb_1
          obtain ⟨v4_1, h_v4_1⟩ : ∃ z : Int32, z = v4 + 1 := ⟨_, rfl⟩
          have hf := g_let hf h_v4_1
          refine lv_iinc (v := v4_1) (lv' := [(4, .int v4_1), (5, .int v5), (0, .ref (ad 0 0)), (1, .int x1), (2, .long x2)]) hx hb d_SR_gatherCounted_94 hl (k := 4) rfl (by rw [h_v4_1]; rfl) (by decide) rfl (fun ls hl => ?_)
          refine lv_goto (tgt := 10) hx hb d_SR_gatherCounted_97 (by decide) ?_
          exact ih v4_1 co_2 co_3 hf H locs ls hP hD hS (lv_sub hl [2, 3, 4, 0] rfl) kk
        · have hf := g_t hf cb_1
          refine lv_aload_n hx hb d_SR_gatherCounted_48 rfl (lv_at hl 1 rfl) ?_
          refine va_get (D := (dC, dI)) (ci := 0) (v := .ref (ad 3 0)) (C := R_SR) (T := F_SR) (N := 14) hx hb hts (in_SR _) hown hK hP 0 rfl rfl 2 (by decide) (hts _ (List.mem_cons_of_mem _ mw_234)) (fun _ h9 => h9) rfl d_SR_gatherCounted_49 ?_
          refine va_get (D := (dC, dI)) (ci := 3) (v := .ref ((ad 3) 4)) (C := R_RS) (T := F_RS) (N := 7) hx hb hts (in_RS _) hown hK hP 4 rfl rfl 3 (by decide) (hts _ (List.mem_cons_of_mem _ mw_52)) (fun _ h9 => h9) rfl d_SR_gatherCounted_52 ?_
          refine lv_iload hx hb d_SR_gatherCounted_55 (lv_at hl 0 rfl) ?_
          refine va_iald (D := (dC, dI)) hx hb hK hP 8 0 rfl rfl ck_1 d_SR_gatherCounted_57 ?_
          refine lv_i2l hx hb d_SR_gatherCounted_58 rfl ?_
          refine lv_lload_n hx hb d_SR_gatherCounted_59 rfl (lv_at hl 3 rfl) ?_
          refine lv_lload_n hx hb d_SR_gatherCounted_60 rfl (lv_at hl 3 rfl) ?_
          refine lv_aload_n hx hb d_SR_gatherCounted_61 rfl (lv_at hl 1 rfl) ?_
          refine va_get (D := (dC, dI)) (ci := 0) (v := .ref (ad 1 0)) (C := R_SR) (T := F_SR) (N := 14) hx hb hts (in_SR _) hown hK hP 0 rfl rfl 0 (by decide) (hts _ (List.mem_cons_of_mem _ mw_232)) (fun _ h9 => h9) rfl d_SR_gatherCounted_62 ?_
          refine va_get (D := (dC, dI)) (ci := 1) (v := .long (LA_size la)) (C := R_LA) (T := F_LA) (N := 8) hx hb hts (in_LA _) hown hK hP 1 rfl rfl 1 (by decide) (hts _ (List.mem_cons_of_mem _ mw_202)) (fun _ h9 => h9) rfl d_SR_gatherCounted_65 ?_
          refine lv_ladd hx hb d_SR_gatherCounted_68 ?_
          refine lv_lconst (v := 1) hx hb d_SR_gatherCounted_69 (by decide) ?_
          refine lv_lsub hx hb d_SR_gatherCounted_70 ?_
          refine cx_callS (As := [.long ((RS_numbers rs v5.toNatClampNeg).toInt64), .long x2, .long ((x2 + (LA_size la)) - 1)]) (rest := []) ⟨hx, hb, hml, hown, hts⟩ (c_SR_isWithin l dC dI tC  ((RS_numbers rs v5.toNatClampNeg).toInt64) x2 ((x2 + (LA_size la)) - 1) (f_SR_isWithin ((RS_numbers rs v5.toNatClampNeg).toInt64) x2 ((x2 + (LA_size la)) - 1)) rfl) (k_SR_95 hts ⟨Nat.le_of_ble_eq_true rfl, Nat.le_of_ble_eq_true rfl⟩) hl.1 hP hD hS hA hK hN [] rfl rfl rfl rfl rfl (Nat.le_of_ble_eq_true rfl) d_SR_gatherCounted_71 ⟨Nat.zero_le _, Nat.zero_le _⟩ (fun H locs hP hD hS => ?_)
          have hP : va_P (dC, dI) classes (wSR tC ad sr ++ wLA tC (ad 1) la ++ wRS tC (ad 3) rs ++ wCO tC (ad 7) co_2) H := hP
          have hD : va_D A (wSR tC ad sr ++ wLA tC (ad 1) la ++ wRS tC (ad 3) rs ++ wCO tC (ad 7) co_2) := hD
          refine W.eq (g2 := F0 m 74 ls [.int (f_SR_isWithin ((RS_numbers rs v5.toNatClampNeg).toInt64) x2 ((x2 + (LA_size la)) - 1))]) rfl ?_
          refine lv_if_eq (tgt := 94) hx hb d_SR_gatherCounted_74 (by decide) (fun cb_2 => ?_) (fun cb_2 => ?_)
          · have hf := g_t hf cb_2
            obtain ⟨v4_2, h_v4_2⟩ : ∃ z : Int32, z = v4 + 1 := ⟨_, rfl⟩
            have hf := g_let hf h_v4_2
            refine lv_iinc (v := v4_2) (lv' := [(4, .int v4_2), (5, .int v5), (0, .ref (ad 0 0)), (1, .int x1), (2, .long x2)]) hx hb d_SR_gatherCounted_94 hl (k := 4) rfl (by rw [h_v4_2]; rfl) (by decide) rfl (fun ls hl => ?_)
            refine lv_goto (tgt := 10) hx hb d_SR_gatherCounted_97 (by decide) ?_
            exact ih v4_2 co_2 co_3 hf H locs ls hP hD hS (lv_sub hl [2, 3, 4, 0] rfl) kk
          · have hf := g_f hf cb_2
            refine lv_aload_n hx hb d_SR_gatherCounted_77 rfl (lv_at hl 1 rfl) ?_
            refine va_get (D := (dC, dI)) (ci := 0) (v := .ref (ad 7 0)) (C := R_SR) (T := F_SR) (N := 14) hx hb hts (in_SR _) hown hK hP 0 rfl rfl 6 (by decide) (hts _ (List.mem_cons_of_mem _ mw_238)) (fun _ h9 => h9) rfl d_SR_gatherCounted_78 ?_
            refine lv_aload_n hx hb d_SR_gatherCounted_81 rfl (lv_at hl 1 rfl) ?_
            refine va_get (D := (dC, dI)) (ci := 0) (v := .ref (ad 3 0)) (C := R_SR) (T := F_SR) (N := 14) hx hb hts (in_SR _) hown hK hP 0 rfl rfl 2 (by decide) (hts _ (List.mem_cons_of_mem _ mw_234)) (fun _ h9 => h9) rfl d_SR_gatherCounted_82 ?_
            refine va_get (D := (dC, dI)) (ci := 3) (v := .ref ((ad 3) 3)) (C := R_RS) (T := F_RS) (N := 7) hx hb hts (in_RS _) hown hK hP 4 rfl rfl 2 (by decide) (hts _ (List.mem_cons_of_mem _ mw_50)) (fun _ h9 => h9) rfl d_SR_gatherCounted_85 ?_
            refine lv_iload hx hb d_SR_gatherCounted_88 (lv_at hl 0 rfl) ?_
            refine va_lald (D := (dC, dI)) hx hb hK hP 7 1 rfl rfl ck_1 d_SR_gatherCounted_90 ?_
            obtain ⟨co_4, hc_2⟩ : ∃ z : COt, z = f_CO_add (RS_values rs v5.toNatClampNeg) co_2 := ⟨_, rfl⟩
            have hf := g_let hf hc_2
            try dsimp only at hf
            refine cx2_callV (As := [.long (RS_values rs v5.toNatClampNeg)]) (rest := []) (wSR tC ad sr ++ wLA tC (ad 1) la ++ wRS tC (ad 3) rs ++ wCO tC (ad 7) co_4) (wSR tC ad sr ++ wLA tC (ad 1) la ++ wRS tC (ad 3) rs) ⟨hx, hb, hml, hown, hts⟩ (c_CO_add l dC dI tC (ad 7) (RS_values rs v5.toNatClampNeg) co_2 co_4 hc_2.symm) (k_SR_319 hts ⟨Nat.le_of_ble_eq_true rfl, Nat.le_of_ble_eq_true rfl⟩) hl.1 hP hD hS hA hK hN [11] [0, 1, 2, 3, 4, 5, 6, 7, 8, 9, 10] 12 11 7 rfl rfl rfl rfl rfl (adCO _ _ _ _) rfl rfl rfl rfl (by decide) rfl rfl (Nat.le_of_ble_eq_true rfl) d_SR_gatherCounted_91 ⟨Nat.zero_le _, Nat.zero_le _⟩ (fun H locs hP hD hS => ?_)
            refine W.eq (g2 := F0 m 94 ls []) rfl ?_
            obtain ⟨v4_3, h_v4_3⟩ : ∃ z : Int32, z = v4 + 1 := ⟨_, rfl⟩
            have hf := g_let hf h_v4_3
            refine lv_iinc (v := v4_3) (lv' := [(4, .int v4_3), (5, .int v5), (0, .ref (ad 0 0)), (1, .int x1), (2, .long x2)]) hx hb d_SR_gatherCounted_94 hl (k := 4) rfl (by rw [h_v4_3]; rfl) (by decide) rfl (fun ls hl => ?_)
            refine lv_goto (tgt := 10) hx hb d_SR_gatherCounted_97 (by decide) ?_
            exact ih v4_3 co_4 co_3 hf H locs ls hP hD hS (lv_sub hl [2, 3, 4, 0] rfl) kk
  obtain ⟨co_3, hL_10, hf⟩ := g_bind hf
  try dsimp only at hf
  refine L_10 k 0 co_1 co_3 hL_10 H locs ls hP hD hS (lv_sub hl [1, 2, 3, 0] rfl) (fun H locs ls hP hD hS hl => ?_)
  have hq0 := (g_some hf)
  subst hq0
  exact cx_vret hx hb hr hlocks hP hS d_SR_gatherCounted_100
