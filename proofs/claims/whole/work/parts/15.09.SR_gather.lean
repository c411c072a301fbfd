def f_SR_gather_L9 (x1 : Int32) (rs : RSt) (p2 : (Nat → Int64)) (n_p2 : Nat) : Nat → Int32 → COt → Option (COt)
  | 0, _, _ => none
  | n + 1, v3, co_2 =>
    if (RS_kept rs) ≤ v3 then (
      some co_2
    ) else
    if v3 < 0 ∨ 300 ≤ v3.toNatClampNeg then none else
    gl_let ((RS_order rs v3.toNatClampNeg)) fun v4 =>
    (f_SS_isIn x1 v4 n_p2 p2).bind fun r =>
    if r = 0 then (
      gl_let (v3 + 1) fun v3_1 =>
      f_SR_gather_L9 x1 rs p2 n_p2 n v3_1 co_2
    ) else
    if v4 < 0 ∨ 300 ≤ v4.toNatClampNeg then none else
    gl_let (f_CO_add (RS_values rs v4.toNatClampNeg) co_2) fun co_4 =>
    gl_let (v3 + 1) fun v3_2 =>
    f_SR_gather_L9 x1 rs p2 n_p2 n v3_2 co_4
def f_SR_gather (k : Nat) (x1 : Int32) (sr : SRt) (rs : RSt) (co : COt) (n_p2 : Nat) (p2 : (Nat → Int64)) : Option COt :=
  gl_let (f_CO_clear co) fun co_1 =>
  (f_SR_gather_L9 x1 rs p2 n_p2 k 0 co_1).bind fun co_3 =>
  some co_3
set_option maxHeartbeats 4000000 in
set_option maxRecDepth 100000 in
theorem c_SR_gather (l : Launch) (dC : Nat → ClassId) (dI : Nat → Nat → Nat) (tC : Nat → ClassId) (ad : Nat → Nat → Nat) (a_p2 : Nat) (k : Nat) (x1 : Int32) (sr : SRt) (rs : RSt) (co : COt) (n_p2 : Nat) (p2 : (Nat → Int64)) (coR : COt) (hf : f_SR_gather k x1 sr rs co n_p2 p2 = some coR) : cx_M l y_SR_gather w_SR_gather { frames := 2, cells := 0, slots := 0, locals := 46 } (dC, dI) classes (tyS tC) [.ref (ad 0 0), .int x1, .ref a_p2] (wSR tC ad sr ++ wRS tC (ad 3) rs ++ wCO tC (ad 7) co ++ [(a_p2, .inl (tC 1, n_p2, .inr (.inl (p2))))]) (wSR tC ad sr ++ wRS tC (ad 3) rs ++ wCO tC (ad 7) coR ++ [(a_p2, .inl (tC 1, n_p2, .inr (.inl (p2))))]) (none) := by
  refine cx_of (cc := b_SR_gather) (maxL := 5) (ret := none) (plainFor_of_name (by decide)) rfl (Nat.le_of_ble_eq_true rfl) ?_
  intro p e s m below meth c hx hb hr hml hown hts hlocks A hA H locs ls hK hN hP hD hS hl
  have hown : s.vm.findClass R_SR = some m.cls := hown
  have hl : lv_has ls 5 [(0, .ref (ad 0 0)), (1, .int x1), (2, .ref a_p2)] := hl
  unfold f_SR_gather at hf
  refine lv_aload_n hx hb d_SR_gather_0 rfl (lv_at hl 0 rfl) ?_
  refine va_get (D := (dC, dI)) (ci := 0) (v := .ref (ad 7 0)) (C := R_SR) (T := F_SR) (N := 14) hx hb hts (in_SR _) hown hK hP 0 rfl rfl 6 (by decide) (hts _ (List.mem_cons_of_mem _ mw_238)) (fun _ h9 => h9) rfl d_SR_gather_1 ?_
  obtain ⟨co_1, hc⟩ : ∃ z : COt, z = f_CO_clear co := ⟨_, rfl⟩
  have hf := g_let hf hc
  try dsimp only at hf
  refine cx2_callV (As := []) (rest := []) (wSR tC ad sr ++ wRS tC (ad 3) rs ++ wCO tC (ad 7) co_1 ++ [(a_p2, .inl (tC 1, n_p2, .inr (.inl (p2))))]) (wSR tC ad sr ++ wRS tC (ad 3) rs ++ [(a_p2, .inl (tC 1, n_p2, .inr (.inl (p2))))]) ⟨hx, hb, hml, hown, hts⟩ (c_CO_clear l dC dI tC (ad 7) co co_1 hc.symm) (k_SR_306 hts ⟨Nat.le_of_ble_eq_true rfl, Nat.le_of_ble_eq_true rfl⟩) hl.1 hP hD hS hA hK hN [8] [0, 1, 2, 3, 4, 5, 6, 7, 9] 10 8 7 rfl rfl rfl rfl rfl (adCO _ _ _ _) rfl rfl rfl rfl (by decide) rfl rfl (Nat.le_of_ble_eq_true rfl) d_SR_gather_4 ⟨Nat.zero_le _, Nat.zero_le _⟩ (fun H locs hP hD hS => ?_)
  refine W.eq (g2 := F0 m 7 ls []) rfl ?_
  refine lv_iconst (v := 0) hx hb d_SR_gather_7 (by decide) ?_
  refine lv_istore_n (lv' := [(3, .int 0), (0, .ref (ad 0 0)), (1, .int x1), (2, .ref a_p2)]) hx hb d_SR_gather_8 rfl hl (by decide) rfl (fun ls hl => ?_)
  have L_9 : ∀ (n : Nat) (v3 : Int32) (co_2 : COt) (co_3 : COt), f_SR_gather_L9 x1 rs p2 n_p2 n v3 co_2 = some co_3 → ∀ (H : Heap) (locs : List Loc) (ls : Array Slot), va_P (dC, dI) classes (wSR tC ad sr ++ wRS tC (ad 3) rs ++ wCO tC (ad 7) co_2 ++ [(a_p2, .inl (tC 1, n_p2, .inr (.inl (p2))))]) H → va_D A (wSR tC ad sr ++ wRS tC (ad 3) rs ++ wCO tC (ad 7) co_2 ++ [(a_p2, .inl (tC 1, n_p2, .inr (.inl (p2))))]) → va_S A s.heap H locs → lv_has ls 5 [(0, .ref (ad 0 0)), (1, .int x1), (2, .ref a_p2), (3, .int v3)] → (∀ (H : Heap) (locs : List Loc) (ls : Array Slot), va_P (dC, dI) classes (wSR tC ad sr ++ wRS tC (ad 3) rs ++ wCO tC (ad 7) co_3 ++ [(a_p2, .inl (tC 1, n_p2, .inr (.inl (p2))))]) H → va_D A (wSR tC ad sr ++ wRS tC (ad 3) rs ++ wCO tC (ad 7) co_3 ++ [(a_p2, .inl (tC 1, n_p2, .inr (.inl (p2))))]) → va_S A s.heap H locs → lv_has ls 5 [] → W p l e { frames := 2, cells := 0, slots := 0, locals := 46 } s m [.ref (ad 0 0), .int x1, .ref a_p2].toArray below meth c H locs 0 0 (cx_Z (dC, dI) classes below [.ref (ad 0 0), .int x1, .ref a_p2] s (wSR tC ad sr ++ wRS tC (ad 3) rs ++ wCO tC (ad 7) coR ++ [(a_p2, .inl (tC 1, n_p2, .inr (.inl (p2))))]) (none) A) (F0 m 64 ls [])) → W p l e { frames := 2, cells := 0, slots := 0, locals := 46 } s m [.ref (ad 0 0), .int x1, .ref a_p2].toArray below meth c H locs 0 0 (cx_Z (dC, dI) classes below [.ref (ad 0 0), .int x1, .ref a_p2] s (wSR tC ad sr ++ wRS tC (ad 3) rs ++ wCO tC (ad 7) coR ++ [(a_p2, .inl (tC 1, n_p2, .inr (.inl (p2))))]) (none) A) (F0 m 9 ls []) := by
    intro n
    induction n with
    | zero =>
      intro v3 co_2 co_3 hf
      rw [f_SR_gather_L9] at hf
      cases hf
    | succ n ih =>
      intro v3 co_2 co_3 hf H locs ls hP hD hS hl kk
      rw [f_SR_gather_L9] at hf
      refine lv_iload_n hx hb d_SR_gather_9 rfl (lv_at hl 3 rfl) ?_
      refine lv_aload_n hx hb d_SR_gather_10 rfl (lv_at hl 0 rfl) ?_
      refine va_get (D := (dC, dI)) (ci := 0) (v := .ref (ad 3 0)) (C := R_SR) (T := F_SR) (N := 14) hx hb hts (in_SR _) hown hK hP 0 rfl rfl 2 (by decide) (hts _ (List.mem_cons_of_mem _ mw_234)) (fun _ h9 => h9) rfl d_SR_gather_11 ?_
      refine va_get (D := (dC, dI)) (ci := 3) (v := .int (RS_kept rs)) (C := R_RS) (T := F_RS) (N := 7) hx hb hts (in_RS _) hown hK hP 1 rfl rfl 6 (by decide) (hts _ (List.mem_cons_of_mem _ mw_58)) (fun _ h9 => h9) rfl d_SR_gather_14 ?_
      refine lv_icmp_ge (tgt := 64) hx hb d_SR_gather_17 (by decide) (fun cb => ?_) (fun cb => ?_)
      · have hf := g_t hf cb
        have hq0 := (g_some hf)
        subst hq0
        exact kk _ _ _ hP hD hS (lv_sub hl [] rfl)
      · have hf := g_f hf cb
        refine lv_aload_n hx hb d_SR_gather_20 rfl (lv_at hl 0 rfl) ?_
        refine va_get (D := (dC, dI)) (ci := 0) (v := .ref (ad 3 0)) (C := R_SR) (T := F_SR) (N := 14) hx hb hts (in_SR _) hown hK hP 0 rfl rfl 2 (by decide) (hts _ (List.mem_cons_of_mem _ mw_234)) (fun _ h9 => h9) rfl d_SR_gather_21 ?_
        refine va_get (D := (dC, dI)) (ci := 3) (v := .ref ((ad 3) 6)) (C := R_RS) (T := F_RS) (N := 7) hx hb hts (in_RS _) hown hK hP 1 rfl rfl 5 (by decide) (hts _ (List.mem_cons_of_mem _ mw_56)) (fun _ h9 => h9) rfl d_SR_gather_24 ?_
        refine lv_iload_n hx hb d_SR_gather_27 rfl (lv_at hl 3 rfl) ?_
        obtain ⟨ck, hf⟩ := g_ck hf
        refine va_iald (D := (dC, dI)) hx hb hK hP 7 0 rfl rfl ck d_SR_gather_28 ?_
        refine lv_topi (fun v4 h_v4 => ?_)
        have hf := g_let hf h_v4
        refine lv_istore (lv' := [(4, .int v4), (0, .ref (ad 0 0)), (1, .int x1), (2, .ref a_p2), (3, .int v3)]) hx hb d_SR_gather_29 hl (by decide) rfl (fun ls hl => ?_)
        refine lv_aload_n hx hb d_SR_gather_31 rfl (lv_at hl 3 rfl) ?_
        refine lv_iload_n hx hb d_SR_gather_32 rfl (lv_at hl 2 rfl) ?_
        refine lv_iload hx hb d_SR_gather_33 (lv_at hl 0 rfl) ?_
        obtain ⟨r, hc_1, hf⟩ := g_bind hf
        try dsimp only at hf
        refine cx2_callS (As := [.ref a_p2, .int x1, .int v4]) (rest := []) (wSR tC ad sr ++ wRS tC (ad 3) rs ++ wCO tC (ad 7) co_2 ++ [(a_p2, .inl (tC 1, n_p2, .inr (.inl (p2))))]) (wSR tC ad sr ++ wRS tC (ad 3) rs ++ wCO tC (ad 7) co_2) ⟨hx, hb, hml, hown, hts⟩ (c_SS_isIn l dC dI tC a_p2 x1 v4 n_p2 p2 r hc_1) (k_SR_312 hts ⟨Nat.le_of_ble_eq_true rfl, Nat.le_of_ble_eq_true rfl⟩) hl.1 hP hD hS hA hK hN [9] [0, 1, 2, 3, 4, 5, 6, 7, 8] 10 rfl rfl rfl rfl rfl rfl rfl (by decide) rfl rfl (Nat.le_of_ble_eq_true rfl) d_SR_gather_35 ⟨Nat.zero_le _, Nat.zero_le _⟩ (fun H locs hP hD hS => ?_)
        refine W.eq (g2 := F0 m 38 ls [.int r]) rfl ?_
        refine lv_if_eq (tgt := 58) hx hb d_SR_gather_38 (by decide) (fun cb_1 => ?_) (fun cb_1 => ?_)
        · have hf := g_t hf cb_1
          obtain ⟨v3_1, h_v3_1⟩ : ∃ z : Int32, z = v3 + 1 := ⟨_, rfl⟩
          have hf := g_let hf h_v3_1
          refine lv_iinc (v := v3_1) (lv' := [(3, .int v3_1), (4, .int v4), (0, .ref (ad 0 0)), (1, .int x1), (2, .ref a_p2)]) hx hb d_SR_gather_58 hl (k := 4) rfl (by rw [h_v3_1]; rfl) (by decide) rfl (fun ls hl => ?_)
          refine lv_goto (tgt := 9) hx hb d_SR_gather_61 (by decide) ?_
          exact ih v3_1 co_2 co_3 hf H locs ls hP hD hS (lv_sub hl [2, 3, 4, 0] rfl) kk
        · have hf := g_f hf cb_1
          refine lv_aload_n hx hb d_SR_gather_41 rfl (lv_at hl 1 rfl) ?_
          refine va_get (D := (dC, dI)) (ci := 0) (v := .ref (ad 7 0)) (C := R_SR) (T := F_SR) (N := 14) hx hb hts (in_SR _) hown hK hP 0 rfl rfl 6 (by decide) (hts _ (List.mem_cons_of_mem _ mw_238)) (fun _ h9 => h9) rfl d_SR_gather_42 ?_
          refine lv_aload_n hx hb d_SR_gather_45 rfl (lv_at hl 1 rfl) ?_
          refine va_get (D := (dC, dI)) (ci := 0) (v := .ref (ad 3 0)) (C := R_SR) (T := F_SR) (N := 14) hx hb hts (in_SR _) hown hK hP 0 rfl rfl 2 (by decide) (hts _ (List.mem_cons_of_mem _ mw_234)) (fun _ h9 => h9) rfl d_SR_gather_46 ?_
          refine va_get (D := (dC, dI)) (ci := 3) (v := .ref ((ad 3) 3)) (C := R_RS) (T := F_RS) (N := 7) hx hb hts (in_RS _) hown hK hP 1 rfl rfl 2 (by decide) (hts _ (List.mem_cons_of_mem _ mw_50)) (fun _ h9 => h9) rfl d_SR_gather_49 ?_
          refine lv_iload hx hb d_SR_gather_52 (lv_at hl 0 rfl) ?_
          obtain ⟨ck_1, hf⟩ := g_ck hf
          refine va_lald (D := (dC, dI)) hx hb hK hP 4 1 rfl rfl ck_1 d_SR_gather_54 ?_
          obtain ⟨co_4, hc_2⟩ : ∃ z : COt, z = f_CO_add (RS_values rs v4.toNatClampNeg) co_2 := ⟨_, rfl⟩
          have hf := g_let hf hc_2
          try dsimp only at hf
          refine cx2_callV (As := [.long (RS_values rs v4.toNatClampNeg)]) (rest := []) (wSR tC ad sr ++ wRS tC (ad 3) rs ++ wCO tC (ad 7) co_4 ++ [(a_p2, .inl (tC 1, n_p2, .inr (.inl (p2))))]) (wSR tC ad sr ++ wRS tC (ad 3) rs ++ [(a_p2, .inl (tC 1, n_p2, .inr (.inl (p2))))]) ⟨hx, hb, hml, hown, hts⟩ (c_CO_add l dC dI tC (ad 7) (RS_values rs v4.toNatClampNeg) co_2 co_4 hc_2.symm) (k_SR_319 hts ⟨Nat.le_of_ble_eq_true rfl, Nat.le_of_ble_eq_true rfl⟩) hl.1 hP hD hS hA hK hN [8] [0, 1, 2, 3, 4, 5, 6, 7, 9] 10 8 7 rfl rfl rfl rfl rfl (adCO _ _ _ _) rfl rfl rfl rfl (by decide) rfl rfl (Nat.le_of_ble_eq_true rfl) d_SR_gather_55 ⟨Nat.zero_le _, Nat.zero_le _⟩ (fun H locs hP hD hS => ?_)
          refine W.eq (g2 := F0 m 58 ls []) rfl ?_
          obtain ⟨v3_2, h_v3_2⟩ : ∃ z : Int32, z = v3 + 1 := ⟨_, rfl⟩
          have hf := g_let hf h_v3_2
          refine lv_iinc (v := v3_2) (lv' := [(3, .int v3_2), (4, .int v4), (0, .ref (ad 0 0)), (1, .int x1), (2, .ref a_p2)]) hx hb d_SR_gather_58 hl (k := 4) rfl (by rw [h_v3_2]; rfl) (by decide) rfl (fun ls hl => ?_)
          refine lv_goto (tgt := 9) hx hb d_SR_gather_61 (by decide) ?_
          exact ih v3_2 co_4 co_3 hf H locs ls hP hD hS (lv_sub hl [2, 3, 4, 0] rfl) kk
  obtain ⟨co_3, hL_9, hf⟩ := g_bind hf
  try dsimp only at hf
  refine L_9 k 0 co_1 co_3 hL_9 H locs ls hP hD hS (lv_sub hl [1, 2, 3, 0] rfl) (fun H locs ls hP hD hS hl => ?_)
  have hq0 := (g_some hf)
  subst hq0
  exact cx_vret hx hb hr hlocks hP hS d_SR_gather_64
