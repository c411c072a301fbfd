def f_SR_newOnes_L4 (k : Nat) (x1 : Int32) (la : LAt) (ss : SSt) : Nat → Int32 → Int32 → Option (Int32)
  | 0, _, _ => none
  | n + 1, v2, v3 =>
    if (LA_found la) ≤ v3 then (
      some v2
    ) else
    if v3 < 0 ∨ 16 ≤ v3.toNatClampNeg then none else
    (f_SS_find k x1 (LA_begins la v3.toNatClampNeg) (LA_ends la v3.toNatClampNeg) ss).bind fun r =>
    if r = (-1) then (
      gl_let (v2 + 1) fun v2_2 =>
      gl_let (v3 + 1) fun v3_2 =>
      f_SR_newOnes_L4 k x1 la ss n v2_2 v3_2
    ) else
    gl_let (v3 + 1) fun v3_1 =>
    f_SR_newOnes_L4 k x1 la ss n v2 v3_1
def f_SR_newOnes (k : Nat) (x1 : Int32) (sr : SRt) (la : LAt) (ss : SSt) : Option Int32 :=
  (f_SR_newOnes_L4 k x1 la ss k 0 0).bind fun v2_1 =>
  some v2_1
set_option maxHeartbeats 4000000 in
set_option maxRecDepth 100000 in
theorem c_SR_newOnes (l : Launch) (dC : Nat → ClassId) (dI : Nat → Nat → Nat) (tC : Nat → ClassId) (ad : Nat → Nat → Nat) (k : Nat) (x1 : Int32) (sr : SRt) (la : LAt) (ss : SSt) (res : Int32) (hf : f_SR_newOnes k x1 sr la ss = some res) : cx_M l y_SR_newOnes w_SR_newOnes { frames := 1, cells := 0, slots := 0, locals := 27 } (dC, dI) classes (tyS tC) [.ref (ad 0 0), .int x1] (wSR tC ad sr ++ wLA tC (ad 1) la ++ wSS tC (ad 4) ss) (wSR tC ad sr ++ wLA tC (ad 1) la ++ wSS tC (ad 4) ss) (some (.int res)) := by
  refine cx_of (cc := b_SR_newOnes) (maxL := 4) (ret := some .int) (plainFor_of_name (by decide)) rfl (Nat.le_of_ble_eq_true rfl) ?_
  intro p e s m below meth c hx hb hr hml hown hts hlocks A hA H locs ls hK hN hP hD hS hl
  have hown : s.vm.findClass R_SR = some m.cls := hown
  have hl : lv_has ls 4 [(0, .ref (ad 0 0)), (1, .int x1)] := hl
  unfold f_SR_newOnes at hf
  refine lv_iconst (v := 0) hx hb d_SR_newOnes_0 (by decide) ?_
  refine lv_istore_n (lv' := [(2, .int 0), (0, .ref (ad 0 0)), (1, .int x1)]) hx hb d_SR_newOnes_1 rfl hl (by decide) rfl (fun ls hl => ?_)
  refine lv_iconst (v := 0) hx hb d_SR_newOnes_2 (by decide) ?_
  refine lv_istore_n (lv' := [(3, .int 0), (2, .int 0), (0, .ref (ad 0 0)), (1, .int x1)]) hx hb d_SR_newOnes_3 rfl hl (by decide) rfl (fun ls hl => ?_)
  have L_4 : ∀ (n : Nat) (v2 : Int32) (v3 : Int32) (v2_1 : Int32), f_SR_newOnes_L4 k x1 la ss n v2 v3 = some v2_1 → ∀ (H : Heap) (locs : List Loc) (ls : Array Slot), va_P (dC, dI) classes (wSR tC ad sr ++ wLA tC (ad 1) la ++ wSS tC (ad 4) ss) H → va_D A (wSR tC ad sr ++ wLA tC (ad 1) la ++ wSS tC (ad 4) ss) → va_S A s.heap H locs → lv_has ls 4 [(0, .ref (ad 0 0)), (1, .int x1), (2, .int v2), (3, .int v3)] → (∀ (H : Heap) (locs : List Loc) (ls : Array Slot), va_P (dC, dI) classes (wSR tC ad sr ++ wLA tC (ad 1) la ++ wSS tC (ad 4) ss) H → va_D A (wSR tC ad sr ++ wLA tC (ad 1) la ++ wSS tC (ad 4) ss) → va_S A s.heap H locs → lv_has ls 4 [(2, .int v2_1)] → W p l e { frames := 1, cells := 0, slots := 0, locals := 27 } s m [.ref (ad 0 0), .int x1].toArray below meth c H locs 0 0 (cx_Z (dC, dI) classes below [.ref (ad 0 0), .int x1] s (wSR tC ad sr ++ wLA tC (ad 1) la ++ wSS tC (ad 4) ss) (some (.int res)) A) (F0 m 54 ls [])) → W p l e { frames := 1, cells := 0, slots := 0, locals := 27 } s m [.ref (ad 0 0), .int x1].toArray below meth c H locs 0 0 (cx_Z (dC, dI) classes below [.ref (ad 0 0), .int x1] s (wSR tC ad sr ++ wLA tC (ad 1) la ++ wSS tC (ad 4) ss) (some (.int res)) A) (F0 m 4 ls []) := by
    intro n
    induction n with
    | zero =>
      intro v2 v3 v2_1 hf
      rw [f_SR_newOnes_L4] at hf
      cases hf
    | succ n ih =>
      intro v2 v3 v2_1 hf H locs ls hP hD hS hl kk
      rw [f_SR_newOnes_L4] at hf
      refine lv_iload_n hx hb d_SR_newOnes_4 rfl (lv_at hl 3 rfl) ?_
      refine lv_aload_n hx hb d_SR_newOnes_5 rfl (lv_at hl 0 rfl) ?_
      refine va_get (D := (dC, dI)) (ci := 0) (v := .ref (ad 1 0)) (C := R_SR) (T := F_SR) (N := 14) hx hb hts (in_SR _) hown hK hP 0 rfl rfl 0 (by decide) (hts _ (List.mem_cons_of_mem _ mw_232)) (fun _ h9 => h9) rfl d_SR_newOnes_6 ?_
      refine va_get (D := (dC, dI)) (ci := 1) (v := .int (LA_found la)) (C := R_LA) (T := F_LA) (N := 8) hx hb hts (in_LA _) hown hK hP 1 rfl rfl 7 (by decide) (hts _ (List.mem_cons_of_mem _ mw_214)) (fun _ h9 => h9) rfl d_SR_newOnes_9 ?_
      refine lv_icmp_ge (tgt := 54) hx hb d_SR_newOnes_12 (by decide) (fun cb => ?_) (fun cb => ?_)
      · have hf := g_t hf cb
        have hq0 := (g_some hf)
        subst hq0
        exact kk _ _ _ hP hD hS (lv_sub hl [2] rfl)
      · have hf := g_f hf cb
        refine lv_aload_n hx hb d_SR_newOnes_15 rfl (lv_at hl 0 rfl) ?_
        refine va_get (D := (dC, dI)) (ci := 0) (v := .ref (ad 4 0)) (C := R_SR) (T := F_SR) (N := 14) hx hb hts (in_SR _) hown hK hP 0 rfl rfl 3 (by decide) (hts _ (List.mem_cons_of_mem _ mw_235)) (fun _ h9 => h9) rfl d_SR_newOnes_16 ?_
        refine lv_iload_n hx hb d_SR_newOnes_19 rfl (lv_at hl 1 rfl) ?_
        refine lv_aload_n hx hb d_SR_newOnes_20 rfl (lv_at hl 0 rfl) ?_
        refine va_get (D := (dC, dI)) (ci := 0) (v := .ref (ad 1 0)) (C := R_SR) (T := F_SR) (N := 14) hx hb hts (in_SR _) hown hK hP 0 rfl rfl 0 (by decide) (hts _ (List.mem_cons_of_mem _ mw_232)) (fun _ h9 => h9) rfl d_SR_newOnes_21 ?_
        refine va_get (D := (dC, dI)) (ci := 1) (v := .ref ((ad 1) 1)) (C := R_LA) (T := F_LA) (N := 8) hx hb hts (in_LA _) hown hK hP 1 rfl rfl 3 (by decide) (hts _ (List.mem_cons_of_mem _ mw_206)) (fun _ h9 => h9) rfl d_SR_newOnes_24 ?_
        refine lv_iload_n hx hb d_SR_newOnes_27 rfl (lv_at hl 3 rfl) ?_
        obtain ⟨ck, hf⟩ := g_ck hf
        refine va_lald (D := (dC, dI)) hx hb hK hP 2 1 rfl rfl ck d_SR_newOnes_28 ?_
        refine lv_aload_n hx hb d_SR_newOnes_29 rfl (lv_at hl 0 rfl) ?_
        refine va_get (D := (dC, dI)) (ci := 0) (v := .ref (ad 1 0)) (C := R_SR) (T := F_SR) (N := 14) hx hb hts (in_SR _) hown hK hP 0 rfl rfl 0 (by decide) (hts _ (List.mem_cons_of_mem _ mw_232)) (fun _ h9 => h9) rfl d_SR_newOnes_30 ?_
        refine va_get (D := (dC, dI)) (ci := 1) (v := .ref ((ad 1) 2)) (C := R_LA) (T := F_LA) (N := 8) hx hb hts (in_LA _) hown hK hP 1 rfl rfl 4 (by decide) (hts _ (List.mem_cons_of_mem _ mw_208)) (fun _ h9 => h9) rfl d_SR_newOnes_33 ?_
        refine lv_iload_n hx hb d_SR_newOnes_36 rfl (lv_at hl 3 rfl) ?_
        refine va_lald (D := (dC, dI)) hx hb hK hP 3 1 rfl rfl ck d_SR_newOnes_37 ?_
        obtain ⟨r, hc, hf⟩ := g_bind hf
        try dsimp only at hf
        refine cx2_callV (As := [.int x1, .long (LA_begins la v3.toNatClampNeg), .long (LA_ends la v3.toNatClampNeg)]) (rest := []) (wSR tC ad sr ++ wLA tC (ad 1) la ++ wSS tC (ad 4) ss) (wSR tC ad sr ++ wLA tC (ad 1) la) ⟨hx, hb, hml, hown, hts⟩ (c_SS_find l dC dI tC (ad 4) k x1 (LA_begins la v3.toNatClampNeg) (LA_ends la v3.toNatClampNeg) ss r hc) (k_SR_284 hts ⟨Nat.le_of_ble_eq_true rfl, Nat.le_of_ble_eq_true rfl⟩) hl.1 hP hD hS hA hK hN [4, 5, 6, 7, 8, 9, 10, 11, 12, 13, 14, 15] [0, 1, 2, 3] 16 4 4 rfl rfl rfl rfl rfl rfl rfl rfl rfl rfl (by decide) rfl rfl (Nat.le_of_ble_eq_true rfl) d_SR_newOnes_38 ⟨Nat.zero_le _, Nat.zero_le _⟩ (fun H locs hP hD hS => ?_)
        refine W.eq (g2 := F0 m 41 ls [.int r]) rfl ?_
        refine lv_iconst (v := (-1)) hx hb d_SR_newOnes_41 (by decide) ?_
        refine lv_icmp_ne (tgt := 48) hx hb d_SR_newOnes_42 (by decide) (fun cb_1 => ?_) (fun cb_1 => ?_)
        · have hf := g_f hf cb_1
          obtain ⟨v3_1, h_v3_1⟩ : ∃ z : Int32, z = v3 + 1 := ⟨_, rfl⟩
          have hf := g_let hf h_v3_1
          refine lv_iinc (v := v3_1) (lv' := [(3, .int v3_1), (0, .ref (ad 0 0)), (1, .int x1), (2, .int v2)]) hx hb d_SR_newOnes_48 hl (k := 3) rfl (by rw [h_v3_1]; rfl) (by decide) rfl (fun ls hl => ?_)
          refine lv_goto (tgt := 4) hx hb d_SR_newOnes_51 (by decide) ?_
          exact ih v2 v3_1 v2_1 hf H locs ls hP hD hS (lv_sub hl [1, 2, 3, 0] rfl) kk
        · have hf := g_t hf cb_1
          obtain ⟨v2_2, h_v2_2⟩ : ∃ z : Int32, z = v2 + 1 := ⟨_, rfl⟩
          have hf := g_let hf h_v2_2
          refine lv_iinc (v := v2_2) (lv' := [(2, .int v2_2), (0, .ref (ad 0 0)), (1, .int x1), (3, .int v3)]) hx hb d_SR_newOnes_45 hl (k := 2) rfl (by rw [h_v2_2]; rfl) (by decide) rfl (fun ls hl => ?_)
          obtain ⟨v3_2, h_v3_2⟩ : ∃ z : Int32, z = v3 + 1 := ⟨_, rfl⟩
          have hf := g_let hf h_v3_2
          refine lv_iinc (v := v3_2) (lv' := [(3, .int v3_2), (2, .int v2_2), (0, .ref (ad 0 0)), (1, .int x1)]) hx hb d_SR_newOnes_48 hl (k := 3) rfl (by rw [h_v3_2]; rfl) (by decide) rfl (fun ls hl => ?_)
          refine lv_goto (tgt := 4) hx hb d_SR_newOnes_51 (by decide) ?_
          exact ih v2_2 v3_2 v2_1 hf H locs ls hP hD hS (lv_sub hl [2, 3, 1, 0] rfl) kk
  obtain ⟨v2_1, hL_4, hf⟩ := g_bind hf
  try dsimp only at hf
  refine L_4 k 0 0 v2_1 hL_4 H locs ls hP hD hS (lv_sub hl [2, 3, 1, 0] rfl) (fun H locs ls hP hD hS hl => ?_)
  refine lv_iload_n hx hb d_SR_newOnes_54 rfl (lv_at hl 0 rfl) ?_
  have hq0 := (g_some hf)
  subst hq0
  exact cx_iret hx hb hr hlocks hP hS d_SR_newOnes_55
