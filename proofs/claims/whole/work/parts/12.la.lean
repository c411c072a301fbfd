def f_LA_add (x1 : Int64) (x3 : Int64) (la : LAt) : Option LAt :=
  if 16 ≤ (LA_found la) then (
    some la
  ) else
  if (LA_found la) < 0 ∨ 16 ≤ (LA_found la).toNatClampNeg then none else
  some (sLA_found (sLA_ends (sLA_begins la (vp_updL (LA_begins la) (LA_found la).toNatClampNeg x1)) (vp_updL (LA_ends la) (LA_found la).toNatClampNeg x3)) ((LA_found la) + 1))
set_option maxHeartbeats 4000000 in
set_option maxRecDepth 100000 in
theorem c_LA_add (l : Launch) (dC : Nat → ClassId) (dI : Nat → Nat → Nat) (tC : Nat → ClassId) (a : Nat → Nat) (x1 : Int64) (x3 : Int64) (la : LAt) (laR : LAt) (hf : f_LA_add x1 x3 la = some laR) : cx_M l y_LA_add w_LA_add { frames := 0, cells := 0, slots := 0, locals := 0 } (dC, dI) classes (tyS tC) [.ref (a 0), .long x1, .long x3] (wLA tC a la) (wLA tC a laR) (none) := by
  refine cx_of (cc := b_LA_add) (maxL := 5) (ret := none) (plainFor_of_name (by decide)) rfl (Nat.le_of_ble_eq_true rfl) ?_
  intro p e s m below meth c hx hb hr hml hown hts hlocks A hA H locs ls hK hN hP hD hS hl
  have hown : s.vm.findClass R_LA = some m.cls := hown
  have hl : lv_has ls 5 [(0, .ref (a 0)), (1, .long x1), (3, .long x3)] := hl
  unfold f_LA_add at hf
  refine lv_aload_n hx hb d_LA_add_0 rfl (lv_at hl 0 rfl) ?_
  refine va_get (D := (dC, dI)) (ci := 1) (v := .int (LA_found la)) (C := R_LA) (T := F_LA) (N := 8) hx hb hts (in_LA _) hown hK hP 0 rfl rfl 7 (by decide) (hts _ (List.mem_cons_of_mem _ mw_213)) (fun _ h9 => h9) rfl d_LA_add_1 ?_
  refine lv_bipush (v := 16) hx hb d_LA_add_4 (by decide) ?_
  refine lv_icmp_ge (tgt := 39) hx hb d_LA_add_6 (by decide) (fun cb => ?_) (fun cb => ?_)
  · have hf := g_t hf cb
    have hq0 := (g_some hf)
    subst hq0
    exact cx_vret hx hb hr hlocks hP hS d_LA_add_39
  · have hf := g_f hf cb
    refine lv_aload_n hx hb d_LA_add_9 rfl (lv_at hl 0 rfl) ?_
    refine va_get (D := (dC, dI)) (ci := 1) (v := .ref (a 1)) (C := R_LA) (T := F_LA) (N := 8) hx hb hts (in_LA _) hown hK hP 0 rfl rfl 3 (by decide) (hts _ (List.mem_cons_of_mem _ mw_205)) (fun _ h9 => h9) rfl d_LA_add_10 ?_
    refine lv_aload_n hx hb d_LA_add_13 rfl (lv_at hl 0 rfl) ?_
    refine va_get (D := (dC, dI)) (ci := 1) (v := .int (LA_found la)) (C := R_LA) (T := F_LA) (N := 8) hx hb hts (in_LA _) hown hK hP 0 rfl rfl 7 (by decide) (hts _ (List.mem_cons_of_mem _ mw_213)) (fun _ h9 => h9) rfl d_LA_add_14 ?_
    refine lv_lload_n hx hb d_LA_add_17 rfl (lv_at hl 1 rfl) ?_
    obtain ⟨ck, hf⟩ := g_ck hf
    refine va_last (D := (dC, dI)) hx hb hK hP hD hS 1 1 rfl rfl ck d_LA_add_18 (fun H locs hP hD hS => ?_)
    have hP : va_P (dC, dI) classes (wLA tC a (sLA_begins la (vp_updL (LA_begins la) (LA_found la).toNatClampNeg x1))) H := hP
    have hD : va_D A (wLA tC a (sLA_begins la (vp_updL (LA_begins la) (LA_found la).toNatClampNeg x1))) := hD
    refine lv_aload_n hx hb d_LA_add_19 rfl (lv_at hl 0 rfl) ?_
    refine va_get (D := (dC, dI)) (ci := 1) (v := .ref (a 2)) (C := R_LA) (T := F_LA) (N := 8) hx hb hts (in_LA _) hown hK hP 0 rfl rfl 4 (by decide) (hts _ (List.mem_cons_of_mem _ mw_207)) (fun _ h9 => h9) rfl d_LA_add_20 ?_
    refine lv_aload_n hx hb d_LA_add_23 rfl (lv_at hl 0 rfl) ?_
    refine va_get (D := (dC, dI)) (ci := 1) (v := .int (LA_found la)) (C := R_LA) (T := F_LA) (N := 8) hx hb hts (in_LA _) hown hK hP 0 rfl rfl 7 (by decide) (hts _ (List.mem_cons_of_mem _ mw_213)) (fun _ h9 => h9) rfl d_LA_add_24 ?_
    refine lv_lload_n hx hb d_LA_add_27 rfl (lv_at hl 2 rfl) ?_
    refine va_last (D := (dC, dI)) hx hb hK hP hD hS 2 1 rfl rfl ck d_LA_add_28 (fun H locs hP hD hS => ?_)
    have hP : va_P (dC, dI) classes (wLA tC a (sLA_ends (sLA_begins la (vp_updL (LA_begins la) (LA_found la).toNatClampNeg x1)) (vp_updL (LA_ends la) (LA_found la).toNatClampNeg x3))) H := hP
    have hD : va_D A (wLA tC a (sLA_ends (sLA_begins la (vp_updL (LA_begins la) (LA_found la).toNatClampNeg x1)) (vp_updL (LA_ends la) (LA_found la).toNatClampNeg x3))) := hD
    refine lv_aload_n hx hb d_LA_add_29 rfl (lv_at hl 0 rfl) ?_
    refine lv_dup hx hb d_LA_add_30 rfl ?_
    refine va_get (D := (dC, dI)) (ci := 1) (v := .int (LA_found la)) (C := R_LA) (T := F_LA) (N := 8) hx hb hts (in_LA _) hown hK hP 0 rfl rfl 7 (by decide) (hts _ (List.mem_cons_of_mem _ mw_213)) (fun _ h9 => h9) rfl d_LA_add_31 ?_
    refine lv_iconst (v := 1) hx hb d_LA_add_34 (by decide) ?_
    refine lv_iadd hx hb d_LA_add_35 ?_
    refine va_put (D := (dC, dI)) (ci := 1) (v := .int ((LA_found la) + 1)) (ty := .int) (C := R_LA) (T := F_LA) (N := 8) hx hb hts (in_LA _) t_LA t_LA_ok n_LA hown hK hP hD hS 0 rfl rfl 7 (by decide) (hts _ (List.mem_cons_of_mem _ mw_213)) (fun _ h9 => h9) rfl (by decide +kernel) rfl rfl (Nat.le_of_ble_eq_true rfl) d_LA_add_36 (fun H locs hP hD hS => ?_)
    have hP : va_P (dC, dI) classes (wLA tC a (sLA_found (sLA_ends (sLA_begins la (vp_updL (LA_begins la) (LA_found la).toNatClampNeg x1)) (vp_updL (LA_ends la) (LA_found la).toNatClampNeg x3)) ((LA_found la) + 1))) H := hP
    have hD : va_D A (wLA tC a (sLA_found (sLA_ends (sLA_begins la (vp_updL (LA_begins la) (LA_found la).toNatClampNeg x1)) (vp_updL (LA_ends la) (LA_found la).toNatClampNeg x3)) ((LA_found la) + 1))) := hD
    have hq0 := (g_some hf)
    subst hq0
    exact cx_vret hx hb hr hlocks hP hS d_LA_add_39
def f_LA_slide_L36 (r : Int64) : Nat → Int64 → LAt → Option (LAt)
  | 0, _, _ => none
  | n + 1, v5_1, la_1 =>
    if r < v5_1 then (
      some la_1
    ) else
    (f_LA_add ((LA_shift la_1) + ((LA_step la_1) * v5_1)) (((LA_shift la_1) + ((LA_step la_1) * v5_1)) + (LA_size la_1)) la_1).bind fun la_3 =>
    gl_let ((v5_1 + 1)) fun v5_2 =>
    f_LA_slide_L36 r n v5_2 la_3
def f_LA_slide (k : Nat) (x1 : Int64) (la : LAt) : Option LAt :=
  (f_SR_by (x1 - (LA_shift la)) (LA_step la)).bind fun r =>
  (f_SR_by ((x1 - (LA_shift la)) - (LA_size la)) (LA_step la)).bind fun r_1 =>
  gl_let ((r_1 + 1)) fun v5 =>
  (f_LA_slide_L36 r k v5 la).bind fun la_2 =>
  some la_2
set_option maxHeartbeats 4000000 in
set_option maxRecDepth 100000 in
theorem c_LA_slide (l : Launch) (dC : Nat → ClassId) (dI : Nat → Nat → Nat) (tC : Nat → ClassId) (a : Nat → Nat) (k : Nat) (x1 : Int64) (la : LAt) (laR : LAt) (hf : f_LA_slide k x1 la = some laR) : cx_M l y_LA_slide w_LA_slide { frames := 2, cells := 0, slots := 0, locals := 48 } (dC, dI) classes (tyS tC) [.ref (a 0), .long x1] (wLA tC a la) (wLA tC a laR) (none) := by
  refine cx_of (cc := b_LA_slide) (maxL := 7) (ret := none) (plainFor_of_name (by decide)) rfl (Nat.le_of_ble_eq_true rfl) ?_
  intro p e s m below meth c hx hb hr hml hown hts hlocks A hA H locs ls hK hN hP hD hS hl
  have hown : s.vm.findClass R_LA = some m.cls := hown
  have hl : lv_has ls 7 [(0, .ref (a 0)), (1, .long x1)] := hl
  unfold f_LA_slide at hf
  refine lv_lload_n hx hb d_LA_slide_0 rfl (lv_at hl 1 rfl) ?_
  refine lv_aload_n hx hb d_LA_slide_1 rfl (lv_at hl 0 rfl) ?_
  refine va_get (D := (dC, dI)) (ci := 1) (v := .long (LA_shift la)) (C := R_LA) (T := F_LA) (N := 8) hx hb hts (in_LA _) hown hK hP 0 rfl rfl 5 (by decide) (hts _ (List.mem_cons_of_mem _ mw_209)) (fun _ h9 => h9) rfl d_LA_slide_2 ?_
  refine lv_lsub hx hb d_LA_slide_5 ?_
  refine lv_aload_n hx hb d_LA_slide_6 rfl (lv_at hl 0 rfl) ?_
  refine va_get (D := (dC, dI)) (ci := 1) (v := .long (LA_step la)) (C := R_LA) (T := F_LA) (N := 8) hx hb hts (in_LA _) hown hK hP 0 rfl rfl 2 (by decide) (hts _ (List.mem_cons_of_mem _ mw_203)) (fun _ h9 => h9) rfl d_LA_slide_7 ?_
  obtain ⟨r, hc, hf⟩ := g_bind hf
  try dsimp only at hf
  refine cx_callSN (As := [.long (x1 - (LA_shift la)), .long (LA_step la)]) (rest := []) ⟨hx, hb, hml, hown, hts⟩ (c_SR_by l dC dI tC  (x1 - (LA_shift la)) (LA_step la) r hc) (k_LA_52 hts hN ⟨Nat.le_of_ble_eq_true rfl, Nat.le_of_ble_eq_true rfl⟩) hl.1 hP hD hS hA hK hN [] rfl rfl rfl rfl rfl (Nat.le_of_ble_eq_true rfl) d_LA_slide_10 ⟨Nat.zero_le _, Nat.zero_le _⟩ (fun H locs hP hD hS => ?_)
  have hP : va_P (dC, dI) classes (wLA tC a la) H := hP
  have hD : va_D A (wLA tC a la) := hD
  refine W.eq (g2 := F0 m 13 ls [.long r]) rfl ?_
  refine lv_lstore_n (lv' := [(3, .long r), (0, .ref (a 0)), (1, .long x1)]) hx hb d_LA_slide_13 rfl hl (by decide) rfl (fun ls hl => ?_)
  refine lv_lload_n hx hb d_LA_slide_14 rfl (lv_at hl 2 rfl) ?_
  refine lv_aload_n hx hb d_LA_slide_15 rfl (lv_at hl 1 rfl) ?_
  refine va_get (D := (dC, dI)) (ci := 1) (v := .long (LA_shift la)) (C := R_LA) (T := F_LA) (N := 8) hx hb hts (in_LA _) hown hK hP 0 rfl rfl 5 (by decide) (hts _ (List.mem_cons_of_mem _ mw_209)) (fun _ h9 => h9) rfl d_LA_slide_16 ?_
  refine lv_lsub hx hb d_LA_slide_19 ?_
  refine lv_aload_n hx hb d_LA_slide_20 rfl (lv_at hl 1 rfl) ?_
  refine va_get (D := (dC, dI)) (ci := 1) (v := .long (LA_size la)) (C := R_LA) (T := F_LA) (N := 8) hx hb hts (in_LA _) hown hK hP 0 rfl rfl 1 (by decide) (hts _ (List.mem_cons_of_mem _ mw_201)) (fun _ h9 => h9) rfl d_LA_slide_21 ?_
  refine lv_lsub hx hb d_LA_slide_24 ?_
  refine lv_aload_n hx hb d_LA_slide_25 rfl (lv_at hl 1 rfl) ?_
  refine va_get (D := (dC, dI)) (ci := 1) (v := .long (LA_step la)) (C := R_LA) (T := F_LA) (N := 8) hx hb hts (in_LA _) hown hK hP 0 rfl rfl 2 (by decide) (hts _ (List.mem_cons_of_mem _ mw_203)) (fun _ h9 => h9) rfl d_LA_slide_26 ?_
  obtain ⟨r_1, hc_1, hf⟩ := g_bind hf
  try dsimp only at hf
  refine cx_callSN (As := [.long ((x1 - (LA_shift la)) - (LA_size la)), .long (LA_step la)]) (rest := []) ⟨hx, hb, hml, hown, hts⟩ (c_SR_by l dC dI tC  ((x1 - (LA_shift la)) - (LA_size la)) (LA_step la) r_1 hc_1) (k_LA_52 hts hN ⟨Nat.le_of_ble_eq_true rfl, Nat.le_of_ble_eq_true rfl⟩) hl.1 hP hD hS hA hK hN [] rfl rfl rfl rfl rfl (Nat.le_of_ble_eq_true rfl) d_LA_slide_29 ⟨Nat.zero_le _, Nat.zero_le _⟩ (fun H locs hP hD hS => ?_)
  have hP : va_P (dC, dI) classes (wLA tC a la) H := hP
  have hD : va_D A (wLA tC a la) := hD
  refine W.eq (g2 := F0 m 32 ls [.long r_1]) rfl ?_
  refine lv_lconst (v := 1) hx hb d_LA_slide_32 (by decide) ?_
  refine lv_ladd hx hb d_LA_slide_33 ?_
  refine lv_topl (fun v5 h_v5 => ?_)
  have hf := g_let hf h_v5
  refine lv_lstore (lv' := [(5, .long v5), (3, .long r), (0, .ref (a 0)), (1, .long x1)]) hx hb d_LA_slide_34 hl (by decide) rfl (fun ls hl => ?_)
  have L_36 : ∀ (n : Nat) (v5_1 : Int64) (la_1 : LAt) (la_2 : LAt), f_LA_slide_L36 r n v5_1 la_1 = some la_2 → ∀ (H : Heap) (locs : List Loc) (ls : Array Slot), va_P (dC, dI) classes (wLA tC a la_1) H → va_D A (wLA tC a la_1) → va_S A s.heap H locs → lv_has ls 7 [(0, .ref (a 0)), (3, .long r), (5, .long v5_1)] → (∀ (H : Heap) (locs : List Loc) (ls : Array Slot), va_P (dC, dI) classes (wLA tC a la_2) H → va_D A (wLA tC a la_2) → va_S A s.heap H locs → lv_has ls 7 [] → W p l e { frames := 2, cells := 0, slots := 0, locals := 48 } s m [.ref (a 0), .long x1].toArray below meth c H locs 0 0 (cx_Z (dC, dI) classes below [.ref (a 0), .long x1] s (wLA tC a laR) (none) A) (F0 m 85 ls [])) → W p l e { frames := 2, cells := 0, slots := 0, locals := 48 } s m [.ref (a 0), .long x1].toArray below meth c H locs 0 0 (cx_Z (dC, dI) classes below [.ref (a 0), .long x1] s (wLA tC a laR) (none) A) (F0 m 36 ls []) := by
    intro n
    induction n with
    | zero =>
      intro v5_1 la_1 la_2 hf
      rw [f_LA_slide_L36] at hf
      cases hf
    | succ n ih =>
      intro v5_1 la_1 la_2 hf H locs ls hP hD hS hl kk
      rw [f_LA_slide_L36] at hf
      refine lv_lload hx hb d_LA_slide_36 (lv_at hl 2 rfl) ?_
      refine lv_lload_n hx hb d_LA_slide_38 rfl (lv_at hl 1 rfl) ?_
      refine cq_gt (tgt := 85) hx hb d_LA_slide_39 d_LA_slide_40 (by decide) (fun cb => ?_) (fun cb => ?_)
      · have hf := g_t hf cb
        have hq0 := (g_some hf)
        subst hq0
        exact kk _ _ _ hP hD hS (lv_sub hl [] rfl)
      · have hf := g_f hf cb
        refine lv_aload_n hx hb d_LA_slide_43 rfl (lv_at hl 0 rfl) ?_
        refine lv_aload_n hx hb d_LA_slide_44 rfl (lv_at hl 0 rfl) ?_
        refine va_get (D := (dC, dI)) (ci := 1) (v := .long (LA_shift la_1)) (C := R_LA) (T := F_LA) (N := 8) hx hb hts (in_LA _) hown hK hP 0 rfl rfl 5 (by decide) (hts _ (List.mem_cons_of_mem _ mw_209)) (fun _ h9 => h9) rfl d_LA_slide_45 ?_
        refine lv_aload_n hx hb d_LA_slide_48 rfl (lv_at hl 0 rfl) ?_
        refine va_get (D := (dC, dI)) (ci := 1) (v := .long (LA_step la_1)) (C := R_LA) (T := F_LA) (N := 8) hx hb hts (in_LA _) hown hK hP 0 rfl rfl 2 (by decide) (hts _ (List.mem_cons_of_mem _ mw_203)) (fun _ h9 => h9) rfl d_LA_slide_49 ?_
        refine lv_lload hx hb d_LA_slide_52 (lv_at hl 2 rfl) ?_
        refine lv_lmul hx hb d_LA_slide_54 ?_
        refine lv_ladd hx hb d_LA_slide_55 ?_
        refine lv_aload_n hx hb d_LA_slide_56 rfl (lv_at hl 0 rfl) ?_
        refine va_get (D := (dC, dI)) (ci := 1) (v := .long (LA_shift la_1)) (C := R_LA) (T := F_LA) (N := 8) hx hb hts (in_LA _) hown hK hP 0 rfl rfl 5 (by decide) (hts _ (List.mem_cons_of_mem _ mw_209)) (fun _ h9 => h9) rfl d_LA_slide_57 ?_
        refine lv_aload_n hx hb d_LA_slide_60 rfl (lv_at hl 0 rfl) ?_
        refine va_get (D := (dC, dI)) (ci := 1) (v := .long (LA_step la_1)) (C := R_LA) (T := F_LA) (N := 8) hx hb hts (in_LA _) hown hK hP 0 rfl rfl 2 (by decide) (hts _ (List.mem_cons_of_mem _ mw_203)) (fun _ h9 => h9) rfl d_LA_slide_61 ?_
        refine lv_lload hx hb d_LA_slide_64 (lv_at hl 2 rfl) ?_
        refine lv_lmul hx hb d_LA_slide_66 ?_
        refine lv_ladd hx hb d_LA_slide_67 ?_
        refine lv_aload_n hx hb d_LA_slide_68 rfl (lv_at hl 0 rfl) ?_
        refine va_get (D := (dC, dI)) (ci := 1) (v := .long (LA_size la_1)) (C := R_LA) (T := F_LA) (N := 8) hx hb hts (in_LA _) hown hK hP 0 rfl rfl 1 (by decide) (hts _ (List.mem_cons_of_mem _ mw_201)) (fun _ h9 => h9) rfl d_LA_slide_69 ?_
        refine lv_ladd hx hb d_LA_slide_72 ?_
        obtain ⟨la_3, hc_2, hf⟩ := g_bind hf
        try dsimp only at hf
        refine cx_callV (As := [.long ((LA_shift la_1) + ((LA_step la_1) * v5_1)), .long (((LA_shift la_1) + ((LA_step la_1) * v5_1)) + (LA_size la_1))]) (rest := []) ⟨hx, hb, hml, hown, hts⟩ (c_LA_add l dC dI tC a ((LA_shift la_1) + ((LA_step la_1) * v5_1)) (((LA_shift la_1) + ((LA_step la_1) * v5_1)) + (LA_size la_1)) la_1 la_3 hc_2) (k_LA_56 hts ⟨Nat.le_of_ble_eq_true rfl, Nat.le_of_ble_eq_true rfl⟩) hl.1 hP hD hS hA hK hN [0, 1, 2] 0 1 rfl rfl rfl rfl rfl rfl rfl rfl (Nat.le_of_ble_eq_true rfl) d_LA_slide_73 ⟨Nat.zero_le _, Nat.zero_le _⟩ (fun H locs hP hD hS => ?_)
        have hP : va_P (dC, dI) classes (wLA tC a la_3) H := hP
        have hD : va_D A (wLA tC a la_3) := hD
        refine W.eq (g2 := F0 m 76 ls []) rfl ?_
        refine lv_lload hx hb d_LA_slide_76 (lv_at hl 2 rfl) ?_
        refine lv_lconst (v := 1) hx hb d_LA_slide_78 (by decide) ?_
        refine lv_ladd hx hb d_LA_slide_79 ?_
        refine lv_topl (fun v5_2 h_v5_2 => ?_)
        have hf := g_let hf h_v5_2
        refine lv_lstore (lv' := [(5, .long v5_2), (0, .ref (a 0)), (3, .long r)]) hx hb d_LA_slide_80 hl (by decide) rfl (fun ls hl => ?_)
        refine lv_goto (tgt := 36) hx hb d_LA_slide_82 (by decide) ?_
        exact ih v5_2 la_3 la_2 hf H locs ls hP hD hS (lv_sub hl [1, 2, 0] rfl) kk
  obtain ⟨la_2, hL_36, hf⟩ := g_bind hf
  try dsimp only at hf
  refine L_36 k v5 la la_2 hL_36 H locs ls hP hD hS (lv_sub hl [2, 1, 0] rfl) (fun H locs ls hP hD hS hl => ?_)
  have hq0 := (g_some hf)
  subst hq0
  exact cx_vret hx hb hr hlocks hP hS d_LA_slide_85
def f_LA_inMonths (k : Nat) (x1 : Int64) (la : LAt) : Option LAt :=
  (f_CA_monthOf k x1).bind fun r =>
  (f_SR_by (r - (LA_shift la)) (LA_size la)).bind fun r_1 =>
  gl_let (((LA_shift la) + ((LA_size la) * r_1))) fun v3 =>
  (f_CA_firstDay v3).bind fun r_2 =>
  (f_CA_firstDay (v3 + (LA_size la))).bind fun r_3 =>
  (f_LA_add r_2 r_3 la).bind fun la_1 =>
  some la_1
set_option maxHeartbeats 4000000 in
set_option maxRecDepth 100000 in
theorem c_LA_inMonths (l : Launch) (dC : Nat → ClassId) (dI : Nat → Nat → Nat) (tC : Nat → ClassId) (a : Nat → Nat) (k : Nat) (x1 : Int64) (la : LAt) (laR : LAt) (hf : f_LA_inMonths k x1 la = some laR) : cx_M l y_LA_inMonths w_LA_inMonths { frames := 3, cells := 0, slots := 0, locals := 78 } (dC, dI) classes (tyS tC) [.ref (a 0), .long x1] (wLA tC a la) (wLA tC a laR) (none) := by
  refine cx_of (cc := b_LA_inMonths) (maxL := 5) (ret := none) (plainFor_of_name (by decide)) rfl (Nat.le_of_ble_eq_true rfl) ?_
  intro p e s m below meth c hx hb hr hml hown hts hlocks A hA H locs ls hK hN hP hD hS hl
  have hown : s.vm.findClass R_LA = some m.cls := hown
  have hl : lv_has ls 5 [(0, .ref (a 0)), (1, .long x1)] := hl
  unfold f_LA_inMonths at hf
  refine lv_aload_n hx hb d_LA_inMonths_0 rfl (lv_at hl 0 rfl) ?_
  refine va_get (D := (dC, dI)) (ci := 1) (v := .long (LA_shift la)) (C := R_LA) (T := F_LA) (N := 8) hx hb hts (in_LA _) hown hK hP 0 rfl rfl 5 (by decide) (hts _ (List.mem_cons_of_mem _ mw_209)) (fun _ h9 => h9) rfl d_LA_inMonths_1 ?_
  refine lv_aload_n hx hb d_LA_inMonths_4 rfl (lv_at hl 0 rfl) ?_
  refine va_get (D := (dC, dI)) (ci := 1) (v := .long (LA_size la)) (C := R_LA) (T := F_LA) (N := 8) hx hb hts (in_LA _) hown hK hP 0 rfl rfl 1 (by decide) (hts _ (List.mem_cons_of_mem _ mw_201)) (fun _ h9 => h9) rfl d_LA_inMonths_5 ?_
  refine lv_lload_n hx hb d_LA_inMonths_8 rfl (lv_at hl 1 rfl) ?_
  obtain ⟨r, hc, hf⟩ := g_bind hf
  try dsimp only at hf
  refine cx_callS (As := [.long x1]) (rest := [.long (LA_size la), .long (LA_shift la)]) ⟨hx, hb, hml, hown, hts⟩ (c_CA_monthOf l dC dI tC  k x1 r hc) (k_LA_59 hts ⟨Nat.le_of_ble_eq_true rfl, Nat.le_of_ble_eq_true rfl⟩) hl.1 hP hD hS hA hK hN [] rfl rfl rfl rfl rfl (Nat.le_of_ble_eq_true rfl) d_LA_inMonths_9 ⟨Nat.zero_le _, Nat.zero_le _⟩ (fun H locs hP hD hS => ?_)
  have hP : va_P (dC, dI) classes (wLA tC a la) H := hP
  have hD : va_D A (wLA tC a la) := hD
  refine W.eq (g2 := F0 m 12 ls [.long r, .long (LA_size la), .long (LA_shift la)]) rfl ?_
  refine lv_aload_n hx hb d_LA_inMonths_12 rfl (lv_at hl 0 rfl) ?_
  refine va_get (D := (dC, dI)) (ci := 1) (v := .long (LA_shift la)) (C := R_LA) (T := F_LA) (N := 8) hx hb hts (in_LA _) hown hK hP 0 rfl rfl 5 (by decide) (hts _ (List.mem_cons_of_mem _ mw_209)) (fun _ h9 => h9) rfl d_LA_inMonths_13 ?_
  refine lv_lsub hx hb d_LA_inMonths_16 ?_
  refine lv_aload_n hx hb d_LA_inMonths_17 rfl (lv_at hl 0 rfl) ?_
  refine va_get (D := (dC, dI)) (ci := 1) (v := .long (LA_size la)) (C := R_LA) (T := F_LA) (N := 8) hx hb hts (in_LA _) hown hK hP 0 rfl rfl 1 (by decide) (hts _ (List.mem_cons_of_mem _ mw_201)) (fun _ h9 => h9) rfl d_LA_inMonths_18 ?_
  obtain ⟨r_1, hc_1, hf⟩ := g_bind hf
  try dsimp only at hf
  refine cx_callSN (As := [.long (r - (LA_shift la)), .long (LA_size la)]) (rest := [.long (LA_size la), .long (LA_shift la)]) ⟨hx, hb, hml, hown, hts⟩ (c_SR_by l dC dI tC  (r - (LA_shift la)) (LA_size la) r_1 hc_1) (k_LA_52 hts hN ⟨Nat.le_of_ble_eq_true rfl, Nat.le_of_ble_eq_true rfl⟩) hl.1 hP hD hS hA hK hN [] rfl rfl rfl rfl rfl (Nat.le_of_ble_eq_true rfl) d_LA_inMonths_21 ⟨Nat.zero_le _, Nat.zero_le _⟩ (fun H locs hP hD hS => ?_)
  have hP : va_P (dC, dI) classes (wLA tC a la) H := hP
  have hD : va_D A (wLA tC a la) := hD
  refine W.eq (g2 := F0 m 24 ls [.long r_1, .long (LA_size la), .long (LA_shift la)]) rfl ?_
  refine lv_lmul hx hb d_LA_inMonths_24 ?_
  refine lv_ladd hx hb d_LA_inMonths_25 ?_
  refine lv_topl (fun v3 h_v3 => ?_)
  have hf := g_let hf h_v3
  refine lv_lstore_n (lv' := [(3, .long v3), (0, .ref (a 0)), (1, .long x1)]) hx hb d_LA_inMonths_26 rfl hl (by decide) rfl (fun ls hl => ?_)
  refine lv_aload_n hx hb d_LA_inMonths_27 rfl (lv_at hl 1 rfl) ?_
  refine lv_lload_n hx hb d_LA_inMonths_28 rfl (lv_at hl 0 rfl) ?_
  obtain ⟨r_2, hc_2, hf⟩ := g_bind hf
  try dsimp only at hf
  refine cx_callS (As := [.long v3]) (rest := [.ref (a 0)]) ⟨hx, hb, hml, hown, hts⟩ (c_CA_firstDay l dC dI tC  v3 r_2 hc_2) (k_LA_65 hts ⟨Nat.le_of_ble_eq_true rfl, Nat.le_of_ble_eq_true rfl⟩) hl.1 hP hD hS hA hK hN [] rfl rfl rfl rfl rfl (Nat.le_of_ble_eq_true rfl) d_LA_inMonths_29 ⟨Nat.zero_le _, Nat.zero_le _⟩ (fun H locs hP hD hS => ?_)
  have hP : va_P (dC, dI) classes (wLA tC a la) H := hP
  have hD : va_D A (wLA tC a la) := hD
  refine W.eq (g2 := F0 m 32 ls [.long r_2, .ref (a 0)]) rfl ?_
  refine lv_lload_n hx hb d_LA_inMonths_32 rfl (lv_at hl 0 rfl) ?_
  refine lv_aload_n hx hb d_LA_inMonths_33 rfl (lv_at hl 1 rfl) ?_
  refine va_get (D := (dC, dI)) (ci := 1) (v := .long (LA_size la)) (C := R_LA) (T := F_LA) (N := 8) hx hb hts (in_LA _) hown hK hP 0 rfl rfl 1 (by decide) (hts _ (List.mem_cons_of_mem _ mw_201)) (fun _ h9 => h9) rfl d_LA_inMonths_34 ?_
  refine lv_ladd hx hb d_LA_inMonths_37 ?_
  obtain ⟨r_3, hc_3, hf⟩ := g_bind hf
  try dsimp only at hf
  refine cx_callS (As := [.long (v3 + (LA_size la))]) (rest := [.long r_2, .ref (a 0)]) ⟨hx, hb, hml, hown, hts⟩ (c_CA_firstDay l dC dI tC  (v3 + (LA_size la)) r_3 hc_3) (k_LA_65 hts ⟨Nat.le_of_ble_eq_true rfl, Nat.le_of_ble_eq_true rfl⟩) hl.1 hP hD hS hA hK hN [] rfl rfl rfl rfl rfl (Nat.le_of_ble_eq_true rfl) d_LA_inMonths_38 ⟨Nat.zero_le _, Nat.zero_le _⟩ (fun H locs hP hD hS => ?_)
  have hP : va_P (dC, dI) classes (wLA tC a la) H := hP
  have hD : va_D A (wLA tC a la) := hD
  refine W.eq (g2 := F0 m 41 ls [.long r_3, .long r_2, .ref (a 0)]) rfl ?_
  obtain ⟨la_1, hc_4, hf⟩ := g_bind hf
  try dsimp only at hf
  refine cx_callV (As := [.long r_2, .long r_3]) (rest := []) ⟨hx, hb, hml, hown, hts⟩ (c_LA_add l dC dI tC a r_2 r_3 la la_1 hc_4) (k_LA_56 hts ⟨Nat.le_of_ble_eq_true rfl, Nat.le_of_ble_eq_true rfl⟩) hl.1 hP hD hS hA hK hN [0, 1, 2] 0 1 rfl rfl rfl rfl rfl rfl rfl rfl (Nat.le_of_ble_eq_true rfl) d_LA_inMonths_41 ⟨Nat.zero_le _, Nat.zero_le _⟩ (fun H locs hP hD hS => ?_)
  have hP : va_P (dC, dI) classes (wLA tC a la_1) H := hP
  have hD : va_D A (wLA tC a la_1) := hD
  refine W.eq (g2 := F0 m 44 ls []) rfl ?_
  have hq0 := (g_some hf)
  subst hq0
  exact cx_vret hx hb hr hlocks hP hS d_LA_inMonths_44
def f_LA_byTurns (x1 : Int64) (la : LAt) : Option LAt :=
  (f_SR_by (x1 - (LA_shift la)) ((LA_size la) + (LA_step la))).bind fun r =>
  gl_let (((LA_shift la) + (((LA_size la) + (LA_step la)) * r))) fun v3 =>
  if (v3 + (LA_size la)) ≤ x1 then (
    (f_LA_add (v3 + (LA_size la)) ((v3 + (LA_size la)) + (LA_step la)) la).bind fun la_1 =>
    some la_1
  ) else
  (f_LA_add v3 (v3 + (LA_size la)) la).bind fun la_2 =>
  some la_2
set_option maxHeartbeats 4000000 in
set_option maxRecDepth 100000 in
theorem c_LA_byTurns (l : Launch) (dC : Nat → ClassId) (dI : Nat → Nat → Nat) (tC : Nat → ClassId) (a : Nat → Nat) (x1 : Int64) (la : LAt) (laR : LAt) (hf : f_LA_byTurns x1 la = some laR) : cx_M l y_LA_byTurns w_LA_byTurns { frames := 2, cells := 0, slots := 0, locals := 48 } (dC, dI) classes (tyS tC) [.ref (a 0), .long x1] (wLA tC a la) (wLA tC a laR) (none) := by
  refine cx_of (cc := b_LA_byTurns) (maxL := 5) (ret := none) (plainFor_of_name (by decide)) rfl (Nat.le_of_ble_eq_true rfl) ?_
  intro p e s m below meth c hx hb hr hml hown hts hlocks A hA H locs ls hK hN hP hD hS hl
  have hown : s.vm.findClass R_LA = some m.cls := hown
  have hl : lv_has ls 5 [(0, .ref (a 0)), (1, .long x1)] := hl
  unfold f_LA_byTurns at hf
  refine lv_aload_n hx hb d_LA_byTurns_0 rfl (lv_at hl 0 rfl) ?_
  refine va_get (D := (dC, dI)) (ci := 1) (v := .long (LA_shift la)) (C := R_LA) (T := F_LA) (N := 8) hx hb hts (in_LA _) hown hK hP 0 rfl rfl 5 (by decide) (hts _ (List.mem_cons_of_mem _ mw_209)) (fun _ h9 => h9) rfl d_LA_byTurns_1 ?_
  refine lv_aload_n hx hb d_LA_byTurns_4 rfl (lv_at hl 0 rfl) ?_
  refine va_get (D := (dC, dI)) (ci := 1) (v := .long (LA_size la)) (C := R_LA) (T := F_LA) (N := 8) hx hb hts (in_LA _) hown hK hP 0 rfl rfl 1 (by decide) (hts _ (List.mem_cons_of_mem _ mw_201)) (fun _ h9 => h9) rfl d_LA_byTurns_5 ?_
  refine lv_aload_n hx hb d_LA_byTurns_8 rfl (lv_at hl 0 rfl) ?_
  refine va_get (D := (dC, dI)) (ci := 1) (v := .long (LA_step la)) (C := R_LA) (T := F_LA) (N := 8) hx hb hts (in_LA _) hown hK hP 0 rfl rfl 2 (by decide) (hts _ (List.mem_cons_of_mem _ mw_203)) (fun _ h9 => h9) rfl d_LA_byTurns_9 ?_
  refine lv_ladd hx hb d_LA_byTurns_12 ?_
  refine lv_lload_n hx hb d_LA_byTurns_13 rfl (lv_at hl 1 rfl) ?_
  refine lv_aload_n hx hb d_LA_byTurns_14 rfl (lv_at hl 0 rfl) ?_
  refine va_get (D := (dC, dI)) (ci := 1) (v := .long (LA_shift la)) (C := R_LA) (T := F_LA) (N := 8) hx hb hts (in_LA _) hown hK hP 0 rfl rfl 5 (by decide) (hts _ (List.mem_cons_of_mem _ mw_209)) (fun _ h9 => h9) rfl d_LA_byTurns_15 ?_
  refine lv_lsub hx hb d_LA_byTurns_18 ?_
  refine lv_aload_n hx hb d_LA_byTurns_19 rfl (lv_at hl 0 rfl) ?_
  refine va_get (D := (dC, dI)) (ci := 1) (v := .long (LA_size la)) (C := R_LA) (T := F_LA) (N := 8) hx hb hts (in_LA _) hown hK hP 0 rfl rfl 1 (by decide) (hts _ (List.mem_cons_of_mem _ mw_201)) (fun _ h9 => h9) rfl d_LA_byTurns_20 ?_
  refine lv_aload_n hx hb d_LA_byTurns_23 rfl (lv_at hl 0 rfl) ?_
  refine va_get (D := (dC, dI)) (ci := 1) (v := .long (LA_step la)) (C := R_LA) (T := F_LA) (N := 8) hx hb hts (in_LA _) hown hK hP 0 rfl rfl 2 (by decide) (hts _ (List.mem_cons_of_mem _ mw_203)) (fun _ h9 => h9) rfl d_LA_byTurns_24 ?_
  refine lv_ladd hx hb d_LA_byTurns_27 ?_
  obtain ⟨r, hc, hf⟩ := g_bind hf
  try dsimp only at hf
  refine cx_callSN (As := [.long (x1 - (LA_shift la)), .long ((LA_size la) + (LA_step la))]) (rest := [.long ((LA_size la) + (LA_step la)), .long (LA_shift la)]) ⟨hx, hb, hml, hown, hts⟩ (c_SR_by l dC dI tC  (x1 - (LA_shift la)) ((LA_size la) + (LA_step la)) r hc) (k_LA_52 hts hN ⟨Nat.le_of_ble_eq_true rfl, Nat.le_of_ble_eq_true rfl⟩) hl.1 hP hD hS hA hK hN [] rfl rfl rfl rfl rfl (Nat.le_of_ble_eq_true rfl) d_LA_byTurns_28 ⟨Nat.zero_le _, Nat.zero_le _⟩ (fun H locs hP hD hS => ?_)
  have hP : va_P (dC, dI) classes (wLA tC a la) H := hP
  have hD : va_D A (wLA tC a la) := hD
  refine W.eq (g2 := F0 m 31 ls [.long r, .long ((LA_size la) + (LA_step la)), .long (LA_shift la)]) rfl ?_
  refine lv_lmul hx hb d_LA_byTurns_31 ?_
  refine lv_ladd hx hb d_LA_byTurns_32 ?_
  refine lv_topl (fun v3 h_v3 => ?_)
  have hf := g_let hf h_v3
  refine lv_lstore_n (lv' := [(3, .long v3), (0, .ref (a 0)), (1, .long x1)]) hx hb d_LA_byTurns_33 rfl hl (by decide) rfl (fun ls hl => ?_)
  refine lv_lload_n hx hb d_LA_byTurns_34 rfl (lv_at hl 2 rfl) ?_
  refine lv_lload_n hx hb d_LA_byTurns_35 rfl (lv_at hl 0 rfl) ?_
  refine lv_aload_n hx hb d_LA_byTurns_36 rfl (lv_at hl 1 rfl) ?_
  refine va_get (D := (dC, dI)) (ci := 1) (v := .long (LA_size la)) (C := R_LA) (T := F_LA) (N := 8) hx hb hts (in_LA _) hown hK hP 0 rfl rfl 1 (by decide) (hts _ (List.mem_cons_of_mem _ mw_201)) (fun _ h9 => h9) rfl d_LA_byTurns_37 ?_
  refine lv_ladd hx hb d_LA_byTurns_40 ?_
  refine cq_ge (tgt := 59) hx hb d_LA_byTurns_41 d_LA_byTurns_42 (by decide) (fun cb => ?_) (fun cb => ?_)
  · have hf := g_t hf cb
    refine lv_aload_n hx hb d_LA_byTurns_59 rfl (lv_at hl 1 rfl) ?_
    refine lv_lload_n hx hb d_LA_byTurns_60 rfl (lv_at hl 0 rfl) ?_
    refine lv_aload_n hx hb d_LA_byTurns_61 rfl (lv_at hl 1 rfl) ?_
    refine va_get (D := (dC, dI)) (ci := 1) (v := .long (LA_size la)) (C := R_LA) (T := F_LA) (N := 8) hx hb hts (in_LA _) hown hK hP 0 rfl rfl 1 (by decide) (hts _ (List.mem_cons_of_mem _ mw_201)) (fun _ h9 => h9) rfl d_LA_byTurns_62 ?_
    refine lv_ladd hx hb d_LA_byTurns_65 ?_
    refine lv_lload_n hx hb d_LA_byTurns_66 rfl (lv_at hl 0 rfl) ?_
    refine lv_aload_n hx hb d_LA_byTurns_67 rfl (lv_at hl 1 rfl) ?_
    refine va_get (D := (dC, dI)) (ci := 1) (v := .long (LA_size la)) (C := R_LA) (T := F_LA) (N := 8) hx hb hts (in_LA _) hown hK hP 0 rfl rfl 1 (by decide) (hts _ (List.mem_cons_of_mem _ mw_201)) (fun _ h9 => h9) rfl d_LA_byTurns_68 ?_
    refine lv_ladd hx hb d_LA_byTurns_71 ?_
    refine lv_aload_n hx hb d_LA_byTurns_72 rfl (lv_at hl 1 rfl) ?_
    refine va_get (D := (dC, dI)) (ci := 1) (v := .long (LA_step la)) (C := R_LA) (T := F_LA) (N := 8) hx hb hts (in_LA _) hown hK hP 0 rfl rfl 2 (by decide) (hts _ (List.mem_cons_of_mem _ mw_203)) (fun _ h9 => h9) rfl d_LA_byTurns_73 ?_
    refine lv_ladd hx hb d_LA_byTurns_76 ?_
    obtain ⟨la_1, hc_1, hf⟩ := g_bind hf
    try dsimp only at hf
    refine cx_callV (As := [.long (v3 + (LA_size la)), .long ((v3 + (LA_size la)) + (LA_step la))]) (rest := []) ⟨hx, hb, hml, hown, hts⟩ (c_LA_add l dC dI tC a (v3 + (LA_size la)) ((v3 + (LA_size la)) + (LA_step la)) la la_1 hc_1) (k_LA_56 hts ⟨Nat.le_of_ble_eq_true rfl, Nat.le_of_ble_eq_true rfl⟩) hl.1 hP hD hS hA hK hN [0, 1, 2] 0 1 rfl rfl rfl rfl rfl rfl rfl rfl (Nat.le_of_ble_eq_true rfl) d_LA_byTurns_77 ⟨Nat.zero_le _, Nat.zero_le _⟩ (fun H locs hP hD hS => ?_)
    have hP : va_P (dC, dI) classes (wLA tC a la_1) H := hP
    have hD : va_D A (wLA tC a la_1) := hD
    refine W.eq (g2 := F0 m 80 ls []) rfl ?_
    have hq0 := (g_some hf)
    subst hq0
    exact cx_vret hx hb hr hlocks hP hS d_LA_byTurns_80
  · have hf := g_f hf cb
    refine lv_aload_n hx hb d_LA_byTurns_45 rfl (lv_at hl 1 rfl) ?_
    refine lv_lload_n hx hb d_LA_byTurns_46 rfl (lv_at hl 0 rfl) ?_
    refine lv_lload_n hx hb d_LA_byTurns_47 rfl (lv_at hl 0 rfl) ?_
    refine lv_aload_n hx hb d_LA_byTurns_48 rfl (lv_at hl 1 rfl) ?_
    refine va_get (D := (dC, dI)) (ci := 1) (v := .long (LA_size la)) (C := R_LA) (T := F_LA) (N := 8) hx hb hts (in_LA _) hown hK hP 0 rfl rfl 1 (by decide) (hts _ (List.mem_cons_of_mem _ mw_201)) (fun _ h9 => h9) rfl d_LA_byTurns_49 ?_
    refine lv_ladd hx hb d_LA_byTurns_52 ?_
    obtain ⟨la_2, hc_2, hf⟩ := g_bind hf
    try dsimp only at hf
    refine cx_callV (As := [.long v3, .long (v3 + (LA_size la))]) (rest := []) ⟨hx, hb, hml, hown, hts⟩ (c_LA_add l dC dI tC a v3 (v3 + (LA_size la)) la la_2 hc_2) (k_LA_56 hts ⟨Nat.le_of_ble_eq_true rfl, Nat.le_of_ble_eq_true rfl⟩) hl.1 hP hD hS hA hK hN [0, 1, 2] 0 1 rfl rfl rfl rfl rfl rfl rfl rfl (Nat.le_of_ble_eq_true rfl) d_LA_byTurns_53 ⟨Nat.zero_le _, Nat.zero_le _⟩ (fun H locs hP hD hS => ?_)
    have hP : va_P (dC, dI) classes (wLA tC a la_2) H := hP
    have hD : va_D A (wLA tC a la_2) := hD
    refine W.eq (g2 := F0 m 56 ls []) rfl ?_
    refine lv_goto (tgt := 80) hx hb d_LA_byTurns_56 (by decide) ?_
    have hq0 := (g_some hf)
    subst hq0
    exact cx_vret hx hb hr hlocks hP hS d_LA_byTurns_80
def f_LA_beside (x1 : Int64) (x3 : Int64) (la : LAt) : Option LAt :=
  (f_SR_by (x1 - (LA_shift la)) x3).bind fun r =>
  gl_let (((LA_shift la) + (x3 * r))) fun v5 =>
  (f_LA_add v5 (v5 + x3) la).bind fun la_1 =>
  some la_1
set_option maxHeartbeats 4000000 in
set_option maxRecDepth 100000 in
theorem c_LA_beside (l : Launch) (dC : Nat → ClassId) (dI : Nat → Nat → Nat) (tC : Nat → ClassId) (a : Nat → Nat) (x1 : Int64) (x3 : Int64) (la : LAt) (laR : LAt) (hf : f_LA_beside x1 x3 la = some laR) : cx_M l y_LA_beside w_LA_beside { frames := 2, cells := 0, slots := 0, locals := 48 } (dC, dI) classes (tyS tC) [.ref (a 0), .long x1, .long x3] (wLA tC a la) (wLA tC a laR) (none) := by
  refine cx_of (cc := b_LA_beside) (maxL := 7) (ret := none) (plainFor_of_name (by decide)) rfl (Nat.le_of_ble_eq_true rfl) ?_
  intro p e s m below meth c hx hb hr hml hown hts hlocks A hA H locs ls hK hN hP hD hS hl
  have hown : s.vm.findClass R_LA = some m.cls := hown
  have hl : lv_has ls 7 [(0, .ref (a 0)), (1, .long x1), (3, .long x3)] := hl
  unfold f_LA_beside at hf
  refine lv_aload_n hx hb d_LA_beside_0 rfl (lv_at hl 0 rfl) ?_
  refine va_get (D := (dC, dI)) (ci := 1) (v := .long (LA_shift la)) (C := R_LA) (T := F_LA) (N := 8) hx hb hts (in_LA _) hown hK hP 0 rfl rfl 5 (by decide) (hts _ (List.mem_cons_of_mem _ mw_209)) (fun _ h9 => h9) rfl d_LA_beside_1 ?_
  refine lv_lload_n hx hb d_LA_beside_4 rfl (lv_at hl 2 rfl) ?_
  refine lv_lload_n hx hb d_LA_beside_5 rfl (lv_at hl 1 rfl) ?_
  refine lv_aload_n hx hb d_LA_beside_6 rfl (lv_at hl 0 rfl) ?_
  refine va_get (D := (dC, dI)) (ci := 1) (v := .long (LA_shift la)) (C := R_LA) (T := F_LA) (N := 8) hx hb hts (in_LA _) hown hK hP 0 rfl rfl 5 (by decide) (hts _ (List.mem_cons_of_mem _ mw_209)) (fun _ h9 => h9) rfl d_LA_beside_7 ?_
  refine lv_lsub hx hb d_LA_beside_10 ?_
  refine lv_lload_n hx hb d_LA_beside_11 rfl (lv_at hl 2 rfl) ?_
  obtain ⟨r, hc, hf⟩ := g_bind hf
  try dsimp only at hf
  refine cx_callSN (As := [.long (x1 - (LA_shift la)), .long x3]) (rest := [.long x3, .long (LA_shift la)]) ⟨hx, hb, hml, hown, hts⟩ (c_SR_by l dC dI tC  (x1 - (LA_shift la)) x3 r hc) (k_LA_52 hts hN ⟨Nat.le_of_ble_eq_true rfl, Nat.le_of_ble_eq_true rfl⟩) hl.1 hP hD hS hA hK hN [] rfl rfl rfl rfl rfl (Nat.le_of_ble_eq_true rfl) d_LA_beside_12 ⟨Nat.zero_le _, Nat.zero_le _⟩ (fun H locs hP hD hS => ?_)
  have hP : va_P (dC, dI) classes (wLA tC a la) H := hP
  have hD : va_D A (wLA tC a la) := hD
  refine W.eq (g2 := F0 m 15 ls [.long r, .long x3, .long (LA_shift la)]) rfl ?_
  refine lv_lmul hx hb d_LA_beside_15 ?_
  refine lv_ladd hx hb d_LA_beside_16 ?_
  refine lv_topl (fun v5 h_v5 => ?_)
  have hf := g_let hf h_v5
  refine lv_lstore (lv' := [(5, .long v5), (0, .ref (a 0)), (1, .long x1), (3, .long x3)]) hx hb d_LA_beside_17 hl (by decide) rfl (fun ls hl => ?_)
  refine lv_aload_n hx hb d_LA_beside_19 rfl (lv_at hl 1 rfl) ?_
  refine lv_lload hx hb d_LA_beside_20 (lv_at hl 0 rfl) ?_
  refine lv_lload hx hb d_LA_beside_22 (lv_at hl 0 rfl) ?_
  refine lv_lload_n hx hb d_LA_beside_24 rfl (lv_at hl 3 rfl) ?_
  refine lv_ladd hx hb d_LA_beside_25 ?_
  obtain ⟨la_1, hc_1, hf⟩ := g_bind hf
  try dsimp only at hf
  refine cx_callV (As := [.long v5, .long (v5 + x3)]) (rest := []) ⟨hx, hb, hml, hown, hts⟩ (c_LA_add l dC dI tC a v5 (v5 + x3) la la_1 hc_1) (k_LA_56 hts ⟨Nat.le_of_ble_eq_true rfl, Nat.le_of_ble_eq_true rfl⟩) hl.1 hP hD hS hA hK hN [0, 1, 2] 0 1 rfl rfl rfl rfl rfl rfl rfl rfl (Nat.le_of_ble_eq_true rfl) d_LA_beside_26 ⟨Nat.zero_le _, Nat.zero_le _⟩ (fun H locs hP hD hS => ?_)
  have hP : va_P (dC, dI) classes (wLA tC a la_1) H := hP
  have hD : va_D A (wLA tC a la_1) := hD
  refine W.eq (g2 := F0 m 29 ls []) rfl ?_
  have hq0 := (g_some hf)
  subst hq0
  exact cx_vret hx hb hr hlocks hP hS d_LA_beside_29
def f_LA_doubling_B9 (v3 : Int64) : Int64 :=
  if 0 ≤ v3 then (
    v3
  ) else
  ((-1) - v3)
def f_LA_doubling_L33 (t : Int64) : Nat → Int64 → Int64 → Int32 → Option (Int64 × Int64)
  | 0, _, _, _ => none
  | n + 1, v7, v9, v11 =>
    if 62 ≤ v11 then (
      some (v7, v9)
    ) else
    if t < v9 then (
      some (v7, v9)
    ) else
    gl_let ((2 * v9)) fun v9_2 =>
    gl_let (v11 + 1) fun v11_1 =>
    f_LA_doubling_L33 t n v9 v9_2 v11_1
def f_LA_doubling (k : Nat) (x1 : Int64) (la : LAt) : Option LAt :=
  gl_let ((x1 - (LA_shift la))) fun v3 =>
  gl_let (f_LA_doubling_B9 v3) fun t =>
  (f_LA_doubling_L33 t k 0 1 0).bind fun (v7_1, v9_1) =>
  if 0 ≤ v3 then (
    (f_LA_add ((LA_shift la) + v7_1) ((LA_shift la) + v9_1) la).bind fun la_1 =>
    some la_1
  ) else
  (f_LA_add ((LA_shift la) - v9_1) ((LA_shift la) - v7_1) la).bind fun la_2 =>
  some la_2
set_option maxHeartbeats 4000000 in
set_option maxRecDepth 100000 in
theorem c_LA_doubling (l : Launch) (dC : Nat → ClassId) (dI : Nat → Nat → Nat) (tC : Nat → ClassId) (a : Nat → Nat) (k : Nat) (x1 : Int64) (la : LAt) (laR : LAt) (hf : f_LA_doubling k x1 la = some laR) : cx_M l y_LA_doubling w_LA_doubling { frames := 1, cells := 0, slots := 0, locals := 24 } (dC, dI) classes (tyS tC) [.ref (a 0), .long x1] (wLA tC a la) (wLA tC a laR) (none) := by
  refine cx_of (cc := b_LA_doubling) (maxL := 12) (ret := none) (plainFor_of_name (by decide)) rfl (Nat.le_of_ble_eq_true rfl) ?_
  intro p e s m below meth c hx hb hr hml hown hts hlocks A hA H locs ls hK hN hP hD hS hl
  have hown : s.vm.findClass R_LA = some m.cls := hown
  have hl : lv_has ls 12 [(0, .ref (a 0)), (1, .long x1)] := hl
  unfold f_LA_doubling at hf
  refine lv_lload_n hx hb d_LA_doubling_0 rfl (lv_at hl 1 rfl) ?_
  refine lv_aload_n hx hb d_LA_doubling_1 rfl (lv_at hl 0 rfl) ?_
  refine va_get (D := (dC, dI)) (ci := 1) (v := .long (LA_shift la)) (C := R_LA) (T := F_LA) (N := 8) hx hb hts (in_LA _) hown hK hP 0 rfl rfl 5 (by decide) (hts _ (List.mem_cons_of_mem _ mw_209)) (fun _ h9 => h9) rfl d_LA_doubling_2 ?_
  refine lv_lsub hx hb d_LA_doubling_5 ?_
  refine lv_topl (fun v3 h_v3 => ?_)
  have hf := g_let hf h_v3
  refine lv_lstore_n (lv' := [(3, .long v3), (0, .ref (a 0)), (1, .long x1)]) hx hb d_LA_doubling_6 rfl hl (by decide) rfl (fun ls hl => ?_)
  refine lv_lload_n hx hb d_LA_doubling_7 rfl (lv_at hl 0 rfl) ?_
  refine lv_lconst (v := 0) hx hb d_LA_doubling_8 (by decide) ?_
  obtain ⟨t, hB_22⟩ : ∃ z : Int64, z = f_LA_doubling_B9 v3 := ⟨_, rfl⟩
  have hf := g_let hf hB_22
  have hB_22 := hB_22.symm
  try dsimp only at hf
  have K_22 : ∀ (H : Heap) (locs : List Loc) (ls : Array Slot), va_P (dC, dI) classes (wLA tC a la) H → va_D A (wLA tC a la) → va_S A s.heap H locs → lv_has ls 12 [(0, .ref (a 0)), (3, .long v3)] → W p l e { frames := 1, cells := 0, slots := 0, locals := 24 } s m [.ref (a 0), .long x1].toArray below meth c H locs 0 0 (cx_Z (dC, dI) classes below [.ref (a 0), .long x1] s (wLA tC a laR) (none) A) (F0 m 22 ls [.long t]) := by
    intro H locs ls hP hD hS hl
    refine lv_lstore (lv' := [(5, .long t), (0, .ref (a 0)), (3, .long v3)]) hx hb d_LA_doubling_22 hl (by decide) rfl (fun ls hl => ?_)
    refine lv_lconst (v := 0) hx hb d_LA_doubling_24 (by decide) ?_
    refine lv_lstore (lv' := [(7, .long 0), (5, .long t), (0, .ref (a 0)), (3, .long v3)]) hx hb d_LA_doubling_25 hl (by decide) rfl (fun ls hl => ?_)
    refine lv_lconst (v := 1) hx hb d_LA_doubling_27 (by decide) ?_
    refine lv_lstore (lv' := [(9, .long 1), (7, .long 0), (5, .long t), (0, .ref (a 0)), (3, .long v3)]) hx hb d_LA_doubling_28 hl (by decide) rfl (fun ls hl => ?_)
    refine lv_iconst (v := 0) hx hb d_LA_doubling_30 (by decide) ?_
    refine lv_istore (lv' := [(11, .int 0), (9, .long 1), (7, .long 0), (5, .long t), (0, .ref (a 0)), (3, .long v3)]) hx hb d_LA_doubling_31 hl (by decide) rfl (fun ls hl => ?_)
    have L_33 : ∀ (n : Nat) (v7 : Int64) (v9 : Int64) (v11 : Int32) (v7_1 : Int64) (v9_1 : Int64), f_LA_doubling_L33 t n v7 v9 v11 = some (v7_1, v9_1) → ∀ (H : Heap) (locs : List Loc) (ls : Array Slot), va_P (dC, dI) classes (wLA tC a la) H → va_D A (wLA tC a la) → va_S A s.heap H locs → lv_has ls 12 [(0, .ref (a 0)), (3, .long v3), (5, .long t), (7, .long v7), (9, .long v9), (11, .int v11)] → (∀ (H : Heap) (locs : List Loc) (ls : Array Slot), va_P (dC, dI) classes (wLA tC a la) H → va_D A (wLA tC a la) → va_S A s.heap H locs → lv_has ls 12 [(0, .ref (a 0)), (3, .long v3), (7, .long v7_1), (9, .long v9_1)] → W p l e { frames := 1, cells := 0, slots := 0, locals := 24 } s m [.ref (a 0), .long x1].toArray below meth c H locs 0 0 (cx_Z (dC, dI) classes below [.ref (a 0), .long x1] s (wLA tC a laR) (none) A) (F0 m 66 ls [])) → W p l e { frames := 1, cells := 0, slots := 0, locals := 24 } s m [.ref (a 0), .long x1].toArray below meth c H locs 0 0 (cx_Z (dC, dI) classes below [.ref (a 0), .long x1] s (wLA tC a laR) (none) A) (F0 m 33 ls []) := by
      intro n
      induction n with
      | zero =>
        intro v7 v9 v11 v7_1 v9_1 hf
        rw [f_LA_doubling_L33] at hf
        cases hf
      | succ n ih =>
        intro v7 v9 v11 v7_1 v9_1 hf H locs ls hP hD hS hl kk
        rw [f_LA_doubling_L33] at hf
        refine lv_iload hx hb d_LA_doubling_33 (lv_at hl 5 rfl) ?_
        refine lv_bipush (v := 62) hx hb d_LA_doubling_35 (by decide) ?_
        refine lv_icmp_ge (tgt := 66) hx hb d_LA_doubling_37 (by decide) (fun cb_1 => ?_) (fun cb_1 => ?_)
        · have hf := g_t hf cb_1
          obtain ⟨hq0, hr1⟩ := Prod.mk.inj (g_some hf)
          subst hq0
          subst hr1
          exact kk _ _ _ hP hD hS (lv_sub hl [0, 1, 3, 4] rfl)
        · have hf := g_f hf cb_1
          refine lv_lload hx hb d_LA_doubling_40 (lv_at hl 4 rfl) ?_
          refine lv_lload hx hb d_LA_doubling_42 (lv_at hl 2 rfl) ?_
          refine cq_gt (tgt := 66) hx hb d_LA_doubling_44 d_LA_doubling_45 (by decide) (fun cb_2 => ?_) (fun cb_2 => ?_)
          · have hf := g_t hf cb_2
            obtain ⟨hq0, hr1⟩ := Prod.mk.inj (g_some hf)
            subst hq0
            subst hr1
            exact kk _ _ _ hP hD hS (lv_sub hl [0, 1, 3, 4] rfl)
          · have hf := g_f hf cb_2
            refine lv_lload hx hb d_LA_doubling_48 (lv_at hl 4 rfl) ?_
            refine lv_lstore (lv' := [(7, .long v9), (0, .ref (a 0)), (3, .long v3), (5, .long t), (9, .long v9), (11, .int v11)]) hx hb d_LA_doubling_50 hl (by decide) rfl (fun ls hl => ?_)
            refine lv_ldc2 (v := 2) hx hb hown (hts _ (List.mem_cons_of_mem _ mw_666)) d_LA_doubling_52 ?_
            refine lv_lload hx hb d_LA_doubling_55 (lv_at hl 4 rfl) ?_
            refine lv_lmul hx hb d_LA_doubling_57 ?_
            refine lv_topl (fun v9_2 h_v9_2 => ?_)
            have hf := g_let hf h_v9_2
            refine lv_lstore (lv' := [(9, .long v9_2), (7, .long v9), (0, .ref (a 0)), (3, .long v3), (5, .long t), (11, .int v11)]) hx hb d_LA_doubling_58 hl (by decide) rfl (fun ls hl => ?_)
            obtain ⟨v11_1, h_v11_1⟩ : ∃ z : Int32, z = v11 + 1 := ⟨_, rfl⟩
            have hf := g_let hf h_v11_1
            refine lv_iinc (v := v11_1) (lv' := [(11, .int v11_1), (9, .long v9_2), (7, .long v9), (0, .ref (a 0)), (3, .long v3), (5, .long t)]) hx hb d_LA_doubling_60 hl (k := 5) rfl (by rw [h_v11_1]; rfl) (by decide) rfl (fun ls hl => ?_)
            refine lv_goto (tgt := 33) hx hb d_LA_doubling_63 (by decide) ?_
            exact ih v9 v9_2 v11_1 v7_1 v9_1 hf H locs ls hP hD hS (lv_sub hl [3, 4, 5, 2, 1, 0] rfl) kk
    obtain ⟨⟨v7_1, v9_1⟩, hL_33, hf⟩ := g_bind hf
    try dsimp only at hf
    refine L_33 k 0 1 0 v7_1 v9_1 hL_33 H locs ls hP hD hS (lv_sub hl [4, 5, 3, 2, 1, 0] rfl) (fun H locs ls hP hD hS hl => ?_)
    refine lv_lload_n hx hb d_LA_doubling_66 rfl (lv_at hl 1 rfl) ?_
    refine lv_lconst (v := 0) hx hb d_LA_doubling_67 (by decide) ?_
    refine cq_ge (tgt := 93) hx hb d_LA_doubling_68 d_LA_doubling_69 (by decide) (fun cb_3 => ?_) (fun cb_3 => ?_)
    · have hf := g_t hf cb_3
      refine lv_aload_n hx hb d_LA_doubling_93 rfl (lv_at hl 0 rfl) ?_
      refine lv_aload_n hx hb d_LA_doubling_94 rfl (lv_at hl 0 rfl) ?_
      refine va_get (D := (dC, dI)) (ci := 1) (v := .long (LA_shift la)) (C := R_LA) (T := F_LA) (N := 8) hx hb hts (in_LA _) hown hK hP 0 rfl rfl 5 (by decide) (hts _ (List.mem_cons_of_mem _ mw_209)) (fun _ h9 => h9) rfl d_LA_doubling_95 ?_
      refine lv_lload hx hb d_LA_doubling_98 (lv_at hl 2 rfl) ?_
      refine lv_ladd hx hb d_LA_doubling_100 ?_
      refine lv_aload_n hx hb d_LA_doubling_101 rfl (lv_at hl 0 rfl) ?_
      refine va_get (D := (dC, dI)) (ci := 1) (v := .long (LA_shift la)) (C := R_LA) (T := F_LA) (N := 8) hx hb hts (in_LA _) hown hK hP 0 rfl rfl 5 (by decide) (hts _ (List.mem_cons_of_mem _ mw_209)) (fun _ h9 => h9) rfl d_LA_doubling_102 ?_
      refine lv_lload hx hb d_LA_doubling_105 (lv_at hl 3 rfl) ?_
      refine lv_ladd hx hb d_LA_doubling_107 ?_
      obtain ⟨la_1, hc, hf⟩ := g_bind hf
      try dsimp only at hf
      refine cx_callV (As := [.long ((LA_shift la) + v7_1), .long ((LA_shift la) + v9_1)]) (rest := []) ⟨hx, hb, hml, hown, hts⟩ (c_LA_add l dC dI tC a ((LA_shift la) + v7_1) ((LA_shift la) + v9_1) la la_1 hc) (k_LA_56 hts ⟨Nat.le_of_ble_eq_true rfl, Nat.le_of_ble_eq_true rfl⟩) hl.1 hP hD hS hA hK hN [0, 1, 2] 0 1 rfl rfl rfl rfl rfl rfl rfl rfl (Nat.le_of_ble_eq_true rfl) d_LA_doubling_108 ⟨Nat.zero_le _, Nat.zero_le _⟩ (fun H locs hP hD hS => ?_)
      have hP : va_P (dC, dI) classes (wLA tC a la_1) H := hP
      have hD : va_D A (wLA tC a la_1) := hD
      refine W.eq (g2 := F0 m 111 ls []) rfl ?_
      have hq0 := (g_some hf)
      subst hq0
      exact cx_vret hx hb hr hlocks hP hS d_LA_doubling_111
    · have hf := g_f hf cb_3
      refine lv_aload_n hx hb d_LA_doubling_72 rfl (lv_at hl 0 rfl) ?_
      refine lv_aload_n hx hb d_LA_doubling_73 rfl (lv_at hl 0 rfl) ?_
      refine va_get (D := (dC, dI)) (ci := 1) (v := .long (LA_shift la)) (C := R_LA) (T := F_LA) (N := 8) hx hb hts (in_LA _) hown hK hP 0 rfl rfl 5 (by decide) (hts _ (List.mem_cons_of_mem _ mw_209)) (fun _ h9 => h9) rfl d_LA_doubling_74 ?_
      refine lv_lload hx hb d_LA_doubling_77 (lv_at hl 3 rfl) ?_
      refine lv_lsub hx hb d_LA_doubling_79 ?_
      refine lv_aload_n hx hb d_LA_doubling_80 rfl (lv_at hl 0 rfl) ?_
      refine va_get (D := (dC, dI)) (ci := 1) (v := .long (LA_shift la)) (C := R_LA) (T := F_LA) (N := 8) hx hb hts (in_LA _) hown hK hP 0 rfl rfl 5 (by decide) (hts _ (List.mem_cons_of_mem _ mw_209)) (fun _ h9 => h9) rfl d_LA_doubling_81 ?_
      refine lv_lload hx hb d_LA_doubling_84 (lv_at hl 2 rfl) ?_
      refine lv_lsub hx hb d_LA_doubling_86 ?_
      obtain ⟨la_2, hc_1, hf⟩ := g_bind hf
      try dsimp only at hf
      refine cx_callV (As := [.long ((LA_shift la) - v9_1), .long ((LA_shift la) - v7_1)]) (rest := []) ⟨hx, hb, hml, hown, hts⟩ (c_LA_add l dC dI tC a ((LA_shift la) - v9_1) ((LA_shift la) - v7_1) la la_2 hc_1) (k_LA_56 hts ⟨Nat.le_of_ble_eq_true rfl, Nat.le_of_ble_eq_true rfl⟩) hl.1 hP hD hS hA hK hN [0, 1, 2] 0 1 rfl rfl rfl rfl rfl rfl rfl rfl (Nat.le_of_ble_eq_true rfl) d_LA_doubling_87 ⟨Nat.zero_le _, Nat.zero_le _⟩ (fun H locs hP hD hS => ?_)
      have hP : va_P (dC, dI) classes (wLA tC a la_2) H := hP
      have hD : va_D A (wLA tC a la_2) := hD
      refine W.eq (g2 := F0 m 90 ls []) rfl ?_
      refine lv_goto (tgt := 111) hx hb d_LA_doubling_90 (by decide) ?_
      have hq0 := (g_some hf)
      subst hq0
      exact cx_vret hx hb hr hlocks hP hS d_LA_doubling_111
  have hf := hB_22
  unfold f_LA_doubling_B9 at hf
  refine cq_ge (tgt := 21) hx hb d_LA_doubling_9 d_LA_doubling_10 (by decide) (fun cb => ?_) (fun cb => ?_)
  · have hf := g_t hf cb
    refine lv_lload_n hx hb d_LA_doubling_21 rfl (lv_at hl 0 rfl) ?_
    have hq0 := hf
    subst hq0
    exact K_22 _ _ _ hP hD hS (lv_sub hl [1, 0] rfl)
  · have hf := g_f hf cb
    refine lv_ldc2 (v := (-1)) hx hb hown (hts _ (List.mem_cons_of_mem _ mw_665)) d_LA_doubling_13 ?_
    refine lv_lload_n hx hb d_LA_doubling_16 rfl (lv_at hl 0 rfl) ?_
    refine lv_lsub hx hb d_LA_doubling_17 ?_
    refine lv_goto (tgt := 22) hx hb d_LA_doubling_18 (by decide) ?_
    have hq0 := hf
    subst hq0
    exact K_22 _ _ _ hP hD hS (lv_sub hl [1, 0] rfl)
def f_LA_byOwnRule (k : Nat) (x1 : Int64) (x3 : Int64) (la : LAt) : Option LAt :=
  if (LA_ownRule la) = 0 then (
    (f_LA_byTurns x1 la).bind fun la_4 =>
    some la_4
  ) else
  if (LA_ownRule la) = 1 then (
    if 0 ≤ x3 then (
      (f_LA_beside x1 (LA_size la) la).bind fun la_2 =>
      some la_2
    ) else
    (f_LA_beside x1 (LA_step la) la).bind fun la_3 =>
    some la_3
  ) else
  (f_LA_doubling k x1 la).bind fun la_1 =>
  some la_1
set_option maxHeartbeats 4000000 in
set_option maxRecDepth 100000 in
theorem c_LA_byOwnRule (l : Launch) (dC : Nat → ClassId) (dI : Nat → Nat → Nat) (tC : Nat → ClassId) (a : Nat → Nat) (k : Nat) (x1 : Int64) (x3 : Int64) (la : LAt) (laR : LAt) (hf : f_LA_byOwnRule k x1 x3 la = some laR) : cx_M l y_LA_byOwnRule w_LA_byOwnRule { frames := 3, cells := 0, slots := 0, locals := 74 } (dC, dI) classes (tyS tC) [.ref (a 0), .long x1, .long x3] (wLA tC a la) (wLA tC a laR) (none) := by
  refine cx_of (cc := b_LA_byOwnRule) (maxL := 5) (ret := none) (plainFor_of_name (by decide)) rfl (Nat.le_of_ble_eq_true rfl) ?_
  intro p e s m below meth c hx hb hr hml hown hts hlocks A hA H locs ls hK hN hP hD hS hl
  have hown : s.vm.findClass R_LA = some m.cls := hown
  have hl : lv_has ls 5 [(0, .ref (a 0)), (1, .long x1), (3, .long x3)] := hl
  unfold f_LA_byOwnRule at hf
  refine lv_aload_n hx hb d_LA_byOwnRule_0 rfl (lv_at hl 0 rfl) ?_
  refine va_get (D := (dC, dI)) (ci := 1) (v := .int (LA_ownRule la)) (C := R_LA) (T := F_LA) (N := 8) hx hb hts (in_LA _) hown hK hP 0 rfl rfl 6 (by decide) (hts _ (List.mem_cons_of_mem _ mw_211)) (fun _ h9 => h9) rfl d_LA_byOwnRule_1 ?_
  refine lv_if_ne (tgt := 15) hx hb d_LA_byOwnRule_4 (by decide) (fun cb => ?_) (fun cb => ?_)
  · have hf := g_f hf cb
    refine lv_aload_n hx hb d_LA_byOwnRule_15 rfl (lv_at hl 0 rfl) ?_
    refine va_get (D := (dC, dI)) (ci := 1) (v := .int (LA_ownRule la)) (C := R_LA) (T := F_LA) (N := 8) hx hb hts (in_LA _) hown hK hP 0 rfl rfl 6 (by decide) (hts _ (List.mem_cons_of_mem _ mw_211)) (fun _ h9 => h9) rfl d_LA_byOwnRule_16 ?_
    refine lv_iconst (v := 1) hx hb d_LA_byOwnRule_19 (by decide) ?_
    refine lv_icmp_ne (tgt := 48) hx hb d_LA_byOwnRule_20 (by decide) (fun cb_1 => ?_) (fun cb_1 => ?_)
    · have hf := g_f hf cb_1
      refine lv_aload_n hx hb d_LA_byOwnRule_48 rfl (lv_at hl 0 rfl) ?_
      refine lv_lload_n hx hb d_LA_byOwnRule_49 rfl (lv_at hl 1 rfl) ?_
      obtain ⟨la_1, hc, hf⟩ := g_bind hf
      try dsimp only at hf
      refine cx_callV (As := [.long x1]) (rest := []) ⟨hx, hb, hml, hown, hts⟩ (c_LA_doubling l dC dI tC a k x1 la la_1 hc) (k_LA_71 hts ⟨Nat.le_of_ble_eq_true rfl, Nat.le_of_ble_eq_true rfl⟩) hl.1 hP hD hS hA hK hN [0, 1, 2] 0 1 rfl rfl rfl rfl rfl rfl rfl rfl (Nat.le_of_ble_eq_true rfl) d_LA_byOwnRule_50 ⟨Nat.zero_le _, Nat.zero_le _⟩ (fun H locs hP hD hS => ?_)
      have hP : va_P (dC, dI) classes (wLA tC a la_1) H := hP
      have hD : va_D A (wLA tC a la_1) := hD
      refine W.eq (g2 := F0 m 53 ls []) rfl ?_
      have hq0 := (g_some hf)
      subst hq0
      exact cx_vret hx hb hr hlocks hP hS d_LA_byOwnRule_53
    · have hf := g_t hf cb_1
      refine lv_aload_n hx hb d_LA_byOwnRule_23 rfl (lv_at hl 0 rfl) ?_
      refine lv_lload_n hx hb d_LA_byOwnRule_24 rfl (lv_at hl 1 rfl) ?_
      refine lv_lload_n hx hb d_LA_byOwnRule_25 rfl (lv_at hl 2 rfl) ?_
      refine lv_lconst (v := 0) hx hb d_LA_byOwnRule_26 (by decide) ?_
      refine cq_ge (tgt := 38) hx hb d_LA_byOwnRule_27 d_LA_byOwnRule_28 (by decide) (fun cb_2 => ?_) (fun cb_2 => ?_)
      · have hf := g_t hf cb_2
        refine lv_aload_n hx hb d_LA_byOwnRule_38 rfl (lv_at hl 0 rfl) ?_
        refine va_get (D := (dC, dI)) (ci := 1) (v := .long (LA_size la)) (C := R_LA) (T := F_LA) (N := 8) hx hb hts (in_LA _) hown hK hP 0 rfl rfl 1 (by decide) (hts _ (List.mem_cons_of_mem _ mw_201)) (fun _ h9 => h9) rfl d_LA_byOwnRule_39 ?_
        obtain ⟨la_2, hc_1, hf⟩ := g_bind hf
        try dsimp only at hf
        refine cx_callV (As := [.long x1, .long (LA_size la)]) (rest := []) ⟨hx, hb, hml, hown, hts⟩ (c_LA_beside l dC dI tC a x1 (LA_size la) la la_2 hc_1) (k_LA_49 hts ⟨Nat.le_of_ble_eq_true rfl, Nat.le_of_ble_eq_true rfl⟩) hl.1 hP hD hS hA hK hN [0, 1, 2] 0 1 rfl rfl rfl rfl rfl rfl rfl rfl (Nat.le_of_ble_eq_true rfl) d_LA_byOwnRule_42 ⟨Nat.zero_le _, Nat.zero_le _⟩ (fun H locs hP hD hS => ?_)
        have hP : va_P (dC, dI) classes (wLA tC a la_2) H := hP
        have hD : va_D A (wLA tC a la_2) := hD
        refine W.eq (g2 := F0 m 45 ls []) rfl ?_
        refine lv_goto (tgt := 53) hx hb d_LA_byOwnRule_45 (by decide) ?_
        have hq0 := (g_some hf)
        subst hq0
        exact cx_vret hx hb hr hlocks hP hS d_LA_byOwnRule_53
      · have hf := g_f hf cb_2
        refine lv_aload_n hx hb d_LA_byOwnRule_31 rfl (lv_at hl 0 rfl) ?_
        refine va_get (D := (dC, dI)) (ci := 1) (v := .long (LA_step la)) (C := R_LA) (T := F_LA) (N := 8) hx hb hts (in_LA _) hown hK hP 0 rfl rfl 2 (by decide) (hts _ (List.mem_cons_of_mem _ mw_203)) (fun _ h9 => h9) rfl d_LA_byOwnRule_32 ?_
        refine lv_goto (tgt := 42) hx hb d_LA_byOwnRule_35 (by decide) ?_
        obtain ⟨la_3, hc_2, hf⟩ := g_bind hf
        try dsimp only at hf
        refine cx_callV (As := [.long x1, .long (LA_step la)]) (rest := []) ⟨hx, hb, hml, hown, hts⟩ (c_LA_beside l dC dI tC a x1 (LA_step la) la la_3 hc_2) (k_LA_49 hts ⟨Nat.le_of_ble_eq_true rfl, Nat.le_of_ble_eq_true rfl⟩) hl.1 hP hD hS hA hK hN [0, 1, 2] 0 1 rfl rfl rfl rfl rfl rfl rfl rfl (Nat.le_of_ble_eq_true rfl) d_LA_byOwnRule_42 ⟨Nat.zero_le _, Nat.zero_le _⟩ (fun H locs hP hD hS => ?_)
        have hP : va_P (dC, dI) classes (wLA tC a la_3) H := hP
        have hD : va_D A (wLA tC a la_3) := hD
        refine W.eq (g2 := F0 m 45 ls []) rfl ?_
        refine lv_goto (tgt := 53) hx hb d_LA_byOwnRule_45 (by decide) ?_
        have hq0 := (g_some hf)
        subst hq0
        exact cx_vret hx hb hr hlocks hP hS d_LA_byOwnRule_53
  · have hf := g_t hf cb
    refine lv_aload_n hx hb d_LA_byOwnRule_7 rfl (lv_at hl 0 rfl) ?_
    refine lv_lload_n hx hb d_LA_byOwnRule_8 rfl (lv_at hl 1 rfl) ?_
    obtain ⟨la_4, hc_3, hf⟩ := g_bind hf
    try dsimp only at hf
    refine cx_callV (As := [.long x1]) (rest := []) ⟨hx, hb, hml, hown, hts⟩ (c_LA_byTurns l dC dI tC a x1 la la_4 hc_3) (k_LA_68 hts ⟨Nat.le_of_ble_eq_true rfl, Nat.le_of_ble_eq_true rfl⟩) hl.1 hP hD hS hA hK hN [0, 1, 2] 0 1 rfl rfl rfl rfl rfl rfl rfl rfl (Nat.le_of_ble_eq_true rfl) d_LA_byOwnRule_9 ⟨Nat.zero_le _, Nat.zero_le _⟩ (fun H locs hP hD hS => ?_)
    have hP : va_P (dC, dI) classes (wLA tC a la_4) H := hP
    have hD : va_D A (wLA tC a la_4) := hD
    refine W.eq (g2 := F0 m 12 ls []) rfl ?_
    refine lv_goto (tgt := 53) hx hb d_LA_byOwnRule_12 (by decide) ?_
    have hq0 := (g_some hf)
    subst hq0
    exact cx_vret hx hb hr hlocks hP hS d_LA_byOwnRule_53
def f_LA_seek (k : Nat) (x1 : Int64) (x3 : Int64) (la : LAt) : Option LAt :=
  if (LA_kind la) = 1 then (
    gl_let ((sLA_found la 0) : LAt) fun la_7 =>
    (f_LA_slide k x1 la_7).bind fun la_8 =>
    some la_8
  ) else
  if (LA_kind la) = 4 then (
    gl_let ((sLA_found la 0) : LAt) fun la_5 =>
    (f_LA_inMonths k x1 la_5).bind fun la_6 =>
    some la_6
  ) else
  if (LA_kind la) = 5 then (
    gl_let ((sLA_found la 0) : LAt) fun la_3 =>
    (f_LA_byOwnRule k x1 x3 la_3).bind fun la_4 =>
    some la_4
  ) else
  gl_let ((sLA_found la 0) : LAt) fun la_1 =>
  (f_LA_beside x1 (LA_size la) la_1).bind fun la_2 =>
  some la_2
set_option maxHeartbeats 4000000 in
set_option maxRecDepth 100000 in
theorem c_LA_seek (l : Launch) (dC : Nat → ClassId) (dI : Nat → Nat → Nat) (tC : Nat → ClassId) (a : Nat → Nat) (k : Nat) (x1 : Int64) (x3 : Int64) (la : LAt) (laR : LAt) (hf : f_LA_seek k x1 x3 la = some laR) : cx_M l y_LA_seek w_LA_seek { frames := 4, cells := 0, slots := 0, locals := 102 } (dC, dI) classes (tyS tC) [.ref (a 0), .long x1, .long x3] (wLA tC a la) (wLA tC a laR) (none) := by
  refine cx_of (cc := b_LA_seek) (maxL := 5) (ret := none) (plainFor_of_name (by decide)) rfl (Nat.le_of_ble_eq_true rfl) ?_
  intro p e s m below meth c hx hb hr hml hown hts hlocks A hA H locs ls hK hN hP hD hS hl
  have hown : s.vm.findClass R_LA = some m.cls := hown
  have hl : lv_has ls 5 [(0, .ref (a 0)), (1, .long x1), (3, .long x3)] := hl
  unfold f_LA_seek at hf
  refine lv_aload_n hx hb d_LA_seek_0 rfl (lv_at hl 0 rfl) ?_
  refine lv_iconst (v := 0) hx hb d_LA_seek_1 (by decide) ?_
  refine va_put (D := (dC, dI)) (ci := 1) (v := .int 0) (ty := .int) (C := R_LA) (T := F_LA) (N := 8) hx hb hts (in_LA _) t_LA t_LA_ok n_LA hown hK hP hD hS 0 rfl rfl 7 (by decide) (hts _ (List.mem_cons_of_mem _ mw_213)) (fun _ h9 => h9) rfl (by decide +kernel) rfl rfl (Nat.le_of_ble_eq_true rfl) d_LA_seek_2 (fun H locs hP hD hS => ?_)
  have hP : va_P (dC, dI) classes (wLA tC a (sLA_found la 0)) H := hP
  have hD : va_D A (wLA tC a (sLA_found la 0)) := hD
  refine lv_aload_n hx hb d_LA_seek_5 rfl (lv_at hl 0 rfl) ?_
  refine va_get (D := (dC, dI)) (ci := 1) (v := .int (LA_kind la)) (C := R_LA) (T := F_LA) (N := 8) hx hb hts (in_LA _) hown hK hP 0 rfl rfl 0 (by decide) (hts _ (List.mem_cons_of_mem _ mw_199)) (fun _ h9 => h9) rfl d_LA_seek_6 ?_
  refine lv_iconst (v := 1) hx hb d_LA_seek_9 (by decide) ?_
  refine lv_icmp_ne (tgt := 21) hx hb d_LA_seek_10 (by decide) (fun cb => ?_) (fun cb => ?_)
  · have hf := g_f hf cb
    refine lv_aload_n hx hb d_LA_seek_21 rfl (lv_at hl 0 rfl) ?_
    refine va_get (D := (dC, dI)) (ci := 1) (v := .int (LA_kind la)) (C := R_LA) (T := F_LA) (N := 8) hx hb hts (in_LA _) hown hK hP 0 rfl rfl 0 (by decide) (hts _ (List.mem_cons_of_mem _ mw_199)) (fun _ h9 => h9) rfl d_LA_seek_22 ?_
    refine lv_iconst (v := 4) hx hb d_LA_seek_25 (by decide) ?_
    refine lv_icmp_ne (tgt := 37) hx hb d_LA_seek_26 (by decide) (fun cb_1 => ?_) (fun cb_1 => ?_)
    · have hf := g_f hf cb_1
      refine lv_aload_n hx hb d_LA_seek_37 rfl (lv_at hl 0 rfl) ?_
      refine va_get (D := (dC, dI)) (ci := 1) (v := .int (LA_kind la)) (C := R_LA) (T := F_LA) (N := 8) hx hb hts (in_LA _) hown hK hP 0 rfl rfl 0 (by decide) (hts _ (List.mem_cons_of_mem _ mw_199)) (fun _ h9 => h9) rfl d_LA_seek_38 ?_
      refine lv_iconst (v := 5) hx hb d_LA_seek_41 (by decide) ?_
      refine lv_icmp_ne (tgt := 54) hx hb d_LA_seek_42 (by decide) (fun cb_2 => ?_) (fun cb_2 => ?_)
      · have hf := g_f hf cb_2
        refine lv_aload_n hx hb d_LA_seek_54 rfl (lv_at hl 0 rfl) ?_
        refine lv_lload_n hx hb d_LA_seek_55 rfl (lv_at hl 1 rfl) ?_
        refine lv_aload_n hx hb d_LA_seek_56 rfl (lv_at hl 0 rfl) ?_
        refine va_get (D := (dC, dI)) (ci := 1) (v := .long (LA_size la)) (C := R_LA) (T := F_LA) (N := 8) hx hb hts (in_LA _) hown hK hP 0 rfl rfl 1 (by decide) (hts _ (List.mem_cons_of_mem _ mw_201)) (fun _ h9 => h9) rfl d_LA_seek_57 ?_
        obtain ⟨la_1, h_la_1⟩ : ∃ z : LAt, z = (sLA_found la 0) := ⟨_, rfl⟩
        have hf := g_let hf h_la_1
        have hP : va_P (dC, dI) classes (wLA tC a la_1) H := by rw [h_la_1]; exact hP
        have hD : va_D A (wLA tC a la_1) := by rw [h_la_1]; exact hD
        obtain ⟨la_2, hc, hf⟩ := g_bind hf
        try dsimp only at hf
        refine cx_callV (As := [.long x1, .long (LA_size la)]) (rest := []) ⟨hx, hb, hml, hown, hts⟩ (c_LA_beside l dC dI tC a x1 (LA_size la) la_1 la_2 hc) (k_LA_49 hts ⟨Nat.le_of_ble_eq_true rfl, Nat.le_of_ble_eq_true rfl⟩) hl.1 hP hD hS hA hK hN [0, 1, 2] 0 1 rfl rfl rfl rfl rfl rfl rfl rfl (Nat.le_of_ble_eq_true rfl) d_LA_seek_60 ⟨Nat.zero_le _, Nat.zero_le _⟩ (fun H locs hP hD hS => ?_)
        have hP : va_P (dC, dI) classes (wLA tC a la_2) H := hP
        have hD : va_D A (wLA tC a la_2) := hD
        refine W.eq (g2 := F0 m 63 ls []) rfl ?_
        have hq0 := (g_some hf)
        subst hq0
        exact cx_vret hx hb hr hlocks hP hS d_LA_seek_63
      · have hf := g_t hf cb_2
        refine lv_aload_n hx hb d_LA_seek_45 rfl (lv_at hl 0 rfl) ?_
        refine lv_lload_n hx hb d_LA_seek_46 rfl (lv_at hl 1 rfl) ?_
        refine lv_lload_n hx hb d_LA_seek_47 rfl (lv_at hl 2 rfl) ?_
        obtain ⟨la_3, h_la_3⟩ : ∃ z : LAt, z = (sLA_found la 0) := ⟨_, rfl⟩
        have hf := g_let hf h_la_3
        have hP : va_P (dC, dI) classes (wLA tC a la_3) H := by rw [h_la_3]; exact hP
        have hD : va_D A (wLA tC a la_3) := by rw [h_la_3]; exact hD
        obtain ⟨la_4, hc_1, hf⟩ := g_bind hf
        try dsimp only at hf
        refine cx_callV (As := [.long x1, .long x3]) (rest := []) ⟨hx, hb, hml, hown, hts⟩ (c_LA_byOwnRule l dC dI tC a k x1 x3 la_3 la_4 hc_1) (k_LA_45 hts ⟨Nat.le_of_ble_eq_true rfl, Nat.le_of_ble_eq_true rfl⟩) hl.1 hP hD hS hA hK hN [0, 1, 2] 0 1 rfl rfl rfl rfl rfl rfl rfl rfl (Nat.le_of_ble_eq_true rfl) d_LA_seek_48 ⟨Nat.zero_le _, Nat.zero_le _⟩ (fun H locs hP hD hS => ?_)
        have hP : va_P (dC, dI) classes (wLA tC a la_4) H := hP
        have hD : va_D A (wLA tC a la_4) := hD
        refine W.eq (g2 := F0 m 51 ls []) rfl ?_
        refine lv_goto (tgt := 63) hx hb d_LA_seek_51 (by decide) ?_
        have hq0 := (g_some hf)
        subst hq0
        exact cx_vret hx hb hr hlocks hP hS d_LA_seek_63
    · have hf := g_t hf cb_1
      refine lv_aload_n hx hb d_LA_seek_29 rfl (lv_at hl 0 rfl) ?_
      refine lv_lload_n hx hb d_LA_seek_30 rfl (lv_at hl 1 rfl) ?_
      obtain ⟨la_5, h_la_5⟩ : ∃ z : LAt, z = (sLA_found la 0) := ⟨_, rfl⟩
      have hf := g_let hf h_la_5
      have hP : va_P (dC, dI) classes (wLA tC a la_5) H := by rw [h_la_5]; exact hP
      have hD : va_D A (wLA tC a la_5) := by rw [h_la_5]; exact hD
      obtain ⟨la_6, hc_2, hf⟩ := g_bind hf
      try dsimp only at hf
      refine cx_callV (As := [.long x1]) (rest := []) ⟨hx, hb, hml, hown, hts⟩ (c_LA_inMonths l dC dI tC a k x1 la_5 la_6 hc_2) (k_LA_42 hts ⟨Nat.le_of_ble_eq_true rfl, Nat.le_of_ble_eq_true rfl⟩) hl.1 hP hD hS hA hK hN [0, 1, 2] 0 1 rfl rfl rfl rfl rfl rfl rfl rfl (Nat.le_of_ble_eq_true rfl) d_LA_seek_31 ⟨Nat.zero_le _, Nat.zero_le _⟩ (fun H locs hP hD hS => ?_)
      have hP : va_P (dC, dI) classes (wLA tC a la_6) H := hP
      have hD : va_D A (wLA tC a la_6) := hD
      refine W.eq (g2 := F0 m 34 ls []) rfl ?_
      refine lv_goto (tgt := 63) hx hb d_LA_seek_34 (by decide) ?_
      have hq0 := (g_some hf)
      subst hq0
      exact cx_vret hx hb hr hlocks hP hS d_LA_seek_63
  · have hf := g_t hf cb
    refine lv_aload_n hx hb d_LA_seek_13 rfl (lv_at hl 0 rfl) ?_
    refine lv_lload_n hx hb d_LA_seek_14 rfl (lv_at hl 1 rfl) ?_
    obtain ⟨la_7, h_la_7⟩ : ∃ z : LAt, z = (sLA_found la 0) := ⟨_, rfl⟩
    have hf := g_let hf h_la_7
    have hP : va_P (dC, dI) classes (wLA tC a la_7) H := by rw [h_la_7]; exact hP
    have hD : va_D A (wLA tC a la_7) := by rw [h_la_7]; exact hD
    obtain ⟨la_8, hc_3, hf⟩ := g_bind hf
    try dsimp only at hf
    refine cx_callV (As := [.long x1]) (rest := []) ⟨hx, hb, hml, hown, hts⟩ (c_LA_slide l dC dI tC a k x1 la_7 la_8 hc_3) (k_LA_38 hts ⟨Nat.le_of_ble_eq_true rfl, Nat.le_of_ble_eq_true rfl⟩) hl.1 hP hD hS hA hK hN [0, 1, 2] 0 1 rfl rfl rfl rfl rfl rfl rfl rfl (Nat.le_of_ble_eq_true rfl) d_LA_seek_15 ⟨Nat.zero_le _, Nat.zero_le _⟩ (fun H locs hP hD hS => ?_)
    have hP : va_P (dC, dI) classes (wLA tC a la_8) H := hP
    have hD : va_D A (wLA tC a la_8) := hD
    refine W.eq (g2 := F0 m 18 ls []) rfl ?_
    refine lv_goto (tgt := 63) hx hb d_LA_seek_18 (by decide) ?_
    have hq0 := (g_some hf)
    subst hq0
    exact cx_vret hx hb hr hlocks hP hS d_LA_seek_63
def f_LA_keepEndsAbove_L5 (x1 : Int64) : Nat → Int32 → Int32 → LAt → Option (Int32 × LAt)
  | 0, _, _, _ => none
  | n + 1, v3, v4, la_1 =>
    if (LA_found la_1) ≤ v4 then (
      some (v3, la_1)
    ) else
    if v4 < 0 ∨ 16 ≤ v4.toNatClampNeg then none else
    if (LA_ends la_1 v4.toNatClampNeg) ≤ x1 then (
      gl_let (v4 + 1) fun v4_1 =>
      f_LA_keepEndsAbove_L5 x1 n v3 v4_1 la_1
    ) else
    if v3 < 0 ∨ 16 ≤ v3.toNatClampNeg then none else
    gl_let (v3 + 1) fun v3_2 =>
    gl_let (v4 + 1) fun v4_2 =>
    gl_let ((sLA_ends (sLA_begins la_1 (vp_updL (LA_begins la_1) v3.toNatClampNeg (LA_begins la_1 v4.toNatClampNeg))) (vp_updL (LA_ends la_1) v3.toNatClampNeg (LA_ends la_1 v4.toNatClampNeg))) : LAt) fun la_3 =>
    f_LA_keepEndsAbove_L5 x1 n v3_2 v4_2 la_3
def f_LA_keepEndsAbove (k : Nat) (x1 : Int64) (la : LAt) : Option LAt :=
  (f_LA_keepEndsAbove_L5 x1 k 0 0 la).bind fun (v3_1, la_2) =>
  some (sLA_found la_2 v3_1)
set_option maxHeartbeats 4000000 in
set_option maxRecDepth 100000 in
theorem c_LA_keepEndsAbove (l : Launch) (dC : Nat → ClassId) (dI : Nat → Nat → Nat) (tC : Nat → ClassId) (a : Nat → Nat) (k : Nat) (x1 : Int64) (la : LAt) (laR : LAt) (hf : f_LA_keepEndsAbove k x1 la = some laR) : cx_M l y_LA_keepEndsAbove w_LA_keepEndsAbove { frames := 0, cells := 0, slots := 0, locals := 0 } (dC, dI) classes (tyS tC) [.ref (a 0), .long x1] (wLA tC a la) (wLA tC a laR) (none) := by
  refine cx_of (cc := b_LA_keepEndsAbove) (maxL := 5) (ret := none) (plainFor_of_name (by decide)) rfl (Nat.le_of_ble_eq_true rfl) ?_
  intro p e s m below meth c hx hb hr hml hown hts hlocks A hA H locs ls hK hN hP hD hS hl
  have hown : s.vm.findClass R_LA = some m.cls := hown
  have hl : lv_has ls 5 [(0, .ref (a 0)), (1, .long x1)] := hl
  unfold f_LA_keepEndsAbove at hf
  refine lv_iconst (v := 0) hx hb d_LA_keepEndsAbove_0 (by decide) ?_
  refine lv_istore_n (lv' := [(3, .int 0), (0, .ref (a 0)), (1, .long x1)]) hx hb d_LA_keepEndsAbove_1 rfl hl (by decide) rfl (fun ls hl => ?_)
  refine lv_iconst (v := 0) hx hb d_LA_keepEndsAbove_2 (by decide) ?_
  refine lv_istore (lv' := [(4, .int 0), (3, .int 0), (0, .ref (a 0)), (1, .long x1)]) hx hb d_LA_keepEndsAbove_3 hl (by decide) rfl (fun ls hl => ?_)
  have L_5 : ∀ (n : Nat) (v3 : Int32) (v4 : Int32) (la_1 : LAt) (v3_1 : Int32) (la_2 : LAt), f_LA_keepEndsAbove_L5 x1 n v3 v4 la_1 = some (v3_1, la_2) → ∀ (H : Heap) (locs : List Loc) (ls : Array Slot), va_P (dC, dI) classes (wLA tC a la_1) H → va_D A (wLA tC a la_1) → va_S A s.heap H locs → lv_has ls 5 [(0, .ref (a 0)), (1, .long x1), (3, .int v3), (4, .int v4)] → (∀ (H : Heap) (locs : List Loc) (ls : Array Slot), va_P (dC, dI) classes (wLA tC a la_2) H → va_D A (wLA tC a la_2) → va_S A s.heap H locs → lv_has ls 5 [(0, .ref (a 0)), (3, .int v3_1)] → W p l e { frames := 0, cells := 0, slots := 0, locals := 0 } s m [.ref (a 0), .long x1].toArray below meth c H locs 0 0 (cx_Z (dC, dI) classes below [.ref (a 0), .long x1] s (wLA tC a laR) (none) A) (F0 m 61 ls [])) → W p l e { frames := 0, cells := 0, slots := 0, locals := 0 } s m [.ref (a 0), .long x1].toArray below meth c H locs 0 0 (cx_Z (dC, dI) classes below [.ref (a 0), .long x1] s (wLA tC a laR) (none) A) (F0 m 5 ls []) := by
    intro n
    induction n with
    | zero =>
      intro v3 v4 la_1 v3_1 la_2 hf
      rw [f_LA_keepEndsAbove_L5] at hf
      cases hf
    | succ n ih =>
      intro v3 v4 la_1 v3_1 la_2 hf H locs ls hP hD hS hl kk
      rw [f_LA_keepEndsAbove_L5] at hf
      refine lv_iload hx hb d_LA_keepEndsAbove_5 (lv_at hl 3 rfl) ?_
      refine lv_aload_n hx hb d_LA_keepEndsAbove_7 rfl (lv_at hl 0 rfl) ?_
      refine va_get (D := (dC, dI)) (ci := 1) (v := .int (LA_found la_1)) (C := R_LA) (T := F_LA) (N := 8) hx hb hts (in_LA _) hown hK hP 0 rfl rfl 7 (by decide) (hts _ (List.mem_cons_of_mem _ mw_213)) (fun _ h9 => h9) rfl d_LA_keepEndsAbove_8 ?_
      refine lv_icmp_ge (tgt := 61) hx hb d_LA_keepEndsAbove_11 (by decide) (fun cb => ?_) (fun cb => ?_)
      · have hf := g_t hf cb
        obtain ⟨hq0, hr1⟩ := Prod.mk.inj (g_some hf)
        subst hq0
        subst hr1
        exact kk _ _ _ hP hD hS (lv_sub hl [0, 2] rfl)
      · have hf := g_f hf cb
        refine lv_aload_n hx hb d_LA_keepEndsAbove_14 rfl (lv_at hl 0 rfl) ?_
        refine va_get (D := (dC, dI)) (ci := 1) (v := .ref (a 2)) (C := R_LA) (T := F_LA) (N := 8) hx hb hts (in_LA _) hown hK hP 0 rfl rfl 4 (by decide) (hts _ (List.mem_cons_of_mem _ mw_207)) (fun _ h9 => h9) rfl d_LA_keepEndsAbove_15 ?_
        refine lv_iload hx hb d_LA_keepEndsAbove_18 (lv_at hl 3 rfl) ?_
        obtain ⟨ck, hf⟩ := g_ck hf
        refine va_lald (D := (dC, dI)) hx hb hK hP 2 1 rfl rfl ck d_LA_keepEndsAbove_20 ?_
        refine lv_lload_n hx hb d_LA_keepEndsAbove_21 rfl (lv_at hl 1 rfl) ?_
        refine cq_le (tgt := 55) hx hb d_LA_keepEndsAbove_22 d_LA_keepEndsAbove_23 (by decide) (fun cb_1 => ?_) (fun cb_1 => ?_)
        · have hf := g_t hf cb_1
          obtain ⟨v4_1, h_v4_1⟩ : ∃ z : Int32, z = v4 + 1 := ⟨_, rfl⟩
          have hf := g_let hf h_v4_1
          refine lv_iinc (v := v4_1) (lv' := [(4, .int v4_1), (0, .ref (a 0)), (1, .long x1), (3, .int v3)]) hx hb d_LA_keepEndsAbove_55 hl (k := 3) rfl (by rw [h_v4_1]; rfl) (by decide) rfl (fun ls hl => ?_)
          refine lv_goto (tgt := 5) hx hb d_LA_keepEndsAbove_58 (by decide) ?_
          exact ih v3 v4_1 la_1 v3_1 la_2 hf H locs ls hP hD hS (lv_sub hl [1, 2, 3, 0] rfl) kk
        · have hf := g_f hf cb_1
          refine lv_aload_n hx hb d_LA_keepEndsAbove_26 rfl (lv_at hl 0 rfl) ?_
          refine va_get (D := (dC, dI)) (ci := 1) (v := .ref (a 1)) (C := R_LA) (T := F_LA) (N := 8) hx hb hts (in_LA _) hown hK hP 0 rfl rfl 3 (by decide) (hts _ (List.mem_cons_of_mem _ mw_205)) (fun _ h9 => h9) rfl d_LA_keepEndsAbove_27 ?_
          refine lv_iload_n hx hb d_LA_keepEndsAbove_30 rfl (lv_at hl 2 rfl) ?_
          refine lv_aload_n hx hb d_LA_keepEndsAbove_31 rfl (lv_at hl 0 rfl) ?_
          refine va_get (D := (dC, dI)) (ci := 1) (v := .ref (a 1)) (C := R_LA) (T := F_LA) (N := 8) hx hb hts (in_LA _) hown hK hP 0 rfl rfl 3 (by decide) (hts _ (List.mem_cons_of_mem _ mw_205)) (fun _ h9 => h9) rfl d_LA_keepEndsAbove_32 ?_
          refine lv_iload hx hb d_LA_keepEndsAbove_35 (lv_at hl 3 rfl) ?_
          refine va_lald (D := (dC, dI)) hx hb hK hP 1 1 rfl rfl ck d_LA_keepEndsAbove_37 ?_
          obtain ⟨ck_1, hf⟩ := g_ck hf
          refine va_last (D := (dC, dI)) hx hb hK hP hD hS 1 1 rfl rfl ck_1 d_LA_keepEndsAbove_38 (fun H locs hP hD hS => ?_)
          have hP : va_P (dC, dI) classes (wLA tC a (sLA_begins la_1 (vp_updL (LA_begins la_1) v3.toNatClampNeg (LA_begins la_1 v4.toNatClampNeg)))) H := hP
          have hD : va_D A (wLA tC a (sLA_begins la_1 (vp_updL (LA_begins la_1) v3.toNatClampNeg (LA_begins la_1 v4.toNatClampNeg)))) := hD
          refine lv_aload_n hx hb d_LA_keepEndsAbove_39 rfl (lv_at hl 0 rfl) ?_
          refine va_get (D := (dC, dI)) (ci := 1) (v := .ref (a 2)) (C := R_LA) (T := F_LA) (N := 8) hx hb hts (in_LA _) hown hK hP 0 rfl rfl 4 (by decide) (hts _ (List.mem_cons_of_mem _ mw_207)) (fun _ h9 => h9) rfl d_LA_keepEndsAbove_40 ?_
          refine lv_iload_n hx hb d_LA_keepEndsAbove_43 rfl (lv_at hl 2 rfl) ?_
          refine lv_aload_n hx hb d_LA_keepEndsAbove_44 rfl (lv_at hl 0 rfl) ?_
          refine va_get (D := (dC, dI)) (ci := 1) (v := .ref (a 2)) (C := R_LA) (T := F_LA) (N := 8) hx hb hts (in_LA _) hown hK hP 0 rfl rfl 4 (by decide) (hts _ (List.mem_cons_of_mem _ mw_207)) (fun _ h9 => h9) rfl d_LA_keepEndsAbove_45 ?_
          refine lv_iload hx hb d_LA_keepEndsAbove_48 (lv_at hl 3 rfl) ?_
          refine va_lald (D := (dC, dI)) hx hb hK hP 2 1 rfl rfl ck d_LA_keepEndsAbove_50 ?_
          refine va_last (D := (dC, dI)) hx hb hK hP hD hS 2 1 rfl rfl ck_1 d_LA_keepEndsAbove_51 (fun H locs hP hD hS => ?_)
          have hP : va_P (dC, dI) classes (wLA tC a (sLA_ends (sLA_begins la_1 (vp_updL (LA_begins la_1) v3.toNatClampNeg (LA_begins la_1 v4.toNatClampNeg))) (vp_updL (LA_ends la_1) v3.toNatClampNeg (LA_ends la_1 v4.toNatClampNeg)))) H := hP
          have hD : va_D A (wLA tC a (sLA_ends (sLA_begins la_1 (vp_updL (LA_begins la_1) v3.toNatClampNeg (LA_begins la_1 v4.toNatClampNeg))) (vp_updL (LA_ends la_1) v3.toNatClampNeg (LA_ends la_1 v4.toNatClampNeg)))) := hD
          obtain ⟨v3_2, h_v3_2⟩ : ∃ z : Int32, z = v3 + 1 := ⟨_, rfl⟩
          have hf := g_let hf h_v3_2
          refine lv_iinc (v := v3_2) (lv' := [(3, .int v3_2), (0, .ref (a 0)), (1, .long x1), (4, .int v4)]) hx hb d_LA_keepEndsAbove_52 hl (k := 2) rfl (by rw [h_v3_2]; rfl) (by decide) rfl (fun ls hl => ?_)
          obtain ⟨v4_2, h_v4_2⟩ : ∃ z : Int32, z = v4 + 1 := ⟨_, rfl⟩
          have hf := g_let hf h_v4_2
          refine lv_iinc (v := v4_2) (lv' := [(4, .int v4_2), (3, .int v3_2), (0, .ref (a 0)), (1, .long x1)]) hx hb d_LA_keepEndsAbove_55 hl (k := 3) rfl (by rw [h_v4_2]; rfl) (by decide) rfl (fun ls hl => ?_)
          refine lv_goto (tgt := 5) hx hb d_LA_keepEndsAbove_58 (by decide) ?_
          obtain ⟨la_3, h_la_3⟩ : ∃ z : LAt, z = (sLA_ends (sLA_begins la_1 (vp_updL (LA_begins la_1) v3.toNatClampNeg (LA_begins la_1 v4.toNatClampNeg))) (vp_updL (LA_ends la_1) v3.toNatClampNeg (LA_ends la_1 v4.toNatClampNeg))) := ⟨_, rfl⟩
          have hf := g_let hf h_la_3
          have hP : va_P (dC, dI) classes (wLA tC a la_3) H := by rw [h_la_3]; exact hP
          have hD : va_D A (wLA tC a la_3) := by rw [h_la_3]; exact hD
          exact ih v3_2 v4_2 la_3 v3_1 la_2 hf H locs ls hP hD hS (lv_sub hl [2, 3, 1, 0] rfl) kk
  obtain ⟨⟨v3_1, la_2⟩, hL_5, hf⟩ := g_bind hf
  try dsimp only at hf
  refine L_5 k 0 0 la v3_1 la_2 hL_5 H locs ls hP hD hS (lv_sub hl [2, 3, 1, 0] rfl) (fun H locs ls hP hD hS hl => ?_)
  refine lv_aload_n hx hb d_LA_keepEndsAbove_61 rfl (lv_at hl 0 rfl) ?_
  refine lv_iload_n hx hb d_LA_keepEndsAbove_62 rfl (lv_at hl 1 rfl) ?_
  refine va_put (D := (dC, dI)) (ci := 1) (v := .int v3_1) (ty := .int) (C := R_LA) (T := F_LA) (N := 8) hx hb hts (in_LA _) t_LA t_LA_ok n_LA hown hK hP hD hS 0 rfl rfl 7 (by decide) (hts _ (List.mem_cons_of_mem _ mw_213)) (fun _ h9 => h9) rfl (by decide +kernel) rfl rfl (Nat.le_of_ble_eq_true rfl) d_LA_keepEndsAbove_63 (fun H locs hP hD hS => ?_)
  have hP : va_P (dC, dI) classes (wLA tC a (sLA_found la_2 v3_1)) H := hP
  have hD : va_D A (wLA tC a (sLA_found la_2 v3_1)) := hD
  have hq0 := (g_some hf)
  subst hq0
  exact cx_vret hx hb hr hlocks hP hS d_LA_keepEndsAbove_66
