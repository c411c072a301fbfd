def f_RS_isFull (rs : RSt) : Int32 :=
  if (RS_kept rs) < 300 then (
    0
  ) else
  1
theorem z_RS_isFull (rs : RSt) : narrow .boolean (.int (f_RS_isFull rs)) = .int (f_RS_isFull rs) := by
  unfold f_RS_isFull
  first | ((repeat' split) <;> rfl) | exact z_SR_isWithin _ _ _
set_option maxHeartbeats 4000000 in
set_option maxRecDepth 100000 in
theorem c_RS_isFull (l : Launch) (dC : Nat → ClassId) (dI : Nat → Nat → Nat) (tC : Nat → ClassId) (a : Nat → Nat) (rs : RSt) (res : Int32) (hf : f_RS_isFull rs = res) : cx_M l y_RS_isFull w_RS_isFull { frames := 0, cells := 0, slots := 0, locals := 0 } (dC, dI) classes (tyS tC) [.ref (a 0)] (wRS tC a rs) (wRS tC a rs) (some (.int res)) := by
  refine cx_of (cc := b_RS_isFull) (maxL := 1) (ret := some .boolean) (plainFor_of_name (by decide)) rfl (Nat.le_of_ble_eq_true rfl) ?_
  intro p e s m below meth c hx hb hr hml hown hts hlocks A hA H locs ls hK hN hP hD hS hl
  have hown : s.vm.findClass R_RS = some m.cls := hown
  have hl : lv_has ls 1 [(0, .ref (a 0))] := hl
  unfold f_RS_isFull at hf
  refine lv_aload_n hx hb d_RS_isFull_0 rfl (lv_at hl 0 rfl) ?_
  refine va_get (D := (dC, dI)) (ci := 3) (v := .int (RS_kept rs)) (C := R_RS) (T := F_RS) (N := 7) hx hb hts (in_RS _) hown hK hP 0 rfl rfl 6 (by decide) (hts _ (List.mem_cons_of_mem _ mw_57)) (fun _ h9 => h9) rfl d_RS_isFull_1 ?_
  refine lv_sipush (v := 300) hx hb d_RS_isFull_4 (by decide) ?_
  refine lv_icmp_lt (tgt := 14) hx hb d_RS_isFull_7 (by decide) (fun cb => ?_) (fun cb => ?_)
  · have hf := g_t hf cb
    refine lv_iconst (v := 0) hx hb d_RS_isFull_14 (by decide) ?_
    have hq0 := hf
    subst hq0
    exact cx_zret hx hb hr hlocks rfl hP hS d_RS_isFull_15
  · have hf := g_f hf cb
    refine lv_iconst (v := 1) hx hb d_RS_isFull_10 (by decide) ?_
    refine lv_goto (tgt := 15) hx hb d_RS_isFull_11 (by decide) ?_
    have hq0 := hf
    subst hq0
    exact cx_zret hx hb hr hlocks rfl hP hS d_RS_isFull_15
def f_RS_add_L50 (x2 : Int64) : Nat → Int32 → RSt → Option (Int32 × RSt)
  | 0, _, _ => none
  | n + 1, v7_1, rs_2 =>
    if v7_1 ≤ 0 then (
      some (v7_1, rs_2)
    ) else
    if (v7_1 - 1) < 0 ∨ 300 ≤ (v7_1 - 1).toNatClampNeg then none else
    if (RS_order rs_2 (v7_1 - 1).toNatClampNeg) < 0 ∨ 300 ≤ (RS_order rs_2 (v7_1 - 1).toNatClampNeg).toNatClampNeg then none else
    if (RS_times rs_2 (RS_order rs_2 (v7_1 - 1).toNatClampNeg).toNatClampNeg) ≤ x2 then (
      some (v7_1, rs_2)
    ) else
    if v7_1 < 0 ∨ 300 ≤ v7_1.toNatClampNeg then none else
    gl_let (v7_1 + (-1)) fun v7_3 =>
    gl_let ((sRS_order rs_2 (upd (RS_order rs_2) v7_1.toNatClampNeg (RS_order rs_2 (v7_1 - 1).toNatClampNeg))) : RSt) fun rs_4 =>
    f_RS_add_L50 x2 n v7_3 rs_4
def f_RS_add (k : Nat) (x1 : Int32) (x2 : Int64) (x4 : Int64) (rs : RSt) : Option (Int32 × RSt) :=
  if (RS_kept rs) < 0 ∨ 300 ≤ (RS_kept rs).toNatClampNeg then none else
  gl_let ((RS_order rs (RS_kept rs).toNatClampNeg)) fun v6 =>
  if v6 < 0 ∨ 300 ≤ v6.toNatClampNeg then none else
  gl_let ((RS_kept rs)) fun v7 =>
  gl_let ((sRS_numbers (sRS_values (sRS_times (sRS_keys rs (upd (RS_keys rs) v6.toNatClampNeg x1)) (vp_updL (RS_times rs) v6.toNatClampNeg x2)) (vp_updL (RS_values rs) v6.toNatClampNeg x4)) (upd (RS_numbers rs) v6.toNatClampNeg (-1))) : RSt) fun rs_1 =>
  (f_RS_add_L50 x2 k v7 rs_1).bind fun (v7_2, rs_3) =>
  if v7_2 < 0 ∨ 300 ≤ v7_2.toNatClampNeg then none else
  some (v6, (sRS_kept (sRS_order rs_3 (upd (RS_order rs_3) v7_2.toNatClampNeg v6)) ((RS_kept rs_3) + 1)))
set_option maxHeartbeats 4000000 in
set_option maxRecDepth 100000 in
theorem c_RS_add (l : Launch) (dC : Nat → ClassId) (dI : Nat → Nat → Nat) (tC : Nat → ClassId) (a : Nat → Nat) (k : Nat) (x1 : Int32) (x2 : Int64) (x4 : Int64) (rs : RSt) (res : Int32) (rsR : RSt) (hf : f_RS_add k x1 x2 x4 rs = some (res, rsR)) : cx_M l y_RS_add w_RS_add { frames := 0, cells := 0, slots := 0, locals := 0 } (dC, dI) classes (tyS tC) [.ref (a 0), .int x1, .long x2, .long x4] (wRS tC a rs) (wRS tC a rsR) (some (.int res)) := by
  refine cx_of (cc := b_RS_add) (maxL := 8) (ret := some .int) (plainFor_of_name (by decide)) rfl (Nat.le_of_ble_eq_true rfl) ?_
  intro p e s m below meth c hx hb hr hml hown hts hlocks A hA H locs ls hK hN hP hD hS hl
  have hown : s.vm.findClass R_RS = some m.cls := hown
  have hl : lv_has ls 8 [(0, .ref (a 0)), (1, .int x1), (2, .long x2), (4, .long x4)] := hl
  unfold f_RS_add at hf
  refine lv_aload_n hx hb d_RS_add_0 rfl (lv_at hl 0 rfl) ?_
  refine va_get (D := (dC, dI)) (ci := 3) (v := .ref (a 6)) (C := R_RS) (T := F_RS) (N := 7) hx hb hts (in_RS _) hown hK hP 0 rfl rfl 5 (by decide) (hts _ (List.mem_cons_of_mem _ mw_55)) (fun _ h9 => h9) rfl d_RS_add_1 ?_
  refine lv_aload_n hx hb d_RS_add_4 rfl (lv_at hl 0 rfl) ?_
  refine va_get (D := (dC, dI)) (ci := 3) (v := .int (RS_kept rs)) (C := R_RS) (T := F_RS) (N := 7) hx hb hts (in_RS _) hown hK hP 0 rfl rfl 6 (by decide) (hts _ (List.mem_cons_of_mem _ mw_57)) (fun _ h9 => h9) rfl d_RS_add_5 ?_
  obtain ⟨ck, hf⟩ := g_ck hf
  refine va_iald (D := (dC, dI)) hx hb hK hP 6 0 rfl rfl ck d_RS_add_8 ?_
  refine lv_topi (fun v6 h_v6 => ?_)
  have hf := g_let hf h_v6
  refine lv_istore (lv' := [(6, .int v6), (0, .ref (a 0)), (1, .int x1), (2, .long x2), (4, .long x4)]) hx hb d_RS_add_9 hl (by decide) rfl (fun ls hl => ?_)
  refine lv_aload_n hx hb d_RS_add_11 rfl (lv_at hl 1 rfl) ?_
  refine va_get (D := (dC, dI)) (ci := 3) (v := .ref (a 1)) (C := R_RS) (T := F_RS) (N := 7) hx hb hts (in_RS _) hown hK hP 0 rfl rfl 0 (by decide) (hts _ (List.mem_cons_of_mem _ mw_45)) (fun _ h9 => h9) rfl d_RS_add_12 ?_
  refine lv_iload hx hb d_RS_add_15 (lv_at hl 0 rfl) ?_
  refine lv_iload_n hx hb d_RS_add_17 rfl (lv_at hl 2 rfl) ?_
  obtain ⟨ck_1, hf⟩ := g_ck hf
  refine va_iast (D := (dC, dI)) hx hb hK hP hD hS 1 0 rfl rfl ck_1 d_RS_add_18 (fun H locs hP hD hS => ?_)
  have hP : va_P (dC, dI) classes (wRS tC a (sRS_keys rs (upd (RS_keys rs) v6.toNatClampNeg x1))) H := hP
  have hD : va_D A (wRS tC a (sRS_keys rs (upd (RS_keys rs) v6.toNatClampNeg x1))) := hD
  refine lv_aload_n hx hb d_RS_add_19 rfl (lv_at hl 1 rfl) ?_
  refine va_get (D := (dC, dI)) (ci := 3) (v := .ref (a 2)) (C := R_RS) (T := F_RS) (N := 7) hx hb hts (in_RS _) hown hK hP 0 rfl rfl 1 (by decide) (hts _ (List.mem_cons_of_mem _ mw_47)) (fun _ h9 => h9) rfl d_RS_add_20 ?_
  refine lv_iload hx hb d_RS_add_23 (lv_at hl 0 rfl) ?_
  refine lv_lload_n hx hb d_RS_add_25 rfl (lv_at hl 3 rfl) ?_
  refine va_last (D := (dC, dI)) hx hb hK hP hD hS 2 1 rfl rfl ck_1 d_RS_add_26 (fun H locs hP hD hS => ?_)
  have hP : va_P (dC, dI) classes (wRS tC a (sRS_times (sRS_keys rs (upd (RS_keys rs) v6.toNatClampNeg x1)) (vp_updL (RS_times rs) v6.toNatClampNeg x2))) H := hP
  have hD : va_D A (wRS tC a (sRS_times (sRS_keys rs (upd (RS_keys rs) v6.toNatClampNeg x1)) (vp_updL (RS_times rs) v6.toNatClampNeg x2))) := hD
  refine lv_aload_n hx hb d_RS_add_27 rfl (lv_at hl 1 rfl) ?_
  refine va_get (D := (dC, dI)) (ci := 3) (v := .ref (a 3)) (C := R_RS) (T := F_RS) (N := 7) hx hb hts (in_RS _) hown hK hP 0 rfl rfl 2 (by decide) (hts _ (List.mem_cons_of_mem _ mw_49)) (fun _ h9 => h9) rfl d_RS_add_28 ?_
  refine lv_iload hx hb d_RS_add_31 (lv_at hl 0 rfl) ?_
  refine lv_lload hx hb d_RS_add_33 (lv_at hl 4 rfl) ?_
  refine va_last (D := (dC, dI)) hx hb hK hP hD hS 3 1 rfl rfl ck_1 d_RS_add_35 (fun H locs hP hD hS => ?_)
  have hP : va_P (dC, dI) classes (wRS tC a (sRS_values (sRS_times (sRS_keys rs (upd (RS_keys rs) v6.toNatClampNeg x1)) (vp_updL (RS_times rs) v6.toNatClampNeg x2)) (vp_updL (RS_values rs) v6.toNatClampNeg x4))) H := hP
  have hD : va_D A (wRS tC a (sRS_values (sRS_times (sRS_keys rs (upd (RS_keys rs) v6.toNatClampNeg x1)) (vp_updL (RS_times rs) v6.toNatClampNeg x2)) (vp_updL (RS_values rs) v6.toNatClampNeg x4))) := hD
  refine lv_aload_n hx hb d_RS_add_36 rfl (lv_at hl 1 rfl) ?_
  refine va_get (D := (dC, dI)) (ci := 3) (v := .ref (a 4)) (C := R_RS) (T := F_RS) (N := 7) hx hb hts (in_RS _) hown hK hP 0 rfl rfl 3 (by decide) (hts _ (List.mem_cons_of_mem _ mw_51)) (fun _ h9 => h9) rfl d_RS_add_37 ?_
  refine lv_iload hx hb d_RS_add_40 (lv_at hl 0 rfl) ?_
  refine lv_iconst (v := (-1)) hx hb d_RS_add_42 (by decide) ?_
  refine va_iast (D := (dC, dI)) hx hb hK hP hD hS 4 0 rfl rfl ck_1 d_RS_add_43 (fun H locs hP hD hS => ?_)
  have hP : va_P (dC, dI) classes (wRS tC a (sRS_numbers (sRS_values (sRS_times (sRS_keys rs (upd (RS_keys rs) v6.toNatClampNeg x1)) (vp_updL (RS_times rs) v6.toNatClampNeg x2)) (vp_updL (RS_values rs) v6.toNatClampNeg x4)) (upd (RS_numbers rs) v6.toNatClampNeg (-1)))) H := hP
  have hD : va_D A (wRS tC a (sRS_numbers (sRS_values (sRS_times (sRS_keys rs (upd (RS_keys rs) v6.toNatClampNeg x1)) (vp_updL (RS_times rs) v6.toNatClampNeg x2)) (vp_updL (RS_values rs) v6.toNatClampNeg x4)) (upd (RS_numbers rs) v6.toNatClampNeg (-1)))) := hD
  refine lv_aload_n hx hb d_RS_add_44 rfl (lv_at hl 1 rfl) ?_
  refine va_get (D := (dC, dI)) (ci := 3) (v := .int (RS_kept rs)) (C := R_RS) (T := F_RS) (N := 7) hx hb hts (in_RS _) hown hK hP 0 rfl rfl 6 (by decide) (hts _ (List.mem_cons_of_mem _ mw_57)) (fun _ h9 => h9) rfl d_RS_add_45 ?_
  refine lv_topi (fun v7 h_v7 => ?_)
  have hf := g_let hf h_v7
  refine lv_istore (lv' := [(7, .int v7), (6, .int v6), (0, .ref (a 0)), (1, .int x1), (2, .long x2), (4, .long x4)]) hx hb d_RS_add_48 hl (by decide) rfl (fun ls hl => ?_)
  obtain ⟨rs_1, h_rs_1⟩ : ∃ z : RSt, z = (sRS_numbers (sRS_values (sRS_times (sRS_keys rs (upd (RS_keys rs) v6.toNatClampNeg x1)) (vp_updL (RS_times rs) v6.toNatClampNeg x2)) (vp_updL (RS_values rs) v6.toNatClampNeg x4)) (upd (RS_numbers rs) v6.toNatClampNeg (-1))) := ⟨_, rfl⟩
  have hf := g_let hf h_rs_1
  have hP : va_P (dC, dI) classes (wRS tC a rs_1) H := by rw [h_rs_1]; exact hP
  have hD : va_D A (wRS tC a rs_1) := by rw [h_rs_1]; exact hD
  have L_50 : ∀ (n : Nat) (v7_1 : Int32) (rs_2 : RSt) (v7_2 : Int32) (rs_3 : RSt), f_RS_add_L50 x2 n v7_1 rs_2 = some (v7_2, rs_3) → ∀ (H : Heap) (locs : List Loc) (ls : Array Slot), va_P (dC, dI) classes (wRS tC a rs_2) H → va_D A (wRS tC a rs_2) → va_S A s.heap H locs → lv_has ls 8 [(0, .ref (a 0)), (2, .long x2), (6, .int v6), (7, .int v7_1)] → (∀ (H : Heap) (locs : List Loc) (ls : Array Slot), va_P (dC, dI) classes (wRS tC a rs_3) H → va_D A (wRS tC a rs_3) → va_S A s.heap H locs → lv_has ls 8 [(0, .ref (a 0)), (6, .int v6), (7, .int v7_2)] → W p l e { frames := 0, cells := 0, slots := 0, locals := 0 } s m [.ref (a 0), .int x1, .long x2, .long x4].toArray below meth c H locs 0 0 (cx_Z (dC, dI) classes below [.ref (a 0), .int x1, .long x2, .long x4] s (wRS tC a rsR) (some (.int res)) A) (F0 m 96 ls [])) → W p l e { frames := 0, cells := 0, slots := 0, locals := 0 } s m [.ref (a 0), .int x1, .long x2, .long x4].toArray below meth c H locs 0 0 (cx_Z (dC, dI) classes below [.ref (a 0), .int x1, .long x2, .long x4] s (wRS tC a rsR) (some (.int res)) A) (F0 m 50 ls []) := by
    intro n
    induction n with
    | zero =>
      intro v7_1 rs_2 v7_2 rs_3 hf
      rw [f_RS_add_L50] at hf
      cases hf
    | succ n ih =>
      intro v7_1 rs_2 v7_2 rs_3 hf H locs ls hP hD hS hl kk
      rw [f_RS_add_L50] at hf
      refine lv_iload hx hb d_RS_add_50 (lv_at hl 3 rfl) ?_
      refine lv_if_le (tgt := 96) hx hb d_RS_add_52 (by decide) (fun cb => ?_) (fun cb => ?_)
      · have hf := g_t hf cb
        obtain ⟨hq0, hr1⟩ := Prod.mk.inj (g_some hf)
        subst hq0
        subst hr1
        exact kk _ _ _ hP hD hS (lv_sub hl [0, 2, 3] rfl)
      · have hf := g_f hf cb
        refine lv_aload_n hx hb d_RS_add_55 rfl (lv_at hl 0 rfl) ?_
        refine va_get (D := (dC, dI)) (ci := 3) (v := .ref (a 2)) (C := R_RS) (T := F_RS) (N := 7) hx hb hts (in_RS _) hown hK hP 0 rfl rfl 1 (by decide) (hts _ (List.mem_cons_of_mem _ mw_47)) (fun _ h9 => h9) rfl d_RS_add_56 ?_
        refine lv_aload_n hx hb d_RS_add_59 rfl (lv_at hl 0 rfl) ?_
        refine va_get (D := (dC, dI)) (ci := 3) (v := .ref (a 6)) (C := R_RS) (T := F_RS) (N := 7) hx hb hts (in_RS _) hown hK hP 0 rfl rfl 5 (by decide) (hts _ (List.mem_cons_of_mem _ mw_55)) (fun _ h9 => h9) rfl d_RS_add_60 ?_
        refine lv_iload hx hb d_RS_add_63 (lv_at hl 3 rfl) ?_
        refine lv_iconst (v := 1) hx hb d_RS_add_65 (by decide) ?_
        refine lv_isub hx hb d_RS_add_66 ?_
        obtain ⟨ck_2, hf⟩ := g_ck hf
        refine va_iald (D := (dC, dI)) hx hb hK hP 6 0 rfl rfl ck_2 d_RS_add_67 ?_
        obtain ⟨ck_3, hf⟩ := g_ck hf
        refine va_lald (D := (dC, dI)) hx hb hK hP 2 1 rfl rfl ck_3 d_RS_add_68 ?_
        refine lv_lload_n hx hb d_RS_add_69 rfl (lv_at hl 1 rfl) ?_
        refine cq_le (tgt := 96) hx hb d_RS_add_70 d_RS_add_71 (by decide) (fun cb_1 => ?_) (fun cb_1 => ?_)
        · have hf := g_t hf cb_1
          obtain ⟨hq0, hr1⟩ := Prod.mk.inj (g_some hf)
          subst hq0
          subst hr1
          exact kk _ _ _ hP hD hS (lv_sub hl [0, 2, 3] rfl)
        · have hf := g_f hf cb_1
          refine lv_aload_n hx hb d_RS_add_74 rfl (lv_at hl 0 rfl) ?_
          refine va_get (D := (dC, dI)) (ci := 3) (v := .ref (a 6)) (C := R_RS) (T := F_RS) (N := 7) hx hb hts (in_RS _) hown hK hP 0 rfl rfl 5 (by decide) (hts _ (List.mem_cons_of_mem _ mw_55)) (fun _ h9 => h9) rfl d_RS_add_75 ?_
          refine lv_iload hx hb d_RS_add_78 (lv_at hl 3 rfl) ?_
          refine lv_aload_n hx hb d_RS_add_80 rfl (lv_at hl 0 rfl) ?_
          refine va_get (D := (dC, dI)) (ci := 3) (v := .ref (a 6)) (C := R_RS) (T := F_RS) (N := 7) hx hb hts (in_RS _) hown hK hP 0 rfl rfl 5 (by decide) (hts _ (List.mem_cons_of_mem _ mw_55)) (fun _ h9 => h9) rfl d_RS_add_81 ?_
          refine lv_iload hx hb d_RS_add_84 (lv_at hl 3 rfl) ?_
          refine lv_iconst (v := 1) hx hb d_RS_add_86 (by decide) ?_
          refine lv_isub hx hb d_RS_add_87 ?_
          refine va_iald (D := (dC, dI)) hx hb hK hP 6 0 rfl rfl ck_2 d_RS_add_88 ?_
          obtain ⟨ck_4, hf⟩ := g_ck hf
          refine va_iast (D := (dC, dI)) hx hb hK hP hD hS 6 0 rfl rfl ck_4 d_RS_add_89 (fun H locs hP hD hS => ?_)
          have hP : va_P (dC, dI) classes (wRS tC a (sRS_order rs_2 (upd (RS_order rs_2) v7_1.toNatClampNeg (RS_order rs_2 (v7_1 - 1).toNatClampNeg)))) H := hP
          have hD : va_D A (wRS tC a (sRS_order rs_2 (upd (RS_order rs_2) v7_1.toNatClampNeg (RS_order rs_2 (v7_1 - 1).toNatClampNeg)))) := hD
          obtain ⟨v7_3, h_v7_3⟩ : ∃ z : Int32, z = v7_1 + (-1) := ⟨_, rfl⟩
          have hf := g_let hf h_v7_3
          refine lv_iinc (v := v7_3) (lv' := [(7, .int v7_3), (0, .ref (a 0)), (2, .long x2), (6, .int v6)]) hx hb d_RS_add_90 hl (k := 3) rfl (by rw [h_v7_3]; rfl) (by decide) rfl (fun ls hl => ?_)
          refine lv_goto (tgt := 50) hx hb d_RS_add_93 (by decide) ?_
          obtain ⟨rs_4, h_rs_4⟩ : ∃ z : RSt, z = (sRS_order rs_2 (upd (RS_order rs_2) v7_1.toNatClampNeg (RS_order rs_2 (v7_1 - 1).toNatClampNeg))) := ⟨_, rfl⟩
          have hf := g_let hf h_rs_4
          have hP : va_P (dC, dI) classes (wRS tC a rs_4) H := by rw [h_rs_4]; exact hP
          have hD : va_D A (wRS tC a rs_4) := by rw [h_rs_4]; exact hD
          exact ih v7_3 rs_4 v7_2 rs_3 hf H locs ls hP hD hS (lv_sub hl [1, 2, 3, 0] rfl) kk
  obtain ⟨⟨v7_2, rs_3⟩, hL_50, hf⟩ := g_bind hf
  try dsimp only at hf
  refine L_50 k v7 rs_1 v7_2 rs_3 hL_50 H locs ls hP hD hS (lv_sub hl [2, 4, 1, 0] rfl) (fun H locs ls hP hD hS hl => ?_)
  refine lv_aload_n hx hb d_RS_add_96 rfl (lv_at hl 0 rfl) ?_
  refine va_get (D := (dC, dI)) (ci := 3) (v := .ref (a 6)) (C := R_RS) (T := F_RS) (N := 7) hx hb hts (in_RS _) hown hK hP 0 rfl rfl 5 (by decide) (hts _ (List.mem_cons_of_mem _ mw_55)) (fun _ h9 => h9) rfl d_RS_add_97 ?_
  refine lv_iload hx hb d_RS_add_100 (lv_at hl 2 rfl) ?_
  refine lv_iload hx hb d_RS_add_102 (lv_at hl 1 rfl) ?_
  obtain ⟨ck_5, hf⟩ := g_ck hf
  refine va_iast (D := (dC, dI)) hx hb hK hP hD hS 6 0 rfl rfl ck_5 d_RS_add_104 (fun H locs hP hD hS => ?_)
  have hP : va_P (dC, dI) classes (wRS tC a (sRS_order rs_3 (upd (RS_order rs_3) v7_2.toNatClampNeg v6))) H := hP
  have hD : va_D A (wRS tC a (sRS_order rs_3 (upd (RS_order rs_3) v7_2.toNatClampNeg v6))) := hD
  refine lv_aload_n hx hb d_RS_add_105 rfl (lv_at hl 0 rfl) ?_
  refine lv_dup hx hb d_RS_add_106 rfl ?_
  refine va_get (D := (dC, dI)) (ci := 3) (v := .int (RS_kept rs_3)) (C := R_RS) (T := F_RS) (N := 7) hx hb hts (in_RS _) hown hK hP 0 rfl rfl 6 (by decide) (hts _ (List.mem_cons_of_mem _ mw_57)) (fun _ h9 => h9) rfl d_RS_add_107 ?_
  refine lv_iconst (v := 1) hx hb d_RS_add_110 (by decide) ?_
  refine lv_iadd hx hb d_RS_add_111 ?_
  refine va_put (D := (dC, dI)) (ci := 3) (v := .int ((RS_kept rs_3) + 1)) (ty := .int) (C := R_RS) (T := F_RS) (N := 7) hx hb hts (in_RS _) t_RS t_RS_ok n_RS hown hK hP hD hS 0 rfl rfl 6 (by decide) (hts _ (List.mem_cons_of_mem _ mw_57)) (fun _ h9 => h9) rfl (by decide +kernel) rfl rfl (Nat.le_of_ble_eq_true rfl) d_RS_add_112 (fun H locs hP hD hS => ?_)
  have hP : va_P (dC, dI) classes (wRS tC a (sRS_kept (sRS_order rs_3 (upd (RS_order rs_3) v7_2.toNatClampNeg v6)) ((RS_kept rs_3) + 1))) H := hP
  have hD : va_D A (wRS tC a (sRS_kept (sRS_order rs_3 (upd (RS_order rs_3) v7_2.toNatClampNeg v6)) ((RS_kept rs_3) + 1))) := hD
  refine lv_iload hx hb d_RS_add_115 (lv_at hl 1 rfl) ?_
  obtain ⟨hq0, hr1⟩ := Prod.mk.inj (g_some hf)
  subst hq0
  subst hr1
  exact cx_iret hx hb hr hlocks hP hS d_RS_add_117
def f_RS_sweep_L4  : Nat → Int32 → Int32 → RSt → Option (Int32 × RSt)
  | 0, _, _, _ => none
  | n + 1, v1, v2, rs_1 =>
    if (RS_kept rs_1) ≤ v2 then (
      some (v1, rs_1)
    ) else
    if v2 < 0 ∨ 300 ≤ v2.toNatClampNeg then none else
    gl_let ((RS_order rs_1 v2.toNatClampNeg)) fun v3 =>
    if v3 < 0 ∨ 300 ≤ v3.toNatClampNeg then none else
    if (RS_leaves rs_1 v3.toNatClampNeg) = 0 then (
      if v1 < 0 ∨ 300 ≤ v1.toNatClampNeg then none else
      gl_let (v1 + 1) fun v1_2 =>
      gl_let (v2 + 1) fun v2_2 =>
      gl_let ((sRS_order rs_1 (upd (upd (RS_order rs_1) v2.toNatClampNeg (RS_order rs_1 v1.toNatClampNeg)) v1.toNatClampNeg v3)) : RSt) fun rs_3 =>
      f_RS_sweep_L4  n v1_2 v2_2 rs_3
    ) else
    gl_let (v2 + 1) fun v2_1 =>
    f_RS_sweep_L4  n v1 v2_1 rs_1
def f_RS_sweep (k : Nat) (rs : RSt) : Option RSt :=
  (f_RS_sweep_L4 k 0 0 rs).bind fun (v1_1, rs_2) =>
  some (sRS_kept rs_2 v1_1)
set_option maxHeartbeats 4000000 in
set_option maxRecDepth 100000 in
theorem c_RS_sweep (l : Launch) (dC : Nat → ClassId) (dI : Nat → Nat → Nat) (tC : Nat → ClassId) (a : Nat → Nat) (k : Nat) (rs : RSt) (rsR : RSt) (hf : f_RS_sweep k rs = some rsR) : cx_M l y_RS_sweep w_RS_sweep { frames := 0, cells := 0, slots := 0, locals := 0 } (dC, dI) classes (tyS tC) [.ref (a 0)] (wRS tC a rs) (wRS tC a rsR) (none) := by
  refine cx_of (cc := b_RS_sweep) (maxL := 4) (ret := none) (plainFor_of_name (by decide)) rfl (Nat.le_of_ble_eq_true rfl) ?_
  intro p e s m below meth c hx hb hr hml hown hts hlocks A hA H locs ls hK hN hP hD hS hl
  have hown : s.vm.findClass R_RS = some m.cls := hown
  have hl : lv_has ls 4 [(0, .ref (a 0))] := hl
  unfold f_RS_sweep at hf
  refine lv_iconst (v := 0) hx hb d_RS_sweep_0 (by decide) ?_
  refine lv_istore_n (lv' := [(1, .int 0), (0, .ref (a 0))]) hx hb d_RS_sweep_1 rfl hl (by decide) rfl (fun ls hl => ?_)
  refine lv_iconst (v := 0) hx hb d_RS_sweep_2 (by decide) ?_
  refine lv_istore_n (lv' := [(2, .int 0), (1, .int 0), (0, .ref (a 0))]) hx hb d_RS_sweep_3 rfl hl (by decide) rfl (fun ls hl => ?_)
  have L_4 : ∀ (n : Nat) (v1 : Int32) (v2 : Int32) (rs_1 : RSt) (v1_1 : Int32) (rs_2 : RSt), f_RS_sweep_L4 n v1 v2 rs_1 = some (v1_1, rs_2) → ∀ (H : Heap) (locs : List Loc) (ls : Array Slot), va_P (dC, dI) classes (wRS tC a rs_1) H → va_D A (wRS tC a rs_1) → va_S A s.heap H locs → lv_has ls 4 [(0, .ref (a 0)), (1, .int v1), (2, .int v2)] → (∀ (H : Heap) (locs : List Loc) (ls : Array Slot), va_P (dC, dI) classes (wRS tC a rs_2) H → va_D A (wRS tC a rs_2) → va_S A s.heap H locs → lv_has ls 4 [(0, .ref (a 0)), (1, .int v1_1)] → W p l e { frames := 0, cells := 0, slots := 0, locals := 0 } s m [.ref (a 0)].toArray below meth c H locs 0 0 (cx_Z (dC, dI) classes below [.ref (a 0)] s (wRS tC a rsR) (none) A) (F0 m 56 ls [])) → W p l e { frames := 0, cells := 0, slots := 0, locals := 0 } s m [.ref (a 0)].toArray below meth c H locs 0 0 (cx_Z (dC, dI) classes below [.ref (a 0)] s (wRS tC a rsR) (none) A) (F0 m 4 ls []) := by
    intro n
    induction n with
    | zero =>
      intro v1 v2 rs_1 v1_1 rs_2 hf
      rw [f_RS_sweep_L4] at hf
      cases hf
    | succ n ih =>
      intro v1 v2 rs_1 v1_1 rs_2 hf H locs ls hP hD hS hl kk
      rw [f_RS_sweep_L4] at hf
      refine lv_iload_n hx hb d_RS_sweep_4 rfl (lv_at hl 2 rfl) ?_
      refine lv_aload_n hx hb d_RS_sweep_5 rfl (lv_at hl 0 rfl) ?_
      refine va_get (D := (dC, dI)) (ci := 3) (v := .int (RS_kept rs_1)) (C := R_RS) (T := F_RS) (N := 7) hx hb hts (in_RS _) hown hK hP 0 rfl rfl 6 (by decide) (hts _ (List.mem_cons_of_mem _ mw_57)) (fun _ h9 => h9) rfl d_RS_sweep_6 ?_
      refine lv_icmp_ge (tgt := 56) hx hb d_RS_sweep_9 (by decide) (fun cb => ?_) (fun cb => ?_)
      · have hf := g_t hf cb
        obtain ⟨hq0, hr1⟩ := Prod.mk.inj (g_some hf)
        subst hq0
        subst hr1
        exact kk _ _ _ hP hD hS (lv_sub hl [0, 1] rfl)
      · have hf := g_f hf cb
        refine lv_aload_n hx hb d_RS_sweep_12 rfl (lv_at hl 0 rfl) ?_
        refine va_get (D := (dC, dI)) (ci := 3) (v := .ref (a 6)) (C := R_RS) (T := F_RS) (N := 7) hx hb hts (in_RS _) hown hK hP 0 rfl rfl 5 (by decide) (hts _ (List.mem_cons_of_mem _ mw_55)) (fun _ h9 => h9) rfl d_RS_sweep_13 ?_
        refine lv_iload_n hx hb d_RS_sweep_16 rfl (lv_at hl 2 rfl) ?_
        obtain ⟨ck, hf⟩ := g_ck hf
        refine va_iald (D := (dC, dI)) hx hb hK hP 6 0 rfl rfl ck d_RS_sweep_17 ?_
        refine lv_topi (fun v3 h_v3 => ?_)
        have hf := g_let hf h_v3
        refine lv_istore_n (lv' := [(3, .int v3), (0, .ref (a 0)), (1, .int v1), (2, .int v2)]) hx hb d_RS_sweep_18 rfl hl (by decide) rfl (fun ls hl => ?_)
        refine lv_aload_n hx hb d_RS_sweep_19 rfl (lv_at hl 1 rfl) ?_
        refine va_get (D := (dC, dI)) (ci := 3) (v := .ref (a 5)) (C := R_RS) (T := F_RS) (N := 7) hx hb hts (in_RS _) hown hK hP 0 rfl rfl 4 (by decide) (hts _ (List.mem_cons_of_mem _ mw_53)) (fun _ h9 => h9) rfl d_RS_sweep_20 ?_
        refine lv_iload_n hx hb d_RS_sweep_23 rfl (lv_at hl 0 rfl) ?_
        obtain ⟨ck_1, hf⟩ := g_ck hf
        refine va_zald (D := (dC, dI)) hx hb hK hP 5 2 rfl rfl ck_1 d_RS_sweep_24 ?_
        refine lv_if_ne (tgt := 50) hx hb d_RS_sweep_25 (by decide) (fun cb_1 => ?_) (fun cb_1 => ?_)
        · have hf := g_f hf cb_1
          obtain ⟨v2_1, h_v2_1⟩ : ∃ z : Int32, z = v2 + 1 := ⟨_, rfl⟩
          have hf := g_let hf h_v2_1
          refine lv_iinc (v := v2_1) (lv' := [(2, .int v2_1), (3, .int v3), (0, .ref (a 0)), (1, .int v1)]) hx hb d_RS_sweep_50 hl (k := 3) rfl (by rw [h_v2_1]; rfl) (by decide) rfl (fun ls hl => ?_)
          refine lv_goto (tgt := 4) hx hb d_RS_sweep_53 (by decide) ?_
          exact ih v1 v2_1 rs_1 v1_1 rs_2 hf H locs ls hP hD hS (lv_sub hl [2, 3, 0] rfl) kk
        · have hf := g_t hf cb_1
          refine lv_aload_n hx hb d_RS_sweep_28 rfl (lv_at hl 1 rfl) ?_
          refine va_get (D := (dC, dI)) (ci := 3) (v := .ref (a 6)) (C := R_RS) (T := F_RS) (N := 7) hx hb hts (in_RS _) hown hK hP 0 rfl rfl 5 (by decide) (hts _ (List.mem_cons_of_mem _ mw_55)) (fun _ h9 => h9) rfl d_RS_sweep_29 ?_
          refine lv_iload_n hx hb d_RS_sweep_32 rfl (lv_at hl 3 rfl) ?_
          refine lv_aload_n hx hb d_RS_sweep_33 rfl (lv_at hl 1 rfl) ?_
          refine va_get (D := (dC, dI)) (ci := 3) (v := .ref (a 6)) (C := R_RS) (T := F_RS) (N := 7) hx hb hts (in_RS _) hown hK hP 0 rfl rfl 5 (by decide) (hts _ (List.mem_cons_of_mem _ mw_55)) (fun _ h9 => h9) rfl d_RS_sweep_34 ?_
          refine lv_iload_n hx hb d_RS_sweep_37 rfl (lv_at hl 2 rfl) ?_
          obtain ⟨ck_2, hf⟩ := g_ck hf
          refine va_iald (D := (dC, dI)) hx hb hK hP 6 0 rfl rfl ck_2 d_RS_sweep_38 ?_
          refine va_iast (D := (dC, dI)) hx hb hK hP hD hS 6 0 rfl rfl ck d_RS_sweep_39 (fun H locs hP hD hS => ?_)
          have hP : va_P (dC, dI) classes (wRS tC a (sRS_order rs_1 (upd (RS_order rs_1) v2.toNatClampNeg (RS_order rs_1 v1.toNatClampNeg)))) H := hP
          have hD : va_D A (wRS tC a (sRS_order rs_1 (upd (RS_order rs_1) v2.toNatClampNeg (RS_order rs_1 v1.toNatClampNeg)))) := hD
          refine lv_aload_n hx hb d_RS_sweep_40 rfl (lv_at hl 1 rfl) ?_
          refine va_get (D := (dC, dI)) (ci := 3) (v := .ref (a 6)) (C := R_RS) (T := F_RS) (N := 7) hx hb hts (in_RS _) hown hK hP 0 rfl rfl 5 (by decide) (hts _ (List.mem_cons_of_mem _ mw_55)) (fun _ h9 => h9) rfl d_RS_sweep_41 ?_
          refine lv_iload_n hx hb d_RS_sweep_44 rfl (lv_at hl 2 rfl) ?_
          refine lv_iload_n hx hb d_RS_sweep_45 rfl (lv_at hl 0 rfl) ?_
          refine va_iast (D := (dC, dI)) hx hb hK hP hD hS 6 0 rfl rfl ck_2 d_RS_sweep_46 (fun H locs hP hD hS => ?_)
          have hP : va_P (dC, dI) classes (wRS tC a (sRS_order rs_1 (upd (upd (RS_order rs_1) v2.toNatClampNeg (RS_order rs_1 v1.toNatClampNeg)) v1.toNatClampNeg v3))) H := hP
          have hD : va_D A (wRS tC a (sRS_order rs_1 (upd (upd (RS_order rs_1) v2.toNatClampNeg (RS_order rs_1 v1.toNatClampNeg)) v1.toNatClampNeg v3))) := hD
          obtain ⟨v1_2, h_v1_2⟩ : ∃ z : Int32, z = v1 + 1 := ⟨_, rfl⟩
          have hf := g_let hf h_v1_2
          refine lv_iinc (v := v1_2) (lv' := [(1, .int v1_2), (3, .int v3), (0, .ref (a 0)), (2, .int v2)]) hx hb d_RS_sweep_47 hl (k := 2) rfl (by rw [h_v1_2]; rfl) (by decide) rfl (fun ls hl => ?_)
          obtain ⟨v2_2, h_v2_2⟩ : ∃ z : Int32, z = v2 + 1 := ⟨_, rfl⟩
          have hf := g_let hf h_v2_2
          refine lv_iinc (v := v2_2) (lv' := [(2, .int v2_2), (1, .int v1_2), (3, .int v3), (0, .ref (a 0))]) hx hb d_RS_sweep_50 hl (k := 3) rfl (by rw [h_v2_2]; rfl) (by decide) rfl (fun ls hl => ?_)
          refine lv_goto (tgt := 4) hx hb d_RS_sweep_53 (by decide) ?_
          obtain ⟨rs_3, h_rs_3⟩ : ∃ z : RSt, z = (sRS_order rs_1 (upd (upd (RS_order rs_1) v2.toNatClampNeg (RS_order rs_1 v1.toNatClampNeg)) v1.toNatClampNeg v3)) := ⟨_, rfl⟩
          have hf := g_let hf h_rs_3
          have hP : va_P (dC, dI) classes (wRS tC a rs_3) H := by rw [h_rs_3]; exact hP
          have hD : va_D A (wRS tC a rs_3) := by rw [h_rs_3]; exact hD
          exact ih v1_2 v2_2 rs_3 v1_1 rs_2 hf H locs ls hP hD hS (lv_sub hl [3, 1, 0] rfl) kk
  obtain ⟨⟨v1_1, rs_2⟩, hL_4, hf⟩ := g_bind hf
  try dsimp only at hf
  refine L_4 k 0 0 rs v1_1 rs_2 hL_4 H locs ls hP hD hS (lv_sub hl [2, 1, 0] rfl) (fun H locs ls hP hD hS hl => ?_)
  refine lv_aload_n hx hb d_RS_sweep_56 rfl (lv_at hl 0 rfl) ?_
  refine lv_iload_n hx hb d_RS_sweep_57 rfl (lv_at hl 1 rfl) ?_
  refine va_put (D := (dC, dI)) (ci := 3) (v := .int v1_1) (ty := .int) (C := R_RS) (T := F_RS) (N := 7) hx hb hts (in_RS _) t_RS t_RS_ok n_RS hown hK hP hD hS 0 rfl rfl 6 (by decide) (hts _ (List.mem_cons_of_mem _ mw_57)) (fun _ h9 => h9) rfl (by decide +kernel) rfl rfl (Nat.le_of_ble_eq_true rfl) d_RS_sweep_58 (fun H locs hP hD hS => ?_)
  have hP : va_P (dC, dI) classes (wRS tC a (sRS_kept rs_2 v1_1)) H := hP
  have hD : va_D A (wRS tC a (sRS_kept rs_2 v1_1)) := hD
  have hq0 := (g_some hf)
  subst hq0
  exact cx_vret hx hb hr hlocks hP hS d_RS_sweep_61
