def f_MO_span_L48 (x1 : Int32) (mo_1 : MOt) (v5 : Int32) : Nat → Int32 → Int32 → Option (Int32)
  | 0, _, _ => none
  | n + 1, v6, v7 =>
    if 200 ≤ v7 then (
      some v6
    ) else
    if v7 < 0 ∨ 200 ≤ v7.toNatClampNeg then none else
    if (MO_sKey mo_1 v7.toNatClampNeg) = x1 then (
      if (MO_sBegin mo_1 v7.toNatClampNeg) < (MO_sBegin mo_1 v5.toNatClampNeg) then (
        gl_let ((v6 + 1)) fun v6_3 =>
        gl_let (v7 + 1) fun v7_2 =>
        f_MO_span_L48 x1 mo_1 v5 n v6_3 v7_2
      ) else
      if (MO_sBegin mo_1 v7.toNatClampNeg) = (MO_sBegin mo_1 v5.toNatClampNeg) then (
        if (MO_sEnd mo_1 v5.toNatClampNeg) ≤ (MO_sEnd mo_1 v7.toNatClampNeg) then (
          gl_let ((v6 + 0)) fun v6_5 =>
          gl_let (v7 + 1) fun v7_4 =>
          f_MO_span_L48 x1 mo_1 v5 n v6_5 v7_4
        ) else
        gl_let ((v6 + 1)) fun v6_6 =>
        gl_let (v7 + 1) fun v7_5 =>
        f_MO_span_L48 x1 mo_1 v5 n v6_6 v7_5
      ) else
      gl_let ((v6 + 0)) fun v6_4 =>
      gl_let (v7 + 1) fun v7_3 =>
      f_MO_span_L48 x1 mo_1 v5 n v6_4 v7_3
    ) else
    gl_let ((v6 + 0)) fun v6_2 =>
    gl_let (v7 + 1) fun v7_1 =>
    f_MO_span_L48 x1 mo_1 v5 n v6_2 v7_1
def f_MO_span_L11 (k : Nat) (x1 : Int32) (x2 : Int32) (mo_1 : MOt) : Nat → Int32 → Int32 → Option (Int32)
  | 0, _, _ => none
  | n + 1, v4, v5 =>
    if 200 ≤ v5 then (
      some v4
    ) else
    if (f_MO_in (x1.toInt64) 0 7) = 0 then (
      some v4
    ) else
    if v5 < 0 ∨ 200 ≤ v5.toNatClampNeg then none else
    if (MO_sKey mo_1 v5.toNatClampNeg) = x1 then (
      (f_MO_span_L48 x1 mo_1 v5 k 0 0).bind fun v6_1 =>
      if v6_1 = x2 then (
        gl_let (v5 + 1) fun v5_3 =>
        f_MO_span_L11 k x1 x2 mo_1 n v5 v5_3
      ) else
      gl_let (v5 + 1) fun v5_2 =>
      f_MO_span_L11 k x1 x2 mo_1 n v4 v5_2
    ) else
    gl_let (v5 + 1) fun v5_1 =>
    f_MO_span_L11 k x1 x2 mo_1 n v4 v5_1
def f_MO_span_L251 (v4_1 : Int32) : Nat → Int32 → MOt → Option (MOt)
  | 0, _, _ => none
  | n + 1, v5_4, mo_2 =>
    if 300 ≤ v5_4 then (
      some mo_2
    ) else
    if ((300 * v4_1) + v5_4) < 0 ∨ 60000 ≤ ((300 * v4_1) + v5_4).toNatClampNeg then none else
    if v5_4 < 0 ∨ 300 ≤ v5_4.toNatClampNeg then none else
    gl_let (v5_4 + 1) fun v5_5 =>
    gl_let ((sMO_isIn mo_2 (upd (MO_isIn mo_2) v5_4.toNatClampNeg (vp_nar .boolean (MO_has mo_2 ((300 * v4_1) + v5_4).toNatClampNeg)))) : MOt) fun mo_4 =>
    f_MO_span_L251 v4_1 n v5_5 mo_4
def f_MO_span (k : Nat) (x1 : Int32) (x2 : Int32) (x3 : Int32) (mo : MOt) : Option (Int64 × MOt) :=
  gl_let ((sMO_thrown mo 0) : MOt) fun mo_1 =>
  (f_MO_span_L11 k x1 x2 mo_1 k (-1) 0).bind fun v4_1 =>
  if v4_1 = (-1) then (
    some ((-1000000000000001), mo_1)
  ) else
  if x3 < 1 then (
    some ((-1000000000000002), mo_1)
  ) else
  if 10 < x3 then (
    some ((-1000000000000002), mo_1)
  ) else
  if x3 = 3 then (
    some ((-1000000000000002), mo_1)
  ) else
  if 3 ≤ x3 then (
    if x3 ≤ 8 then (
      (f_MO_span_L251 v4_1 k 0 mo_1).bind fun mo_3 =>
      (f_MO_contents k mo_3).bind fun mo_5 =>
      if (x3 - 4) < 0 ∨ 5 ≤ (x3 - 4).toNatClampNeg then none else
      some ((MO_got mo_5 (x3 - 4).toNatClampNeg), mo_5)
    ) else
    if x3 = 9 then (
      if v4_1 < 0 ∨ 200 ≤ v4_1.toNatClampNeg then none else
      some ((MO_sFired mo_1 v4_1.toNatClampNeg).toInt64, mo_1)
    ) else
    if v4_1 < 0 ∨ 200 ≤ v4_1.toNatClampNeg then none else
    some ((MO_sPut mo_1 v4_1.toNatClampNeg).toInt64, mo_1)
  ) else
  if x3 = 1 then (
    if v4_1 < 0 ∨ 200 ≤ v4_1.toNatClampNeg then none else
    some ((MO_sBegin mo_1 v4_1.toNatClampNeg), mo_1)
  ) else
  if v4_1 < 0 ∨ 200 ≤ v4_1.toNatClampNeg then none else
  some ((MO_sEnd mo_1 v4_1.toNatClampNeg), mo_1)
set_option maxHeartbeats 4000000 in
set_option maxRecDepth 100000 in
theorem c_MO_span (l : Launch) (dC : Nat → ClassId) (dI : Nat → Nat → Nat) (tC : Nat → ClassId) (a : Nat → Nat) (k : Nat) (x1 : Int32) (x2 : Int32) (x3 : Int32) (mo : MOt) (res : Int64) (moR : MOt) (hf : f_MO_span k x1 x2 x3 mo = some (res, moR)) : cx_M l y_MO_span w_MO_span { frames := 2, cells := 0, slots := 0, locals := 45 } (dC, dI) classes (tyS tC) [.ref (a 0), .int x1, .int x2, .int x3] (wMO tC a mo) (wMO tC a moR) (some (.long res)) := by
  refine cx_of (cc := b_MO_span) (maxL := 8) (ret := some .long) (plainFor_of_name (by decide)) rfl (Nat.le_of_ble_eq_true rfl) ?_
  intro p e s m below meth c hx hb hr hml hown hts hlocks A hA H locs ls hK hN hP hD hS hl
  have hown : s.vm.findClass R_MO = some m.cls := hown
  have hl : lv_has ls 8 [(0, .ref (a 0)), (1, .int x1), (2, .int x2), (3, .int x3)] := hl
  unfold f_MO_span at hf
  refine lv_aload_n hx hb d_MO_span_0 rfl (lv_at hl 0 rfl) ?_
  refine lv_iconst (v := 0) hx hb d_MO_span_1 (by decide) ?_
  refine va_put (D := (dC, dI)) (ci := 8) (v := .int 0) (ty := .int) (C := R_MO) (T := F_MO) (N := 42) hx hb hts (in_MO _) t_MO t_MO_ok n_MO hown hK hP hD hS 0 rfl rfl 12 (by decide) (hts _ (List.mem_cons_of_mem _ mw_704)) (fun _ h9 => h9) rfl (by decide +kernel) rfl rfl (Nat.le_of_ble_eq_true rfl) d_MO_span_2 (fun H locs hP hD hS => ?_)
  have hP : va_P (dC, dI) classes (wMO tC a (sMO_thrown mo 0)) H := hP
  have hD : va_D A (wMO tC a (sMO_thrown mo 0)) := hD
  refine lv_iconst (v := (-1)) hx hb d_MO_span_5 (by decide) ?_
  refine lv_istore (lv' := [(4, .int (-1)), (0, .ref (a 0)), (1, .int x1), (2, .int x2), (3, .int x3)]) hx hb d_MO_span_6 hl (by decide) rfl (fun ls hl => ?_)
  refine lv_iconst (v := 0) hx hb d_MO_span_8 (by decide) ?_
  refine lv_istore (lv' := [(5, .int 0), (4, .int (-1)), (0, .ref (a 0)), (1, .int x1), (2, .int x2), (3, .int x3)]) hx hb d_MO_span_9 hl (by decide) rfl (fun ls hl => ?_)
  obtain ⟨mo_1, h_mo_1⟩ : ∃ z : MOt, z = (sMO_thrown mo 0) := ⟨_, rfl⟩
  have hf := g_let hf h_mo_1
  have hP : va_P (dC, dI) classes (wMO tC a mo_1) H := by rw [h_mo_1]; exact hP
  have hD : va_D A (wMO tC a mo_1) := by rw [h_mo_1]; exact hD
  have L_11 : ∀ (n : Nat) (v4 : Int32) (v5 : Int32) (v4_1 : Int32), f_MO_span_L11 k x1 x2 mo_1 n v4 v5 = some v4_1 → ∀ (H : Heap) (locs : List Loc) (ls : Array Slot), va_P (dC, dI) classes (wMO tC a mo_1) H → va_D A (wMO tC a mo_1) → va_S A s.heap H locs → lv_has ls 8 [(0, .ref (a 0)), (1, .int x1), (2, .int x2), (3, .int x3), (4, .int v4), (5, .int v5)] → (∀ (H : Heap) (locs : List Loc) (ls : Array Slot), va_P (dC, dI) classes (wMO tC a mo_1) H → va_D A (wMO tC a mo_1) → va_S A s.heap H locs → lv_has ls 8 [(0, .ref (a 0)), (3, .int x3), (4, .int v4_1)] → W p l e { frames := 2, cells := 0, slots := 0, locals := 45 } s m [.ref (a 0), .int x1, .int x2, .int x3].toArray below meth c H locs 0 0 (cx_Z (dC, dI) classes below [.ref (a 0), .int x1, .int x2, .int x3] s (wMO tC a moR) (some (.long res)) A) (F0 m 158 ls [])) → W p l e { frames := 2, cells := 0, slots := 0, locals := 45 } s m [.ref (a 0), .int x1, .int x2, .int x3].toArray below meth c H locs 0 0 (cx_Z (dC, dI) classes below [.ref (a 0), .int x1, .int x2, .int x3] s (wMO tC a moR) (some (.long res)) A) (F0 m 11 ls []) := by
    intro n
    induction n with
    | zero =>
      intro v4 v5 v4_1 hf
      rw [f_MO_span_L11] at hf
      cases hf
    | succ n ih =>
      intro v4 v5 v4_1 hf H locs ls hP hD hS hl kk
      rw [f_MO_span_L11] at hf
      refine lv_iload hx hb d_MO_span_11 (lv_at hl 5 rfl) ?_
      refine lv_sipush (v := 200) hx hb d_MO_span_13 (by decide) ?_
      refine lv_icmp_ge (tgt := 158) hx hb d_MO_span_16 (by decide) (fun cb => ?_) (fun cb => ?_)
      · have hf := g_t hf cb
        have hq0 := (g_some hf)
        subst hq0
        exact kk _ _ _ hP hD hS (lv_sub hl [0, 3, 4] rfl)
      · have hf := g_f hf cb
        refine lv_iload_n hx hb d_MO_span_19 rfl (lv_at hl 1 rfl) ?_
        refine lv_i2l hx hb d_MO_span_20 rfl ?_
        refine lv_lconst (v := 0) hx hb d_MO_span_21 (by decide) ?_
        refine lv_ldc2 (v := 7) hx hb hown (hts _ (List.mem_cons_of_mem _ mw_892)) d_MO_span_22 ?_
        refine cx_callS (As := [.long (x1.toInt64), .long 0, .long 7]) (rest := []) ⟨hx, hb, hml, hown, hts⟩ (c_MO_in l dC dI tC  (x1.toInt64) 0 7 (f_MO_in (x1.toInt64) 0 7) rfl) (k_MO_111 hts ⟨Nat.le_of_ble_eq_true rfl, Nat.le_of_ble_eq_true rfl⟩) hl.1 hP hD hS hA hK hN [] rfl rfl rfl rfl rfl (Nat.le_of_ble_eq_true rfl) d_MO_span_25 ⟨Nat.zero_le _, Nat.zero_le _⟩ (fun H locs hP hD hS => ?_)
        have hP : va_P (dC, dI) classes (wMO tC a mo_1) H := hP
        have hD : va_D A (wMO tC a mo_1) := hD
        refine W.eq (g2 := F0 m 28 ls [.int (f_MO_in (x1.toInt64) 0 7)]) rfl ?_
        refine lv_if_eq (tgt := 158) hx hb d_MO_span_28 (by decide) (fun cb_1 => ?_) (fun cb_1 => ?_)
        · have hf := g_t hf cb_1
          have hq0 := (g_some hf)
          subst hq0
          exact kk _ _ _ hP hD hS (lv_sub hl [0, 3, 4] rfl)
        · have hf := g_f hf cb_1
          refine lv_aload_n hx hb d_MO_span_31 rfl (lv_at hl 0 rfl) ?_
          refine va_get (D := (dC, dI)) (ci := 8) (v := .ref (a 8)) (C := R_MO) (T := F_MO) (N := 42) hx hb hts (in_MO _) hown hK hP 0 rfl rfl 21 (by decide) (hts _ (List.mem_cons_of_mem _ mw_713)) (fun _ h9 => h9) rfl d_MO_span_32 ?_
          refine lv_iload hx hb d_MO_span_35 (lv_at hl 5 rfl) ?_
          obtain ⟨ck, hf⟩ := g_ck hf
          refine va_iald (D := (dC, dI)) hx hb hK hP 8 0 rfl rfl ck d_MO_span_37 ?_
          refine lv_iload_n hx hb d_MO_span_38 rfl (lv_at hl 1 rfl) ?_
          refine lv_icmp_ne (tgt := 152) hx hb d_MO_span_39 (by decide) (fun cb_2 => ?_) (fun cb_2 => ?_)
          · have hf := g_f hf cb_2
            obtain ⟨v5_1, h_v5_1⟩ : ∃ z : Int32, z = v5 + 1 := ⟨_, rfl⟩
            have hf := g_let hf h_v5_1
            refine lv_iinc (v := v5_1) (lv' := [(5, .int v5_1), (0, .ref (a 0)), (1, .int x1), (2, .int x2), (3, .int x3), (4, .int v4)]) hx hb d_MO_span_152 hl (k := 5) rfl (by rw [h_v5_1]; rfl) (by decide) rfl (fun ls hl => ?_)
            refine lv_goto (tgt := 11) hx hb d_MO_span_155 (by decide) ?_
            exact ih v4 v5_1 v4_1 hf H locs ls hP hD hS (lv_sub hl [1, 2, 3, 4, 5, 0] rfl) kk
          · have hf := g_t hf cb_2
            refine lv_iconst (v := 0) hx hb d_MO_span_42 (by decide) ?_
            refine lv_istore (lv' := [(6, .int 0), (0, .ref (a 0)), (1, .int x1), (2, .int x2), (3, .int x3), (4, .int v4), (5, .int v5)]) hx hb d_MO_span_43 hl (by decide) rfl (fun ls hl => ?_)
            refine lv_iconst (v := 0) hx hb d_MO_span_45 (by decide) ?_
            refine lv_istore (lv' := [(7, .int 0), (6, .int 0), (0, .ref (a 0)), (1, .int x1), (2, .int x2), (3, .int x3), (4, .int v4), (5, .int v5)]) hx hb d_MO_span_46 hl (by decide) rfl (fun ls hl => ?_)
            have L_48 : ∀ (n : Nat) (v6 : Int32) (v7 : Int32) (v6_1 : Int32), f_MO_span_L48 x1 mo_1 v5 n v6 v7 = some v6_1 → ∀ (H : Heap) (locs : List Loc) (ls : Array Slot), va_P (dC, dI) classes (wMO tC a mo_1) H → va_D A (wMO tC a mo_1) → va_S A s.heap H locs → lv_has ls 8 [(0, .ref (a 0)), (1, .int x1), (2, .int x2), (3, .int x3), (4, .int v4), (5, .int v5), (6, .int v6), (7, .int v7)] → (∀ (H : Heap) (locs : List Loc) (ls : Array Slot), va_P (dC, dI) classes (wMO tC a mo_1) H → va_D A (wMO tC a mo_1) → va_S A s.heap H locs → lv_has ls 8 [(0, .ref (a 0)), (1, .int x1), (2, .int x2), (3, .int x3), (4, .int v4), (5, .int v5), (6, .int v6_1)] → W p l e { frames := 2, cells := 0, slots := 0, locals := 45 } s m [.ref (a 0), .int x1, .int x2, .int x3].toArray below meth c H locs 0 0 (cx_Z (dC, dI) classes below [.ref (a 0), .int x1, .int x2, .int x3] s (wMO tC a moR) (some (.long res)) A) (F0 m 137 ls [])) → W p l e { frames := 2, cells := 0, slots := 0, locals := 45 } s m [.ref (a 0), .int x1, .int x2, .int x3].toArray below meth c H locs 0 0 (cx_Z (dC, dI) classes below [.ref (a 0), .int x1, .int x2, .int x3] s (wMO tC a moR) (some (.long res)) A) (F0 m 48 ls []) := by
              intro n
              induction n with
              | zero =>
                intro v6 v7 v6_1 hf
                rw [f_MO_span_L48] at hf
                cases hf
              | succ n ih =>
                intro v6 v7 v6_1 hf H locs ls hP hD hS hl kk
                rw [f_MO_span_L48] at hf
                refine lv_iload hx hb d_MO_span_48 (lv_at hl 7 rfl) ?_
                refine lv_sipush (v := 200) hx hb d_MO_span_50 (by decide) ?_
                refine lv_icmp_ge (tgt := 137) hx hb d_MO_span_53 (by decide) (fun cb_3 => ?_) (fun cb_3 => ?_)
                · have hf := g_t hf cb_3
                  have hq0 := (g_some hf)
                  subst hq0
                  exact kk _ _ _ hP hD hS (lv_sub hl [0, 1, 2, 3, 4, 5, 6] rfl)
                · have hf := g_f hf cb_3
                  refine lv_iload hx hb d_MO_span_56 (lv_at hl 6 rfl) ?_
                  refine lv_aload_n hx hb d_MO_span_58 rfl (lv_at hl 0 rfl) ?_
                  refine va_get (D := (dC, dI)) (ci := 8) (v := .ref (a 8)) (C := R_MO) (T := F_MO) (N := 42) hx hb hts (in_MO _) hown hK hP 0 rfl rfl 21 (by decide) (hts _ (List.mem_cons_of_mem _ mw_713)) (fun _ h9 => h9) rfl d_MO_span_59 ?_
                  refine lv_iload hx hb d_MO_span_62 (lv_at hl 7 rfl) ?_
                  obtain ⟨ck_1, hf⟩ := g_ck hf
                  refine va_iald (D := (dC, dI)) hx hb hK hP 8 0 rfl rfl ck_1 d_MO_span_64 ?_
                  refine lv_iload_n hx hb d_MO_span_65 rfl (lv_at hl 1 rfl) ?_
                  refine lv_icmp_ne (tgt := 127) hx hb d_MO_span_66 (by decide) (fun cb_4 => ?_) (fun cb_4 => ?_)
                  · have hf := g_f hf cb_4
                    refine lv_iconst (v := 0) hx hb d_MO_span_127 (by decide) ?_
                    refine lv_iadd hx hb d_MO_span_128 ?_
                    refine lv_topi (fun v6_2 h_v6_2 => ?_)
                    have hf := g_let hf h_v6_2
                    refine lv_istore (lv' := [(6, .int v6_2), (0, .ref (a 0)), (1, .int x1), (2, .int x2), (3, .int x3), (4, .int v4), (5, .int v5), (7, .int v7)]) hx hb d_MO_span_129 hl (by decide) rfl (fun ls hl => ?_)
                    obtain ⟨v7_1, h_v7_1⟩ : ∃ z : Int32, z = v7 + 1 := ⟨_, rfl⟩
                    have hf := g_let hf h_v7_1
                    refine lv_iinc (v := v7_1) (lv' := [(7, .int v7_1), (6, .int v6_2), (0, .ref (a 0)), (1, .int x1), (2, .int x2), (3, .int x3), (4, .int v4), (5, .int v5)]) hx hb d_MO_span_131 hl (k := 7) rfl (by rw [h_v7_1]; rfl) (by decide) rfl (fun ls hl => ?_)
                    refine lv_goto (tgt := 48) hx hb d_MO_span_134 (by decide) ?_
                    exact ih v6_2 v7_1 v6_1 hf H locs ls hP hD hS (lv_sub hl [2, 3, 4, 5, 6, 7, 1, 0] rfl) kk
                  · have hf := g_t hf cb_4
                    refine lv_aload_n hx hb d_MO_span_69 rfl (lv_at hl 0 rfl) ?_
                    refine va_get (D := (dC, dI)) (ci := 8) (v := .ref (a 9)) (C := R_MO) (T := F_MO) (N := 42) hx hb hts (in_MO _) hown hK hP 0 rfl rfl 22 (by decide) (hts _ (List.mem_cons_of_mem _ mw_714)) (fun _ h9 => h9) rfl d_MO_span_70 ?_
                    refine lv_iload hx hb d_MO_span_73 (lv_at hl 7 rfl) ?_
                    refine va_lald (D := (dC, dI)) hx hb hK hP 9 1 rfl rfl ck_1 d_MO_span_75 ?_
                    refine lv_aload_n hx hb d_MO_span_76 rfl (lv_at hl 0 rfl) ?_
                    refine va_get (D := (dC, dI)) (ci := 8) (v := .ref (a 9)) (C := R_MO) (T := F_MO) (N := 42) hx hb hts (in_MO _) hown hK hP 0 rfl rfl 22 (by decide) (hts _ (List.mem_cons_of_mem _ mw_714)) (fun _ h9 => h9) rfl d_MO_span_77 ?_
                    refine lv_iload hx hb d_MO_span_80 (lv_at hl 5 rfl) ?_
                    refine va_lald (D := (dC, dI)) hx hb hK hP 9 1 rfl rfl ck d_MO_span_82 ?_
                    refine cq_lt (tgt := 123) hx hb d_MO_span_83 d_MO_span_84 (by decide) (fun cb_5 => ?_) (fun cb_5 => ?_)
                    · have hf := g_t hf cb_5
                      refine lv_iconst (v := 1) hx hb d_MO_span_123 (by decide) ?_
                      refine lv_goto (tgt := 128) hx hb d_MO_span_124 (by decide) ?_
                      refine lv_iadd hx hb d_MO_span_128 ?_
                      refine lv_topi (fun v6_3 h_v6_3 => ?_)
                      have hf := g_let hf h_v6_3
                      refine lv_istore (lv' := [(6, .int v6_3), (0, .ref (a 0)), (1, .int x1), (2, .int x2), (3, .int x3), (4, .int v4), (5, .int v5), (7, .int v7)]) hx hb d_MO_span_129 hl (by decide) rfl (fun ls hl => ?_)
                      obtain ⟨v7_2, h_v7_2⟩ : ∃ z : Int32, z = v7 + 1 := ⟨_, rfl⟩
                      have hf := g_let hf h_v7_2
                      refine lv_iinc (v := v7_2) (lv' := [(7, .int v7_2), (6, .int v6_3), (0, .ref (a 0)), (1, .int x1), (2, .int x2), (3, .int x3), (4, .int v4), (5, .int v5)]) hx hb d_MO_span_131 hl (k := 7) rfl (by rw [h_v7_2]; rfl) (by decide) rfl (fun ls hl => ?_)
                      refine lv_goto (tgt := 48) hx hb d_MO_span_134 (by decide) ?_
                      exact ih v6_3 v7_2 v6_1 hf H locs ls hP hD hS (lv_sub hl [2, 3, 4, 5, 6, 7, 1, 0] rfl) kk
                    · have hf := g_f hf cb_5
                      refine lv_aload_n hx hb d_MO_span_87 rfl (lv_at hl 0 rfl) ?_
                      refine va_get (D := (dC, dI)) (ci := 8) (v := .ref (a 9)) (C := R_MO) (T := F_MO) (N := 42) hx hb hts (in_MO _) hown hK hP 0 rfl rfl 22 (by decide) (hts _ (List.mem_cons_of_mem _ mw_714)) (fun _ h9 => h9) rfl d_MO_span_88 ?_
                      refine lv_iload hx hb d_MO_span_91 (lv_at hl 7 rfl) ?_
                      refine va_lald (D := (dC, dI)) hx hb hK hP 9 1 rfl rfl ck_1 d_MO_span_93 ?_
                      refine lv_aload_n hx hb d_MO_span_94 rfl (lv_at hl 0 rfl) ?_
                      refine va_get (D := (dC, dI)) (ci := 8) (v := .ref (a 9)) (C := R_MO) (T := F_MO) (N := 42) hx hb hts (in_MO _) hown hK hP 0 rfl rfl 22 (by decide) (hts _ (List.mem_cons_of_mem _ mw_714)) (fun _ h9 => h9) rfl d_MO_span_95 ?_
                      refine lv_iload hx hb d_MO_span_98 (lv_at hl 5 rfl) ?_
                      refine va_lald (D := (dC, dI)) hx hb hK hP 9 1 rfl rfl ck d_MO_span_100 ?_
                      refine cq_ne (tgt := 127) hx hb d_MO_span_101 d_MO_span_102 (by decide) (fun cb_6 => ?_) (fun cb_6 => ?_)
                      · have hf := g_f hf cb_6
                        refine lv_iconst (v := 0) hx hb d_MO_span_127 (by decide) ?_
                        refine lv_iadd hx hb d_MO_span_128 ?_
                        refine lv_topi (fun v6_4 h_v6_4 => ?_)
                        have hf := g_let hf h_v6_4
                        refine lv_istore (lv' := [(6, .int v6_4), (0, .ref (a 0)), (1, .int x1), (2, .int x2), (3, .int x3), (4, .int v4), (5, .int v5), (7, .int v7)]) hx hb d_MO_span_129 hl (by decide) rfl (fun ls hl => ?_)
                        obtain ⟨v7_3, h_v7_3⟩ : ∃ z : Int32, z = v7 + 1 := ⟨_, rfl⟩
                        have hf := g_let hf h_v7_3
                        refine lv_iinc (v := v7_3) (lv' := [(7, .int v7_3), (6, .int v6_4), (0, .ref (a 0)), (1, .int x1), (2, .int x2), (3, .int x3), (4, .int v4), (5, .int v5)]) hx hb d_MO_span_131 hl (k := 7) rfl (by rw [h_v7_3]; rfl) (by decide) rfl (fun ls hl => ?_)
                        refine lv_goto (tgt := 48) hx hb d_MO_span_134 (by decide) ?_
                        exact ih v6_4 v7_3 v6_1 hf H locs ls hP hD hS (lv_sub hl [2, 3, 4, 5, 6, 7, 1, 0] rfl) kk
                      · have hf := g_t hf cb_6
                        refine lv_aload_n hx hb d_MO_span_105 rfl (lv_at hl 0 rfl) ?_
                        refine va_get (D := (dC, dI)) (ci := 8) (v := .ref (a 10)) (C := R_MO) (T := F_MO) (N := 42) hx hb hts (in_MO _) hown hK hP 0 rfl rfl 23 (by decide) (hts _ (List.mem_cons_of_mem _ mw_715)) (fun _ h9 => h9) rfl d_MO_span_106 ?_
                        refine lv_iload hx hb d_MO_span_109 (lv_at hl 7 rfl) ?_
                        refine va_lald (D := (dC, dI)) hx hb hK hP 10 1 rfl rfl ck_1 d_MO_span_111 ?_
                        refine lv_aload_n hx hb d_MO_span_112 rfl (lv_at hl 0 rfl) ?_
                        refine va_get (D := (dC, dI)) (ci := 8) (v := .ref (a 10)) (C := R_MO) (T := F_MO) (N := 42) hx hb hts (in_MO _) hown hK hP 0 rfl rfl 23 (by decide) (hts _ (List.mem_cons_of_mem _ mw_715)) (fun _ h9 => h9) rfl d_MO_span_113 ?_
                        refine lv_iload hx hb d_MO_span_116 (lv_at hl 5 rfl) ?_
                        refine va_lald (D := (dC, dI)) hx hb hK hP 10 1 rfl rfl ck d_MO_span_118 ?_
                        refine cq_ge (tgt := 127) hx hb d_MO_span_119 d_MO_span_120 (by decide) (fun cb_7 => ?_) (fun cb_7 => ?_)
                        · have hf := g_t hf cb_7
                          refine lv_iconst (v := 0) hx hb d_MO_span_127 (by decide) ?_
                          refine lv_iadd hx hb d_MO_span_128 ?_
                          refine lv_topi (fun v6_5 h_v6_5 => ?_)
                          have hf := g_let hf h_v6_5
                          refine lv_istore (lv' := [(6, .int v6_5), (0, .ref (a 0)), (1, .int x1), (2, .int x2), (3, .int x3), (4, .int v4), (5, .int v5), (7, .int v7)]) hx hb d_MO_span_129 hl (by decide) rfl (fun ls hl => ?_)
                          obtain ⟨v7_4, h_v7_4⟩ : ∃ z : Int32, z = v7 + 1 := ⟨_, rfl⟩
                          have hf := g_let hf h_v7_4
                          refine lv_iinc (v := v7_4) (lv' := [(7, .int v7_4), (6, .int v6_5), (0, .ref (a 0)), (1, .int x1), (2, .int x2), (3, .int x3), (4, .int v4), (5, .int v5)]) hx hb d_MO_span_131 hl (k := 7) rfl (by rw [h_v7_4]; rfl) (by decide) rfl (fun ls hl => ?_)
                          refine lv_goto (tgt := 48) hx hb d_MO_span_134 (by decide) ?_
                          exact ih v6_5 v7_4 v6_1 hf H locs ls hP hD hS (lv_sub hl [2, 3, 4, 5, 6, 7, 1, 0] rfl) kk
                        · have hf := g_f hf cb_7
                          refine lv_iconst (v := 1) hx hb d_MO_span_123 (by decide) ?_
                          refine lv_goto (tgt := 128) hx hb d_MO_span_124 (by decide) ?_
                          refine lv_iadd hx hb d_MO_span_128 ?_
                          refine lv_topi (fun v6_6 h_v6_6 => ?_)
                          have hf := g_let hf h_v6_6
                          refine lv_istore (lv' := [(6, .int v6_6), (0, .ref (a 0)), (1, .int x1), (2, .int x2), (3, .int x3), (4, .int v4), (5, .int v5), (7, .int v7)]) hx hb d_MO_span_129 hl (by decide) rfl (fun ls hl => ?_)
                          obtain ⟨v7_5, h_v7_5⟩ : ∃ z : Int32, z = v7 + 1 := ⟨_, rfl⟩
                          have hf := g_let hf h_v7_5
                          refine lv_iinc (v := v7_5) (lv' := [(7, .int v7_5), (6, .int v6_6), (0, .ref (a 0)), (1, .int x1), (2, .int x2), (3, .int x3), (4, .int v4), (5, .int v5)]) hx hb d_MO_span_131 hl (k := 7) rfl (by rw [h_v7_5]; rfl) (by decide) rfl (fun ls hl => ?_)
                          refine lv_goto (tgt := 48) hx hb d_MO_span_134 (by decide) ?_
                          exact ih v6_6 v7_5 v6_1 hf H locs ls hP hD hS (lv_sub hl [2, 3, 4, 5, 6, 7, 1, 0] rfl) kk
            obtain ⟨v6_1, hL_48, hf⟩ := g_bind hf
            try dsimp only at hf
            refine L_48 k 0 0 v6_1 hL_48 H locs ls hP hD hS (lv_sub hl [2, 3, 4, 5, 6, 7, 1, 0] rfl) (fun H locs ls hP hD hS hl => ?_)
            refine lv_iload hx hb d_MO_span_137 (lv_at hl 6 rfl) ?_
            refine lv_iload_n hx hb d_MO_span_139 rfl (lv_at hl 2 rfl) ?_
            refine lv_icmp_ne (tgt := 148) hx hb d_MO_span_140 (by decide) (fun cb_8 => ?_) (fun cb_8 => ?_)
            · have hf := g_f hf cb_8
              refine lv_iload hx hb d_MO_span_148 (lv_at hl 4 rfl) ?_
              refine lv_istore (lv' := [(4, .int v4), (0, .ref (a 0)), (1, .int x1), (2, .int x2), (3, .int x3), (5, .int v5), (6, .int v6_1)]) hx hb d_MO_span_150 hl (by decide) rfl (fun ls hl => ?_)
              obtain ⟨v5_2, h_v5_2⟩ : ∃ z : Int32, z = v5 + 1 := ⟨_, rfl⟩
              have hf := g_let hf h_v5_2
              refine lv_iinc (v := v5_2) (lv' := [(5, .int v5_2), (4, .int v4), (0, .ref (a 0)), (1, .int x1), (2, .int x2), (3, .int x3), (6, .int v6_1)]) hx hb d_MO_span_152 hl (k := 5) rfl (by rw [h_v5_2]; rfl) (by decide) rfl (fun ls hl => ?_)
              refine lv_goto (tgt := 11) hx hb d_MO_span_155 (by decide) ?_
              exact ih v4 v5_2 v4_1 hf H locs ls hP hD hS (lv_sub hl [2, 3, 4, 5, 1, 0] rfl) kk
            · have hf := g_t hf cb_8
              refine lv_iload hx hb d_MO_span_143 (lv_at hl 5 rfl) ?_
              refine lv_goto (tgt := 150) hx hb d_MO_span_145 (by decide) ?_
              refine lv_istore (lv' := [(4, .int v5), (0, .ref (a 0)), (1, .int x1), (2, .int x2), (3, .int x3), (5, .int v5), (6, .int v6_1)]) hx hb d_MO_span_150 hl (by decide) rfl (fun ls hl => ?_)
              obtain ⟨v5_3, h_v5_3⟩ : ∃ z : Int32, z = v5 + 1 := ⟨_, rfl⟩
              have hf := g_let hf h_v5_3
              refine lv_iinc (v := v5_3) (lv' := [(5, .int v5_3), (4, .int v5), (0, .ref (a 0)), (1, .int x1), (2, .int x2), (3, .int x3), (6, .int v6_1)]) hx hb d_MO_span_152 hl (k := 5) rfl (by rw [h_v5_3]; rfl) (by decide) rfl (fun ls hl => ?_)
              refine lv_goto (tgt := 11) hx hb d_MO_span_155 (by decide) ?_
              exact ih v5 v5_3 v4_1 hf H locs ls hP hD hS (lv_sub hl [2, 3, 4, 5, 1, 0] rfl) kk
  obtain ⟨v4_1, hL_11, hf⟩ := g_bind hf
  try dsimp only at hf
  refine L_11 k (-1) 0 v4_1 hL_11 H locs ls hP hD hS (lv_sub hl [2, 3, 4, 5, 1, 0] rfl) (fun H locs ls hP hD hS hl => ?_)
  refine lv_iload hx hb d_MO_span_158 (lv_at hl 2 rfl) ?_
  refine lv_iconst (v := (-1)) hx hb d_MO_span_160 (by decide) ?_
  refine lv_icmp_ne (tgt := 168) hx hb d_MO_span_161 (by decide) (fun cb_9 => ?_) (fun cb_9 => ?_)
  · have hf := g_f hf cb_9
    refine lv_iload_n hx hb d_MO_span_168 rfl (lv_at hl 1 rfl) ?_
    refine lv_iconst (v := 1) hx hb d_MO_span_169 (by decide) ?_
    refine lv_icmp_lt (tgt := 184) hx hb d_MO_span_170 (by decide) (fun cb_10 => ?_) (fun cb_10 => ?_)
    · have hf := g_t hf cb_10
      refine lv_ldc2 (v := (-1000000000000002)) hx hb hown (hts _ (List.mem_cons_of_mem _ mw_994)) d_MO_span_184 ?_
      obtain ⟨hq0, hr1⟩ := Prod.mk.inj (g_some hf)
      subst hq0
      subst hr1
      exact cx_lret hx hb hr hlocks hP hS d_MO_span_187
    · have hf := g_f hf cb_10
      refine lv_iload_n hx hb d_MO_span_173 rfl (lv_at hl 1 rfl) ?_
      refine lv_bipush (v := 10) hx hb d_MO_span_174 (by decide) ?_
      refine lv_icmp_gt (tgt := 184) hx hb d_MO_span_176 (by decide) (fun cb_11 => ?_) (fun cb_11 => ?_)
      · have hf := g_t hf cb_11
        refine lv_ldc2 (v := (-1000000000000002)) hx hb hown (hts _ (List.mem_cons_of_mem _ mw_994)) d_MO_span_184 ?_
        obtain ⟨hq0, hr1⟩ := Prod.mk.inj (g_some hf)
        subst hq0
        subst hr1
        exact cx_lret hx hb hr hlocks hP hS d_MO_span_187
      · have hf := g_f hf cb_11
        refine lv_iload_n hx hb d_MO_span_179 rfl (lv_at hl 1 rfl) ?_
        refine lv_iconst (v := 3) hx hb d_MO_span_180 (by decide) ?_
        refine lv_icmp_ne (tgt := 188) hx hb d_MO_span_181 (by decide) (fun cb_12 => ?_) (fun cb_12 => ?_)
        · have hf := g_f hf cb_12
          refine lv_iload_n hx hb d_MO_span_188 rfl (lv_at hl 1 rfl) ?_
          refine lv_iconst (v := 3) hx hb d_MO_span_189 (by decide) ?_
          refine lv_icmp_ge (tgt := 216) hx hb d_MO_span_190 (by decide) (fun cb_13 => ?_) (fun cb_13 => ?_)
          · have hf := g_t hf cb_13
            refine lv_iload_n hx hb d_MO_span_216 rfl (lv_at hl 1 rfl) ?_
            refine lv_bipush (v := 8) hx hb d_MO_span_217 (by decide) ?_
            refine lv_icmp_le (tgt := 248) hx hb d_MO_span_219 (by decide) (fun cb_14 => ?_) (fun cb_14 => ?_)
            · have hf := g_t hf cb_14
              refine lv_iconst (v := 0) hx hb d_MO_span_248 (by decide) ?_
              refine lv_istore (lv' := [(5, .int 0), (0, .ref (a 0)), (3, .int x3), (4, .int v4_1)]) hx hb d_MO_span_249 hl (by decide) rfl (fun ls hl => ?_)
              have L_251 : ∀ (n : Nat) (v5_4 : Int32) (mo_2 : MOt) (mo_3 : MOt), f_MO_span_L251 v4_1 n v5_4 mo_2 = some mo_3 → ∀ (H : Heap) (locs : List Loc) (ls : Array Slot), va_P (dC, dI) classes (wMO tC a mo_2) H → va_D A (wMO tC a mo_2) → va_S A s.heap H locs → lv_has ls 8 [(0, .ref (a 0)), (3, .int x3), (4, .int v4_1), (5, .int v5_4)] → (∀ (H : Heap) (locs : List Loc) (ls : Array Slot), va_P (dC, dI) classes (wMO tC a mo_3) H → va_D A (wMO tC a mo_3) → va_S A s.heap H locs → lv_has ls 8 [(0, .ref (a 0)), (3, .int x3)] → W p l e { frames := 2, cells := 0, slots := 0, locals := 45 } s m [.ref (a 0), .int x1, .int x2, .int x3].toArray below meth c H locs 0 0 (cx_Z (dC, dI) classes below [.ref (a 0), .int x1, .int x2, .int x3] s (wMO tC a moR) (some (.long res)) A) (F0 m 286 ls [])) → W p l e { frames := 2, cells := 0, slots := 0, locals := 45 } s m [.ref (a 0), .int x1, .int x2, .int x3].toArray below meth c H locs 0 0 (cx_Z (dC, dI) classes below [.ref (a 0), .int x1, .int x2, .int x3] s (wMO tC a moR) (some (.long res)) A) (F0 m 251 ls []) := by
                intro n
                induction n with
                | zero =>
                  intro v5_4 mo_2 mo_3 hf
                  rw [f_MO_span_L251] at hf
                  cases hf
                | succ n ih =>
                  intro v5_4 mo_2 mo_3 hf H locs ls hP hD hS hl kk
                  rw [f_MO_span_L251] at hf
                  refine lv_iload hx hb d_MO_span_251 (lv_at hl 3 rfl) ?_
                  refine lv_sipush (v := 300) hx hb d_MO_span_253 (by decide) ?_
                  refine lv_icmp_ge (tgt := 286) hx hb d_MO_span_256 (by decide) (fun cb_15 => ?_) (fun cb_15 => ?_)
                  · have hf := g_t hf cb_15
                    have hq0 := (g_some hf)
                    subst hq0
                    exact kk _ _ _ hP hD hS (lv_sub hl [0, 1] rfl)
                  · have hf := g_f hf cb_15
                    refine lv_aload_n hx hb d_MO_span_259 rfl (lv_at hl 0 rfl) ?_
                    refine va_get (D := (dC, dI)) (ci := 8) (v := .ref (a 22)) (C := R_MO) (T := F_MO) (N := 42) hx hb hts (in_MO _) hown hK hP 0 rfl rfl 41 (by decide) (hts _ (List.mem_cons_of_mem _ mw_733)) (fun _ h9 => h9) rfl d_MO_span_260 ?_
                    refine lv_iload hx hb d_MO_span_263 (lv_at hl 3 rfl) ?_
                    refine lv_aload_n hx hb d_MO_span_265 rfl (lv_at hl 0 rfl) ?_
                    refine va_get (D := (dC, dI)) (ci := 8) (v := .ref (a 14)) (C := R_MO) (T := F_MO) (N := 42) hx hb hts (in_MO _) hown hK hP 0 rfl rfl 27 (by decide) (hts _ (List.mem_cons_of_mem _ mw_719)) (fun _ h9 => h9) rfl d_MO_span_266 ?_
                    refine lv_sipush (v := 300) hx hb d_MO_span_269 (by decide) ?_
                    refine lv_iload hx hb d_MO_span_272 (lv_at hl 2 rfl) ?_
                    refine lv_imul hx hb d_MO_span_274 ?_
                    refine lv_iload hx hb d_MO_span_275 (lv_at hl 3 rfl) ?_
                    refine lv_iadd hx hb d_MO_span_277 ?_
                    obtain ⟨ck_2, hf⟩ := g_ck hf
                    refine va_zald (D := (dC, dI)) hx hb hK hP 14 2 rfl rfl ck_2 d_MO_span_278 ?_
                    obtain ⟨ck_3, hf⟩ := g_ck hf
                    refine va_zast (D := (dC, dI)) hx hb hK hP hD hS 22 2 rfl rfl ck_3 d_MO_span_279 (fun H locs hP hD hS => ?_)
                    have hP : va_P (dC, dI) classes (wMO tC a (sMO_isIn mo_2 (upd (MO_isIn mo_2) v5_4.toNatClampNeg (vp_nar .boolean (MO_has mo_2 ((300 * v4_1) + v5_4).toNatClampNeg))))) H := hP
                    have hD : va_D A (wMO tC a (sMO_isIn mo_2 (upd (MO_isIn mo_2) v5_4.toNatClampNeg (vp_nar .boolean (MO_has mo_2 ((300 * v4_1) + v5_4).toNatClampNeg))))) := hD
                    obtain ⟨v5_5, h_v5_5⟩ : ∃ z : Int32, z = v5_4 + 1 := ⟨_, rfl⟩
                    have hf := g_let hf h_v5_5
                    refine lv_iinc (v := v5_5) (lv' := [(5, .int v5_5), (0, .ref (a 0)), (3, .int x3), (4, .int v4_1)]) hx hb d_MO_span_280 hl (k := 3) rfl (by rw [h_v5_5]; rfl) (by decide) rfl (fun ls hl => ?_)
                    refine lv_goto (tgt := 251) hx hb d_MO_span_283 (by decide) ?_
                    obtain ⟨mo_4, h_mo_4⟩ : ∃ z : MOt, z = (sMO_isIn mo_2 (upd (MO_isIn mo_2) v5_4.toNatClampNeg (vp_nar .boolean (MO_has mo_2 ((300 * v4_1) + v5_4).toNatClampNeg)))) := ⟨_, rfl⟩
                    have hf := g_let hf h_mo_4
                    have hP : va_P (dC, dI) classes (wMO tC a mo_4) H := by rw [h_mo_4]; exact hP
                    have hD : va_D A (wMO tC a mo_4) := by rw [h_mo_4]; exact hD
                    exact ih v5_5 mo_4 mo_3 hf H locs ls hP hD hS (lv_sub hl [1, 2, 3, 0] rfl) kk
              obtain ⟨mo_3, hL_251, hf⟩ := g_bind hf
              try dsimp only at hf
              refine L_251 k 0 mo_1 mo_3 hL_251 H locs ls hP hD hS (lv_sub hl [1, 2, 3, 0] rfl) (fun H locs ls hP hD hS hl => ?_)
              refine lv_aload_n hx hb d_MO_span_286 rfl (lv_at hl 0 rfl) ?_
              obtain ⟨mo_5, hc_1, hf⟩ := g_bind hf
              try dsimp only at hf
              refine cx3_callV (As := []) (rest := []) (wMO tC a mo_5) ⟨hx, hb, hml, hown, hts⟩ (c_MO_contents l dC dI tC a k mo_3 mo_5 hc_1) (k_MO_224 hts ⟨Nat.le_of_ble_eq_true rfl, Nat.le_of_ble_eq_true rfl⟩) hl.1 hP hD hS hA hK hN 0 8 rfl rfl rfl (adMO _ _ _ _) rfl rfl (Nat.le_of_ble_eq_true rfl) d_MO_span_287 ⟨Nat.zero_le _, Nat.zero_le _⟩ (fun H locs hP hD hS => ?_)
              refine W.eq (g2 := F0 m 290 ls []) rfl ?_
              refine lv_aload_n hx hb d_MO_span_290 rfl (lv_at hl 0 rfl) ?_
              refine va_get (D := (dC, dI)) (ci := 8) (v := .ref (a 21)) (C := R_MO) (T := F_MO) (N := 42) hx hb hts (in_MO _) hown hK hP 0 rfl rfl 40 (by decide) (hts _ (List.mem_cons_of_mem _ mw_732)) (fun _ h9 => h9) rfl d_MO_span_291 ?_
              refine lv_iload_n hx hb d_MO_span_294 rfl (lv_at hl 1 rfl) ?_
              refine lv_iconst (v := 4) hx hb d_MO_span_295 (by decide) ?_
              refine lv_isub hx hb d_MO_span_296 ?_
              obtain ⟨ck_4, hf⟩ := g_ck hf
              refine va_lald (D := (dC, dI)) hx hb hK hP 21 1 rfl rfl ck_4 d_MO_span_297 ?_
              obtain ⟨hq0, hr1⟩ := Prod.mk.inj (g_some hf)
              subst hq0
              subst hr1
              exact cx_lret hx hb hr hlocks hP hS d_MO_span_298
            · have hf := g_f hf cb_14
              refine lv_iload_n hx hb d_MO_span_222 rfl (lv_at hl 1 rfl) ?_
              refine lv_bipush (v := 9) hx hb d_MO_span_223 (by decide) ?_
              refine lv_icmp_ne (tgt := 239) hx hb d_MO_span_225 (by decide) (fun cb_16 => ?_) (fun cb_16 => ?_)
              · have hf := g_f hf cb_16
                refine lv_aload_n hx hb d_MO_span_239 rfl (lv_at hl 0 rfl) ?_
                refine va_get (D := (dC, dI)) (ci := 8) (v := .ref (a 12)) (C := R_MO) (T := F_MO) (N := 42) hx hb hts (in_MO _) hown hK hP 0 rfl rfl 25 (by decide) (hts _ (List.mem_cons_of_mem _ mw_717)) (fun _ h9 => h9) rfl d_MO_span_240 ?_
                refine lv_iload hx hb d_MO_span_243 (lv_at hl 2 rfl) ?_
                obtain ⟨ck_5, hf⟩ := g_ck hf
                refine va_iald (D := (dC, dI)) hx hb hK hP 12 0 rfl rfl ck_5 d_MO_span_245 ?_
                refine lv_i2l hx hb d_MO_span_246 rfl ?_
                obtain ⟨hq0, hr1⟩ := Prod.mk.inj (g_some hf)
                subst hq0
                subst hr1
                exact cx_lret hx hb hr hlocks hP hS d_MO_span_247
              · have hf := g_t hf cb_16
                refine lv_aload_n hx hb d_MO_span_228 rfl (lv_at hl 0 rfl) ?_
                refine va_get (D := (dC, dI)) (ci := 8) (v := .ref (a 11)) (C := R_MO) (T := F_MO) (N := 42) hx hb hts (in_MO _) hown hK hP 0 rfl rfl 24 (by decide) (hts _ (List.mem_cons_of_mem _ mw_716)) (fun _ h9 => h9) rfl d_MO_span_229 ?_
                refine lv_iload hx hb d_MO_span_232 (lv_at hl 2 rfl) ?_
                obtain ⟨ck_6, hf⟩ := g_ck hf
                refine va_iald (D := (dC, dI)) hx hb hK hP 11 0 rfl rfl ck_6 d_MO_span_234 ?_
                refine lv_i2l hx hb d_MO_span_235 rfl ?_
                refine lv_goto (tgt := 247) hx hb d_MO_span_236 (by decide) ?_
                obtain ⟨hq0, hr1⟩ := Prod.mk.inj (g_some hf)
                subst hq0
                subst hr1
                exact cx_lret hx hb hr hlocks hP hS d_MO_span_247
          · have hf := g_f hf cb_13
            refine lv_iload_n hx hb d_MO_span_193 rfl (lv_at hl 1 rfl) ?_
            refine lv_iconst (v := 1) hx hb d_MO_span_194 (by decide) ?_
            refine lv_icmp_ne (tgt := 208) hx hb d_MO_span_195 (by decide) (fun cb_17 => ?_) (fun cb_17 => ?_)
            · have hf := g_f hf cb_17
              refine lv_aload_n hx hb d_MO_span_208 rfl (lv_at hl 0 rfl) ?_
              refine va_get (D := (dC, dI)) (ci := 8) (v := .ref (a 10)) (C := R_MO) (T := F_MO) (N := 42) hx hb hts (in_MO _) hown hK hP 0 rfl rfl 23 (by decide) (hts _ (List.mem_cons_of_mem _ mw_715)) (fun _ h9 => h9) rfl d_MO_span_209 ?_
              refine lv_iload hx hb d_MO_span_212 (lv_at hl 2 rfl) ?_
              obtain ⟨ck_7, hf⟩ := g_ck hf
              refine va_lald (D := (dC, dI)) hx hb hK hP 10 1 rfl rfl ck_7 d_MO_span_214 ?_
              obtain ⟨hq0, hr1⟩ := Prod.mk.inj (g_some hf)
              subst hq0
              subst hr1
              exact cx_lret hx hb hr hlocks hP hS d_MO_span_215
            · have hf := g_t hf cb_17
              refine lv_aload_n hx hb d_MO_span_198 rfl (lv_at hl 0 rfl) ?_
              refine va_get (D := (dC, dI)) (ci := 8) (v := .ref (a 9)) (C := R_MO) (T := F_MO) (N := 42) hx hb hts (in_MO _) hown hK hP 0 rfl rfl 22 (by decide) (hts _ (List.mem_cons_of_mem _ mw_714)) (fun _ h9 => h9) rfl d_MO_span_199 ?_
              refine lv_iload hx hb d_MO_span_202 (lv_at hl 2 rfl) ?_
              obtain ⟨ck_8, hf⟩ := g_ck hf
              refine va_lald (D := (dC, dI)) hx hb hK hP 9 1 rfl rfl ck_8 d_MO_span_204 ?_
              refine lv_goto (tgt := 215) hx hb d_MO_span_205 (by decide) ?_
              obtain ⟨hq0, hr1⟩ := Prod.mk.inj (g_some hf)
              subst hq0
              subst hr1
              exact cx_lret hx hb hr hlocks hP hS d_MO_span_215
        · have hf := g_t hf cb_12
          refine lv_ldc2 (v := (-1000000000000002)) hx hb hown (hts _ (List.mem_cons_of_mem _ mw_994)) d_MO_span_184 ?_
          obtain ⟨hq0, hr1⟩ := Prod.mk.inj (g_some hf)
          subst hq0
          subst hr1
          exact cx_lret hx hb hr hlocks hP hS d_MO_span_187
  · have hf := g_t hf cb_9
    refine lv_ldc2 (v := (-1000000000000001)) hx hb hown (hts _ (List.mem_cons_of_mem _ mw_993)) d_MO_span_164 ?_
    obtain ⟨hq0, hr1⟩ := Prod.mk.inj (g_some hf)
    subst hq0
    subst hr1
    exact cx_lret hx hb hr hlocks hP hS d_MO_span_167
