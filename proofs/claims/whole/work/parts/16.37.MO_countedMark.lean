def f_MO_countedMark_L19 (v1 : Int32) (mo_3 : MOt) : Nat → Int32 → Int32 → Option (Int32)
  | 0, _, _ => none
  | n + 1, v2_1, v3 =>
    if 300 ≤ v3 then (
      some v2_1
    ) else
    if v3 < 0 ∨ 300 ≤ v3.toNatClampNeg then none else
    if (MO_rKey mo_3 v3.toNatClampNeg) = v1 then (
      if (MO_rNumber mo_3 v3.toNatClampNeg) = (-1) then (
        if (MO_now mo_3) ≤ (MO_rTime mo_3 v3.toNatClampNeg) then (
          gl_let (v3 + 1) fun v3_3 =>
          f_MO_countedMark_L19 v1 mo_3 n v2_1 v3_3
        ) else
        if v2_1 = (-1) then (
          gl_let (v3 + 1) fun v3_4 =>
          f_MO_countedMark_L19 v1 mo_3 n v3 v3_4
        ) else
        (f_MO_isBefore v3 v2_1 mo_3).bind fun r =>
        if r = 0 then (
          gl_let (v3 + 1) fun v3_5 =>
          f_MO_countedMark_L19 v1 mo_3 n v2_1 v3_5
        ) else
        gl_let (v3 + 1) fun v3_6 =>
        f_MO_countedMark_L19 v1 mo_3 n v3 v3_6
      ) else
      gl_let (v3 + 1) fun v3_2 =>
      f_MO_countedMark_L19 v1 mo_3 n v2_1 v3_2
    ) else
    gl_let (v3 + 1) fun v3_1 =>
    f_MO_countedMark_L19 v1 mo_3 n v2_1 v3_1
def f_MO_countedMark_L10 (k : Nat) (v1 : Int32) : Nat → Int32 → MOt → Option (MOt)
  | 0, _, _ => none
  | n + 1, v2, mo_3 =>
    if v2 = (-1) then (
      some mo_3
    ) else
    (f_MO_countedMark_L19 v1 mo_3 k (-1) 0).bind fun v2_2 =>
    if v2_2 = (-1) then (
      f_MO_countedMark_L10 k v1 n v2_2 mo_3
    ) else
    if v1 < 0 ∨ 8 ≤ v1.toNatClampNeg then none else
    if v2_2 < 0 ∨ 300 ≤ v2_2.toNatClampNeg then none else
    gl_let ((sMO_rNumber mo_3 (upd (MO_rNumber mo_3) v2_2.toNatClampNeg (MO_numbered mo_3 v1.toNatClampNeg))) : MOt) fun mo_5 =>
    gl_let ((sMO_numbered mo_5 (upd (MO_numbered mo_5) v1.toNatClampNeg ((MO_numbered mo_5 v1.toNatClampNeg) + 1))) : MOt) fun mo_6 =>
    f_MO_countedMark_L10 k v1 n v2_2 mo_6
def f_MO_countedMark_L2 (k : Nat) : Nat → Int32 → MOt → Option (MOt)
  | 0, _, _ => none
  | n + 1, v1, mo_1 =>
    if 8 ≤ v1 then (
      some mo_1
    ) else
    (f_MO_countedMark_L10 k v1 k 0 mo_1).bind fun mo_4 =>
    gl_let (v1 + 1) fun v1_1 =>
    f_MO_countedMark_L2 k n v1_1 mo_4
def f_MO_countedMark_L175 (v2_3 : Int32) (v3_7 : Int64) : Nat → Int32 → MOt → Option (MOt)
  | 0, _, _ => none
  | n + 1, v5, mo_11 =>
    if 300 ≤ v5 then (
      some mo_11
    ) else
    if v5 < 0 ∨ 300 ≤ v5.toNatClampNeg then none else
    if (MO_rKey mo_11 v5.toNatClampNeg) = v2_3 then (
      if (MO_rNumber mo_11 v5.toNatClampNeg).toInt64 < v3_7 then (
        gl_let ((sMO_isIn mo_11 (upd (MO_isIn mo_11) v5.toNatClampNeg 0)) : MOt) fun mo_14 =>
        gl_let (v5 + 1) fun v5_2 =>
        f_MO_countedMark_L175 v2_3 v3_7 n v5_2 mo_14
      ) else
      if (v3_7 + (MO_size mo_11).toInt64) ≤ (MO_rNumber mo_11 v5.toNatClampNeg).toInt64 then (
        gl_let ((sMO_isIn mo_11 (upd (MO_isIn mo_11) v5.toNatClampNeg 0)) : MOt) fun mo_15 =>
        gl_let (v5 + 1) fun v5_3 =>
        f_MO_countedMark_L175 v2_3 v3_7 n v5_3 mo_15
      ) else
      gl_let ((sMO_isIn mo_11 (upd (MO_isIn mo_11) v5.toNatClampNeg 1)) : MOt) fun mo_16 =>
      gl_let (v5 + 1) fun v5_4 =>
      f_MO_countedMark_L175 v2_3 v3_7 n v5_4 mo_16
    ) else
    gl_let ((sMO_isIn mo_11 (upd (MO_isIn mo_11) v5.toNatClampNeg 0)) : MOt) fun mo_13 =>
    gl_let (v5 + 1) fun v5_1 =>
    f_MO_countedMark_L175 v2_3 v3_7 n v5_1 mo_13
def f_MO_countedMark_L128 (k : Nat) (v2_3 : Int32) : Nat → Int32 → MOt → Option (Int32 × MOt)
  | 0, _, _ => none
  | n + 1, v1_4, mo_9 =>
    if v2_3 < 0 ∨ 8 ≤ v2_3.toNatClampNeg then none else
    if (MO_numbered mo_9 v2_3.toNatClampNeg).toInt64 < (((MO_step mo_9).toInt64 * (MO_nextSpan mo_9 v2_3.toNatClampNeg).toInt64) + (MO_size mo_9).toInt64) then (
      some (v1_4, mo_9)
    ) else
    gl_let (((MO_step mo_9).toInt64 * (MO_nextSpan mo_9 v2_3.toNatClampNeg).toInt64)) fun v3_7 =>
    (f_MO_countedMark_L175 v2_3 v3_7 k 0 mo_9).bind fun mo_12 =>
    (f_MO_contents k mo_12).bind fun mo_17 =>
    (f_MO_tell k v2_3 v3_7 (v3_7 + (MO_size mo_17).toInt64) 1 1 mo_17).bind fun mo_18 =>
    gl_let ((sMO_nextSpan mo_18 (upd (MO_nextSpan mo_18) v2_3.toNatClampNeg ((MO_nextSpan mo_18 v2_3.toNatClampNeg) + 1))) : MOt) fun mo_19 =>
    gl_let (v1_4 + 1) fun v1_6 =>
    f_MO_countedMark_L128 k v2_3 n v1_6 mo_19
def f_MO_countedMark_L122 (k : Nat) : Nat → Int32 → Int32 → MOt → Option (Int32 × MOt)
  | 0, _, _, _ => none
  | n + 1, v1_2, v2_3, mo_7 =>
    if 8 ≤ v2_3 then (
      some (v1_2, mo_7)
    ) else
    (f_MO_countedMark_L128 k v2_3 k v1_2 mo_7).bind fun (v1_5, mo_10) =>
    gl_let (v2_3 + 1) fun v2_4 =>
    f_MO_countedMark_L122 k n v1_5 v2_4 mo_10
def f_MO_countedMark_L287  : Nat → Int32 → MOt → Option (MOt)
  | 0, _, _ => none
  | n + 1, v2_5, mo_20 =>
    if 300 ≤ v2_5 then (
      some mo_20
    ) else
    if v2_5 < 0 ∨ 300 ≤ v2_5.toNatClampNeg then none else
    if (MO_rKey mo_20 v2_5.toNatClampNeg) = (-1) then (
      gl_let (v2_5 + 1) fun v2_6 =>
      f_MO_countedMark_L287  n v2_6 mo_20
    ) else
    if (MO_rNumber mo_20 v2_5.toNatClampNeg) = (-1) then (
      gl_let (v2_5 + 1) fun v2_7 =>
      f_MO_countedMark_L287  n v2_7 mo_20
    ) else
    (f_MO_isWanted (MO_rKey mo_20 v2_5.toNatClampNeg) (MO_rNumber mo_20 v2_5.toNatClampNeg) mo_20).bind fun r_1 =>
    if r_1 = 0 then (
      gl_let ((sMO_rKey mo_20 (upd (MO_rKey mo_20) v2_5.toNatClampNeg (-1))) : MOt) fun mo_22 =>
      gl_let ((sMO_rows mo_22 ((MO_rows mo_22) - 1)) : MOt) fun mo_23 =>
      gl_let (v2_5 + 1) fun v2_9 =>
      f_MO_countedMark_L287  n v2_9 mo_23
    ) else
    gl_let (v2_5 + 1) fun v2_8 =>
    f_MO_countedMark_L287  n v2_8 mo_20
def f_MO_countedMark (k : Nat) (mo : MOt) : Option (Int32 × MOt) :=
  (f_MO_countedMark_L2 k k 0 mo).bind fun mo_2 =>
  (f_MO_countedMark_L122 k k 0 0 mo_2).bind fun (v1_3, mo_8) =>
  (f_MO_countedMark_L287 k 0 mo_8).bind fun mo_21 =>
  some (v1_3, mo_21)
set_option maxHeartbeats 4000000 in
set_option maxRecDepth 100000 in
theorem c_MO_countedMark (l : Launch) (dC : Nat → ClassId) (dI : Nat → Nat → Nat) (tC : Nat → ClassId) (a : Nat → Nat) (k : Nat) (mo : MOt) (res : Int32) (moR : MOt) (hf : f_MO_countedMark k mo = some (res, moR)) : cx_M l y_MO_countedMark w_MO_countedMark { frames := 2, cells := 0, slots := 0, locals := 45 } (dC, dI) classes (tyS tC) [.ref (a 0)] (wMO tC a mo) (wMO tC a moR) (some (.int res)) := by
  refine cx_of (cc := b_MO_countedMark) (maxL := 6) (ret := some .int) (plainFor_of_name (by decide)) rfl (Nat.le_of_ble_eq_true rfl) ?_
  intro p e s m below meth c hx hb hr hml hown hts hlocks A hA H locs ls hK hN hP hD hS hl
  have hown : s.vm.findClass R_MO = some m.cls := hown
  have hl : lv_has ls 6 [(0, .ref (a 0))] := hl
  unfold f_MO_countedMark at hf
  refine lv_iconst (v := 0) hx hb d_MO_countedMark_0 (by decide) ?_
  refine lv_istore_n (lv' := [(1, .int 0), (0, .ref (a 0))]) hx hb d_MO_countedMark_1 rfl hl (by decide) rfl (fun ls hl => ?_)
  have L_2 : ∀ (n : Nat) (v1 : Int32) (mo_1 : MOt) (mo_2 : MOt), f_MO_countedMark_L2 k n v1 mo_1 = some mo_2 → ∀ (H : Heap) (locs : List Loc) (ls : Array Slot), va_P (dC, dI) classes (wMO tC a mo_1) H → va_D A (wMO tC a mo_1) → va_S A s.heap H locs → lv_has ls 6 [(0, .ref (a 0)), (1, .int v1)] → (∀ (H : Heap) (locs : List Loc) (ls : Array Slot), va_P (dC, dI) classes (wMO tC a mo_2) H → va_D A (wMO tC a mo_2) → va_S A s.heap H locs → lv_has ls 6 [(0, .ref (a 0))] → W p l e { frames := 2, cells := 0, slots := 0, locals := 45 } s m [.ref (a 0)].toArray below meth c H locs 0 0 (cx_Z (dC, dI) classes below [.ref (a 0)] s (wMO tC a moR) (some (.int res)) A) (F0 m 118 ls [])) → W p l e { frames := 2, cells := 0, slots := 0, locals := 45 } s m [.ref (a 0)].toArray below meth c H locs 0 0 (cx_Z (dC, dI) classes below [.ref (a 0)] s (wMO tC a moR) (some (.int res)) A) (F0 m 2 ls []) := by
    intro n
    induction n with
    | zero =>
      intro v1 mo_1 mo_2 hf
      rw [f_MO_countedMark_L2] at hf
      cases hf
    | succ n ih =>
      intro v1 mo_1 mo_2 hf H locs ls hP hD hS hl kk
      rw [f_MO_countedMark_L2] at hf
      refine lv_iload_n hx hb d_MO_countedMark_2 rfl (lv_at hl 1 rfl) ?_
      refine lv_bipush (v := 8) hx hb d_MO_countedMark_3 (by decide) ?_
      refine lv_icmp_ge (tgt := 118) hx hb d_MO_countedMark_5 (by decide) (fun cb => ?_) (fun cb => ?_)
      · have hf := g_t hf cb
        have hq0 := (g_some hf)
        subst hq0
        exact kk _ _ _ hP hD hS (lv_sub hl [0] rfl)
      · have hf := g_f hf cb
        refine lv_iconst (v := 0) hx hb d_MO_countedMark_8 (by decide) ?_
        refine lv_istore_n (lv' := [(2, .int 0), (0, .ref (a 0)), (1, .int v1)]) hx hb d_MO_countedMark_9 rfl hl (by decide) rfl (fun ls hl => ?_)
        have L_10 : ∀ (n : Nat) (v2 : Int32) (mo_3 : MOt) (mo_4 : MOt), f_MO_countedMark_L10 k v1 n v2 mo_3 = some mo_4 → ∀ (H : Heap) (locs : List Loc) (ls : Array Slot), va_P (dC, dI) classes (wMO tC a mo_3) H → va_D A (wMO tC a mo_3) → va_S A s.heap H locs → lv_has ls 6 [(0, .ref (a 0)), (1, .int v1), (2, .int v2)] → (∀ (H : Heap) (locs : List Loc) (ls : Array Slot), va_P (dC, dI) classes (wMO tC a mo_4) H → va_D A (wMO tC a mo_4) → va_S A s.heap H locs → lv_has ls 6 [(0, .ref (a 0)), (1, .int v1)] → W p l e { frames := 2, cells := 0, slots := 0, locals := 45 } s m [.ref (a 0)].toArray below meth c H locs 0 0 (cx_Z (dC, dI) classes below [.ref (a 0)] s (wMO tC a moR) (some (.int res)) A) (F0 m 112 ls [])) → W p l e { frames := 2, cells := 0, slots := 0, locals := 45 } s m [.ref (a 0)].toArray below meth c H locs 0 0 (cx_Z (dC, dI) classes below [.ref (a 0)] s (wMO tC a moR) (some (.int res)) A) (F0 m 10 ls []) := by
          intro n
          induction n with
          | zero =>
            intro v2 mo_3 mo_4 hf
            rw [f_MO_countedMark_L10] at hf
            cases hf
          | succ n ih =>
            intro v2 mo_3 mo_4 hf H locs ls hP hD hS hl kk
            rw [f_MO_countedMark_L10] at hf
            refine lv_iload_n hx hb d_MO_countedMark_10 rfl (lv_at hl 2 rfl) ?_
            refine lv_iconst (v := (-1)) hx hb d_MO_countedMark_11 (by decide) ?_
            refine lv_icmp_eq (tgt := 112) hx hb d_MO_countedMark_12 (by decide) (fun cb_1 => ?_) (fun cb_1 => ?_)
            · have hf := g_t hf cb_1
              have hq0 := (g_some hf)
              subst hq0
              exact kk _ _ _ hP hD hS (lv_sub hl [0, 1] rfl)
            · have hf := g_f hf cb_1
              refine lv_iconst (v := (-1)) hx hb d_MO_countedMark_15 (by decide) ?_
              refine lv_istore_n (lv' := [(2, .int (-1)), (0, .ref (a 0)), (1, .int v1)]) hx hb d_MO_countedMark_16 rfl hl (by decide) rfl (fun ls hl => ?_)
              refine lv_iconst (v := 0) hx hb d_MO_countedMark_17 (by decide) ?_
              refine lv_istore_n (lv' := [(3, .int 0), (2, .int (-1)), (0, .ref (a 0)), (1, .int v1)]) hx hb d_MO_countedMark_18 rfl hl (by decide) rfl (fun ls hl => ?_)
              have L_19 : ∀ (n : Nat) (v2_1 : Int32) (v3 : Int32) (v2_2 : Int32), f_MO_countedMark_L19 v1 mo_3 n v2_1 v3 = some v2_2 → ∀ (H : Heap) (locs : List Loc) (ls : Array Slot), va_P (dC, dI) classes (wMO tC a mo_3) H → va_D A (wMO tC a mo_3) → va_S A s.heap H locs → lv_has ls 6 [(0, .ref (a 0)), (1, .int v1), (2, .int v2_1), (3, .int v3)] → (∀ (H : Heap) (locs : List Loc) (ls : Array Slot), va_P (dC, dI) classes (wMO tC a mo_3) H → va_D A (wMO tC a mo_3) → va_S A s.heap H locs → lv_has ls 6 [(0, .ref (a 0)), (1, .int v1), (2, .int v2_2)] → W p l e { frames := 2, cells := 0, slots := 0, locals := 45 } s m [.ref (a 0)].toArray below meth c H locs 0 0 (cx_Z (dC, dI) classes below [.ref (a 0)] s (wMO tC a moR) (some (.int res)) A) (F0 m 82 ls [])) → W p l e { frames := 2, cells := 0, slots := 0, locals := 45 } s m [.ref (a 0)].toArray below meth c H locs 0 0 (cx_Z (dC, dI) classes below [.ref (a 0)] s (wMO tC a moR) (some (.int res)) A) (F0 m 19 ls []) := by
                intro n
                induction n with
                | zero =>
                  intro v2_1 v3 v2_2 hf
                  rw [f_MO_countedMark_L19] at hf
                  cases hf
                | succ n ih =>
                  intro v2_1 v3 v2_2 hf H locs ls hP hD hS hl kk
                  rw [f_MO_countedMark_L19] at hf
                  refine lv_iload_n hx hb d_MO_countedMark_19 rfl (lv_at hl 3 rfl) ?_
                  refine lv_sipush (v := 300) hx hb d_MO_countedMark_20 (by decide) ?_
                  refine lv_icmp_ge (tgt := 82) hx hb d_MO_countedMark_23 (by decide) (fun cb_2 => ?_) (fun cb_2 => ?_)
                  · have hf := g_t hf cb_2
                    have hq0 := (g_some hf)
                    subst hq0
                    exact kk _ _ _ hP hD hS (lv_sub hl [0, 1, 2] rfl)
                  · have hf := g_f hf cb_2
                    refine lv_aload_n hx hb d_MO_countedMark_26 rfl (lv_at hl 0 rfl) ?_
                    refine va_get (D := (dC, dI)) (ci := 8) (v := .ref (a 3)) (C := R_MO) (T := F_MO) (N := 42) hx hb hts (in_MO _) hown hK hP 0 rfl rfl 13 (by decide) (hts _ (List.mem_cons_of_mem _ mw_705)) (fun _ h9 => h9) rfl d_MO_countedMark_27 ?_
                    refine lv_iload_n hx hb d_MO_countedMark_30 rfl (lv_at hl 3 rfl) ?_
                    obtain ⟨ck, hf⟩ := g_ck hf
                    refine va_iald (D := (dC, dI)) hx hb hK hP 3 0 rfl rfl ck d_MO_countedMark_31 ?_
                    refine lv_iload_n hx hb d_MO_countedMark_32 rfl (lv_at hl 1 rfl) ?_
                    refine lv_icmp_ne (tgt := 76) hx hb d_MO_countedMark_33 (by decide) (fun cb_3 => ?_) (fun cb_3 => ?_)
                    · have hf := g_f hf cb_3
                      obtain ⟨v3_1, h_v3_1⟩ : ∃ z : Int32, z = v3 + 1 := ⟨_, rfl⟩
                      have hf := g_let hf h_v3_1
                      refine lv_iinc (v := v3_1) (lv' := [(3, .int v3_1), (0, .ref (a 0)), (1, .int v1), (2, .int v2_1)]) hx hb d_MO_countedMark_76 hl (k := 3) rfl (by rw [h_v3_1]; rfl) (by decide) rfl (fun ls hl => ?_)
                      refine lv_goto (tgt := 19) hx hb d_MO_countedMark_79 (by decide) ?_
                      exact ih v2_1 v3_1 v2_2 hf H locs ls hP hD hS (lv_sub hl [1, 2, 3, 0] rfl) kk
                    · have hf := g_t hf cb_3
                      refine lv_aload_n hx hb d_MO_countedMark_36 rfl (lv_at hl 0 rfl) ?_
                      refine va_get (D := (dC, dI)) (ci := 8) (v := .ref (a 7)) (C := R_MO) (T := F_MO) (N := 42) hx hb hts (in_MO _) hown hK hP 0 rfl rfl 17 (by decide) (hts _ (List.mem_cons_of_mem _ mw_709)) (fun _ h9 => h9) rfl d_MO_countedMark_37 ?_
                      refine lv_iload_n hx hb d_MO_countedMark_40 rfl (lv_at hl 3 rfl) ?_
                      refine va_iald (D := (dC, dI)) hx hb hK hP 7 0 rfl rfl ck d_MO_countedMark_41 ?_
                      refine lv_iconst (v := (-1)) hx hb d_MO_countedMark_42 (by decide) ?_
                      refine lv_icmp_ne (tgt := 76) hx hb d_MO_countedMark_43 (by decide) (fun cb_4 => ?_) (fun cb_4 => ?_)
                      · have hf := g_f hf cb_4
                        obtain ⟨v3_2, h_v3_2⟩ : ∃ z : Int32, z = v3 + 1 := ⟨_, rfl⟩
                        have hf := g_let hf h_v3_2
                        refine lv_iinc (v := v3_2) (lv' := [(3, .int v3_2), (0, .ref (a 0)), (1, .int v1), (2, .int v2_1)]) hx hb d_MO_countedMark_76 hl (k := 3) rfl (by rw [h_v3_2]; rfl) (by decide) rfl (fun ls hl => ?_)
                        refine lv_goto (tgt := 19) hx hb d_MO_countedMark_79 (by decide) ?_
                        exact ih v2_1 v3_2 v2_2 hf H locs ls hP hD hS (lv_sub hl [1, 2, 3, 0] rfl) kk
                      · have hf := g_t hf cb_4
                        refine lv_aload_n hx hb d_MO_countedMark_46 rfl (lv_at hl 0 rfl) ?_
                        refine va_get (D := (dC, dI)) (ci := 8) (v := .ref (a 4)) (C := R_MO) (T := F_MO) (N := 42) hx hb hts (in_MO _) hown hK hP 0 rfl rfl 14 (by decide) (hts _ (List.mem_cons_of_mem _ mw_706)) (fun _ h9 => h9) rfl d_MO_countedMark_47 ?_
                        refine lv_iload_n hx hb d_MO_countedMark_50 rfl (lv_at hl 3 rfl) ?_
                        refine va_lald (D := (dC, dI)) hx hb hK hP 4 1 rfl rfl ck d_MO_countedMark_51 ?_
                        refine lv_aload_n hx hb d_MO_countedMark_52 rfl (lv_at hl 0 rfl) ?_
                        refine va_get (D := (dC, dI)) (ci := 8) (v := .long (MO_now mo_3)) (C := R_MO) (T := F_MO) (N := 42) hx hb hts (in_MO _) hown hK hP 0 rfl rfl 11 (by decide) (hts _ (List.mem_cons_of_mem _ mw_703)) (fun _ h9 => h9) rfl d_MO_countedMark_53 ?_
                        refine cq_ge (tgt := 76) hx hb d_MO_countedMark_56 d_MO_countedMark_57 (by decide) (fun cb_5 => ?_) (fun cb_5 => ?_)
                        · have hf := g_t hf cb_5
                          obtain ⟨v3_3, h_v3_3⟩ : ∃ z : Int32, z = v3 + 1 := ⟨_, rfl⟩
                          have hf := g_let hf h_v3_3
                          refine lv_iinc (v := v3_3) (lv' := [(3, .int v3_3), (0, .ref (a 0)), (1, .int v1), (2, .int v2_1)]) hx hb d_MO_countedMark_76 hl (k := 3) rfl (by rw [h_v3_3]; rfl) (by decide) rfl (fun ls hl => ?_)
                          refine lv_goto (tgt := 19) hx hb d_MO_countedMark_79 (by decide) ?_
                          exact ih v2_1 v3_3 v2_2 hf H locs ls hP hD hS (lv_sub hl [1, 2, 3, 0] rfl) kk
                        · have hf := g_f hf cb_5
                          refine lv_iload_n hx hb d_MO_countedMark_60 rfl (lv_at hl 2 rfl) ?_
                          refine lv_iconst (v := (-1)) hx hb d_MO_countedMark_61 (by decide) ?_
                          refine lv_icmp_eq (tgt := 74) hx hb d_MO_countedMark_62 (by decide) (fun cb_6 => ?_) (fun cb_6 => ?_)
                          · have hf := g_t hf cb_6
                            refine lv_iload_n hx hb d_MO_countedMark_74 rfl (lv_at hl 3 rfl) ?_
                            refine lv_istore_n (lv' := [(2, .int v3), (0, .ref (a 0)), (1, .int v1), (3, .int v3)]) hx hb d_MO_countedMark_75 rfl hl (by decide) rfl (fun ls hl => ?_)
                            obtain ⟨v3_4, h_v3_4⟩ : ∃ z : Int32, z = v3 + 1 := ⟨_, rfl⟩
                            have hf := g_let hf h_v3_4
                            refine lv_iinc (v := v3_4) (lv' := [(3, .int v3_4), (2, .int v3), (0, .ref (a 0)), (1, .int v1)]) hx hb d_MO_countedMark_76 hl (k := 3) rfl (by rw [h_v3_4]; rfl) (by decide) rfl (fun ls hl => ?_)
                            refine lv_goto (tgt := 19) hx hb d_MO_countedMark_79 (by decide) ?_
                            exact ih v3 v3_4 v2_2 hf H locs ls hP hD hS (lv_sub hl [2, 3, 1, 0] rfl) kk
                          · have hf := g_f hf cb_6
                            refine lv_aload_n hx hb d_MO_countedMark_65 rfl (lv_at hl 0 rfl) ?_
                            refine lv_iload_n hx hb d_MO_countedMark_66 rfl (lv_at hl 3 rfl) ?_
                            refine lv_iload_n hx hb d_MO_countedMark_67 rfl (lv_at hl 2 rfl) ?_
                            obtain ⟨r, hc, hf⟩ := g_bind hf
                            try dsimp only at hf
                            refine cx3_callV (As := [.int v3, .int v2_1]) (rest := []) (wMO tC a mo_3) ⟨hx, hb, hml, hown, hts⟩ (c_MO_isBefore l dC dI tC a v3 v2_1 mo_3 r hc) (k_MO_206 hts ⟨Nat.le_of_ble_eq_true rfl, Nat.le_of_ble_eq_true rfl⟩) hl.1 hP hD hS hA hK hN 0 8 rfl rfl rfl rfl rfl rfl (Nat.le_of_ble_eq_true rfl) d_MO_countedMark_68 ⟨Nat.zero_le _, Nat.zero_le _⟩ (fun H locs hP hD hS => ?_)
                            refine W.eq (g2 := F0 m 71 ls [.int r]) rfl ?_
                            refine lv_if_eq (tgt := 76) hx hb d_MO_countedMark_71 (by decide) (fun cb_7 => ?_) (fun cb_7 => ?_)
                            · have hf := g_t hf cb_7
                              obtain ⟨v3_5, h_v3_5⟩ : ∃ z : Int32, z = v3 + 1 := ⟨_, rfl⟩
                              have hf := g_let hf h_v3_5
                              refine lv_iinc (v := v3_5) (lv' := [(3, .int v3_5), (0, .ref (a 0)), (1, .int v1), (2, .int v2_1)]) hx hb d_MO_countedMark_76 hl (k := 3) rfl (by rw [h_v3_5]; rfl) (by decide) rfl (fun ls hl => ?_)
                              refine lv_goto (tgt := 19) hx hb d_MO_countedMark_79 (by decide) ?_
                              exact ih v2_1 v3_5 v2_2 hf H locs ls hP hD hS (lv_sub hl [1, 2, 3, 0] rfl) kk
                            · have hf := g_f hf cb_7
                              refine lv_iload_n hx hb d_MO_countedMark_74 rfl (lv_at hl 3 rfl) ?_
                              refine lv_istore_n (lv' := [(2, .int v3), (0, .ref (a 0)), (1, .int v1), (3, .int v3)]) hx hb d_MO_countedMark_75 rfl hl (by decide) rfl (fun ls hl => ?_)
                              obtain ⟨v3_6, h_v3_6⟩ : ∃ z : Int32, z = v3 + 1 := ⟨_, rfl⟩
                              have hf := g_let hf h_v3_6
                              refine lv_iinc (v := v3_6) (lv' := [(3, .int v3_6), (2, .int v3), (0, .ref (a 0)), (1, .int v1)]) hx hb d_MO_countedMark_76 hl (k := 3) rfl (by rw [h_v3_6]; rfl) (by decide) rfl (fun ls hl => ?_)
                              refine lv_goto (tgt := 19) hx hb d_MO_countedMark_79 (by decide) ?_
                              exact ih v3 v3_6 v2_2 hf H locs ls hP hD hS (lv_sub hl [2, 3, 1, 0] rfl) kk
              obtain ⟨v2_2, hL_19, hf⟩ := g_bind hf
              try dsimp only at hf
              refine L_19 k (-1) 0 v2_2 hL_19 H locs ls hP hD hS (lv_sub hl [2, 3, 1, 0] rfl) (fun H locs ls hP hD hS hl => ?_)
              refine lv_iload_n hx hb d_MO_countedMark_82 rfl (lv_at hl 2 rfl) ?_
              refine lv_iconst (v := (-1)) hx hb d_MO_countedMark_83 (by decide) ?_
              refine lv_icmp_eq (tgt := 10) hx hb d_MO_countedMark_84 (by decide) (fun cb_8 => ?_) (fun cb_8 => ?_)
              · have hf := g_t hf cb_8
                exact ih v2_2 mo_3 mo_4 hf H locs ls hP hD hS (lv_sub hl [0, 1, 2] rfl) kk
              · have hf := g_f hf cb_8
                refine lv_aload_n hx hb d_MO_countedMark_87 rfl (lv_at hl 0 rfl) ?_
                refine va_get (D := (dC, dI)) (ci := 8) (v := .ref (a 7)) (C := R_MO) (T := F_MO) (N := 42) hx hb hts (in_MO _) hown hK hP 0 rfl rfl 17 (by decide) (hts _ (List.mem_cons_of_mem _ mw_709)) (fun _ h9 => h9) rfl d_MO_countedMark_88 ?_
                refine lv_iload_n hx hb d_MO_countedMark_91 rfl (lv_at hl 2 rfl) ?_
                refine lv_aload_n hx hb d_MO_countedMark_92 rfl (lv_at hl 0 rfl) ?_
                refine va_get (D := (dC, dI)) (ci := 8) (v := .ref (a 16)) (C := R_MO) (T := F_MO) (N := 42) hx hb hts (in_MO _) hown hK hP 0 rfl rfl 30 (by decide) (hts _ (List.mem_cons_of_mem _ mw_722)) (fun _ h9 => h9) rfl d_MO_countedMark_93 ?_
                refine lv_iload_n hx hb d_MO_countedMark_96 rfl (lv_at hl 1 rfl) ?_
                obtain ⟨ck_1, hf⟩ := g_ck hf
                refine va_iald (D := (dC, dI)) hx hb hK hP 16 0 rfl rfl ck_1 d_MO_countedMark_97 ?_
                obtain ⟨ck_2, hf⟩ := g_ck hf
                refine va_iast (D := (dC, dI)) hx hb hK hP hD hS 7 0 rfl rfl ck_2 d_MO_countedMark_98 (fun H locs hP hD hS => ?_)
                have hP : va_P (dC, dI) classes (wMO tC a (sMO_rNumber mo_3 (upd (MO_rNumber mo_3) v2_2.toNatClampNeg (MO_numbered mo_3 v1.toNatClampNeg)))) H := hP
                have hD : va_D A (wMO tC a (sMO_rNumber mo_3 (upd (MO_rNumber mo_3) v2_2.toNatClampNeg (MO_numbered mo_3 v1.toNatClampNeg)))) := hD
                obtain ⟨mo_5, h_mo_5⟩ : ∃ z : MOt, z = (sMO_rNumber mo_3 (upd (MO_rNumber mo_3) v2_2.toNatClampNeg (MO_numbered mo_3 v1.toNatClampNeg))) := ⟨_, rfl⟩
                have hf := g_let hf h_mo_5
                have hP : va_P (dC, dI) classes (wMO tC a mo_5) H := by rw [h_mo_5]; exact hP
                have hD : va_D A (wMO tC a mo_5) := by rw [h_mo_5]; exact hD
                refine lv_aload_n hx hb d_MO_countedMark_99 rfl (lv_at hl 0 rfl) ?_
                refine va_get (D := (dC, dI)) (ci := 8) (v := .ref (a 16)) (C := R_MO) (T := F_MO) (N := 42) hx hb hts (in_MO _) hown hK hP 0 rfl rfl 30 (by decide) (hts _ (List.mem_cons_of_mem _ mw_722)) (fun _ h9 => h9) rfl d_MO_countedMark_100 ?_
                refine lv_iload_n hx hb d_MO_countedMark_103 rfl (lv_at hl 1 rfl) ?_
                refine lv_dup2_11 hx hb d_MO_countedMark_104 rfl rfl ?_
                refine va_iald (D := (dC, dI)) hx hb hK hP 16 0 rfl rfl ck_1 d_MO_countedMark_105 ?_
                refine lv_iconst (v := 1) hx hb d_MO_countedMark_106 (by decide) ?_
                refine lv_iadd hx hb d_MO_countedMark_107 ?_
                refine va_iast (D := (dC, dI)) hx hb hK hP hD hS 16 0 rfl rfl ck_1 d_MO_countedMark_108 (fun H locs hP hD hS => ?_)
                have hP : va_P (dC, dI) classes (wMO tC a (sMO_numbered mo_5 (upd (MO_numbered mo_5) v1.toNatClampNeg ((MO_numbered mo_5 v1.toNatClampNeg) + 1)))) H := hP
                have hD : va_D A (wMO tC a (sMO_numbered mo_5 (upd (MO_numbered mo_5) v1.toNatClampNeg ((MO_numbered mo_5 v1.toNatClampNeg) + 1)))) := hD
                obtain ⟨mo_6, h_mo_6⟩ : ∃ z : MOt, z = (sMO_numbered mo_5 (upd (MO_numbered mo_5) v1.toNatClampNeg ((MO_numbered mo_5 v1.toNatClampNeg) + 1))) := ⟨_, rfl⟩
                have hf := g_let hf h_mo_6
                have hP : va_P (dC, dI) classes (wMO tC a mo_6) H := by rw [h_mo_6]; exact hP
                have hD : va_D A (wMO tC a mo_6) := by rw [h_mo_6]; exact hD
                refine lv_goto (tgt := 10) hx hb d_MO_countedMark_109 (by decide) ?_
                exact ih v2_2 mo_6 mo_4 hf H locs ls hP hD hS (lv_sub hl [0, 1, 2] rfl) kk
        obtain ⟨mo_4, hL_10, hf⟩ := g_bind hf
        try dsimp only at hf
        refine L_10 k 0 mo_1 mo_4 hL_10 H locs ls hP hD hS (lv_sub hl [1, 2, 0] rfl) (fun H locs ls hP hD hS hl => ?_)
        obtain ⟨v1_1, h_v1_1⟩ : ∃ z : Int32, z = v1 + 1 := ⟨_, rfl⟩
        have hf := g_let hf h_v1_1
        refine lv_iinc (v := v1_1) (lv' := [(1, .int v1_1), (0, .ref (a 0))]) hx hb d_MO_countedMark_112 hl (k := 1) rfl (by rw [h_v1_1]; rfl) (by decide) rfl (fun ls hl => ?_)
        refine lv_goto (tgt := 2) hx hb d_MO_countedMark_115 (by decide) ?_
        exact ih v1_1 mo_4 mo_2 hf H locs ls hP hD hS (lv_sub hl [1, 0] rfl) kk
  obtain ⟨mo_2, hL_2, hf⟩ := g_bind hf
  try dsimp only at hf
  refine L_2 k 0 mo mo_2 hL_2 H locs ls hP hD hS (lv_sub hl [1, 0] rfl) (fun H locs ls hP hD hS hl => ?_)
  refine lv_iconst (v := 0) hx hb d_MO_countedMark_118 (by decide) ?_
  refine lv_istore_n (lv' := [(1, .int 0), (0, .ref (a 0))]) hx hb d_MO_countedMark_119 rfl hl (by decide) rfl (fun ls hl => ?_)
  refine lv_iconst (v := 0) hx hb d_MO_countedMark_120 (by decide) ?_
  refine lv_istore_n (lv' := [(2, .int 0), (1, .int 0), (0, .ref (a 0))]) hx hb d_MO_countedMark_121 rfl hl (by decide) rfl (fun ls hl => ?_)
  have L_122 : ∀ (n : Nat) (v1_2 : Int32) (v2_3 : Int32) (mo_7 : MOt) (v1_3 : Int32) (mo_8 : MOt), f_MO_countedMark_L122 k n v1_2 v2_3 mo_7 = some (v1_3, mo_8) → ∀ (H : Heap) (locs : List Loc) (ls : Array Slot), va_P (dC, dI) classes (wMO tC a mo_7) H → va_D A (wMO tC a mo_7) → va_S A s.heap H locs → lv_has ls 6 [(0, .ref (a 0)), (1, .int v1_2), (2, .int v2_3)] → (∀ (H : Heap) (locs : List Loc) (ls : Array Slot), va_P (dC, dI) classes (wMO tC a mo_8) H → va_D A (wMO tC a mo_8) → va_S A s.heap H locs → lv_has ls 6 [(0, .ref (a 0)), (1, .int v1_3)] → W p l e { frames := 2, cells := 0, slots := 0, locals := 45 } s m [.ref (a 0)].toArray below meth c H locs 0 0 (cx_Z (dC, dI) classes below [.ref (a 0)] s (wMO tC a moR) (some (.int res)) A) (F0 m 285 ls [])) → W p l e { frames := 2, cells := 0, slots := 0, locals := 45 } s m [.ref (a 0)].toArray below meth c H locs 0 0 (cx_Z (dC, dI) classes below [.ref (a 0)] s (wMO tC a moR) (some (.int res)) A) (F0 m 122 ls []) := by
    intro n
    induction n with
    | zero =>
      intro v1_2 v2_3 mo_7 v1_3 mo_8 hf
      rw [f_MO_countedMark_L122] at hf
      cases hf
    | succ n ih =>
      intro v1_2 v2_3 mo_7 v1_3 mo_8 hf H locs ls hP hD hS hl kk
      rw [f_MO_countedMark_L122] at hf
      refine lv_iload_n hx hb d_MO_countedMark_122 rfl (lv_at hl 2 rfl) ?_
      refine lv_bipush (v := 8) hx hb d_MO_countedMark_123 (by decide) ?_
      refine lv_icmp_ge (tgt := 285) hx hb d_MO_countedMark_125 (by decide) (fun cb_9 => ?_) (fun cb_9 => ?_)
      · have hf := g_t hf cb_9
        obtain ⟨hq0, hr1⟩ := Prod.mk.inj (g_some hf)
        subst hq0
        subst hr1
        exact kk _ _ _ hP hD hS (lv_sub hl [0, 1] rfl)
      · have hf := g_f hf cb_9
        have L_128 : ∀ (n : Nat) (v1_4 : Int32) (mo_9 : MOt) (v1_5 : Int32) (mo_10 : MOt), f_MO_countedMark_L128 k v2_3 n v1_4 mo_9 = some (v1_5, mo_10) → ∀ (H : Heap) (locs : List Loc) (ls : Array Slot), va_P (dC, dI) classes (wMO tC a mo_9) H → va_D A (wMO tC a mo_9) → va_S A s.heap H locs → lv_has ls 6 [(0, .ref (a 0)), (1, .int v1_4), (2, .int v2_3)] → (∀ (H : Heap) (locs : List Loc) (ls : Array Slot), va_P (dC, dI) classes (wMO tC a mo_10) H → va_D A (wMO tC a mo_10) → va_S A s.heap H locs → lv_has ls 6 [(0, .ref (a 0)), (1, .int v1_5), (2, .int v2_3)] → W p l e { frames := 2, cells := 0, slots := 0, locals := 45 } s m [.ref (a 0)].toArray below meth c H locs 0 0 (cx_Z (dC, dI) classes below [.ref (a 0)] s (wMO tC a moR) (some (.int res)) A) (F0 m 279 ls [])) → W p l e { frames := 2, cells := 0, slots := 0, locals := 45 } s m [.ref (a 0)].toArray below meth c H locs 0 0 (cx_Z (dC, dI) classes below [.ref (a 0)] s (wMO tC a moR) (some (.int res)) A) (F0 m 128 ls []) := by
          intro n
          induction n with
          | zero =>
            intro v1_4 mo_9 v1_5 mo_10 hf
            rw [f_MO_countedMark_L128] at hf
            cases hf
          | succ n ih =>
            intro v1_4 mo_9 v1_5 mo_10 hf H locs ls hP hD hS hl kk
            rw [f_MO_countedMark_L128] at hf
            refine lv_aload_n hx hb d_MO_countedMark_128 rfl (lv_at hl 0 rfl) ?_
            refine va_get (D := (dC, dI)) (ci := 8) (v := .int (MO_step mo_9)) (C := R_MO) (T := F_MO) (N := 42) hx hb hts (in_MO _) hown hK hP 0 rfl rfl 2 (by decide) (hts _ (List.mem_cons_of_mem _ mw_694)) (fun _ h9 => h9) rfl d_MO_countedMark_129 ?_
            refine lv_i2l hx hb d_MO_countedMark_132 rfl ?_
            refine lv_aload_n hx hb d_MO_countedMark_133 rfl (lv_at hl 0 rfl) ?_
            refine va_get (D := (dC, dI)) (ci := 8) (v := .ref (a 17)) (C := R_MO) (T := F_MO) (N := 42) hx hb hts (in_MO _) hown hK hP 0 rfl rfl 31 (by decide) (hts _ (List.mem_cons_of_mem _ mw_723)) (fun _ h9 => h9) rfl d_MO_countedMark_134 ?_
            refine lv_iload_n hx hb d_MO_countedMark_137 rfl (lv_at hl 2 rfl) ?_
            obtain ⟨ck_3, hf⟩ := g_ck hf
            refine va_iald (D := (dC, dI)) hx hb hK hP 17 0 rfl rfl ck_3 d_MO_countedMark_138 ?_
            refine lv_i2l hx hb d_MO_countedMark_139 rfl ?_
            refine lv_lmul hx hb d_MO_countedMark_140 ?_
            refine lv_aload_n hx hb d_MO_countedMark_141 rfl (lv_at hl 0 rfl) ?_
            refine va_get (D := (dC, dI)) (ci := 8) (v := .int (MO_size mo_9)) (C := R_MO) (T := F_MO) (N := 42) hx hb hts (in_MO _) hown hK hP 0 rfl rfl 1 (by decide) (hts _ (List.mem_cons_of_mem _ mw_693)) (fun _ h9 => h9) rfl d_MO_countedMark_142 ?_
            refine lv_i2l hx hb d_MO_countedMark_145 rfl ?_
            refine lv_ladd hx hb d_MO_countedMark_146 ?_
            refine lv_aload_n hx hb d_MO_countedMark_147 rfl (lv_at hl 0 rfl) ?_
            refine va_get (D := (dC, dI)) (ci := 8) (v := .ref (a 16)) (C := R_MO) (T := F_MO) (N := 42) hx hb hts (in_MO _) hown hK hP 0 rfl rfl 30 (by decide) (hts _ (List.mem_cons_of_mem _ mw_722)) (fun _ h9 => h9) rfl d_MO_countedMark_148 ?_
            refine lv_iload_n hx hb d_MO_countedMark_151 rfl (lv_at hl 2 rfl) ?_
            refine va_iald (D := (dC, dI)) hx hb hK hP 16 0 rfl rfl ck_3 d_MO_countedMark_152 ?_
            refine lv_i2l hx hb d_MO_countedMark_153 rfl ?_
            refine cq_gt (tgt := 279) hx hb d_MO_countedMark_154 d_MO_countedMark_155 (by decide) (fun cb_10 => ?_) (fun cb_10 => ?_)
            · have hf := g_t hf cb_10
              obtain ⟨hq0, hr1⟩ := Prod.mk.inj (g_some hf)
              subst hq0
              subst hr1
              exact kk _ _ _ hP hD hS (lv_sub hl [0, 1, 2] rfl)
            · have hf := g_f hf cb_10
              refine lv_aload_n hx hb d_MO_countedMark_158 rfl (lv_at hl 0 rfl) ?_
              refine va_get (D := (dC, dI)) (ci := 8) (v := .int (MO_step mo_9)) (C := R_MO) (T := F_MO) (N := 42) hx hb hts (in_MO _) hown hK hP 0 rfl rfl 2 (by decide) (hts _ (List.mem_cons_of_mem _ mw_694)) (fun _ h9 => h9) rfl d_MO_countedMark_159 ?_
              refine lv_i2l hx hb d_MO_countedMark_162 rfl ?_
              refine lv_aload_n hx hb d_MO_countedMark_163 rfl (lv_at hl 0 rfl) ?_
              refine va_get (D := (dC, dI)) (ci := 8) (v := .ref (a 17)) (C := R_MO) (T := F_MO) (N := 42) hx hb hts (in_MO _) hown hK hP 0 rfl rfl 31 (by decide) (hts _ (List.mem_cons_of_mem _ mw_723)) (fun _ h9 => h9) rfl d_MO_countedMark_164 ?_
              refine lv_iload_n hx hb d_MO_countedMark_167 rfl (lv_at hl 2 rfl) ?_
              refine va_iald (D := (dC, dI)) hx hb hK hP 17 0 rfl rfl ck_3 d_MO_countedMark_168 ?_
              refine lv_i2l hx hb d_MO_countedMark_169 rfl ?_
              refine lv_lmul hx hb d_MO_countedMark_170 ?_
              refine lv_topl (fun v3_7 h_v3_7 => ?_)
              have hf := g_let hf h_v3_7
              refine lv_lstore_n (lv' := [(3, .long v3_7), (0, .ref (a 0)), (1, .int v1_4), (2, .int v2_3)]) hx hb d_MO_countedMark_171 rfl hl (by decide) rfl (fun ls hl => ?_)
              refine lv_iconst (v := 0) hx hb d_MO_countedMark_172 (by decide) ?_
              refine lv_istore (lv' := [(5, .int 0), (3, .long v3_7), (0, .ref (a 0)), (1, .int v1_4), (2, .int v2_3)]) hx hb d_MO_countedMark_173 hl (by decide) rfl (fun ls hl => ?_)
              have L_175 : ∀ (n : Nat) (v5 : Int32) (mo_11 : MOt) (mo_12 : MOt), f_MO_countedMark_L175 v2_3 v3_7 n v5 mo_11 = some mo_12 → ∀ (H : Heap) (locs : List Loc) (ls : Array Slot), va_P (dC, dI) classes (wMO tC a mo_11) H → va_D A (wMO tC a mo_11) → va_S A s.heap H locs → lv_has ls 6 [(0, .ref (a 0)), (1, .int v1_4), (2, .int v2_3), (3, .long v3_7), (5, .int v5)] → (∀ (H : Heap) (locs : List Loc) (ls : Array Slot), va_P (dC, dI) classes (wMO tC a mo_12) H → va_D A (wMO tC a mo_12) → va_S A s.heap H locs → lv_has ls 6 [(0, .ref (a 0)), (1, .int v1_4), (2, .int v2_3), (3, .long v3_7)] → W p l e { frames := 2, cells := 0, slots := 0, locals := 45 } s m [.ref (a 0)].toArray below meth c H locs 0 0 (cx_Z (dC, dI) classes below [.ref (a 0)] s (wMO tC a moR) (some (.int res)) A) (F0 m 244 ls [])) → W p l e { frames := 2, cells := 0, slots := 0, locals := 45 } s m [.ref (a 0)].toArray below meth c H locs 0 0 (cx_Z (dC, dI) classes below [.ref (a 0)] s (wMO tC a moR) (some (.int res)) A) (F0 m 175 ls []) := by
                intro n
                induction n with
                | zero =>
                  intro v5 mo_11 mo_12 hf
                  rw [f_MO_countedMark_L175] at hf
                  cases hf
                | succ n ih =>
                  intro v5 mo_11 mo_12 hf H locs ls hP hD hS hl kk
                  rw [f_MO_countedMark_L175] at hf
                  refine lv_iload hx hb d_MO_countedMark_175 (lv_at hl 4 rfl) ?_
                  refine lv_sipush (v := 300) hx hb d_MO_countedMark_177 (by decide) ?_
                  refine lv_icmp_ge (tgt := 244) hx hb d_MO_countedMark_180 (by decide) (fun cb_11 => ?_) (fun cb_11 => ?_)
                  · have hf := g_t hf cb_11
                    have hq0 := (g_some hf)
                    subst hq0
                    exact kk _ _ _ hP hD hS (lv_sub hl [0, 1, 2, 3] rfl)
                  · have hf := g_f hf cb_11
                    refine lv_aload_n hx hb d_MO_countedMark_183 rfl (lv_at hl 0 rfl) ?_
                    refine va_get (D := (dC, dI)) (ci := 8) (v := .ref (a 22)) (C := R_MO) (T := F_MO) (N := 42) hx hb hts (in_MO _) hown hK hP 0 rfl rfl 41 (by decide) (hts _ (List.mem_cons_of_mem _ mw_733)) (fun _ h9 => h9) rfl d_MO_countedMark_184 ?_
                    refine lv_iload hx hb d_MO_countedMark_187 (lv_at hl 4 rfl) ?_
                    refine lv_aload_n hx hb d_MO_countedMark_189 rfl (lv_at hl 0 rfl) ?_
                    refine va_get (D := (dC, dI)) (ci := 8) (v := .ref (a 3)) (C := R_MO) (T := F_MO) (N := 42) hx hb hts (in_MO _) hown hK hP 0 rfl rfl 13 (by decide) (hts _ (List.mem_cons_of_mem _ mw_705)) (fun _ h9 => h9) rfl d_MO_countedMark_190 ?_
                    refine lv_iload hx hb d_MO_countedMark_193 (lv_at hl 4 rfl) ?_
                    obtain ⟨ck_4, hf⟩ := g_ck hf
                    refine va_iald (D := (dC, dI)) hx hb hK hP 3 0 rfl rfl ck_4 d_MO_countedMark_195 ?_
                    refine lv_iload_n hx hb d_MO_countedMark_196 rfl (lv_at hl 2 rfl) ?_
                    refine lv_icmp_ne (tgt := 236) hx hb d_MO_countedMark_197 (by decide) (fun cb_12 => ?_) (fun cb_12 => ?_)
                    · have hf := g_f hf cb_12
                      refine lv_iconst (v := 0) hx hb d_MO_countedMark_236 (by decide) ?_
                      refine va_zast (D := (dC, dI)) hx hb hK hP hD hS 22 2 rfl rfl ck_4 d_MO_countedMark_237 (fun H locs hP hD hS => ?_)
                      have hP : va_P (dC, dI) classes (wMO tC a (sMO_isIn mo_11 (upd (MO_isIn mo_11) v5.toNatClampNeg 0))) H := hP
                      have hD : va_D A (wMO tC a (sMO_isIn mo_11 (upd (MO_isIn mo_11) v5.toNatClampNeg 0))) := hD
                      obtain ⟨mo_13, h_mo_13⟩ : ∃ z : MOt, z = (sMO_isIn mo_11 (upd (MO_isIn mo_11) v5.toNatClampNeg 0)) := ⟨_, rfl⟩
                      have hf := g_let hf h_mo_13
                      have hP : va_P (dC, dI) classes (wMO tC a mo_13) H := by rw [h_mo_13]; exact hP
                      have hD : va_D A (wMO tC a mo_13) := by rw [h_mo_13]; exact hD
                      obtain ⟨v5_1, h_v5_1⟩ : ∃ z : Int32, z = v5 + 1 := ⟨_, rfl⟩
                      have hf := g_let hf h_v5_1
                      refine lv_iinc (v := v5_1) (lv' := [(5, .int v5_1), (0, .ref (a 0)), (1, .int v1_4), (2, .int v2_3), (3, .long v3_7)]) hx hb d_MO_countedMark_238 hl (k := 4) rfl (by rw [h_v5_1]; rfl) (by decide) rfl (fun ls hl => ?_)
                      refine lv_goto (tgt := 175) hx hb d_MO_countedMark_241 (by decide) ?_
                      exact ih v5_1 mo_13 mo_12 hf H locs ls hP hD hS (lv_sub hl [1, 2, 3, 4, 0] rfl) kk
                    · have hf := g_t hf cb_12
                      refine lv_aload_n hx hb d_MO_countedMark_200 rfl (lv_at hl 0 rfl) ?_
                      refine va_get (D := (dC, dI)) (ci := 8) (v := .ref (a 7)) (C := R_MO) (T := F_MO) (N := 42) hx hb hts (in_MO _) hown hK hP 0 rfl rfl 17 (by decide) (hts _ (List.mem_cons_of_mem _ mw_709)) (fun _ h9 => h9) rfl d_MO_countedMark_201 ?_
                      refine lv_iload hx hb d_MO_countedMark_204 (lv_at hl 4 rfl) ?_
                      refine va_iald (D := (dC, dI)) hx hb hK hP 7 0 rfl rfl ck_4 d_MO_countedMark_206 ?_
                      refine lv_i2l hx hb d_MO_countedMark_207 rfl ?_
                      refine lv_lload_n hx hb d_MO_countedMark_208 rfl (lv_at hl 3 rfl) ?_
                      refine cq_lt (tgt := 236) hx hb d_MO_countedMark_209 d_MO_countedMark_210 (by decide) (fun cb_13 => ?_) (fun cb_13 => ?_)
                      · have hf := g_t hf cb_13
                        refine lv_iconst (v := 0) hx hb d_MO_countedMark_236 (by decide) ?_
                        refine va_zast (D := (dC, dI)) hx hb hK hP hD hS 22 2 rfl rfl ck_4 d_MO_countedMark_237 (fun H locs hP hD hS => ?_)
                        have hP : va_P (dC, dI) classes (wMO tC a (sMO_isIn mo_11 (upd (MO_isIn mo_11) v5.toNatClampNeg 0))) H := hP
                        have hD : va_D A (wMO tC a (sMO_isIn mo_11 (upd (MO_isIn mo_11) v5.toNatClampNeg 0))) := hD
                        obtain ⟨mo_14, h_mo_14⟩ : ∃ z : MOt, z = (sMO_isIn mo_11 (upd (MO_isIn mo_11) v5.toNatClampNeg 0)) := ⟨_, rfl⟩
                        have hf := g_let hf h_mo_14
                        have hP : va_P (dC, dI) classes (wMO tC a mo_14) H := by rw [h_mo_14]; exact hP
                        have hD : va_D A (wMO tC a mo_14) := by rw [h_mo_14]; exact hD
                        obtain ⟨v5_2, h_v5_2⟩ : ∃ z : Int32, z = v5 + 1 := ⟨_, rfl⟩
                        have hf := g_let hf h_v5_2
                        refine lv_iinc (v := v5_2) (lv' := [(5, .int v5_2), (0, .ref (a 0)), (1, .int v1_4), (2, .int v2_3), (3, .long v3_7)]) hx hb d_MO_countedMark_238 hl (k := 4) rfl (by rw [h_v5_2]; rfl) (by decide) rfl (fun ls hl => ?_)
                        refine lv_goto (tgt := 175) hx hb d_MO_countedMark_241 (by decide) ?_
                        exact ih v5_2 mo_14 mo_12 hf H locs ls hP hD hS (lv_sub hl [1, 2, 3, 4, 0] rfl) kk
                      · have hf := g_f hf cb_13
                        refine lv_aload_n hx hb d_MO_countedMark_213 rfl (lv_at hl 0 rfl) ?_
                        refine va_get (D := (dC, dI)) (ci := 8) (v := .ref (a 7)) (C := R_MO) (T := F_MO) (N := 42) hx hb hts (in_MO _) hown hK hP 0 rfl rfl 17 (by decide) (hts _ (List.mem_cons_of_mem _ mw_709)) (fun _ h9 => h9) rfl d_MO_countedMark_214 ?_
                        refine lv_iload hx hb d_MO_countedMark_217 (lv_at hl 4 rfl) ?_
                        refine va_iald (D := (dC, dI)) hx hb hK hP 7 0 rfl rfl ck_4 d_MO_countedMark_219 ?_
                        refine lv_i2l hx hb d_MO_countedMark_220 rfl ?_
                        refine lv_lload_n hx hb d_MO_countedMark_221 rfl (lv_at hl 3 rfl) ?_
                        refine lv_aload_n hx hb d_MO_countedMark_222 rfl (lv_at hl 0 rfl) ?_
                        refine va_get (D := (dC, dI)) (ci := 8) (v := .int (MO_size mo_11)) (C := R_MO) (T := F_MO) (N := 42) hx hb hts (in_MO _) hown hK hP 0 rfl rfl 1 (by decide) (hts _ (List.mem_cons_of_mem _ mw_693)) (fun _ h9 => h9) rfl d_MO_countedMark_223 ?_
                        refine lv_i2l hx hb d_MO_countedMark_226 rfl ?_
                        refine lv_ladd hx hb d_MO_countedMark_227 ?_
                        refine cq_ge (tgt := 236) hx hb d_MO_countedMark_228 d_MO_countedMark_229 (by decide) (fun cb_14 => ?_) (fun cb_14 => ?_)
                        · have hf := g_t hf cb_14
                          refine lv_iconst (v := 0) hx hb d_MO_countedMark_236 (by decide) ?_
                          refine va_zast (D := (dC, dI)) hx hb hK hP hD hS 22 2 rfl rfl ck_4 d_MO_countedMark_237 (fun H locs hP hD hS => ?_)
                          have hP : va_P (dC, dI) classes (wMO tC a (sMO_isIn mo_11 (upd (MO_isIn mo_11) v5.toNatClampNeg 0))) H := hP
                          have hD : va_D A (wMO tC a (sMO_isIn mo_11 (upd (MO_isIn mo_11) v5.toNatClampNeg 0))) := hD
                          obtain ⟨mo_15, h_mo_15⟩ : ∃ z : MOt, z = (sMO_isIn mo_11 (upd (MO_isIn mo_11) v5.toNatClampNeg 0)) := ⟨_, rfl⟩
                          have hf := g_let hf h_mo_15
                          have hP : va_P (dC, dI) classes (wMO tC a mo_15) H := by rw [h_mo_15]; exact hP
                          have hD : va_D A (wMO tC a mo_15) := by rw [h_mo_15]; exact hD
                          obtain ⟨v5_3, h_v5_3⟩ : ∃ z : Int32, z = v5 + 1 := ⟨_, rfl⟩
                          have hf := g_let hf h_v5_3
                          refine lv_iinc (v := v5_3) (lv' := [(5, .int v5_3), (0, .ref (a 0)), (1, .int v1_4), (2, .int v2_3), (3, .long v3_7)]) hx hb d_MO_countedMark_238 hl (k := 4) rfl (by rw [h_v5_3]; rfl) (by decide) rfl (fun ls hl => ?_)
                          refine lv_goto (tgt := 175) hx hb d_MO_countedMark_241 (by decide) ?_
                          exact ih v5_3 mo_15 mo_12 hf H locs ls hP hD hS (lv_sub hl [1, 2, 3, 4, 0] rfl) kk
                        · have hf := g_f hf cb_14
                          refine lv_iconst (v := 1) hx hb d_MO_countedMark_232 (by decide) ?_
                          refine lv_goto (tgt := 237) hx hb d_MO_countedMark_233 (by decide) ?_
                          refine va_zast (D := (dC, dI)) hx hb hK hP hD hS 22 2 rfl rfl ck_4 d_MO_countedMark_237 (fun H locs hP hD hS => ?_)
                          have hP : va_P (dC, dI) classes (wMO tC a (sMO_isIn mo_11 (upd (MO_isIn mo_11) v5.toNatClampNeg 1))) H := hP
                          have hD : va_D A (wMO tC a (sMO_isIn mo_11 (upd (MO_isIn mo_11) v5.toNatClampNeg 1))) := hD
                          obtain ⟨mo_16, h_mo_16⟩ : ∃ z : MOt, z = (sMO_isIn mo_11 (upd (MO_isIn mo_11) v5.toNatClampNeg 1)) := ⟨_, rfl⟩
                          have hf := g_let hf h_mo_16
                          have hP : va_P (dC, dI) classes (wMO tC a mo_16) H := by rw [h_mo_16]; exact hP
                          have hD : va_D A (wMO tC a mo_16) := by rw [h_mo_16]; exact hD
                          obtain ⟨v5_4, h_v5_4⟩ : ∃ z : Int32, z = v5 + 1 := ⟨_, rfl⟩
                          have hf := g_let hf h_v5_4
                          refine lv_iinc (v := v5_4) (lv' := [(5, .int v5_4), (0, .ref (a 0)), (1, .int v1_4), (2, .int v2_3), (3, .long v3_7)]) hx hb d_MO_countedMark_238 hl (k := 4) rfl (by rw [h_v5_4]; rfl) (by decide) rfl (fun ls hl => ?_)
                          refine lv_goto (tgt := 175) hx hb d_MO_countedMark_241 (by decide) ?_
                          exact ih v5_4 mo_16 mo_12 hf H locs ls hP hD hS (lv_sub hl [1, 2, 3, 4, 0] rfl) kk
              obtain ⟨mo_12, hL_175, hf⟩ := g_bind hf
              try dsimp only at hf
              refine L_175 k 0 mo_9 mo_12 hL_175 H locs ls hP hD hS (lv_sub hl [2, 3, 4, 1, 0] rfl) (fun H locs ls hP hD hS hl => ?_)
              refine lv_aload_n hx hb d_MO_countedMark_244 rfl (lv_at hl 0 rfl) ?_
              obtain ⟨mo_17, hc_1, hf⟩ := g_bind hf
              try dsimp only at hf
              refine cx3_callV (As := []) (rest := []) (wMO tC a mo_17) ⟨hx, hb, hml, hown, hts⟩ (c_MO_contents l dC dI tC a k mo_12 mo_17 hc_1) (k_MO_224 hts ⟨Nat.le_of_ble_eq_true rfl, Nat.le_of_ble_eq_true rfl⟩) hl.1 hP hD hS hA hK hN 0 8 rfl rfl rfl (adMO _ _ _ _) rfl rfl (Nat.le_of_ble_eq_true rfl) d_MO_countedMark_245 ⟨Nat.zero_le _, Nat.zero_le _⟩ (fun H locs hP hD hS => ?_)
              refine W.eq (g2 := F0 m 248 ls []) rfl ?_
              refine lv_aload_n hx hb d_MO_countedMark_248 rfl (lv_at hl 0 rfl) ?_
              refine lv_iload_n hx hb d_MO_countedMark_249 rfl (lv_at hl 2 rfl) ?_
              refine lv_lload_n hx hb d_MO_countedMark_250 rfl (lv_at hl 3 rfl) ?_
              refine lv_lload_n hx hb d_MO_countedMark_251 rfl (lv_at hl 3 rfl) ?_
              refine lv_aload_n hx hb d_MO_countedMark_252 rfl (lv_at hl 0 rfl) ?_
              refine va_get (D := (dC, dI)) (ci := 8) (v := .int (MO_size mo_17)) (C := R_MO) (T := F_MO) (N := 42) hx hb hts (in_MO _) hown hK hP 0 rfl rfl 1 (by decide) (hts _ (List.mem_cons_of_mem _ mw_693)) (fun _ h9 => h9) rfl d_MO_countedMark_253 ?_
              refine lv_i2l hx hb d_MO_countedMark_256 rfl ?_
              refine lv_ladd hx hb d_MO_countedMark_257 ?_
              refine lv_iconst (v := 1) hx hb d_MO_countedMark_258 (by decide) ?_
              refine lv_iconst (v := 1) hx hb d_MO_countedMark_259 (by decide) ?_
              obtain ⟨mo_18, hc_2, hf⟩ := g_bind hf
              try dsimp only at hf
              refine cx3_callV (As := [.int v2_3, .long v3_7, .long (v3_7 + (MO_size mo_17).toInt64), .int 1, .int 1]) (rest := []) (wMO tC a mo_18) ⟨hx, hb, hml, hown, hts⟩ (c_MO_tell l dC dI tC a k v2_3 v3_7 (v3_7 + (MO_size mo_17).toInt64) 1 1 mo_17 mo_18 hc_2) (k_MO_227 hts ⟨Nat.le_of_ble_eq_true rfl, Nat.le_of_ble_eq_true rfl⟩) hl.1 hP hD hS hA hK hN 0 8 rfl rfl rfl (adMO _ _ _ _) rfl rfl (Nat.le_of_ble_eq_true rfl) d_MO_countedMark_260 ⟨Nat.zero_le _, Nat.zero_le _⟩ (fun H locs hP hD hS => ?_)
              refine W.eq (g2 := F0 m 263 ls []) rfl ?_
              refine lv_aload_n hx hb d_MO_countedMark_263 rfl (lv_at hl 0 rfl) ?_
              refine va_get (D := (dC, dI)) (ci := 8) (v := .ref (a 17)) (C := R_MO) (T := F_MO) (N := 42) hx hb hts (in_MO _) hown hK hP 0 rfl rfl 31 (by decide) (hts _ (List.mem_cons_of_mem _ mw_723)) (fun _ h9 => h9) rfl d_MO_countedMark_264 ?_
              refine lv_iload_n hx hb d_MO_countedMark_267 rfl (lv_at hl 2 rfl) ?_
              refine lv_dup2_11 hx hb d_MO_countedMark_268 rfl rfl ?_
              refine va_iald (D := (dC, dI)) hx hb hK hP 17 0 rfl rfl ck_3 d_MO_countedMark_269 ?_
              refine lv_iconst (v := 1) hx hb d_MO_countedMark_270 (by decide) ?_
              refine lv_iadd hx hb d_MO_countedMark_271 ?_
              refine va_iast (D := (dC, dI)) hx hb hK hP hD hS 17 0 rfl rfl ck_3 d_MO_countedMark_272 (fun H locs hP hD hS => ?_)
              have hP : va_P (dC, dI) classes (wMO tC a (sMO_nextSpan mo_18 (upd (MO_nextSpan mo_18) v2_3.toNatClampNeg ((MO_nextSpan mo_18 v2_3.toNatClampNeg) + 1)))) H := hP
              have hD : va_D A (wMO tC a (sMO_nextSpan mo_18 (upd (MO_nextSpan mo_18) v2_3.toNatClampNeg ((MO_nextSpan mo_18 v2_3.toNatClampNeg) + 1)))) := hD
              obtain ⟨mo_19, h_mo_19⟩ : ∃ z : MOt, z = (sMO_nextSpan mo_18 (upd (MO_nextSpan mo_18) v2_3.toNatClampNeg ((MO_nextSpan mo_18 v2_3.toNatClampNeg) + 1))) := ⟨_, rfl⟩
              have hf := g_let hf h_mo_19
              have hP : va_P (dC, dI) classes (wMO tC a mo_19) H := by rw [h_mo_19]; exact hP
              have hD : va_D A (wMO tC a mo_19) := by rw [h_mo_19]; exact hD
              obtain ⟨v1_6, h_v1_6⟩ : ∃ z : Int32, z = v1_4 + 1 := ⟨_, rfl⟩
              have hf := g_let hf h_v1_6
              refine lv_iinc (v := v1_6) (lv' := [(1, .int v1_6), (0, .ref (a 0)), (2, .int v2_3), (3, .long v3_7)]) hx hb d_MO_countedMark_273 hl (k := 1) rfl (by rw [h_v1_6]; rfl) (by decide) rfl (fun ls hl => ?_)
              refine lv_goto (tgt := 128) hx hb d_MO_countedMark_276 (by decide) ?_
              exact ih v1_6 mo_19 v1_5 mo_10 hf H locs ls hP hD hS (lv_sub hl [1, 0, 2] rfl) kk
        obtain ⟨⟨v1_5, mo_10⟩, hL_128, hf⟩ := g_bind hf
        try dsimp only at hf
        refine L_128 k v1_2 mo_7 v1_5 mo_10 hL_128 H locs ls hP hD hS (lv_sub hl [0, 1, 2] rfl) (fun H locs ls hP hD hS hl => ?_)
        obtain ⟨v2_4, h_v2_4⟩ : ∃ z : Int32, z = v2_3 + 1 := ⟨_, rfl⟩
        have hf := g_let hf h_v2_4
        refine lv_iinc (v := v2_4) (lv' := [(2, .int v2_4), (0, .ref (a 0)), (1, .int v1_5)]) hx hb d_MO_countedMark_279 hl (k := 2) rfl (by rw [h_v2_4]; rfl) (by decide) rfl (fun ls hl => ?_)
        refine lv_goto (tgt := 122) hx hb d_MO_countedMark_282 (by decide) ?_
        exact ih v1_5 v2_4 mo_10 v1_3 mo_8 hf H locs ls hP hD hS (lv_sub hl [1, 2, 0] rfl) kk
  obtain ⟨⟨v1_3, mo_8⟩, hL_122, hf⟩ := g_bind hf
  try dsimp only at hf
  refine L_122 k 0 0 mo_2 v1_3 mo_8 hL_122 H locs ls hP hD hS (lv_sub hl [2, 1, 0] rfl) (fun H locs ls hP hD hS hl => ?_)
  refine lv_iconst (v := 0) hx hb d_MO_countedMark_285 (by decide) ?_
  refine lv_istore_n (lv' := [(2, .int 0), (0, .ref (a 0)), (1, .int v1_3)]) hx hb d_MO_countedMark_286 rfl hl (by decide) rfl (fun ls hl => ?_)
  have L_287 : ∀ (n : Nat) (v2_5 : Int32) (mo_20 : MOt) (mo_21 : MOt), f_MO_countedMark_L287 n v2_5 mo_20 = some mo_21 → ∀ (H : Heap) (locs : List Loc) (ls : Array Slot), va_P (dC, dI) classes (wMO tC a mo_20) H → va_D A (wMO tC a mo_20) → va_S A s.heap H locs → lv_has ls 6 [(0, .ref (a 0)), (1, .int v1_3), (2, .int v2_5)] → (∀ (H : Heap) (locs : List Loc) (ls : Array Slot), va_P (dC, dI) classes (wMO tC a mo_21) H → va_D A (wMO tC a mo_21) → va_S A s.heap H locs → lv_has ls 6 [(1, .int v1_3)] → W p l e { frames := 2, cells := 0, slots := 0, locals := 45 } s m [.ref (a 0)].toArray below meth c H locs 0 0 (cx_Z (dC, dI) classes below [.ref (a 0)] s (wMO tC a moR) (some (.int res)) A) (F0 m 356 ls [])) → W p l e { frames := 2, cells := 0, slots := 0, locals := 45 } s m [.ref (a 0)].toArray below meth c H locs 0 0 (cx_Z (dC, dI) classes below [.ref (a 0)] s (wMO tC a moR) (some (.int res)) A) (F0 m 287 ls []) := by
    intro n
    induction n with
    | zero =>
      intro v2_5 mo_20 mo_21 hf
      rw [f_MO_countedMark_L287] at hf
      cases hf
    | succ n ih =>
      intro v2_5 mo_20 mo_21 hf H locs ls hP hD hS hl kk
      rw [f_MO_countedMark_L287] at hf
      refine lv_iload_n hx hb d_MO_countedMark_287 rfl (lv_at hl 2 rfl) ?_
      refine lv_sipush (v := 300) hx hb d_MO_countedMark_288 (by decide) ?_
      refine lv_icmp_ge (tgt := 356) hx hb d_MO_countedMark_291 (by decide) (fun cb_15 => ?_) (fun cb_15 => ?_)
      · have hf := g_t hf cb_15
        have hq0 := (g_some hf)
        subst hq0
        exact kk _ _ _ hP hD hS (lv_sub hl [1] rfl)
      · have hf := g_f hf cb_15
        refine lv_aload_n hx hb d_MO_countedMark_294 rfl (lv_at hl 0 rfl) ?_
        refine va_get (D := (dC, dI)) (ci := 8) (v := .ref (a 3)) (C := R_MO) (T := F_MO) (N := 42) hx hb hts (in_MO _) hown hK hP 0 rfl rfl 13 (by decide) (hts _ (List.mem_cons_of_mem _ mw_705)) (fun _ h9 => h9) rfl d_MO_countedMark_295 ?_
        refine lv_iload_n hx hb d_MO_countedMark_298 rfl (lv_at hl 2 rfl) ?_
        obtain ⟨ck_5, hf⟩ := g_ck hf
        refine va_iald (D := (dC, dI)) hx hb hK hP 3 0 rfl rfl ck_5 d_MO_countedMark_299 ?_
        refine lv_iconst (v := (-1)) hx hb d_MO_countedMark_300 (by decide) ?_
        refine lv_icmp_eq (tgt := 350) hx hb d_MO_countedMark_301 (by decide) (fun cb_16 => ?_) (fun cb_16 => ?_)
        · have hf := g_t hf cb_16
          obtain ⟨v2_6, h_v2_6⟩ : ∃ z : Int32, z = v2_5 + 1 := ⟨_, rfl⟩
          have hf := g_let hf h_v2_6
          refine lv_iinc (v := v2_6) (lv' := [(2, .int v2_6), (0, .ref (a 0)), (1, .int v1_3)]) hx hb d_MO_countedMark_350 hl (k := 2) rfl (by rw [h_v2_6]; rfl) (by decide) rfl (fun ls hl => ?_)
          refine lv_goto (tgt := 287) hx hb d_MO_countedMark_353 (by decide) ?_
          exact ih v2_6 mo_20 mo_21 hf H locs ls hP hD hS (lv_sub hl [1, 2, 0] rfl) kk
        · have hf := g_f hf cb_16
          refine lv_aload_n hx hb d_MO_countedMark_304 rfl (lv_at hl 0 rfl) ?_
          refine va_get (D := (dC, dI)) (ci := 8) (v := .ref (a 7)) (C := R_MO) (T := F_MO) (N := 42) hx hb hts (in_MO _) hown hK hP 0 rfl rfl 17 (by decide) (hts _ (List.mem_cons_of_mem _ mw_709)) (fun _ h9 => h9) rfl d_MO_countedMark_305 ?_
          refine lv_iload_n hx hb d_MO_countedMark_308 rfl (lv_at hl 2 rfl) ?_
          refine va_iald (D := (dC, dI)) hx hb hK hP 7 0 rfl rfl ck_5 d_MO_countedMark_309 ?_
          refine lv_iconst (v := (-1)) hx hb d_MO_countedMark_310 (by decide) ?_
          refine lv_icmp_eq (tgt := 350) hx hb d_MO_countedMark_311 (by decide) (fun cb_17 => ?_) (fun cb_17 => ?_)
          · have hf := g_t hf cb_17
            obtain ⟨v2_7, h_v2_7⟩ : ∃ z : Int32, z = v2_5 + 1 := ⟨_, rfl⟩
            have hf := g_let hf h_v2_7
            refine lv_iinc (v := v2_7) (lv' := [(2, .int v2_7), (0, .ref (a 0)), (1, .int v1_3)]) hx hb d_MO_countedMark_350 hl (k := 2) rfl (by rw [h_v2_7]; rfl) (by decide) rfl (fun ls hl => ?_)
            refine lv_goto (tgt := 287) hx hb d_MO_countedMark_353 (by decide) ?_
            exact ih v2_7 mo_20 mo_21 hf H locs ls hP hD hS (lv_sub hl [1, 2, 0] rfl) kk
          · have hf := g_f hf cb_17
            refine lv_aload_n hx hb d_MO_countedMark_314 rfl (lv_at hl 0 rfl) ?_
            refine lv_aload_n hx hb d_MO_countedMark_315 rfl (lv_at hl 0 rfl) ?_
            refine va_get (D := (dC, dI)) (ci := 8) (v := .ref (a 3)) (C := R_MO) (T := F_MO) (N := 42) hx hb hts (in_MO _) hown hK hP 0 rfl rfl 13 (by decide) (hts _ (List.mem_cons_of_mem _ mw_705)) (fun _ h9 => h9) rfl d_MO_countedMark_316 ?_
            refine lv_iload_n hx hb d_MO_countedMark_319 rfl (lv_at hl 2 rfl) ?_
            refine va_iald (D := (dC, dI)) hx hb hK hP 3 0 rfl rfl ck_5 d_MO_countedMark_320 ?_
            refine lv_aload_n hx hb d_MO_countedMark_321 rfl (lv_at hl 0 rfl) ?_
            refine va_get (D := (dC, dI)) (ci := 8) (v := .ref (a 7)) (C := R_MO) (T := F_MO) (N := 42) hx hb hts (in_MO _) hown hK hP 0 rfl rfl 17 (by decide) (hts _ (List.mem_cons_of_mem _ mw_709)) (fun _ h9 => h9) rfl d_MO_countedMark_322 ?_
            refine lv_iload_n hx hb d_MO_countedMark_325 rfl (lv_at hl 2 rfl) ?_
            refine va_iald (D := (dC, dI)) hx hb hK hP 7 0 rfl rfl ck_5 d_MO_countedMark_326 ?_
            obtain ⟨r_1, hc_3, hf⟩ := g_bind hf
            try dsimp only at hf
            refine cx3_callV (As := [.int (MO_rKey mo_20 v2_5.toNatClampNeg), .int (MO_rNumber mo_20 v2_5.toNatClampNeg)]) (rest := []) (wMO tC a mo_20) ⟨hx, hb, hml, hown, hts⟩ (c_MO_isWanted l dC dI tC a (MO_rKey mo_20 v2_5.toNatClampNeg) (MO_rNumber mo_20 v2_5.toNatClampNeg) mo_20 r_1 hc_3) (k_MO_284 hts ⟨Nat.le_of_ble_eq_true rfl, Nat.le_of_ble_eq_true rfl⟩) hl.1 hP hD hS hA hK hN 0 8 rfl rfl rfl rfl rfl rfl (Nat.le_of_ble_eq_true rfl) d_MO_countedMark_327 ⟨Nat.zero_le _, Nat.zero_le _⟩ (fun H locs hP hD hS => ?_)
            refine W.eq (g2 := F0 m 330 ls [.int r_1]) rfl ?_
            refine lv_if_ne (tgt := 350) hx hb d_MO_countedMark_330 (by decide) (fun cb_18 => ?_) (fun cb_18 => ?_)
            · have hf := g_f hf cb_18
              obtain ⟨v2_8, h_v2_8⟩ : ∃ z : Int32, z = v2_5 + 1 := ⟨_, rfl⟩
              have hf := g_let hf h_v2_8
              refine lv_iinc (v := v2_8) (lv' := [(2, .int v2_8), (0, .ref (a 0)), (1, .int v1_3)]) hx hb d_MO_countedMark_350 hl (k := 2) rfl (by rw [h_v2_8]; rfl) (by decide) rfl (fun ls hl => ?_)
              refine lv_goto (tgt := 287) hx hb d_MO_countedMark_353 (by decide) ?_
              exact ih v2_8 mo_20 mo_21 hf H locs ls hP hD hS (lv_sub hl [1, 2, 0] rfl) kk
            · have hf := g_t hf cb_18
              refine lv_aload_n hx hb d_MO_countedMark_333 rfl (lv_at hl 0 rfl) ?_
              refine va_get (D := (dC, dI)) (ci := 8) (v := .ref (a 3)) (C := R_MO) (T := F_MO) (N := 42) hx hb hts (in_MO _) hown hK hP 0 rfl rfl 13 (by decide) (hts _ (List.mem_cons_of_mem _ mw_705)) (fun _ h9 => h9) rfl d_MO_countedMark_334 ?_
              refine lv_iload_n hx hb d_MO_countedMark_337 rfl (lv_at hl 2 rfl) ?_
              refine lv_iconst (v := (-1)) hx hb d_MO_countedMark_338 (by decide) ?_
              refine va_iast (D := (dC, dI)) hx hb hK hP hD hS 3 0 rfl rfl ck_5 d_MO_countedMark_339 (fun H locs hP hD hS => ?_)
              have hP : va_P (dC, dI) classes (wMO tC a (sMO_rKey mo_20 (upd (MO_rKey mo_20) v2_5.toNatClampNeg (-1)))) H := hP
              have hD : va_D A (wMO tC a (sMO_rKey mo_20 (upd (MO_rKey mo_20) v2_5.toNatClampNeg (-1)))) := hD
              obtain ⟨mo_22, h_mo_22⟩ : ∃ z : MOt, z = (sMO_rKey mo_20 (upd (MO_rKey mo_20) v2_5.toNatClampNeg (-1))) := ⟨_, rfl⟩
              have hf := g_let hf h_mo_22
              have hP : va_P (dC, dI) classes (wMO tC a mo_22) H := by rw [h_mo_22]; exact hP
              have hD : va_D A (wMO tC a mo_22) := by rw [h_mo_22]; exact hD
              refine lv_aload_n hx hb d_MO_countedMark_340 rfl (lv_at hl 0 rfl) ?_
              refine lv_dup hx hb d_MO_countedMark_341 rfl ?_
              refine va_get (D := (dC, dI)) (ci := 8) (v := .int (MO_rows mo_22)) (C := R_MO) (T := F_MO) (N := 42) hx hb hts (in_MO _) hown hK hP 0 rfl rfl 18 (by decide) (hts _ (List.mem_cons_of_mem _ mw_710)) (fun _ h9 => h9) rfl d_MO_countedMark_342 ?_
              refine lv_iconst (v := 1) hx hb d_MO_countedMark_345 (by decide) ?_
              refine lv_isub hx hb d_MO_countedMark_346 ?_
              refine va_put (D := (dC, dI)) (ci := 8) (v := .int ((MO_rows mo_22) - 1)) (ty := .int) (C := R_MO) (T := F_MO) (N := 42) hx hb hts (in_MO _) t_MO t_MO_ok n_MO hown hK hP hD hS 0 rfl rfl 18 (by decide) (hts _ (List.mem_cons_of_mem _ mw_710)) (fun _ h9 => h9) rfl (by decide +kernel) rfl rfl (Nat.le_of_ble_eq_true rfl) d_MO_countedMark_347 (fun H locs hP hD hS => ?_)
              have hP : va_P (dC, dI) classes (wMO tC a (sMO_rows mo_22 ((MO_rows mo_22) - 1))) H := hP
              have hD : va_D A (wMO tC a (sMO_rows mo_22 ((MO_rows mo_22) - 1))) := hD
              obtain ⟨mo_23, h_mo_23⟩ : ∃ z : MOt, z = (sMO_rows mo_22 ((MO_rows mo_22) - 1)) := ⟨_, rfl⟩
              have hf := g_let hf h_mo_23
              have hP : va_P (dC, dI) classes (wMO tC a mo_23) H := by rw [h_mo_23]; exact hP
              have hD : va_D A (wMO tC a mo_23) := by rw [h_mo_23]; exact hD
              obtain ⟨v2_9, h_v2_9⟩ : ∃ z : Int32, z = v2_5 + 1 := ⟨_, rfl⟩
              have hf := g_let hf h_v2_9
              refine lv_iinc (v := v2_9) (lv' := [(2, .int v2_9), (0, .ref (a 0)), (1, .int v1_3)]) hx hb d_MO_countedMark_350 hl (k := 2) rfl (by rw [h_v2_9]; rfl) (by decide) rfl (fun ls hl => ?_)
              refine lv_goto (tgt := 287) hx hb d_MO_countedMark_353 (by decide) ?_
              exact ih v2_9 mo_23 mo_21 hf H locs ls hP hD hS (lv_sub hl [1, 2, 0] rfl) kk
  obtain ⟨mo_21, hL_287, hf⟩ := g_bind hf
  try dsimp only at hf
  refine L_287 k 0 mo_8 mo_21 hL_287 H locs ls hP hD hS (lv_sub hl [1, 2, 0] rfl) (fun H locs ls hP hD hS hl => ?_)
  refine lv_iload_n hx hb d_MO_countedMark_356 rfl (lv_at hl 0 rfl) ?_
  obtain ⟨hq0, hr1⟩ := Prod.mk.inj (g_some hf)
  subst hq0
  subst hr1
  exact cx_iret hx hb hr hlocks hP hS d_MO_countedMark_357
