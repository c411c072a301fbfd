def f_MO_mark_L68 (mo_2 : MOt) : Nat → Int32 → Int32 → Option (Int32)
  | 0, _, _ => none
  | n + 1, v4_1, v5 =>
    if 200 ≤ v5 then (
      some v4_1
    ) else
    if v5 < 0 ∨ 200 ≤ v5.toNatClampNeg then none else
    if (MO_sKey mo_2 v5.toNatClampNeg) = (-1) then (
      gl_let (v5 + 1) fun v5_1 =>
      f_MO_mark_L68 mo_2 n v4_1 v5_1
    ) else
    if (MO_sEnded mo_2 v5.toNatClampNeg) = 0 then (
      if (MO_now mo_2) < (MO_sEnd mo_2 v5.toNatClampNeg) then (
        gl_let (v5 + 1) fun v5_3 =>
        f_MO_mark_L68 mo_2 n v4_1 v5_3
      ) else
      if v4_1 = (-1) then (
        gl_let (v5 + 1) fun v5_4 =>
        f_MO_mark_L68 mo_2 n v5 v5_4
      ) else
      (f_MO_isFirst v5 v4_1 mo_2).bind fun r =>
      if r = 0 then (
        gl_let (v5 + 1) fun v5_5 =>
        f_MO_mark_L68 mo_2 n v4_1 v5_5
      ) else
      gl_let (v5 + 1) fun v5_6 =>
      f_MO_mark_L68 mo_2 n v5 v5_6
    ) else
    gl_let (v5 + 1) fun v5_2 =>
    f_MO_mark_L68 mo_2 n v4_1 v5_2
def f_MO_mark_L56 (k : Nat) : Nat → Int32 → Int32 → MOt → Option (Int32 × MOt)
  | 0, _, _, _ => none
  | n + 1, v3, v4, mo_2 =>
    if v4 = (-1) then (
      some (v3, mo_2)
    ) else
    (f_MO_mark_L68 mo_2 k (-1) 0).bind fun v4_2 =>
    if v4_2 = (-1) then (
      f_MO_mark_L56 k n v3 v4_2 mo_2
    ) else
    (f_MO_fire k v4_2 1 mo_2).bind fun mo_4 =>
    gl_let (v3 + 1) fun v3_2 =>
    f_MO_mark_L56 k n v3_2 v4_2 mo_4
def f_MO_mark_L161  : Nat → Int32 → MOt → Option (MOt)
  | 0, _, _ => none
  | n + 1, v5_7, mo_5 =>
    if 200 ≤ v5_7 then (
      some mo_5
    ) else
    if v5_7 < 0 ∨ 200 ≤ v5_7.toNatClampNeg then none else
    if (MO_sKey mo_5 v5_7.toNatClampNeg) = (-1) then (
      gl_let (v5_7 + 1) fun v5_8 =>
      f_MO_mark_L161  n v5_8 mo_5
    ) else
    if (MO_now mo_5) < ((MO_sEnd mo_5 v5_7.toNatClampNeg) + (MO_lateness mo_5)) then (
      gl_let (v5_7 + 1) fun v5_9 =>
      f_MO_mark_L161  n v5_9 mo_5
    ) else
    gl_let (v5_7 + 1) fun v5_10 =>
    gl_let ((sMO_spans (sMO_sKey mo_5 (upd (MO_sKey mo_5) v5_7.toNatClampNeg (-1))) ((MO_spans mo_5) - 1)) : MOt) fun mo_7 =>
    f_MO_mark_L161  n v5_10 mo_7
def f_MO_mark_L241 (v5_11 : Int32) (mo_8 : MOt) : Nat → Int32 → Int32 → Option (Int32)
  | 0, _, _ => none
  | n + 1, v6, v7 =>
    if 200 ≤ v7 then (
      some v6
    ) else
    if v6 = 0 then (
      if v7 < 0 ∨ 200 ≤ v7.toNatClampNeg then none else
      if (MO_sKey mo_8 v7.toNatClampNeg) = (-1) then (
        gl_let (v7 + 1) fun v7_2 =>
        f_MO_mark_L241 v5_11 mo_8 n 0 v7_2
      ) else
      if ((300 * v7) + v5_11) < 0 ∨ 60000 ≤ ((300 * v7) + v5_11).toNatClampNeg then none else
      if (MO_has mo_8 ((300 * v7) + v5_11).toNatClampNeg) = 0 then (
        gl_let (v7 + 1) fun v7_3 =>
        f_MO_mark_L241 v5_11 mo_8 n 0 v7_3
      ) else
      gl_let (v7 + 1) fun v7_4 =>
      f_MO_mark_L241 v5_11 mo_8 n 1 v7_4
    ) else
    gl_let (v7 + 1) fun v7_1 =>
    f_MO_mark_L241 v5_11 mo_8 n 1 v7_1
def f_MO_mark_L227 (k : Nat) : Nat → Int32 → MOt → Option (MOt)
  | 0, _, _ => none
  | n + 1, v5_11, mo_8 =>
    if 300 ≤ v5_11 then (
      some mo_8
    ) else
    (f_MO_mark_L241 v5_11 mo_8 k 0 0).bind fun v6_1 =>
    if v5_11 < 0 ∨ 300 ≤ v5_11.toNatClampNeg then none else
    if (MO_rKey mo_8 v5_11.toNatClampNeg) = (-1) then (
      gl_let (v5_11 + 1) fun v5_12 =>
      f_MO_mark_L227 k n v5_12 mo_8
    ) else
    if v6_1 = 0 then (
      gl_let (v5_11 + 1) fun v5_14 =>
      gl_let ((sMO_rows (sMO_rKey mo_8 (upd (MO_rKey mo_8) v5_11.toNatClampNeg (-1))) ((MO_rows mo_8) - 1)) : MOt) fun mo_10 =>
      f_MO_mark_L227 k n v5_14 mo_10
    ) else
    gl_let (v5_11 + 1) fun v5_13 =>
    f_MO_mark_L227 k n v5_13 mo_8
def f_MO_mark (k : Nat) (x1 : Int64) (mo : MOt) : Option (Int32 × MOt) :=
  if (f_MO_in x1 (-10000000000000) 10000000000000) = 0 then (
    some ((-2), (sMO_thrown mo 0))
  ) else
  if (MO_now mo) ≤ x1 then (
    if (MO_kind mo) = 3 then (
      gl_let ((sMO_thrown (sMO_now mo x1) 0) : MOt) fun mo_11 =>
      (f_MO_countedMark k mo_11).bind fun (r_1, mo_12) =>
      some (r_1, mo_12)
    ) else
    gl_let ((sMO_thrown (sMO_now mo x1) 0) : MOt) fun mo_1 =>
    (f_MO_mark_L56 k k 0 0 mo_1).bind fun (v3_1, mo_3) =>
    (f_MO_mark_L161 k 0 mo_3).bind fun mo_6 =>
    (f_MO_mark_L227 k k 0 mo_6).bind fun mo_9 =>
    some (v3_1, mo_9)
  ) else
  some ((-3), (sMO_thrown mo 0))
set_option maxHeartbeats 4000000 in
set_option maxRecDepth 100000 in
theorem c_MO_mark (l : Launch) (dC : Nat → ClassId) (dI : Nat → Nat → Nat) (tC : Nat → ClassId) (a : Nat → Nat) (k : Nat) (x1 : Int64) (mo : MOt) (res : Int32) (moR : MOt) (hf : f_MO_mark k x1 mo = some (res, moR)) : cx_M l y_MO_mark w_MO_mark { frames := 3, cells := 0, slots := 0, locals := 70 } (dC, dI) classes (tyS tC) [.ref (a 0), .long x1] (wMO tC a mo) (wMO tC a moR) (some (.int res)) := by
  refine cx_of (cc := b_MO_mark) (maxL := 8) (ret := some .int) (plainFor_of_name (by decide)) rfl (Nat.le_of_ble_eq_true rfl) ?_
  intro p e s m below meth c hx hb hr hml hown hts hlocks A hA H locs ls hK hN hP hD hS hl
  have hown : s.vm.findClass R_MO = some m.cls := hown
  have hl : lv_has ls 8 [(0, .ref (a 0)), (1, .long x1)] := hl
  unfold f_MO_mark at hf
  refine lv_aload_n hx hb d_MO_mark_0 rfl (lv_at hl 0 rfl) ?_
  refine lv_iconst (v := 0) hx hb d_MO_mark_1 (by decide) ?_
  refine va_put (D := (dC, dI)) (ci := 8) (v := .int 0) (ty := .int) (C := R_MO) (T := F_MO) (N := 42) hx hb hts (in_MO _) t_MO t_MO_ok n_MO hown hK hP hD hS 0 rfl rfl 12 (by decide) (hts _ (List.mem_cons_of_mem _ mw_704)) (fun _ h9 => h9) rfl (by decide +kernel) rfl rfl (Nat.le_of_ble_eq_true rfl) d_MO_mark_2 (fun H locs hP hD hS => ?_)
  have hP : va_P (dC, dI) classes (wMO tC a (sMO_thrown mo 0)) H := hP
  have hD : va_D A (wMO tC a (sMO_thrown mo 0)) := hD
  refine lv_lload_n hx hb d_MO_mark_5 rfl (lv_at hl 1 rfl) ?_
  refine lv_ldc2 (v := (-10000000000000)) hx hb hown (hts _ (List.mem_cons_of_mem _ mw_686)) d_MO_mark_6 ?_
  refine lv_ldc2 (v := 10000000000000) hx hb hown (hts _ (List.mem_cons_of_mem _ mw_972)) d_MO_mark_9 ?_
  refine cx_callS (As := [.long x1, .long (-10000000000000), .long 10000000000000]) (rest := []) ⟨hx, hb, hml, hown, hts⟩ (c_MO_in l dC dI tC  x1 (-10000000000000) 10000000000000 (f_MO_in x1 (-10000000000000) 10000000000000) rfl) (k_MO_111 hts ⟨Nat.le_of_ble_eq_true rfl, Nat.le_of_ble_eq_true rfl⟩) hl.1 hP hD hS hA hK hN [] rfl rfl rfl rfl rfl (Nat.le_of_ble_eq_true rfl) d_MO_mark_12 ⟨Nat.zero_le _, Nat.zero_le _⟩ (fun H locs hP hD hS => ?_)
  have hP : va_P (dC, dI) classes (wMO tC a (sMO_thrown mo 0)) H := hP
  have hD : va_D A (wMO tC a (sMO_thrown mo 0)) := hD
  refine W.eq (g2 := F0 m 15 ls [.int (f_MO_in x1 (-10000000000000) 10000000000000)]) rfl ?_
  refine lv_if_ne (tgt := 21) hx hb d_MO_mark_15 (by decide) (fun cb => ?_) (fun cb => ?_)
  · have hf := g_f hf cb
    refine lv_lload_n hx hb d_MO_mark_21 rfl (lv_at hl 1 rfl) ?_
    refine lv_aload_n hx hb d_MO_mark_22 rfl (lv_at hl 0 rfl) ?_
    refine va_get (D := (dC, dI)) (ci := 8) (v := .long (MO_now mo)) (C := R_MO) (T := F_MO) (N := 42) hx hb hts (in_MO _) hown hK hP 0 rfl rfl 11 (by decide) (hts _ (List.mem_cons_of_mem _ mw_703)) (fun _ h9 => h9) rfl d_MO_mark_23 ?_
    refine cq_ge (tgt := 33) hx hb d_MO_mark_26 d_MO_mark_27 (by decide) (fun cb_1 => ?_) (fun cb_1 => ?_)
    · have hf := g_t hf cb_1
      refine lv_aload_n hx hb d_MO_mark_33 rfl (lv_at hl 0 rfl) ?_
      refine lv_lload_n hx hb d_MO_mark_34 rfl (lv_at hl 1 rfl) ?_
      refine va_put (D := (dC, dI)) (ci := 8) (v := .long x1) (ty := .long) (C := R_MO) (T := F_MO) (N := 42) hx hb hts (in_MO _) t_MO t_MO_ok n_MO hown hK hP hD hS 0 rfl rfl 11 (by decide) (hts _ (List.mem_cons_of_mem _ mw_703)) (fun _ h9 => h9) rfl (by decide +kernel) rfl rfl (Nat.le_of_ble_eq_true rfl) d_MO_mark_35 (fun H locs hP hD hS => ?_)
      have hP : va_P (dC, dI) classes (wMO tC a (sMO_thrown (sMO_now mo x1) 0)) H := hP
      have hD : va_D A (wMO tC a (sMO_thrown (sMO_now mo x1) 0)) := hD
      refine lv_aload_n hx hb d_MO_mark_38 rfl (lv_at hl 0 rfl) ?_
      refine va_get (D := (dC, dI)) (ci := 8) (v := .int (MO_kind mo)) (C := R_MO) (T := F_MO) (N := 42) hx hb hts (in_MO _) hown hK hP 0 rfl rfl 0 (by decide) (hts _ (List.mem_cons_of_mem _ mw_692)) (fun _ h9 => h9) rfl d_MO_mark_39 ?_
      refine lv_iconst (v := 3) hx hb d_MO_mark_42 (by decide) ?_
      refine lv_icmp_ne (tgt := 51) hx hb d_MO_mark_43 (by decide) (fun cb_2 => ?_) (fun cb_2 => ?_)
      · have hf := g_f hf cb_2
        refine lv_iconst (v := 0) hx hb d_MO_mark_51 (by decide) ?_
        refine lv_istore_n (lv' := [(3, .int 0), (0, .ref (a 0)), (1, .long x1)]) hx hb d_MO_mark_52 rfl hl (by decide) rfl (fun ls hl => ?_)
        refine lv_iconst (v := 0) hx hb d_MO_mark_53 (by decide) ?_
        refine lv_istore (lv' := [(4, .int 0), (3, .int 0), (0, .ref (a 0)), (1, .long x1)]) hx hb d_MO_mark_54 hl (by decide) rfl (fun ls hl => ?_)
        obtain ⟨mo_1, h_mo_1⟩ : ∃ z : MOt, z = (sMO_thrown (sMO_now mo x1) 0) := ⟨_, rfl⟩
        have hf := g_let hf h_mo_1
        have hP : va_P (dC, dI) classes (wMO tC a mo_1) H := by rw [h_mo_1]; exact hP
        have hD : va_D A (wMO tC a mo_1) := by rw [h_mo_1]; exact hD
        have L_56 : ∀ (n : Nat) (v3 : Int32) (v4 : Int32) (mo_2 : MOt) (v3_1 : Int32) (mo_3 : MOt), f_MO_mark_L56 k n v3 v4 mo_2 = some (v3_1, mo_3) → ∀ (H : Heap) (locs : List Loc) (ls : Array Slot), va_P (dC, dI) classes (wMO tC a mo_2) H → va_D A (wMO tC a mo_2) → va_S A s.heap H locs → lv_has ls 8 [(0, .ref (a 0)), (3, .int v3), (4, .int v4)] → (∀ (H : Heap) (locs : List Loc) (ls : Array Slot), va_P (dC, dI) classes (wMO tC a mo_3) H → va_D A (wMO tC a mo_3) → va_S A s.heap H locs → lv_has ls 8 [(0, .ref (a 0)), (3, .int v3_1)] → W p l e { frames := 3, cells := 0, slots := 0, locals := 70 } s m [.ref (a 0), .long x1].toArray below meth c H locs 0 0 (cx_Z (dC, dI) classes below [.ref (a 0), .long x1] s (wMO tC a moR) (some (.int res)) A) (F0 m 158 ls [])) → W p l e { frames := 3, cells := 0, slots := 0, locals := 70 } s m [.ref (a 0), .long x1].toArray below meth c H locs 0 0 (cx_Z (dC, dI) classes below [.ref (a 0), .long x1] s (wMO tC a moR) (some (.int res)) A) (F0 m 56 ls []) := by
          intro n
          induction n with
          | zero =>
            intro v3 v4 mo_2 v3_1 mo_3 hf
            rw [f_MO_mark_L56] at hf
            cases hf
          | succ n ih =>
            intro v3 v4 mo_2 v3_1 mo_3 hf H locs ls hP hD hS hl kk
            rw [f_MO_mark_L56] at hf
            refine lv_iload hx hb d_MO_mark_56 (lv_at hl 2 rfl) ?_
            refine lv_iconst (v := (-1)) hx hb d_MO_mark_58 (by decide) ?_
            refine lv_icmp_eq (tgt := 158) hx hb d_MO_mark_59 (by decide) (fun cb_3 => ?_) (fun cb_3 => ?_)
            · have hf := g_t hf cb_3
              obtain ⟨hq0, hr1⟩ := Prod.mk.inj (g_some hf)
              subst hq0
              subst hr1
              exact kk _ _ _ hP hD hS (lv_sub hl [0, 1] rfl)
            · have hf := g_f hf cb_3
              refine lv_iconst (v := (-1)) hx hb d_MO_mark_62 (by decide) ?_
              refine lv_istore (lv' := [(4, .int (-1)), (0, .ref (a 0)), (3, .int v3)]) hx hb d_MO_mark_63 hl (by decide) rfl (fun ls hl => ?_)
              refine lv_iconst (v := 0) hx hb d_MO_mark_65 (by decide) ?_
              refine lv_istore (lv' := [(5, .int 0), (4, .int (-1)), (0, .ref (a 0)), (3, .int v3)]) hx hb d_MO_mark_66 hl (by decide) rfl (fun ls hl => ?_)
              have L_68 : ∀ (n : Nat) (v4_1 : Int32) (v5 : Int32) (v4_2 : Int32), f_MO_mark_L68 mo_2 n v4_1 v5 = some v4_2 → ∀ (H : Heap) (locs : List Loc) (ls : Array Slot), va_P (dC, dI) classes (wMO tC a mo_2) H → va_D A (wMO tC a mo_2) → va_S A s.heap H locs → lv_has ls 8 [(0, .ref (a 0)), (3, .int v3), (4, .int v4_1), (5, .int v5)] → (∀ (H : Heap) (locs : List Loc) (ls : Array Slot), va_P (dC, dI) classes (wMO tC a mo_2) H → va_D A (wMO tC a mo_2) → va_S A s.heap H locs → lv_has ls 8 [(0, .ref (a 0)), (3, .int v3), (4, .int v4_2)] → W p l e { frames := 3, cells := 0, slots := 0, locals := 70 } s m [.ref (a 0), .long x1].toArray below meth c H locs 0 0 (cx_Z (dC, dI) classes below [.ref (a 0), .long x1] s (wMO tC a moR) (some (.int res)) A) (F0 m 139 ls [])) → W p l e { frames := 3, cells := 0, slots := 0, locals := 70 } s m [.ref (a 0), .long x1].toArray below meth c H locs 0 0 (cx_Z (dC, dI) classes below [.ref (a 0), .long x1] s (wMO tC a moR) (some (.int res)) A) (F0 m 68 ls []) := by
                intro n
                induction n with
                | zero =>
                  intro v4_1 v5 v4_2 hf
                  rw [f_MO_mark_L68] at hf
                  cases hf
                | succ n ih =>
                  intro v4_1 v5 v4_2 hf H locs ls hP hD hS hl kk
                  rw [f_MO_mark_L68] at hf
                  refine lv_iload hx hb d_MO_mark_68 (lv_at hl 3 rfl) ?_
                  refine lv_sipush (v := 200) hx hb d_MO_mark_70 (by decide) ?_
                  refine lv_icmp_ge (tgt := 139) hx hb d_MO_mark_73 (by decide) (fun cb_4 => ?_) (fun cb_4 => ?_)
                  · have hf := g_t hf cb_4
                    have hq0 := (g_some hf)
                    subst hq0
                    exact kk _ _ _ hP hD hS (lv_sub hl [0, 1, 2] rfl)
                  · have hf := g_f hf cb_4
                    refine lv_aload_n hx hb d_MO_mark_76 rfl (lv_at hl 0 rfl) ?_
                    refine va_get (D := (dC, dI)) (ci := 8) (v := .ref (a 8)) (C := R_MO) (T := F_MO) (N := 42) hx hb hts (in_MO _) hown hK hP 0 rfl rfl 21 (by decide) (hts _ (List.mem_cons_of_mem _ mw_713)) (fun _ h9 => h9) rfl d_MO_mark_77 ?_
                    refine lv_iload hx hb d_MO_mark_80 (lv_at hl 3 rfl) ?_
                    obtain ⟨ck, hf⟩ := g_ck hf
                    refine va_iald (D := (dC, dI)) hx hb hK hP 8 0 rfl rfl ck d_MO_mark_82 ?_
                    refine lv_iconst (v := (-1)) hx hb d_MO_mark_83 (by decide) ?_
                    refine lv_icmp_eq (tgt := 133) hx hb d_MO_mark_84 (by decide) (fun cb_5 => ?_) (fun cb_5 => ?_)
                    · have hf := g_t hf cb_5
                      obtain ⟨v5_1, h_v5_1⟩ : ∃ z : Int32, z = v5 + 1 := ⟨_, rfl⟩
                      have hf := g_let hf h_v5_1
                      refine lv_iinc (v := v5_1) (lv' := [(5, .int v5_1), (0, .ref (a 0)), (3, .int v3), (4, .int v4_1)]) hx hb d_MO_mark_133 hl (k := 3) rfl (by rw [h_v5_1]; rfl) (by decide) rfl (fun ls hl => ?_)
                      refine lv_goto (tgt := 68) hx hb d_MO_mark_136 (by decide) ?_
                      exact ih v4_1 v5_1 v4_2 hf H locs ls hP hD hS (lv_sub hl [1, 2, 3, 0] rfl) kk
                    · have hf := g_f hf cb_5
                      refine lv_aload_n hx hb d_MO_mark_87 rfl (lv_at hl 0 rfl) ?_
                      refine va_get (D := (dC, dI)) (ci := 8) (v := .ref (a 13)) (C := R_MO) (T := F_MO) (N := 42) hx hb hts (in_MO _) hown hK hP 0 rfl rfl 26 (by decide) (hts _ (List.mem_cons_of_mem _ mw_718)) (fun _ h9 => h9) rfl d_MO_mark_88 ?_
                      refine lv_iload hx hb d_MO_mark_91 (lv_at hl 3 rfl) ?_
                      refine va_zald (D := (dC, dI)) hx hb hK hP 13 2 rfl rfl ck d_MO_mark_93 ?_
                      refine lv_if_ne (tgt := 133) hx hb d_MO_mark_94 (by decide) (fun cb_6 => ?_) (fun cb_6 => ?_)
                      · have hf := g_f hf cb_6
                        obtain ⟨v5_2, h_v5_2⟩ : ∃ z : Int32, z = v5 + 1 := ⟨_, rfl⟩
                        have hf := g_let hf h_v5_2
                        refine lv_iinc (v := v5_2) (lv' := [(5, .int v5_2), (0, .ref (a 0)), (3, .int v3), (4, .int v4_1)]) hx hb d_MO_mark_133 hl (k := 3) rfl (by rw [h_v5_2]; rfl) (by decide) rfl (fun ls hl => ?_)
                        refine lv_goto (tgt := 68) hx hb d_MO_mark_136 (by decide) ?_
                        exact ih v4_1 v5_2 v4_2 hf H locs ls hP hD hS (lv_sub hl [1, 2, 3, 0] rfl) kk
                      · have hf := g_t hf cb_6
                        refine lv_aload_n hx hb d_MO_mark_97 rfl (lv_at hl 0 rfl) ?_
                        refine va_get (D := (dC, dI)) (ci := 8) (v := .ref (a 10)) (C := R_MO) (T := F_MO) (N := 42) hx hb hts (in_MO _) hown hK hP 0 rfl rfl 23 (by decide) (hts _ (List.mem_cons_of_mem _ mw_715)) (fun _ h9 => h9) rfl d_MO_mark_98 ?_
                        refine lv_iload hx hb d_MO_mark_101 (lv_at hl 3 rfl) ?_
                        refine va_lald (D := (dC, dI)) hx hb hK hP 10 1 rfl rfl ck d_MO_mark_103 ?_
                        refine lv_aload_n hx hb d_MO_mark_104 rfl (lv_at hl 0 rfl) ?_
                        refine va_get (D := (dC, dI)) (ci := 8) (v := .long (MO_now mo_2)) (C := R_MO) (T := F_MO) (N := 42) hx hb hts (in_MO _) hown hK hP 0 rfl rfl 11 (by decide) (hts _ (List.mem_cons_of_mem _ mw_703)) (fun _ h9 => h9) rfl d_MO_mark_105 ?_
                        refine cq_gt (tgt := 133) hx hb d_MO_mark_108 d_MO_mark_109 (by decide) (fun cb_7 => ?_) (fun cb_7 => ?_)
                        · have hf := g_t hf cb_7
                          obtain ⟨v5_3, h_v5_3⟩ : ∃ z : Int32, z = v5 + 1 := ⟨_, rfl⟩
                          have hf := g_let hf h_v5_3
                          refine lv_iinc (v := v5_3) (lv' := [(5, .int v5_3), (0, .ref (a 0)), (3, .int v3), (4, .int v4_1)]) hx hb d_MO_mark_133 hl (k := 3) rfl (by rw [h_v5_3]; rfl) (by decide) rfl (fun ls hl => ?_)
                          refine lv_goto (tgt := 68) hx hb d_MO_mark_136 (by decide) ?_
                          exact ih v4_1 v5_3 v4_2 hf H locs ls hP hD hS (lv_sub hl [1, 2, 3, 0] rfl) kk
                        · have hf := g_f hf cb_7
                          refine lv_iload hx hb d_MO_mark_112 (lv_at hl 2 rfl) ?_
                          refine lv_iconst (v := (-1)) hx hb d_MO_mark_114 (by decide) ?_
                          refine lv_icmp_eq (tgt := 129) hx hb d_MO_mark_115 (by decide) (fun cb_8 => ?_) (fun cb_8 => ?_)
                          · have hf := g_t hf cb_8
                            refine lv_iload hx hb d_MO_mark_129 (lv_at hl 3 rfl) ?_
                            refine lv_istore (lv' := [(4, .int v5), (0, .ref (a 0)), (3, .int v3), (5, .int v5)]) hx hb d_MO_mark_131 hl (by decide) rfl (fun ls hl => ?_)
                            obtain ⟨v5_4, h_v5_4⟩ : ∃ z : Int32, z = v5 + 1 := ⟨_, rfl⟩
                            have hf := g_let hf h_v5_4
                            refine lv_iinc (v := v5_4) (lv' := [(5, .int v5_4), (4, .int v5), (0, .ref (a 0)), (3, .int v3)]) hx hb d_MO_mark_133 hl (k := 3) rfl (by rw [h_v5_4]; rfl) (by decide) rfl (fun ls hl => ?_)
                            refine lv_goto (tgt := 68) hx hb d_MO_mark_136 (by decide) ?_
                            exact ih v5 v5_4 v4_2 hf H locs ls hP hD hS (lv_sub hl [2, 3, 1, 0] rfl) kk
                          · have hf := g_f hf cb_8
                            refine lv_aload_n hx hb d_MO_mark_118 rfl (lv_at hl 0 rfl) ?_
                            refine lv_iload hx hb d_MO_mark_119 (lv_at hl 3 rfl) ?_
                            refine lv_iload hx hb d_MO_mark_121 (lv_at hl 2 rfl) ?_
                            obtain ⟨r, hc_1, hf⟩ := g_bind hf
                            try dsimp only at hf
                            refine cx3_callV (As := [.int v5, .int v4_1]) (rest := []) (wMO tC a mo_2) ⟨hx, hb, hml, hown, hts⟩ (c_MO_isFirst l dC dI tC a v5 v4_1 mo_2 r hc_1) (k_MO_281 hts ⟨Nat.le_of_ble_eq_true rfl, Nat.le_of_ble_eq_true rfl⟩) hl.1 hP hD hS hA hK hN 0 8 rfl rfl rfl rfl rfl rfl (Nat.le_of_ble_eq_true rfl) d_MO_mark_123 ⟨Nat.zero_le _, Nat.zero_le _⟩ (fun H locs hP hD hS => ?_)
                            refine W.eq (g2 := F0 m 126 ls [.int r]) rfl ?_
                            refine lv_if_eq (tgt := 133) hx hb d_MO_mark_126 (by decide) (fun cb_9 => ?_) (fun cb_9 => ?_)
                            · have hf := g_t hf cb_9
                              obtain ⟨v5_5, h_v5_5⟩ : ∃ z : Int32, z = v5 + 1 := ⟨_, rfl⟩
                              have hf := g_let hf h_v5_5
                              refine lv_iinc (v := v5_5) (lv' := [(5, .int v5_5), (0, .ref (a 0)), (3, .int v3), (4, .int v4_1)]) hx hb d_MO_mark_133 hl (k := 3) rfl (by rw [h_v5_5]; rfl) (by decide) rfl (fun ls hl => ?_)
                              refine lv_goto (tgt := 68) hx hb d_MO_mark_136 (by decide) ?_
                              exact ih v4_1 v5_5 v4_2 hf H locs ls hP hD hS (lv_sub hl [1, 2, 3, 0] rfl) kk
                            · have hf := g_f hf cb_9
                              refine lv_iload hx hb d_MO_mark_129 (lv_at hl 3 rfl) ?_
                              refine lv_istore (lv' := [(4, .int v5), (0, .ref (a 0)), (3, .int v3), (5, .int v5)]) hx hb d_MO_mark_131 hl (by decide) rfl (fun ls hl => ?_)
                              obtain ⟨v5_6, h_v5_6⟩ : ∃ z : Int32, z = v5 + 1 := ⟨_, rfl⟩
                              have hf := g_let hf h_v5_6
                              refine lv_iinc (v := v5_6) (lv' := [(5, .int v5_6), (4, .int v5), (0, .ref (a 0)), (3, .int v3)]) hx hb d_MO_mark_133 hl (k := 3) rfl (by rw [h_v5_6]; rfl) (by decide) rfl (fun ls hl => ?_)
                              refine lv_goto (tgt := 68) hx hb d_MO_mark_136 (by decide) ?_
                              exact ih v5 v5_6 v4_2 hf H locs ls hP hD hS (lv_sub hl [2, 3, 1, 0] rfl) kk
              obtain ⟨v4_2, hL_68, hf⟩ := g_bind hf
              try dsimp only at hf
              refine L_68 k (-1) 0 v4_2 hL_68 H locs ls hP hD hS (lv_sub hl [2, 3, 1, 0] rfl) (fun H locs ls hP hD hS hl => ?_)
              refine lv_iload hx hb d_MO_mark_139 (lv_at hl 2 rfl) ?_
              refine lv_iconst (v := (-1)) hx hb d_MO_mark_141 (by decide) ?_
              refine lv_icmp_eq (tgt := 56) hx hb d_MO_mark_142 (by decide) (fun cb_10 => ?_) (fun cb_10 => ?_)
              · have hf := g_t hf cb_10
                exact ih v3 v4_2 mo_2 v3_1 mo_3 hf H locs ls hP hD hS (lv_sub hl [0, 1, 2] rfl) kk
              · have hf := g_f hf cb_10
                refine lv_aload_n hx hb d_MO_mark_145 rfl (lv_at hl 0 rfl) ?_
                refine lv_iload hx hb d_MO_mark_146 (lv_at hl 2 rfl) ?_
                refine lv_iconst (v := 1) hx hb d_MO_mark_148 (by decide) ?_
                obtain ⟨mo_4, hc_2, hf⟩ := g_bind hf
                try dsimp only at hf
                refine cx3_callV (As := [.int v4_2, .int 1]) (rest := []) (wMO tC a mo_4) ⟨hx, hb, hml, hown, hts⟩ (c_MO_fire l dC dI tC a k v4_2 1 mo_2 mo_4 hc_2) (k_MO_231 hts ⟨Nat.le_of_ble_eq_true rfl, Nat.le_of_ble_eq_true rfl⟩) hl.1 hP hD hS hA hK hN 0 8 rfl rfl rfl (adMO _ _ _ _) rfl rfl (Nat.le_of_ble_eq_true rfl) d_MO_mark_149 ⟨Nat.zero_le _, Nat.zero_le _⟩ (fun H locs hP hD hS => ?_)
                refine W.eq (g2 := F0 m 152 ls []) rfl ?_
                obtain ⟨v3_2, h_v3_2⟩ : ∃ z : Int32, z = v3 + 1 := ⟨_, rfl⟩
                have hf := g_let hf h_v3_2
                refine lv_iinc (v := v3_2) (lv' := [(3, .int v3_2), (0, .ref (a 0)), (4, .int v4_2)]) hx hb d_MO_mark_152 hl (k := 1) rfl (by rw [h_v3_2]; rfl) (by decide) rfl (fun ls hl => ?_)
                refine lv_goto (tgt := 56) hx hb d_MO_mark_155 (by decide) ?_
                exact ih v3_2 v4_2 mo_4 v3_1 mo_3 hf H locs ls hP hD hS (lv_sub hl [1, 0, 2] rfl) kk
        obtain ⟨⟨v3_1, mo_3⟩, hL_56, hf⟩ := g_bind hf
        try dsimp only at hf
        refine L_56 k 0 0 mo_1 v3_1 mo_3 hL_56 H locs ls hP hD hS (lv_sub hl [2, 1, 0] rfl) (fun H locs ls hP hD hS hl => ?_)
        refine lv_iconst (v := 0) hx hb d_MO_mark_158 (by decide) ?_
        refine lv_istore (lv' := [(5, .int 0), (0, .ref (a 0)), (3, .int v3_1)]) hx hb d_MO_mark_159 hl (by decide) rfl (fun ls hl => ?_)
        have L_161 : ∀ (n : Nat) (v5_7 : Int32) (mo_5 : MOt) (mo_6 : MOt), f_MO_mark_L161 n v5_7 mo_5 = some mo_6 → ∀ (H : Heap) (locs : List Loc) (ls : Array Slot), va_P (dC, dI) classes (wMO tC a mo_5) H → va_D A (wMO tC a mo_5) → va_S A s.heap H locs → lv_has ls 8 [(0, .ref (a 0)), (3, .int v3_1), (5, .int v5_7)] → (∀ (H : Heap) (locs : List Loc) (ls : Array Slot), va_P (dC, dI) classes (wMO tC a mo_6) H → va_D A (wMO tC a mo_6) → va_S A s.heap H locs → lv_has ls 8 [(0, .ref (a 0)), (3, .int v3_1)] → W p l e { frames := 3, cells := 0, slots := 0, locals := 70 } s m [.ref (a 0), .long x1].toArray below meth c H locs 0 0 (cx_Z (dC, dI) classes below [.ref (a 0), .long x1] s (wMO tC a moR) (some (.int res)) A) (F0 m 224 ls [])) → W p l e { frames := 3, cells := 0, slots := 0, locals := 70 } s m [.ref (a 0), .long x1].toArray below meth c H locs 0 0 (cx_Z (dC, dI) classes below [.ref (a 0), .long x1] s (wMO tC a moR) (some (.int res)) A) (F0 m 161 ls []) := by
          intro n
          induction n with
          | zero =>
            intro v5_7 mo_5 mo_6 hf
            rw [f_MO_mark_L161] at hf
            cases hf
          | succ n ih =>
            intro v5_7 mo_5 mo_6 hf H locs ls hP hD hS hl kk
            rw [f_MO_mark_L161] at hf
            refine lv_iload hx hb d_MO_mark_161 (lv_at hl 2 rfl) ?_
            refine lv_sipush (v := 200) hx hb d_MO_mark_163 (by decide) ?_
            refine lv_icmp_ge (tgt := 224) hx hb d_MO_mark_166 (by decide) (fun cb_11 => ?_) (fun cb_11 => ?_)
            · have hf := g_t hf cb_11
              have hq0 := (g_some hf)
              subst hq0
              exact kk _ _ _ hP hD hS (lv_sub hl [0, 1] rfl)
            · have hf := g_f hf cb_11
              refine lv_aload_n hx hb d_MO_mark_169 rfl (lv_at hl 0 rfl) ?_
              refine va_get (D := (dC, dI)) (ci := 8) (v := .ref (a 8)) (C := R_MO) (T := F_MO) (N := 42) hx hb hts (in_MO _) hown hK hP 0 rfl rfl 21 (by decide) (hts _ (List.mem_cons_of_mem _ mw_713)) (fun _ h9 => h9) rfl d_MO_mark_170 ?_
              refine lv_iload hx hb d_MO_mark_173 (lv_at hl 2 rfl) ?_
              obtain ⟨ck_1, hf⟩ := g_ck hf
              refine va_iald (D := (dC, dI)) hx hb hK hP 8 0 rfl rfl ck_1 d_MO_mark_175 ?_
              refine lv_iconst (v := (-1)) hx hb d_MO_mark_176 (by decide) ?_
              refine lv_icmp_eq (tgt := 218) hx hb d_MO_mark_177 (by decide) (fun cb_12 => ?_) (fun cb_12 => ?_)
              · have hf := g_t hf cb_12
                obtain ⟨v5_8, h_v5_8⟩ : ∃ z : Int32, z = v5_7 + 1 := ⟨_, rfl⟩
                have hf := g_let hf h_v5_8
                refine lv_iinc (v := v5_8) (lv' := [(5, .int v5_8), (0, .ref (a 0)), (3, .int v3_1)]) hx hb d_MO_mark_218 hl (k := 2) rfl (by rw [h_v5_8]; rfl) (by decide) rfl (fun ls hl => ?_)
                refine lv_goto (tgt := 161) hx hb d_MO_mark_221 (by decide) ?_
                exact ih v5_8 mo_5 mo_6 hf H locs ls hP hD hS (lv_sub hl [1, 2, 0] rfl) kk
              · have hf := g_f hf cb_12
                refine lv_aload_n hx hb d_MO_mark_180 rfl (lv_at hl 0 rfl) ?_
                refine va_get (D := (dC, dI)) (ci := 8) (v := .ref (a 10)) (C := R_MO) (T := F_MO) (N := 42) hx hb hts (in_MO _) hown hK hP 0 rfl rfl 23 (by decide) (hts _ (List.mem_cons_of_mem _ mw_715)) (fun _ h9 => h9) rfl d_MO_mark_181 ?_
                refine lv_iload hx hb d_MO_mark_184 (lv_at hl 2 rfl) ?_
                refine va_lald (D := (dC, dI)) hx hb hK hP 10 1 rfl rfl ck_1 d_MO_mark_186 ?_
                refine lv_aload_n hx hb d_MO_mark_187 rfl (lv_at hl 0 rfl) ?_
                refine va_get (D := (dC, dI)) (ci := 8) (v := .long (MO_lateness mo_5)) (C := R_MO) (T := F_MO) (N := 42) hx hb hts (in_MO _) hown hK hP 0 rfl rfl 4 (by decide) (hts _ (List.mem_cons_of_mem _ mw_696)) (fun _ h9 => h9) rfl d_MO_mark_188 ?_
                refine lv_ladd hx hb d_MO_mark_191 ?_
                refine lv_aload_n hx hb d_MO_mark_192 rfl (lv_at hl 0 rfl) ?_
                refine va_get (D := (dC, dI)) (ci := 8) (v := .long (MO_now mo_5)) (C := R_MO) (T := F_MO) (N := 42) hx hb hts (in_MO _) hown hK hP 0 rfl rfl 11 (by decide) (hts _ (List.mem_cons_of_mem _ mw_703)) (fun _ h9 => h9) rfl d_MO_mark_193 ?_
                refine cq_gt (tgt := 218) hx hb d_MO_mark_196 d_MO_mark_197 (by decide) (fun cb_13 => ?_) (fun cb_13 => ?_)
                · have hf := g_t hf cb_13
                  obtain ⟨v5_9, h_v5_9⟩ : ∃ z : Int32, z = v5_7 + 1 := ⟨_, rfl⟩
                  have hf := g_let hf h_v5_9
                  refine lv_iinc (v := v5_9) (lv' := [(5, .int v5_9), (0, .ref (a 0)), (3, .int v3_1)]) hx hb d_MO_mark_218 hl (k := 2) rfl (by rw [h_v5_9]; rfl) (by decide) rfl (fun ls hl => ?_)
                  refine lv_goto (tgt := 161) hx hb d_MO_mark_221 (by decide) ?_
                  exact ih v5_9 mo_5 mo_6 hf H locs ls hP hD hS (lv_sub hl [1, 2, 0] rfl) kk
                · have hf := g_f hf cb_13
                  refine lv_aload_n hx hb d_MO_mark_200 rfl (lv_at hl 0 rfl) ?_
                  refine va_get (D := (dC, dI)) (ci := 8) (v := .ref (a 8)) (C := R_MO) (T := F_MO) (N := 42) hx hb hts (in_MO _) hown hK hP 0 rfl rfl 21 (by decide) (hts _ (List.mem_cons_of_mem _ mw_713)) (fun _ h9 => h9) rfl d_MO_mark_201 ?_
                  refine lv_iload hx hb d_MO_mark_204 (lv_at hl 2 rfl) ?_
                  refine lv_iconst (v := (-1)) hx hb d_MO_mark_206 (by decide) ?_
                  refine va_iast (D := (dC, dI)) hx hb hK hP hD hS 8 0 rfl rfl ck_1 d_MO_mark_207 (fun H locs hP hD hS => ?_)
                  have hP : va_P (dC, dI) classes (wMO tC a (sMO_sKey mo_5 (upd (MO_sKey mo_5) v5_7.toNatClampNeg (-1)))) H := hP
                  have hD : va_D A (wMO tC a (sMO_sKey mo_5 (upd (MO_sKey mo_5) v5_7.toNatClampNeg (-1)))) := hD
                  refine lv_aload_n hx hb d_MO_mark_208 rfl (lv_at hl 0 rfl) ?_
                  refine lv_dup hx hb d_MO_mark_209 rfl ?_
                  refine va_get (D := (dC, dI)) (ci := 8) (v := .int (MO_spans mo_5)) (C := R_MO) (T := F_MO) (N := 42) hx hb hts (in_MO _) hown hK hP 0 rfl rfl 29 (by decide) (hts _ (List.mem_cons_of_mem _ mw_721)) (fun _ h9 => h9) rfl d_MO_mark_210 ?_
                  refine lv_iconst (v := 1) hx hb d_MO_mark_213 (by decide) ?_
                  refine lv_isub hx hb d_MO_mark_214 ?_
                  refine va_put (D := (dC, dI)) (ci := 8) (v := .int ((MO_spans mo_5) - 1)) (ty := .int) (C := R_MO) (T := F_MO) (N := 42) hx hb hts (in_MO _) t_MO t_MO_ok n_MO hown hK hP hD hS 0 rfl rfl 29 (by decide) (hts _ (List.mem_cons_of_mem _ mw_721)) (fun _ h9 => h9) rfl (by decide +kernel) rfl rfl (Nat.le_of_ble_eq_true rfl) d_MO_mark_215 (fun H locs hP hD hS => ?_)
                  have hP : va_P (dC, dI) classes (wMO tC a (sMO_spans (sMO_sKey mo_5 (upd (MO_sKey mo_5) v5_7.toNatClampNeg (-1))) ((MO_spans mo_5) - 1))) H := hP
                  have hD : va_D A (wMO tC a (sMO_spans (sMO_sKey mo_5 (upd (MO_sKey mo_5) v5_7.toNatClampNeg (-1))) ((MO_spans mo_5) - 1))) := hD
                  obtain ⟨v5_10, h_v5_10⟩ : ∃ z : Int32, z = v5_7 + 1 := ⟨_, rfl⟩
                  have hf := g_let hf h_v5_10
                  refine lv_iinc (v := v5_10) (lv' := [(5, .int v5_10), (0, .ref (a 0)), (3, .int v3_1)]) hx hb d_MO_mark_218 hl (k := 2) rfl (by rw [h_v5_10]; rfl) (by decide) rfl (fun ls hl => ?_)
                  refine lv_goto (tgt := 161) hx hb d_MO_mark_221 (by decide) ?_
                  obtain ⟨mo_7, h_mo_7⟩ : ∃ z : MOt, z = (sMO_spans (sMO_sKey mo_5 (upd (MO_sKey mo_5) v5_7.toNatClampNeg (-1))) ((MO_spans mo_5) - 1)) := ⟨_, rfl⟩
                  have hf := g_let hf h_mo_7
                  have hP : va_P (dC, dI) classes (wMO tC a mo_7) H := by rw [h_mo_7]; exact hP
                  have hD : va_D A (wMO tC a mo_7) := by rw [h_mo_7]; exact hD
                  exact ih v5_10 mo_7 mo_6 hf H locs ls hP hD hS (lv_sub hl [1, 2, 0] rfl) kk
        obtain ⟨mo_6, hL_161, hf⟩ := g_bind hf
        try dsimp only at hf
        refine L_161 k 0 mo_3 mo_6 hL_161 H locs ls hP hD hS (lv_sub hl [1, 2, 0] rfl) (fun H locs ls hP hD hS hl => ?_)
        refine lv_iconst (v := 0) hx hb d_MO_mark_224 (by decide) ?_
        refine lv_istore (lv' := [(5, .int 0), (0, .ref (a 0)), (3, .int v3_1)]) hx hb d_MO_mark_225 hl (by decide) rfl (fun ls hl => ?_)
        have L_227 : ∀ (n : Nat) (v5_11 : Int32) (mo_8 : MOt) (mo_9 : MOt), f_MO_mark_L227 k n v5_11 mo_8 = some mo_9 → ∀ (H : Heap) (locs : List Loc) (ls : Array Slot), va_P (dC, dI) classes (wMO tC a mo_8) H → va_D A (wMO tC a mo_8) → va_S A s.heap H locs → lv_has ls 8 [(0, .ref (a 0)), (3, .int v3_1), (5, .int v5_11)] → (∀ (H : Heap) (locs : List Loc) (ls : Array Slot), va_P (dC, dI) classes (wMO tC a mo_9) H → va_D A (wMO tC a mo_9) → va_S A s.heap H locs → lv_has ls 8 [(3, .int v3_1)] → W p l e { frames := 3, cells := 0, slots := 0, locals := 70 } s m [.ref (a 0), .long x1].toArray below meth c H locs 0 0 (cx_Z (dC, dI) classes below [.ref (a 0), .long x1] s (wMO tC a moR) (some (.int res)) A) (F0 m 335 ls [])) → W p l e { frames := 3, cells := 0, slots := 0, locals := 70 } s m [.ref (a 0), .long x1].toArray below meth c H locs 0 0 (cx_Z (dC, dI) classes below [.ref (a 0), .long x1] s (wMO tC a moR) (some (.int res)) A) (F0 m 227 ls []) := by
          intro n
          induction n with
          | zero =>
            intro v5_11 mo_8 mo_9 hf
            rw [f_MO_mark_L227] at hf
            cases hf
          | succ n ih =>
            intro v5_11 mo_8 mo_9 hf H locs ls hP hD hS hl kk
            rw [f_MO_mark_L227] at hf
            refine lv_iload hx hb d_MO_mark_227 (lv_at hl 2 rfl) ?_
            refine lv_sipush (v := 300) hx hb d_MO_mark_229 (by decide) ?_
            refine lv_icmp_ge (tgt := 335) hx hb d_MO_mark_232 (by decide) (fun cb_14 => ?_) (fun cb_14 => ?_)
            · have hf := g_t hf cb_14
              have hq0 := (g_some hf)
              subst hq0
              exact kk _ _ _ hP hD hS (lv_sub hl [1] rfl)
            · have hf := g_f hf cb_14
              refine lv_iconst (v := 0) hx hb d_MO_mark_235 (by decide) ?_
              refine lv_istore (lv' := [(6, .int 0), (0, .ref (a 0)), (3, .int v3_1), (5, .int v5_11)]) hx hb d_MO_mark_236 hl (by decide) rfl (fun ls hl => ?_)
              refine lv_iconst (v := 0) hx hb d_MO_mark_238 (by decide) ?_
              refine lv_istore (lv' := [(7, .int 0), (6, .int 0), (0, .ref (a 0)), (3, .int v3_1), (5, .int v5_11)]) hx hb d_MO_mark_239 hl (by decide) rfl (fun ls hl => ?_)
              have L_241 : ∀ (n : Nat) (v6 : Int32) (v7 : Int32) (v6_1 : Int32), f_MO_mark_L241 v5_11 mo_8 n v6 v7 = some v6_1 → ∀ (H : Heap) (locs : List Loc) (ls : Array Slot), va_P (dC, dI) classes (wMO tC a mo_8) H → va_D A (wMO tC a mo_8) → va_S A s.heap H locs → lv_has ls 8 [(0, .ref (a 0)), (3, .int v3_1), (5, .int v5_11), (6, .int v6), (7, .int v7)] → (∀ (H : Heap) (locs : List Loc) (ls : Array Slot), va_P (dC, dI) classes (wMO tC a mo_8) H → va_D A (wMO tC a mo_8) → va_S A s.heap H locs → lv_has ls 8 [(0, .ref (a 0)), (3, .int v3_1), (5, .int v5_11), (6, .int v6_1)] → W p l e { frames := 3, cells := 0, slots := 0, locals := 70 } s m [.ref (a 0), .long x1].toArray below meth c H locs 0 0 (cx_Z (dC, dI) classes below [.ref (a 0), .long x1] s (wMO tC a moR) (some (.int res)) A) (F0 m 295 ls [])) → W p l e { frames := 3, cells := 0, slots := 0, locals := 70 } s m [.ref (a 0), .long x1].toArray below meth c H locs 0 0 (cx_Z (dC, dI) classes below [.ref (a 0), .long x1] s (wMO tC a moR) (some (.int res)) A) (F0 m 241 ls []) := by
                intro n
                induction n with
                | zero =>
                  intro v6 v7 v6_1 hf
                  rw [f_MO_mark_L241] at hf
                  cases hf
                | succ n ih =>
                  intro v6 v7 v6_1 hf H locs ls hP hD hS hl kk
                  rw [f_MO_mark_L241] at hf
                  refine lv_iload hx hb d_MO_mark_241 (lv_at hl 4 rfl) ?_
                  refine lv_sipush (v := 200) hx hb d_MO_mark_243 (by decide) ?_
                  refine lv_icmp_ge (tgt := 295) hx hb d_MO_mark_246 (by decide) (fun cb_15 => ?_) (fun cb_15 => ?_)
                  · have hf := g_t hf cb_15
                    have hq0 := (g_some hf)
                    subst hq0
                    exact kk _ _ _ hP hD hS (lv_sub hl [0, 1, 2, 3] rfl)
                  · have hf := g_f hf cb_15
                    refine lv_iload hx hb d_MO_mark_249 (lv_at hl 3 rfl) ?_
                    refine lv_if_ne (tgt := 282) hx hb d_MO_mark_251 (by decide) (fun cb_16 => ?_) (fun cb_16 => ?_)
                    · have hf := g_f hf cb_16
                      refine lv_iconst (v := 1) hx hb d_MO_mark_282 (by decide) ?_
                      refine lv_goto (tgt := 287) hx hb d_MO_mark_283 (by decide) ?_
                      refine lv_istore (lv' := [(6, .int 1), (0, .ref (a 0)), (3, .int v3_1), (5, .int v5_11), (7, .int v7)]) hx hb d_MO_mark_287 hl (by decide) rfl (fun ls hl => ?_)
                      obtain ⟨v7_1, h_v7_1⟩ : ∃ z : Int32, z = v7 + 1 := ⟨_, rfl⟩
                      have hf := g_let hf h_v7_1
                      refine lv_iinc (v := v7_1) (lv' := [(7, .int v7_1), (6, .int 1), (0, .ref (a 0)), (3, .int v3_1), (5, .int v5_11)]) hx hb d_MO_mark_289 hl (k := 4) rfl (by rw [h_v7_1]; rfl) (by decide) rfl (fun ls hl => ?_)
                      refine lv_goto (tgt := 241) hx hb d_MO_mark_292 (by decide) ?_
                      exact ih 1 v7_1 v6_1 hf H locs ls hP hD hS (lv_sub hl [2, 3, 4, 1, 0] rfl) kk
                    · have hf := g_t hf cb_16
                      refine lv_aload_n hx hb d_MO_mark_254 rfl (lv_at hl 0 rfl) ?_
                      refine va_get (D := (dC, dI)) (ci := 8) (v := .ref (a 8)) (C := R_MO) (T := F_MO) (N := 42) hx hb hts (in_MO _) hown hK hP 0 rfl rfl 21 (by decide) (hts _ (List.mem_cons_of_mem _ mw_713)) (fun _ h9 => h9) rfl d_MO_mark_255 ?_
                      refine lv_iload hx hb d_MO_mark_258 (lv_at hl 4 rfl) ?_
                      obtain ⟨ck_2, hf⟩ := g_ck hf
                      refine va_iald (D := (dC, dI)) hx hb hK hP 8 0 rfl rfl ck_2 d_MO_mark_260 ?_
                      refine lv_iconst (v := (-1)) hx hb d_MO_mark_261 (by decide) ?_
                      refine lv_icmp_eq (tgt := 286) hx hb d_MO_mark_262 (by decide) (fun cb_17 => ?_) (fun cb_17 => ?_)
                      · have hf := g_t hf cb_17
                        refine lv_iconst (v := 0) hx hb d_MO_mark_286 (by decide) ?_
                        refine lv_istore (lv' := [(6, .int 0), (0, .ref (a 0)), (3, .int v3_1), (5, .int v5_11), (7, .int v7)]) hx hb d_MO_mark_287 hl (by decide) rfl (fun ls hl => ?_)
                        obtain ⟨v7_2, h_v7_2⟩ : ∃ z : Int32, z = v7 + 1 := ⟨_, rfl⟩
                        have hf := g_let hf h_v7_2
                        refine lv_iinc (v := v7_2) (lv' := [(7, .int v7_2), (6, .int 0), (0, .ref (a 0)), (3, .int v3_1), (5, .int v5_11)]) hx hb d_MO_mark_289 hl (k := 4) rfl (by rw [h_v7_2]; rfl) (by decide) rfl (fun ls hl => ?_)
                        refine lv_goto (tgt := 241) hx hb d_MO_mark_292 (by decide) ?_
                        exact ih 0 v7_2 v6_1 hf H locs ls hP hD hS (lv_sub hl [2, 3, 4, 1, 0] rfl) kk
                      · have hf := g_f hf cb_17
                        refine lv_aload_n hx hb d_MO_mark_265 rfl (lv_at hl 0 rfl) ?_
                        refine va_get (D := (dC, dI)) (ci := 8) (v := .ref (a 14)) (C := R_MO) (T := F_MO) (N := 42) hx hb hts (in_MO _) hown hK hP 0 rfl rfl 27 (by decide) (hts _ (List.mem_cons_of_mem _ mw_719)) (fun _ h9 => h9) rfl d_MO_mark_266 ?_
                        refine lv_sipush (v := 300) hx hb d_MO_mark_269 (by decide) ?_
                        refine lv_iload hx hb d_MO_mark_272 (lv_at hl 4 rfl) ?_
                        refine lv_imul hx hb d_MO_mark_274 ?_
                        refine lv_iload hx hb d_MO_mark_275 (lv_at hl 2 rfl) ?_
                        refine lv_iadd hx hb d_MO_mark_277 ?_
                        obtain ⟨ck_3, hf⟩ := g_ck hf
                        refine va_zald (D := (dC, dI)) hx hb hK hP 14 2 rfl rfl ck_3 d_MO_mark_278 ?_
                        refine lv_if_eq (tgt := 286) hx hb d_MO_mark_279 (by decide) (fun cb_18 => ?_) (fun cb_18 => ?_)
                        · have hf := g_t hf cb_18
                          refine lv_iconst (v := 0) hx hb d_MO_mark_286 (by decide) ?_
                          refine lv_istore (lv' := [(6, .int 0), (0, .ref (a 0)), (3, .int v3_1), (5, .int v5_11), (7, .int v7)]) hx hb d_MO_mark_287 hl (by decide) rfl (fun ls hl => ?_)
                          obtain ⟨v7_3, h_v7_3⟩ : ∃ z : Int32, z = v7 + 1 := ⟨_, rfl⟩
                          have hf := g_let hf h_v7_3
                          refine lv_iinc (v := v7_3) (lv' := [(7, .int v7_3), (6, .int 0), (0, .ref (a 0)), (3, .int v3_1), (5, .int v5_11)]) hx hb d_MO_mark_289 hl (k := 4) rfl (by rw [h_v7_3]; rfl) (by decide) rfl (fun ls hl => ?_)
                          refine lv_goto (tgt := 241) hx hb d_MO_mark_292 (by decide) ?_
                          exact ih 0 v7_3 v6_1 hf H locs ls hP hD hS (lv_sub hl [2, 3, 4, 1, 0] rfl) kk
                        · have hf := g_f hf cb_18
                          refine lv_iconst (v := 1) hx hb d_MO_mark_282 (by decide) ?_
                          refine lv_goto (tgt := 287) hx hb d_MO_mark_283 (by decide) ?_
                          refine lv_istore (lv' := [(6, .int 1), (0, .ref (a 0)), (3, .int v3_1), (5, .int v5_11), (7, .int v7)]) hx hb d_MO_mark_287 hl (by decide) rfl (fun ls hl => ?_)
                          obtain ⟨v7_4, h_v7_4⟩ : ∃ z : Int32, z = v7 + 1 := ⟨_, rfl⟩
                          have hf := g_let hf h_v7_4
                          refine lv_iinc (v := v7_4) (lv' := [(7, .int v7_4), (6, .int 1), (0, .ref (a 0)), (3, .int v3_1), (5, .int v5_11)]) hx hb d_MO_mark_289 hl (k := 4) rfl (by rw [h_v7_4]; rfl) (by decide) rfl (fun ls hl => ?_)
                          refine lv_goto (tgt := 241) hx hb d_MO_mark_292 (by decide) ?_
                          exact ih 1 v7_4 v6_1 hf H locs ls hP hD hS (lv_sub hl [2, 3, 4, 1, 0] rfl) kk
              obtain ⟨v6_1, hL_241, hf⟩ := g_bind hf
              try dsimp only at hf
              refine L_241 k 0 0 v6_1 hL_241 H locs ls hP hD hS (lv_sub hl [2, 3, 4, 1, 0] rfl) (fun H locs ls hP hD hS hl => ?_)
              refine lv_aload_n hx hb d_MO_mark_295 rfl (lv_at hl 0 rfl) ?_
              refine va_get (D := (dC, dI)) (ci := 8) (v := .ref (a 3)) (C := R_MO) (T := F_MO) (N := 42) hx hb hts (in_MO _) hown hK hP 0 rfl rfl 13 (by decide) (hts _ (List.mem_cons_of_mem _ mw_705)) (fun _ h9 => h9) rfl d_MO_mark_296 ?_
              refine lv_iload hx hb d_MO_mark_299 (lv_at hl 2 rfl) ?_
              obtain ⟨ck_4, hf⟩ := g_ck hf
              refine va_iald (D := (dC, dI)) hx hb hK hP 3 0 rfl rfl ck_4 d_MO_mark_301 ?_
              refine lv_iconst (v := (-1)) hx hb d_MO_mark_302 (by decide) ?_
              refine lv_icmp_eq (tgt := 329) hx hb d_MO_mark_303 (by decide) (fun cb_19 => ?_) (fun cb_19 => ?_)
              · have hf := g_t hf cb_19
                obtain ⟨v5_12, h_v5_12⟩ : ∃ z : Int32, z = v5_11 + 1 := ⟨_, rfl⟩
                have hf := g_let hf h_v5_12
                refine lv_iinc (v := v5_12) (lv' := [(5, .int v5_12), (0, .ref (a 0)), (3, .int v3_1), (6, .int v6_1)]) hx hb d_MO_mark_329 hl (k := 2) rfl (by rw [h_v5_12]; rfl) (by decide) rfl (fun ls hl => ?_)
                refine lv_goto (tgt := 227) hx hb d_MO_mark_332 (by decide) ?_
                exact ih v5_12 mo_8 mo_9 hf H locs ls hP hD hS (lv_sub hl [1, 2, 0] rfl) kk
              · have hf := g_f hf cb_19
                refine lv_iload hx hb d_MO_mark_306 (lv_at hl 3 rfl) ?_
                refine lv_if_ne (tgt := 329) hx hb d_MO_mark_308 (by decide) (fun cb_20 => ?_) (fun cb_20 => ?_)
                · have hf := g_f hf cb_20
                  obtain ⟨v5_13, h_v5_13⟩ : ∃ z : Int32, z = v5_11 + 1 := ⟨_, rfl⟩
                  have hf := g_let hf h_v5_13
                  refine lv_iinc (v := v5_13) (lv' := [(5, .int v5_13), (0, .ref (a 0)), (3, .int v3_1), (6, .int v6_1)]) hx hb d_MO_mark_329 hl (k := 2) rfl (by rw [h_v5_13]; rfl) (by decide) rfl (fun ls hl => ?_)
                  refine lv_goto (tgt := 227) hx hb d_MO_mark_332 (by decide) ?_
                  exact ih v5_13 mo_8 mo_9 hf H locs ls hP hD hS (lv_sub hl [1, 2, 0] rfl) kk
                · have hf := g_t hf cb_20
                  refine lv_aload_n hx hb d_MO_mark_311 rfl (lv_at hl 0 rfl) ?_
                  refine va_get (D := (dC, dI)) (ci := 8) (v := .ref (a 3)) (C := R_MO) (T := F_MO) (N := 42) hx hb hts (in_MO _) hown hK hP 0 rfl rfl 13 (by decide) (hts _ (List.mem_cons_of_mem _ mw_705)) (fun _ h9 => h9) rfl d_MO_mark_312 ?_
                  refine lv_iload hx hb d_MO_mark_315 (lv_at hl 2 rfl) ?_
                  refine lv_iconst (v := (-1)) hx hb d_MO_mark_317 (by decide) ?_
                  refine va_iast (D := (dC, dI)) hx hb hK hP hD hS 3 0 rfl rfl ck_4 d_MO_mark_318 (fun H locs hP hD hS => ?_)
                  have hP : va_P (dC, dI) classes (wMO tC a (sMO_rKey mo_8 (upd (MO_rKey mo_8) v5_11.toNatClampNeg (-1)))) H := hP
                  have hD : va_D A (wMO tC a (sMO_rKey mo_8 (upd (MO_rKey mo_8) v5_11.toNatClampNeg (-1)))) := hD
                  refine lv_aload_n hx hb d_MO_mark_319 rfl (lv_at hl 0 rfl) ?_
                  refine lv_dup hx hb d_MO_mark_320 rfl ?_
                  refine va_get (D := (dC, dI)) (ci := 8) (v := .int (MO_rows mo_8)) (C := R_MO) (T := F_MO) (N := 42) hx hb hts (in_MO _) hown hK hP 0 rfl rfl 18 (by decide) (hts _ (List.mem_cons_of_mem _ mw_710)) (fun _ h9 => h9) rfl d_MO_mark_321 ?_
                  refine lv_iconst (v := 1) hx hb d_MO_mark_324 (by decide) ?_
                  refine lv_isub hx hb d_MO_mark_325 ?_
                  refine va_put (D := (dC, dI)) (ci := 8) (v := .int ((MO_rows mo_8) - 1)) (ty := .int) (C := R_MO) (T := F_MO) (N := 42) hx hb hts (in_MO _) t_MO t_MO_ok n_MO hown hK hP hD hS 0 rfl rfl 18 (by decide) (hts _ (List.mem_cons_of_mem _ mw_710)) (fun _ h9 => h9) rfl (by decide +kernel) rfl rfl (Nat.le_of_ble_eq_true rfl) d_MO_mark_326 (fun H locs hP hD hS => ?_)
                  have hP : va_P (dC, dI) classes (wMO tC a (sMO_rows (sMO_rKey mo_8 (upd (MO_rKey mo_8) v5_11.toNatClampNeg (-1))) ((MO_rows mo_8) - 1))) H := hP
                  have hD : va_D A (wMO tC a (sMO_rows (sMO_rKey mo_8 (upd (MO_rKey mo_8) v5_11.toNatClampNeg (-1))) ((MO_rows mo_8) - 1))) := hD
                  obtain ⟨v5_14, h_v5_14⟩ : ∃ z : Int32, z = v5_11 + 1 := ⟨_, rfl⟩
                  have hf := g_let hf h_v5_14
                  refine lv_iinc (v := v5_14) (lv' := [(5, .int v5_14), (0, .ref (a 0)), (3, .int v3_1), (6, .int v6_1)]) hx hb d_MO_mark_329 hl (k := 2) rfl (by rw [h_v5_14]; rfl) (by decide) rfl (fun ls hl => ?_)
                  refine lv_goto (tgt := 227) hx hb d_MO_mark_332 (by decide) ?_
                  obtain ⟨mo_10, h_mo_10⟩ : ∃ z : MOt, z = (sMO_rows (sMO_rKey mo_8 (upd (MO_rKey mo_8) v5_11.toNatClampNeg (-1))) ((MO_rows mo_8) - 1)) := ⟨_, rfl⟩
                  have hf := g_let hf h_mo_10
                  have hP : va_P (dC, dI) classes (wMO tC a mo_10) H := by rw [h_mo_10]; exact hP
                  have hD : va_D A (wMO tC a mo_10) := by rw [h_mo_10]; exact hD
                  exact ih v5_14 mo_10 mo_9 hf H locs ls hP hD hS (lv_sub hl [1, 2, 0] rfl) kk
        obtain ⟨mo_9, hL_227, hf⟩ := g_bind hf
        try dsimp only at hf
        refine L_227 k 0 mo_6 mo_9 hL_227 H locs ls hP hD hS (lv_sub hl [1, 2, 0] rfl) (fun H locs ls hP hD hS hl => ?_)
        refine lv_iload_n hx hb d_MO_mark_335 rfl (lv_at hl 0 rfl) ?_
        obtain ⟨hq0, hr1⟩ := Prod.mk.inj (g_some hf)
        subst hq0
        subst hr1
        exact cx_iret hx hb hr hlocks hP hS d_MO_mark_336
      · have hf := g_t hf cb_2
        refine lv_aload_n hx hb d_MO_mark_46 rfl (lv_at hl 0 rfl) ?_
        obtain ⟨mo_11, h_mo_11⟩ : ∃ z : MOt, z = (sMO_thrown (sMO_now mo x1) 0) := ⟨_, rfl⟩
        have hf := g_let hf h_mo_11
        have hP : va_P (dC, dI) classes (wMO tC a mo_11) H := by rw [h_mo_11]; exact hP
        have hD : va_D A (wMO tC a mo_11) := by rw [h_mo_11]; exact hD
        obtain ⟨⟨r_1, mo_12⟩, hc_3, hf⟩ := g_bind hf
        try dsimp only at hf
        refine cx3_callV (As := []) (rest := []) (wMO tC a mo_12) ⟨hx, hb, hml, hown, hts⟩ (c_MO_countedMark l dC dI tC a k mo_11 r_1 mo_12 hc_3) (k_MO_278 hts ⟨Nat.le_of_ble_eq_true rfl, Nat.le_of_ble_eq_true rfl⟩) hl.1 hP hD hS hA hK hN 0 8 rfl rfl rfl (adMO _ _ _ _) rfl rfl (Nat.le_of_ble_eq_true rfl) d_MO_mark_47 ⟨Nat.zero_le _, Nat.zero_le _⟩ (fun H locs hP hD hS => ?_)
        refine W.eq (g2 := F0 m 50 ls [.int r_1]) rfl ?_
        obtain ⟨hq0, hr1⟩ := Prod.mk.inj (g_some hf)
        subst hq0
        subst hr1
        exact cx_iret hx hb hr hlocks hP hS d_MO_mark_50
    · have hf := g_f hf cb_1
      refine lv_bipush (v := (-3)) hx hb d_MO_mark_30 (by decide) ?_
      obtain ⟨hq0, hr1⟩ := Prod.mk.inj (g_some hf)
      subst hq0
      subst hr1
      exact cx_iret hx hb hr hlocks hP hS d_MO_mark_32
  · have hf := g_t hf cb
    refine lv_bipush (v := (-2)) hx hb d_MO_mark_18 (by decide) ?_
    obtain ⟨hq0, hr1⟩ := Prod.mk.inj (g_some hf)
    subst hq0
    subst hr1
    exact cx_iret hx hb hr hlocks hP hS d_MO_mark_20
