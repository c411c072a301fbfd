def f_MO_plain_L9 (k : Nat) (x1 : Int32) (mo : MOt) : Nat → Int32 → Int32 → Int32 → Option (Int32 × Int32)
  | 0, _, _, _ => none
  | n + 1, v6, v7, v8 =>
    if (MO_wanted mo) ≤ v8 then (
      some (v6, v7)
    ) else
    if v8 < 0 ∨ 16 ≤ v8.toNatClampNeg then none else
    if ((MO_wEnd mo v8.toNatClampNeg) + (MO_lateness mo)) ≤ (MO_now mo) then (
      gl_let (v8 + 1) fun v8_1 =>
      f_MO_plain_L9 k x1 mo n v6 v7 v8_1
    ) else
    gl_let (v6 + 1) fun v6_2 =>
    (f_MO_spanAt k x1 (MO_wBegin mo v8.toNatClampNeg) (MO_wEnd mo v8.toNatClampNeg) mo).bind fun r =>
    if r = (-1) then (
      gl_let ((v7 + 1)) fun v7_3 =>
      gl_let (v8 + 1) fun v8_3 =>
      f_MO_plain_L9 k x1 mo n v6_2 v7_3 v8_3
    ) else
    gl_let ((v7 + 0)) fun v7_2 =>
    gl_let (v8 + 1) fun v8_2 =>
    f_MO_plain_L9 k x1 mo n v6_2 v7_2 v8_2
def f_MO_plain_L139 (k : Nat) (x1 : Int32) (r_1 : Int32) : Nat → Int32 → MOt → Option (MOt)
  | 0, _, _ => none
  | n + 1, v9, mo_3 =>
    if (MO_wanted mo_3) ≤ v9 then (
      some mo_3
    ) else
    if v9 < 0 ∨ 16 ≤ v9.toNatClampNeg then none else
    if ((MO_wEnd mo_3 v9.toNatClampNeg) + (MO_lateness mo_3)) ≤ (MO_now mo_3) then (
      gl_let (v9 + 1) fun v9_1 =>
      f_MO_plain_L139 k x1 r_1 n v9_1 mo_3
    ) else
    (f_MO_spanAt k x1 (MO_wBegin mo_3 v9.toNatClampNeg) (MO_wEnd mo_3 v9.toNatClampNeg) mo_3).bind fun r_2 =>
    if r_2 = (-1) then (
      (f_MO_newSpan k x1 (MO_wBegin mo_3 v9.toNatClampNeg) (MO_wEnd mo_3 v9.toNatClampNeg) mo_3).bind fun (r_3, mo_6) =>
      (f_MO_putInto k r_3 r_1 mo_6).bind fun mo_7 =>
      gl_let (v9 + 1) fun v9_3 =>
      f_MO_plain_L139 k x1 r_1 n v9_3 mo_7
    ) else
    (f_MO_putInto k r_2 r_1 mo_3).bind fun mo_5 =>
    gl_let (v9 + 1) fun v9_2 =>
    f_MO_plain_L139 k x1 r_1 n v9_2 mo_5
def f_MO_plain (k : Nat) (x1 : Int32) (x2 : Int64) (x4 : Int64) (mo : MOt) : Option (Int32 × MOt) :=
  (f_MO_plain_L9 k x1 mo k 0 0 0).bind fun (v6_1, v7_1) =>
  if v6_1 = 0 then (
    gl_let (f_MO_drop mo) fun (r_4, mo_8) =>
    some (r_4, mo_8)
  ) else
  if (MO_rows mo) = 300 then (
    some ((-4), mo)
  ) else
  if ((MO_spans mo) + v7_1) ≤ 200 then (
    (f_MO_newRow k x1 x2 x4 mo).bind fun (r_1, mo_1) =>
    gl_let ((sMO_came mo_1 ((MO_came mo_1) + 1)) : MOt) fun mo_2 =>
    (f_MO_plain_L139 k x1 r_1 k 0 mo_2).bind fun mo_4 =>
    some (v6_1, mo_4)
  ) else
  some ((-4), mo)
set_option maxHeartbeats 4000000 in
set_option maxRecDepth 100000 in
theorem c_MO_plain (l : Launch) (dC : Nat → ClassId) (dI : Nat → Nat → Nat) (tC : Nat → ClassId) (a : Nat → Nat) (k : Nat) (x1 : Int32) (x2 : Int64) (x4 : Int64) (mo : MOt) (res : Int32) (moR : MOt) (hf : f_MO_plain k x1 x2 x4 mo = some (res, moR)) : cx_M l y_MO_plain w_MO_plain { frames := 4, cells := 0, slots := 0, locals := 91 } (dC, dI) classes (tyS tC) [.ref (a 0), .int x1, .long x2, .long x4] (wMO tC a mo) (wMO tC a moR) (some (.int res)) := by
  refine cx_of (cc := b_MO_plain) (maxL := 11) (ret := some .int) (plainFor_of_name (by decide)) rfl (Nat.le_of_ble_eq_true rfl) ?_
  intro p e s m below meth c hx hb hr hml hown hts hlocks A hA H locs ls hK hN hP hD hS hl
  have hown : s.vm.findClass R_MO = some m.cls := hown
  have hl : lv_has ls 11 [(0, .ref (a 0)), (1, .int x1), (2, .long x2), (4, .long x4)] := hl
  unfold f_MO_plain at hf
  refine lv_iconst (v := 0) hx hb d_MO_plain_0 (by decide) ?_
  refine lv_istore (lv' := [(6, .int 0), (0, .ref (a 0)), (1, .int x1), (2, .long x2), (4, .long x4)]) hx hb d_MO_plain_1 hl (by decide) rfl (fun ls hl => ?_)
  refine lv_iconst (v := 0) hx hb d_MO_plain_3 (by decide) ?_
  refine lv_istore (lv' := [(7, .int 0), (6, .int 0), (0, .ref (a 0)), (1, .int x1), (2, .long x2), (4, .long x4)]) hx hb d_MO_plain_4 hl (by decide) rfl (fun ls hl => ?_)
  refine lv_iconst (v := 0) hx hb d_MO_plain_6 (by decide) ?_
  refine lv_istore (lv' := [(8, .int 0), (7, .int 0), (6, .int 0), (0, .ref (a 0)), (1, .int x1), (2, .long x2), (4, .long x4)]) hx hb d_MO_plain_7 hl (by decide) rfl (fun ls hl => ?_)
  have L_9 : ∀ (n : Nat) (v6 : Int32) (v7 : Int32) (v8 : Int32) (v6_1 : Int32) (v7_1 : Int32), f_MO_plain_L9 k x1 mo n v6 v7 v8 = some (v6_1, v7_1) → ∀ (H : Heap) (locs : List Loc) (ls : Array Slot), va_P (dC, dI) classes (wMO tC a mo) H → va_D A (wMO tC a mo) → va_S A s.heap H locs → lv_has ls 11 [(0, .ref (a 0)), (1, .int x1), (2, .long x2), (4, .long x4), (6, .int v6), (7, .int v7), (8, .int v8)] → (∀ (H : Heap) (locs : List Loc) (ls : Array Slot), va_P (dC, dI) classes (wMO tC a mo) H → va_D A (wMO tC a mo) → va_S A s.heap H locs → lv_has ls 11 [(0, .ref (a 0)), (1, .int x1), (2, .long x2), (4, .long x4), (6, .int v6_1), (7, .int v7_1)] → W p l e { frames := 4, cells := 0, slots := 0, locals := 91 } s m [.ref (a 0), .int x1, .long x2, .long x4].toArray below meth c H locs 0 0 (cx_Z (dC, dI) classes below [.ref (a 0), .int x1, .long x2, .long x4] s (wMO tC a moR) (some (.int res)) A) (F0 m 80 ls [])) → W p l e { frames := 4, cells := 0, slots := 0, locals := 91 } s m [.ref (a 0), .int x1, .long x2, .long x4].toArray below meth c H locs 0 0 (cx_Z (dC, dI) classes below [.ref (a 0), .int x1, .long x2, .long x4] s (wMO tC a moR) (some (.int res)) A) (F0 m 9 ls []) := by
    intro n
    induction n with
    | zero =>
      intro v6 v7 v8 v6_1 v7_1 hf
      rw [f_MO_plain_L9] at hf
      cases hf
    | succ n ih =>
      intro v6 v7 v8 v6_1 v7_1 hf H locs ls hP hD hS hl kk
      rw [f_MO_plain_L9] at hf
      refine lv_iload hx hb d_MO_plain_9 (lv_at hl 6 rfl) ?_
      refine lv_aload_n hx hb d_MO_plain_11 rfl (lv_at hl 0 rfl) ?_
      refine va_get (D := (dC, dI)) (ci := 8) (v := .int (MO_wanted mo)) (C := R_MO) (T := F_MO) (N := 42) hx hb hts (in_MO _) hown hK hP 0 rfl rfl 37 (by decide) (hts _ (List.mem_cons_of_mem _ mw_729)) (fun _ h9 => h9) rfl d_MO_plain_12 ?_
      refine lv_icmp_ge (tgt := 80) hx hb d_MO_plain_15 (by decide) (fun cb => ?_) (fun cb => ?_)
      · have hf := g_t hf cb
        obtain ⟨hq0, hr1⟩ := Prod.mk.inj (g_some hf)
        subst hq0
        subst hr1
        exact kk _ _ _ hP hD hS (lv_sub hl [0, 1, 2, 3, 4, 5] rfl)
      · have hf := g_f hf cb
        refine lv_aload_n hx hb d_MO_plain_18 rfl (lv_at hl 0 rfl) ?_
        refine va_get (D := (dC, dI)) (ci := 8) (v := .ref (a 20)) (C := R_MO) (T := F_MO) (N := 42) hx hb hts (in_MO _) hown hK hP 0 rfl rfl 39 (by decide) (hts _ (List.mem_cons_of_mem _ mw_731)) (fun _ h9 => h9) rfl d_MO_plain_19 ?_
        refine lv_iload hx hb d_MO_plain_22 (lv_at hl 6 rfl) ?_
        obtain ⟨ck, hf⟩ := g_ck hf
        refine va_lald (D := (dC, dI)) hx hb hK hP 20 1 rfl rfl ck d_MO_plain_24 ?_
        refine lv_aload_n hx hb d_MO_plain_25 rfl (lv_at hl 0 rfl) ?_
        refine va_get (D := (dC, dI)) (ci := 8) (v := .long (MO_lateness mo)) (C := R_MO) (T := F_MO) (N := 42) hx hb hts (in_MO _) hown hK hP 0 rfl rfl 4 (by decide) (hts _ (List.mem_cons_of_mem _ mw_696)) (fun _ h9 => h9) rfl d_MO_plain_26 ?_
        refine lv_ladd hx hb d_MO_plain_29 ?_
        refine lv_aload_n hx hb d_MO_plain_30 rfl (lv_at hl 0 rfl) ?_
        refine va_get (D := (dC, dI)) (ci := 8) (v := .long (MO_now mo)) (C := R_MO) (T := F_MO) (N := 42) hx hb hts (in_MO _) hown hK hP 0 rfl rfl 11 (by decide) (hts _ (List.mem_cons_of_mem _ mw_703)) (fun _ h9 => h9) rfl d_MO_plain_31 ?_
        refine cq_le (tgt := 74) hx hb d_MO_plain_34 d_MO_plain_35 (by decide) (fun cb_1 => ?_) (fun cb_1 => ?_)
        · have hf := g_t hf cb_1
          obtain ⟨v8_1, h_v8_1⟩ : ∃ z : Int32, z = v8 + 1 := ⟨_, rfl⟩
          have hf := g_let hf h_v8_1
          refine lv_iinc (v := v8_1) (lv' := [(8, .int v8_1), (0, .ref (a 0)), (1, .int x1), (2, .long x2), (4, .long x4), (6, .int v6), (7, .int v7)]) hx hb d_MO_plain_74 hl (k := 6) rfl (by rw [h_v8_1]; rfl) (by decide) rfl (fun ls hl => ?_)
          refine lv_goto (tgt := 9) hx hb d_MO_plain_77 (by decide) ?_
          exact ih v6 v7 v8_1 v6_1 v7_1 hf H locs ls hP hD hS (lv_sub hl [1, 2, 3, 4, 5, 6, 0] rfl) kk
        · have hf := g_f hf cb_1
          obtain ⟨v6_2, h_v6_2⟩ : ∃ z : Int32, z = v6 + 1 := ⟨_, rfl⟩
          have hf := g_let hf h_v6_2
          refine lv_iinc (v := v6_2) (lv' := [(6, .int v6_2), (0, .ref (a 0)), (1, .int x1), (2, .long x2), (4, .long x4), (7, .int v7), (8, .int v8)]) hx hb d_MO_plain_38 hl (k := 4) rfl (by rw [h_v6_2]; rfl) (by decide) rfl (fun ls hl => ?_)
          refine lv_iload hx hb d_MO_plain_41 (lv_at hl 5 rfl) ?_
          refine lv_aload_n hx hb d_MO_plain_43 rfl (lv_at hl 1 rfl) ?_
          refine lv_iload_n hx hb d_MO_plain_44 rfl (lv_at hl 2 rfl) ?_
          refine lv_aload_n hx hb d_MO_plain_45 rfl (lv_at hl 1 rfl) ?_
          refine va_get (D := (dC, dI)) (ci := 8) (v := .ref (a 19)) (C := R_MO) (T := F_MO) (N := 42) hx hb hts (in_MO _) hown hK hP 0 rfl rfl 38 (by decide) (hts _ (List.mem_cons_of_mem _ mw_730)) (fun _ h9 => h9) rfl d_MO_plain_46 ?_
          refine lv_iload hx hb d_MO_plain_49 (lv_at hl 6 rfl) ?_
          refine va_lald (D := (dC, dI)) hx hb hK hP 19 1 rfl rfl ck d_MO_plain_51 ?_
          refine lv_aload_n hx hb d_MO_plain_52 rfl (lv_at hl 1 rfl) ?_
          refine va_get (D := (dC, dI)) (ci := 8) (v := .ref (a 20)) (C := R_MO) (T := F_MO) (N := 42) hx hb hts (in_MO _) hown hK hP 0 rfl rfl 39 (by decide) (hts _ (List.mem_cons_of_mem _ mw_731)) (fun _ h9 => h9) rfl d_MO_plain_53 ?_
          refine lv_iload hx hb d_MO_plain_56 (lv_at hl 6 rfl) ?_
          refine va_lald (D := (dC, dI)) hx hb hK hP 20 1 rfl rfl ck d_MO_plain_58 ?_
          obtain ⟨r, hc, hf⟩ := g_bind hf
          try dsimp only at hf
          refine cx3_callV (As := [.int x1, .long (MO_wBegin mo v8.toNatClampNeg), .long (MO_wEnd mo v8.toNatClampNeg)]) (rest := [.int v7]) (wMO tC a mo) ⟨hx, hb, hml, hown, hts⟩ (c_MO_spanAt l dC dI tC a k x1 (MO_wBegin mo v8.toNatClampNeg) (MO_wEnd mo v8.toNatClampNeg) mo r hc) (k_MO_264 hts ⟨Nat.le_of_ble_eq_true rfl, Nat.le_of_ble_eq_true rfl⟩) hl.1 hP hD hS hA hK hN 0 8 rfl rfl rfl rfl rfl rfl (Nat.le_of_ble_eq_true rfl) d_MO_plain_59 ⟨Nat.zero_le _, Nat.zero_le _⟩ (fun H locs hP hD hS => ?_)
          refine W.eq (g2 := F0 m 62 ls [.int r, .int v7]) rfl ?_
          refine lv_iconst (v := (-1)) hx hb d_MO_plain_62 (by decide) ?_
          refine lv_icmp_ne (tgt := 70) hx hb d_MO_plain_63 (by decide) (fun cb_2 => ?_) (fun cb_2 => ?_)
          · have hf := g_f hf cb_2
            refine lv_iconst (v := 0) hx hb d_MO_plain_70 (by decide) ?_
            refine lv_iadd hx hb d_MO_plain_71 ?_
            refine lv_topi (fun v7_2 h_v7_2 => ?_)
            have hf := g_let hf h_v7_2
            refine lv_istore (lv' := [(7, .int v7_2), (6, .int v6_2), (0, .ref (a 0)), (1, .int x1), (2, .long x2), (4, .long x4), (8, .int v8)]) hx hb d_MO_plain_72 hl (by decide) rfl (fun ls hl => ?_)
            obtain ⟨v8_2, h_v8_2⟩ : ∃ z : Int32, z = v8 + 1 := ⟨_, rfl⟩
            have hf := g_let hf h_v8_2
            refine lv_iinc (v := v8_2) (lv' := [(8, .int v8_2), (7, .int v7_2), (6, .int v6_2), (0, .ref (a 0)), (1, .int x1), (2, .long x2), (4, .long x4)]) hx hb d_MO_plain_74 hl (k := 6) rfl (by rw [h_v8_2]; rfl) (by decide) rfl (fun ls hl => ?_)
            refine lv_goto (tgt := 9) hx hb d_MO_plain_77 (by decide) ?_
            exact ih v6_2 v7_2 v8_2 v6_1 v7_1 hf H locs ls hP hD hS (lv_sub hl [3, 4, 5, 6, 2, 1, 0] rfl) kk
          · have hf := g_t hf cb_2
            refine lv_iconst (v := 1) hx hb d_MO_plain_66 (by decide) ?_
            refine lv_goto (tgt := 71) hx hb d_MO_plain_67 (by decide) ?_
            refine lv_iadd hx hb d_MO_plain_71 ?_
            refine lv_topi (fun v7_3 h_v7_3 => ?_)
            have hf := g_let hf h_v7_3
            refine lv_istore (lv' := [(7, .int v7_3), (6, .int v6_2), (0, .ref (a 0)), (1, .int x1), (2, .long x2), (4, .long x4), (8, .int v8)]) hx hb d_MO_plain_72 hl (by decide) rfl (fun ls hl => ?_)
            obtain ⟨v8_3, h_v8_3⟩ : ∃ z : Int32, z = v8 + 1 := ⟨_, rfl⟩
            have hf := g_let hf h_v8_3
            refine lv_iinc (v := v8_3) (lv' := [(8, .int v8_3), (7, .int v7_3), (6, .int v6_2), (0, .ref (a 0)), (1, .int x1), (2, .long x2), (4, .long x4)]) hx hb d_MO_plain_74 hl (k := 6) rfl (by rw [h_v8_3]; rfl) (by decide) rfl (fun ls hl => ?_)
            refine lv_goto (tgt := 9) hx hb d_MO_plain_77 (by decide) ?_
            exact ih v6_2 v7_3 v8_3 v6_1 v7_1 hf H locs ls hP hD hS (lv_sub hl [3, 4, 5, 6, 2, 1, 0] rfl) kk
  obtain ⟨⟨v6_1, v7_1⟩, hL_9, hf⟩ := g_bind hf
  try dsimp only at hf
  refine L_9 k 0 0 0 v6_1 v7_1 hL_9 H locs ls hP hD hS (lv_sub hl [3, 4, 5, 6, 2, 1, 0] rfl) (fun H locs ls hP hD hS hl => ?_)
  refine lv_iload hx hb d_MO_plain_80 (lv_at hl 4 rfl) ?_
  refine lv_if_ne (tgt := 90) hx hb d_MO_plain_82 (by decide) (fun cb_3 => ?_) (fun cb_3 => ?_)
  · have hf := g_f hf cb_3
    refine lv_aload_n hx hb d_MO_plain_90 rfl (lv_at hl 0 rfl) ?_
    refine va_get (D := (dC, dI)) (ci := 8) (v := .int (MO_rows mo)) (C := R_MO) (T := F_MO) (N := 42) hx hb hts (in_MO _) hown hK hP 0 rfl rfl 18 (by decide) (hts _ (List.mem_cons_of_mem _ mw_710)) (fun _ h9 => h9) rfl d_MO_plain_91 ?_
    refine lv_sipush (v := 300) hx hb d_MO_plain_94 (by decide) ?_
    refine lv_icmp_eq (tgt := 113) hx hb d_MO_plain_97 (by decide) (fun cb_4 => ?_) (fun cb_4 => ?_)
    · have hf := g_t hf cb_4
      refine lv_bipush (v := (-4)) hx hb d_MO_plain_113 (by decide) ?_
      obtain ⟨hq0, hr1⟩ := Prod.mk.inj (g_some hf)
      subst hq0
      subst hr1
      exact cx_iret hx hb hr hlocks hP hS d_MO_plain_115
    · have hf := g_f hf cb_4
      refine lv_aload_n hx hb d_MO_plain_100 rfl (lv_at hl 0 rfl) ?_
      refine va_get (D := (dC, dI)) (ci := 8) (v := .int (MO_spans mo)) (C := R_MO) (T := F_MO) (N := 42) hx hb hts (in_MO _) hown hK hP 0 rfl rfl 29 (by decide) (hts _ (List.mem_cons_of_mem _ mw_721)) (fun _ h9 => h9) rfl d_MO_plain_101 ?_
      refine lv_iload hx hb d_MO_plain_104 (lv_at hl 5 rfl) ?_
      refine lv_iadd hx hb d_MO_plain_106 ?_
      refine lv_sipush (v := 200) hx hb d_MO_plain_107 (by decide) ?_
      refine lv_icmp_le (tgt := 116) hx hb d_MO_plain_110 (by decide) (fun cb_5 => ?_) (fun cb_5 => ?_)
      · have hf := g_t hf cb_5
        refine lv_aload_n hx hb d_MO_plain_116 rfl (lv_at hl 0 rfl) ?_
        refine lv_iload_n hx hb d_MO_plain_117 rfl (lv_at hl 1 rfl) ?_
        refine lv_lload_n hx hb d_MO_plain_118 rfl (lv_at hl 2 rfl) ?_
        refine lv_lload hx hb d_MO_plain_119 (lv_at hl 3 rfl) ?_
        obtain ⟨⟨r_1, mo_1⟩, hc_1, hf⟩ := g_bind hf
        try dsimp only at hf
        refine cx3_callV (As := [.int x1, .long x2, .long x4]) (rest := []) (wMO tC a mo_1) ⟨hx, hb, hml, hown, hts⟩ (c_MO_newRow l dC dI tC a k x1 x2 x4 mo r_1 mo_1 hc_1) (k_MO_261 hts ⟨Nat.le_of_ble_eq_true rfl, Nat.le_of_ble_eq_true rfl⟩) hl.1 hP hD hS hA hK hN 0 8 rfl rfl rfl (adMO _ _ _ _) rfl rfl (Nat.le_of_ble_eq_true rfl) d_MO_plain_121 ⟨Nat.zero_le _, Nat.zero_le _⟩ (fun H locs hP hD hS => ?_)
        refine W.eq (g2 := F0 m 124 ls [.int r_1]) rfl ?_
        refine lv_istore (lv' := [(8, .int r_1), (0, .ref (a 0)), (1, .int x1), (2, .long x2), (4, .long x4), (6, .int v6_1), (7, .int v7_1)]) hx hb d_MO_plain_124 hl (by decide) rfl (fun ls hl => ?_)
        refine lv_aload_n hx hb d_MO_plain_126 rfl (lv_at hl 1 rfl) ?_
        refine lv_dup hx hb d_MO_plain_127 rfl ?_
        refine va_get (D := (dC, dI)) (ci := 8) (v := .int (MO_came mo_1)) (C := R_MO) (T := F_MO) (N := 42) hx hb hts (in_MO _) hown hK hP 0 rfl rfl 19 (by decide) (hts _ (List.mem_cons_of_mem _ mw_711)) (fun _ h9 => h9) rfl d_MO_plain_128 ?_
        refine lv_iconst (v := 1) hx hb d_MO_plain_131 (by decide) ?_
        refine lv_iadd hx hb d_MO_plain_132 ?_
        refine va_put (D := (dC, dI)) (ci := 8) (v := .int ((MO_came mo_1) + 1)) (ty := .int) (C := R_MO) (T := F_MO) (N := 42) hx hb hts (in_MO _) t_MO t_MO_ok n_MO hown hK hP hD hS 0 rfl rfl 19 (by decide) (hts _ (List.mem_cons_of_mem _ mw_711)) (fun _ h9 => h9) rfl (by decide +kernel) rfl rfl (Nat.le_of_ble_eq_true rfl) d_MO_plain_133 (fun H locs hP hD hS => ?_)
        have hP : va_P (dC, dI) classes (wMO tC a (sMO_came mo_1 ((MO_came mo_1) + 1))) H := hP
        have hD : va_D A (wMO tC a (sMO_came mo_1 ((MO_came mo_1) + 1))) := hD
        refine lv_iconst (v := 0) hx hb d_MO_plain_136 (by decide) ?_
        refine lv_istore (lv' := [(9, .int 0), (8, .int r_1), (0, .ref (a 0)), (1, .int x1), (2, .long x2), (4, .long x4), (6, .int v6_1), (7, .int v7_1)]) hx hb d_MO_plain_137 hl (by decide) rfl (fun ls hl => ?_)
        obtain ⟨mo_2, h_mo_2⟩ : ∃ z : MOt, z = (sMO_came mo_1 ((MO_came mo_1) + 1)) := ⟨_, rfl⟩
        have hf := g_let hf h_mo_2
        have hP : va_P (dC, dI) classes (wMO tC a mo_2) H := by rw [h_mo_2]; exact hP
        have hD : va_D A (wMO tC a mo_2) := by rw [h_mo_2]; exact hD
        have L_139 : ∀ (n : Nat) (v9 : Int32) (mo_3 : MOt) (mo_4 : MOt), f_MO_plain_L139 k x1 r_1 n v9 mo_3 = some mo_4 → ∀ (H : Heap) (locs : List Loc) (ls : Array Slot), va_P (dC, dI) classes (wMO tC a mo_3) H → va_D A (wMO tC a mo_3) → va_S A s.heap H locs → lv_has ls 11 [(0, .ref (a 0)), (1, .int x1), (6, .int v6_1), (8, .int r_1), (9, .int v9)] → (∀ (H : Heap) (locs : List Loc) (ls : Array Slot), va_P (dC, dI) classes (wMO tC a mo_4) H → va_D A (wMO tC a mo_4) → va_S A s.heap H locs → lv_has ls 11 [(6, .int v6_1)] → W p l e { frames := 4, cells := 0, slots := 0, locals := 91 } s m [.ref (a 0), .int x1, .long x2, .long x4].toArray below meth c H locs 0 0 (cx_Z (dC, dI) classes below [.ref (a 0), .int x1, .long x2, .long x4] s (wMO tC a moR) (some (.int res)) A) (F0 m 231 ls [])) → W p l e { frames := 4, cells := 0, slots := 0, locals := 91 } s m [.ref (a 0), .int x1, .long x2, .long x4].toArray below meth c H locs 0 0 (cx_Z (dC, dI) classes below [.ref (a 0), .int x1, .long x2, .long x4] s (wMO tC a moR) (some (.int res)) A) (F0 m 139 ls []) := by
          intro n
          induction n with
          | zero =>
            intro v9 mo_3 mo_4 hf
            rw [f_MO_plain_L139] at hf
            cases hf
          | succ n ih =>
            intro v9 mo_3 mo_4 hf H locs ls hP hD hS hl kk
            rw [f_MO_plain_L139] at hf
            refine lv_iload hx hb d_MO_plain_139 (lv_at hl 4 rfl) ?_
            refine lv_aload_n hx hb d_MO_plain_141 rfl (lv_at hl 0 rfl) ?_
            refine va_get (D := (dC, dI)) (ci := 8) (v := .int (MO_wanted mo_3)) (C := R_MO) (T := F_MO) (N := 42) hx hb hts (in_MO _) hown hK hP 0 rfl rfl 37 (by decide) (hts _ (List.mem_cons_of_mem _ mw_729)) (fun _ h9 => h9) rfl d_MO_plain_142 ?_
            refine lv_icmp_ge (tgt := 231) hx hb d_MO_plain_145 (by decide) (fun cb_6 => ?_) (fun cb_6 => ?_)
            · have hf := g_t hf cb_6
              have hq0 := (g_some hf)
              subst hq0
              exact kk _ _ _ hP hD hS (lv_sub hl [2] rfl)
            · have hf := g_f hf cb_6
              refine lv_aload_n hx hb d_MO_plain_148 rfl (lv_at hl 0 rfl) ?_
              refine va_get (D := (dC, dI)) (ci := 8) (v := .ref (a 20)) (C := R_MO) (T := F_MO) (N := 42) hx hb hts (in_MO _) hown hK hP 0 rfl rfl 39 (by decide) (hts _ (List.mem_cons_of_mem _ mw_731)) (fun _ h9 => h9) rfl d_MO_plain_149 ?_
              refine lv_iload hx hb d_MO_plain_152 (lv_at hl 4 rfl) ?_
              obtain ⟨ck_1, hf⟩ := g_ck hf
              refine va_lald (D := (dC, dI)) hx hb hK hP 20 1 rfl rfl ck_1 d_MO_plain_154 ?_
              refine lv_aload_n hx hb d_MO_plain_155 rfl (lv_at hl 0 rfl) ?_
              refine va_get (D := (dC, dI)) (ci := 8) (v := .long (MO_lateness mo_3)) (C := R_MO) (T := F_MO) (N := 42) hx hb hts (in_MO _) hown hK hP 0 rfl rfl 4 (by decide) (hts _ (List.mem_cons_of_mem _ mw_696)) (fun _ h9 => h9) rfl d_MO_plain_156 ?_
              refine lv_ladd hx hb d_MO_plain_159 ?_
              refine lv_aload_n hx hb d_MO_plain_160 rfl (lv_at hl 0 rfl) ?_
              refine va_get (D := (dC, dI)) (ci := 8) (v := .long (MO_now mo_3)) (C := R_MO) (T := F_MO) (N := 42) hx hb hts (in_MO _) hown hK hP 0 rfl rfl 11 (by decide) (hts _ (List.mem_cons_of_mem _ mw_703)) (fun _ h9 => h9) rfl d_MO_plain_161 ?_
              refine cq_le (tgt := 225) hx hb d_MO_plain_164 d_MO_plain_165 (by decide) (fun cb_7 => ?_) (fun cb_7 => ?_)
              · have hf := g_t hf cb_7
                obtain ⟨v9_1, h_v9_1⟩ : ∃ z : Int32, z = v9 + 1 := ⟨_, rfl⟩
                have hf := g_let hf h_v9_1
                refine lv_iinc (v := v9_1) (lv' := [(9, .int v9_1), (0, .ref (a 0)), (1, .int x1), (6, .int v6_1), (8, .int r_1)]) hx hb d_MO_plain_225 hl (k := 4) rfl (by rw [h_v9_1]; rfl) (by decide) rfl (fun ls hl => ?_)
                refine lv_goto (tgt := 139) hx hb d_MO_plain_228 (by decide) ?_
                exact ih v9_1 mo_3 mo_4 hf H locs ls hP hD hS (lv_sub hl [1, 2, 3, 4, 0] rfl) kk
              · have hf := g_f hf cb_7
                refine lv_aload_n hx hb d_MO_plain_168 rfl (lv_at hl 0 rfl) ?_
                refine lv_iload_n hx hb d_MO_plain_169 rfl (lv_at hl 1 rfl) ?_
                refine lv_aload_n hx hb d_MO_plain_170 rfl (lv_at hl 0 rfl) ?_
                refine va_get (D := (dC, dI)) (ci := 8) (v := .ref (a 19)) (C := R_MO) (T := F_MO) (N := 42) hx hb hts (in_MO _) hown hK hP 0 rfl rfl 38 (by decide) (hts _ (List.mem_cons_of_mem _ mw_730)) (fun _ h9 => h9) rfl d_MO_plain_171 ?_
                refine lv_iload hx hb d_MO_plain_174 (lv_at hl 4 rfl) ?_
                refine va_lald (D := (dC, dI)) hx hb hK hP 19 1 rfl rfl ck_1 d_MO_plain_176 ?_
                refine lv_aload_n hx hb d_MO_plain_177 rfl (lv_at hl 0 rfl) ?_
                refine va_get (D := (dC, dI)) (ci := 8) (v := .ref (a 20)) (C := R_MO) (T := F_MO) (N := 42) hx hb hts (in_MO _) hown hK hP 0 rfl rfl 39 (by decide) (hts _ (List.mem_cons_of_mem _ mw_731)) (fun _ h9 => h9) rfl d_MO_plain_178 ?_
                refine lv_iload hx hb d_MO_plain_181 (lv_at hl 4 rfl) ?_
                refine va_lald (D := (dC, dI)) hx hb hK hP 20 1 rfl rfl ck_1 d_MO_plain_183 ?_
                obtain ⟨r_2, hc_2, hf⟩ := g_bind hf
                try dsimp only at hf
                refine cx3_callV (As := [.int x1, .long (MO_wBegin mo_3 v9.toNatClampNeg), .long (MO_wEnd mo_3 v9.toNatClampNeg)]) (rest := []) (wMO tC a mo_3) ⟨hx, hb, hml, hown, hts⟩ (c_MO_spanAt l dC dI tC a k x1 (MO_wBegin mo_3 v9.toNatClampNeg) (MO_wEnd mo_3 v9.toNatClampNeg) mo_3 r_2 hc_2) (k_MO_264 hts ⟨Nat.le_of_ble_eq_true rfl, Nat.le_of_ble_eq_true rfl⟩) hl.1 hP hD hS hA hK hN 0 8 rfl rfl rfl rfl rfl rfl (Nat.le_of_ble_eq_true rfl) d_MO_plain_184 ⟨Nat.zero_le _, Nat.zero_le _⟩ (fun H locs hP hD hS => ?_)
                refine W.eq (g2 := F0 m 187 ls [.int r_2]) rfl ?_
                refine lv_istore (lv' := [(10, .int r_2), (0, .ref (a 0)), (1, .int x1), (6, .int v6_1), (8, .int r_1), (9, .int v9)]) hx hb d_MO_plain_187 hl (by decide) rfl (fun ls hl => ?_)
                refine lv_aload_n hx hb d_MO_plain_189 rfl (lv_at hl 1 rfl) ?_
                refine lv_iload hx hb d_MO_plain_190 (lv_at hl 0 rfl) ?_
                refine lv_iconst (v := (-1)) hx hb d_MO_plain_192 (by decide) ?_
                refine lv_icmp_ne (tgt := 218) hx hb d_MO_plain_193 (by decide) (fun cb_8 => ?_) (fun cb_8 => ?_)
                · have hf := g_f hf cb_8
                  refine lv_iload hx hb d_MO_plain_218 (lv_at hl 0 rfl) ?_
                  refine lv_iload hx hb d_MO_plain_220 (lv_at hl 4 rfl) ?_
                  obtain ⟨mo_5, hc_3, hf⟩ := g_bind hf
                  try dsimp only at hf
                  refine cx3_callV (As := [.int r_2, .int r_1]) (rest := []) (wMO tC a mo_5) ⟨hx, hb, hml, hown, hts⟩ (c_MO_putInto l dC dI tC a k r_2 r_1 mo_3 mo_5 hc_3) (k_MO_270 hts ⟨Nat.le_of_ble_eq_true rfl, Nat.le_of_ble_eq_true rfl⟩) hl.1 hP hD hS hA hK hN 0 8 rfl rfl rfl (adMO _ _ _ _) rfl rfl (Nat.le_of_ble_eq_true rfl) d_MO_plain_222 ⟨Nat.zero_le _, Nat.zero_le _⟩ (fun H locs hP hD hS => ?_)
                  refine W.eq (g2 := F0 m 225 ls []) rfl ?_
                  obtain ⟨v9_2, h_v9_2⟩ : ∃ z : Int32, z = v9 + 1 := ⟨_, rfl⟩
                  have hf := g_let hf h_v9_2
                  refine lv_iinc (v := v9_2) (lv' := [(9, .int v9_2), (10, .int r_2), (0, .ref (a 0)), (1, .int x1), (6, .int v6_1), (8, .int r_1)]) hx hb d_MO_plain_225 hl (k := 5) rfl (by rw [h_v9_2]; rfl) (by decide) rfl (fun ls hl => ?_)
                  refine lv_goto (tgt := 139) hx hb d_MO_plain_228 (by decide) ?_
                  exact ih v9_2 mo_5 mo_4 hf H locs ls hP hD hS (lv_sub hl [2, 3, 4, 5, 0] rfl) kk
                · have hf := g_t hf cb_8
                  refine lv_aload_n hx hb d_MO_plain_196 rfl (lv_at hl 1 rfl) ?_
                  refine lv_iload_n hx hb d_MO_plain_197 rfl (lv_at hl 2 rfl) ?_
                  refine lv_aload_n hx hb d_MO_plain_198 rfl (lv_at hl 1 rfl) ?_
                  refine va_get (D := (dC, dI)) (ci := 8) (v := .ref (a 19)) (C := R_MO) (T := F_MO) (N := 42) hx hb hts (in_MO _) hown hK hP 0 rfl rfl 38 (by decide) (hts _ (List.mem_cons_of_mem _ mw_730)) (fun _ h9 => h9) rfl d_MO_plain_199 ?_
                  refine lv_iload hx hb d_MO_plain_202 (lv_at hl 5 rfl) ?_
                  refine va_lald (D := (dC, dI)) hx hb hK hP 19 1 rfl rfl ck_1 d_MO_plain_204 ?_
                  refine lv_aload_n hx hb d_MO_plain_205 rfl (lv_at hl 1 rfl) ?_
                  refine va_get (D := (dC, dI)) (ci := 8) (v := .ref (a 20)) (C := R_MO) (T := F_MO) (N := 42) hx hb hts (in_MO _) hown hK hP 0 rfl rfl 39 (by decide) (hts _ (List.mem_cons_of_mem _ mw_731)) (fun _ h9 => h9) rfl d_MO_plain_206 ?_
                  refine lv_iload hx hb d_MO_plain_209 (lv_at hl 5 rfl) ?_
                  refine va_lald (D := (dC, dI)) hx hb hK hP 20 1 rfl rfl ck_1 d_MO_plain_211 ?_
                  obtain ⟨⟨r_3, mo_6⟩, hc_4, hf⟩ := g_bind hf
                  try dsimp only at hf
                  refine cx3_callV (As := [.int x1, .long (MO_wBegin mo_3 v9.toNatClampNeg), .long (MO_wEnd mo_3 v9.toNatClampNeg)]) (rest := [.ref (a 0)]) (wMO tC a mo_6) ⟨hx, hb, hml, hown, hts⟩ (c_MO_newSpan l dC dI tC a k x1 (MO_wBegin mo_3 v9.toNatClampNeg) (MO_wEnd mo_3 v9.toNatClampNeg) mo_3 r_3 mo_6 hc_4) (k_MO_267 hts ⟨Nat.le_of_ble_eq_true rfl, Nat.le_of_ble_eq_true rfl⟩) hl.1 hP hD hS hA hK hN 0 8 rfl rfl rfl (adMO _ _ _ _) rfl rfl (Nat.le_of_ble_eq_true rfl) d_MO_plain_212 ⟨Nat.zero_le _, Nat.zero_le _⟩ (fun H locs hP hD hS => ?_)
                  refine W.eq (g2 := F0 m 215 ls [.int r_3, .ref (a 0)]) rfl ?_
                  refine lv_goto (tgt := 220) hx hb d_MO_plain_215 (by decide) ?_
                  refine lv_iload hx hb d_MO_plain_220 (lv_at hl 4 rfl) ?_
                  obtain ⟨mo_7, hc_5, hf⟩ := g_bind hf
                  try dsimp only at hf
                  refine cx3_callV (As := [.int r_3, .int r_1]) (rest := []) (wMO tC a mo_7) ⟨hx, hb, hml, hown, hts⟩ (c_MO_putInto l dC dI tC a k r_3 r_1 mo_6 mo_7 hc_5) (k_MO_270 hts ⟨Nat.le_of_ble_eq_true rfl, Nat.le_of_ble_eq_true rfl⟩) hl.1 hP hD hS hA hK hN 0 8 rfl rfl rfl (adMO _ _ _ _) rfl rfl (Nat.le_of_ble_eq_true rfl) d_MO_plain_222 ⟨Nat.zero_le _, Nat.zero_le _⟩ (fun H locs hP hD hS => ?_)
                  refine W.eq (g2 := F0 m 225 ls []) rfl ?_
                  obtain ⟨v9_3, h_v9_3⟩ : ∃ z : Int32, z = v9 + 1 := ⟨_, rfl⟩
                  have hf := g_let hf h_v9_3
                  refine lv_iinc (v := v9_3) (lv' := [(9, .int v9_3), (10, .int r_2), (0, .ref (a 0)), (1, .int x1), (6, .int v6_1), (8, .int r_1)]) hx hb d_MO_plain_225 hl (k := 5) rfl (by rw [h_v9_3]; rfl) (by decide) rfl (fun ls hl => ?_)
                  refine lv_goto (tgt := 139) hx hb d_MO_plain_228 (by decide) ?_
                  exact ih v9_3 mo_7 mo_4 hf H locs ls hP hD hS (lv_sub hl [2, 3, 4, 5, 0] rfl) kk
        obtain ⟨mo_4, hL_139, hf⟩ := g_bind hf
        try dsimp only at hf
        refine L_139 k 0 mo_2 mo_4 hL_139 H locs ls hP hD hS (lv_sub hl [2, 3, 6, 1, 0] rfl) (fun H locs ls hP hD hS hl => ?_)
        refine lv_iload hx hb d_MO_plain_231 (lv_at hl 0 rfl) ?_
        obtain ⟨hq0, hr1⟩ := Prod.mk.inj (g_some hf)
        subst hq0
        subst hr1
        exact cx_iret hx hb hr hlocks hP hS d_MO_plain_233
      · have hf := g_f hf cb_5
        refine lv_bipush (v := (-4)) hx hb d_MO_plain_113 (by decide) ?_
        obtain ⟨hq0, hr1⟩ := Prod.mk.inj (g_some hf)
        subst hq0
        subst hr1
        exact cx_iret hx hb hr hlocks hP hS d_MO_plain_115
  · have hf := g_t hf cb_3
    refine lv_aload_n hx hb d_MO_plain_85 rfl (lv_at hl 0 rfl) ?_
    obtain ⟨⟨r_4, mo_8⟩, hc_6⟩ : ∃ z : Int32 × MOt, z = f_MO_drop mo := ⟨_, rfl⟩
    have hf := g_let hf hc_6
    try dsimp only at hf
    refine cx3_callV (As := []) (rest := []) (wMO tC a mo_8) ⟨hx, hb, hml, hown, hts⟩ (c_MO_drop l dC dI tC a mo r_4 mo_8 hc_6.symm) (k_MO_257 hts ⟨Nat.le_of_ble_eq_true rfl, Nat.le_of_ble_eq_true rfl⟩) hl.1 hP hD hS hA hK hN 0 8 rfl rfl rfl (adMO _ _ _ _) rfl rfl (Nat.le_of_ble_eq_true rfl) d_MO_plain_86 ⟨Nat.zero_le _, Nat.zero_le _⟩ (fun H locs hP hD hS => ?_)
    refine W.eq (g2 := F0 m 89 ls [.int r_4]) rfl ?_
    obtain ⟨hq0, hr1⟩ := Prod.mk.inj (g_some hf)
    subst hq0
    subst hr1
    exact cx_iret hx hb hr hlocks hP hS d_MO_plain_89
