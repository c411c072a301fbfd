def f_MO_double0_B2 (x1 : Int64) : Int64 :=
  if 0 ≤ x1 then (
    x1
  ) else
  (-x1)
def f_MO_double0_L75 (t : Int64) : Nat → Int64 → Option (Int64)
  | 0, _ => none
  | n + 1, v5 =>
    if t ≤ v5 then (
      some v5
    ) else
    gl_let ((v5 * 2)) fun v5_2 =>
    f_MO_double0_L75 t n v5_2
def f_MO_double0_L22 (t : Int64) : Nat → Int64 → Option (Int64)
  | 0, _ => none
  | n + 1, v5_3 =>
    if t < v5_3 then (
      some v5_3
    ) else
    gl_let ((v5_3 * 2)) fun v5_5 =>
    f_MO_double0_L22 t n v5_5
def f_MO_double0_B47 (t : Int64) (v5_4 : Int64) : Int64 :=
  if t = 0 then (
    0
  ) else
  (v5_4 / 2)
def f_MO_double0 (k : Nat) (x1 : Int64) (mo : MOt) : Option MOt :=
  gl_let (f_MO_double0_B2 x1) fun t =>
  if x1 < 0 then (
    (f_MO_double0_L75 t k 1).bind fun v5_1 =>
    if t = 1 then (
      (f_MO_want ((MO_offset mo) - v5_1) ((MO_offset mo) - 0) mo).bind fun mo_2 =>
      some mo_2
    ) else
    (f_MO_want ((MO_offset mo) - v5_1) ((MO_offset mo) - (v5_1 / 2)) mo).bind fun mo_1 =>
    some mo_1
  ) else
  (f_MO_double0_L22 t k 1).bind fun v5_4 =>
  gl_let (f_MO_double0_B47 t v5_4) fun t_1 =>
  (f_MO_want ((MO_offset mo) + t_1) ((MO_offset mo) + v5_4) mo).bind fun mo_3 =>
  some mo_3
set_option maxHeartbeats 4000000 in
set_option maxRecDepth 100000 in
theorem c_MO_double0 (l : Launch) (dC : Nat → ClassId) (dI : Nat → Nat → Nat) (tC : Nat → ClassId) (a : Nat → Nat) (k : Nat) (x1 : Int64) (mo : MOt) (moR : MOt) (hf : f_MO_double0 k x1 mo = some moR) : cx_M l y_MO_double0 w_MO_double0 { frames := 1, cells := 0, slots := 0, locals := 24 } (dC, dI) classes (tyS tC) [.ref (a 0), .long x1] (wMO tC a mo) (wMO tC a moR) (none) := by
  refine cx_of (cc := b_MO_double0) (maxL := 7) (ret := none) (plainFor_of_name (by decide)) rfl (Nat.le_of_ble_eq_true rfl) ?_
  intro p e s m below meth c hx hb hr hml hown hts hlocks A hA H locs ls hK hN hP hD hS hl
  have hown : s.vm.findClass R_MO = some m.cls := hown
  have hl : lv_has ls 7 [(0, .ref (a 0)), (1, .long x1)] := hl
  unfold f_MO_double0 at hf
  refine lv_lload_n hx hb d_MO_double0_0 rfl (lv_at hl 1 rfl) ?_
  refine lv_lconst (v := 0) hx hb d_MO_double0_1 (by decide) ?_
  obtain ⟨t, hB_12⟩ : ∃ z : Int64, z = f_MO_double0_B2 x1 := ⟨_, rfl⟩
  have hf := g_let hf hB_12
  have hB_12 := hB_12.symm
  try dsimp only at hf
  have K_12 : ∀ (H : Heap) (locs : List Loc) (ls : Array Slot), va_P (dC, dI) classes (wMO tC a mo) H → va_D A (wMO tC a mo) → va_S A s.heap H locs → lv_has ls 7 [(0, .ref (a 0)), (1, .long x1)] → W p l e { frames := 1, cells := 0, slots := 0, locals := 24 } s m [.ref (a 0), .long x1].toArray below meth c H locs 0 0 (cx_Z (dC, dI) classes below [.ref (a 0), .long x1] s (wMO tC a moR) (none) A) (F0 m 12 ls [.long t]) := by
    intro H locs ls hP hD hS hl
    refine lv_lstore_n (lv' := [(3, .long t), (0, .ref (a 0)), (1, .long x1)]) hx hb d_MO_double0_12 rfl hl (by decide) rfl (fun ls hl => ?_)
    refine lv_lconst (v := 1) hx hb d_MO_double0_13 (by decide) ?_
    refine lv_lstore (lv' := [(5, .long 1), (3, .long t), (0, .ref (a 0)), (1, .long x1)]) hx hb d_MO_double0_14 hl (by decide) rfl (fun ls hl => ?_)
    refine lv_lload_n hx hb d_MO_double0_16 rfl (lv_at hl 3 rfl) ?_
    refine lv_lconst (v := 0) hx hb d_MO_double0_17 (by decide) ?_
    refine cq_lt (tgt := 75) hx hb d_MO_double0_18 d_MO_double0_19 (by decide) (fun cb_1 => ?_) (fun cb_1 => ?_)
    · have hf := g_t hf cb_1
      have L_75 : ∀ (n : Nat) (v5 : Int64) (v5_1 : Int64), f_MO_double0_L75 t n v5 = some v5_1 → ∀ (H : Heap) (locs : List Loc) (ls : Array Slot), va_P (dC, dI) classes (wMO tC a mo) H → va_D A (wMO tC a mo) → va_S A s.heap H locs → lv_has ls 7 [(0, .ref (a 0)), (3, .long t), (5, .long v5)] → (∀ (H : Heap) (locs : List Loc) (ls : Array Slot), va_P (dC, dI) classes (wMO tC a mo) H → va_D A (wMO tC a mo) → va_S A s.heap H locs → lv_has ls 7 [(0, .ref (a 0)), (3, .long t), (5, .long v5_1)] → W p l e { frames := 1, cells := 0, slots := 0, locals := 24 } s m [.ref (a 0), .long x1].toArray below meth c H locs 0 0 (cx_Z (dC, dI) classes below [.ref (a 0), .long x1] s (wMO tC a moR) (none) A) (F0 m 93 ls [])) → W p l e { frames := 1, cells := 0, slots := 0, locals := 24 } s m [.ref (a 0), .long x1].toArray below meth c H locs 0 0 (cx_Z (dC, dI) classes below [.ref (a 0), .long x1] s (wMO tC a moR) (none) A) (F0 m 75 ls []) := by
        intro n
        induction n with
        | zero =>
          intro v5 v5_1 hf
          rw [f_MO_double0_L75] at hf
          cases hf
        | succ n ih =>
          intro v5 v5_1 hf H locs ls hP hD hS hl kk
          rw [f_MO_double0_L75] at hf
          refine lv_lload hx hb d_MO_double0_75 (lv_at hl 2 rfl) ?_
          refine lv_lload_n hx hb d_MO_double0_77 rfl (lv_at hl 1 rfl) ?_
          refine cq_ge (tgt := 93) hx hb d_MO_double0_78 d_MO_double0_79 (by decide) (fun cb_2 => ?_) (fun cb_2 => ?_)
          · have hf := g_t hf cb_2
            have hq0 := (g_some hf)
            subst hq0
            exact kk _ _ _ hP hD hS (lv_sub hl [0, 1, 2] rfl)
          · have hf := g_f hf cb_2
            refine lv_lload hx hb d_MO_double0_82 (lv_at hl 2 rfl) ?_
            refine lv_ldc2 (v := 2) hx hb hown (hts _ (List.mem_cons_of_mem _ mw_849)) d_MO_double0_84 ?_
            refine lv_lmul hx hb d_MO_double0_87 ?_
            refine lv_topl (fun v5_2 h_v5_2 => ?_)
            have hf := g_let hf h_v5_2
            refine lv_lstore (lv' := [(5, .long v5_2), (0, .ref (a 0)), (3, .long t)]) hx hb d_MO_double0_88 hl (by decide) rfl (fun ls hl => ?_)
            refine lv_goto (tgt := 75) hx hb d_MO_double0_90 (by decide) ?_
            exact ih v5_2 v5_1 hf H locs ls hP hD hS (lv_sub hl [1, 2, 0] rfl) kk
      obtain ⟨v5_1, hL_75, hf⟩ := g_bind hf
      try dsimp only at hf
      refine L_75 k 1 v5_1 hL_75 H locs ls hP hD hS (lv_sub hl [2, 1, 0] rfl) (fun H locs ls hP hD hS hl => ?_)
      refine lv_aload_n hx hb d_MO_double0_93 rfl (lv_at hl 0 rfl) ?_
      refine lv_aload_n hx hb d_MO_double0_94 rfl (lv_at hl 0 rfl) ?_
      refine va_get (D := (dC, dI)) (ci := 8) (v := .long (MO_offset mo)) (C := R_MO) (T := F_MO) (N := 42) hx hb hts (in_MO _) hown hK hP 0 rfl rfl 3 (by decide) (hts _ (List.mem_cons_of_mem _ mw_695)) (fun _ h9 => h9) rfl d_MO_double0_95 ?_
      refine lv_lload hx hb d_MO_double0_98 (lv_at hl 2 rfl) ?_
      refine lv_lsub hx hb d_MO_double0_100 ?_
      refine lv_aload_n hx hb d_MO_double0_101 rfl (lv_at hl 0 rfl) ?_
      refine va_get (D := (dC, dI)) (ci := 8) (v := .long (MO_offset mo)) (C := R_MO) (T := F_MO) (N := 42) hx hb hts (in_MO _) hown hK hP 0 rfl rfl 3 (by decide) (hts _ (List.mem_cons_of_mem _ mw_695)) (fun _ h9 => h9) rfl d_MO_double0_102 ?_
      refine lv_lload_n hx hb d_MO_double0_105 rfl (lv_at hl 1 rfl) ?_
      refine lv_lconst (v := 1) hx hb d_MO_double0_106 (by decide) ?_
      refine cq_ne (tgt := 115) hx hb d_MO_double0_107 d_MO_double0_108 (by decide) (fun cb_3 => ?_) (fun cb_3 => ?_)
      · have hf := g_f hf cb_3
        refine lv_lload hx hb d_MO_double0_115 (lv_at hl 2 rfl) ?_
        refine lv_ldc2 (v := 2) hx hb hown (hts _ (List.mem_cons_of_mem _ mw_849)) d_MO_double0_117 ?_
        refine lv_ldiv hx hb d_MO_double0_120 (by decide) ?_
        refine lv_lsub hx hb d_MO_double0_121 ?_
        obtain ⟨mo_1, hc, hf⟩ := g_bind hf
        try dsimp only at hf
        refine cx3_callV (As := [.long ((MO_offset mo) - v5_1), .long ((MO_offset mo) - (v5_1 / 2))]) (rest := []) (wMO tC a mo_1) ⟨hx, hb, hml, hown, hts⟩ (c_MO_want l dC dI tC a ((MO_offset mo) - v5_1) ((MO_offset mo) - (v5_1 / 2)) mo mo_1 hc) (k_MO_186 hts ⟨Nat.le_of_ble_eq_true rfl, Nat.le_of_ble_eq_true rfl⟩) hl.1 hP hD hS hA hK hN 0 8 rfl rfl rfl (adMO _ _ _ _) rfl rfl (Nat.le_of_ble_eq_true rfl) d_MO_double0_122 ⟨Nat.zero_le _, Nat.zero_le _⟩ (fun H locs hP hD hS => ?_)
        refine W.eq (g2 := F0 m 125 ls []) rfl ?_
        have hq0 := (g_some hf)
        subst hq0
        exact cx_vret hx hb hr hlocks hP hS d_MO_double0_125
      · have hf := g_t hf cb_3
        refine lv_lconst (v := 0) hx hb d_MO_double0_111 (by decide) ?_
        refine lv_goto (tgt := 121) hx hb d_MO_double0_112 (by decide) ?_
        refine lv_lsub hx hb d_MO_double0_121 ?_
        obtain ⟨mo_2, hc_1, hf⟩ := g_bind hf
        try dsimp only at hf
        refine cx3_callV (As := [.long ((MO_offset mo) - v5_1), .long ((MO_offset mo) - 0)]) (rest := []) (wMO tC a mo_2) ⟨hx, hb, hml, hown, hts⟩ (c_MO_want l dC dI tC a ((MO_offset mo) - v5_1) ((MO_offset mo) - 0) mo mo_2 hc_1) (k_MO_186 hts ⟨Nat.le_of_ble_eq_true rfl, Nat.le_of_ble_eq_true rfl⟩) hl.1 hP hD hS hA hK hN 0 8 rfl rfl rfl (adMO _ _ _ _) rfl rfl (Nat.le_of_ble_eq_true rfl) d_MO_double0_122 ⟨Nat.zero_le _, Nat.zero_le _⟩ (fun H locs hP hD hS => ?_)
        refine W.eq (g2 := F0 m 125 ls []) rfl ?_
        have hq0 := (g_some hf)
        subst hq0
        exact cx_vret hx hb hr hlocks hP hS d_MO_double0_125
    · have hf := g_f hf cb_1
      have L_22 : ∀ (n : Nat) (v5_3 : Int64) (v5_4 : Int64), f_MO_double0_L22 t n v5_3 = some v5_4 → ∀ (H : Heap) (locs : List Loc) (ls : Array Slot), va_P (dC, dI) classes (wMO tC a mo) H → va_D A (wMO tC a mo) → va_S A s.heap H locs → lv_has ls 7 [(0, .ref (a 0)), (3, .long t), (5, .long v5_3)] → (∀ (H : Heap) (locs : List Loc) (ls : Array Slot), va_P (dC, dI) classes (wMO tC a mo) H → va_D A (wMO tC a mo) → va_S A s.heap H locs → lv_has ls 7 [(0, .ref (a 0)), (3, .long t), (5, .long v5_4)] → W p l e { frames := 1, cells := 0, slots := 0, locals := 24 } s m [.ref (a 0), .long x1].toArray below meth c H locs 0 0 (cx_Z (dC, dI) classes below [.ref (a 0), .long x1] s (wMO tC a moR) (none) A) (F0 m 40 ls [])) → W p l e { frames := 1, cells := 0, slots := 0, locals := 24 } s m [.ref (a 0), .long x1].toArray below meth c H locs 0 0 (cx_Z (dC, dI) classes below [.ref (a 0), .long x1] s (wMO tC a moR) (none) A) (F0 m 22 ls []) := by
        intro n
        induction n with
        | zero =>
          intro v5_3 v5_4 hf
          rw [f_MO_double0_L22] at hf
          cases hf
        | succ n ih =>
          intro v5_3 v5_4 hf H locs ls hP hD hS hl kk
          rw [f_MO_double0_L22] at hf
          refine lv_lload hx hb d_MO_double0_22 (lv_at hl 2 rfl) ?_
          refine lv_lload_n hx hb d_MO_double0_24 rfl (lv_at hl 1 rfl) ?_
          refine cq_gt (tgt := 40) hx hb d_MO_double0_25 d_MO_double0_26 (by decide) (fun cb_4 => ?_) (fun cb_4 => ?_)
          · have hf := g_t hf cb_4
            have hq0 := (g_some hf)
            subst hq0
            exact kk _ _ _ hP hD hS (lv_sub hl [0, 1, 2] rfl)
          · have hf := g_f hf cb_4
            refine lv_lload hx hb d_MO_double0_29 (lv_at hl 2 rfl) ?_
            refine lv_ldc2 (v := 2) hx hb hown (hts _ (List.mem_cons_of_mem _ mw_849)) d_MO_double0_31 ?_
            refine lv_lmul hx hb d_MO_double0_34 ?_
            refine lv_topl (fun v5_5 h_v5_5 => ?_)
            have hf := g_let hf h_v5_5
            refine lv_lstore (lv' := [(5, .long v5_5), (0, .ref (a 0)), (3, .long t)]) hx hb d_MO_double0_35 hl (by decide) rfl (fun ls hl => ?_)
            refine lv_goto (tgt := 22) hx hb d_MO_double0_37 (by decide) ?_
            exact ih v5_5 v5_4 hf H locs ls hP hD hS (lv_sub hl [1, 2, 0] rfl) kk
      obtain ⟨v5_4, hL_22, hf⟩ := g_bind hf
      try dsimp only at hf
      refine L_22 k 1 v5_4 hL_22 H locs ls hP hD hS (lv_sub hl [2, 1, 0] rfl) (fun H locs ls hP hD hS hl => ?_)
      refine lv_aload_n hx hb d_MO_double0_40 rfl (lv_at hl 0 rfl) ?_
      refine lv_aload_n hx hb d_MO_double0_41 rfl (lv_at hl 0 rfl) ?_
      refine va_get (D := (dC, dI)) (ci := 8) (v := .long (MO_offset mo)) (C := R_MO) (T := F_MO) (N := 42) hx hb hts (in_MO _) hown hK hP 0 rfl rfl 3 (by decide) (hts _ (List.mem_cons_of_mem _ mw_695)) (fun _ h9 => h9) rfl d_MO_double0_42 ?_
      refine lv_lload_n hx hb d_MO_double0_45 rfl (lv_at hl 1 rfl) ?_
      refine lv_lconst (v := 0) hx hb d_MO_double0_46 (by decide) ?_
      obtain ⟨t_1, hB_61⟩ : ∃ z : Int64, z = f_MO_double0_B47 t v5_4 := ⟨_, rfl⟩
      have hf := g_let hf hB_61
      have hB_61 := hB_61.symm
      try dsimp only at hf
      have K_61 : ∀ (H : Heap) (locs : List Loc) (ls : Array Slot), va_P (dC, dI) classes (wMO tC a mo) H → va_D A (wMO tC a mo) → va_S A s.heap H locs → lv_has ls 7 [(0, .ref (a 0)), (5, .long v5_4)] → W p l e { frames := 1, cells := 0, slots := 0, locals := 24 } s m [.ref (a 0), .long x1].toArray below meth c H locs 0 0 (cx_Z (dC, dI) classes below [.ref (a 0), .long x1] s (wMO tC a moR) (none) A) (F0 m 61 ls [.long t_1, .long (MO_offset mo), .ref (a 0)]) := by
        intro H locs ls hP hD hS hl
        refine lv_ladd hx hb d_MO_double0_61 ?_
        refine lv_aload_n hx hb d_MO_double0_62 rfl (lv_at hl 0 rfl) ?_
        refine va_get (D := (dC, dI)) (ci := 8) (v := .long (MO_offset mo)) (C := R_MO) (T := F_MO) (N := 42) hx hb hts (in_MO _) hown hK hP 0 rfl rfl 3 (by decide) (hts _ (List.mem_cons_of_mem _ mw_695)) (fun _ h9 => h9) rfl d_MO_double0_63 ?_
        refine lv_lload hx hb d_MO_double0_66 (lv_at hl 1 rfl) ?_
        refine lv_ladd hx hb d_MO_double0_68 ?_
        obtain ⟨mo_3, hc_2, hf⟩ := g_bind hf
        try dsimp only at hf
        refine cx3_callV (As := [.long ((MO_offset mo) + t_1), .long ((MO_offset mo) + v5_4)]) (rest := []) (wMO tC a mo_3) ⟨hx, hb, hml, hown, hts⟩ (c_MO_want l dC dI tC a ((MO_offset mo) + t_1) ((MO_offset mo) + v5_4) mo mo_3 hc_2) (k_MO_186 hts ⟨Nat.le_of_ble_eq_true rfl, Nat.le_of_ble_eq_true rfl⟩) hl.1 hP hD hS hA hK hN 0 8 rfl rfl rfl (adMO _ _ _ _) rfl rfl (Nat.le_of_ble_eq_true rfl) d_MO_double0_69 ⟨Nat.zero_le _, Nat.zero_le _⟩ (fun H locs hP hD hS => ?_)
        refine W.eq (g2 := F0 m 72 ls []) rfl ?_
        refine lv_goto (tgt := 125) hx hb d_MO_double0_72 (by decide) ?_
        have hq0 := (g_some hf)
        subst hq0
        exact cx_vret hx hb hr hlocks hP hS d_MO_double0_125
      have hf := hB_61
      unfold f_MO_double0_B47 at hf
      refine cq_ne (tgt := 55) hx hb d_MO_double0_47 d_MO_double0_48 (by decide) (fun cb_5 => ?_) (fun cb_5 => ?_)
      · have hf := g_f hf cb_5
        refine lv_lload hx hb d_MO_double0_55 (lv_at hl 2 rfl) ?_
        refine lv_ldc2 (v := 2) hx hb hown (hts _ (List.mem_cons_of_mem _ mw_849)) d_MO_double0_57 ?_
        refine lv_ldiv hx hb d_MO_double0_60 (by decide) ?_
        have hq0 := hf
        subst hq0
        exact K_61 _ _ _ hP hD hS (lv_sub hl [0, 2] rfl)
      · have hf := g_t hf cb_5
        refine lv_lconst (v := 0) hx hb d_MO_double0_51 (by decide) ?_
        refine lv_goto (tgt := 61) hx hb d_MO_double0_52 (by decide) ?_
        have hq0 := hf
        subst hq0
        exact K_61 _ _ _ hP hD hS (lv_sub hl [0, 2] rfl)
  have hf := hB_12
  unfold f_MO_double0_B2 at hf
  refine cq_ge (tgt := 11) hx hb d_MO_double0_2 d_MO_double0_3 (by decide) (fun cb => ?_) (fun cb => ?_)
  · have hf := g_t hf cb
    refine lv_lload_n hx hb d_MO_double0_11 rfl (lv_at hl 1 rfl) ?_
    have hq0 := hf
    subst hq0
    exact K_12 _ _ _ hP hD hS (lv_sub hl [0, 1] rfl)
  · have hf := g_f hf cb
    refine lv_lload_n hx hb d_MO_double0_6 rfl (lv_at hl 1 rfl) ?_
    refine lv_lneg hx hb d_MO_double0_7 ?_
    refine lv_goto (tgt := 12) hx hb d_MO_double0_8 (by decide) ?_
    have hq0 := hf
    subst hq0
    exact K_12 _ _ _ hP hD hS (lv_sub hl [0, 1] rfl)
