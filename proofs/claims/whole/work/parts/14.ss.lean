def f_SS_shares (x1 : Int32) (x2 : Int32) (x3 : Int64) (x5 : Int64) (ss : SSt) : Option Int32 :=
  if x1 < 0 ∨ 200 ≤ x1.toNatClampNeg then none else
  if (SS_keys ss x1.toNatClampNeg) = x2 then (
    if x5 ≤ (SS_begins ss x1.toNatClampNeg) then (
      some 0
    ) else
    if (SS_ends ss x1.toNatClampNeg) ≤ x3 then (
      some 0
    ) else
    some 1
  ) else
  some 0
set_option maxHeartbeats 4000000 in
set_option maxRecDepth 100000 in
theorem c_SS_shares (l : Launch) (dC : Nat → ClassId) (dI : Nat → Nat → Nat) (tC : Nat → ClassId) (a : Nat → Nat) (x1 : Int32) (x2 : Int32) (x3 : Int64) (x5 : Int64) (ss : SSt) (res : Int32) (hf : f_SS_shares x1 x2 x3 x5 ss = some res) : cx_M l y_SS_shares w_SS_shares { frames := 0, cells := 0, slots := 0, locals := 0 } (dC, dI) classes (tyS tC) [.ref (a 0), .int x1, .int x2, .long x3, .long x5] (wSS tC a ss) (wSS tC a ss) (some (.int res)) := by
  refine cx_of (cc := b_SS_shares) (maxL := 7) (ret := some .boolean) (plainFor_of_name (by decide)) rfl (Nat.le_of_ble_eq_true rfl) ?_
  intro p e s m below meth c hx hb hr hml hown hts hlocks A hA H locs ls hK hN hP hD hS hl
  have hown : s.vm.findClass R_SS = some m.cls := hown
  have hl : lv_has ls 7 [(0, .ref (a 0)), (1, .int x1), (2, .int x2), (3, .long x3), (5, .long x5)] := hl
  unfold f_SS_shares at hf
  refine lv_aload_n hx hb d_SS_shares_0 rfl (lv_at hl 0 rfl) ?_
  refine va_get (D := (dC, dI)) (ci := 4) (v := .ref (a 1)) (C := R_SS) (T := F_SS) (N := 12) hx hb hts (in_SS _) hown hK hP 0 rfl rfl 0 (by decide) (hts _ (List.mem_cons_of_mem _ mw_81)) (fun _ h9 => h9) rfl d_SS_shares_1 ?_
  refine lv_iload_n hx hb d_SS_shares_4 rfl (lv_at hl 1 rfl) ?_
  obtain ⟨ck, hf⟩ := g_ck hf
  refine va_iald (D := (dC, dI)) hx hb hK hP 1 0 rfl rfl ck d_SS_shares_5 ?_
  refine lv_iload_n hx hb d_SS_shares_6 rfl (lv_at hl 2 rfl) ?_
  refine lv_icmp_ne (tgt := 37) hx hb d_SS_shares_7 (by decide) (fun cb => ?_) (fun cb => ?_)
  · have hf := g_f hf cb
    refine lv_iconst (v := 0) hx hb d_SS_shares_37 (by decide) ?_
    have hq0 := (g_some hf)
    subst hq0
    exact cx_zret hx hb hr hlocks rfl hP hS d_SS_shares_38
  · have hf := g_t hf cb
    refine lv_aload_n hx hb d_SS_shares_10 rfl (lv_at hl 0 rfl) ?_
    refine va_get (D := (dC, dI)) (ci := 4) (v := .ref (a 2)) (C := R_SS) (T := F_SS) (N := 12) hx hb hts (in_SS _) hown hK hP 0 rfl rfl 1 (by decide) (hts _ (List.mem_cons_of_mem _ mw_83)) (fun _ h9 => h9) rfl d_SS_shares_11 ?_
    refine lv_iload_n hx hb d_SS_shares_14 rfl (lv_at hl 1 rfl) ?_
    refine va_lald (D := (dC, dI)) hx hb hK hP 2 1 rfl rfl ck d_SS_shares_15 ?_
    refine lv_lload hx hb d_SS_shares_16 (lv_at hl 4 rfl) ?_
    refine cq_ge (tgt := 37) hx hb d_SS_shares_18 d_SS_shares_19 (by decide) (fun cb_1 => ?_) (fun cb_1 => ?_)
    · have hf := g_t hf cb_1
      refine lv_iconst (v := 0) hx hb d_SS_shares_37 (by decide) ?_
      have hq0 := (g_some hf)
      subst hq0
      exact cx_zret hx hb hr hlocks rfl hP hS d_SS_shares_38
    · have hf := g_f hf cb_1
      refine lv_lload_n hx hb d_SS_shares_22 rfl (lv_at hl 3 rfl) ?_
      refine lv_aload_n hx hb d_SS_shares_23 rfl (lv_at hl 0 rfl) ?_
      refine va_get (D := (dC, dI)) (ci := 4) (v := .ref (a 3)) (C := R_SS) (T := F_SS) (N := 12) hx hb hts (in_SS _) hown hK hP 0 rfl rfl 2 (by decide) (hts _ (List.mem_cons_of_mem _ mw_85)) (fun _ h9 => h9) rfl d_SS_shares_24 ?_
      refine lv_iload_n hx hb d_SS_shares_27 rfl (lv_at hl 1 rfl) ?_
      refine va_lald (D := (dC, dI)) hx hb hK hP 3 1 rfl rfl ck d_SS_shares_28 ?_
      refine cq_ge (tgt := 37) hx hb d_SS_shares_29 d_SS_shares_30 (by decide) (fun cb_2 => ?_) (fun cb_2 => ?_)
      · have hf := g_t hf cb_2
        refine lv_iconst (v := 0) hx hb d_SS_shares_37 (by decide) ?_
        have hq0 := (g_some hf)
        subst hq0
        exact cx_zret hx hb hr hlocks rfl hP hS d_SS_shares_38
      · have hf := g_f hf cb_2
        refine lv_iconst (v := 1) hx hb d_SS_shares_33 (by decide) ?_
        refine lv_goto (tgt := 38) hx hb d_SS_shares_34 (by decide) ?_
        have hq0 := (g_some hf)
        subst hq0
        exact cx_zret hx hb hr hlocks rfl hP hS d_SS_shares_38
def f_SS_joinedEnd_L7 (x1 : Int32) (x2 : Int64) (x4 : Int64) (ss : SSt) : Nat → Int64 → Int32 → Option (Int64)
  | 0, _, _ => none
  | n + 1, v6, v8 =>
    if (SS_kept ss) ≤ v8 then (
      some v6
    ) else
    if v8 < 0 ∨ 200 ≤ v8.toNatClampNeg then none else
    gl_let ((SS_order ss v8.toNatClampNeg)) fun v9 =>
    (f_SS_shares v9 x1 x2 x4 ss).bind fun r =>
    if r = 0 then (
      gl_let (v8 + 1) fun v8_1 =>
      f_SS_joinedEnd_L7 x1 x2 x4 ss n v6 v8_1
    ) else
    if v9 < 0 ∨ 200 ≤ v9.toNatClampNeg then none else
    gl_let ((if (SS_ends ss v9.toNatClampNeg) < v6 then v6 else (SS_ends ss v9.toNatClampNeg))) fun v6_2 =>
    gl_let (v8 + 1) fun v8_2 =>
    f_SS_joinedEnd_L7 x1 x2 x4 ss n v6_2 v8_2
def f_SS_joinedEnd (k : Nat) (x1 : Int32) (x2 : Int64) (x4 : Int64) (ss : SSt) : Option Int64 :=
  (f_SS_joinedEnd_L7 x1 x2 x4 ss k x4 0).bind fun v6_1 =>
  some v6_1
set_option maxHeartbeats 4000000 in
set_option maxRecDepth 100000 in
theorem c_SS_joinedEnd (l : Launch) (dC : Nat → ClassId) (dI : Nat → Nat → Nat) (tC : Nat → ClassId) (a : Nat → Nat) (k : Nat) (x1 : Int32) (x2 : Int64) (x4 : Int64) (ss : SSt) (res : Int64) (hf : f_SS_joinedEnd k x1 x2 x4 ss = some res) : cx_M l y_SS_joinedEnd w_SS_joinedEnd { frames := 1, cells := 0, slots := 0, locals := 26 } (dC, dI) classes (tyS tC) [.ref (a 0), .int x1, .long x2, .long x4] (wSS tC a ss) (wSS tC a ss) (some (.long res)) := by
  refine cx_of (cc := b_SS_joinedEnd) (maxL := 10) (ret := some .long) (plainFor_of_name (by decide)) rfl (Nat.le_of_ble_eq_true rfl) ?_
  intro p e s m below meth c hx hb hr hml hown hts hlocks A hA H locs ls hK hN hP hD hS hl
  have hown : s.vm.findClass R_SS = some m.cls := hown
  have hl : lv_has ls 10 [(0, .ref (a 0)), (1, .int x1), (2, .long x2), (4, .long x4)] := hl
  unfold f_SS_joinedEnd at hf
  refine lv_lload hx hb d_SS_joinedEnd_0 (lv_at hl 3 rfl) ?_
  refine lv_lstore (lv' := [(6, .long x4), (0, .ref (a 0)), (1, .int x1), (2, .long x2), (4, .long x4)]) hx hb d_SS_joinedEnd_2 hl (by decide) rfl (fun ls hl => ?_)
  refine lv_iconst (v := 0) hx hb d_SS_joinedEnd_4 (by decide) ?_
  refine lv_istore (lv' := [(8, .int 0), (6, .long x4), (0, .ref (a 0)), (1, .int x1), (2, .long x2), (4, .long x4)]) hx hb d_SS_joinedEnd_5 hl (by decide) rfl (fun ls hl => ?_)
  have L_7 : ∀ (n : Nat) (v6 : Int64) (v8 : Int32) (v6_1 : Int64), f_SS_joinedEnd_L7 x1 x2 x4 ss n v6 v8 = some v6_1 → ∀ (H : Heap) (locs : List Loc) (ls : Array Slot), va_P (dC, dI) classes (wSS tC a ss) H → va_D A (wSS tC a ss) → va_S A s.heap H locs → lv_has ls 10 [(0, .ref (a 0)), (1, .int x1), (2, .long x2), (4, .long x4), (6, .long v6), (8, .int v8)] → (∀ (H : Heap) (locs : List Loc) (ls : Array Slot), va_P (dC, dI) classes (wSS tC a ss) H → va_D A (wSS tC a ss) → va_S A s.heap H locs → lv_has ls 10 [(6, .long v6_1)] → W p l e { frames := 1, cells := 0, slots := 0, locals := 26 } s m [.ref (a 0), .int x1, .long x2, .long x4].toArray below meth c H locs 0 0 (cx_Z (dC, dI) classes below [.ref (a 0), .int x1, .long x2, .long x4] s (wSS tC a ss) (some (.long res)) A) (F0 m 58 ls [])) → W p l e { frames := 1, cells := 0, slots := 0, locals := 26 } s m [.ref (a 0), .int x1, .long x2, .long x4].toArray below meth c H locs 0 0 (cx_Z (dC, dI) classes below [.ref (a 0), .int x1, .long x2, .long x4] s (wSS tC a ss) (some (.long res)) A) (F0 m 7 ls []) := by
    intro n
    induction n with
    | zero =>
      intro v6 v8 v6_1 hf
      rw [f_SS_joinedEnd_L7] at hf
      cases hf
    | succ n ih =>
      intro v6 v8 v6_1 hf H locs ls hP hD hS hl kk
      rw [f_SS_joinedEnd_L7] at hf
      refine lv_iload hx hb d_SS_joinedEnd_7 (lv_at hl 5 rfl) ?_
      refine lv_aload_n hx hb d_SS_joinedEnd_9 rfl (lv_at hl 0 rfl) ?_
      refine va_get (D := (dC, dI)) (ci := 4) (v := .int (SS_kept ss)) (C := R_SS) (T := F_SS) (N := 12) hx hb hts (in_SS _) hown hK hP 0 rfl rfl 11 (by decide) (hts _ (List.mem_cons_of_mem _ mw_102)) (fun _ h9 => h9) rfl d_SS_joinedEnd_10 ?_
      refine lv_icmp_ge (tgt := 58) hx hb d_SS_joinedEnd_13 (by decide) (fun cb => ?_) (fun cb => ?_)
      · have hf := g_t hf cb
        have hq0 := (g_some hf)
        subst hq0
        exact kk _ _ _ hP hD hS (lv_sub hl [4] rfl)
      · have hf := g_f hf cb
        refine lv_aload_n hx hb d_SS_joinedEnd_16 rfl (lv_at hl 0 rfl) ?_
        refine va_get (D := (dC, dI)) (ci := 4) (v := .ref (a 11)) (C := R_SS) (T := F_SS) (N := 12) hx hb hts (in_SS _) hown hK hP 0 rfl rfl 10 (by decide) (hts _ (List.mem_cons_of_mem _ mw_101)) (fun _ h9 => h9) rfl d_SS_joinedEnd_17 ?_
        refine lv_iload hx hb d_SS_joinedEnd_20 (lv_at hl 5 rfl) ?_
        obtain ⟨ck, hf⟩ := g_ck hf
        refine va_iald (D := (dC, dI)) hx hb hK hP 11 0 rfl rfl ck d_SS_joinedEnd_22 ?_
        refine lv_topi (fun v9 h_v9 => ?_)
        have hf := g_let hf h_v9
        refine lv_istore (lv' := [(9, .int v9), (0, .ref (a 0)), (1, .int x1), (2, .long x2), (4, .long x4), (6, .long v6), (8, .int v8)]) hx hb d_SS_joinedEnd_23 hl (by decide) rfl (fun ls hl => ?_)
        refine lv_aload_n hx hb d_SS_joinedEnd_25 rfl (lv_at hl 1 rfl) ?_
        refine lv_iload hx hb d_SS_joinedEnd_26 (lv_at hl 0 rfl) ?_
        refine lv_iload_n hx hb d_SS_joinedEnd_28 rfl (lv_at hl 2 rfl) ?_
        refine lv_lload_n hx hb d_SS_joinedEnd_29 rfl (lv_at hl 3 rfl) ?_
        refine lv_lload hx hb d_SS_joinedEnd_30 (lv_at hl 4 rfl) ?_
        obtain ⟨r, hc, hf⟩ := g_bind hf
        try dsimp only at hf
        refine cx_callV (As := [.int v9, .int x1, .long x2, .long x4]) (rest := []) ⟨hx, hb, hml, hown, hts⟩ (c_SS_shares l dC dI tC a v9 x1 x2 x4 ss r hc) (k_SS_55 hts ⟨Nat.le_of_ble_eq_true rfl, Nat.le_of_ble_eq_true rfl⟩) hl.1 hP hD hS hA hK hN [0, 1, 2, 3, 4, 5, 6, 7, 8, 9, 10, 11] 0 4 rfl rfl rfl rfl rfl rfl rfl rfl (Nat.le_of_ble_eq_true rfl) d_SS_joinedEnd_32 ⟨Nat.zero_le _, Nat.zero_le _⟩ (fun H locs hP hD hS => ?_)
        have hP : va_P (dC, dI) classes (wSS tC a ss) H := hP
        have hD : va_D A (wSS tC a ss) := hD
        refine W.eq (g2 := F0 m 35 ls [.int r]) rfl ?_
        refine lv_if_eq (tgt := 52) hx hb d_SS_joinedEnd_35 (by decide) (fun cb_1 => ?_) (fun cb_1 => ?_)
        · have hf := g_t hf cb_1
          obtain ⟨v8_1, h_v8_1⟩ : ∃ z : Int32, z = v8 + 1 := ⟨_, rfl⟩
          have hf := g_let hf h_v8_1
          refine lv_iinc (v := v8_1) (lv' := [(8, .int v8_1), (9, .int v9), (0, .ref (a 0)), (1, .int x1), (2, .long x2), (4, .long x4), (6, .long v6)]) hx hb d_SS_joinedEnd_52 hl (k := 6) rfl (by rw [h_v8_1]; rfl) (by decide) rfl (fun ls hl => ?_)
          refine lv_goto (tgt := 7) hx hb d_SS_joinedEnd_55 (by decide) ?_
          exact ih v6 v8_1 v6_1 hf H locs ls hP hD hS (lv_sub hl [2, 3, 4, 5, 6, 0] rfl) kk
        · have hf := g_f hf cb_1
          refine lv_lload hx hb d_SS_joinedEnd_38 (lv_at hl 5 rfl) ?_
          refine lv_aload_n hx hb d_SS_joinedEnd_40 rfl (lv_at hl 1 rfl) ?_
          refine va_get (D := (dC, dI)) (ci := 4) (v := .ref (a 3)) (C := R_SS) (T := F_SS) (N := 12) hx hb hts (in_SS _) hown hK hP 0 rfl rfl 2 (by decide) (hts _ (List.mem_cons_of_mem _ mw_85)) (fun _ h9 => h9) rfl d_SS_joinedEnd_41 ?_
          refine lv_iload hx hb d_SS_joinedEnd_44 (lv_at hl 0 rfl) ?_
          obtain ⟨ck_1, hf⟩ := g_ck hf
          refine va_lald (D := (dC, dI)) hx hb hK hP 3 1 rfl rfl ck_1 d_SS_joinedEnd_46 ?_
          refine va_mmax_long hx hb (by rw [hml]; exact hl.1.symm) hown (hts _ (List.mem_cons_of_mem _ mw_584)) (hts _ (List.mem_cons_of_mem _ mw_351)) (hts _ (List.mem_cons_of_mem _ mw_14)) (hts _ (List.mem_cons_of_mem _ mw_352)) (Nat.le_of_ble_eq_true rfl) (Nat.le_of_ble_eq_true rfl) (Nat.zero_le _) (Nat.zero_le _) d_SS_joinedEnd_47 ?_
          refine lv_topl (fun v6_2 h_v6_2 => ?_)
          have hf := g_let hf h_v6_2
          refine lv_lstore (lv' := [(6, .long v6_2), (9, .int v9), (0, .ref (a 0)), (1, .int x1), (2, .long x2), (4, .long x4), (8, .int v8)]) hx hb d_SS_joinedEnd_50 hl (by decide) rfl (fun ls hl => ?_)
          obtain ⟨v8_2, h_v8_2⟩ : ∃ z : Int32, z = v8 + 1 := ⟨_, rfl⟩
          have hf := g_let hf h_v8_2
          refine lv_iinc (v := v8_2) (lv' := [(8, .int v8_2), (6, .long v6_2), (9, .int v9), (0, .ref (a 0)), (1, .int x1), (2, .long x2), (4, .long x4)]) hx hb d_SS_joinedEnd_52 hl (k := 6) rfl (by rw [h_v8_2]; rfl) (by decide) rfl (fun ls hl => ?_)
          refine lv_goto (tgt := 7) hx hb d_SS_joinedEnd_55 (by decide) ?_
          exact ih v6_2 v8_2 v6_1 hf H locs ls hP hD hS (lv_sub hl [3, 4, 5, 6, 1, 0] rfl) kk
  obtain ⟨v6_1, hL_7, hf⟩ := g_bind hf
  try dsimp only at hf
  refine L_7 k x4 0 v6_1 hL_7 H locs ls hP hD hS (lv_sub hl [2, 3, 4, 5, 1, 0] rfl) (fun H locs ls hP hD hS hl => ?_)
  refine lv_lload hx hb d_SS_joinedEnd_58 (lv_at hl 0 rfl) ?_
  have hq0 := (g_some hf)
  subst hq0
  exact cx_lret hx hb hr hlocks hP hS d_SS_joinedEnd_60
def f_SS_sharing_L6 (x1 : Int32) (x2 : Int64) (x4 : Int64) (ss : SSt) : Nat → Int32 → Int32 → Option (Int32)
  | 0, _, _ => none
  | n + 1, v6, v7 =>
    if (SS_kept ss) ≤ v7 then (
      some v6
    ) else
    if v7 < 0 ∨ 200 ≤ v7.toNatClampNeg then none else
    (f_SS_shares (SS_order ss v7.toNatClampNeg) x1 x2 x4 ss).bind fun r =>
    if r = 0 then (
      gl_let (v7 + 1) fun v7_1 =>
      f_SS_sharing_L6 x1 x2 x4 ss n v6 v7_1
    ) else
    gl_let (v6 + 1) fun v6_2 =>
    gl_let (v7 + 1) fun v7_2 =>
    f_SS_sharing_L6 x1 x2 x4 ss n v6_2 v7_2
def f_SS_sharing (k : Nat) (x1 : Int32) (x2 : Int64) (x4 : Int64) (ss : SSt) : Option Int32 :=
  (f_SS_sharing_L6 x1 x2 x4 ss k 0 0).bind fun v6_1 =>
  some v6_1
set_option maxHeartbeats 4000000 in
set_option maxRecDepth 100000 in
theorem c_SS_sharing (l : Launch) (dC : Nat → ClassId) (dI : Nat → Nat → Nat) (tC : Nat → ClassId) (a : Nat → Nat) (k : Nat) (x1 : Int32) (x2 : Int64) (x4 : Int64) (ss : SSt) (res : Int32) (hf : f_SS_sharing k x1 x2 x4 ss = some res) : cx_M l y_SS_sharing w_SS_sharing { frames := 1, cells := 0, slots := 0, locals := 26 } (dC, dI) classes (tyS tC) [.ref (a 0), .int x1, .long x2, .long x4] (wSS tC a ss) (wSS tC a ss) (some (.int res)) := by
  refine cx_of (cc := b_SS_sharing) (maxL := 8) (ret := some .int) (plainFor_of_name (by decide)) rfl (Nat.le_of_ble_eq_true rfl) ?_
  intro p e s m below meth c hx hb hr hml hown hts hlocks A hA H locs ls hK hN hP hD hS hl
  have hown : s.vm.findClass R_SS = some m.cls := hown
  have hl : lv_has ls 8 [(0, .ref (a 0)), (1, .int x1), (2, .long x2), (4, .long x4)] := hl
  unfold f_SS_sharing at hf
  refine lv_iconst (v := 0) hx hb d_SS_sharing_0 (by decide) ?_
  refine lv_istore (lv' := [(6, .int 0), (0, .ref (a 0)), (1, .int x1), (2, .long x2), (4, .long x4)]) hx hb d_SS_sharing_1 hl (by decide) rfl (fun ls hl => ?_)
  refine lv_iconst (v := 0) hx hb d_SS_sharing_3 (by decide) ?_
  refine lv_istore (lv' := [(7, .int 0), (6, .int 0), (0, .ref (a 0)), (1, .int x1), (2, .long x2), (4, .long x4)]) hx hb d_SS_sharing_4 hl (by decide) rfl (fun ls hl => ?_)
  have L_6 : ∀ (n : Nat) (v6 : Int32) (v7 : Int32) (v6_1 : Int32), f_SS_sharing_L6 x1 x2 x4 ss n v6 v7 = some v6_1 → ∀ (H : Heap) (locs : List Loc) (ls : Array Slot), va_P (dC, dI) classes (wSS tC a ss) H → va_D A (wSS tC a ss) → va_S A s.heap H locs → lv_has ls 8 [(0, .ref (a 0)), (1, .int x1), (2, .long x2), (4, .long x4), (6, .int v6), (7, .int v7)] → (∀ (H : Heap) (locs : List Loc) (ls : Array Slot), va_P (dC, dI) classes (wSS tC a ss) H → va_D A (wSS tC a ss) → va_S A s.heap H locs → lv_has ls 8 [(6, .int v6_1)] → W p l e { frames := 1, cells := 0, slots := 0, locals := 26 } s m [.ref (a 0), .int x1, .long x2, .long x4].toArray below meth c H locs 0 0 (cx_Z (dC, dI) classes below [.ref (a 0), .int x1, .long x2, .long x4] s (wSS tC a ss) (some (.int res)) A) (F0 m 42 ls [])) → W p l e { frames := 1, cells := 0, slots := 0, locals := 26 } s m [.ref (a 0), .int x1, .long x2, .long x4].toArray below meth c H locs 0 0 (cx_Z (dC, dI) classes below [.ref (a 0), .int x1, .long x2, .long x4] s (wSS tC a ss) (some (.int res)) A) (F0 m 6 ls []) := by
    intro n
    induction n with
    | zero =>
      intro v6 v7 v6_1 hf
      rw [f_SS_sharing_L6] at hf
      cases hf
    | succ n ih =>
      intro v6 v7 v6_1 hf H locs ls hP hD hS hl kk
      rw [f_SS_sharing_L6] at hf
      refine lv_iload hx hb d_SS_sharing_6 (lv_at hl 5 rfl) ?_
      refine lv_aload_n hx hb d_SS_sharing_8 rfl (lv_at hl 0 rfl) ?_
      refine va_get (D := (dC, dI)) (ci := 4) (v := .int (SS_kept ss)) (C := R_SS) (T := F_SS) (N := 12) hx hb hts (in_SS _) hown hK hP 0 rfl rfl 11 (by decide) (hts _ (List.mem_cons_of_mem _ mw_102)) (fun _ h9 => h9) rfl d_SS_sharing_9 ?_
      refine lv_icmp_ge (tgt := 42) hx hb d_SS_sharing_12 (by decide) (fun cb => ?_) (fun cb => ?_)
      · have hf := g_t hf cb
        have hq0 := (g_some hf)
        subst hq0
        exact kk _ _ _ hP hD hS (lv_sub hl [4] rfl)
      · have hf := g_f hf cb
        refine lv_aload_n hx hb d_SS_sharing_15 rfl (lv_at hl 0 rfl) ?_
        refine lv_aload_n hx hb d_SS_sharing_16 rfl (lv_at hl 0 rfl) ?_
        refine va_get (D := (dC, dI)) (ci := 4) (v := .ref (a 11)) (C := R_SS) (T := F_SS) (N := 12) hx hb hts (in_SS _) hown hK hP 0 rfl rfl 10 (by decide) (hts _ (List.mem_cons_of_mem _ mw_101)) (fun _ h9 => h9) rfl d_SS_sharing_17 ?_
        refine lv_iload hx hb d_SS_sharing_20 (lv_at hl 5 rfl) ?_
        obtain ⟨ck, hf⟩ := g_ck hf
        refine va_iald (D := (dC, dI)) hx hb hK hP 11 0 rfl rfl ck d_SS_sharing_22 ?_
        refine lv_iload_n hx hb d_SS_sharing_23 rfl (lv_at hl 1 rfl) ?_
        refine lv_lload_n hx hb d_SS_sharing_24 rfl (lv_at hl 2 rfl) ?_
        refine lv_lload hx hb d_SS_sharing_25 (lv_at hl 3 rfl) ?_
        obtain ⟨r, hc, hf⟩ := g_bind hf
        try dsimp only at hf
        refine cx_callV (As := [.int (SS_order ss v7.toNatClampNeg), .int x1, .long x2, .long x4]) (rest := []) ⟨hx, hb, hml, hown, hts⟩ (c_SS_shares l dC dI tC a (SS_order ss v7.toNatClampNeg) x1 x2 x4 ss r hc) (k_SS_55 hts ⟨Nat.le_of_ble_eq_true rfl, Nat.le_of_ble_eq_true rfl⟩) hl.1 hP hD hS hA hK hN [0, 1, 2, 3, 4, 5, 6, 7, 8, 9, 10, 11] 0 4 rfl rfl rfl rfl rfl rfl rfl rfl (Nat.le_of_ble_eq_true rfl) d_SS_sharing_27 ⟨Nat.zero_le _, Nat.zero_le _⟩ (fun H locs hP hD hS => ?_)
        have hP : va_P (dC, dI) classes (wSS tC a ss) H := hP
        have hD : va_D A (wSS tC a ss) := hD
        refine W.eq (g2 := F0 m 30 ls [.int r]) rfl ?_
        refine lv_if_eq (tgt := 36) hx hb d_SS_sharing_30 (by decide) (fun cb_1 => ?_) (fun cb_1 => ?_)
        · have hf := g_t hf cb_1
          obtain ⟨v7_1, h_v7_1⟩ : ∃ z : Int32, z = v7 + 1 := ⟨_, rfl⟩
          have hf := g_let hf h_v7_1
          refine lv_iinc (v := v7_1) (lv' := [(7, .int v7_1), (0, .ref (a 0)), (1, .int x1), (2, .long x2), (4, .long x4), (6, .int v6)]) hx hb d_SS_sharing_36 hl (k := 5) rfl (by rw [h_v7_1]; rfl) (by decide) rfl (fun ls hl => ?_)
          refine lv_goto (tgt := 6) hx hb d_SS_sharing_39 (by decide) ?_
          exact ih v6 v7_1 v6_1 hf H locs ls hP hD hS (lv_sub hl [1, 2, 3, 4, 5, 0] rfl) kk
        · have hf := g_f hf cb_1
          obtain ⟨v6_2, h_v6_2⟩ : ∃ z : Int32, z = v6 + 1 := ⟨_, rfl⟩
          have hf := g_let hf h_v6_2
          refine lv_iinc (v := v6_2) (lv' := [(6, .int v6_2), (0, .ref (a 0)), (1, .int x1), (2, .long x2), (4, .long x4), (7, .int v7)]) hx hb d_SS_sharing_33 hl (k := 4) rfl (by rw [h_v6_2]; rfl) (by decide) rfl (fun ls hl => ?_)
          obtain ⟨v7_2, h_v7_2⟩ : ∃ z : Int32, z = v7 + 1 := ⟨_, rfl⟩
          have hf := g_let hf h_v7_2
          refine lv_iinc (v := v7_2) (lv' := [(7, .int v7_2), (6, .int v6_2), (0, .ref (a 0)), (1, .int x1), (2, .long x2), (4, .long x4)]) hx hb d_SS_sharing_36 hl (k := 5) rfl (by rw [h_v7_2]; rfl) (by decide) rfl (fun ls hl => ?_)
          refine lv_goto (tgt := 6) hx hb d_SS_sharing_39 (by decide) ?_
          exact ih v6_2 v7_2 v6_1 hf H locs ls hP hD hS (lv_sub hl [2, 3, 4, 5, 1, 0] rfl) kk
  obtain ⟨v6_1, hL_6, hf⟩ := g_bind hf
  try dsimp only at hf
  refine L_6 k 0 0 v6_1 hL_6 H locs ls hP hD hS (lv_sub hl [2, 3, 4, 5, 1, 0] rfl) (fun H locs ls hP hD hS hl => ?_)
  refine lv_iload hx hb d_SS_sharing_42 (lv_at hl 0 rfl) ?_
  have hq0 := (g_some hf)
  subst hq0
  exact cx_iret hx hb hr hlocks hP hS d_SS_sharing_44
def f_SS_absorb_B68 (x1 : Int32) (x2 : Int32) (ss : SSt) (ss_1 : SSt) : Option (Int32) :=
  if (SS_ended ss x1.toNatClampNeg) = 0 then (
    if (SS_ended ss_1 x2.toNatClampNeg) = 0 then (
      some 0
    ) else
    some 1
  ) else
  some 1
def f_SS_absorb_L88 (x1 : Int32) (x2 : Int32) : Nat → Int32 → SSt → Option (SSt)
  | 0, _, _ => none
  | n + 1, v3, ss_3 =>
    if 5 ≤ v3 then (
      some ss_3
    ) else
    if ((x1 * 5) + v3) < 0 ∨ 1000 ≤ ((x1 * 5) + v3).toNatClampNeg then none else
    if ((x2 * 5) + v3) < 0 ∨ 1000 ≤ ((x2 * 5) + v3).toNatClampNeg then none else
    gl_let (v3 + 1) fun v3_1 =>
    gl_let ((sSS_untold (sSS_had ss_3 (vp_updL (SS_had ss_3) ((x1 * 5) + v3).toNatClampNeg ((SS_had ss_3 ((x1 * 5) + v3).toNatClampNeg) ||| (SS_had ss_3 ((x2 * 5) + v3).toNatClampNeg)))) (vp_updL (SS_untold ss_3) ((x1 * 5) + v3).toNatClampNeg ((SS_untold ss_3 ((x1 * 5) + v3).toNatClampNeg) ||| (SS_untold ss_3 ((x2 * 5) + v3).toNatClampNeg)))) : SSt) fun ss_5 =>
    f_SS_absorb_L88 x1 x2 n v3_1 ss_5
def f_SS_absorb (k : Nat) (x1 : Int32) (x2 : Int32) (ss : SSt) : Option SSt :=
  if x1 < 0 ∨ 200 ≤ x1.toNatClampNeg then none else
  if x2 < 0 ∨ 200 ≤ x2.toNatClampNeg then none else
  gl_let ((sSS_since (sSS_fires (sSS_ends ss (vp_updL (SS_ends ss) x1.toNatClampNeg (if (SS_ends ss x2.toNatClampNeg) < (SS_ends ss x1.toNatClampNeg) then (SS_ends ss x1.toNatClampNeg) else (SS_ends ss x2.toNatClampNeg)))) (upd (SS_fires ss) x1.toNatClampNeg (if (SS_fires ss x1.toNatClampNeg) < (SS_fires ss x2.toNatClampNeg) then (SS_fires ss x2.toNatClampNeg) else (SS_fires ss x1.toNatClampNeg)))) (upd (SS_since ss) x1.toNatClampNeg ((SS_since ss x1.toNatClampNeg) + (SS_since ss x2.toNatClampNeg)))) : SSt) fun ss_1 =>
  (f_SS_absorb_B68 x1 x2 ss ss_1).bind fun t =>
  gl_let ((sSS_ended ss_1 (upd (SS_ended ss_1) x1.toNatClampNeg (vp_nar .boolean t))) : SSt) fun ss_2 =>
  (f_SS_absorb_L88 x1 x2 k 0 ss_2).bind fun ss_4 =>
  some (sSS_keys ss_4 (upd (SS_keys ss_4) x2.toNatClampNeg (-1)))
set_option maxHeartbeats 4000000 in
set_option maxRecDepth 100000 in
theorem c_SS_absorb (l : Launch) (dC : Nat → ClassId) (dI : Nat → Nat → Nat) (tC : Nat → ClassId) (a : Nat → Nat) (k : Nat) (x1 : Int32) (x2 : Int32) (ss : SSt) (ssR : SSt) (hf : f_SS_absorb k x1 x2 ss = some ssR) : cx_M l y_SS_absorb w_SS_absorb { frames := 1, cells := 0, slots := 0, locals := 24 } (dC, dI) classes (tyS tC) [.ref (a 0), .int x1, .int x2] (wSS tC a ss) (wSS tC a ssR) (none) := by
  refine cx_of (cc := b_SS_absorb) (maxL := 4) (ret := none) (plainFor_of_name (by decide)) rfl (Nat.le_of_ble_eq_true rfl) ?_
  intro p e s m below meth c hx hb hr hml hown hts hlocks A hA H locs ls hK hN hP hD hS hl
  have hown : s.vm.findClass R_SS = some m.cls := hown
  have hl : lv_has ls 4 [(0, .ref (a 0)), (1, .int x1), (2, .int x2)] := hl
  unfold f_SS_absorb at hf
  refine lv_aload_n hx hb d_SS_absorb_0 rfl (lv_at hl 0 rfl) ?_
  refine va_get (D := (dC, dI)) (ci := 4) (v := .ref (a 3)) (C := R_SS) (T := F_SS) (N := 12) hx hb hts (in_SS _) hown hK hP 0 rfl rfl 2 (by decide) (hts _ (List.mem_cons_of_mem _ mw_85)) (fun _ h9 => h9) rfl d_SS_absorb_1 ?_
  refine lv_iload_n hx hb d_SS_absorb_4 rfl (lv_at hl 1 rfl) ?_
  refine lv_aload_n hx hb d_SS_absorb_5 rfl (lv_at hl 0 rfl) ?_
  refine va_get (D := (dC, dI)) (ci := 4) (v := .ref (a 3)) (C := R_SS) (T := F_SS) (N := 12) hx hb hts (in_SS _) hown hK hP 0 rfl rfl 2 (by decide) (hts _ (List.mem_cons_of_mem _ mw_85)) (fun _ h9 => h9) rfl d_SS_absorb_6 ?_
  refine lv_iload_n hx hb d_SS_absorb_9 rfl (lv_at hl 1 rfl) ?_
  obtain ⟨ck, hf⟩ := g_ck hf
  refine va_lald (D := (dC, dI)) hx hb hK hP 3 1 rfl rfl ck d_SS_absorb_10 ?_
  refine lv_aload_n hx hb d_SS_absorb_11 rfl (lv_at hl 0 rfl) ?_
  refine va_get (D := (dC, dI)) (ci := 4) (v := .ref (a 3)) (C := R_SS) (T := F_SS) (N := 12) hx hb hts (in_SS _) hown hK hP 0 rfl rfl 2 (by decide) (hts _ (List.mem_cons_of_mem _ mw_85)) (fun _ h9 => h9) rfl d_SS_absorb_12 ?_
  refine lv_iload_n hx hb d_SS_absorb_15 rfl (lv_at hl 2 rfl) ?_
  obtain ⟨ck_1, hf⟩ := g_ck hf
  refine va_lald (D := (dC, dI)) hx hb hK hP 3 1 rfl rfl ck_1 d_SS_absorb_16 ?_
  refine va_mmax_long hx hb (by rw [hml]; exact hl.1.symm) hown (hts _ (List.mem_cons_of_mem _ mw_584)) (hts _ (List.mem_cons_of_mem _ mw_351)) (hts _ (List.mem_cons_of_mem _ mw_14)) (hts _ (List.mem_cons_of_mem _ mw_352)) (Nat.le_of_ble_eq_true rfl) (Nat.le_of_ble_eq_true rfl) (Nat.zero_le _) (Nat.zero_le _) d_SS_absorb_17 ?_
  refine va_last (D := (dC, dI)) hx hb hK hP hD hS 3 1 rfl rfl ck d_SS_absorb_20 (fun H locs hP hD hS => ?_)
  have hP : va_P (dC, dI) classes (wSS tC a (sSS_ends ss (vp_updL (SS_ends ss) x1.toNatClampNeg (if (SS_ends ss x2.toNatClampNeg) < (SS_ends ss x1.toNatClampNeg) then (SS_ends ss x1.toNatClampNeg) else (SS_ends ss x2.toNatClampNeg))))) H := hP
  have hD : va_D A (wSS tC a (sSS_ends ss (vp_updL (SS_ends ss) x1.toNatClampNeg (if (SS_ends ss x2.toNatClampNeg) < (SS_ends ss x1.toNatClampNeg) then (SS_ends ss x1.toNatClampNeg) else (SS_ends ss x2.toNatClampNeg))))) := hD
  refine lv_aload_n hx hb d_SS_absorb_21 rfl (lv_at hl 0 rfl) ?_
  refine va_get (D := (dC, dI)) (ci := 4) (v := .ref (a 4)) (C := R_SS) (T := F_SS) (N := 12) hx hb hts (in_SS _) hown hK hP 0 rfl rfl 3 (by decide) (hts _ (List.mem_cons_of_mem _ mw_87)) (fun _ h9 => h9) rfl d_SS_absorb_22 ?_
  refine lv_iload_n hx hb d_SS_absorb_25 rfl (lv_at hl 1 rfl) ?_
  refine lv_aload_n hx hb d_SS_absorb_26 rfl (lv_at hl 0 rfl) ?_
  refine va_get (D := (dC, dI)) (ci := 4) (v := .ref (a 4)) (C := R_SS) (T := F_SS) (N := 12) hx hb hts (in_SS _) hown hK hP 0 rfl rfl 3 (by decide) (hts _ (List.mem_cons_of_mem _ mw_87)) (fun _ h9 => h9) rfl d_SS_absorb_27 ?_
  refine lv_iload_n hx hb d_SS_absorb_30 rfl (lv_at hl 1 rfl) ?_
  refine va_iald (D := (dC, dI)) hx hb hK hP 4 0 rfl rfl ck d_SS_absorb_31 ?_
  refine lv_aload_n hx hb d_SS_absorb_32 rfl (lv_at hl 0 rfl) ?_
  refine va_get (D := (dC, dI)) (ci := 4) (v := .ref (a 4)) (C := R_SS) (T := F_SS) (N := 12) hx hb hts (in_SS _) hown hK hP 0 rfl rfl 3 (by decide) (hts _ (List.mem_cons_of_mem _ mw_87)) (fun _ h9 => h9) rfl d_SS_absorb_33 ?_
  refine lv_iload_n hx hb d_SS_absorb_36 rfl (lv_at hl 2 rfl) ?_
  refine va_iald (D := (dC, dI)) hx hb hK hP 4 0 rfl rfl ck_1 d_SS_absorb_37 ?_
  refine va_mmax hx hb (by rw [hml]; exact hl.1.symm) hown (hts _ (List.mem_cons_of_mem _ mw_601)) (hts _ (List.mem_cons_of_mem _ mw_602)) (hts _ (List.mem_cons_of_mem _ mw_14)) (hts _ (List.mem_cons_of_mem _ mw_603)) (Nat.le_of_ble_eq_true rfl) (Nat.le_of_ble_eq_true rfl) (Nat.zero_le _) (Nat.zero_le _) d_SS_absorb_38 ?_
  refine va_iast (D := (dC, dI)) hx hb hK hP hD hS 4 0 rfl rfl ck d_SS_absorb_41 (fun H locs hP hD hS => ?_)
  have hP : va_P (dC, dI) classes (wSS tC a (sSS_fires (sSS_ends ss (vp_updL (SS_ends ss) x1.toNatClampNeg (if (SS_ends ss x2.toNatClampNeg) < (SS_ends ss x1.toNatClampNeg) then (SS_ends ss x1.toNatClampNeg) else (SS_ends ss x2.toNatClampNeg)))) (upd (SS_fires ss) x1.toNatClampNeg (if (SS_fires ss x1.toNatClampNeg) < (SS_fires ss x2.toNatClampNeg) then (SS_fires ss x2.toNatClampNeg) else (SS_fires ss x1.toNatClampNeg))))) H := hP
  have hD : va_D A (wSS tC a (sSS_fires (sSS_ends ss (vp_updL (SS_ends ss) x1.toNatClampNeg (if (SS_ends ss x2.toNatClampNeg) < (SS_ends ss x1.toNatClampNeg) then (SS_ends ss x1.toNatClampNeg) else (SS_ends ss x2.toNatClampNeg)))) (upd (SS_fires ss) x1.toNatClampNeg (if (SS_fires ss x1.toNatClampNeg) < (SS_fires ss x2.toNatClampNeg) then (SS_fires ss x2.toNatClampNeg) else (SS_fires ss x1.toNatClampNeg))))) := hD
  refine lv_aload_n hx hb d_SS_absorb_42 rfl (lv_at hl 0 rfl) ?_
  refine va_get (D := (dC, dI)) (ci := 4) (v := .ref (a 5)) (C := R_SS) (T := F_SS) (N := 12) hx hb hts (in_SS _) hown hK hP 0 rfl rfl 4 (by decide) (hts _ (List.mem_cons_of_mem _ mw_89)) (fun _ h9 => h9) rfl d_SS_absorb_43 ?_
  refine lv_iload_n hx hb d_SS_absorb_46 rfl (lv_at hl 1 rfl) ?_
  refine lv_dup2_11 hx hb d_SS_absorb_47 rfl rfl ?_
  refine va_iald (D := (dC, dI)) hx hb hK hP 5 0 rfl rfl ck d_SS_absorb_48 ?_
  refine lv_aload_n hx hb d_SS_absorb_49 rfl (lv_at hl 0 rfl) ?_
  refine va_get (D := (dC, dI)) (ci := 4) (v := .ref (a 5)) (C := R_SS) (T := F_SS) (N := 12) hx hb hts (in_SS _) hown hK hP 0 rfl rfl 4 (by decide) (hts _ (List.mem_cons_of_mem _ mw_89)) (fun _ h9 => h9) rfl d_SS_absorb_50 ?_
  refine lv_iload_n hx hb d_SS_absorb_53 rfl (lv_at hl 2 rfl) ?_
  refine va_iald (D := (dC, dI)) hx hb hK hP 5 0 rfl rfl ck_1 d_SS_absorb_54 ?_
  refine lv_iadd hx hb d_SS_absorb_55 ?_
  refine va_iast (D := (dC, dI)) hx hb hK hP hD hS 5 0 rfl rfl ck d_SS_absorb_56 (fun H locs hP hD hS => ?_)
  have hP : va_P (dC, dI) classes (wSS tC a (sSS_since (sSS_fires (sSS_ends ss (vp_updL (SS_ends ss) x1.toNatClampNeg (if (SS_ends ss x2.toNatClampNeg) < (SS_ends ss x1.toNatClampNeg) then (SS_ends ss x1.toNatClampNeg) else (SS_ends ss x2.toNatClampNeg)))) (upd (SS_fires ss) x1.toNatClampNeg (if (SS_fires ss x1.toNatClampNeg) < (SS_fires ss x2.toNatClampNeg) then (SS_fires ss x2.toNatClampNeg) else (SS_fires ss x1.toNatClampNeg)))) (upd (SS_since ss) x1.toNatClampNeg ((SS_since ss x1.toNatClampNeg) + (SS_since ss x2.toNatClampNeg))))) H := hP
  have hD : va_D A (wSS tC a (sSS_since (sSS_fires (sSS_ends ss (vp_updL (SS_ends ss) x1.toNatClampNeg (if (SS_ends ss x2.toNatClampNeg) < (SS_ends ss x1.toNatClampNeg) then (SS_ends ss x1.toNatClampNeg) else (SS_ends ss x2.toNatClampNeg)))) (upd (SS_fires ss) x1.toNatClampNeg (if (SS_fires ss x1.toNatClampNeg) < (SS_fires ss x2.toNatClampNeg) then (SS_fires ss x2.toNatClampNeg) else (SS_fires ss x1.toNatClampNeg)))) (upd (SS_since ss) x1.toNatClampNeg ((SS_since ss x1.toNatClampNeg) + (SS_since ss x2.toNatClampNeg))))) := hD
  refine lv_aload_n hx hb d_SS_absorb_57 rfl (lv_at hl 0 rfl) ?_
  refine va_get (D := (dC, dI)) (ci := 4) (v := .ref (a 6)) (C := R_SS) (T := F_SS) (N := 12) hx hb hts (in_SS _) hown hK hP 0 rfl rfl 5 (by decide) (hts _ (List.mem_cons_of_mem _ mw_91)) (fun _ h9 => h9) rfl d_SS_absorb_58 ?_
  refine lv_iload_n hx hb d_SS_absorb_61 rfl (lv_at hl 1 rfl) ?_
  refine lv_aload_n hx hb d_SS_absorb_62 rfl (lv_at hl 0 rfl) ?_
  refine va_get (D := (dC, dI)) (ci := 4) (v := .ref (a 6)) (C := R_SS) (T := F_SS) (N := 12) hx hb hts (in_SS _) hown hK hP 0 rfl rfl 5 (by decide) (hts _ (List.mem_cons_of_mem _ mw_91)) (fun _ h9 => h9) rfl d_SS_absorb_63 ?_
  refine lv_iload_n hx hb d_SS_absorb_66 rfl (lv_at hl 1 rfl) ?_
  refine va_zald (D := (dC, dI)) hx hb hK hP 6 2 rfl rfl ck d_SS_absorb_67 ?_
  obtain ⟨ss_1, h_ss_1⟩ : ∃ z : SSt, z = (sSS_since (sSS_fires (sSS_ends ss (vp_updL (SS_ends ss) x1.toNatClampNeg (if (SS_ends ss x2.toNatClampNeg) < (SS_ends ss x1.toNatClampNeg) then (SS_ends ss x1.toNatClampNeg) else (SS_ends ss x2.toNatClampNeg)))) (upd (SS_fires ss) x1.toNatClampNeg (if (SS_fires ss x1.toNatClampNeg) < (SS_fires ss x2.toNatClampNeg) then (SS_fires ss x2.toNatClampNeg) else (SS_fires ss x1.toNatClampNeg)))) (upd (SS_since ss) x1.toNatClampNeg ((SS_since ss x1.toNatClampNeg) + (SS_since ss x2.toNatClampNeg)))) := ⟨_, rfl⟩
  have hf := g_let hf h_ss_1
  have hP : va_P (dC, dI) classes (wSS tC a ss_1) H := by rw [h_ss_1]; exact hP
  have hD : va_D A (wSS tC a ss_1) := by rw [h_ss_1]; exact hD
  obtain ⟨t, hB_85, hf⟩ := g_bind hf
  try dsimp only at hf
  have K_85 : ∀ (H : Heap) (locs : List Loc) (ls : Array Slot), va_P (dC, dI) classes (wSS tC a ss_1) H → va_D A (wSS tC a ss_1) → va_S A s.heap H locs → lv_has ls 4 [(0, .ref (a 0)), (1, .int x1), (2, .int x2)] → W p l e { frames := 1, cells := 0, slots := 0, locals := 24 } s m [.ref (a 0), .int x1, .int x2].toArray below meth c H locs 0 0 (cx_Z (dC, dI) classes below [.ref (a 0), .int x1, .int x2] s (wSS tC a ssR) (none) A) (F0 m 85 ls [.int t, .int x1, .ref (a 6)]) := by
    intro H locs ls hP hD hS hl
    refine va_zast (D := (dC, dI)) hx hb hK hP hD hS 6 2 rfl rfl ck d_SS_absorb_85 (fun H locs hP hD hS => ?_)
    have hP : va_P (dC, dI) classes (wSS tC a (sSS_ended ss_1 (upd (SS_ended ss_1) x1.toNatClampNeg (vp_nar .boolean t)))) H := hP
    have hD : va_D A (wSS tC a (sSS_ended ss_1 (upd (SS_ended ss_1) x1.toNatClampNeg (vp_nar .boolean t)))) := hD
    refine lv_iconst (v := 0) hx hb d_SS_absorb_86 (by decide) ?_
    refine lv_istore_n (lv' := [(3, .int 0), (0, .ref (a 0)), (1, .int x1), (2, .int x2)]) hx hb d_SS_absorb_87 rfl hl (by decide) rfl (fun ls hl => ?_)
    obtain ⟨ss_2, h_ss_2⟩ : ∃ z : SSt, z = (sSS_ended ss_1 (upd (SS_ended ss_1) x1.toNatClampNeg (vp_nar .boolean t))) := ⟨_, rfl⟩
    have hf := g_let hf h_ss_2
    have hP : va_P (dC, dI) classes (wSS tC a ss_2) H := by rw [h_ss_2]; exact hP
    have hD : va_D A (wSS tC a ss_2) := by rw [h_ss_2]; exact hD
    have L_88 : ∀ (n : Nat) (v3 : Int32) (ss_3 : SSt) (ss_4 : SSt), f_SS_absorb_L88 x1 x2 n v3 ss_3 = some ss_4 → ∀ (H : Heap) (locs : List Loc) (ls : Array Slot), va_P (dC, dI) classes (wSS tC a ss_3) H → va_D A (wSS tC a ss_3) → va_S A s.heap H locs → lv_has ls 4 [(0, .ref (a 0)), (1, .int x1), (2, .int x2), (3, .int v3)] → (∀ (H : Heap) (locs : List Loc) (ls : Array Slot), va_P (dC, dI) classes (wSS tC a ss_4) H → va_D A (wSS tC a ss_4) → va_S A s.heap H locs → lv_has ls 4 [(0, .ref (a 0)), (2, .int x2)] → W p l e { frames := 1, cells := 0, slots := 0, locals := 24 } s m [.ref (a 0), .int x1, .int x2].toArray below meth c H locs 0 0 (cx_Z (dC, dI) classes below [.ref (a 0), .int x1, .int x2] s (wSS tC a ssR) (none) A) (F0 m 145 ls [])) → W p l e { frames := 1, cells := 0, slots := 0, locals := 24 } s m [.ref (a 0), .int x1, .int x2].toArray below meth c H locs 0 0 (cx_Z (dC, dI) classes below [.ref (a 0), .int x1, .int x2] s (wSS tC a ssR) (none) A) (F0 m 88 ls []) := by
      intro n
      induction n with
      | zero =>
        intro v3 ss_3 ss_4 hf
        rw [f_SS_absorb_L88] at hf
        cases hf
      | succ n ih =>
        intro v3 ss_3 ss_4 hf H locs ls hP hD hS hl kk
        rw [f_SS_absorb_L88] at hf
        refine lv_iload_n hx hb d_SS_absorb_88 rfl (lv_at hl 3 rfl) ?_
        refine lv_iconst (v := 5) hx hb d_SS_absorb_89 (by decide) ?_
        refine lv_icmp_ge (tgt := 145) hx hb d_SS_absorb_90 (by decide) (fun cb_2 => ?_) (fun cb_2 => ?_)
        · have hf := g_t hf cb_2
          have hq0 := (g_some hf)
          subst hq0
          exact kk _ _ _ hP hD hS (lv_sub hl [0, 2] rfl)
        · have hf := g_f hf cb_2
          refine lv_aload_n hx hb d_SS_absorb_93 rfl (lv_at hl 0 rfl) ?_
          refine va_get (D := (dC, dI)) (ci := 4) (v := .ref (a 7)) (C := R_SS) (T := F_SS) (N := 12) hx hb hts (in_SS _) hown hK hP 0 rfl rfl 6 (by decide) (hts _ (List.mem_cons_of_mem _ mw_93)) (fun _ h9 => h9) rfl d_SS_absorb_94 ?_
          refine lv_iload_n hx hb d_SS_absorb_97 rfl (lv_at hl 1 rfl) ?_
          refine lv_iconst (v := 5) hx hb d_SS_absorb_98 (by decide) ?_
          refine lv_imul hx hb d_SS_absorb_99 ?_
          refine lv_iload_n hx hb d_SS_absorb_100 rfl (lv_at hl 3 rfl) ?_
          refine lv_iadd hx hb d_SS_absorb_101 ?_
          refine lv_dup2_11 hx hb d_SS_absorb_102 rfl rfl ?_
          obtain ⟨ck_2, hf⟩ := g_ck hf
          refine va_lald (D := (dC, dI)) hx hb hK hP 7 1 rfl rfl ck_2 d_SS_absorb_103 ?_
          refine lv_aload_n hx hb d_SS_absorb_104 rfl (lv_at hl 0 rfl) ?_
          refine va_get (D := (dC, dI)) (ci := 4) (v := .ref (a 7)) (C := R_SS) (T := F_SS) (N := 12) hx hb hts (in_SS _) hown hK hP 0 rfl rfl 6 (by decide) (hts _ (List.mem_cons_of_mem _ mw_93)) (fun _ h9 => h9) rfl d_SS_absorb_105 ?_
          refine lv_iload_n hx hb d_SS_absorb_108 rfl (lv_at hl 2 rfl) ?_
          refine lv_iconst (v := 5) hx hb d_SS_absorb_109 (by decide) ?_
          refine lv_imul hx hb d_SS_absorb_110 ?_
          refine lv_iload_n hx hb d_SS_absorb_111 rfl (lv_at hl 3 rfl) ?_
          refine lv_iadd hx hb d_SS_absorb_112 ?_
          obtain ⟨ck_3, hf⟩ := g_ck hf
          refine va_lald (D := (dC, dI)) hx hb hK hP 7 1 rfl rfl ck_3 d_SS_absorb_113 ?_
          refine lv_lor hx hb d_SS_absorb_114 ?_
          refine va_last (D := (dC, dI)) hx hb hK hP hD hS 7 1 rfl rfl ck_2 d_SS_absorb_115 (fun H locs hP hD hS => ?_)
          have hP : va_P (dC, dI) classes (wSS tC a (sSS_had ss_3 (vp_updL (SS_had ss_3) ((x1 * 5) + v3).toNatClampNeg ((SS_had ss_3 ((x1 * 5) + v3).toNatClampNeg) ||| (SS_had ss_3 ((x2 * 5) + v3).toNatClampNeg))))) H := hP
          have hD : va_D A (wSS tC a (sSS_had ss_3 (vp_updL (SS_had ss_3) ((x1 * 5) + v3).toNatClampNeg ((SS_had ss_3 ((x1 * 5) + v3).toNatClampNeg) ||| (SS_had ss_3 ((x2 * 5) + v3).toNatClampNeg))))) := hD
          refine lv_aload_n hx hb d_SS_absorb_116 rfl (lv_at hl 0 rfl) ?_
          refine va_get (D := (dC, dI)) (ci := 4) (v := .ref (a 8)) (C := R_SS) (T := F_SS) (N := 12) hx hb hts (in_SS _) hown hK hP 0 rfl rfl 7 (by decide) (hts _ (List.mem_cons_of_mem _ mw_95)) (fun _ h9 => h9) rfl d_SS_absorb_117 ?_
          refine lv_iload_n hx hb d_SS_absorb_120 rfl (lv_at hl 1 rfl) ?_
          refine lv_iconst (v := 5) hx hb d_SS_absorb_121 (by decide) ?_
          refine lv_imul hx hb d_SS_absorb_122 ?_
          refine lv_iload_n hx hb d_SS_absorb_123 rfl (lv_at hl 3 rfl) ?_
          refine lv_iadd hx hb d_SS_absorb_124 ?_
          refine lv_dup2_11 hx hb d_SS_absorb_125 rfl rfl ?_
          refine va_lald (D := (dC, dI)) hx hb hK hP 8 1 rfl rfl ck_2 d_SS_absorb_126 ?_
          refine lv_aload_n hx hb d_SS_absorb_127 rfl (lv_at hl 0 rfl) ?_
          refine va_get (D := (dC, dI)) (ci := 4) (v := .ref (a 8)) (C := R_SS) (T := F_SS) (N := 12) hx hb hts (in_SS _) hown hK hP 0 rfl rfl 7 (by decide) (hts _ (List.mem_cons_of_mem _ mw_95)) (fun _ h9 => h9) rfl d_SS_absorb_128 ?_
          refine lv_iload_n hx hb d_SS_absorb_131 rfl (lv_at hl 2 rfl) ?_
          refine lv_iconst (v := 5) hx hb d_SS_absorb_132 (by decide) ?_
          refine lv_imul hx hb d_SS_absorb_133 ?_
          refine lv_iload_n hx hb d_SS_absorb_134 rfl (lv_at hl 3 rfl) ?_
          refine lv_iadd hx hb d_SS_absorb_135 ?_
          refine va_lald (D := (dC, dI)) hx hb hK hP 8 1 rfl rfl ck_3 d_SS_absorb_136 ?_
          refine lv_lor hx hb d_SS_absorb_137 ?_
          refine va_last (D := (dC, dI)) hx hb hK hP hD hS 8 1 rfl rfl ck_2 d_SS_absorb_138 (fun H locs hP hD hS => ?_)
          have hP : va_P (dC, dI) classes (wSS tC a (sSS_untold (sSS_had ss_3 (vp_updL (SS_had ss_3) ((x1 * 5) + v3).toNatClampNeg ((SS_had ss_3 ((x1 * 5) + v3).toNatClampNeg) ||| (SS_had ss_3 ((x2 * 5) + v3).toNatClampNeg)))) (vp_updL (SS_untold ss_3) ((x1 * 5) + v3).toNatClampNeg ((SS_untold ss_3 ((x1 * 5) + v3).toNatClampNeg) ||| (SS_untold ss_3 ((x2 * 5) + v3).toNatClampNeg))))) H := hP
          have hD : va_D A (wSS tC a (sSS_untold (sSS_had ss_3 (vp_updL (SS_had ss_3) ((x1 * 5) + v3).toNatClampNeg ((SS_had ss_3 ((x1 * 5) + v3).toNatClampNeg) ||| (SS_had ss_3 ((x2 * 5) + v3).toNatClampNeg)))) (vp_updL (SS_untold ss_3) ((x1 * 5) + v3).toNatClampNeg ((SS_untold ss_3 ((x1 * 5) + v3).toNatClampNeg) ||| (SS_untold ss_3 ((x2 * 5) + v3).toNatClampNeg))))) := hD
          obtain ⟨v3_1, h_v3_1⟩ : ∃ z : Int32, z = v3 + 1 := ⟨_, rfl⟩
          have hf := g_let hf h_v3_1
          refine lv_iinc (v := v3_1) (lv' := [(3, .int v3_1), (0, .ref (a 0)), (1, .int x1), (2, .int x2)]) hx hb d_SS_absorb_139 hl (k := 3) rfl (by rw [h_v3_1]; rfl) (by decide) rfl (fun ls hl => ?_)
          refine lv_goto (tgt := 88) hx hb d_SS_absorb_142 (by decide) ?_
          obtain ⟨ss_5, h_ss_5⟩ : ∃ z : SSt, z = (sSS_untold (sSS_had ss_3 (vp_updL (SS_had ss_3) ((x1 * 5) + v3).toNatClampNeg ((SS_had ss_3 ((x1 * 5) + v3).toNatClampNeg) ||| (SS_had ss_3 ((x2 * 5) + v3).toNatClampNeg)))) (vp_updL (SS_untold ss_3) ((x1 * 5) + v3).toNatClampNeg ((SS_untold ss_3 ((x1 * 5) + v3).toNatClampNeg) ||| (SS_untold ss_3 ((x2 * 5) + v3).toNatClampNeg)))) := ⟨_, rfl⟩
          have hf := g_let hf h_ss_5
          have hP : va_P (dC, dI) classes (wSS tC a ss_5) H := by rw [h_ss_5]; exact hP
          have hD : va_D A (wSS tC a ss_5) := by rw [h_ss_5]; exact hD
          exact ih v3_1 ss_5 ss_4 hf H locs ls hP hD hS (lv_sub hl [1, 2, 3, 0] rfl) kk
    obtain ⟨ss_4, hL_88, hf⟩ := g_bind hf
    try dsimp only at hf
    refine L_88 k 0 ss_2 ss_4 hL_88 H locs ls hP hD hS (lv_sub hl [1, 2, 3, 0] rfl) (fun H locs ls hP hD hS hl => ?_)
    refine lv_aload_n hx hb d_SS_absorb_145 rfl (lv_at hl 0 rfl) ?_
    refine va_get (D := (dC, dI)) (ci := 4) (v := .ref (a 1)) (C := R_SS) (T := F_SS) (N := 12) hx hb hts (in_SS _) hown hK hP 0 rfl rfl 0 (by decide) (hts _ (List.mem_cons_of_mem _ mw_81)) (fun _ h9 => h9) rfl d_SS_absorb_146 ?_
    refine lv_iload_n hx hb d_SS_absorb_149 rfl (lv_at hl 1 rfl) ?_
    refine lv_iconst (v := (-1)) hx hb d_SS_absorb_150 (by decide) ?_
    refine va_iast (D := (dC, dI)) hx hb hK hP hD hS 1 0 rfl rfl ck_1 d_SS_absorb_151 (fun H locs hP hD hS => ?_)
    have hP : va_P (dC, dI) classes (wSS tC a (sSS_keys ss_4 (upd (SS_keys ss_4) x2.toNatClampNeg (-1)))) H := hP
    have hD : va_D A (wSS tC a (sSS_keys ss_4 (upd (SS_keys ss_4) x2.toNatClampNeg (-1)))) := hD
    have hq0 := (g_some hf)
    subst hq0
    exact cx_vret hx hb hr hlocks hP hS d_SS_absorb_152
  have hf := hB_85
  unfold f_SS_absorb_B68 at hf
  refine lv_if_ne (tgt := 80) hx hb d_SS_absorb_68 (by decide) (fun cb => ?_) (fun cb => ?_)
  · have hf := g_f hf cb
    refine lv_iconst (v := 1) hx hb d_SS_absorb_80 (by decide) ?_
    refine lv_goto (tgt := 85) hx hb d_SS_absorb_81 (by decide) ?_
    have hq0 := (g_some hf)
    subst hq0
    exact K_85 _ _ _ hP hD hS (lv_sub hl [0, 1, 2] rfl)
  · have hf := g_t hf cb
    refine lv_aload_n hx hb d_SS_absorb_71 rfl (lv_at hl 0 rfl) ?_
    refine va_get (D := (dC, dI)) (ci := 4) (v := .ref (a 6)) (C := R_SS) (T := F_SS) (N := 12) hx hb hts (in_SS _) hown hK hP 0 rfl rfl 5 (by decide) (hts _ (List.mem_cons_of_mem _ mw_91)) (fun _ h9 => h9) rfl d_SS_absorb_72 ?_
    refine lv_iload_n hx hb d_SS_absorb_75 rfl (lv_at hl 2 rfl) ?_
    refine va_zald (D := (dC, dI)) hx hb hK hP 6 2 rfl rfl ck_1 d_SS_absorb_76 ?_
    refine lv_if_eq (tgt := 84) hx hb d_SS_absorb_77 (by decide) (fun cb_1 => ?_) (fun cb_1 => ?_)
    · have hf := g_t hf cb_1
      refine lv_iconst (v := 0) hx hb d_SS_absorb_84 (by decide) ?_
      have hq0 := (g_some hf)
      subst hq0
      exact K_85 _ _ _ hP hD hS (lv_sub hl [0, 1, 2] rfl)
    · have hf := g_f hf cb_1
      refine lv_iconst (v := 1) hx hb d_SS_absorb_80 (by decide) ?_
      refine lv_goto (tgt := 85) hx hb d_SS_absorb_81 (by decide) ?_
      have hq0 := (g_some hf)
      subst hq0
      exact K_85 _ _ _ hP hD hS (lv_sub hl [0, 1, 2] rfl)
def f_SS_isBehind (x1 : Int32) (x2 : Int32) (ss : SSt) : Option Int32 :=
  if x1 < 0 ∨ 200 ≤ x1.toNatClampNeg then none else
  if x2 < 0 ∨ 200 ≤ x2.toNatClampNeg then none else
  if (SS_keys ss x1.toNatClampNeg) = (SS_keys ss x2.toNatClampNeg) then (
    if (SS_begins ss x1.toNatClampNeg) = (SS_begins ss x2.toNatClampNeg) then (
      if (SS_ends ss x1.toNatClampNeg) ≤ (SS_ends ss x2.toNatClampNeg) then (
        some 0
      ) else
      some 1
    ) else
    if (SS_begins ss x1.toNatClampNeg) ≤ (SS_begins ss x2.toNatClampNeg) then (
      some 0
    ) else
    some 1
  ) else
  if (SS_keys ss x1.toNatClampNeg) ≤ (SS_keys ss x2.toNatClampNeg) then (
    some 0
  ) else
  some 1
set_option maxHeartbeats 4000000 in
set_option maxRecDepth 100000 in
theorem c_SS_isBehind (l : Launch) (dC : Nat → ClassId) (dI : Nat → Nat → Nat) (tC : Nat → ClassId) (a : Nat → Nat) (x1 : Int32) (x2 : Int32) (ss : SSt) (res : Int32) (hf : f_SS_isBehind x1 x2 ss = some res) : cx_M l y_SS_isBehind w_SS_isBehind { frames := 0, cells := 0, slots := 0, locals := 0 } (dC, dI) classes (tyS tC) [.ref (a 0), .int x1, .int x2] (wSS tC a ss) (wSS tC a ss) (some (.int res)) := by
  refine cx_of (cc := b_SS_isBehind) (maxL := 3) (ret := some .boolean) (plainFor_of_name (by decide)) rfl (Nat.le_of_ble_eq_true rfl) ?_
  intro p e s m below meth c hx hb hr hml hown hts hlocks A hA H locs ls hK hN hP hD hS hl
  have hown : s.vm.findClass R_SS = some m.cls := hown
  have hl : lv_has ls 3 [(0, .ref (a 0)), (1, .int x1), (2, .int x2)] := hl
  unfold f_SS_isBehind at hf
  refine lv_aload_n hx hb d_SS_isBehind_0 rfl (lv_at hl 0 rfl) ?_
  refine va_get (D := (dC, dI)) (ci := 4) (v := .ref (a 1)) (C := R_SS) (T := F_SS) (N := 12) hx hb hts (in_SS _) hown hK hP 0 rfl rfl 0 (by decide) (hts _ (List.mem_cons_of_mem _ mw_81)) (fun _ h9 => h9) rfl d_SS_isBehind_1 ?_
  refine lv_iload_n hx hb d_SS_isBehind_4 rfl (lv_at hl 1 rfl) ?_
  obtain ⟨ck, hf⟩ := g_ck hf
  refine va_iald (D := (dC, dI)) hx hb hK hP 1 0 rfl rfl ck d_SS_isBehind_5 ?_
  refine lv_aload_n hx hb d_SS_isBehind_6 rfl (lv_at hl 0 rfl) ?_
  refine va_get (D := (dC, dI)) (ci := 4) (v := .ref (a 1)) (C := R_SS) (T := F_SS) (N := 12) hx hb hts (in_SS _) hown hK hP 0 rfl rfl 0 (by decide) (hts _ (List.mem_cons_of_mem _ mw_81)) (fun _ h9 => h9) rfl d_SS_isBehind_7 ?_
  refine lv_iload_n hx hb d_SS_isBehind_10 rfl (lv_at hl 2 rfl) ?_
  obtain ⟨ck_1, hf⟩ := g_ck hf
  refine va_iald (D := (dC, dI)) hx hb hK hP 1 0 rfl rfl ck_1 d_SS_isBehind_11 ?_
  refine lv_icmp_eq (tgt := 36) hx hb d_SS_isBehind_12 (by decide) (fun cb => ?_) (fun cb => ?_)
  · have hf := g_t hf cb
    refine lv_aload_n hx hb d_SS_isBehind_36 rfl (lv_at hl 0 rfl) ?_
    refine va_get (D := (dC, dI)) (ci := 4) (v := .ref (a 2)) (C := R_SS) (T := F_SS) (N := 12) hx hb hts (in_SS _) hown hK hP 0 rfl rfl 1 (by decide) (hts _ (List.mem_cons_of_mem _ mw_83)) (fun _ h9 => h9) rfl d_SS_isBehind_37 ?_
    refine lv_iload_n hx hb d_SS_isBehind_40 rfl (lv_at hl 1 rfl) ?_
    refine va_lald (D := (dC, dI)) hx hb hK hP 2 1 rfl rfl ck d_SS_isBehind_41 ?_
    refine lv_aload_n hx hb d_SS_isBehind_42 rfl (lv_at hl 0 rfl) ?_
    refine va_get (D := (dC, dI)) (ci := 4) (v := .ref (a 2)) (C := R_SS) (T := F_SS) (N := 12) hx hb hts (in_SS _) hown hK hP 0 rfl rfl 1 (by decide) (hts _ (List.mem_cons_of_mem _ mw_83)) (fun _ h9 => h9) rfl d_SS_isBehind_43 ?_
    refine lv_iload_n hx hb d_SS_isBehind_46 rfl (lv_at hl 2 rfl) ?_
    refine va_lald (D := (dC, dI)) hx hb hK hP 2 1 rfl rfl ck_1 d_SS_isBehind_47 ?_
    refine cq_eq (tgt := 76) hx hb d_SS_isBehind_48 d_SS_isBehind_49 (by decide) (fun cb_1 => ?_) (fun cb_1 => ?_)
    · have hf := g_t hf cb_1
      refine lv_aload_n hx hb d_SS_isBehind_76 rfl (lv_at hl 0 rfl) ?_
      refine va_get (D := (dC, dI)) (ci := 4) (v := .ref (a 3)) (C := R_SS) (T := F_SS) (N := 12) hx hb hts (in_SS _) hown hK hP 0 rfl rfl 2 (by decide) (hts _ (List.mem_cons_of_mem _ mw_85)) (fun _ h9 => h9) rfl d_SS_isBehind_77 ?_
      refine lv_iload_n hx hb d_SS_isBehind_80 rfl (lv_at hl 1 rfl) ?_
      refine va_lald (D := (dC, dI)) hx hb hK hP 3 1 rfl rfl ck d_SS_isBehind_81 ?_
      refine lv_aload_n hx hb d_SS_isBehind_82 rfl (lv_at hl 0 rfl) ?_
      refine va_get (D := (dC, dI)) (ci := 4) (v := .ref (a 3)) (C := R_SS) (T := F_SS) (N := 12) hx hb hts (in_SS _) hown hK hP 0 rfl rfl 2 (by decide) (hts _ (List.mem_cons_of_mem _ mw_85)) (fun _ h9 => h9) rfl d_SS_isBehind_83 ?_
      refine lv_iload_n hx hb d_SS_isBehind_86 rfl (lv_at hl 2 rfl) ?_
      refine va_lald (D := (dC, dI)) hx hb hK hP 3 1 rfl rfl ck_1 d_SS_isBehind_87 ?_
      refine cq_le (tgt := 96) hx hb d_SS_isBehind_88 d_SS_isBehind_89 (by decide) (fun cb_2 => ?_) (fun cb_2 => ?_)
      · have hf := g_t hf cb_2
        refine lv_iconst (v := 0) hx hb d_SS_isBehind_96 (by decide) ?_
        have hq0 := (g_some hf)
        subst hq0
        exact cx_zret hx hb hr hlocks rfl hP hS d_SS_isBehind_97
      · have hf := g_f hf cb_2
        refine lv_iconst (v := 1) hx hb d_SS_isBehind_92 (by decide) ?_
        refine lv_goto (tgt := 97) hx hb d_SS_isBehind_93 (by decide) ?_
        have hq0 := (g_some hf)
        subst hq0
        exact cx_zret hx hb hr hlocks rfl hP hS d_SS_isBehind_97
    · have hf := g_f hf cb_1
      refine lv_aload_n hx hb d_SS_isBehind_52 rfl (lv_at hl 0 rfl) ?_
      refine va_get (D := (dC, dI)) (ci := 4) (v := .ref (a 2)) (C := R_SS) (T := F_SS) (N := 12) hx hb hts (in_SS _) hown hK hP 0 rfl rfl 1 (by decide) (hts _ (List.mem_cons_of_mem _ mw_83)) (fun _ h9 => h9) rfl d_SS_isBehind_53 ?_
      refine lv_iload_n hx hb d_SS_isBehind_56 rfl (lv_at hl 1 rfl) ?_
      refine va_lald (D := (dC, dI)) hx hb hK hP 2 1 rfl rfl ck d_SS_isBehind_57 ?_
      refine lv_aload_n hx hb d_SS_isBehind_58 rfl (lv_at hl 0 rfl) ?_
      refine va_get (D := (dC, dI)) (ci := 4) (v := .ref (a 2)) (C := R_SS) (T := F_SS) (N := 12) hx hb hts (in_SS _) hown hK hP 0 rfl rfl 1 (by decide) (hts _ (List.mem_cons_of_mem _ mw_83)) (fun _ h9 => h9) rfl d_SS_isBehind_59 ?_
      refine lv_iload_n hx hb d_SS_isBehind_62 rfl (lv_at hl 2 rfl) ?_
      refine va_lald (D := (dC, dI)) hx hb hK hP 2 1 rfl rfl ck_1 d_SS_isBehind_63 ?_
      refine cq_le (tgt := 72) hx hb d_SS_isBehind_64 d_SS_isBehind_65 (by decide) (fun cb_3 => ?_) (fun cb_3 => ?_)
      · have hf := g_t hf cb_3
        refine lv_iconst (v := 0) hx hb d_SS_isBehind_72 (by decide) ?_
        refine lv_goto (tgt := 97) hx hb d_SS_isBehind_73 (by decide) ?_
        have hq0 := (g_some hf)
        subst hq0
        exact cx_zret hx hb hr hlocks rfl hP hS d_SS_isBehind_97
      · have hf := g_f hf cb_3
        refine lv_iconst (v := 1) hx hb d_SS_isBehind_68 (by decide) ?_
        refine lv_goto (tgt := 97) hx hb d_SS_isBehind_69 (by decide) ?_
        have hq0 := (g_some hf)
        subst hq0
        exact cx_zret hx hb hr hlocks rfl hP hS d_SS_isBehind_97
  · have hf := g_f hf cb
    refine lv_aload_n hx hb d_SS_isBehind_15 rfl (lv_at hl 0 rfl) ?_
    refine va_get (D := (dC, dI)) (ci := 4) (v := .ref (a 1)) (C := R_SS) (T := F_SS) (N := 12) hx hb hts (in_SS _) hown hK hP 0 rfl rfl 0 (by decide) (hts _ (List.mem_cons_of_mem _ mw_81)) (fun _ h9 => h9) rfl d_SS_isBehind_16 ?_
    refine lv_iload_n hx hb d_SS_isBehind_19 rfl (lv_at hl 1 rfl) ?_
    refine va_iald (D := (dC, dI)) hx hb hK hP 1 0 rfl rfl ck d_SS_isBehind_20 ?_
    refine lv_aload_n hx hb d_SS_isBehind_21 rfl (lv_at hl 0 rfl) ?_
    refine va_get (D := (dC, dI)) (ci := 4) (v := .ref (a 1)) (C := R_SS) (T := F_SS) (N := 12) hx hb hts (in_SS _) hown hK hP 0 rfl rfl 0 (by decide) (hts _ (List.mem_cons_of_mem _ mw_81)) (fun _ h9 => h9) rfl d_SS_isBehind_22 ?_
    refine lv_iload_n hx hb d_SS_isBehind_25 rfl (lv_at hl 2 rfl) ?_
    refine va_iald (D := (dC, dI)) hx hb hK hP 1 0 rfl rfl ck_1 d_SS_isBehind_26 ?_
    refine lv_icmp_le (tgt := 34) hx hb d_SS_isBehind_27 (by decide) (fun cb_4 => ?_) (fun cb_4 => ?_)
    · have hf := g_t hf cb_4
      refine lv_iconst (v := 0) hx hb d_SS_isBehind_34 (by decide) ?_
      have hq0 := (g_some hf)
      subst hq0
      exact cx_zret hx hb hr hlocks rfl hP hS d_SS_isBehind_35
    · have hf := g_f hf cb_4
      refine lv_iconst (v := 1) hx hb d_SS_isBehind_30 (by decide) ?_
      refine lv_goto (tgt := 35) hx hb d_SS_isBehind_31 (by decide) ?_
      have hq0 := (g_some hf)
      subst hq0
      exact cx_zret hx hb hr hlocks rfl hP hS d_SS_isBehind_35
def f_SS_add_L66 (v6 : Int32) : Nat → Int32 → SSt → Option (SSt)
  | 0, _, _ => none
  | n + 1, v7_1, ss_2 =>
    if ((v6 * 5) + 5) ≤ v7_1 then (
      some ss_2
    ) else
    if v7_1 < 0 ∨ 1000 ≤ v7_1.toNatClampNeg then none else
    gl_let (v7_1 + 1) fun v7_2 =>
    gl_let ((sSS_untold (sSS_had ss_2 (vp_updL (SS_had ss_2) v7_1.toNatClampNeg 0)) (vp_updL (SS_untold ss_2) v7_1.toNatClampNeg 0)) : SSt) fun ss_4 =>
    f_SS_add_L66 v6 n v7_2 ss_4
def f_SS_add_L105 (v6 : Int32) : Nat → Int32 → SSt → Option (Int32 × SSt)
  | 0, _, _ => none
  | n + 1, v7_4, ss_5 =>
    if v7_4 ≤ 0 then (
      some (v7_4, ss_5)
    ) else
    if (v7_4 - 1) < 0 ∨ 200 ≤ (v7_4 - 1).toNatClampNeg then none else
    (f_SS_isBehind (SS_order ss_5 (v7_4 - 1).toNatClampNeg) v6 ss_5).bind fun r =>
    if r = 0 then (
      some (v7_4, ss_5)
    ) else
    if v7_4 < 0 ∨ 200 ≤ v7_4.toNatClampNeg then none else
    gl_let (v7_4 + (-1)) fun v7_6 =>
    gl_let ((sSS_order ss_5 (upd (SS_order ss_5) v7_4.toNatClampNeg (SS_order ss_5 (v7_4 - 1).toNatClampNeg))) : SSt) fun ss_7 =>
    f_SS_add_L105 v6 n v7_6 ss_7
def f_SS_add (k : Nat) (x1 : Int32) (x2 : Int64) (x4 : Int64) (ss : SSt) : Option (Int32 × SSt) :=
  if (SS_kept ss) < 0 ∨ 200 ≤ (SS_kept ss).toNatClampNeg then none else
  gl_let ((SS_order ss (SS_kept ss).toNatClampNeg)) fun v6 =>
  if v6 < 0 ∨ 200 ≤ v6.toNatClampNeg then none else
  gl_let ((v6 * 5)) fun v7 =>
  gl_let ((sSS_ended (sSS_since (sSS_fires (sSS_ends (sSS_begins (sSS_keys ss (upd (SS_keys ss) v6.toNatClampNeg x1)) (vp_updL (SS_begins ss) v6.toNatClampNeg x2)) (vp_updL (SS_ends ss) v6.toNatClampNeg x4)) (upd (SS_fires ss) v6.toNatClampNeg 0)) (upd (SS_since ss) v6.toNatClampNeg 0)) (upd (SS_ended ss) v6.toNatClampNeg 0)) : SSt) fun ss_1 =>
  (f_SS_add_L66 v6 k v7 ss_1).bind fun ss_3 =>
  gl_let ((SS_kept ss_3)) fun v7_3 =>
  (f_SS_add_L105 v6 k v7_3 ss_3).bind fun (v7_5, ss_6) =>
  if v7_5 < 0 ∨ 200 ≤ v7_5.toNatClampNeg then none else
  some (v6, (sSS_kept (sSS_order ss_6 (upd (SS_order ss_6) v7_5.toNatClampNeg v6)) ((SS_kept ss_6) + 1)))
set_option maxHeartbeats 4000000 in
set_option maxRecDepth 100000 in
theorem c_SS_add (l : Launch) (dC : Nat → ClassId) (dI : Nat → Nat → Nat) (tC : Nat → ClassId) (a : Nat → Nat) (k : Nat) (x1 : Int32) (x2 : Int64) (x4 : Int64) (ss : SSt) (res : Int32) (ssR : SSt) (hf : f_SS_add k x1 x2 x4 ss = some (res, ssR)) : cx_M l y_SS_add w_SS_add { frames := 1, cells := 0, slots := 0, locals := 22 } (dC, dI) classes (tyS tC) [.ref (a 0), .int x1, .long x2, .long x4] (wSS tC a ss) (wSS tC a ssR) (some (.int res)) := by
  refine cx_of (cc := b_SS_add) (maxL := 8) (ret := some .int) (plainFor_of_name (by decide)) rfl (Nat.le_of_ble_eq_true rfl) ?_
  intro p e s m below meth c hx hb hr hml hown hts hlocks A hA H locs ls hK hN hP hD hS hl
  have hown : s.vm.findClass R_SS = some m.cls := hown
  have hl : lv_has ls 8 [(0, .ref (a 0)), (1, .int x1), (2, .long x2), (4, .long x4)] := hl
  unfold f_SS_add at hf
  refine lv_aload_n hx hb d_SS_add_0 rfl (lv_at hl 0 rfl) ?_
  refine va_get (D := (dC, dI)) (ci := 4) (v := .ref (a 11)) (C := R_SS) (T := F_SS) (N := 12) hx hb hts (in_SS _) hown hK hP 0 rfl rfl 10 (by decide) (hts _ (List.mem_cons_of_mem _ mw_101)) (fun _ h9 => h9) rfl d_SS_add_1 ?_
  refine lv_aload_n hx hb d_SS_add_4 rfl (lv_at hl 0 rfl) ?_
  refine va_get (D := (dC, dI)) (ci := 4) (v := .int (SS_kept ss)) (C := R_SS) (T := F_SS) (N := 12) hx hb hts (in_SS _) hown hK hP 0 rfl rfl 11 (by decide) (hts _ (List.mem_cons_of_mem _ mw_102)) (fun _ h9 => h9) rfl d_SS_add_5 ?_
  obtain ⟨ck, hf⟩ := g_ck hf
  refine va_iald (D := (dC, dI)) hx hb hK hP 11 0 rfl rfl ck d_SS_add_8 ?_
  refine lv_topi (fun v6 h_v6 => ?_)
  have hf := g_let hf h_v6
  refine lv_istore (lv' := [(6, .int v6), (0, .ref (a 0)), (1, .int x1), (2, .long x2), (4, .long x4)]) hx hb d_SS_add_9 hl (by decide) rfl (fun ls hl => ?_)
  refine lv_aload_n hx hb d_SS_add_11 rfl (lv_at hl 1 rfl) ?_
  refine va_get (D := (dC, dI)) (ci := 4) (v := .ref (a 1)) (C := R_SS) (T := F_SS) (N := 12) hx hb hts (in_SS _) hown hK hP 0 rfl rfl 0 (by decide) (hts _ (List.mem_cons_of_mem _ mw_81)) (fun _ h9 => h9) rfl d_SS_add_12 ?_
  refine lv_iload hx hb d_SS_add_15 (lv_at hl 0 rfl) ?_
  refine lv_iload_n hx hb d_SS_add_17 rfl (lv_at hl 2 rfl) ?_
  obtain ⟨ck_1, hf⟩ := g_ck hf
  refine va_iast (D := (dC, dI)) hx hb hK hP hD hS 1 0 rfl rfl ck_1 d_SS_add_18 (fun H locs hP hD hS => ?_)
  have hP : va_P (dC, dI) classes (wSS tC a (sSS_keys ss (upd (SS_keys ss) v6.toNatClampNeg x1))) H := hP
  have hD : va_D A (wSS tC a (sSS_keys ss (upd (SS_keys ss) v6.toNatClampNeg x1))) := hD
  refine lv_aload_n hx hb d_SS_add_19 rfl (lv_at hl 1 rfl) ?_
  refine va_get (D := (dC, dI)) (ci := 4) (v := .ref (a 2)) (C := R_SS) (T := F_SS) (N := 12) hx hb hts (in_SS _) hown hK hP 0 rfl rfl 1 (by decide) (hts _ (List.mem_cons_of_mem _ mw_83)) (fun _ h9 => h9) rfl d_SS_add_20 ?_
  refine lv_iload hx hb d_SS_add_23 (lv_at hl 0 rfl) ?_
  refine lv_lload_n hx hb d_SS_add_25 rfl (lv_at hl 3 rfl) ?_
  refine va_last (D := (dC, dI)) hx hb hK hP hD hS 2 1 rfl rfl ck_1 d_SS_add_26 (fun H locs hP hD hS => ?_)
  have hP : va_P (dC, dI) classes (wSS tC a (sSS_begins (sSS_keys ss (upd (SS_keys ss) v6.toNatClampNeg x1)) (vp_updL (SS_begins ss) v6.toNatClampNeg x2))) H := hP
  have hD : va_D A (wSS tC a (sSS_begins (sSS_keys ss (upd (SS_keys ss) v6.toNatClampNeg x1)) (vp_updL (SS_begins ss) v6.toNatClampNeg x2))) := hD
  refine lv_aload_n hx hb d_SS_add_27 rfl (lv_at hl 1 rfl) ?_
  refine va_get (D := (dC, dI)) (ci := 4) (v := .ref (a 3)) (C := R_SS) (T := F_SS) (N := 12) hx hb hts (in_SS _) hown hK hP 0 rfl rfl 2 (by decide) (hts _ (List.mem_cons_of_mem _ mw_85)) (fun _ h9 => h9) rfl d_SS_add_28 ?_
  refine lv_iload hx hb d_SS_add_31 (lv_at hl 0 rfl) ?_
  refine lv_lload hx hb d_SS_add_33 (lv_at hl 4 rfl) ?_
  refine va_last (D := (dC, dI)) hx hb hK hP hD hS 3 1 rfl rfl ck_1 d_SS_add_35 (fun H locs hP hD hS => ?_)
  have hP : va_P (dC, dI) classes (wSS tC a (sSS_ends (sSS_begins (sSS_keys ss (upd (SS_keys ss) v6.toNatClampNeg x1)) (vp_updL (SS_begins ss) v6.toNatClampNeg x2)) (vp_updL (SS_ends ss) v6.toNatClampNeg x4))) H := hP
  have hD : va_D A (wSS tC a (sSS_ends (sSS_begins (sSS_keys ss (upd (SS_keys ss) v6.toNatClampNeg x1)) (vp_updL (SS_begins ss) v6.toNatClampNeg x2)) (vp_updL (SS_ends ss) v6.toNatClampNeg x4))) := hD
  refine lv_aload_n hx hb d_SS_add_36 rfl (lv_at hl 1 rfl) ?_
  refine va_get (D := (dC, dI)) (ci := 4) (v := .ref (a 4)) (C := R_SS) (T := F_SS) (N := 12) hx hb hts (in_SS _) hown hK hP 0 rfl rfl 3 (by decide) (hts _ (List.mem_cons_of_mem _ mw_87)) (fun _ h9 => h9) rfl d_SS_add_37 ?_
  refine lv_iload hx hb d_SS_add_40 (lv_at hl 0 rfl) ?_
  refine lv_iconst (v := 0) hx hb d_SS_add_42 (by decide) ?_
  refine va_iast (D := (dC, dI)) hx hb hK hP hD hS 4 0 rfl rfl ck_1 d_SS_add_43 (fun H locs hP hD hS => ?_)
  have hP : va_P (dC, dI) classes (wSS tC a (sSS_fires (sSS_ends (sSS_begins (sSS_keys ss (upd (SS_keys ss) v6.toNatClampNeg x1)) (vp_updL (SS_begins ss) v6.toNatClampNeg x2)) (vp_updL (SS_ends ss) v6.toNatClampNeg x4)) (upd (SS_fires ss) v6.toNatClampNeg 0))) H := hP
  have hD : va_D A (wSS tC a (sSS_fires (sSS_ends (sSS_begins (sSS_keys ss (upd (SS_keys ss) v6.toNatClampNeg x1)) (vp_updL (SS_begins ss) v6.toNatClampNeg x2)) (vp_updL (SS_ends ss) v6.toNatClampNeg x4)) (upd (SS_fires ss) v6.toNatClampNeg 0))) := hD
  refine lv_aload_n hx hb d_SS_add_44 rfl (lv_at hl 1 rfl) ?_
  refine va_get (D := (dC, dI)) (ci := 4) (v := .ref (a 5)) (C := R_SS) (T := F_SS) (N := 12) hx hb hts (in_SS _) hown hK hP 0 rfl rfl 4 (by decide) (hts _ (List.mem_cons_of_mem _ mw_89)) (fun _ h9 => h9) rfl d_SS_add_45 ?_
  refine lv_iload hx hb d_SS_add_48 (lv_at hl 0 rfl) ?_
  refine lv_iconst (v := 0) hx hb d_SS_add_50 (by decide) ?_
  refine va_iast (D := (dC, dI)) hx hb hK hP hD hS 5 0 rfl rfl ck_1 d_SS_add_51 (fun H locs hP hD hS => ?_)
  have hP : va_P (dC, dI) classes (wSS tC a (sSS_since (sSS_fires (sSS_ends (sSS_begins (sSS_keys ss (upd (SS_keys ss) v6.toNatClampNeg x1)) (vp_updL (SS_begins ss) v6.toNatClampNeg x2)) (vp_updL (SS_ends ss) v6.toNatClampNeg x4)) (upd (SS_fires ss) v6.toNatClampNeg 0)) (upd (SS_since ss) v6.toNatClampNeg 0))) H := hP
  have hD : va_D A (wSS tC a (sSS_since (sSS_fires (sSS_ends (sSS_begins (sSS_keys ss (upd (SS_keys ss) v6.toNatClampNeg x1)) (vp_updL (SS_begins ss) v6.toNatClampNeg x2)) (vp_updL (SS_ends ss) v6.toNatClampNeg x4)) (upd (SS_fires ss) v6.toNatClampNeg 0)) (upd (SS_since ss) v6.toNatClampNeg 0))) := hD
  refine lv_aload_n hx hb d_SS_add_52 rfl (lv_at hl 1 rfl) ?_
  refine va_get (D := (dC, dI)) (ci := 4) (v := .ref (a 6)) (C := R_SS) (T := F_SS) (N := 12) hx hb hts (in_SS _) hown hK hP 0 rfl rfl 5 (by decide) (hts _ (List.mem_cons_of_mem _ mw_91)) (fun _ h9 => h9) rfl d_SS_add_53 ?_
  refine lv_iload hx hb d_SS_add_56 (lv_at hl 0 rfl) ?_
  refine lv_iconst (v := 0) hx hb d_SS_add_58 (by decide) ?_
  refine va_zast (D := (dC, dI)) hx hb hK hP hD hS 6 2 rfl rfl ck_1 d_SS_add_59 (fun H locs hP hD hS => ?_)
  have hP : va_P (dC, dI) classes (wSS tC a (sSS_ended (sSS_since (sSS_fires (sSS_ends (sSS_begins (sSS_keys ss (upd (SS_keys ss) v6.toNatClampNeg x1)) (vp_updL (SS_begins ss) v6.toNatClampNeg x2)) (vp_updL (SS_ends ss) v6.toNatClampNeg x4)) (upd (SS_fires ss) v6.toNatClampNeg 0)) (upd (SS_since ss) v6.toNatClampNeg 0)) (upd (SS_ended ss) v6.toNatClampNeg 0))) H := hP
  have hD : va_D A (wSS tC a (sSS_ended (sSS_since (sSS_fires (sSS_ends (sSS_begins (sSS_keys ss (upd (SS_keys ss) v6.toNatClampNeg x1)) (vp_updL (SS_begins ss) v6.toNatClampNeg x2)) (vp_updL (SS_ends ss) v6.toNatClampNeg x4)) (upd (SS_fires ss) v6.toNatClampNeg 0)) (upd (SS_since ss) v6.toNatClampNeg 0)) (upd (SS_ended ss) v6.toNatClampNeg 0))) := hD
  refine lv_iload hx hb d_SS_add_60 (lv_at hl 0 rfl) ?_
  refine lv_iconst (v := 5) hx hb d_SS_add_62 (by decide) ?_
  refine lv_imul hx hb d_SS_add_63 ?_
  refine lv_topi (fun v7 h_v7 => ?_)
  have hf := g_let hf h_v7
  refine lv_istore (lv' := [(7, .int v7), (6, .int v6), (0, .ref (a 0)), (1, .int x1), (2, .long x2), (4, .long x4)]) hx hb d_SS_add_64 hl (by decide) rfl (fun ls hl => ?_)
  obtain ⟨ss_1, h_ss_1⟩ : ∃ z : SSt, z = (sSS_ended (sSS_since (sSS_fires (sSS_ends (sSS_begins (sSS_keys ss (upd (SS_keys ss) v6.toNatClampNeg x1)) (vp_updL (SS_begins ss) v6.toNatClampNeg x2)) (vp_updL (SS_ends ss) v6.toNatClampNeg x4)) (upd (SS_fires ss) v6.toNatClampNeg 0)) (upd (SS_since ss) v6.toNatClampNeg 0)) (upd (SS_ended ss) v6.toNatClampNeg 0)) := ⟨_, rfl⟩
  have hf := g_let hf h_ss_1
  have hP : va_P (dC, dI) classes (wSS tC a ss_1) H := by rw [h_ss_1]; exact hP
  have hD : va_D A (wSS tC a ss_1) := by rw [h_ss_1]; exact hD
  have L_66 : ∀ (n : Nat) (v7_1 : Int32) (ss_2 : SSt) (ss_3 : SSt), f_SS_add_L66 v6 n v7_1 ss_2 = some ss_3 → ∀ (H : Heap) (locs : List Loc) (ls : Array Slot), va_P (dC, dI) classes (wSS tC a ss_2) H → va_D A (wSS tC a ss_2) → va_S A s.heap H locs → lv_has ls 8 [(0, .ref (a 0)), (6, .int v6), (7, .int v7_1)] → (∀ (H : Heap) (locs : List Loc) (ls : Array Slot), va_P (dC, dI) classes (wSS tC a ss_3) H → va_D A (wSS tC a ss_3) → va_S A s.heap H locs → lv_has ls 8 [(0, .ref (a 0)), (6, .int v6)] → W p l e { frames := 1, cells := 0, slots := 0, locals := 22 } s m [.ref (a 0), .int x1, .long x2, .long x4].toArray below meth c H locs 0 0 (cx_Z (dC, dI) classes below [.ref (a 0), .int x1, .long x2, .long x4] s (wSS tC a ssR) (some (.int res)) A) (F0 m 99 ls [])) → W p l e { frames := 1, cells := 0, slots := 0, locals := 22 } s m [.ref (a 0), .int x1, .long x2, .long x4].toArray below meth c H locs 0 0 (cx_Z (dC, dI) classes below [.ref (a 0), .int x1, .long x2, .long x4] s (wSS tC a ssR) (some (.int res)) A) (F0 m 66 ls []) := by
    intro n
    induction n with
    | zero =>
      intro v7_1 ss_2 ss_3 hf
      rw [f_SS_add_L66] at hf
      cases hf
    | succ n ih =>
      intro v7_1 ss_2 ss_3 hf H locs ls hP hD hS hl kk
      rw [f_SS_add_L66] at hf
      refine lv_iload hx hb d_SS_add_66 (lv_at hl 2 rfl) ?_
      refine lv_iload hx hb d_SS_add_68 (lv_at hl 1 rfl) ?_
      refine lv_iconst (v := 5) hx hb d_SS_add_70 (by decide) ?_
      refine lv_imul hx hb d_SS_add_71 ?_
      refine lv_iconst (v := 5) hx hb d_SS_add_72 (by decide) ?_
      refine lv_iadd hx hb d_SS_add_73 ?_
      refine lv_icmp_ge (tgt := 99) hx hb d_SS_add_74 (by decide) (fun cb => ?_) (fun cb => ?_)
      · have hf := g_t hf cb
        have hq0 := (g_some hf)
        subst hq0
        exact kk _ _ _ hP hD hS (lv_sub hl [0, 1] rfl)
      · have hf := g_f hf cb
        refine lv_aload_n hx hb d_SS_add_77 rfl (lv_at hl 0 rfl) ?_
        refine va_get (D := (dC, dI)) (ci := 4) (v := .ref (a 7)) (C := R_SS) (T := F_SS) (N := 12) hx hb hts (in_SS _) hown hK hP 0 rfl rfl 6 (by decide) (hts _ (List.mem_cons_of_mem _ mw_93)) (fun _ h9 => h9) rfl d_SS_add_78 ?_
        refine lv_iload hx hb d_SS_add_81 (lv_at hl 2 rfl) ?_
        refine lv_lconst (v := 0) hx hb d_SS_add_83 (by decide) ?_
        obtain ⟨ck_2, hf⟩ := g_ck hf
        refine va_last (D := (dC, dI)) hx hb hK hP hD hS 7 1 rfl rfl ck_2 d_SS_add_84 (fun H locs hP hD hS => ?_)
        have hP : va_P (dC, dI) classes (wSS tC a (sSS_had ss_2 (vp_updL (SS_had ss_2) v7_1.toNatClampNeg 0))) H := hP
        have hD : va_D A (wSS tC a (sSS_had ss_2 (vp_updL (SS_had ss_2) v7_1.toNatClampNeg 0))) := hD
        refine lv_aload_n hx hb d_SS_add_85 rfl (lv_at hl 0 rfl) ?_
        refine va_get (D := (dC, dI)) (ci := 4) (v := .ref (a 8)) (C := R_SS) (T := F_SS) (N := 12) hx hb hts (in_SS _) hown hK hP 0 rfl rfl 7 (by decide) (hts _ (List.mem_cons_of_mem _ mw_95)) (fun _ h9 => h9) rfl d_SS_add_86 ?_
        refine lv_iload hx hb d_SS_add_89 (lv_at hl 2 rfl) ?_
        refine lv_lconst (v := 0) hx hb d_SS_add_91 (by decide) ?_
        refine va_last (D := (dC, dI)) hx hb hK hP hD hS 8 1 rfl rfl ck_2 d_SS_add_92 (fun H locs hP hD hS => ?_)
        have hP : va_P (dC, dI) classes (wSS tC a (sSS_untold (sSS_had ss_2 (vp_updL (SS_had ss_2) v7_1.toNatClampNeg 0)) (vp_updL (SS_untold ss_2) v7_1.toNatClampNeg 0))) H := hP
        have hD : va_D A (wSS tC a (sSS_untold (sSS_had ss_2 (vp_updL (SS_had ss_2) v7_1.toNatClampNeg 0)) (vp_updL (SS_untold ss_2) v7_1.toNatClampNeg 0))) := hD
        obtain ⟨v7_2, h_v7_2⟩ : ∃ z : Int32, z = v7_1 + 1 := ⟨_, rfl⟩
        have hf := g_let hf h_v7_2
        refine lv_iinc (v := v7_2) (lv' := [(7, .int v7_2), (0, .ref (a 0)), (6, .int v6)]) hx hb d_SS_add_93 hl (k := 2) rfl (by rw [h_v7_2]; rfl) (by decide) rfl (fun ls hl => ?_)
        refine lv_goto (tgt := 66) hx hb d_SS_add_96 (by decide) ?_
        obtain ⟨ss_4, h_ss_4⟩ : ∃ z : SSt, z = (sSS_untold (sSS_had ss_2 (vp_updL (SS_had ss_2) v7_1.toNatClampNeg 0)) (vp_updL (SS_untold ss_2) v7_1.toNatClampNeg 0)) := ⟨_, rfl⟩
        have hf := g_let hf h_ss_4
        have hP : va_P (dC, dI) classes (wSS tC a ss_4) H := by rw [h_ss_4]; exact hP
        have hD : va_D A (wSS tC a ss_4) := by rw [h_ss_4]; exact hD
        exact ih v7_2 ss_4 ss_3 hf H locs ls hP hD hS (lv_sub hl [1, 2, 0] rfl) kk
  obtain ⟨ss_3, hL_66, hf⟩ := g_bind hf
  try dsimp only at hf
  refine L_66 k v7 ss_1 ss_3 hL_66 H locs ls hP hD hS (lv_sub hl [2, 1, 0] rfl) (fun H locs ls hP hD hS hl => ?_)
  refine lv_aload_n hx hb d_SS_add_99 rfl (lv_at hl 0 rfl) ?_
  refine va_get (D := (dC, dI)) (ci := 4) (v := .int (SS_kept ss_3)) (C := R_SS) (T := F_SS) (N := 12) hx hb hts (in_SS _) hown hK hP 0 rfl rfl 11 (by decide) (hts _ (List.mem_cons_of_mem _ mw_102)) (fun _ h9 => h9) rfl d_SS_add_100 ?_
  refine lv_topi (fun v7_3 h_v7_3 => ?_)
  have hf := g_let hf h_v7_3
  refine lv_istore (lv' := [(7, .int v7_3), (0, .ref (a 0)), (6, .int v6)]) hx hb d_SS_add_103 hl (by decide) rfl (fun ls hl => ?_)
  have L_105 : ∀ (n : Nat) (v7_4 : Int32) (ss_5 : SSt) (v7_5 : Int32) (ss_6 : SSt), f_SS_add_L105 v6 n v7_4 ss_5 = some (v7_5, ss_6) → ∀ (H : Heap) (locs : List Loc) (ls : Array Slot), va_P (dC, dI) classes (wSS tC a ss_5) H → va_D A (wSS tC a ss_5) → va_S A s.heap H locs → lv_has ls 8 [(0, .ref (a 0)), (6, .int v6), (7, .int v7_4)] → (∀ (H : Heap) (locs : List Loc) (ls : Array Slot), va_P (dC, dI) classes (wSS tC a ss_6) H → va_D A (wSS tC a ss_6) → va_S A s.heap H locs → lv_has ls 8 [(0, .ref (a 0)), (6, .int v6), (7, .int v7_5)] → W p l e { frames := 1, cells := 0, slots := 0, locals := 22 } s m [.ref (a 0), .int x1, .long x2, .long x4].toArray below meth c H locs 0 0 (cx_Z (dC, dI) classes below [.ref (a 0), .int x1, .long x2, .long x4] s (wSS tC a ssR) (some (.int res)) A) (F0 m 150 ls [])) → W p l e { frames := 1, cells := 0, slots := 0, locals := 22 } s m [.ref (a 0), .int x1, .long x2, .long x4].toArray below meth c H locs 0 0 (cx_Z (dC, dI) classes below [.ref (a 0), .int x1, .long x2, .long x4] s (wSS tC a ssR) (some (.int res)) A) (F0 m 105 ls []) := by
    intro n
    induction n with
    | zero =>
      intro v7_4 ss_5 v7_5 ss_6 hf
      rw [f_SS_add_L105] at hf
      cases hf
    | succ n ih =>
      intro v7_4 ss_5 v7_5 ss_6 hf H locs ls hP hD hS hl kk
      rw [f_SS_add_L105] at hf
      refine lv_iload hx hb d_SS_add_105 (lv_at hl 2 rfl) ?_
      refine lv_if_le (tgt := 150) hx hb d_SS_add_107 (by decide) (fun cb_1 => ?_) (fun cb_1 => ?_)
      · have hf := g_t hf cb_1
        obtain ⟨hq0, hr1⟩ := Prod.mk.inj (g_some hf)
        subst hq0
        subst hr1
        exact kk _ _ _ hP hD hS (lv_sub hl [0, 1, 2] rfl)
      · have hf := g_f hf cb_1
        refine lv_aload_n hx hb d_SS_add_110 rfl (lv_at hl 0 rfl) ?_
        refine lv_aload_n hx hb d_SS_add_111 rfl (lv_at hl 0 rfl) ?_
        refine va_get (D := (dC, dI)) (ci := 4) (v := .ref (a 11)) (C := R_SS) (T := F_SS) (N := 12) hx hb hts (in_SS _) hown hK hP 0 rfl rfl 10 (by decide) (hts _ (List.mem_cons_of_mem _ mw_101)) (fun _ h9 => h9) rfl d_SS_add_112 ?_
        refine lv_iload hx hb d_SS_add_115 (lv_at hl 2 rfl) ?_
        refine lv_iconst (v := 1) hx hb d_SS_add_117 (by decide) ?_
        refine lv_isub hx hb d_SS_add_118 ?_
        obtain ⟨ck_3, hf⟩ := g_ck hf
        refine va_iald (D := (dC, dI)) hx hb hK hP 11 0 rfl rfl ck_3 d_SS_add_119 ?_
        refine lv_iload hx hb d_SS_add_120 (lv_at hl 1 rfl) ?_
        obtain ⟨r, hc, hf⟩ := g_bind hf
        try dsimp only at hf
        refine cx_callV (As := [.int (SS_order ss_5 (v7_4 - 1).toNatClampNeg), .int v6]) (rest := []) ⟨hx, hb, hml, hown, hts⟩ (c_SS_isBehind l dC dI tC a (SS_order ss_5 (v7_4 - 1).toNatClampNeg) v6 ss_5 r hc) (k_SS_51 hts ⟨Nat.le_of_ble_eq_true rfl, Nat.le_of_ble_eq_true rfl⟩) hl.1 hP hD hS hA hK hN [0, 1, 2, 3, 4, 5, 6, 7, 8, 9, 10, 11] 0 4 rfl rfl rfl rfl rfl rfl rfl rfl (Nat.le_of_ble_eq_true rfl) d_SS_add_122 ⟨Nat.zero_le _, Nat.zero_le _⟩ (fun H locs hP hD hS => ?_)
        have hP : va_P (dC, dI) classes (wSS tC a ss_5) H := hP
        have hD : va_D A (wSS tC a ss_5) := hD
        refine W.eq (g2 := F0 m 125 ls [.int r]) rfl ?_
        refine lv_if_eq (tgt := 150) hx hb d_SS_add_125 (by decide) (fun cb_2 => ?_) (fun cb_2 => ?_)
        · have hf := g_t hf cb_2
          obtain ⟨hq0, hr1⟩ := Prod.mk.inj (g_some hf)
          subst hq0
          subst hr1
          exact kk _ _ _ hP hD hS (lv_sub hl [0, 1, 2] rfl)
        · have hf := g_f hf cb_2
          refine lv_aload_n hx hb d_SS_add_128 rfl (lv_at hl 0 rfl) ?_
          refine va_get (D := (dC, dI)) (ci := 4) (v := .ref (a 11)) (C := R_SS) (T := F_SS) (N := 12) hx hb hts (in_SS _) hown hK hP 0 rfl rfl 10 (by decide) (hts _ (List.mem_cons_of_mem _ mw_101)) (fun _ h9 => h9) rfl d_SS_add_129 ?_
          refine lv_iload hx hb d_SS_add_132 (lv_at hl 2 rfl) ?_
          refine lv_aload_n hx hb d_SS_add_134 rfl (lv_at hl 0 rfl) ?_
          refine va_get (D := (dC, dI)) (ci := 4) (v := .ref (a 11)) (C := R_SS) (T := F_SS) (N := 12) hx hb hts (in_SS _) hown hK hP 0 rfl rfl 10 (by decide) (hts _ (List.mem_cons_of_mem _ mw_101)) (fun _ h9 => h9) rfl d_SS_add_135 ?_
          refine lv_iload hx hb d_SS_add_138 (lv_at hl 2 rfl) ?_
          refine lv_iconst (v := 1) hx hb d_SS_add_140 (by decide) ?_
          refine lv_isub hx hb d_SS_add_141 ?_
          refine va_iald (D := (dC, dI)) hx hb hK hP 11 0 rfl rfl ck_3 d_SS_add_142 ?_
          obtain ⟨ck_4, hf⟩ := g_ck hf
          refine va_iast (D := (dC, dI)) hx hb hK hP hD hS 11 0 rfl rfl ck_4 d_SS_add_143 (fun H locs hP hD hS => ?_)
          have hP : va_P (dC, dI) classes (wSS tC a (sSS_order ss_5 (upd (SS_order ss_5) v7_4.toNatClampNeg (SS_order ss_5 (v7_4 - 1).toNatClampNeg)))) H := hP
          have hD : va_D A (wSS tC a (sSS_order ss_5 (upd (SS_order ss_5) v7_4.toNatClampNeg (SS_order ss_5 (v7_4 - 1).toNatClampNeg)))) := hD
          obtain ⟨v7_6, h_v7_6⟩ : ∃ z : Int32, z = v7_4 + (-1) := ⟨_, rfl⟩
          have hf := g_let hf h_v7_6
          refine lv_iinc (v := v7_6) (lv' := [(7, .int v7_6), (0, .ref (a 0)), (6, .int v6)]) hx hb d_SS_add_144 hl (k := 2) rfl (by rw [h_v7_6]; rfl) (by decide) rfl (fun ls hl => ?_)
          refine lv_goto (tgt := 105) hx hb d_SS_add_147 (by decide) ?_
          obtain ⟨ss_7, h_ss_7⟩ : ∃ z : SSt, z = (sSS_order ss_5 (upd (SS_order ss_5) v7_4.toNatClampNeg (SS_order ss_5 (v7_4 - 1).toNatClampNeg))) := ⟨_, rfl⟩
          have hf := g_let hf h_ss_7
          have hP : va_P (dC, dI) classes (wSS tC a ss_7) H := by rw [h_ss_7]; exact hP
          have hD : va_D A (wSS tC a ss_7) := by rw [h_ss_7]; exact hD
          exact ih v7_6 ss_7 v7_5 ss_6 hf H locs ls hP hD hS (lv_sub hl [1, 2, 0] rfl) kk
  obtain ⟨⟨v7_5, ss_6⟩, hL_105, hf⟩ := g_bind hf
  try dsimp only at hf
  refine L_105 k v7_3 ss_3 v7_5 ss_6 hL_105 H locs ls hP hD hS (lv_sub hl [1, 2, 0] rfl) (fun H locs ls hP hD hS hl => ?_)
  refine lv_aload_n hx hb d_SS_add_150 rfl (lv_at hl 0 rfl) ?_
  refine va_get (D := (dC, dI)) (ci := 4) (v := .ref (a 11)) (C := R_SS) (T := F_SS) (N := 12) hx hb hts (in_SS _) hown hK hP 0 rfl rfl 10 (by decide) (hts _ (List.mem_cons_of_mem _ mw_101)) (fun _ h9 => h9) rfl d_SS_add_151 ?_
  refine lv_iload hx hb d_SS_add_154 (lv_at hl 2 rfl) ?_
  refine lv_iload hx hb d_SS_add_156 (lv_at hl 1 rfl) ?_
  obtain ⟨ck_5, hf⟩ := g_ck hf
  refine va_iast (D := (dC, dI)) hx hb hK hP hD hS 11 0 rfl rfl ck_5 d_SS_add_158 (fun H locs hP hD hS => ?_)
  have hP : va_P (dC, dI) classes (wSS tC a (sSS_order ss_6 (upd (SS_order ss_6) v7_5.toNatClampNeg v6))) H := hP
  have hD : va_D A (wSS tC a (sSS_order ss_6 (upd (SS_order ss_6) v7_5.toNatClampNeg v6))) := hD
  refine lv_aload_n hx hb d_SS_add_159 rfl (lv_at hl 0 rfl) ?_
  refine lv_dup hx hb d_SS_add_160 rfl ?_
  refine va_get (D := (dC, dI)) (ci := 4) (v := .int (SS_kept ss_6)) (C := R_SS) (T := F_SS) (N := 12) hx hb hts (in_SS _) hown hK hP 0 rfl rfl 11 (by decide) (hts _ (List.mem_cons_of_mem _ mw_102)) (fun _ h9 => h9) rfl d_SS_add_161 ?_
  refine lv_iconst (v := 1) hx hb d_SS_add_164 (by decide) ?_
  refine lv_iadd hx hb d_SS_add_165 ?_
  refine va_put (D := (dC, dI)) (ci := 4) (v := .int ((SS_kept ss_6) + 1)) (ty := .int) (C := R_SS) (T := F_SS) (N := 12) hx hb hts (in_SS _) t_SS t_SS_ok n_SS hown hK hP hD hS 0 rfl rfl 11 (by decide) (hts _ (List.mem_cons_of_mem _ mw_102)) (fun _ h9 => h9) rfl (by decide +kernel) rfl rfl (Nat.le_of_ble_eq_true rfl) d_SS_add_166 (fun H locs hP hD hS => ?_)
  have hP : va_P (dC, dI) classes (wSS tC a (sSS_kept (sSS_order ss_6 (upd (SS_order ss_6) v7_5.toNatClampNeg v6)) ((SS_kept ss_6) + 1))) H := hP
  have hD : va_D A (wSS tC a (sSS_kept (sSS_order ss_6 (upd (SS_order ss_6) v7_5.toNatClampNeg v6)) ((SS_kept ss_6) + 1))) := hD
  refine lv_iload hx hb d_SS_add_169 (lv_at hl 1 rfl) ?_
  obtain ⟨hq0, hr1⟩ := Prod.mk.inj (g_some hf)
  subst hq0
  subst hr1
  exact cx_iret hx hb hr hlocks hP hS d_SS_add_171
def f_SS_sweep_L4  : Nat → Int32 → Int32 → SSt → Option (Int32 × SSt)
  | 0, _, _, _ => none
  | n + 1, v1, v2, ss_1 =>
    if (SS_kept ss_1) ≤ v2 then (
      some (v1, ss_1)
    ) else
    if v2 < 0 ∨ 200 ≤ v2.toNatClampNeg then none else
    gl_let ((SS_order ss_1 v2.toNatClampNeg)) fun v3 =>
    if v3 < 0 ∨ 200 ≤ v3.toNatClampNeg then none else
    if (SS_keys ss_1 v3.toNatClampNeg) = (-1) then (
      gl_let (v2 + 1) fun v2_1 =>
      f_SS_sweep_L4  n v1 v2_1 ss_1
    ) else
    if v1 < 0 ∨ 200 ≤ v1.toNatClampNeg then none else
    gl_let (v1 + 1) fun v1_2 =>
    gl_let (v2 + 1) fun v2_2 =>
    gl_let ((sSS_order ss_1 (upd (upd (SS_order ss_1) v2.toNatClampNeg (SS_order ss_1 v1.toNatClampNeg)) v1.toNatClampNeg v3)) : SSt) fun ss_3 =>
    f_SS_sweep_L4  n v1_2 v2_2 ss_3
def f_SS_sweep (k : Nat) (ss : SSt) : Option SSt :=
  (f_SS_sweep_L4 k 0 0 ss).bind fun (v1_1, ss_2) =>
  some (sSS_kept ss_2 v1_1)
set_option maxHeartbeats 4000000 in
set_option maxRecDepth 100000 in
theorem c_SS_sweep (l : Launch) (dC : Nat → ClassId) (dI : Nat → Nat → Nat) (tC : Nat → ClassId) (a : Nat → Nat) (k : Nat) (ss : SSt) (ssR : SSt) (hf : f_SS_sweep k ss = some ssR) : cx_M l y_SS_sweep w_SS_sweep { frames := 0, cells := 0, slots := 0, locals := 0 } (dC, dI) classes (tyS tC) [.ref (a 0)] (wSS tC a ss) (wSS tC a ssR) (none) := by
  refine cx_of (cc := b_SS_sweep) (maxL := 4) (ret := none) (plainFor_of_name (by decide)) rfl (Nat.le_of_ble_eq_true rfl) ?_
  intro p e s m below meth c hx hb hr hml hown hts hlocks A hA H locs ls hK hN hP hD hS hl
  have hown : s.vm.findClass R_SS = some m.cls := hown
  have hl : lv_has ls 4 [(0, .ref (a 0))] := hl
  unfold f_SS_sweep at hf
  refine lv_iconst (v := 0) hx hb d_SS_sweep_0 (by decide) ?_
  refine lv_istore_n (lv' := [(1, .int 0), (0, .ref (a 0))]) hx hb d_SS_sweep_1 rfl hl (by decide) rfl (fun ls hl => ?_)
  refine lv_iconst (v := 0) hx hb d_SS_sweep_2 (by decide) ?_
  refine lv_istore_n (lv' := [(2, .int 0), (1, .int 0), (0, .ref (a 0))]) hx hb d_SS_sweep_3 rfl hl (by decide) rfl (fun ls hl => ?_)
  have L_4 : ∀ (n : Nat) (v1 : Int32) (v2 : Int32) (ss_1 : SSt) (v1_1 : Int32) (ss_2 : SSt), f_SS_sweep_L4 n v1 v2 ss_1 = some (v1_1, ss_2) → ∀ (H : Heap) (locs : List Loc) (ls : Array Slot), va_P (dC, dI) classes (wSS tC a ss_1) H → va_D A (wSS tC a ss_1) → va_S A s.heap H locs → lv_has ls 4 [(0, .ref (a 0)), (1, .int v1), (2, .int v2)] → (∀ (H : Heap) (locs : List Loc) (ls : Array Slot), va_P (dC, dI) classes (wSS tC a ss_2) H → va_D A (wSS tC a ss_2) → va_S A s.heap H locs → lv_has ls 4 [(0, .ref (a 0)), (1, .int v1_1)] → W p l e { frames := 0, cells := 0, slots := 0, locals := 0 } s m [.ref (a 0)].toArray below meth c H locs 0 0 (cx_Z (dC, dI) classes below [.ref (a 0)] s (wSS tC a ssR) (none) A) (F0 m 57 ls [])) → W p l e { frames := 0, cells := 0, slots := 0, locals := 0 } s m [.ref (a 0)].toArray below meth c H locs 0 0 (cx_Z (dC, dI) classes below [.ref (a 0)] s (wSS tC a ssR) (none) A) (F0 m 4 ls []) := by
    intro n
    induction n with
    | zero =>
      intro v1 v2 ss_1 v1_1 ss_2 hf
      rw [f_SS_sweep_L4] at hf
      cases hf
    | succ n ih =>
      intro v1 v2 ss_1 v1_1 ss_2 hf H locs ls hP hD hS hl kk
      rw [f_SS_sweep_L4] at hf
      refine lv_iload_n hx hb d_SS_sweep_4 rfl (lv_at hl 2 rfl) ?_
      refine lv_aload_n hx hb d_SS_sweep_5 rfl (lv_at hl 0 rfl) ?_
      refine va_get (D := (dC, dI)) (ci := 4) (v := .int (SS_kept ss_1)) (C := R_SS) (T := F_SS) (N := 12) hx hb hts (in_SS _) hown hK hP 0 rfl rfl 11 (by decide) (hts _ (List.mem_cons_of_mem _ mw_102)) (fun _ h9 => h9) rfl d_SS_sweep_6 ?_
      refine lv_icmp_ge (tgt := 57) hx hb d_SS_sweep_9 (by decide) (fun cb => ?_) (fun cb => ?_)
      · have hf := g_t hf cb
        obtain ⟨hq0, hr1⟩ := Prod.mk.inj (g_some hf)
        subst hq0
        subst hr1
        exact kk _ _ _ hP hD hS (lv_sub hl [0, 1] rfl)
      · have hf := g_f hf cb
        refine lv_aload_n hx hb d_SS_sweep_12 rfl (lv_at hl 0 rfl) ?_
        refine va_get (D := (dC, dI)) (ci := 4) (v := .ref (a 11)) (C := R_SS) (T := F_SS) (N := 12) hx hb hts (in_SS _) hown hK hP 0 rfl rfl 10 (by decide) (hts _ (List.mem_cons_of_mem _ mw_101)) (fun _ h9 => h9) rfl d_SS_sweep_13 ?_
        refine lv_iload_n hx hb d_SS_sweep_16 rfl (lv_at hl 2 rfl) ?_
        obtain ⟨ck, hf⟩ := g_ck hf
        refine va_iald (D := (dC, dI)) hx hb hK hP 11 0 rfl rfl ck d_SS_sweep_17 ?_
        refine lv_topi (fun v3 h_v3 => ?_)
        have hf := g_let hf h_v3
        refine lv_istore_n (lv' := [(3, .int v3), (0, .ref (a 0)), (1, .int v1), (2, .int v2)]) hx hb d_SS_sweep_18 rfl hl (by decide) rfl (fun ls hl => ?_)
        refine lv_aload_n hx hb d_SS_sweep_19 rfl (lv_at hl 1 rfl) ?_
        refine va_get (D := (dC, dI)) (ci := 4) (v := .ref (a 1)) (C := R_SS) (T := F_SS) (N := 12) hx hb hts (in_SS _) hown hK hP 0 rfl rfl 0 (by decide) (hts _ (List.mem_cons_of_mem _ mw_81)) (fun _ h9 => h9) rfl d_SS_sweep_20 ?_
        refine lv_iload_n hx hb d_SS_sweep_23 rfl (lv_at hl 0 rfl) ?_
        obtain ⟨ck_1, hf⟩ := g_ck hf
        refine va_iald (D := (dC, dI)) hx hb hK hP 1 0 rfl rfl ck_1 d_SS_sweep_24 ?_
        refine lv_iconst (v := (-1)) hx hb d_SS_sweep_25 (by decide) ?_
        refine lv_icmp_eq (tgt := 51) hx hb d_SS_sweep_26 (by decide) (fun cb_1 => ?_) (fun cb_1 => ?_)
        · have hf := g_t hf cb_1
          obtain ⟨v2_1, h_v2_1⟩ : ∃ z : Int32, z = v2 + 1 := ⟨_, rfl⟩
          have hf := g_let hf h_v2_1
          refine lv_iinc (v := v2_1) (lv' := [(2, .int v2_1), (3, .int v3), (0, .ref (a 0)), (1, .int v1)]) hx hb d_SS_sweep_51 hl (k := 3) rfl (by rw [h_v2_1]; rfl) (by decide) rfl (fun ls hl => ?_)
          refine lv_goto (tgt := 4) hx hb d_SS_sweep_54 (by decide) ?_
          exact ih v1 v2_1 ss_1 v1_1 ss_2 hf H locs ls hP hD hS (lv_sub hl [2, 3, 0] rfl) kk
        · have hf := g_f hf cb_1
          refine lv_aload_n hx hb d_SS_sweep_29 rfl (lv_at hl 1 rfl) ?_
          refine va_get (D := (dC, dI)) (ci := 4) (v := .ref (a 11)) (C := R_SS) (T := F_SS) (N := 12) hx hb hts (in_SS _) hown hK hP 0 rfl rfl 10 (by decide) (hts _ (List.mem_cons_of_mem _ mw_101)) (fun _ h9 => h9) rfl d_SS_sweep_30 ?_
          refine lv_iload_n hx hb d_SS_sweep_33 rfl (lv_at hl 3 rfl) ?_
          refine lv_aload_n hx hb d_SS_sweep_34 rfl (lv_at hl 1 rfl) ?_
          refine va_get (D := (dC, dI)) (ci := 4) (v := .ref (a 11)) (C := R_SS) (T := F_SS) (N := 12) hx hb hts (in_SS _) hown hK hP 0 rfl rfl 10 (by decide) (hts _ (List.mem_cons_of_mem _ mw_101)) (fun _ h9 => h9) rfl d_SS_sweep_35 ?_
          refine lv_iload_n hx hb d_SS_sweep_38 rfl (lv_at hl 2 rfl) ?_
          obtain ⟨ck_2, hf⟩ := g_ck hf
          refine va_iald (D := (dC, dI)) hx hb hK hP 11 0 rfl rfl ck_2 d_SS_sweep_39 ?_
          refine va_iast (D := (dC, dI)) hx hb hK hP hD hS 11 0 rfl rfl ck d_SS_sweep_40 (fun H locs hP hD hS => ?_)
          have hP : va_P (dC, dI) classes (wSS tC a (sSS_order ss_1 (upd (SS_order ss_1) v2.toNatClampNeg (SS_order ss_1 v1.toNatClampNeg)))) H := hP
          have hD : va_D A (wSS tC a (sSS_order ss_1 (upd (SS_order ss_1) v2.toNatClampNeg (SS_order ss_1 v1.toNatClampNeg)))) := hD
          refine lv_aload_n hx hb d_SS_sweep_41 rfl (lv_at hl 1 rfl) ?_
          refine va_get (D := (dC, dI)) (ci := 4) (v := .ref (a 11)) (C := R_SS) (T := F_SS) (N := 12) hx hb hts (in_SS _) hown hK hP 0 rfl rfl 10 (by decide) (hts _ (List.mem_cons_of_mem _ mw_101)) (fun _ h9 => h9) rfl d_SS_sweep_42 ?_
          refine lv_iload_n hx hb d_SS_sweep_45 rfl (lv_at hl 2 rfl) ?_
          refine lv_iload_n hx hb d_SS_sweep_46 rfl (lv_at hl 0 rfl) ?_
          refine va_iast (D := (dC, dI)) hx hb hK hP hD hS 11 0 rfl rfl ck_2 d_SS_sweep_47 (fun H locs hP hD hS => ?_)
          have hP : va_P (dC, dI) classes (wSS tC a (sSS_order ss_1 (upd (upd (SS_order ss_1) v2.toNatClampNeg (SS_order ss_1 v1.toNatClampNeg)) v1.toNatClampNeg v3))) H := hP
          have hD : va_D A (wSS tC a (sSS_order ss_1 (upd (upd (SS_order ss_1) v2.toNatClampNeg (SS_order ss_1 v1.toNatClampNeg)) v1.toNatClampNeg v3))) := hD
          obtain ⟨v1_2, h_v1_2⟩ : ∃ z : Int32, z = v1 + 1 := ⟨_, rfl⟩
          have hf := g_let hf h_v1_2
          refine lv_iinc (v := v1_2) (lv' := [(1, .int v1_2), (3, .int v3), (0, .ref (a 0)), (2, .int v2)]) hx hb d_SS_sweep_48 hl (k := 2) rfl (by rw [h_v1_2]; rfl) (by decide) rfl (fun ls hl => ?_)
          obtain ⟨v2_2, h_v2_2⟩ : ∃ z : Int32, z = v2 + 1 := ⟨_, rfl⟩
          have hf := g_let hf h_v2_2
          refine lv_iinc (v := v2_2) (lv' := [(2, .int v2_2), (1, .int v1_2), (3, .int v3), (0, .ref (a 0))]) hx hb d_SS_sweep_51 hl (k := 3) rfl (by rw [h_v2_2]; rfl) (by decide) rfl (fun ls hl => ?_)
          refine lv_goto (tgt := 4) hx hb d_SS_sweep_54 (by decide) ?_
          obtain ⟨ss_3, h_ss_3⟩ : ∃ z : SSt, z = (sSS_order ss_1 (upd (upd (SS_order ss_1) v2.toNatClampNeg (SS_order ss_1 v1.toNatClampNeg)) v1.toNatClampNeg v3)) := ⟨_, rfl⟩
          have hf := g_let hf h_ss_3
          have hP : va_P (dC, dI) classes (wSS tC a ss_3) H := by rw [h_ss_3]; exact hP
          have hD : va_D A (wSS tC a ss_3) := by rw [h_ss_3]; exact hD
          exact ih v1_2 v2_2 ss_3 v1_1 ss_2 hf H locs ls hP hD hS (lv_sub hl [3, 1, 0] rfl) kk
  obtain ⟨⟨v1_1, ss_2⟩, hL_4, hf⟩ := g_bind hf
  try dsimp only at hf
  refine L_4 k 0 0 ss v1_1 ss_2 hL_4 H locs ls hP hD hS (lv_sub hl [2, 1, 0] rfl) (fun H locs ls hP hD hS hl => ?_)
  refine lv_aload_n hx hb d_SS_sweep_57 rfl (lv_at hl 0 rfl) ?_
  refine lv_iload_n hx hb d_SS_sweep_58 rfl (lv_at hl 1 rfl) ?_
  refine va_put (D := (dC, dI)) (ci := 4) (v := .int v1_1) (ty := .int) (C := R_SS) (T := F_SS) (N := 12) hx hb hts (in_SS _) t_SS t_SS_ok n_SS hown hK hP hD hS 0 rfl rfl 11 (by decide) (hts _ (List.mem_cons_of_mem _ mw_102)) (fun _ h9 => h9) rfl (by decide +kernel) rfl rfl (Nat.le_of_ble_eq_true rfl) d_SS_sweep_59 (fun H locs hP hD hS => ?_)
  have hP : va_P (dC, dI) classes (wSS tC a (sSS_kept ss_2 v1_1)) H := hP
  have hD : va_D A (wSS tC a (sSS_kept ss_2 v1_1)) := hD
  have hq0 := (g_some hf)
  subst hq0
  exact cx_vret hx hb hr hlocks hP hS d_SS_sweep_62
def f_SS_join_L6 (k : Nat) (x1 : Int32) (x2 : Int64) (x4 : Int64) : Nat → Int32 → Int32 → SSt → Option (Int32 × SSt)
  | 0, _, _, _ => none
  | n + 1, v6, v7, ss_1 =>
    if (SS_kept ss_1) ≤ v7 then (
      some (v6, ss_1)
    ) else
    if v7 < 0 ∨ 200 ≤ v7.toNatClampNeg then none else
    gl_let ((SS_order ss_1 v7.toNatClampNeg)) fun v8 =>
    (f_SS_shares v8 x1 x2 x4 ss_1).bind fun r =>
    if r = 0 then (
      gl_let (v7 + 1) fun v7_1 =>
      f_SS_join_L6 k x1 x2 x4 n v6 v7_1 ss_1
    ) else
    if v6 = (-1) then (
      gl_let (v7 + 1) fun v7_3 =>
      f_SS_join_L6 k x1 x2 x4 n v8 v7_3 ss_1
    ) else
    (f_SS_absorb k v6 v8 ss_1).bind fun ss_3 =>
    gl_let (v7 + 1) fun v7_2 =>
    f_SS_join_L6 k x1 x2 x4 n v6 v7_2 ss_3
def f_SS_join (k : Nat) (x1 : Int32) (x2 : Int64) (x4 : Int64) (ss : SSt) : Option (Int32 × SSt) :=
  (f_SS_join_L6 k x1 x2 x4 k (-1) 0 ss).bind fun (v6_1, ss_2) =>
  if v6_1 = (-1) then (
    (f_SS_add k x1 x2 x4 ss_2).bind fun (r_1, ss_6) =>
    some (r_1, ss_6)
  ) else
  if v6_1 < 0 ∨ 200 ≤ v6_1.toNatClampNeg then none else
  gl_let ((sSS_ends (sSS_begins ss_2 (vp_updL (SS_begins ss_2) v6_1.toNatClampNeg (if x2 < (SS_begins ss_2 v6_1.toNatClampNeg) then x2 else (SS_begins ss_2 v6_1.toNatClampNeg)))) (vp_updL (SS_ends ss_2) v6_1.toNatClampNeg (if x4 < (SS_ends ss_2 v6_1.toNatClampNeg) then (SS_ends ss_2 v6_1.toNatClampNeg) else x4))) : SSt) fun ss_4 =>
  (f_SS_sweep k ss_4).bind fun ss_5 =>
  some (v6_1, ss_5)
set_option maxHeartbeats 4000000 in
set_option maxRecDepth 100000 in
theorem c_SS_join (l : Launch) (dC : Nat → ClassId) (dI : Nat → Nat → Nat) (tC : Nat → ClassId) (a : Nat → Nat) (k : Nat) (x1 : Int32) (x2 : Int64) (x4 : Int64) (ss : SSt) (res : Int32) (ssR : SSt) (hf : f_SS_join k x1 x2 x4 ss = some (res, ssR)) : cx_M l y_SS_join w_SS_join { frames := 2, cells := 0, slots := 0, locals := 49 } (dC, dI) classes (tyS tC) [.ref (a 0), .int x1, .long x2, .long x4] (wSS tC a ss) (wSS tC a ssR) (some (.int res)) := by
  refine cx_of (cc := b_SS_join) (maxL := 9) (ret := some .int) (plainFor_of_name (by decide)) rfl (Nat.le_of_ble_eq_true rfl) ?_
  intro p e s m below meth c hx hb hr hml hown hts hlocks A hA H locs ls hK hN hP hD hS hl
  have hown : s.vm.findClass R_SS = some m.cls := hown
  have hl : lv_has ls 9 [(0, .ref (a 0)), (1, .int x1), (2, .long x2), (4, .long x4)] := hl
  unfold f_SS_join at hf
  refine lv_iconst (v := (-1)) hx hb d_SS_join_0 (by decide) ?_
  refine lv_istore (lv' := [(6, .int (-1)), (0, .ref (a 0)), (1, .int x1), (2, .long x2), (4, .long x4)]) hx hb d_SS_join_1 hl (by decide) rfl (fun ls hl => ?_)
  refine lv_iconst (v := 0) hx hb d_SS_join_3 (by decide) ?_
  refine lv_istore (lv' := [(7, .int 0), (6, .int (-1)), (0, .ref (a 0)), (1, .int x1), (2, .long x2), (4, .long x4)]) hx hb d_SS_join_4 hl (by decide) rfl (fun ls hl => ?_)
  have L_6 : ∀ (n : Nat) (v6 : Int32) (v7 : Int32) (ss_1 : SSt) (v6_1 : Int32) (ss_2 : SSt), f_SS_join_L6 k x1 x2 x4 n v6 v7 ss_1 = some (v6_1, ss_2) → ∀ (H : Heap) (locs : List Loc) (ls : Array Slot), va_P (dC, dI) classes (wSS tC a ss_1) H → va_D A (wSS tC a ss_1) → va_S A s.heap H locs → lv_has ls 9 [(0, .ref (a 0)), (1, .int x1), (2, .long x2), (4, .long x4), (6, .int v6), (7, .int v7)] → (∀ (H : Heap) (locs : List Loc) (ls : Array Slot), va_P (dC, dI) classes (wSS tC a ss_2) H → va_D A (wSS tC a ss_2) → va_S A s.heap H locs → lv_has ls 9 [(0, .ref (a 0)), (1, .int x1), (2, .long x2), (4, .long x4), (6, .int v6_1)] → W p l e { frames := 2, cells := 0, slots := 0, locals := 49 } s m [.ref (a 0), .int x1, .long x2, .long x4].toArray below meth c H locs 0 0 (cx_Z (dC, dI) classes below [.ref (a 0), .int x1, .long x2, .long x4] s (wSS tC a ssR) (some (.int res)) A) (F0 m 64 ls [])) → W p l e { frames := 2, cells := 0, slots := 0, locals := 49 } s m [.ref (a 0), .int x1, .long x2, .long x4].toArray below meth c H locs 0 0 (cx_Z (dC, dI) classes below [.ref (a 0), .int x1, .long x2, .long x4] s (wSS tC a ssR) (some (.int res)) A) (F0 m 6 ls []) := by
    intro n
    induction n with
    | zero =>
      intro v6 v7 ss_1 v6_1 ss_2 hf
      rw [f_SS_join_L6] at hf
      cases hf
    | succ n ih =>
      intro v6 v7 ss_1 v6_1 ss_2 hf H locs ls hP hD hS hl kk
      rw [f_SS_join_L6] at hf
      refine lv_iload hx hb d_SS_join_6 (lv_at hl 5 rfl) ?_
      refine lv_aload_n hx hb d_SS_join_8 rfl (lv_at hl 0 rfl) ?_
      refine va_get (D := (dC, dI)) (ci := 4) (v := .int (SS_kept ss_1)) (C := R_SS) (T := F_SS) (N := 12) hx hb hts (in_SS _) hown hK hP 0 rfl rfl 11 (by decide) (hts _ (List.mem_cons_of_mem _ mw_102)) (fun _ h9 => h9) rfl d_SS_join_9 ?_
      refine lv_icmp_ge (tgt := 64) hx hb d_SS_join_12 (by decide) (fun cb => ?_) (fun cb => ?_)
      · have hf := g_t hf cb
        obtain ⟨hq0, hr1⟩ := Prod.mk.inj (g_some hf)
        subst hq0
        subst hr1
        exact kk _ _ _ hP hD hS (lv_sub hl [0, 1, 2, 3, 4] rfl)
      · have hf := g_f hf cb
        refine lv_aload_n hx hb d_SS_join_15 rfl (lv_at hl 0 rfl) ?_
        refine va_get (D := (dC, dI)) (ci := 4) (v := .ref (a 11)) (C := R_SS) (T := F_SS) (N := 12) hx hb hts (in_SS _) hown hK hP 0 rfl rfl 10 (by decide) (hts _ (List.mem_cons_of_mem _ mw_101)) (fun _ h9 => h9) rfl d_SS_join_16 ?_
        refine lv_iload hx hb d_SS_join_19 (lv_at hl 5 rfl) ?_
        obtain ⟨ck, hf⟩ := g_ck hf
        refine va_iald (D := (dC, dI)) hx hb hK hP 11 0 rfl rfl ck d_SS_join_21 ?_
        refine lv_topi (fun v8 h_v8 => ?_)
        have hf := g_let hf h_v8
        refine lv_istore (lv' := [(8, .int v8), (0, .ref (a 0)), (1, .int x1), (2, .long x2), (4, .long x4), (6, .int v6), (7, .int v7)]) hx hb d_SS_join_22 hl (by decide) rfl (fun ls hl => ?_)
        refine lv_aload_n hx hb d_SS_join_24 rfl (lv_at hl 1 rfl) ?_
        refine lv_iload hx hb d_SS_join_25 (lv_at hl 0 rfl) ?_
        refine lv_iload_n hx hb d_SS_join_27 rfl (lv_at hl 2 rfl) ?_
        refine lv_lload_n hx hb d_SS_join_28 rfl (lv_at hl 3 rfl) ?_
        refine lv_lload hx hb d_SS_join_29 (lv_at hl 4 rfl) ?_
        obtain ⟨r, hc, hf⟩ := g_bind hf
        try dsimp only at hf
        refine cx_callV (As := [.int v8, .int x1, .long x2, .long x4]) (rest := []) ⟨hx, hb, hml, hown, hts⟩ (c_SS_shares l dC dI tC a v8 x1 x2 x4 ss_1 r hc) (k_SS_55 hts ⟨Nat.le_of_ble_eq_true rfl, Nat.le_of_ble_eq_true rfl⟩) hl.1 hP hD hS hA hK hN [0, 1, 2, 3, 4, 5, 6, 7, 8, 9, 10, 11] 0 4 rfl rfl rfl rfl rfl rfl rfl rfl (Nat.le_of_ble_eq_true rfl) d_SS_join_31 ⟨Nat.zero_le _, Nat.zero_le _⟩ (fun H locs hP hD hS => ?_)
        have hP : va_P (dC, dI) classes (wSS tC a ss_1) H := hP
        have hD : va_D A (wSS tC a ss_1) := hD
        refine W.eq (g2 := F0 m 34 ls [.int r]) rfl ?_
        refine lv_if_eq (tgt := 58) hx hb d_SS_join_34 (by decide) (fun cb_1 => ?_) (fun cb_1 => ?_)
        · have hf := g_t hf cb_1
          obtain ⟨v7_1, h_v7_1⟩ : ∃ z : Int32, z = v7 + 1 := ⟨_, rfl⟩
          have hf := g_let hf h_v7_1
          refine lv_iinc (v := v7_1) (lv' := [(7, .int v7_1), (8, .int v8), (0, .ref (a 0)), (1, .int x1), (2, .long x2), (4, .long x4), (6, .int v6)]) hx hb d_SS_join_58 hl (k := 6) rfl (by rw [h_v7_1]; rfl) (by decide) rfl (fun ls hl => ?_)
          refine lv_goto (tgt := 6) hx hb d_SS_join_61 (by decide) ?_
          exact ih v6 v7_1 ss_1 v6_1 ss_2 hf H locs ls hP hD hS (lv_sub hl [2, 3, 4, 5, 6, 0] rfl) kk
        · have hf := g_f hf cb_1
          refine lv_iload hx hb d_SS_join_37 (lv_at hl 5 rfl) ?_
          refine lv_iconst (v := (-1)) hx hb d_SS_join_39 (by decide) ?_
          refine lv_icmp_ne (tgt := 50) hx hb d_SS_join_40 (by decide) (fun cb_2 => ?_) (fun cb_2 => ?_)
          · have hf := g_f hf cb_2
            refine lv_aload_n hx hb d_SS_join_50 rfl (lv_at hl 1 rfl) ?_
            refine lv_iload hx hb d_SS_join_51 (lv_at hl 5 rfl) ?_
            refine lv_iload hx hb d_SS_join_53 (lv_at hl 0 rfl) ?_
            obtain ⟨ss_3, hc_1, hf⟩ := g_bind hf
            try dsimp only at hf
            refine cx_callV (As := [.int v6, .int v8]) (rest := []) ⟨hx, hb, hml, hown, hts⟩ (c_SS_absorb l dC dI tC a k v6 v8 ss_1 ss_3 hc_1) (k_SS_65 hts ⟨Nat.le_of_ble_eq_true rfl, Nat.le_of_ble_eq_true rfl⟩) hl.1 hP hD hS hA hK hN [0, 1, 2, 3, 4, 5, 6, 7, 8, 9, 10, 11] 0 4 rfl rfl rfl rfl rfl rfl rfl rfl (Nat.le_of_ble_eq_true rfl) d_SS_join_55 ⟨Nat.zero_le _, Nat.zero_le _⟩ (fun H locs hP hD hS => ?_)
            have hP : va_P (dC, dI) classes (wSS tC a ss_3) H := hP
            have hD : va_D A (wSS tC a ss_3) := hD
            refine W.eq (g2 := F0 m 58 ls []) rfl ?_
            obtain ⟨v7_2, h_v7_2⟩ : ∃ z : Int32, z = v7 + 1 := ⟨_, rfl⟩
            have hf := g_let hf h_v7_2
            refine lv_iinc (v := v7_2) (lv' := [(7, .int v7_2), (8, .int v8), (0, .ref (a 0)), (1, .int x1), (2, .long x2), (4, .long x4), (6, .int v6)]) hx hb d_SS_join_58 hl (k := 6) rfl (by rw [h_v7_2]; rfl) (by decide) rfl (fun ls hl => ?_)
            refine lv_goto (tgt := 6) hx hb d_SS_join_61 (by decide) ?_
            exact ih v6 v7_2 ss_3 v6_1 ss_2 hf H locs ls hP hD hS (lv_sub hl [2, 3, 4, 5, 6, 0] rfl) kk
          · have hf := g_t hf cb_2
            refine lv_iload hx hb d_SS_join_43 (lv_at hl 0 rfl) ?_
            refine lv_istore (lv' := [(6, .int v8), (8, .int v8), (0, .ref (a 0)), (1, .int x1), (2, .long x2), (4, .long x4), (7, .int v7)]) hx hb d_SS_join_45 hl (by decide) rfl (fun ls hl => ?_)
            refine lv_goto (tgt := 58) hx hb d_SS_join_47 (by decide) ?_
            obtain ⟨v7_3, h_v7_3⟩ : ∃ z : Int32, z = v7 + 1 := ⟨_, rfl⟩
            have hf := g_let hf h_v7_3
            refine lv_iinc (v := v7_3) (lv' := [(7, .int v7_3), (6, .int v8), (8, .int v8), (0, .ref (a 0)), (1, .int x1), (2, .long x2), (4, .long x4)]) hx hb d_SS_join_58 hl (k := 6) rfl (by rw [h_v7_3]; rfl) (by decide) rfl (fun ls hl => ?_)
            refine lv_goto (tgt := 6) hx hb d_SS_join_61 (by decide) ?_
            exact ih v8 v7_3 ss_1 v6_1 ss_2 hf H locs ls hP hD hS (lv_sub hl [3, 4, 5, 6, 1, 0] rfl) kk
  obtain ⟨⟨v6_1, ss_2⟩, hL_6, hf⟩ := g_bind hf
  try dsimp only at hf
  refine L_6 k (-1) 0 ss v6_1 ss_2 hL_6 H locs ls hP hD hS (lv_sub hl [2, 3, 4, 5, 1, 0] rfl) (fun H locs ls hP hD hS hl => ?_)
  refine lv_iload hx hb d_SS_join_64 (lv_at hl 4 rfl) ?_
  refine lv_iconst (v := (-1)) hx hb d_SS_join_66 (by decide) ?_
  refine lv_icmp_ne (tgt := 79) hx hb d_SS_join_67 (by decide) (fun cb_3 => ?_) (fun cb_3 => ?_)
  · have hf := g_f hf cb_3
    refine lv_aload_n hx hb d_SS_join_79 rfl (lv_at hl 0 rfl) ?_
    refine va_get (D := (dC, dI)) (ci := 4) (v := .ref (a 2)) (C := R_SS) (T := F_SS) (N := 12) hx hb hts (in_SS _) hown hK hP 0 rfl rfl 1 (by decide) (hts _ (List.mem_cons_of_mem _ mw_83)) (fun _ h9 => h9) rfl d_SS_join_80 ?_
    refine lv_iload hx hb d_SS_join_83 (lv_at hl 4 rfl) ?_
    refine lv_aload_n hx hb d_SS_join_85 rfl (lv_at hl 0 rfl) ?_
    refine va_get (D := (dC, dI)) (ci := 4) (v := .ref (a 2)) (C := R_SS) (T := F_SS) (N := 12) hx hb hts (in_SS _) hown hK hP 0 rfl rfl 1 (by decide) (hts _ (List.mem_cons_of_mem _ mw_83)) (fun _ h9 => h9) rfl d_SS_join_86 ?_
    refine lv_iload hx hb d_SS_join_89 (lv_at hl 4 rfl) ?_
    obtain ⟨ck_1, hf⟩ := g_ck hf
    refine va_lald (D := (dC, dI)) hx hb hK hP 2 1 rfl rfl ck_1 d_SS_join_91 ?_
    refine lv_lload_n hx hb d_SS_join_92 rfl (lv_at hl 2 rfl) ?_
    refine va_mmin_long hx hb (by rw [hml]; exact hl.1.symm) hown (hts _ (List.mem_cons_of_mem _ mw_612)) (hts _ (List.mem_cons_of_mem _ mw_348)) (hts _ (List.mem_cons_of_mem _ mw_14)) (hts _ (List.mem_cons_of_mem _ mw_349)) (Nat.le_of_ble_eq_true rfl) (Nat.le_of_ble_eq_true rfl) (Nat.zero_le _) (Nat.zero_le _) d_SS_join_93 ?_
    refine va_last (D := (dC, dI)) hx hb hK hP hD hS 2 1 rfl rfl ck_1 d_SS_join_96 (fun H locs hP hD hS => ?_)
    have hP : va_P (dC, dI) classes (wSS tC a (sSS_begins ss_2 (vp_updL (SS_begins ss_2) v6_1.toNatClampNeg (if x2 < (SS_begins ss_2 v6_1.toNatClampNeg) then x2 else (SS_begins ss_2 v6_1.toNatClampNeg))))) H := hP
    have hD : va_D A (wSS tC a (sSS_begins ss_2 (vp_updL (SS_begins ss_2) v6_1.toNatClampNeg (if x2 < (SS_begins ss_2 v6_1.toNatClampNeg) then x2 else (SS_begins ss_2 v6_1.toNatClampNeg))))) := hD
    refine lv_aload_n hx hb d_SS_join_97 rfl (lv_at hl 0 rfl) ?_
    refine va_get (D := (dC, dI)) (ci := 4) (v := .ref (a 3)) (C := R_SS) (T := F_SS) (N := 12) hx hb hts (in_SS _) hown hK hP 0 rfl rfl 2 (by decide) (hts _ (List.mem_cons_of_mem _ mw_85)) (fun _ h9 => h9) rfl d_SS_join_98 ?_
    refine lv_iload hx hb d_SS_join_101 (lv_at hl 4 rfl) ?_
    refine lv_aload_n hx hb d_SS_join_103 rfl (lv_at hl 0 rfl) ?_
    refine va_get (D := (dC, dI)) (ci := 4) (v := .ref (a 3)) (C := R_SS) (T := F_SS) (N := 12) hx hb hts (in_SS _) hown hK hP 0 rfl rfl 2 (by decide) (hts _ (List.mem_cons_of_mem _ mw_85)) (fun _ h9 => h9) rfl d_SS_join_104 ?_
    refine lv_iload hx hb d_SS_join_107 (lv_at hl 4 rfl) ?_
    refine va_lald (D := (dC, dI)) hx hb hK hP 3 1 rfl rfl ck_1 d_SS_join_109 ?_
    refine lv_lload hx hb d_SS_join_110 (lv_at hl 3 rfl) ?_
    refine va_mmax_long hx hb (by rw [hml]; exact hl.1.symm) hown (hts _ (List.mem_cons_of_mem _ mw_584)) (hts _ (List.mem_cons_of_mem _ mw_351)) (hts _ (List.mem_cons_of_mem _ mw_14)) (hts _ (List.mem_cons_of_mem _ mw_352)) (Nat.le_of_ble_eq_true rfl) (Nat.le_of_ble_eq_true rfl) (Nat.zero_le _) (Nat.zero_le _) d_SS_join_112 ?_
    refine va_last (D := (dC, dI)) hx hb hK hP hD hS 3 1 rfl rfl ck_1 d_SS_join_115 (fun H locs hP hD hS => ?_)
    have hP : va_P (dC, dI) classes (wSS tC a (sSS_ends (sSS_begins ss_2 (vp_updL (SS_begins ss_2) v6_1.toNatClampNeg (if x2 < (SS_begins ss_2 v6_1.toNatClampNeg) then x2 else (SS_begins ss_2 v6_1.toNatClampNeg)))) (vp_updL (SS_ends ss_2) v6_1.toNatClampNeg (if x4 < (SS_ends ss_2 v6_1.toNatClampNeg) then (SS_ends ss_2 v6_1.toNatClampNeg) else x4)))) H := hP
    have hD : va_D A (wSS tC a (sSS_ends (sSS_begins ss_2 (vp_updL (SS_begins ss_2) v6_1.toNatClampNeg (if x2 < (SS_begins ss_2 v6_1.toNatClampNeg) then x2 else (SS_begins ss_2 v6_1.toNatClampNeg)))) (vp_updL (SS_ends ss_2) v6_1.toNatClampNeg (if x4 < (SS_ends ss_2 v6_1.toNatClampNeg) then (SS_ends ss_2 v6_1.toNatClampNeg) else x4)))) := hD
    refine lv_aload_n hx hb d_SS_join_116 rfl (lv_at hl 0 rfl) ?_
    obtain ⟨ss_4, h_ss_4⟩ : ∃ z : SSt, z = (sSS_ends (sSS_begins ss_2 (vp_updL (SS_begins ss_2) v6_1.toNatClampNeg (if x2 < (SS_begins ss_2 v6_1.toNatClampNeg) then x2 else (SS_begins ss_2 v6_1.toNatClampNeg)))) (vp_updL (SS_ends ss_2) v6_1.toNatClampNeg (if x4 < (SS_ends ss_2 v6_1.toNatClampNeg) then (SS_ends ss_2 v6_1.toNatClampNeg) else x4))) := ⟨_, rfl⟩
    have hf := g_let hf h_ss_4
    have hP : va_P (dC, dI) classes (wSS tC a ss_4) H := by rw [h_ss_4]; exact hP
    have hD : va_D A (wSS tC a ss_4) := by rw [h_ss_4]; exact hD
    obtain ⟨ss_5, hc_2, hf⟩ := g_bind hf
    try dsimp only at hf
    refine cx_callV (As := []) (rest := []) ⟨hx, hb, hml, hown, hts⟩ (c_SS_sweep l dC dI tC a k ss_4 ss_5 hc_2) (k_SS_76 hts ⟨Nat.le_of_ble_eq_true rfl, Nat.le_of_ble_eq_true rfl⟩) hl.1 hP hD hS hA hK hN [0, 1, 2, 3, 4, 5, 6, 7, 8, 9, 10, 11] 0 4 rfl rfl rfl rfl rfl rfl rfl rfl (Nat.le_of_ble_eq_true rfl) d_SS_join_117 ⟨Nat.zero_le _, Nat.zero_le _⟩ (fun H locs hP hD hS => ?_)
    have hP : va_P (dC, dI) classes (wSS tC a ss_5) H := hP
    have hD : va_D A (wSS tC a ss_5) := hD
    refine W.eq (g2 := F0 m 120 ls []) rfl ?_
    refine lv_iload hx hb d_SS_join_120 (lv_at hl 4 rfl) ?_
    obtain ⟨hq0, hr1⟩ := Prod.mk.inj (g_some hf)
    subst hq0
    subst hr1
    exact cx_iret hx hb hr hlocks hP hS d_SS_join_122
  · have hf := g_t hf cb_3
    refine lv_aload_n hx hb d_SS_join_70 rfl (lv_at hl 0 rfl) ?_
    refine lv_iload_n hx hb d_SS_join_71 rfl (lv_at hl 1 rfl) ?_
    refine lv_lload_n hx hb d_SS_join_72 rfl (lv_at hl 2 rfl) ?_
    refine lv_lload hx hb d_SS_join_73 (lv_at hl 3 rfl) ?_
    obtain ⟨⟨r_1, ss_6⟩, hc_3, hf⟩ := g_bind hf
    try dsimp only at hf
    refine cx_callV (As := [.int x1, .long x2, .long x4]) (rest := []) ⟨hx, hb, hml, hown, hts⟩ (c_SS_add l dC dI tC a k x1 x2 x4 ss_2 r_1 ss_6 hc_3) (k_SS_69 hts ⟨Nat.le_of_ble_eq_true rfl, Nat.le_of_ble_eq_true rfl⟩) hl.1 hP hD hS hA hK hN [0, 1, 2, 3, 4, 5, 6, 7, 8, 9, 10, 11] 0 4 rfl rfl rfl rfl rfl rfl rfl rfl (Nat.le_of_ble_eq_true rfl) d_SS_join_75 ⟨Nat.zero_le _, Nat.zero_le _⟩ (fun H locs hP hD hS => ?_)
    have hP : va_P (dC, dI) classes (wSS tC a ss_6) H := hP
    have hD : va_D A (wSS tC a ss_6) := hD
    refine W.eq (g2 := F0 m 78 ls [.int r_1]) rfl ?_
    obtain ⟨hq0, hr1⟩ := Prod.mk.inj (g_some hf)
    subst hq0
    subst hr1
    exact cx_iret hx hb hr hlocks hP hS d_SS_join_78
def f_SS_put (x1 : Int32) (x2 : Int32) (ss : SSt) : Option SSt :=
  gl_let (((x1 * 5) + (x2 / 64))) fun v3 =>
  if v3 < 0 ∨ 1000 ≤ v3.toNatClampNeg then none else
  if x1 < 0 ∨ 200 ≤ x1.toNatClampNeg then none else
  some (sSS_untold (sSS_had (sSS_since ss (upd (SS_since ss) x1.toNatClampNeg ((SS_since ss x1.toNatClampNeg) + 1))) (vp_updL (SS_had ss) v3.toNatClampNeg ((SS_had ss v3.toNatClampNeg) ||| ((1 : Int64) <<< ((x2 - x2 / 64 * 64).toInt64 &&& 63))))) (vp_updL (SS_untold ss) v3.toNatClampNeg ((SS_untold ss v3.toNatClampNeg) ||| ((1 : Int64) <<< ((x2 - x2 / 64 * 64).toInt64 &&& 63)))))
set_option maxHeartbeats 4000000 in
set_option maxRecDepth 100000 in
theorem c_SS_put (l : Launch) (dC : Nat → ClassId) (dI : Nat → Nat → Nat) (tC : Nat → ClassId) (a : Nat → Nat) (x1 : Int32) (x2 : Int32) (ss : SSt) (ssR : SSt) (hf : f_SS_put x1 x2 ss = some ssR) : cx_M l y_SS_put w_SS_put { frames := 0, cells := 0, slots := 0, locals := 0 } (dC, dI) classes (tyS tC) [.ref (a 0), .int x1, .int x2] (wSS tC a ss) (wSS tC a ssR) (none) := by
  refine cx_of (cc := b_SS_put) (maxL := 4) (ret := none) (plainFor_of_name (by decide)) rfl (Nat.le_of_ble_eq_true rfl) ?_
  intro p e s m below meth c hx hb hr hml hown hts hlocks A hA H locs ls hK hN hP hD hS hl
  have hown : s.vm.findClass R_SS = some m.cls := hown
  have hl : lv_has ls 4 [(0, .ref (a 0)), (1, .int x1), (2, .int x2)] := hl
  unfold f_SS_put at hf
  refine lv_iload_n hx hb d_SS_put_0 rfl (lv_at hl 1 rfl) ?_
  refine lv_iconst (v := 5) hx hb d_SS_put_1 (by decide) ?_
  refine lv_imul hx hb d_SS_put_2 ?_
  refine lv_iload_n hx hb d_SS_put_3 rfl (lv_at hl 2 rfl) ?_
  refine lv_bipush (v := 64) hx hb d_SS_put_4 (by decide) ?_
  refine lv_idiv hx hb d_SS_put_6 (by decide) ?_
  refine lv_iadd hx hb d_SS_put_7 ?_
  refine lv_topi (fun v3 h_v3 => ?_)
  have hf := g_let hf h_v3
  refine lv_istore_n (lv' := [(3, .int v3), (0, .ref (a 0)), (1, .int x1), (2, .int x2)]) hx hb d_SS_put_8 rfl hl (by decide) rfl (fun ls hl => ?_)
  refine lv_aload_n hx hb d_SS_put_9 rfl (lv_at hl 1 rfl) ?_
  refine va_get (D := (dC, dI)) (ci := 4) (v := .ref (a 7)) (C := R_SS) (T := F_SS) (N := 12) hx hb hts (in_SS _) hown hK hP 0 rfl rfl 6 (by decide) (hts _ (List.mem_cons_of_mem _ mw_93)) (fun _ h9 => h9) rfl d_SS_put_10 ?_
  refine lv_iload_n hx hb d_SS_put_13 rfl (lv_at hl 0 rfl) ?_
  refine lv_dup2_11 hx hb d_SS_put_14 rfl rfl ?_
  obtain ⟨ck, hf⟩ := g_ck hf
  refine va_lald (D := (dC, dI)) hx hb hK hP 7 1 rfl rfl ck d_SS_put_15 ?_
  refine lv_lconst (v := 1) hx hb d_SS_put_16 (by decide) ?_
  refine lv_iload_n hx hb d_SS_put_17 rfl (lv_at hl 3 rfl) ?_
  refine lv_bipush (v := 64) hx hb d_SS_put_18 (by decide) ?_
  refine lv_irem hx hb d_SS_put_20 (by decide) ?_
  refine lv_lshl hx hb d_SS_put_21 rfl ?_
  refine lv_lor hx hb d_SS_put_22 ?_
  refine va_last (D := (dC, dI)) hx hb hK hP hD hS 7 1 rfl rfl ck d_SS_put_23 (fun H locs hP hD hS => ?_)
  have hP : va_P (dC, dI) classes (wSS tC a (sSS_had ss (vp_updL (SS_had ss) v3.toNatClampNeg ((SS_had ss v3.toNatClampNeg) ||| ((1 : Int64) <<< ((x2 - x2 / 64 * 64).toInt64 &&& 63)))))) H := hP
  have hD : va_D A (wSS tC a (sSS_had ss (vp_updL (SS_had ss) v3.toNatClampNeg ((SS_had ss v3.toNatClampNeg) ||| ((1 : Int64) <<< ((x2 - x2 / 64 * 64).toInt64 &&& 63)))))) := hD
  refine lv_aload_n hx hb d_SS_put_24 rfl (lv_at hl 1 rfl) ?_
  refine va_get (D := (dC, dI)) (ci := 4) (v := .ref (a 8)) (C := R_SS) (T := F_SS) (N := 12) hx hb hts (in_SS _) hown hK hP 0 rfl rfl 7 (by decide) (hts _ (List.mem_cons_of_mem _ mw_95)) (fun _ h9 => h9) rfl d_SS_put_25 ?_
  refine lv_iload_n hx hb d_SS_put_28 rfl (lv_at hl 0 rfl) ?_
  refine lv_dup2_11 hx hb d_SS_put_29 rfl rfl ?_
  refine va_lald (D := (dC, dI)) hx hb hK hP 8 1 rfl rfl ck d_SS_put_30 ?_
  refine lv_lconst (v := 1) hx hb d_SS_put_31 (by decide) ?_
  refine lv_iload_n hx hb d_SS_put_32 rfl (lv_at hl 3 rfl) ?_
  refine lv_bipush (v := 64) hx hb d_SS_put_33 (by decide) ?_
  refine lv_irem hx hb d_SS_put_35 (by decide) ?_
  refine lv_lshl hx hb d_SS_put_36 rfl ?_
  refine lv_lor hx hb d_SS_put_37 ?_
  refine va_last (D := (dC, dI)) hx hb hK hP hD hS 8 1 rfl rfl ck d_SS_put_38 (fun H locs hP hD hS => ?_)
  have hP : va_P (dC, dI) classes (wSS tC a (sSS_untold (sSS_had ss (vp_updL (SS_had ss) v3.toNatClampNeg ((SS_had ss v3.toNatClampNeg) ||| ((1 : Int64) <<< ((x2 - x2 / 64 * 64).toInt64 &&& 63))))) (vp_updL (SS_untold ss) v3.toNatClampNeg ((SS_untold ss v3.toNatClampNeg) ||| ((1 : Int64) <<< ((x2 - x2 / 64 * 64).toInt64 &&& 63)))))) H := hP
  have hD : va_D A (wSS tC a (sSS_untold (sSS_had ss (vp_updL (SS_had ss) v3.toNatClampNeg ((SS_had ss v3.toNatClampNeg) ||| ((1 : Int64) <<< ((x2 - x2 / 64 * 64).toInt64 &&& 63))))) (vp_updL (SS_untold ss) v3.toNatClampNeg ((SS_untold ss v3.toNatClampNeg) ||| ((1 : Int64) <<< ((x2 - x2 / 64 * 64).toInt64 &&& 63)))))) := hD
  refine lv_aload_n hx hb d_SS_put_39 rfl (lv_at hl 1 rfl) ?_
  refine va_get (D := (dC, dI)) (ci := 4) (v := .ref (a 5)) (C := R_SS) (T := F_SS) (N := 12) hx hb hts (in_SS _) hown hK hP 0 rfl rfl 4 (by decide) (hts _ (List.mem_cons_of_mem _ mw_89)) (fun _ h9 => h9) rfl d_SS_put_40 ?_
  refine lv_iload_n hx hb d_SS_put_43 rfl (lv_at hl 2 rfl) ?_
  refine lv_dup2_11 hx hb d_SS_put_44 rfl rfl ?_
  obtain ⟨ck_1, hf⟩ := g_ck hf
  refine va_iald (D := (dC, dI)) hx hb hK hP 5 0 rfl rfl ck_1 d_SS_put_45 ?_
  refine lv_iconst (v := 1) hx hb d_SS_put_46 (by decide) ?_
  refine lv_iadd hx hb d_SS_put_47 ?_
  refine va_iast (D := (dC, dI)) hx hb hK hP hD hS 5 0 rfl rfl ck_1 d_SS_put_48 (fun H locs hP hD hS => ?_)
  have hP : va_P (dC, dI) classes (wSS tC a (sSS_untold (sSS_had (sSS_since ss (upd (SS_since ss) x1.toNatClampNeg ((SS_since ss x1.toNatClampNeg) + 1))) (vp_updL (SS_had ss) v3.toNatClampNeg ((SS_had ss v3.toNatClampNeg) ||| ((1 : Int64) <<< ((x2 - x2 / 64 * 64).toInt64 &&& 63))))) (vp_updL (SS_untold ss) v3.toNatClampNeg ((SS_untold ss v3.toNatClampNeg) ||| ((1 : Int64) <<< ((x2 - x2 / 64 * 64).toInt64 &&& 63)))))) H := hP
  have hD : va_D A (wSS tC a (sSS_untold (sSS_had (sSS_since ss (upd (SS_since ss) x1.toNatClampNeg ((SS_since ss x1.toNatClampNeg) + 1))) (vp_updL (SS_had ss) v3.toNatClampNeg ((SS_had ss v3.toNatClampNeg) ||| ((1 : Int64) <<< ((x2 - x2 / 64 * 64).toInt64 &&& 63))))) (vp_updL (SS_untold ss) v3.toNatClampNeg ((SS_untold ss v3.toNatClampNeg) ||| ((1 : Int64) <<< ((x2 - x2 / 64 * 64).toInt64 &&& 63)))))) := hD
  have hq0 := (g_some hf)
  subst hq0
  exact cx_vret hx hb hr hlocks hP hS d_SS_put_49
def f_SS_isIn (x1 : Int32) (x2 : Int32) (n_p0 : Nat) (p0 : (Nat → Int64)) : Option Int32 :=
  if ((x1 * 5) + (x2 / 64)) < 0 ∨ n_p0 ≤ ((x1 * 5) + (x2 / 64)).toNatClampNeg then none else
  if ((p0 ((x1 * 5) + (x2 / 64)).toNatClampNeg) &&& ((1 : Int64) <<< ((x2 - x2 / 64 * 64).toInt64 &&& 63))) = 0 then (
    some 0
  ) else
  some 1
set_option maxHeartbeats 4000000 in
set_option maxRecDepth 100000 in
theorem c_SS_isIn (l : Launch) (dC : Nat → ClassId) (dI : Nat → Nat → Nat) (tC : Nat → ClassId) (a_p0 : Nat) (x1 : Int32) (x2 : Int32) (n_p0 : Nat) (p0 : (Nat → Int64)) (res : Int32) (hf : f_SS_isIn x1 x2 n_p0 p0 = some res) : cx_M l y_SS_isIn w_SS_isIn { frames := 0, cells := 0, slots := 0, locals := 0 } (dC, dI) classes (tyS tC) [.ref a_p0, .int x1, .int x2] ([(a_p0, .inl (tC 1, n_p0, .inr (.inl (p0))))]) ([(a_p0, .inl (tC 1, n_p0, .inr (.inl (p0))))]) (some (.int res)) := by
  refine cx_of (cc := b_SS_isIn) (maxL := 3) (ret := some .boolean) (plainFor_of_name (by decide)) rfl (Nat.le_of_ble_eq_true rfl) ?_
  intro p e s m below meth c hx hb hr hml hown hts hlocks A hA H locs ls hK hN hP hD hS hl
  have hown : s.vm.findClass R_SS = some m.cls := hown
  have hl : lv_has ls 3 [(0, .ref a_p0), (1, .int x1), (2, .int x2)] := hl
  unfold f_SS_isIn at hf
  refine lv_aload_n hx hb d_SS_isIn_0 rfl (lv_at hl 0 rfl) ?_
  refine lv_iload_n hx hb d_SS_isIn_1 rfl (lv_at hl 1 rfl) ?_
  refine lv_iconst (v := 5) hx hb d_SS_isIn_2 (by decide) ?_
  refine lv_imul hx hb d_SS_isIn_3 ?_
  refine lv_iload_n hx hb d_SS_isIn_4 rfl (lv_at hl 2 rfl) ?_
  refine lv_bipush (v := 64) hx hb d_SS_isIn_5 (by decide) ?_
  refine lv_idiv hx hb d_SS_isIn_7 (by decide) ?_
  refine lv_iadd hx hb d_SS_isIn_8 ?_
  obtain ⟨ck, hf⟩ := g_ck hf
  refine va_lald (D := (dC, dI)) hx hb hK hP 0 1 rfl rfl ck d_SS_isIn_9 ?_
  refine lv_lconst (v := 1) hx hb d_SS_isIn_10 (by decide) ?_
  refine lv_iload_n hx hb d_SS_isIn_11 rfl (lv_at hl 2 rfl) ?_
  refine lv_bipush (v := 64) hx hb d_SS_isIn_12 (by decide) ?_
  refine lv_irem hx hb d_SS_isIn_14 (by decide) ?_
  refine lv_lshl hx hb d_SS_isIn_15 rfl ?_
  refine lv_land hx hb d_SS_isIn_16 ?_
  refine lv_lconst (v := 0) hx hb d_SS_isIn_17 (by decide) ?_
  refine cq_eq (tgt := 26) hx hb d_SS_isIn_18 d_SS_isIn_19 (by decide) (fun cb => ?_) (fun cb => ?_)
  · have hf := g_t hf cb
    refine lv_iconst (v := 0) hx hb d_SS_isIn_26 (by decide) ?_
    have hq0 := (g_some hf)
    subst hq0
    exact cx_zret hx hb hr hlocks rfl hP hS d_SS_isIn_27
  · have hf := g_f hf cb
    refine lv_iconst (v := 1) hx hb d_SS_isIn_22 (by decide) ?_
    refine lv_goto (tgt := 27) hx hb d_SS_isIn_23 (by decide) ?_
    have hq0 := (g_some hf)
    subst hq0
    exact cx_zret hx hb hr hlocks rfl hP hS d_SS_isIn_27
def f_SS_noteFired_B18 (x1 : Int32) (x2 : Int32) (ss_1 : SSt) : Option (SSt) :=
  if x2 = 0 then (
    some ss_1
  ) else
  some (sSS_ended ss_1 (upd (SS_ended ss_1) x1.toNatClampNeg 1))
def f_SS_noteFired_L32 (x1 : Int32) : Nat → Int32 → SSt → Option (SSt)
  | 0, _, _ => none
  | n + 1, v3_1, ss_3 =>
    if ((x1 * 5) + 5) ≤ v3_1 then (
      some ss_3
    ) else
    if v3_1 < 0 ∨ 1000 ≤ v3_1.toNatClampNeg then none else
    gl_let (v3_1 + 1) fun v3_2 =>
    gl_let ((sSS_untold ss_3 (vp_updL (SS_untold ss_3) v3_1.toNatClampNeg 0)) : SSt) fun ss_5 =>
    f_SS_noteFired_L32 x1 n v3_2 ss_5
def f_SS_noteFired (k : Nat) (x1 : Int32) (x2 : Int32) (ss : SSt) : Option SSt :=
  if x1 < 0 ∨ 200 ≤ x1.toNatClampNeg then none else
  gl_let ((sSS_since (sSS_fires ss (upd (SS_fires ss) x1.toNatClampNeg ((SS_fires ss x1.toNatClampNeg) + 1))) (upd (SS_since ss) x1.toNatClampNeg 0)) : SSt) fun ss_1 =>
  (f_SS_noteFired_B18 x1 x2 ss_1).bind fun ss_2 =>
  gl_let ((x1 * 5)) fun v3 =>
  (f_SS_noteFired_L32 x1 k v3 ss_2).bind fun ss_4 =>
  some ss_4
set_option maxHeartbeats 4000000 in
set_option maxRecDepth 100000 in
theorem c_SS_noteFired (l : Launch) (dC : Nat → ClassId) (dI : Nat → Nat → Nat) (tC : Nat → ClassId) (a : Nat → Nat) (k : Nat) (x1 : Int32) (x2 : Int32) (ss : SSt) (ssR : SSt) (hf : f_SS_noteFired k x1 x2 ss = some ssR) : cx_M l y_SS_noteFired w_SS_noteFired { frames := 0, cells := 0, slots := 0, locals := 0 } (dC, dI) classes (tyS tC) [.ref (a 0), .int x1, .int x2] (wSS tC a ss) (wSS tC a ssR) (none) := by
  refine cx_of (cc := b_SS_noteFired) (maxL := 4) (ret := none) (plainFor_of_name (by decide)) rfl (Nat.le_of_ble_eq_true rfl) ?_
  intro p e s m below meth c hx hb hr hml hown hts hlocks A hA H locs ls hK hN hP hD hS hl
  have hown : s.vm.findClass R_SS = some m.cls := hown
  have hl : lv_has ls 4 [(0, .ref (a 0)), (1, .int x1), (2, .int x2)] := hl
  unfold f_SS_noteFired at hf
  refine lv_aload_n hx hb d_SS_noteFired_0 rfl (lv_at hl 0 rfl) ?_
  refine va_get (D := (dC, dI)) (ci := 4) (v := .ref (a 4)) (C := R_SS) (T := F_SS) (N := 12) hx hb hts (in_SS _) hown hK hP 0 rfl rfl 3 (by decide) (hts _ (List.mem_cons_of_mem _ mw_87)) (fun _ h9 => h9) rfl d_SS_noteFired_1 ?_
  refine lv_iload_n hx hb d_SS_noteFired_4 rfl (lv_at hl 1 rfl) ?_
  refine lv_dup2_11 hx hb d_SS_noteFired_5 rfl rfl ?_
  obtain ⟨ck, hf⟩ := g_ck hf
  refine va_iald (D := (dC, dI)) hx hb hK hP 4 0 rfl rfl ck d_SS_noteFired_6 ?_
  refine lv_iconst (v := 1) hx hb d_SS_noteFired_7 (by decide) ?_
  refine lv_iadd hx hb d_SS_noteFired_8 ?_
  refine va_iast (D := (dC, dI)) hx hb hK hP hD hS 4 0 rfl rfl ck d_SS_noteFired_9 (fun H locs hP hD hS => ?_)
  have hP : va_P (dC, dI) classes (wSS tC a (sSS_fires ss (upd (SS_fires ss) x1.toNatClampNeg ((SS_fires ss x1.toNatClampNeg) + 1)))) H := hP
  have hD : va_D A (wSS tC a (sSS_fires ss (upd (SS_fires ss) x1.toNatClampNeg ((SS_fires ss x1.toNatClampNeg) + 1)))) := hD
  refine lv_aload_n hx hb d_SS_noteFired_10 rfl (lv_at hl 0 rfl) ?_
  refine va_get (D := (dC, dI)) (ci := 4) (v := .ref (a 5)) (C := R_SS) (T := F_SS) (N := 12) hx hb hts (in_SS _) hown hK hP 0 rfl rfl 4 (by decide) (hts _ (List.mem_cons_of_mem _ mw_89)) (fun _ h9 => h9) rfl d_SS_noteFired_11 ?_
  refine lv_iload_n hx hb d_SS_noteFired_14 rfl (lv_at hl 1 rfl) ?_
  refine lv_iconst (v := 0) hx hb d_SS_noteFired_15 (by decide) ?_
  refine va_iast (D := (dC, dI)) hx hb hK hP hD hS 5 0 rfl rfl ck d_SS_noteFired_16 (fun H locs hP hD hS => ?_)
  have hP : va_P (dC, dI) classes (wSS tC a (sSS_since (sSS_fires ss (upd (SS_fires ss) x1.toNatClampNeg ((SS_fires ss x1.toNatClampNeg) + 1))) (upd (SS_since ss) x1.toNatClampNeg 0))) H := hP
  have hD : va_D A (wSS tC a (sSS_since (sSS_fires ss (upd (SS_fires ss) x1.toNatClampNeg ((SS_fires ss x1.toNatClampNeg) + 1))) (upd (SS_since ss) x1.toNatClampNeg 0))) := hD
  refine lv_iload_n hx hb d_SS_noteFired_17 rfl (lv_at hl 2 rfl) ?_
  obtain ⟨ss_1, h_ss_1⟩ : ∃ z : SSt, z = (sSS_since (sSS_fires ss (upd (SS_fires ss) x1.toNatClampNeg ((SS_fires ss x1.toNatClampNeg) + 1))) (upd (SS_since ss) x1.toNatClampNeg 0)) := ⟨_, rfl⟩
  have hf := g_let hf h_ss_1
  have hP : va_P (dC, dI) classes (wSS tC a ss_1) H := by rw [h_ss_1]; exact hP
  have hD : va_D A (wSS tC a ss_1) := by rw [h_ss_1]; exact hD
  obtain ⟨ss_2, hB_28, hf⟩ := g_bind hf
  try dsimp only at hf
  have K_28 : ∀ (H : Heap) (locs : List Loc) (ls : Array Slot), va_P (dC, dI) classes (wSS tC a ss_2) H → va_D A (wSS tC a ss_2) → va_S A s.heap H locs → lv_has ls 4 [(0, .ref (a 0)), (1, .int x1)] → W p l e { frames := 0, cells := 0, slots := 0, locals := 0 } s m [.ref (a 0), .int x1, .int x2].toArray below meth c H locs 0 0 (cx_Z (dC, dI) classes below [.ref (a 0), .int x1, .int x2] s (wSS tC a ssR) (none) A) (F0 m 28 ls []) := by
    intro H locs ls hP hD hS hl
    refine lv_iload_n hx hb d_SS_noteFired_28 rfl (lv_at hl 1 rfl) ?_
    refine lv_iconst (v := 5) hx hb d_SS_noteFired_29 (by decide) ?_
    refine lv_imul hx hb d_SS_noteFired_30 ?_
    refine lv_topi (fun v3 h_v3 => ?_)
    have hf := g_let hf h_v3
    refine lv_istore_n (lv' := [(3, .int v3), (0, .ref (a 0)), (1, .int x1)]) hx hb d_SS_noteFired_31 rfl hl (by decide) rfl (fun ls hl => ?_)
    have L_32 : ∀ (n : Nat) (v3_1 : Int32) (ss_3 : SSt) (ss_4 : SSt), f_SS_noteFired_L32 x1 n v3_1 ss_3 = some ss_4 → ∀ (H : Heap) (locs : List Loc) (ls : Array Slot), va_P (dC, dI) classes (wSS tC a ss_3) H → va_D A (wSS tC a ss_3) → va_S A s.heap H locs → lv_has ls 4 [(0, .ref (a 0)), (1, .int x1), (3, .int v3_1)] → (∀ (H : Heap) (locs : List Loc) (ls : Array Slot), va_P (dC, dI) classes (wSS tC a ss_4) H → va_D A (wSS tC a ss_4) → va_S A s.heap H locs → lv_has ls 4 [] → W p l e { frames := 0, cells := 0, slots := 0, locals := 0 } s m [.ref (a 0), .int x1, .int x2].toArray below meth c H locs 0 0 (cx_Z (dC, dI) classes below [.ref (a 0), .int x1, .int x2] s (wSS tC a ssR) (none) A) (F0 m 54 ls [])) → W p l e { frames := 0, cells := 0, slots := 0, locals := 0 } s m [.ref (a 0), .int x1, .int x2].toArray below meth c H locs 0 0 (cx_Z (dC, dI) classes below [.ref (a 0), .int x1, .int x2] s (wSS tC a ssR) (none) A) (F0 m 32 ls []) := by
      intro n
      induction n with
      | zero =>
        intro v3_1 ss_3 ss_4 hf
        rw [f_SS_noteFired_L32] at hf
        cases hf
      | succ n ih =>
        intro v3_1 ss_3 ss_4 hf H locs ls hP hD hS hl kk
        rw [f_SS_noteFired_L32] at hf
        refine lv_iload_n hx hb d_SS_noteFired_32 rfl (lv_at hl 2 rfl) ?_
        refine lv_iload_n hx hb d_SS_noteFired_33 rfl (lv_at hl 1 rfl) ?_
        refine lv_iconst (v := 5) hx hb d_SS_noteFired_34 (by decide) ?_
        refine lv_imul hx hb d_SS_noteFired_35 ?_
        refine lv_iconst (v := 5) hx hb d_SS_noteFired_36 (by decide) ?_
        refine lv_iadd hx hb d_SS_noteFired_37 ?_
        refine lv_icmp_ge (tgt := 54) hx hb d_SS_noteFired_38 (by decide) (fun cb_1 => ?_) (fun cb_1 => ?_)
        · have hf := g_t hf cb_1
          have hq0 := (g_some hf)
          subst hq0
          exact kk _ _ _ hP hD hS (lv_sub hl [] rfl)
        · have hf := g_f hf cb_1
          refine lv_aload_n hx hb d_SS_noteFired_41 rfl (lv_at hl 0 rfl) ?_
          refine va_get (D := (dC, dI)) (ci := 4) (v := .ref (a 8)) (C := R_SS) (T := F_SS) (N := 12) hx hb hts (in_SS _) hown hK hP 0 rfl rfl 7 (by decide) (hts _ (List.mem_cons_of_mem _ mw_95)) (fun _ h9 => h9) rfl d_SS_noteFired_42 ?_
          refine lv_iload_n hx hb d_SS_noteFired_45 rfl (lv_at hl 2 rfl) ?_
          refine lv_lconst (v := 0) hx hb d_SS_noteFired_46 (by decide) ?_
          obtain ⟨ck_1, hf⟩ := g_ck hf
          refine va_last (D := (dC, dI)) hx hb hK hP hD hS 8 1 rfl rfl ck_1 d_SS_noteFired_47 (fun H locs hP hD hS => ?_)
          have hP : va_P (dC, dI) classes (wSS tC a (sSS_untold ss_3 (vp_updL (SS_untold ss_3) v3_1.toNatClampNeg 0))) H := hP
          have hD : va_D A (wSS tC a (sSS_untold ss_3 (vp_updL (SS_untold ss_3) v3_1.toNatClampNeg 0))) := hD
          obtain ⟨v3_2, h_v3_2⟩ : ∃ z : Int32, z = v3_1 + 1 := ⟨_, rfl⟩
          have hf := g_let hf h_v3_2
          refine lv_iinc (v := v3_2) (lv' := [(3, .int v3_2), (0, .ref (a 0)), (1, .int x1)]) hx hb d_SS_noteFired_48 hl (k := 2) rfl (by rw [h_v3_2]; rfl) (by decide) rfl (fun ls hl => ?_)
          refine lv_goto (tgt := 32) hx hb d_SS_noteFired_51 (by decide) ?_
          obtain ⟨ss_5, h_ss_5⟩ : ∃ z : SSt, z = (sSS_untold ss_3 (vp_updL (SS_untold ss_3) v3_1.toNatClampNeg 0)) := ⟨_, rfl⟩
          have hf := g_let hf h_ss_5
          have hP : va_P (dC, dI) classes (wSS tC a ss_5) H := by rw [h_ss_5]; exact hP
          have hD : va_D A (wSS tC a ss_5) := by rw [h_ss_5]; exact hD
          exact ih v3_2 ss_5 ss_4 hf H locs ls hP hD hS (lv_sub hl [1, 2, 0] rfl) kk
    obtain ⟨ss_4, hL_32, hf⟩ := g_bind hf
    try dsimp only at hf
    refine L_32 k v3 ss_2 ss_4 hL_32 H locs ls hP hD hS (lv_sub hl [1, 2, 0] rfl) (fun H locs ls hP hD hS hl => ?_)
    have hq0 := (g_some hf)
    subst hq0
    exact cx_vret hx hb hr hlocks hP hS d_SS_noteFired_54
  have hf := hB_28
  unfold f_SS_noteFired_B18 at hf
  refine lv_if_eq (tgt := 28) hx hb d_SS_noteFired_18 (by decide) (fun cb => ?_) (fun cb => ?_)
  · have hf := g_t hf cb
    have hq0 := (g_some hf)
    subst hq0
    exact K_28 _ _ _ hP hD hS (lv_sub hl [0, 1] rfl)
  · have hf := g_f hf cb
    refine lv_aload_n hx hb d_SS_noteFired_21 rfl (lv_at hl 0 rfl) ?_
    refine va_get (D := (dC, dI)) (ci := 4) (v := .ref (a 6)) (C := R_SS) (T := F_SS) (N := 12) hx hb hts (in_SS _) hown hK hP 0 rfl rfl 5 (by decide) (hts _ (List.mem_cons_of_mem _ mw_91)) (fun _ h9 => h9) rfl d_SS_noteFired_22 ?_
    refine lv_iload_n hx hb d_SS_noteFired_25 rfl (lv_at hl 1 rfl) ?_
    refine lv_iconst (v := 1) hx hb d_SS_noteFired_26 (by decide) ?_
    refine va_zast (D := (dC, dI)) hx hb hK hP hD hS 6 2 rfl rfl ck d_SS_noteFired_27 (fun H locs hP hD hS => ?_)
    have hP : va_P (dC, dI) classes (wSS tC a (sSS_ended ss_1 (upd (SS_ended ss_1) x1.toNatClampNeg 1))) H := hP
    have hD : va_D A (wSS tC a (sSS_ended ss_1 (upd (SS_ended ss_1) x1.toNatClampNeg 1))) := hD
    have hq0 := (g_some hf)
    subst hq0
    exact K_28 _ _ _ hP hD hS (lv_sub hl [0, 1] rfl)
def f_SS_find_L3 (x1 : Int32) (x2 : Int64) (x4 : Int64) (ss : SSt) : Nat → Int32 → Option (Int32)
  | 0, _ => none
  | n + 1, v6 =>
    if (SS_kept ss) ≤ v6 then (
      some (-1)
    ) else
    if v6 < 0 ∨ 200 ≤ v6.toNatClampNeg then none else
    gl_let ((SS_order ss v6.toNatClampNeg)) fun v7 =>
    if v7 < 0 ∨ 200 ≤ v7.toNatClampNeg then none else
    if (SS_keys ss v7.toNatClampNeg) = x1 then (
      if (SS_begins ss v7.toNatClampNeg) = x2 then (
        if (SS_ends ss v7.toNatClampNeg) = x4 then (
          some v7
        ) else
        gl_let (v6 + 1) fun v6_3 =>
        f_SS_find_L3 x1 x2 x4 ss n v6_3
      ) else
      gl_let (v6 + 1) fun v6_2 =>
      f_SS_find_L3 x1 x2 x4 ss n v6_2
    ) else
    gl_let (v6 + 1) fun v6_1 =>
    f_SS_find_L3 x1 x2 x4 ss n v6_1
def f_SS_find (k : Nat) (x1 : Int32) (x2 : Int64) (x4 : Int64) (ss : SSt) : Option Int32 :=
  f_SS_find_L3 x1 x2 x4 ss k 0
set_option maxHeartbeats 4000000 in
set_option maxRecDepth 100000 in
theorem c_SS_find (l : Launch) (dC : Nat → ClassId) (dI : Nat → Nat → Nat) (tC : Nat → ClassId) (a : Nat → Nat) (k : Nat) (x1 : Int32) (x2 : Int64) (x4 : Int64) (ss : SSt) (res : Int32) (hf : f_SS_find k x1 x2 x4 ss = some res) : cx_M l y_SS_find w_SS_find { frames := 0, cells := 0, slots := 0, locals := 0 } (dC, dI) classes (tyS tC) [.ref (a 0), .int x1, .long x2, .long x4] (wSS tC a ss) (wSS tC a ss) (some (.int res)) := by
  refine cx_of (cc := b_SS_find) (maxL := 8) (ret := some .int) (plainFor_of_name (by decide)) rfl (Nat.le_of_ble_eq_true rfl) ?_
  intro p e s m below meth c hx hb hr hml hown hts hlocks A hA H locs ls hK hN hP hD hS hl
  have hown : s.vm.findClass R_SS = some m.cls := hown
  have hl : lv_has ls 8 [(0, .ref (a 0)), (1, .int x1), (2, .long x2), (4, .long x4)] := hl
  unfold f_SS_find at hf
  refine lv_iconst (v := 0) hx hb d_SS_find_0 (by decide) ?_
  refine lv_istore (lv' := [(6, .int 0), (0, .ref (a 0)), (1, .int x1), (2, .long x2), (4, .long x4)]) hx hb d_SS_find_1 hl (by decide) rfl (fun ls hl => ?_)
  have L_3 : ∀ (n : Nat) (v6 : Int32), f_SS_find_L3 x1 x2 x4 ss n v6 = some res → ∀ (H : Heap) (locs : List Loc) (ls : Array Slot), va_P (dC, dI) classes (wSS tC a ss) H → va_D A (wSS tC a ss) → va_S A s.heap H locs → lv_has ls 8 [(0, .ref (a 0)), (1, .int x1), (2, .long x2), (4, .long x4), (6, .int v6)] → W p l e { frames := 0, cells := 0, slots := 0, locals := 0 } s m [.ref (a 0), .int x1, .long x2, .long x4].toArray below meth c H locs 0 0 (cx_Z (dC, dI) classes below [.ref (a 0), .int x1, .long x2, .long x4] s (wSS tC a ss) (some (.int res)) A) (F0 m 3 ls []) := by
    intro n
    induction n with
    | zero =>
      intro v6 hf
      rw [f_SS_find_L3] at hf
      cases hf
    | succ n ih =>
      intro v6 hf H locs ls hP hD hS hl
      rw [f_SS_find_L3] at hf
      refine lv_iload hx hb d_SS_find_3 (lv_at hl 4 rfl) ?_
      refine lv_aload_n hx hb d_SS_find_5 rfl (lv_at hl 0 rfl) ?_
      refine va_get (D := (dC, dI)) (ci := 4) (v := .int (SS_kept ss)) (C := R_SS) (T := F_SS) (N := 12) hx hb hts (in_SS _) hown hK hP 0 rfl rfl 11 (by decide) (hts _ (List.mem_cons_of_mem _ mw_102)) (fun _ h9 => h9) rfl d_SS_find_6 ?_
      refine lv_icmp_ge (tgt := 66) hx hb d_SS_find_9 (by decide) (fun cb => ?_) (fun cb => ?_)
      · have hf := g_t hf cb
        refine lv_iconst (v := (-1)) hx hb d_SS_find_66 (by decide) ?_
        have hq0 := (g_some hf)
        subst hq0
        exact cx_iret hx hb hr hlocks hP hS d_SS_find_67
      · have hf := g_f hf cb
        refine lv_aload_n hx hb d_SS_find_12 rfl (lv_at hl 0 rfl) ?_
        refine va_get (D := (dC, dI)) (ci := 4) (v := .ref (a 11)) (C := R_SS) (T := F_SS) (N := 12) hx hb hts (in_SS _) hown hK hP 0 rfl rfl 10 (by decide) (hts _ (List.mem_cons_of_mem _ mw_101)) (fun _ h9 => h9) rfl d_SS_find_13 ?_
        refine lv_iload hx hb d_SS_find_16 (lv_at hl 4 rfl) ?_
        obtain ⟨ck, hf⟩ := g_ck hf
        refine va_iald (D := (dC, dI)) hx hb hK hP 11 0 rfl rfl ck d_SS_find_18 ?_
        refine lv_topi (fun v7 h_v7 => ?_)
        have hf := g_let hf h_v7
        refine lv_istore (lv' := [(7, .int v7), (0, .ref (a 0)), (1, .int x1), (2, .long x2), (4, .long x4), (6, .int v6)]) hx hb d_SS_find_19 hl (by decide) rfl (fun ls hl => ?_)
        refine lv_aload_n hx hb d_SS_find_21 rfl (lv_at hl 1 rfl) ?_
        refine va_get (D := (dC, dI)) (ci := 4) (v := .ref (a 1)) (C := R_SS) (T := F_SS) (N := 12) hx hb hts (in_SS _) hown hK hP 0 rfl rfl 0 (by decide) (hts _ (List.mem_cons_of_mem _ mw_81)) (fun _ h9 => h9) rfl d_SS_find_22 ?_
        refine lv_iload hx hb d_SS_find_25 (lv_at hl 0 rfl) ?_
        obtain ⟨ck_1, hf⟩ := g_ck hf
        refine va_iald (D := (dC, dI)) hx hb hK hP 1 0 rfl rfl ck_1 d_SS_find_27 ?_
        refine lv_iload_n hx hb d_SS_find_28 rfl (lv_at hl 2 rfl) ?_
        refine lv_icmp_ne (tgt := 60) hx hb d_SS_find_29 (by decide) (fun cb_1 => ?_) (fun cb_1 => ?_)
        · have hf := g_f hf cb_1
          obtain ⟨v6_1, h_v6_1⟩ : ∃ z : Int32, z = v6 + 1 := ⟨_, rfl⟩
          have hf := g_let hf h_v6_1
          refine lv_iinc (v := v6_1) (lv' := [(6, .int v6_1), (7, .int v7), (0, .ref (a 0)), (1, .int x1), (2, .long x2), (4, .long x4)]) hx hb d_SS_find_60 hl (k := 5) rfl (by rw [h_v6_1]; rfl) (by decide) rfl (fun ls hl => ?_)
          refine lv_goto (tgt := 3) hx hb d_SS_find_63 (by decide) ?_
          exact ih v6_1 hf H locs ls hP hD hS (lv_sub hl [2, 3, 4, 5, 0] rfl)
        · have hf := g_t hf cb_1
          refine lv_aload_n hx hb d_SS_find_32 rfl (lv_at hl 1 rfl) ?_
          refine va_get (D := (dC, dI)) (ci := 4) (v := .ref (a 2)) (C := R_SS) (T := F_SS) (N := 12) hx hb hts (in_SS _) hown hK hP 0 rfl rfl 1 (by decide) (hts _ (List.mem_cons_of_mem _ mw_83)) (fun _ h9 => h9) rfl d_SS_find_33 ?_
          refine lv_iload hx hb d_SS_find_36 (lv_at hl 0 rfl) ?_
          refine va_lald (D := (dC, dI)) hx hb hK hP 2 1 rfl rfl ck_1 d_SS_find_38 ?_
          refine lv_lload_n hx hb d_SS_find_39 rfl (lv_at hl 3 rfl) ?_
          refine cq_ne (tgt := 60) hx hb d_SS_find_40 d_SS_find_41 (by decide) (fun cb_2 => ?_) (fun cb_2 => ?_)
          · have hf := g_f hf cb_2
            obtain ⟨v6_2, h_v6_2⟩ : ∃ z : Int32, z = v6 + 1 := ⟨_, rfl⟩
            have hf := g_let hf h_v6_2
            refine lv_iinc (v := v6_2) (lv' := [(6, .int v6_2), (7, .int v7), (0, .ref (a 0)), (1, .int x1), (2, .long x2), (4, .long x4)]) hx hb d_SS_find_60 hl (k := 5) rfl (by rw [h_v6_2]; rfl) (by decide) rfl (fun ls hl => ?_)
            refine lv_goto (tgt := 3) hx hb d_SS_find_63 (by decide) ?_
            exact ih v6_2 hf H locs ls hP hD hS (lv_sub hl [2, 3, 4, 5, 0] rfl)
          · have hf := g_t hf cb_2
            refine lv_aload_n hx hb d_SS_find_44 rfl (lv_at hl 1 rfl) ?_
            refine va_get (D := (dC, dI)) (ci := 4) (v := .ref (a 3)) (C := R_SS) (T := F_SS) (N := 12) hx hb hts (in_SS _) hown hK hP 0 rfl rfl 2 (by decide) (hts _ (List.mem_cons_of_mem _ mw_85)) (fun _ h9 => h9) rfl d_SS_find_45 ?_
            refine lv_iload hx hb d_SS_find_48 (lv_at hl 0 rfl) ?_
            refine va_lald (D := (dC, dI)) hx hb hK hP 3 1 rfl rfl ck_1 d_SS_find_50 ?_
            refine lv_lload hx hb d_SS_find_51 (lv_at hl 4 rfl) ?_
            refine cq_ne (tgt := 60) hx hb d_SS_find_53 d_SS_find_54 (by decide) (fun cb_3 => ?_) (fun cb_3 => ?_)
            · have hf := g_f hf cb_3
              obtain ⟨v6_3, h_v6_3⟩ : ∃ z : Int32, z = v6 + 1 := ⟨_, rfl⟩
              have hf := g_let hf h_v6_3
              refine lv_iinc (v := v6_3) (lv' := [(6, .int v6_3), (7, .int v7), (0, .ref (a 0)), (1, .int x1), (2, .long x2), (4, .long x4)]) hx hb d_SS_find_60 hl (k := 5) rfl (by rw [h_v6_3]; rfl) (by decide) rfl (fun ls hl => ?_)
              refine lv_goto (tgt := 3) hx hb d_SS_find_63 (by decide) ?_
              exact ih v6_3 hf H locs ls hP hD hS (lv_sub hl [2, 3, 4, 5, 0] rfl)
            · have hf := g_t hf cb_3
              refine lv_iload hx hb d_SS_find_57 (lv_at hl 0 rfl) ?_
              have hq0 := (g_some hf)
              subst hq0
              exact cx_iret hx hb hr hlocks hP hS d_SS_find_59
  exact L_3 k 0 hf H locs ls hP hD hS (lv_sub hl [1, 2, 3, 4, 0] rfl)
def f_SS_seekDue_L48 (v5 : Int32) : Nat → Int32 → SSt → Option (Int32 × SSt)
  | 0, _, _ => none
  | n + 1, v6, ss_3 =>
    if v6 ≤ 0 then (
      some (v6, ss_3)
    ) else
    if (v6 - 1) < 0 ∨ 200 ≤ (v6 - 1).toNatClampNeg then none else
    if (SS_due ss_3 (v6 - 1).toNatClampNeg) < 0 ∨ 200 ≤ (SS_due ss_3 (v6 - 1).toNatClampNeg).toNatClampNeg then none else
    if (SS_ends ss_3 (SS_due ss_3 (v6 - 1).toNatClampNeg).toNatClampNeg) ≤ (SS_ends ss_3 v5.toNatClampNeg) then (
      some (v6, ss_3)
    ) else
    if v6 < 0 ∨ 200 ≤ v6.toNatClampNeg then none else
    gl_let (v6 + (-1)) fun v6_2 =>
    gl_let ((sSS_due ss_3 (upd (SS_due ss_3) v6.toNatClampNeg (SS_due ss_3 (v6 - 1).toNatClampNeg))) : SSt) fun ss_5 =>
    f_SS_seekDue_L48 v5 n v6_2 ss_5
def f_SS_seekDue_L5 (k : Nat) (x1 : Int64) : Nat → Int32 → Int32 → SSt → Option (Int32 × SSt)
  | 0, _, _, _ => none
  | n + 1, v3, v4, ss_1 =>
    if (SS_kept ss_1) ≤ v4 then (
      some (v3, ss_1)
    ) else
    if v4 < 0 ∨ 200 ≤ v4.toNatClampNeg then none else
    gl_let ((SS_order ss_1 v4.toNatClampNeg)) fun v5 =>
    if v5 < 0 ∨ 200 ≤ v5.toNatClampNeg then none else
    if (SS_ended ss_1 v5.toNatClampNeg) = 0 then (
      if x1 < (SS_ends ss_1 v5.toNatClampNeg) then (
        gl_let (v4 + 1) fun v4_2 =>
        f_SS_seekDue_L5 k x1 n v3 v4_2 ss_1
      ) else
      (f_SS_seekDue_L48 v5 k v3 ss_1).bind fun (v6_1, ss_4) =>
      if v6_1 < 0 ∨ 200 ≤ v6_1.toNatClampNeg then none else
      gl_let (v3 + 1) fun v3_2 =>
      gl_let (v4 + 1) fun v4_3 =>
      gl_let ((sSS_due ss_4 (upd (SS_due ss_4) v6_1.toNatClampNeg v5)) : SSt) fun ss_6 =>
      f_SS_seekDue_L5 k x1 n v3_2 v4_3 ss_6
    ) else
    gl_let (v4 + 1) fun v4_1 =>
    f_SS_seekDue_L5 k x1 n v3 v4_1 ss_1
def f_SS_seekDue (k : Nat) (x1 : Int64) (ss : SSt) : Option (Int32 × SSt) :=
  (f_SS_seekDue_L5 k x1 k 0 0 ss).bind fun (v3_1, ss_2) =>
  some (v3_1, ss_2)
set_option maxHeartbeats 4000000 in
set_option maxRecDepth 100000 in
theorem c_SS_seekDue (l : Launch) (dC : Nat → ClassId) (dI : Nat → Nat → Nat) (tC : Nat → ClassId) (a : Nat → Nat) (k : Nat) (x1 : Int64) (ss : SSt) (res : Int32) (ssR : SSt) (hf : f_SS_seekDue k x1 ss = some (res, ssR)) : cx_M l y_SS_seekDue w_SS_seekDue { frames := 0, cells := 0, slots := 0, locals := 0 } (dC, dI) classes (tyS tC) [.ref (a 0), .long x1] (wSS tC a ss) (wSS tC a ssR) (some (.int res)) := by
  refine cx_of (cc := b_SS_seekDue) (maxL := 7) (ret := some .int) (plainFor_of_name (by decide)) rfl (Nat.le_of_ble_eq_true rfl) ?_
  intro p e s m below meth c hx hb hr hml hown hts hlocks A hA H locs ls hK hN hP hD hS hl
  have hown : s.vm.findClass R_SS = some m.cls := hown
  have hl : lv_has ls 7 [(0, .ref (a 0)), (1, .long x1)] := hl
  unfold f_SS_seekDue at hf
  refine lv_iconst (v := 0) hx hb d_SS_seekDue_0 (by decide) ?_
  refine lv_istore_n (lv' := [(3, .int 0), (0, .ref (a 0)), (1, .long x1)]) hx hb d_SS_seekDue_1 rfl hl (by decide) rfl (fun ls hl => ?_)
  refine lv_iconst (v := 0) hx hb d_SS_seekDue_2 (by decide) ?_
  refine lv_istore (lv' := [(4, .int 0), (3, .int 0), (0, .ref (a 0)), (1, .long x1)]) hx hb d_SS_seekDue_3 hl (by decide) rfl (fun ls hl => ?_)
  have L_5 : ∀ (n : Nat) (v3 : Int32) (v4 : Int32) (ss_1 : SSt) (v3_1 : Int32) (ss_2 : SSt), f_SS_seekDue_L5 k x1 n v3 v4 ss_1 = some (v3_1, ss_2) → ∀ (H : Heap) (locs : List Loc) (ls : Array Slot), va_P (dC, dI) classes (wSS tC a ss_1) H → va_D A (wSS tC a ss_1) → va_S A s.heap H locs → lv_has ls 7 [(0, .ref (a 0)), (1, .long x1), (3, .int v3), (4, .int v4)] → (∀ (H : Heap) (locs : List Loc) (ls : Array Slot), va_P (dC, dI) classes (wSS tC a ss_2) H → va_D A (wSS tC a ss_2) → va_S A s.heap H locs → lv_has ls 7 [(3, .int v3_1)] → W p l e { frames := 0, cells := 0, slots := 0, locals := 0 } s m [.ref (a 0), .long x1].toArray below meth c H locs 0 0 (cx_Z (dC, dI) classes below [.ref (a 0), .long x1] s (wSS tC a ssR) (some (.int res)) A) (F0 m 118 ls [])) → W p l e { frames := 0, cells := 0, slots := 0, locals := 0 } s m [.ref (a 0), .long x1].toArray below meth c H locs 0 0 (cx_Z (dC, dI) classes below [.ref (a 0), .long x1] s (wSS tC a ssR) (some (.int res)) A) (F0 m 5 ls []) := by
    intro n
    induction n with
    | zero =>
      intro v3 v4 ss_1 v3_1 ss_2 hf
      rw [f_SS_seekDue_L5] at hf
      cases hf
    | succ n ih =>
      intro v3 v4 ss_1 v3_1 ss_2 hf H locs ls hP hD hS hl kk
      rw [f_SS_seekDue_L5] at hf
      refine lv_iload hx hb d_SS_seekDue_5 (lv_at hl 3 rfl) ?_
      refine lv_aload_n hx hb d_SS_seekDue_7 rfl (lv_at hl 0 rfl) ?_
      refine va_get (D := (dC, dI)) (ci := 4) (v := .int (SS_kept ss_1)) (C := R_SS) (T := F_SS) (N := 12) hx hb hts (in_SS _) hown hK hP 0 rfl rfl 11 (by decide) (hts _ (List.mem_cons_of_mem _ mw_102)) (fun _ h9 => h9) rfl d_SS_seekDue_8 ?_
      refine lv_icmp_ge (tgt := 118) hx hb d_SS_seekDue_11 (by decide) (fun cb => ?_) (fun cb => ?_)
      · have hf := g_t hf cb
        obtain ⟨hq0, hr1⟩ := Prod.mk.inj (g_some hf)
        subst hq0
        subst hr1
        exact kk _ _ _ hP hD hS (lv_sub hl [2] rfl)
      · have hf := g_f hf cb
        refine lv_aload_n hx hb d_SS_seekDue_14 rfl (lv_at hl 0 rfl) ?_
        refine va_get (D := (dC, dI)) (ci := 4) (v := .ref (a 11)) (C := R_SS) (T := F_SS) (N := 12) hx hb hts (in_SS _) hown hK hP 0 rfl rfl 10 (by decide) (hts _ (List.mem_cons_of_mem _ mw_101)) (fun _ h9 => h9) rfl d_SS_seekDue_15 ?_
        refine lv_iload hx hb d_SS_seekDue_18 (lv_at hl 3 rfl) ?_
        obtain ⟨ck, hf⟩ := g_ck hf
        refine va_iald (D := (dC, dI)) hx hb hK hP 11 0 rfl rfl ck d_SS_seekDue_20 ?_
        refine lv_topi (fun v5 h_v5 => ?_)
        have hf := g_let hf h_v5
        refine lv_istore (lv' := [(5, .int v5), (0, .ref (a 0)), (1, .long x1), (3, .int v3), (4, .int v4)]) hx hb d_SS_seekDue_21 hl (by decide) rfl (fun ls hl => ?_)
        refine lv_aload_n hx hb d_SS_seekDue_23 rfl (lv_at hl 1 rfl) ?_
        refine va_get (D := (dC, dI)) (ci := 4) (v := .ref (a 6)) (C := R_SS) (T := F_SS) (N := 12) hx hb hts (in_SS _) hown hK hP 0 rfl rfl 5 (by decide) (hts _ (List.mem_cons_of_mem _ mw_91)) (fun _ h9 => h9) rfl d_SS_seekDue_24 ?_
        refine lv_iload hx hb d_SS_seekDue_27 (lv_at hl 0 rfl) ?_
        obtain ⟨ck_1, hf⟩ := g_ck hf
        refine va_zald (D := (dC, dI)) hx hb hK hP 6 2 rfl rfl ck_1 d_SS_seekDue_29 ?_
        refine lv_if_ne (tgt := 112) hx hb d_SS_seekDue_30 (by decide) (fun cb_1 => ?_) (fun cb_1 => ?_)
        · have hf := g_f hf cb_1
          obtain ⟨v4_1, h_v4_1⟩ : ∃ z : Int32, z = v4 + 1 := ⟨_, rfl⟩
          have hf := g_let hf h_v4_1
          refine lv_iinc (v := v4_1) (lv' := [(4, .int v4_1), (5, .int v5), (0, .ref (a 0)), (1, .long x1), (3, .int v3)]) hx hb d_SS_seekDue_112 hl (k := 4) rfl (by rw [h_v4_1]; rfl) (by decide) rfl (fun ls hl => ?_)
          refine lv_goto (tgt := 5) hx hb d_SS_seekDue_115 (by decide) ?_
          exact ih v3 v4_1 ss_1 v3_1 ss_2 hf H locs ls hP hD hS (lv_sub hl [2, 3, 4, 0] rfl) kk
        · have hf := g_t hf cb_1
          refine lv_aload_n hx hb d_SS_seekDue_33 rfl (lv_at hl 1 rfl) ?_
          refine va_get (D := (dC, dI)) (ci := 4) (v := .ref (a 3)) (C := R_SS) (T := F_SS) (N := 12) hx hb hts (in_SS _) hown hK hP 0 rfl rfl 2 (by decide) (hts _ (List.mem_cons_of_mem _ mw_85)) (fun _ h9 => h9) rfl d_SS_seekDue_34 ?_
          refine lv_iload hx hb d_SS_seekDue_37 (lv_at hl 0 rfl) ?_
          refine va_lald (D := (dC, dI)) hx hb hK hP 3 1 rfl rfl ck_1 d_SS_seekDue_39 ?_
          refine lv_lload_n hx hb d_SS_seekDue_40 rfl (lv_at hl 2 rfl) ?_
          refine cq_gt (tgt := 112) hx hb d_SS_seekDue_41 d_SS_seekDue_42 (by decide) (fun cb_2 => ?_) (fun cb_2 => ?_)
          · have hf := g_t hf cb_2
            obtain ⟨v4_2, h_v4_2⟩ : ∃ z : Int32, z = v4 + 1 := ⟨_, rfl⟩
            have hf := g_let hf h_v4_2
            refine lv_iinc (v := v4_2) (lv' := [(4, .int v4_2), (5, .int v5), (0, .ref (a 0)), (1, .long x1), (3, .int v3)]) hx hb d_SS_seekDue_112 hl (k := 4) rfl (by rw [h_v4_2]; rfl) (by decide) rfl (fun ls hl => ?_)
            refine lv_goto (tgt := 5) hx hb d_SS_seekDue_115 (by decide) ?_
            exact ih v3 v4_2 ss_1 v3_1 ss_2 hf H locs ls hP hD hS (lv_sub hl [2, 3, 4, 0] rfl) kk
          · have hf := g_f hf cb_2
            refine lv_iload_n hx hb d_SS_seekDue_45 rfl (lv_at hl 3 rfl) ?_
            refine lv_istore (lv' := [(6, .int v3), (5, .int v5), (0, .ref (a 0)), (1, .long x1), (3, .int v3), (4, .int v4)]) hx hb d_SS_seekDue_46 hl (by decide) rfl (fun ls hl => ?_)
            have L_48 : ∀ (n : Nat) (v6 : Int32) (ss_3 : SSt) (v6_1 : Int32) (ss_4 : SSt), f_SS_seekDue_L48 v5 n v6 ss_3 = some (v6_1, ss_4) → ∀ (H : Heap) (locs : List Loc) (ls : Array Slot), va_P (dC, dI) classes (wSS tC a ss_3) H → va_D A (wSS tC a ss_3) → va_S A s.heap H locs → lv_has ls 7 [(0, .ref (a 0)), (1, .long x1), (3, .int v3), (4, .int v4), (5, .int v5), (6, .int v6)] → (∀ (H : Heap) (locs : List Loc) (ls : Array Slot), va_P (dC, dI) classes (wSS tC a ss_4) H → va_D A (wSS tC a ss_4) → va_S A s.heap H locs → lv_has ls 7 [(0, .ref (a 0)), (1, .long x1), (3, .int v3), (4, .int v4), (5, .int v5), (6, .int v6_1)] → W p l e { frames := 0, cells := 0, slots := 0, locals := 0 } s m [.ref (a 0), .long x1].toArray below meth c H locs 0 0 (cx_Z (dC, dI) classes below [.ref (a 0), .long x1] s (wSS tC a ssR) (some (.int res)) A) (F0 m 100 ls [])) → W p l e { frames := 0, cells := 0, slots := 0, locals := 0 } s m [.ref (a 0), .long x1].toArray below meth c H locs 0 0 (cx_Z (dC, dI) classes below [.ref (a 0), .long x1] s (wSS tC a ssR) (some (.int res)) A) (F0 m 48 ls []) := by
              intro n
              induction n with
              | zero =>
                intro v6 ss_3 v6_1 ss_4 hf
                rw [f_SS_seekDue_L48] at hf
                cases hf
              | succ n ih =>
                intro v6 ss_3 v6_1 ss_4 hf H locs ls hP hD hS hl kk
                rw [f_SS_seekDue_L48] at hf
                refine lv_iload hx hb d_SS_seekDue_48 (lv_at hl 5 rfl) ?_
                refine lv_if_le (tgt := 100) hx hb d_SS_seekDue_50 (by decide) (fun cb_3 => ?_) (fun cb_3 => ?_)
                · have hf := g_t hf cb_3
                  obtain ⟨hq0, hr1⟩ := Prod.mk.inj (g_some hf)
                  subst hq0
                  subst hr1
                  exact kk _ _ _ hP hD hS (lv_sub hl [0, 1, 2, 3, 4, 5] rfl)
                · have hf := g_f hf cb_3
                  refine lv_aload_n hx hb d_SS_seekDue_53 rfl (lv_at hl 0 rfl) ?_
                  refine va_get (D := (dC, dI)) (ci := 4) (v := .ref (a 3)) (C := R_SS) (T := F_SS) (N := 12) hx hb hts (in_SS _) hown hK hP 0 rfl rfl 2 (by decide) (hts _ (List.mem_cons_of_mem _ mw_85)) (fun _ h9 => h9) rfl d_SS_seekDue_54 ?_
                  refine lv_aload_n hx hb d_SS_seekDue_57 rfl (lv_at hl 0 rfl) ?_
                  refine va_get (D := (dC, dI)) (ci := 4) (v := .ref (a 10)) (C := R_SS) (T := F_SS) (N := 12) hx hb hts (in_SS _) hown hK hP 0 rfl rfl 9 (by decide) (hts _ (List.mem_cons_of_mem _ mw_99)) (fun _ h9 => h9) rfl d_SS_seekDue_58 ?_
                  refine lv_iload hx hb d_SS_seekDue_61 (lv_at hl 5 rfl) ?_
                  refine lv_iconst (v := 1) hx hb d_SS_seekDue_63 (by decide) ?_
                  refine lv_isub hx hb d_SS_seekDue_64 ?_
                  obtain ⟨ck_2, hf⟩ := g_ck hf
                  refine va_iald (D := (dC, dI)) hx hb hK hP 10 0 rfl rfl ck_2 d_SS_seekDue_65 ?_
                  obtain ⟨ck_3, hf⟩ := g_ck hf
                  refine va_lald (D := (dC, dI)) hx hb hK hP 3 1 rfl rfl ck_3 d_SS_seekDue_66 ?_
                  refine lv_aload_n hx hb d_SS_seekDue_67 rfl (lv_at hl 0 rfl) ?_
                  refine va_get (D := (dC, dI)) (ci := 4) (v := .ref (a 3)) (C := R_SS) (T := F_SS) (N := 12) hx hb hts (in_SS _) hown hK hP 0 rfl rfl 2 (by decide) (hts _ (List.mem_cons_of_mem _ mw_85)) (fun _ h9 => h9) rfl d_SS_seekDue_68 ?_
                  refine lv_iload hx hb d_SS_seekDue_71 (lv_at hl 4 rfl) ?_
                  refine va_lald (D := (dC, dI)) hx hb hK hP 3 1 rfl rfl ck_1 d_SS_seekDue_73 ?_
                  refine cq_le (tgt := 100) hx hb d_SS_seekDue_74 d_SS_seekDue_75 (by decide) (fun cb_4 => ?_) (fun cb_4 => ?_)
                  · have hf := g_t hf cb_4
                    obtain ⟨hq0, hr1⟩ := Prod.mk.inj (g_some hf)
                    subst hq0
                    subst hr1
                    exact kk _ _ _ hP hD hS (lv_sub hl [0, 1, 2, 3, 4, 5] rfl)
                  · have hf := g_f hf cb_4
                    refine lv_aload_n hx hb d_SS_seekDue_78 rfl (lv_at hl 0 rfl) ?_
                    refine va_get (D := (dC, dI)) (ci := 4) (v := .ref (a 10)) (C := R_SS) (T := F_SS) (N := 12) hx hb hts (in_SS _) hown hK hP 0 rfl rfl 9 (by decide) (hts _ (List.mem_cons_of_mem _ mw_99)) (fun _ h9 => h9) rfl d_SS_seekDue_79 ?_
                    refine lv_iload hx hb d_SS_seekDue_82 (lv_at hl 5 rfl) ?_
                    refine lv_aload_n hx hb d_SS_seekDue_84 rfl (lv_at hl 0 rfl) ?_
                    refine va_get (D := (dC, dI)) (ci := 4) (v := .ref (a 10)) (C := R_SS) (T := F_SS) (N := 12) hx hb hts (in_SS _) hown hK hP 0 rfl rfl 9 (by decide) (hts _ (List.mem_cons_of_mem _ mw_99)) (fun _ h9 => h9) rfl d_SS_seekDue_85 ?_
                    refine lv_iload hx hb d_SS_seekDue_88 (lv_at hl 5 rfl) ?_
                    refine lv_iconst (v := 1) hx hb d_SS_seekDue_90 (by decide) ?_
                    refine lv_isub hx hb d_SS_seekDue_91 ?_
                    refine va_iald (D := (dC, dI)) hx hb hK hP 10 0 rfl rfl ck_2 d_SS_seekDue_92 ?_
                    obtain ⟨ck_4, hf⟩ := g_ck hf
                    refine va_iast (D := (dC, dI)) hx hb hK hP hD hS 10 0 rfl rfl ck_4 d_SS_seekDue_93 (fun H locs hP hD hS => ?_)
                    have hP : va_P (dC, dI) classes (wSS tC a (sSS_due ss_3 (upd (SS_due ss_3) v6.toNatClampNeg (SS_due ss_3 (v6 - 1).toNatClampNeg)))) H := hP
                    have hD : va_D A (wSS tC a (sSS_due ss_3 (upd (SS_due ss_3) v6.toNatClampNeg (SS_due ss_3 (v6 - 1).toNatClampNeg)))) := hD
                    obtain ⟨v6_2, h_v6_2⟩ : ∃ z : Int32, z = v6 + (-1) := ⟨_, rfl⟩
                    have hf := g_let hf h_v6_2
                    refine lv_iinc (v := v6_2) (lv' := [(6, .int v6_2), (0, .ref (a 0)), (1, .long x1), (3, .int v3), (4, .int v4), (5, .int v5)]) hx hb d_SS_seekDue_94 hl (k := 5) rfl (by rw [h_v6_2]; rfl) (by decide) rfl (fun ls hl => ?_)
                    refine lv_goto (tgt := 48) hx hb d_SS_seekDue_97 (by decide) ?_
                    obtain ⟨ss_5, h_ss_5⟩ : ∃ z : SSt, z = (sSS_due ss_3 (upd (SS_due ss_3) v6.toNatClampNeg (SS_due ss_3 (v6 - 1).toNatClampNeg))) := ⟨_, rfl⟩
                    have hf := g_let hf h_ss_5
                    have hP : va_P (dC, dI) classes (wSS tC a ss_5) H := by rw [h_ss_5]; exact hP
                    have hD : va_D A (wSS tC a ss_5) := by rw [h_ss_5]; exact hD
                    exact ih v6_2 ss_5 v6_1 ss_4 hf H locs ls hP hD hS (lv_sub hl [1, 2, 3, 4, 5, 0] rfl) kk
            obtain ⟨⟨v6_1, ss_4⟩, hL_48, hf⟩ := g_bind hf
            try dsimp only at hf
            refine L_48 k v3 ss_1 v6_1 ss_4 hL_48 H locs ls hP hD hS (lv_sub hl [2, 3, 4, 5, 1, 0] rfl) (fun H locs ls hP hD hS hl => ?_)
            refine lv_aload_n hx hb d_SS_seekDue_100 rfl (lv_at hl 0 rfl) ?_
            refine va_get (D := (dC, dI)) (ci := 4) (v := .ref (a 10)) (C := R_SS) (T := F_SS) (N := 12) hx hb hts (in_SS _) hown hK hP 0 rfl rfl 9 (by decide) (hts _ (List.mem_cons_of_mem _ mw_99)) (fun _ h9 => h9) rfl d_SS_seekDue_101 ?_
            refine lv_iload hx hb d_SS_seekDue_104 (lv_at hl 5 rfl) ?_
            refine lv_iload hx hb d_SS_seekDue_106 (lv_at hl 4 rfl) ?_
            obtain ⟨ck_5, hf⟩ := g_ck hf
            refine va_iast (D := (dC, dI)) hx hb hK hP hD hS 10 0 rfl rfl ck_5 d_SS_seekDue_108 (fun H locs hP hD hS => ?_)
            have hP : va_P (dC, dI) classes (wSS tC a (sSS_due ss_4 (upd (SS_due ss_4) v6_1.toNatClampNeg v5))) H := hP
            have hD : va_D A (wSS tC a (sSS_due ss_4 (upd (SS_due ss_4) v6_1.toNatClampNeg v5))) := hD
            obtain ⟨v3_2, h_v3_2⟩ : ∃ z : Int32, z = v3 + 1 := ⟨_, rfl⟩
            have hf := g_let hf h_v3_2
            refine lv_iinc (v := v3_2) (lv' := [(3, .int v3_2), (0, .ref (a 0)), (1, .long x1), (4, .int v4), (5, .int v5), (6, .int v6_1)]) hx hb d_SS_seekDue_109 hl (k := 2) rfl (by rw [h_v3_2]; rfl) (by decide) rfl (fun ls hl => ?_)
            obtain ⟨v4_3, h_v4_3⟩ : ∃ z : Int32, z = v4 + 1 := ⟨_, rfl⟩
            have hf := g_let hf h_v4_3
            refine lv_iinc (v := v4_3) (lv' := [(4, .int v4_3), (3, .int v3_2), (0, .ref (a 0)), (1, .long x1), (5, .int v5), (6, .int v6_1)]) hx hb d_SS_seekDue_112 hl (k := 3) rfl (by rw [h_v4_3]; rfl) (by decide) rfl (fun ls hl => ?_)
            refine lv_goto (tgt := 5) hx hb d_SS_seekDue_115 (by decide) ?_
            obtain ⟨ss_6, h_ss_6⟩ : ∃ z : SSt, z = (sSS_due ss_4 (upd (SS_due ss_4) v6_1.toNatClampNeg v5)) := ⟨_, rfl⟩
            have hf := g_let hf h_ss_6
            have hP : va_P (dC, dI) classes (wSS tC a ss_6) H := by rw [h_ss_6]; exact hP
            have hD : va_D A (wSS tC a ss_6) := by rw [h_ss_6]; exact hD
            exact ih v3_2 v4_3 ss_6 v3_1 ss_2 hf H locs ls hP hD hS (lv_sub hl [2, 3, 1, 0] rfl) kk
  obtain ⟨⟨v3_1, ss_2⟩, hL_5, hf⟩ := g_bind hf
  try dsimp only at hf
  refine L_5 k 0 0 ss v3_1 ss_2 hL_5 H locs ls hP hD hS (lv_sub hl [2, 3, 1, 0] rfl) (fun H locs ls hP hD hS hl => ?_)
  refine lv_iload_n hx hb d_SS_seekDue_118 rfl (lv_at hl 0 rfl) ?_
  obtain ⟨hq0, hr1⟩ := Prod.mk.inj (g_some hf)
  subst hq0
  subst hr1
  exact cx_iret hx hb hr hlocks hP hS d_SS_seekDue_119
def f_SS_dropEndsUpTo_L2 (x1 : Int64) : Nat → Int32 → SSt → Option (SSt)
  | 0, _, _ => none
  | n + 1, v3, ss_1 =>
    if (SS_kept ss_1) ≤ v3 then (
      some ss_1
    ) else
    if v3 < 0 ∨ 200 ≤ v3.toNatClampNeg then none else
    gl_let ((SS_order ss_1 v3.toNatClampNeg)) fun v4 =>
    if v4 < 0 ∨ 200 ≤ v4.toNatClampNeg then none else
    if x1 < (SS_ends ss_1 v4.toNatClampNeg) then (
      gl_let (v3 + 1) fun v3_1 =>
      f_SS_dropEndsUpTo_L2 x1 n v3_1 ss_1
    ) else
    gl_let (v3 + 1) fun v3_2 =>
    gl_let ((sSS_keys ss_1 (upd (SS_keys ss_1) v4.toNatClampNeg (-1))) : SSt) fun ss_3 =>
    f_SS_dropEndsUpTo_L2 x1 n v3_2 ss_3
def f_SS_dropEndsUpTo (k : Nat) (x1 : Int64) (ss : SSt) : Option SSt :=
  (f_SS_dropEndsUpTo_L2 x1 k 0 ss).bind fun ss_2 =>
  (f_SS_sweep k ss_2).bind fun ss_4 =>
  some ss_4
set_option maxHeartbeats 4000000 in
set_option maxRecDepth 100000 in
theorem c_SS_dropEndsUpTo (l : Launch) (dC : Nat → ClassId) (dI : Nat → Nat → Nat) (tC : Nat → ClassId) (a : Nat → Nat) (k : Nat) (x1 : Int64) (ss : SSt) (ssR : SSt) (hf : f_SS_dropEndsUpTo k x1 ss = some ssR) : cx_M l y_SS_dropEndsUpTo w_SS_dropEndsUpTo { frames := 1, cells := 0, slots := 0, locals := 23 } (dC, dI) classes (tyS tC) [.ref (a 0), .long x1] (wSS tC a ss) (wSS tC a ssR) (none) := by
  refine cx_of (cc := b_SS_dropEndsUpTo) (maxL := 5) (ret := none) (plainFor_of_name (by decide)) rfl (Nat.le_of_ble_eq_true rfl) ?_
  intro p e s m below meth c hx hb hr hml hown hts hlocks A hA H locs ls hK hN hP hD hS hl
  have hown : s.vm.findClass R_SS = some m.cls := hown
  have hl : lv_has ls 5 [(0, .ref (a 0)), (1, .long x1)] := hl
  unfold f_SS_dropEndsUpTo at hf
  refine lv_iconst (v := 0) hx hb d_SS_dropEndsUpTo_0 (by decide) ?_
  refine lv_istore_n (lv' := [(3, .int 0), (0, .ref (a 0)), (1, .long x1)]) hx hb d_SS_dropEndsUpTo_1 rfl hl (by decide) rfl (fun ls hl => ?_)
  have L_2 : ∀ (n : Nat) (v3 : Int32) (ss_1 : SSt) (ss_2 : SSt), f_SS_dropEndsUpTo_L2 x1 n v3 ss_1 = some ss_2 → ∀ (H : Heap) (locs : List Loc) (ls : Array Slot), va_P (dC, dI) classes (wSS tC a ss_1) H → va_D A (wSS tC a ss_1) → va_S A s.heap H locs → lv_has ls 5 [(0, .ref (a 0)), (1, .long x1), (3, .int v3)] → (∀ (H : Heap) (locs : List Loc) (ls : Array Slot), va_P (dC, dI) classes (wSS tC a ss_2) H → va_D A (wSS tC a ss_2) → va_S A s.heap H locs → lv_has ls 5 [(0, .ref (a 0))] → W p l e { frames := 1, cells := 0, slots := 0, locals := 23 } s m [.ref (a 0), .long x1].toArray below meth c H locs 0 0 (cx_Z (dC, dI) classes below [.ref (a 0), .long x1] s (wSS tC a ssR) (none) A) (F0 m 44 ls [])) → W p l e { frames := 1, cells := 0, slots := 0, locals := 23 } s m [.ref (a 0), .long x1].toArray below meth c H locs 0 0 (cx_Z (dC, dI) classes below [.ref (a 0), .long x1] s (wSS tC a ssR) (none) A) (F0 m 2 ls []) := by
    intro n
    induction n with
    | zero =>
      intro v3 ss_1 ss_2 hf
      rw [f_SS_dropEndsUpTo_L2] at hf
      cases hf
    | succ n ih =>
      intro v3 ss_1 ss_2 hf H locs ls hP hD hS hl kk
      rw [f_SS_dropEndsUpTo_L2] at hf
      refine lv_iload_n hx hb d_SS_dropEndsUpTo_2 rfl (lv_at hl 2 rfl) ?_
      refine lv_aload_n hx hb d_SS_dropEndsUpTo_3 rfl (lv_at hl 0 rfl) ?_
      refine va_get (D := (dC, dI)) (ci := 4) (v := .int (SS_kept ss_1)) (C := R_SS) (T := F_SS) (N := 12) hx hb hts (in_SS _) hown hK hP 0 rfl rfl 11 (by decide) (hts _ (List.mem_cons_of_mem _ mw_102)) (fun _ h9 => h9) rfl d_SS_dropEndsUpTo_4 ?_
      refine lv_icmp_ge (tgt := 44) hx hb d_SS_dropEndsUpTo_7 (by decide) (fun cb => ?_) (fun cb => ?_)
      · have hf := g_t hf cb
        have hq0 := (g_some hf)
        subst hq0
        exact kk _ _ _ hP hD hS (lv_sub hl [0] rfl)
      · have hf := g_f hf cb
        refine lv_aload_n hx hb d_SS_dropEndsUpTo_10 rfl (lv_at hl 0 rfl) ?_
        refine va_get (D := (dC, dI)) (ci := 4) (v := .ref (a 11)) (C := R_SS) (T := F_SS) (N := 12) hx hb hts (in_SS _) hown hK hP 0 rfl rfl 10 (by decide) (hts _ (List.mem_cons_of_mem _ mw_101)) (fun _ h9 => h9) rfl d_SS_dropEndsUpTo_11 ?_
        refine lv_iload_n hx hb d_SS_dropEndsUpTo_14 rfl (lv_at hl 2 rfl) ?_
        obtain ⟨ck, hf⟩ := g_ck hf
        refine va_iald (D := (dC, dI)) hx hb hK hP 11 0 rfl rfl ck d_SS_dropEndsUpTo_15 ?_
        refine lv_topi (fun v4 h_v4 => ?_)
        have hf := g_let hf h_v4
        refine lv_istore (lv' := [(4, .int v4), (0, .ref (a 0)), (1, .long x1), (3, .int v3)]) hx hb d_SS_dropEndsUpTo_16 hl (by decide) rfl (fun ls hl => ?_)
        refine lv_aload_n hx hb d_SS_dropEndsUpTo_18 rfl (lv_at hl 1 rfl) ?_
        refine va_get (D := (dC, dI)) (ci := 4) (v := .ref (a 3)) (C := R_SS) (T := F_SS) (N := 12) hx hb hts (in_SS _) hown hK hP 0 rfl rfl 2 (by decide) (hts _ (List.mem_cons_of_mem _ mw_85)) (fun _ h9 => h9) rfl d_SS_dropEndsUpTo_19 ?_
        refine lv_iload hx hb d_SS_dropEndsUpTo_22 (lv_at hl 0 rfl) ?_
        obtain ⟨ck_1, hf⟩ := g_ck hf
        refine va_lald (D := (dC, dI)) hx hb hK hP 3 1 rfl rfl ck_1 d_SS_dropEndsUpTo_24 ?_
        refine lv_lload_n hx hb d_SS_dropEndsUpTo_25 rfl (lv_at hl 2 rfl) ?_
        refine cq_gt (tgt := 38) hx hb d_SS_dropEndsUpTo_26 d_SS_dropEndsUpTo_27 (by decide) (fun cb_1 => ?_) (fun cb_1 => ?_)
        · have hf := g_t hf cb_1
          obtain ⟨v3_1, h_v3_1⟩ : ∃ z : Int32, z = v3 + 1 := ⟨_, rfl⟩
          have hf := g_let hf h_v3_1
          refine lv_iinc (v := v3_1) (lv' := [(3, .int v3_1), (4, .int v4), (0, .ref (a 0)), (1, .long x1)]) hx hb d_SS_dropEndsUpTo_38 hl (k := 3) rfl (by rw [h_v3_1]; rfl) (by decide) rfl (fun ls hl => ?_)
          refine lv_goto (tgt := 2) hx hb d_SS_dropEndsUpTo_41 (by decide) ?_
          exact ih v3_1 ss_1 ss_2 hf H locs ls hP hD hS (lv_sub hl [2, 3, 0] rfl) kk
        · have hf := g_f hf cb_1
          refine lv_aload_n hx hb d_SS_dropEndsUpTo_30 rfl (lv_at hl 1 rfl) ?_
          refine va_get (D := (dC, dI)) (ci := 4) (v := .ref (a 1)) (C := R_SS) (T := F_SS) (N := 12) hx hb hts (in_SS _) hown hK hP 0 rfl rfl 0 (by decide) (hts _ (List.mem_cons_of_mem _ mw_81)) (fun _ h9 => h9) rfl d_SS_dropEndsUpTo_31 ?_
          refine lv_iload hx hb d_SS_dropEndsUpTo_34 (lv_at hl 0 rfl) ?_
          refine lv_iconst (v := (-1)) hx hb d_SS_dropEndsUpTo_36 (by decide) ?_
          refine va_iast (D := (dC, dI)) hx hb hK hP hD hS 1 0 rfl rfl ck_1 d_SS_dropEndsUpTo_37 (fun H locs hP hD hS => ?_)
          have hP : va_P (dC, dI) classes (wSS tC a (sSS_keys ss_1 (upd (SS_keys ss_1) v4.toNatClampNeg (-1)))) H := hP
          have hD : va_D A (wSS tC a (sSS_keys ss_1 (upd (SS_keys ss_1) v4.toNatClampNeg (-1)))) := hD
          obtain ⟨v3_2, h_v3_2⟩ : ∃ z : Int32, z = v3 + 1 := ⟨_, rfl⟩
          have hf := g_let hf h_v3_2
          refine lv_iinc (v := v3_2) (lv' := [(3, .int v3_2), (4, .int v4), (0, .ref (a 0)), (1, .long x1)]) hx hb d_SS_dropEndsUpTo_38 hl (k := 3) rfl (by rw [h_v3_2]; rfl) (by decide) rfl (fun ls hl => ?_)
          refine lv_goto (tgt := 2) hx hb d_SS_dropEndsUpTo_41 (by decide) ?_
          obtain ⟨ss_3, h_ss_3⟩ : ∃ z : SSt, z = (sSS_keys ss_1 (upd (SS_keys ss_1) v4.toNatClampNeg (-1))) := ⟨_, rfl⟩
          have hf := g_let hf h_ss_3
          have hP : va_P (dC, dI) classes (wSS tC a ss_3) H := by rw [h_ss_3]; exact hP
          have hD : va_D A (wSS tC a ss_3) := by rw [h_ss_3]; exact hD
          exact ih v3_2 ss_3 ss_2 hf H locs ls hP hD hS (lv_sub hl [2, 3, 0] rfl) kk
  obtain ⟨ss_2, hL_2, hf⟩ := g_bind hf
  try dsimp only at hf
  refine L_2 k 0 ss ss_2 hL_2 H locs ls hP hD hS (lv_sub hl [1, 2, 0] rfl) (fun H locs ls hP hD hS hl => ?_)
  refine lv_aload_n hx hb d_SS_dropEndsUpTo_44 rfl (lv_at hl 0 rfl) ?_
  obtain ⟨ss_4, hc, hf⟩ := g_bind hf
  try dsimp only at hf
  refine cx_callV (As := []) (rest := []) ⟨hx, hb, hml, hown, hts⟩ (c_SS_sweep l dC dI tC a k ss_2 ss_4 hc) (k_SS_76 hts ⟨Nat.le_of_ble_eq_true rfl, Nat.le_of_ble_eq_true rfl⟩) hl.1 hP hD hS hA hK hN [0, 1, 2, 3, 4, 5, 6, 7, 8, 9, 10, 11] 0 4 rfl rfl rfl rfl rfl rfl rfl rfl (Nat.le_of_ble_eq_true rfl) d_SS_dropEndsUpTo_45 ⟨Nat.zero_le _, Nat.zero_le _⟩ (fun H locs hP hD hS => ?_)
  have hP : va_P (dC, dI) classes (wSS tC a ss_4) H := hP
  have hD : va_D A (wSS tC a ss_4) := hD
  refine W.eq (g2 := F0 m 48 ls []) rfl ?_
  have hq0 := (g_some hf)
  subst hq0
  exact cx_vret hx hb hr hlocks hP hS d_SS_dropEndsUpTo_48
def f_SS_uniteRows_L16 (v1 : Int32) : Nat → Int32 → SSt → Option (SSt)
  | 0, _, _ => none
  | n + 1, v2, ss_4 =>
    if (SS_kept ss_4) ≤ v2 then (
      some ss_4
    ) else
    if v2 < 0 ∨ 200 ≤ v2.toNatClampNeg then none else
    if (((SS_order ss_4 v2.toNatClampNeg) * 5) + v1) < 0 ∨ 1000 ≤ (((SS_order ss_4 v2.toNatClampNeg) * 5) + v1).toNatClampNeg then none else
    gl_let (v2 + 1) fun v2_1 =>
    gl_let ((sSS_united ss_4 (vp_updL (SS_united ss_4) v1.toNatClampNeg ((SS_united ss_4 v1.toNatClampNeg) ||| (SS_had ss_4 (((SS_order ss_4 v2.toNatClampNeg) * 5) + v1).toNatClampNeg)))) : SSt) fun ss_6 =>
    f_SS_uniteRows_L16 v1 n v2_1 ss_6
def f_SS_uniteRows_L2 (k : Nat) : Nat → Int32 → SSt → Option (SSt)
  | 0, _, _ => none
  | n + 1, v1, ss_1 =>
    if 5 ≤ v1 then (
      some ss_1
    ) else
    if v1 < 0 ∨ 5 ≤ v1.toNatClampNeg then none else
    gl_let ((sSS_united ss_1 (vp_updL (SS_united ss_1) v1.toNatClampNeg 0)) : SSt) fun ss_3 =>
    (f_SS_uniteRows_L16 v1 k 0 ss_3).bind fun ss_5 =>
    gl_let (v1 + 1) fun v1_1 =>
    f_SS_uniteRows_L2 k n v1_1 ss_5
def f_SS_uniteRows (k : Nat) (ss : SSt) : Option SSt :=
  (f_SS_uniteRows_L2 k k 0 ss).bind fun ss_2 =>
  some ss_2
set_option maxHeartbeats 4000000 in
set_option maxRecDepth 100000 in
theorem c_SS_uniteRows (l : Launch) (dC : Nat → ClassId) (dI : Nat → Nat → Nat) (tC : Nat → ClassId) (a : Nat → Nat) (k : Nat) (ss : SSt) (ssR : SSt) (hf : f_SS_uniteRows k ss = some ssR) : cx_M l y_SS_uniteRows w_SS_uniteRows { frames := 0, cells := 0, slots := 0, locals := 0 } (dC, dI) classes (tyS tC) [.ref (a 0)] (wSS tC a ss) (wSS tC a ssR) (none) := by
  refine cx_of (cc := b_SS_uniteRows) (maxL := 3) (ret := none) (plainFor_of_name (by decide)) rfl (Nat.le_of_ble_eq_true rfl) ?_
  intro p e s m below meth c hx hb hr hml hown hts hlocks A hA H locs ls hK hN hP hD hS hl
  have hown : s.vm.findClass R_SS = some m.cls := hown
  have hl : lv_has ls 3 [(0, .ref (a 0))] := hl
  unfold f_SS_uniteRows at hf
  refine lv_iconst (v := 0) hx hb d_SS_uniteRows_0 (by decide) ?_
  refine lv_istore_n (lv' := [(1, .int 0), (0, .ref (a 0))]) hx hb d_SS_uniteRows_1 rfl hl (by decide) rfl (fun ls hl => ?_)
  have L_2 : ∀ (n : Nat) (v1 : Int32) (ss_1 : SSt) (ss_2 : SSt), f_SS_uniteRows_L2 k n v1 ss_1 = some ss_2 → ∀ (H : Heap) (locs : List Loc) (ls : Array Slot), va_P (dC, dI) classes (wSS tC a ss_1) H → va_D A (wSS tC a ss_1) → va_S A s.heap H locs → lv_has ls 3 [(0, .ref (a 0)), (1, .int v1)] → (∀ (H : Heap) (locs : List Loc) (ls : Array Slot), va_P (dC, dI) classes (wSS tC a ss_2) H → va_D A (wSS tC a ss_2) → va_S A s.heap H locs → lv_has ls 3 [] → W p l e { frames := 0, cells := 0, slots := 0, locals := 0 } s m [.ref (a 0)].toArray below meth c H locs 0 0 (cx_Z (dC, dI) classes below [.ref (a 0)] s (wSS tC a ssR) (none) A) (F0 m 60 ls [])) → W p l e { frames := 0, cells := 0, slots := 0, locals := 0 } s m [.ref (a 0)].toArray below meth c H locs 0 0 (cx_Z (dC, dI) classes below [.ref (a 0)] s (wSS tC a ssR) (none) A) (F0 m 2 ls []) := by
    intro n
    induction n with
    | zero =>
      intro v1 ss_1 ss_2 hf
      rw [f_SS_uniteRows_L2] at hf
      cases hf
    | succ n ih =>
      intro v1 ss_1 ss_2 hf H locs ls hP hD hS hl kk
      rw [f_SS_uniteRows_L2] at hf
      refine lv_iload_n hx hb d_SS_uniteRows_2 rfl (lv_at hl 1 rfl) ?_
      refine lv_iconst (v := 5) hx hb d_SS_uniteRows_3 (by decide) ?_
      refine lv_icmp_ge (tgt := 60) hx hb d_SS_uniteRows_4 (by decide) (fun cb => ?_) (fun cb => ?_)
      · have hf := g_t hf cb
        have hq0 := (g_some hf)
        subst hq0
        exact kk _ _ _ hP hD hS (lv_sub hl [] rfl)
      · have hf := g_f hf cb
        refine lv_aload_n hx hb d_SS_uniteRows_7 rfl (lv_at hl 0 rfl) ?_
        refine va_get (D := (dC, dI)) (ci := 4) (v := .ref (a 9)) (C := R_SS) (T := F_SS) (N := 12) hx hb hts (in_SS _) hown hK hP 0 rfl rfl 8 (by decide) (hts _ (List.mem_cons_of_mem _ mw_97)) (fun _ h9 => h9) rfl d_SS_uniteRows_8 ?_
        refine lv_iload_n hx hb d_SS_uniteRows_11 rfl (lv_at hl 1 rfl) ?_
        refine lv_lconst (v := 0) hx hb d_SS_uniteRows_12 (by decide) ?_
        obtain ⟨ck, hf⟩ := g_ck hf
        refine va_last (D := (dC, dI)) hx hb hK hP hD hS 9 1 rfl rfl ck d_SS_uniteRows_13 (fun H locs hP hD hS => ?_)
        have hP : va_P (dC, dI) classes (wSS tC a (sSS_united ss_1 (vp_updL (SS_united ss_1) v1.toNatClampNeg 0))) H := hP
        have hD : va_D A (wSS tC a (sSS_united ss_1 (vp_updL (SS_united ss_1) v1.toNatClampNeg 0))) := hD
        refine lv_iconst (v := 0) hx hb d_SS_uniteRows_14 (by decide) ?_
        refine lv_istore_n (lv' := [(2, .int 0), (0, .ref (a 0)), (1, .int v1)]) hx hb d_SS_uniteRows_15 rfl hl (by decide) rfl (fun ls hl => ?_)
        obtain ⟨ss_3, h_ss_3⟩ : ∃ z : SSt, z = (sSS_united ss_1 (vp_updL (SS_united ss_1) v1.toNatClampNeg 0)) := ⟨_, rfl⟩
        have hf := g_let hf h_ss_3
        have hP : va_P (dC, dI) classes (wSS tC a ss_3) H := by rw [h_ss_3]; exact hP
        have hD : va_D A (wSS tC a ss_3) := by rw [h_ss_3]; exact hD
        have L_16 : ∀ (n : Nat) (v2 : Int32) (ss_4 : SSt) (ss_5 : SSt), f_SS_uniteRows_L16 v1 n v2 ss_4 = some ss_5 → ∀ (H : Heap) (locs : List Loc) (ls : Array Slot), va_P (dC, dI) classes (wSS tC a ss_4) H → va_D A (wSS tC a ss_4) → va_S A s.heap H locs → lv_has ls 3 [(0, .ref (a 0)), (1, .int v1), (2, .int v2)] → (∀ (H : Heap) (locs : List Loc) (ls : Array Slot), va_P (dC, dI) classes (wSS tC a ss_5) H → va_D A (wSS tC a ss_5) → va_S A s.heap H locs → lv_has ls 3 [(0, .ref (a 0)), (1, .int v1)] → W p l e { frames := 0, cells := 0, slots := 0, locals := 0 } s m [.ref (a 0)].toArray below meth c H locs 0 0 (cx_Z (dC, dI) classes below [.ref (a 0)] s (wSS tC a ssR) (none) A) (F0 m 54 ls [])) → W p l e { frames := 0, cells := 0, slots := 0, locals := 0 } s m [.ref (a 0)].toArray below meth c H locs 0 0 (cx_Z (dC, dI) classes below [.ref (a 0)] s (wSS tC a ssR) (none) A) (F0 m 16 ls []) := by
          intro n
          induction n with
          | zero =>
            intro v2 ss_4 ss_5 hf
            rw [f_SS_uniteRows_L16] at hf
            cases hf
          | succ n ih =>
            intro v2 ss_4 ss_5 hf H locs ls hP hD hS hl kk
            rw [f_SS_uniteRows_L16] at hf
            refine lv_iload_n hx hb d_SS_uniteRows_16 rfl (lv_at hl 2 rfl) ?_
            refine lv_aload_n hx hb d_SS_uniteRows_17 rfl (lv_at hl 0 rfl) ?_
            refine va_get (D := (dC, dI)) (ci := 4) (v := .int (SS_kept ss_4)) (C := R_SS) (T := F_SS) (N := 12) hx hb hts (in_SS _) hown hK hP 0 rfl rfl 11 (by decide) (hts _ (List.mem_cons_of_mem _ mw_102)) (fun _ h9 => h9) rfl d_SS_uniteRows_18 ?_
            refine lv_icmp_ge (tgt := 54) hx hb d_SS_uniteRows_21 (by decide) (fun cb_1 => ?_) (fun cb_1 => ?_)
            · have hf := g_t hf cb_1
              have hq0 := (g_some hf)
              subst hq0
              exact kk _ _ _ hP hD hS (lv_sub hl [0, 1] rfl)
            · have hf := g_f hf cb_1
              refine lv_aload_n hx hb d_SS_uniteRows_24 rfl (lv_at hl 0 rfl) ?_
              refine va_get (D := (dC, dI)) (ci := 4) (v := .ref (a 9)) (C := R_SS) (T := F_SS) (N := 12) hx hb hts (in_SS _) hown hK hP 0 rfl rfl 8 (by decide) (hts _ (List.mem_cons_of_mem _ mw_97)) (fun _ h9 => h9) rfl d_SS_uniteRows_25 ?_
              refine lv_iload_n hx hb d_SS_uniteRows_28 rfl (lv_at hl 1 rfl) ?_
              refine lv_dup2_11 hx hb d_SS_uniteRows_29 rfl rfl ?_
              refine va_lald (D := (dC, dI)) hx hb hK hP 9 1 rfl rfl ck d_SS_uniteRows_30 ?_
              refine lv_aload_n hx hb d_SS_uniteRows_31 rfl (lv_at hl 0 rfl) ?_
              refine va_get (D := (dC, dI)) (ci := 4) (v := .ref (a 7)) (C := R_SS) (T := F_SS) (N := 12) hx hb hts (in_SS _) hown hK hP 0 rfl rfl 6 (by decide) (hts _ (List.mem_cons_of_mem _ mw_93)) (fun _ h9 => h9) rfl d_SS_uniteRows_32 ?_
              refine lv_aload_n hx hb d_SS_uniteRows_35 rfl (lv_at hl 0 rfl) ?_
              refine va_get (D := (dC, dI)) (ci := 4) (v := .ref (a 11)) (C := R_SS) (T := F_SS) (N := 12) hx hb hts (in_SS _) hown hK hP 0 rfl rfl 10 (by decide) (hts _ (List.mem_cons_of_mem _ mw_101)) (fun _ h9 => h9) rfl d_SS_uniteRows_36 ?_
              refine lv_iload_n hx hb d_SS_uniteRows_39 rfl (lv_at hl 2 rfl) ?_
              obtain ⟨ck_1, hf⟩ := g_ck hf
              refine va_iald (D := (dC, dI)) hx hb hK hP 11 0 rfl rfl ck_1 d_SS_uniteRows_40 ?_
              refine lv_iconst (v := 5) hx hb d_SS_uniteRows_41 (by decide) ?_
              refine lv_imul hx hb d_SS_uniteRows_42 ?_
              refine lv_iload_n hx hb d_SS_uniteRows_43 rfl (lv_at hl 1 rfl) ?_
              refine lv_iadd hx hb d_SS_uniteRows_44 ?_
              obtain ⟨ck_2, hf⟩ := g_ck hf
              refine va_lald (D := (dC, dI)) hx hb hK hP 7 1 rfl rfl ck_2 d_SS_uniteRows_45 ?_
              refine lv_lor hx hb d_SS_uniteRows_46 ?_
              refine va_last (D := (dC, dI)) hx hb hK hP hD hS 9 1 rfl rfl ck d_SS_uniteRows_47 (fun H locs hP hD hS => ?_)
              have hP : va_P (dC, dI) classes (wSS tC a (sSS_united ss_4 (vp_updL (SS_united ss_4) v1.toNatClampNeg ((SS_united ss_4 v1.toNatClampNeg) ||| (SS_had ss_4 (((SS_order ss_4 v2.toNatClampNeg) * 5) + v1).toNatClampNeg))))) H := hP
              have hD : va_D A (wSS tC a (sSS_united ss_4 (vp_updL (SS_united ss_4) v1.toNatClampNeg ((SS_united ss_4 v1.toNatClampNeg) ||| (SS_had ss_4 (((SS_order ss_4 v2.toNatClampNeg) * 5) + v1).toNatClampNeg))))) := hD
              obtain ⟨v2_1, h_v2_1⟩ : ∃ z : Int32, z = v2 + 1 := ⟨_, rfl⟩
              have hf := g_let hf h_v2_1
              refine lv_iinc (v := v2_1) (lv' := [(2, .int v2_1), (0, .ref (a 0)), (1, .int v1)]) hx hb d_SS_uniteRows_48 hl (k := 2) rfl (by rw [h_v2_1]; rfl) (by decide) rfl (fun ls hl => ?_)
              refine lv_goto (tgt := 16) hx hb d_SS_uniteRows_51 (by decide) ?_
              obtain ⟨ss_6, h_ss_6⟩ : ∃ z : SSt, z = (sSS_united ss_4 (vp_updL (SS_united ss_4) v1.toNatClampNeg ((SS_united ss_4 v1.toNatClampNeg) ||| (SS_had ss_4 (((SS_order ss_4 v2.toNatClampNeg) * 5) + v1).toNatClampNeg)))) := ⟨_, rfl⟩
              have hf := g_let hf h_ss_6
              have hP : va_P (dC, dI) classes (wSS tC a ss_6) H := by rw [h_ss_6]; exact hP
              have hD : va_D A (wSS tC a ss_6) := by rw [h_ss_6]; exact hD
              exact ih v2_1 ss_6 ss_5 hf H locs ls hP hD hS (lv_sub hl [1, 2, 0] rfl) kk
        obtain ⟨ss_5, hL_16, hf⟩ := g_bind hf
        try dsimp only at hf
        refine L_16 k 0 ss_3 ss_5 hL_16 H locs ls hP hD hS (lv_sub hl [1, 2, 0] rfl) (fun H locs ls hP hD hS hl => ?_)
        obtain ⟨v1_1, h_v1_1⟩ : ∃ z : Int32, z = v1 + 1 := ⟨_, rfl⟩
        have hf := g_let hf h_v1_1
        refine lv_iinc (v := v1_1) (lv' := [(1, .int v1_1), (0, .ref (a 0))]) hx hb d_SS_uniteRows_54 hl (k := 1) rfl (by rw [h_v1_1]; rfl) (by decide) rfl (fun ls hl => ?_)
        refine lv_goto (tgt := 2) hx hb d_SS_uniteRows_57 (by decide) ?_
        exact ih v1_1 ss_5 ss_2 hf H locs ls hP hD hS (lv_sub hl [1, 0] rfl) kk
  obtain ⟨ss_2, hL_2, hf⟩ := g_bind hf
  try dsimp only at hf
  refine L_2 k 0 ss ss_2 hL_2 H locs ls hP hD hS (lv_sub hl [1, 0] rfl) (fun H locs ls hP hD hS hl => ?_)
  have hq0 := (g_some hf)
  subst hq0
  exact cx_vret hx hb hr hlocks hP hS d_SS_uniteRows_60
def f_SS_ofKey_L4 (x1 : Int32) (ss : SSt) : Nat → Int32 → Int32 → Option (Int32)
  | 0, _, _ => none
  | n + 1, v2, v3 =>
    if (SS_kept ss) ≤ v3 then (
      some v2
    ) else
    if v3 < 0 ∨ 200 ≤ v3.toNatClampNeg then none else
    if (SS_order ss v3.toNatClampNeg) < 0 ∨ 200 ≤ (SS_order ss v3.toNatClampNeg).toNatClampNeg then none else
    if (SS_keys ss (SS_order ss v3.toNatClampNeg).toNatClampNeg) = x1 then (
      gl_let (v2 + 1) fun v2_2 =>
      gl_let (v3 + 1) fun v3_2 =>
      f_SS_ofKey_L4 x1 ss n v2_2 v3_2
    ) else
    gl_let (v3 + 1) fun v3_1 =>
    f_SS_ofKey_L4 x1 ss n v2 v3_1
def f_SS_ofKey (k : Nat) (x1 : Int32) (ss : SSt) : Option Int32 :=
  (f_SS_ofKey_L4 x1 ss k 0 0).bind fun v2_1 =>
  some v2_1
set_option maxHeartbeats 4000000 in
set_option maxRecDepth 100000 in
theorem c_SS_ofKey (l : Launch) (dC : Nat → ClassId) (dI : Nat → Nat → Nat) (tC : Nat → ClassId) (a : Nat → Nat) (k : Nat) (x1 : Int32) (ss : SSt) (res : Int32) (hf : f_SS_ofKey k x1 ss = some res) : cx_M l y_SS_ofKey w_SS_ofKey { frames := 0, cells := 0, slots := 0, locals := 0 } (dC, dI) classes (tyS tC) [.ref (a 0), .int x1] (wSS tC a ss) (wSS tC a ss) (some (.int res)) := by
  refine cx_of (cc := b_SS_ofKey) (maxL := 4) (ret := some .int) (plainFor_of_name (by decide)) rfl (Nat.le_of_ble_eq_true rfl) ?_
  intro p e s m below meth c hx hb hr hml hown hts hlocks A hA H locs ls hK hN hP hD hS hl
  have hown : s.vm.findClass R_SS = some m.cls := hown
  have hl : lv_has ls 4 [(0, .ref (a 0)), (1, .int x1)] := hl
  unfold f_SS_ofKey at hf
  refine lv_iconst (v := 0) hx hb d_SS_ofKey_0 (by decide) ?_
  refine lv_istore_n (lv' := [(2, .int 0), (0, .ref (a 0)), (1, .int x1)]) hx hb d_SS_ofKey_1 rfl hl (by decide) rfl (fun ls hl => ?_)
  refine lv_iconst (v := 0) hx hb d_SS_ofKey_2 (by decide) ?_
  refine lv_istore_n (lv' := [(3, .int 0), (2, .int 0), (0, .ref (a 0)), (1, .int x1)]) hx hb d_SS_ofKey_3 rfl hl (by decide) rfl (fun ls hl => ?_)
  have L_4 : ∀ (n : Nat) (v2 : Int32) (v3 : Int32) (v2_1 : Int32), f_SS_ofKey_L4 x1 ss n v2 v3 = some v2_1 → ∀ (H : Heap) (locs : List Loc) (ls : Array Slot), va_P (dC, dI) classes (wSS tC a ss) H → va_D A (wSS tC a ss) → va_S A s.heap H locs → lv_has ls 4 [(0, .ref (a 0)), (1, .int x1), (2, .int v2), (3, .int v3)] → (∀ (H : Heap) (locs : List Loc) (ls : Array Slot), va_P (dC, dI) classes (wSS tC a ss) H → va_D A (wSS tC a ss) → va_S A s.heap H locs → lv_has ls 4 [(2, .int v2_1)] → W p l e { frames := 0, cells := 0, slots := 0, locals := 0 } s m [.ref (a 0), .int x1].toArray below meth c H locs 0 0 (cx_Z (dC, dI) classes below [.ref (a 0), .int x1] s (wSS tC a ss) (some (.int res)) A) (F0 m 36 ls [])) → W p l e { frames := 0, cells := 0, slots := 0, locals := 0 } s m [.ref (a 0), .int x1].toArray below meth c H locs 0 0 (cx_Z (dC, dI) classes below [.ref (a 0), .int x1] s (wSS tC a ss) (some (.int res)) A) (F0 m 4 ls []) := by
    intro n
    induction n with
    | zero =>
      intro v2 v3 v2_1 hf
      rw [f_SS_ofKey_L4] at hf
      cases hf
    | succ n ih =>
      intro v2 v3 v2_1 hf H locs ls hP hD hS hl kk
      rw [f_SS_ofKey_L4] at hf
      refine lv_iload_n hx hb d_SS_ofKey_4 rfl (lv_at hl 3 rfl) ?_
      refine lv_aload_n hx hb d_SS_ofKey_5 rfl (lv_at hl 0 rfl) ?_
      refine va_get (D := (dC, dI)) (ci := 4) (v := .int (SS_kept ss)) (C := R_SS) (T := F_SS) (N := 12) hx hb hts (in_SS _) hown hK hP 0 rfl rfl 11 (by decide) (hts _ (List.mem_cons_of_mem _ mw_102)) (fun _ h9 => h9) rfl d_SS_ofKey_6 ?_
      refine lv_icmp_ge (tgt := 36) hx hb d_SS_ofKey_9 (by decide) (fun cb => ?_) (fun cb => ?_)
      · have hf := g_t hf cb
        have hq0 := (g_some hf)
        subst hq0
        exact kk _ _ _ hP hD hS (lv_sub hl [2] rfl)
      · have hf := g_f hf cb
        refine lv_aload_n hx hb d_SS_ofKey_12 rfl (lv_at hl 0 rfl) ?_
        refine va_get (D := (dC, dI)) (ci := 4) (v := .ref (a 1)) (C := R_SS) (T := F_SS) (N := 12) hx hb hts (in_SS _) hown hK hP 0 rfl rfl 0 (by decide) (hts _ (List.mem_cons_of_mem _ mw_81)) (fun _ h9 => h9) rfl d_SS_ofKey_13 ?_
        refine lv_aload_n hx hb d_SS_ofKey_16 rfl (lv_at hl 0 rfl) ?_
        refine va_get (D := (dC, dI)) (ci := 4) (v := .ref (a 11)) (C := R_SS) (T := F_SS) (N := 12) hx hb hts (in_SS _) hown hK hP 0 rfl rfl 10 (by decide) (hts _ (List.mem_cons_of_mem _ mw_101)) (fun _ h9 => h9) rfl d_SS_ofKey_17 ?_
        refine lv_iload_n hx hb d_SS_ofKey_20 rfl (lv_at hl 3 rfl) ?_
        obtain ⟨ck, hf⟩ := g_ck hf
        refine va_iald (D := (dC, dI)) hx hb hK hP 11 0 rfl rfl ck d_SS_ofKey_21 ?_
        obtain ⟨ck_1, hf⟩ := g_ck hf
        refine va_iald (D := (dC, dI)) hx hb hK hP 1 0 rfl rfl ck_1 d_SS_ofKey_22 ?_
        refine lv_iload_n hx hb d_SS_ofKey_23 rfl (lv_at hl 1 rfl) ?_
        refine lv_icmp_ne (tgt := 30) hx hb d_SS_ofKey_24 (by decide) (fun cb_1 => ?_) (fun cb_1 => ?_)
        · have hf := g_f hf cb_1
          obtain ⟨v3_1, h_v3_1⟩ : ∃ z : Int32, z = v3 + 1 := ⟨_, rfl⟩
          have hf := g_let hf h_v3_1
          refine lv_iinc (v := v3_1) (lv' := [(3, .int v3_1), (0, .ref (a 0)), (1, .int x1), (2, .int v2)]) hx hb d_SS_ofKey_30 hl (k := 3) rfl (by rw [h_v3_1]; rfl) (by decide) rfl (fun ls hl => ?_)
          refine lv_goto (tgt := 4) hx hb d_SS_ofKey_33 (by decide) ?_
          exact ih v2 v3_1 v2_1 hf H locs ls hP hD hS (lv_sub hl [1, 2, 3, 0] rfl) kk
        · have hf := g_t hf cb_1
          obtain ⟨v2_2, h_v2_2⟩ : ∃ z : Int32, z = v2 + 1 := ⟨_, rfl⟩
          have hf := g_let hf h_v2_2
          refine lv_iinc (v := v2_2) (lv' := [(2, .int v2_2), (0, .ref (a 0)), (1, .int x1), (3, .int v3)]) hx hb d_SS_ofKey_27 hl (k := 2) rfl (by rw [h_v2_2]; rfl) (by decide) rfl (fun ls hl => ?_)
          obtain ⟨v3_2, h_v3_2⟩ : ∃ z : Int32, z = v3 + 1 := ⟨_, rfl⟩
          have hf := g_let hf h_v3_2
          refine lv_iinc (v := v3_2) (lv' := [(3, .int v3_2), (2, .int v2_2), (0, .ref (a 0)), (1, .int x1)]) hx hb d_SS_ofKey_30 hl (k := 3) rfl (by rw [h_v3_2]; rfl) (by decide) rfl (fun ls hl => ?_)
          refine lv_goto (tgt := 4) hx hb d_SS_ofKey_33 (by decide) ?_
          exact ih v2_2 v3_2 v2_1 hf H locs ls hP hD hS (lv_sub hl [2, 3, 1, 0] rfl) kk
  obtain ⟨v2_1, hL_4, hf⟩ := g_bind hf
  try dsimp only at hf
  refine L_4 k 0 0 v2_1 hL_4 H locs ls hP hD hS (lv_sub hl [2, 3, 1, 0] rfl) (fun H locs ls hP hD hS hl => ?_)
  refine lv_iload_n hx hb d_SS_ofKey_36 rfl (lv_at hl 0 rfl) ?_
  have hq0 := (g_some hf)
  subst hq0
  exact cx_iret hx hb hr hlocks hP hS d_SS_ofKey_37
def f_SS_nthOfKey_L5 (x1 : Int32) (x2 : Int32) (ss : SSt) : Nat → Int32 → Int32 → Option (Int32)
  | 0, _, _ => none
  | n + 1, v3, v4 =>
    if (SS_kept ss) ≤ v4 then (
      some (-1)
    ) else
    if v4 < 0 ∨ 200 ≤ v4.toNatClampNeg then none else
    gl_let ((SS_order ss v4.toNatClampNeg)) fun v5 =>
    if v5 < 0 ∨ 200 ≤ v5.toNatClampNeg then none else
    if (SS_keys ss v5.toNatClampNeg) = x1 then (
      if v3 = x2 then (
        some v5
      ) else
      gl_let (v3 + 1) fun v3_1 =>
      gl_let (v4 + 1) fun v4_2 =>
      f_SS_nthOfKey_L5 x1 x2 ss n v3_1 v4_2
    ) else
    gl_let (v4 + 1) fun v4_1 =>
    f_SS_nthOfKey_L5 x1 x2 ss n v3 v4_1
def f_SS_nthOfKey (k : Nat) (x1 : Int32) (x2 : Int32) (ss : SSt) : Option Int32 :=
  f_SS_nthOfKey_L5 x1 x2 ss k 0 0
set_option maxHeartbeats 4000000 in
set_option maxRecDepth 100000 in
theorem c_SS_nthOfKey (l : Launch) (dC : Nat → ClassId) (dI : Nat → Nat → Nat) (tC : Nat → ClassId) (a : Nat → Nat) (k : Nat) (x1 : Int32) (x2 : Int32) (ss : SSt) (res : Int32) (hf : f_SS_nthOfKey k x1 x2 ss = some res) : cx_M l y_SS_nthOfKey w_SS_nthOfKey { frames := 0, cells := 0, slots := 0, locals := 0 } (dC, dI) classes (tyS tC) [.ref (a 0), .int x1, .int x2] (wSS tC a ss) (wSS tC a ss) (some (.int res)) := by
  refine cx_of (cc := b_SS_nthOfKey) (maxL := 6) (ret := some .int) (plainFor_of_name (by decide)) rfl (Nat.le_of_ble_eq_true rfl) ?_
  intro p e s m below meth c hx hb hr hml hown hts hlocks A hA H locs ls hK hN hP hD hS hl
  have hown : s.vm.findClass R_SS = some m.cls := hown
  have hl : lv_has ls 6 [(0, .ref (a 0)), (1, .int x1), (2, .int x2)] := hl
  unfold f_SS_nthOfKey at hf
  refine lv_iconst (v := 0) hx hb d_SS_nthOfKey_0 (by decide) ?_
  refine lv_istore_n (lv' := [(3, .int 0), (0, .ref (a 0)), (1, .int x1), (2, .int x2)]) hx hb d_SS_nthOfKey_1 rfl hl (by decide) rfl (fun ls hl => ?_)
  refine lv_iconst (v := 0) hx hb d_SS_nthOfKey_2 (by decide) ?_
  refine lv_istore (lv' := [(4, .int 0), (3, .int 0), (0, .ref (a 0)), (1, .int x1), (2, .int x2)]) hx hb d_SS_nthOfKey_3 hl (by decide) rfl (fun ls hl => ?_)
  have L_5 : ∀ (n : Nat) (v3 : Int32) (v4 : Int32), f_SS_nthOfKey_L5 x1 x2 ss n v3 v4 = some res → ∀ (H : Heap) (locs : List Loc) (ls : Array Slot), va_P (dC, dI) classes (wSS tC a ss) H → va_D A (wSS tC a ss) → va_S A s.heap H locs → lv_has ls 6 [(0, .ref (a 0)), (1, .int x1), (2, .int x2), (3, .int v3), (4, .int v4)] → W p l e { frames := 0, cells := 0, slots := 0, locals := 0 } s m [.ref (a 0), .int x1, .int x2].toArray below meth c H locs 0 0 (cx_Z (dC, dI) classes below [.ref (a 0), .int x1, .int x2] s (wSS tC a ss) (some (.int res)) A) (F0 m 5 ls []) := by
    intro n
    induction n with
    | zero =>
      intro v3 v4 hf
      rw [f_SS_nthOfKey_L5] at hf
      cases hf
    | succ n ih =>
      intro v3 v4 hf H locs ls hP hD hS hl
      rw [f_SS_nthOfKey_L5] at hf
      refine lv_iload hx hb d_SS_nthOfKey_5 (lv_at hl 4 rfl) ?_
      refine lv_aload_n hx hb d_SS_nthOfKey_7 rfl (lv_at hl 0 rfl) ?_
      refine va_get (D := (dC, dI)) (ci := 4) (v := .int (SS_kept ss)) (C := R_SS) (T := F_SS) (N := 12) hx hb hts (in_SS _) hown hK hP 0 rfl rfl 11 (by decide) (hts _ (List.mem_cons_of_mem _ mw_102)) (fun _ h9 => h9) rfl d_SS_nthOfKey_8 ?_
      refine lv_icmp_ge (tgt := 51) hx hb d_SS_nthOfKey_11 (by decide) (fun cb => ?_) (fun cb => ?_)
      · have hf := g_t hf cb
        refine lv_iconst (v := (-1)) hx hb d_SS_nthOfKey_51 (by decide) ?_
        have hq0 := (g_some hf)
        subst hq0
        exact cx_iret hx hb hr hlocks hP hS d_SS_nthOfKey_52
      · have hf := g_f hf cb
        refine lv_aload_n hx hb d_SS_nthOfKey_14 rfl (lv_at hl 0 rfl) ?_
        refine va_get (D := (dC, dI)) (ci := 4) (v := .ref (a 11)) (C := R_SS) (T := F_SS) (N := 12) hx hb hts (in_SS _) hown hK hP 0 rfl rfl 10 (by decide) (hts _ (List.mem_cons_of_mem _ mw_101)) (fun _ h9 => h9) rfl d_SS_nthOfKey_15 ?_
        refine lv_iload hx hb d_SS_nthOfKey_18 (lv_at hl 4 rfl) ?_
        obtain ⟨ck, hf⟩ := g_ck hf
        refine va_iald (D := (dC, dI)) hx hb hK hP 11 0 rfl rfl ck d_SS_nthOfKey_20 ?_
        refine lv_topi (fun v5 h_v5 => ?_)
        have hf := g_let hf h_v5
        refine lv_istore (lv' := [(5, .int v5), (0, .ref (a 0)), (1, .int x1), (2, .int x2), (3, .int v3), (4, .int v4)]) hx hb d_SS_nthOfKey_21 hl (by decide) rfl (fun ls hl => ?_)
        refine lv_aload_n hx hb d_SS_nthOfKey_23 rfl (lv_at hl 1 rfl) ?_
        refine va_get (D := (dC, dI)) (ci := 4) (v := .ref (a 1)) (C := R_SS) (T := F_SS) (N := 12) hx hb hts (in_SS _) hown hK hP 0 rfl rfl 0 (by decide) (hts _ (List.mem_cons_of_mem _ mw_81)) (fun _ h9 => h9) rfl d_SS_nthOfKey_24 ?_
        refine lv_iload hx hb d_SS_nthOfKey_27 (lv_at hl 0 rfl) ?_
        obtain ⟨ck_1, hf⟩ := g_ck hf
        refine va_iald (D := (dC, dI)) hx hb hK hP 1 0 rfl rfl ck_1 d_SS_nthOfKey_29 ?_
        refine lv_iload_n hx hb d_SS_nthOfKey_30 rfl (lv_at hl 2 rfl) ?_
        refine lv_icmp_ne (tgt := 45) hx hb d_SS_nthOfKey_31 (by decide) (fun cb_1 => ?_) (fun cb_1 => ?_)
        · have hf := g_f hf cb_1
          obtain ⟨v4_1, h_v4_1⟩ : ∃ z : Int32, z = v4 + 1 := ⟨_, rfl⟩
          have hf := g_let hf h_v4_1
          refine lv_iinc (v := v4_1) (lv' := [(4, .int v4_1), (5, .int v5), (0, .ref (a 0)), (1, .int x1), (2, .int x2), (3, .int v3)]) hx hb d_SS_nthOfKey_45 hl (k := 5) rfl (by rw [h_v4_1]; rfl) (by decide) rfl (fun ls hl => ?_)
          refine lv_goto (tgt := 5) hx hb d_SS_nthOfKey_48 (by decide) ?_
          exact ih v3 v4_1 hf H locs ls hP hD hS (lv_sub hl [2, 3, 4, 5, 0] rfl)
        · have hf := g_t hf cb_1
          refine lv_iload_n hx hb d_SS_nthOfKey_34 rfl (lv_at hl 4 rfl) ?_
          refine lv_iload_n hx hb d_SS_nthOfKey_35 rfl (lv_at hl 3 rfl) ?_
          refine lv_icmp_ne (tgt := 42) hx hb d_SS_nthOfKey_36 (by decide) (fun cb_2 => ?_) (fun cb_2 => ?_)
          · have hf := g_f hf cb_2
            obtain ⟨v3_1, h_v3_1⟩ : ∃ z : Int32, z = v3 + 1 := ⟨_, rfl⟩
            have hf := g_let hf h_v3_1
            refine lv_iinc (v := v3_1) (lv' := [(3, .int v3_1), (5, .int v5), (0, .ref (a 0)), (1, .int x1), (2, .int x2), (4, .int v4)]) hx hb d_SS_nthOfKey_42 hl (k := 4) rfl (by rw [h_v3_1]; rfl) (by decide) rfl (fun ls hl => ?_)
            obtain ⟨v4_2, h_v4_2⟩ : ∃ z : Int32, z = v4 + 1 := ⟨_, rfl⟩
            have hf := g_let hf h_v4_2
            refine lv_iinc (v := v4_2) (lv' := [(4, .int v4_2), (3, .int v3_1), (5, .int v5), (0, .ref (a 0)), (1, .int x1), (2, .int x2)]) hx hb d_SS_nthOfKey_45 hl (k := 5) rfl (by rw [h_v4_2]; rfl) (by decide) rfl (fun ls hl => ?_)
            refine lv_goto (tgt := 5) hx hb d_SS_nthOfKey_48 (by decide) ?_
            exact ih v3_1 v4_2 hf H locs ls hP hD hS (lv_sub hl [3, 4, 5, 1, 0] rfl)
          · have hf := g_t hf cb_2
            refine lv_iload hx hb d_SS_nthOfKey_39 (lv_at hl 0 rfl) ?_
            have hq0 := (g_some hf)
            subst hq0
            exact cx_iret hx hb hr hlocks hP hS d_SS_nthOfKey_41
  exact L_5 k 0 0 hf H locs ls hP hD hS (lv_sub hl [2, 3, 4, 1, 0] rfl)
