def f_MO_monthAt_L31 (r : Int64) (v6 : Int32) : Nat → Int64 → Int32 → Option (Int64)
  | 0, _, _ => none
  | n + 1, v4, v7 =>
    if v6 ≤ v7 then (
      some v4
    ) else
    gl_let ((v4 + (f_MO_daysIn (1970 + r) v7).toInt64)) fun v4_2 =>
    gl_let (v7 + 1) fun v7_1 =>
    f_MO_monthAt_L31 r v6 n v4_2 v7_1
def f_MO_monthAt (k : Nat) (x0 : Int64) : Option Int64 :=
  (f_MO_by x0 12).bind fun r =>
  (f_MO_yearAt (1970 + r)).bind fun r_1 =>
  gl_let ((x0 - (12 * r)).toInt32) fun v6 =>
  (f_MO_monthAt_L31 r v6 k r_1 0).bind fun v4_1 =>
  some v4_1
set_option maxHeartbeats 4000000 in
set_option maxRecDepth 100000 in
theorem c_MO_monthAt (l : Launch) (dC : Nat → ClassId) (dI : Nat → Nat → Nat) (tC : Nat → ClassId)  (k : Nat) (x0 : Int64) (res : Int64) (hf : f_MO_monthAt k x0 = some res) : cx_M l y_MO_monthAt w_MO_monthAt { frames := 2, cells := 0, slots := 0, locals := 48 } (dC, dI) classes (tyS tC) [.long x0] ([]) ([]) (some (.long res)) := by
  refine cx_of (cc := b_MO_monthAt) (maxL := 8) (ret := some .long) (plainFor_of_name (by decide)) rfl (Nat.le_of_ble_eq_true rfl) ?_
  intro p e s m below meth c hx hb hr hml hown hts hlocks A hA H locs ls hK hN hP hD hS hl
  have hown : s.vm.findClass R_MO = some m.cls := hown
  have hl : lv_has ls 8 [(0, .long x0)] := hl
  unfold f_MO_monthAt at hf
  refine lv_lload_n hx hb d_MO_monthAt_0 rfl (lv_at hl 0 rfl) ?_
  refine lv_ldc2 (v := 12) hx hb hown (hts _ (List.mem_cons_of_mem _ mw_867)) d_MO_monthAt_1 ?_
  obtain ⟨r, hc, hf⟩ := g_bind hf
  try dsimp only at hf
  refine cx_callS (As := [.long x0, .long 12]) (rest := []) ⟨hx, hb, hml, hown, hts⟩ (c_MO_by l dC dI tC  x0 12 r hc) (k_MO_147 hts ⟨Nat.le_of_ble_eq_true rfl, Nat.le_of_ble_eq_true rfl⟩) hl.1 hP hD hS hA hK hN [] rfl rfl rfl rfl rfl (Nat.le_of_ble_eq_true rfl) d_MO_monthAt_4 ⟨Nat.zero_le _, Nat.zero_le _⟩ (fun H locs hP hD hS => ?_)
  have hP : va_P (dC, dI) classes ([]) H := hP
  have hD : va_D A ([]) := hD
  refine W.eq (g2 := F0 m 7 ls [.long r]) rfl ?_
  refine lv_lstore_n (lv' := [(2, .long r), (0, .long x0)]) hx hb d_MO_monthAt_7 rfl hl (by decide) rfl (fun ls hl => ?_)
  refine lv_ldc2 (v := 1970) hx hb hown (hts _ (List.mem_cons_of_mem _ mw_871)) d_MO_monthAt_8 ?_
  refine lv_lload_n hx hb d_MO_monthAt_11 rfl (lv_at hl 0 rfl) ?_
  refine lv_ladd hx hb d_MO_monthAt_12 ?_
  obtain ⟨r_1, hc_1, hf⟩ := g_bind hf
  try dsimp only at hf
  refine cx_callS (As := [.long (1970 + r)]) (rest := []) ⟨hx, hb, hml, hown, hts⟩ (c_MO_yearAt l dC dI tC  (1970 + r) r_1 hc_1) (k_MO_165 hts ⟨Nat.le_of_ble_eq_true rfl, Nat.le_of_ble_eq_true rfl⟩) hl.1 hP hD hS hA hK hN [] rfl rfl rfl rfl rfl (Nat.le_of_ble_eq_true rfl) d_MO_monthAt_13 ⟨Nat.zero_le _, Nat.zero_le _⟩ (fun H locs hP hD hS => ?_)
  have hP : va_P (dC, dI) classes ([]) H := hP
  have hD : va_D A ([]) := hD
  refine W.eq (g2 := F0 m 16 ls [.long r_1]) rfl ?_
  refine lv_lstore (lv' := [(4, .long r_1), (2, .long r), (0, .long x0)]) hx hb d_MO_monthAt_16 hl (by decide) rfl (fun ls hl => ?_)
  refine lv_lload_n hx hb d_MO_monthAt_18 rfl (lv_at hl 2 rfl) ?_
  refine lv_ldc2 (v := 12) hx hb hown (hts _ (List.mem_cons_of_mem _ mw_867)) d_MO_monthAt_19 ?_
  refine lv_lload_n hx hb d_MO_monthAt_22 rfl (lv_at hl 1 rfl) ?_
  refine lv_lmul hx hb d_MO_monthAt_23 ?_
  refine lv_lsub hx hb d_MO_monthAt_24 ?_
  refine lv_l2i hx hb d_MO_monthAt_25 rfl ?_
  refine lv_topi (fun v6 h_v6 => ?_)
  have hf := g_let hf h_v6
  refine lv_istore (lv' := [(6, .int v6), (4, .long r_1), (2, .long r), (0, .long x0)]) hx hb d_MO_monthAt_26 hl (by decide) rfl (fun ls hl => ?_)
  refine lv_iconst (v := 0) hx hb d_MO_monthAt_28 (by decide) ?_
  refine lv_istore (lv' := [(7, .int 0), (6, .int v6), (4, .long r_1), (2, .long r), (0, .long x0)]) hx hb d_MO_monthAt_29 hl (by decide) rfl (fun ls hl => ?_)
  have L_31 : ∀ (n : Nat) (v4 : Int64) (v7 : Int32) (v4_1 : Int64), f_MO_monthAt_L31 r v6 n v4 v7 = some v4_1 → ∀ (H : Heap) (locs : List Loc) (ls : Array Slot), va_P (dC, dI) classes ([]) H → va_D A ([]) → va_S A s.heap H locs → lv_has ls 8 [(2, .long r), (4, .long v4), (6, .int v6), (7, .int v7)] → (∀ (H : Heap) (locs : List Loc) (ls : Array Slot), va_P (dC, dI) classes ([]) H → va_D A ([]) → va_S A s.heap H locs → lv_has ls 8 [(4, .long v4_1)] → W p l e { frames := 2, cells := 0, slots := 0, locals := 48 } s m [.long x0].toArray below meth c H locs 0 0 (cx_Z (dC, dI) classes below [.long x0] s ([]) (some (.long res)) A) (F0 m 60 ls [])) → W p l e { frames := 2, cells := 0, slots := 0, locals := 48 } s m [.long x0].toArray below meth c H locs 0 0 (cx_Z (dC, dI) classes below [.long x0] s ([]) (some (.long res)) A) (F0 m 31 ls []) := by
    intro n
    induction n with
    | zero =>
      intro v4 v7 v4_1 hf
      rw [f_MO_monthAt_L31] at hf
      cases hf
    | succ n ih =>
      intro v4 v7 v4_1 hf H locs ls hP hD hS hl kk
      rw [f_MO_monthAt_L31] at hf
      refine lv_iload hx hb d_MO_monthAt_31 (lv_at hl 3 rfl) ?_
      refine lv_iload hx hb d_MO_monthAt_33 (lv_at hl 2 rfl) ?_
      refine lv_icmp_ge (tgt := 60) hx hb d_MO_monthAt_35 (by decide) (fun cb => ?_) (fun cb => ?_)
      · have hf := g_t hf cb
        have hq0 := (g_some hf)
        subst hq0
        exact kk _ _ _ hP hD hS (lv_sub hl [1] rfl)
      · have hf := g_f hf cb
        refine lv_lload hx hb d_MO_monthAt_38 (lv_at hl 1 rfl) ?_
        refine lv_ldc2 (v := 1970) hx hb hown (hts _ (List.mem_cons_of_mem _ mw_871)) d_MO_monthAt_40 ?_
        refine lv_lload_n hx hb d_MO_monthAt_43 rfl (lv_at hl 0 rfl) ?_
        refine lv_ladd hx hb d_MO_monthAt_44 ?_
        refine lv_iload hx hb d_MO_monthAt_45 (lv_at hl 3 rfl) ?_
        refine cx_callS (As := [.long (1970 + r), .int v7]) (rest := [.long v4]) ⟨hx, hb, hml, hown, hts⟩ (c_MO_daysIn l dC dI tC  (1970 + r) v7 (f_MO_daysIn (1970 + r) v7) rfl) (k_MO_169 hts ⟨Nat.le_of_ble_eq_true rfl, Nat.le_of_ble_eq_true rfl⟩) hl.1 hP hD hS hA hK hN [] rfl rfl rfl rfl rfl (Nat.le_of_ble_eq_true rfl) d_MO_monthAt_47 ⟨Nat.zero_le _, Nat.zero_le _⟩ (fun H locs hP hD hS => ?_)
        have hP : va_P (dC, dI) classes ([]) H := hP
        have hD : va_D A ([]) := hD
        refine W.eq (g2 := F0 m 50 ls [.int (f_MO_daysIn (1970 + r) v7), .long v4]) rfl ?_
        refine lv_i2l hx hb d_MO_monthAt_50 rfl ?_
        refine lv_ladd hx hb d_MO_monthAt_51 ?_
        refine lv_topl (fun v4_2 h_v4_2 => ?_)
        have hf := g_let hf h_v4_2
        refine lv_lstore (lv' := [(4, .long v4_2), (2, .long r), (6, .int v6), (7, .int v7)]) hx hb d_MO_monthAt_52 hl (by decide) rfl (fun ls hl => ?_)
        obtain ⟨v7_1, h_v7_1⟩ : ∃ z : Int32, z = v7 + 1 := ⟨_, rfl⟩
        have hf := g_let hf h_v7_1
        refine lv_iinc (v := v7_1) (lv' := [(7, .int v7_1), (4, .long v4_2), (2, .long r), (6, .int v6)]) hx hb d_MO_monthAt_54 hl (k := 3) rfl (by rw [h_v7_1]; rfl) (by decide) rfl (fun ls hl => ?_)
        refine lv_goto (tgt := 31) hx hb d_MO_monthAt_57 (by decide) ?_
        exact ih v4_2 v7_1 v4_1 hf H locs ls hP hD hS (lv_sub hl [2, 1, 3, 0] rfl) kk
  obtain ⟨v4_1, hL_31, hf⟩ := g_bind hf
  try dsimp only at hf
  refine L_31 k r_1 0 v4_1 hL_31 H locs ls hP hD hS (lv_sub hl [3, 2, 1, 0] rfl) (fun H locs ls hP hD hS hl => ?_)
  refine lv_lload hx hb d_MO_monthAt_60 (lv_at hl 0 rfl) ?_
  have hq0 := (g_some hf)
  subst hq0
  exact cx_lret hx hb hr hlocks hP hS d_MO_monthAt_62
