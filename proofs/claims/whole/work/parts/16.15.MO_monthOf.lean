def f_MO_monthOf_L12 (k : Nat) (x0 : Int64) : Nat → Int64 → Option (Int64)
  | 0, _ => none
  | n + 1, v2 =>
    (f_MO_monthAt k v2).bind fun r_1 =>
    if r_1 ≤ x0 then (
      some v2
    ) else
    gl_let ((v2 - 1)) fun v2_2 =>
    f_MO_monthOf_L12 k x0 n v2_2
def f_MO_monthOf_L28 (k : Nat) (x0 : Int64) : Nat → Int64 → Option (Int64)
  | 0, _ => none
  | n + 1, v2_3 =>
    (f_MO_monthAt k (v2_3 + 1)).bind fun r_2 =>
    if x0 < r_2 then (
      some v2_3
    ) else
    gl_let ((v2_3 + 1)) fun v2_5 =>
    f_MO_monthOf_L28 k x0 n v2_5
def f_MO_monthOf (k : Nat) (x0 : Int64) : Option Int64 :=
  (f_MO_by (x0 * 100) 3044).bind fun r =>
  (f_MO_monthOf_L12 k x0 k r).bind fun v2_1 =>
  (f_MO_monthOf_L28 k x0 k v2_1).bind fun v2_4 =>
  some v2_4
set_option maxHeartbeats 4000000 in
set_option maxRecDepth 100000 in
theorem c_MO_monthOf (l : Launch) (dC : Nat → ClassId) (dI : Nat → Nat → Nat) (tC : Nat → ClassId)  (k : Nat) (x0 : Int64) (res : Int64) (hf : f_MO_monthOf k x0 = some res) : cx_M l y_MO_monthOf w_MO_monthOf { frames := 3, cells := 0, slots := 0, locals := 75 } (dC, dI) classes (tyS tC) [.long x0] ([]) ([]) (some (.long res)) := by
  refine cx_of (cc := b_MO_monthOf) (maxL := 4) (ret := some .long) (plainFor_of_name (by decide)) rfl (Nat.le_of_ble_eq_true rfl) ?_
  intro p e s m below meth c hx hb hr hml hown hts hlocks A hA H locs ls hK hN hP hD hS hl
  have hown : s.vm.findClass R_MO = some m.cls := hown
  have hl : lv_has ls 4 [(0, .long x0)] := hl
  unfold f_MO_monthOf at hf
  refine lv_lload_n hx hb d_MO_monthOf_0 rfl (lv_at hl 0 rfl) ?_
  refine lv_ldc2 (v := 100) hx hb hown (hts _ (List.mem_cons_of_mem _ mw_878)) d_MO_monthOf_1 ?_
  refine lv_lmul hx hb d_MO_monthOf_4 ?_
  refine lv_ldc2 (v := 3044) hx hb hown (hts _ (List.mem_cons_of_mem _ mw_922)) d_MO_monthOf_5 ?_
  obtain ⟨r, hc, hf⟩ := g_bind hf
  try dsimp only at hf
  refine cx_callS (As := [.long (x0 * 100), .long 3044]) (rest := []) ⟨hx, hb, hml, hown, hts⟩ (c_MO_by l dC dI tC  (x0 * 100) 3044 r hc) (k_MO_147 hts ⟨Nat.le_of_ble_eq_true rfl, Nat.le_of_ble_eq_true rfl⟩) hl.1 hP hD hS hA hK hN [] rfl rfl rfl rfl rfl (Nat.le_of_ble_eq_true rfl) d_MO_monthOf_8 ⟨Nat.zero_le _, Nat.zero_le _⟩ (fun H locs hP hD hS => ?_)
  have hP : va_P (dC, dI) classes ([]) H := hP
  have hD : va_D A ([]) := hD
  refine W.eq (g2 := F0 m 11 ls [.long r]) rfl ?_
  refine lv_lstore_n (lv' := [(2, .long r), (0, .long x0)]) hx hb d_MO_monthOf_11 rfl hl (by decide) rfl (fun ls hl => ?_)
  have L_12 : ∀ (n : Nat) (v2 : Int64) (v2_1 : Int64), f_MO_monthOf_L12 k x0 n v2 = some v2_1 → ∀ (H : Heap) (locs : List Loc) (ls : Array Slot), va_P (dC, dI) classes ([]) H → va_D A ([]) → va_S A s.heap H locs → lv_has ls 4 [(0, .long x0), (2, .long v2)] → (∀ (H : Heap) (locs : List Loc) (ls : Array Slot), va_P (dC, dI) classes ([]) H → va_D A ([]) → va_S A s.heap H locs → lv_has ls 4 [(0, .long x0), (2, .long v2_1)] → W p l e { frames := 3, cells := 0, slots := 0, locals := 75 } s m [.long x0].toArray below meth c H locs 0 0 (cx_Z (dC, dI) classes below [.long x0] s ([]) (some (.long res)) A) (F0 m 28 ls [])) → W p l e { frames := 3, cells := 0, slots := 0, locals := 75 } s m [.long x0].toArray below meth c H locs 0 0 (cx_Z (dC, dI) classes below [.long x0] s ([]) (some (.long res)) A) (F0 m 12 ls []) := by
    intro n
    induction n with
    | zero =>
      intro v2 v2_1 hf
      rw [f_MO_monthOf_L12] at hf
      cases hf
    | succ n ih =>
      intro v2 v2_1 hf H locs ls hP hD hS hl kk
      rw [f_MO_monthOf_L12] at hf
      refine lv_lload_n hx hb d_MO_monthOf_12 rfl (lv_at hl 1 rfl) ?_
      obtain ⟨r_1, hc_1, hf⟩ := g_bind hf
      try dsimp only at hf
      refine cx_callS (As := [.long v2]) (rest := []) ⟨hx, hb, hml, hown, hts⟩ (c_MO_monthAt l dC dI tC  k v2 r_1 hc_1) (k_MO_175 hts ⟨Nat.le_of_ble_eq_true rfl, Nat.le_of_ble_eq_true rfl⟩) hl.1 hP hD hS hA hK hN [] rfl rfl rfl rfl rfl (Nat.le_of_ble_eq_true rfl) d_MO_monthOf_13 ⟨Nat.zero_le _, Nat.zero_le _⟩ (fun H locs hP hD hS => ?_)
      have hP : va_P (dC, dI) classes ([]) H := hP
      have hD : va_D A ([]) := hD
      refine W.eq (g2 := F0 m 16 ls [.long r_1]) rfl ?_
      refine lv_lload_n hx hb d_MO_monthOf_16 rfl (lv_at hl 0 rfl) ?_
      refine cq_le (tgt := 28) hx hb d_MO_monthOf_17 d_MO_monthOf_18 (by decide) (fun cb => ?_) (fun cb => ?_)
      · have hf := g_t hf cb
        have hq0 := (g_some hf)
        subst hq0
        exact kk _ _ _ hP hD hS (lv_sub hl [0, 1] rfl)
      · have hf := g_f hf cb
        refine lv_lload_n hx hb d_MO_monthOf_21 rfl (lv_at hl 1 rfl) ?_
        refine lv_lconst (v := 1) hx hb d_MO_monthOf_22 (by decide) ?_
        refine lv_lsub hx hb d_MO_monthOf_23 ?_
        refine lv_topl (fun v2_2 h_v2_2 => ?_)
        have hf := g_let hf h_v2_2
        refine lv_lstore_n (lv' := [(2, .long v2_2), (0, .long x0)]) hx hb d_MO_monthOf_24 rfl hl (by decide) rfl (fun ls hl => ?_)
        refine lv_goto (tgt := 12) hx hb d_MO_monthOf_25 (by decide) ?_
        exact ih v2_2 v2_1 hf H locs ls hP hD hS (lv_sub hl [1, 0] rfl) kk
  obtain ⟨v2_1, hL_12, hf⟩ := g_bind hf
  try dsimp only at hf
  refine L_12 k r v2_1 hL_12 H locs ls hP hD hS (lv_sub hl [1, 0] rfl) (fun H locs ls hP hD hS hl => ?_)
  have L_28 : ∀ (n : Nat) (v2_3 : Int64) (v2_4 : Int64), f_MO_monthOf_L28 k x0 n v2_3 = some v2_4 → ∀ (H : Heap) (locs : List Loc) (ls : Array Slot), va_P (dC, dI) classes ([]) H → va_D A ([]) → va_S A s.heap H locs → lv_has ls 4 [(0, .long x0), (2, .long v2_3)] → (∀ (H : Heap) (locs : List Loc) (ls : Array Slot), va_P (dC, dI) classes ([]) H → va_D A ([]) → va_S A s.heap H locs → lv_has ls 4 [(2, .long v2_4)] → W p l e { frames := 3, cells := 0, slots := 0, locals := 75 } s m [.long x0].toArray below meth c H locs 0 0 (cx_Z (dC, dI) classes below [.long x0] s ([]) (some (.long res)) A) (F0 m 46 ls [])) → W p l e { frames := 3, cells := 0, slots := 0, locals := 75 } s m [.long x0].toArray below meth c H locs 0 0 (cx_Z (dC, dI) classes below [.long x0] s ([]) (some (.long res)) A) (F0 m 28 ls []) := by
    intro n
    induction n with
    | zero =>
      intro v2_3 v2_4 hf
      rw [f_MO_monthOf_L28] at hf
      cases hf
    | succ n ih =>
      intro v2_3 v2_4 hf H locs ls hP hD hS hl kk
      rw [f_MO_monthOf_L28] at hf
      refine lv_lload_n hx hb d_MO_monthOf_28 rfl (lv_at hl 1 rfl) ?_
      refine lv_lconst (v := 1) hx hb d_MO_monthOf_29 (by decide) ?_
      refine lv_ladd hx hb d_MO_monthOf_30 ?_
      obtain ⟨r_2, hc_2, hf⟩ := g_bind hf
      try dsimp only at hf
      refine cx_callS (As := [.long (v2_3 + 1)]) (rest := []) ⟨hx, hb, hml, hown, hts⟩ (c_MO_monthAt l dC dI tC  k (v2_3 + 1) r_2 hc_2) (k_MO_175 hts ⟨Nat.le_of_ble_eq_true rfl, Nat.le_of_ble_eq_true rfl⟩) hl.1 hP hD hS hA hK hN [] rfl rfl rfl rfl rfl (Nat.le_of_ble_eq_true rfl) d_MO_monthOf_31 ⟨Nat.zero_le _, Nat.zero_le _⟩ (fun H locs hP hD hS => ?_)
      have hP : va_P (dC, dI) classes ([]) H := hP
      have hD : va_D A ([]) := hD
      refine W.eq (g2 := F0 m 34 ls [.long r_2]) rfl ?_
      refine lv_lload_n hx hb d_MO_monthOf_34 rfl (lv_at hl 0 rfl) ?_
      refine cq_gt (tgt := 46) hx hb d_MO_monthOf_35 d_MO_monthOf_36 (by decide) (fun cb_1 => ?_) (fun cb_1 => ?_)
      · have hf := g_t hf cb_1
        have hq0 := (g_some hf)
        subst hq0
        exact kk _ _ _ hP hD hS (lv_sub hl [1] rfl)
      · have hf := g_f hf cb_1
        refine lv_lload_n hx hb d_MO_monthOf_39 rfl (lv_at hl 1 rfl) ?_
        refine lv_lconst (v := 1) hx hb d_MO_monthOf_40 (by decide) ?_
        refine lv_ladd hx hb d_MO_monthOf_41 ?_
        refine lv_topl (fun v2_5 h_v2_5 => ?_)
        have hf := g_let hf h_v2_5
        refine lv_lstore_n (lv' := [(2, .long v2_5), (0, .long x0)]) hx hb d_MO_monthOf_42 rfl hl (by decide) rfl (fun ls hl => ?_)
        refine lv_goto (tgt := 28) hx hb d_MO_monthOf_43 (by decide) ?_
        exact ih v2_5 v2_4 hf H locs ls hP hD hS (lv_sub hl [1, 0] rfl) kk
  obtain ⟨v2_4, hL_28, hf⟩ := g_bind hf
  try dsimp only at hf
  refine L_28 k v2_1 v2_4 hL_28 H locs ls hP hD hS (lv_sub hl [0, 1] rfl) (fun H locs ls hP hD hS hl => ?_)
  refine lv_lload_n hx hb d_MO_monthOf_46 rfl (lv_at hl 0 rfl) ?_
  have hq0 := (g_some hf)
  subst hq0
  exact cx_lret hx hb hr hlocks hP hS d_MO_monthOf_47
