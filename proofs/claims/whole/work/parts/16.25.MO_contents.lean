def f_MO_contents_L2  : Nat → Int32 → MOt → Option (MOt)
  | 0, _, _ => none
  | n + 1, v1, mo_1 =>
    if 5 ≤ v1 then (
      some mo_1
    ) else
    if v1 < 0 ∨ 5 ≤ v1.toNatClampNeg then none else
    gl_let (v1 + 1) fun v1_1 =>
    gl_let ((sMO_got mo_1 (vp_updL (MO_got mo_1) v1.toNatClampNeg 0)) : MOt) fun mo_3 =>
    f_MO_contents_L2  n v1_1 mo_3
def f_MO_contents_L31 (mo_4 : MOt) : Nat → Int32 → Int32 → Option (Int32)
  | 0, _, _ => none
  | n + 1, v1_3, v2 =>
    if 300 ≤ v2 then (
      some v1_3
    ) else
    if v2 < 0 ∨ 300 ≤ v2.toNatClampNeg then none else
    if (MO_isIn mo_4 v2.toNatClampNeg) = 0 then (
      gl_let (v2 + 1) fun v2_1 =>
      f_MO_contents_L31 mo_4 n v1_3 v2_1
    ) else
    if v1_3 = (-1) then (
      gl_let (v2 + 1) fun v2_2 =>
      f_MO_contents_L31 mo_4 n v2 v2_2
    ) else
    (f_MO_isBefore v2 v1_3 mo_4).bind fun r =>
    if r = 0 then (
      gl_let (v2 + 1) fun v2_3 =>
      f_MO_contents_L31 mo_4 n v1_3 v2_3
    ) else
    gl_let (v2 + 1) fun v2_4 =>
    f_MO_contents_L31 mo_4 n v2 v2_4
def f_MO_contents_B93 (mo_4 : MOt) (v2_5 : Int64) : Option (Int64) :=
  if (MO_got mo_4 (0 : Int32).toNatClampNeg) = 0 then (
    some v2_5
  ) else
  if (MO_got mo_4 (2 : Int32).toNatClampNeg) ≤ v2_5 then (
    some (MO_got mo_4 (2 : Int32).toNatClampNeg)
  ) else
  some v2_5
def f_MO_contents_B131 (mo_4 : MOt) (v2_5 : Int64) (t : Int64) (mo_6 : MOt) : Option (Int64) :=
  if ((vp_updL (MO_got mo_4) (2 : Int32).toNatClampNeg t) (0 : Int32).toNatClampNeg) = 0 then (
    some v2_5
  ) else
  if v2_5 ≤ (MO_got mo_6 (3 : Int32).toNatClampNeg) then (
    some (MO_got mo_6 (3 : Int32).toNatClampNeg)
  ) else
  some v2_5
def f_MO_contents_L22 (k : Nat) : Nat → Int32 → MOt → Option (MOt)
  | 0, _, _ => none
  | n + 1, v1_2, mo_4 =>
    if v1_2 = (-1) then (
      some mo_4
    ) else
    (f_MO_contents_L31 mo_4 k (-1) 0).bind fun v1_4 =>
    if v1_4 = (-1) then (
      f_MO_contents_L22 k n v1_4 mo_4
    ) else
    if v1_4 < 0 ∨ 300 ≤ v1_4.toNatClampNeg then none else
    gl_let ((MO_rValue mo_4 v1_4.toNatClampNeg)) fun v2_5 =>
    (f_MO_contents_B93 mo_4 v2_5).bind fun t =>
    gl_let ((sMO_got mo_4 (vp_updL (MO_got mo_4) (2 : Int32).toNatClampNeg t)) : MOt) fun mo_6 =>
    (f_MO_contents_B131 mo_4 v2_5 t mo_6).bind fun t_1 =>
    gl_let ((sMO_isIn (sMO_got mo_6 (vp_updL (vp_updL (vp_updL (vp_updL (MO_got mo_6) (3 : Int32).toNatClampNeg t_1) (0 : Int32).toNatClampNeg (((vp_updL (MO_got mo_6) (3 : Int32).toNatClampNeg t_1) (0 : Int32).toNatClampNeg) + 1)) (1 : Int32).toNatClampNeg (((vp_updL (vp_updL (MO_got mo_6) (3 : Int32).toNatClampNeg t_1) (0 : Int32).toNatClampNeg (((vp_updL (MO_got mo_6) (3 : Int32).toNatClampNeg t_1) (0 : Int32).toNatClampNeg) + 1)) (1 : Int32).toNatClampNeg) + v2_5)) (4 : Int32).toNatClampNeg ((31 * ((vp_updL (vp_updL (vp_updL (MO_got mo_6) (3 : Int32).toNatClampNeg t_1) (0 : Int32).toNatClampNeg (((vp_updL (MO_got mo_6) (3 : Int32).toNatClampNeg t_1) (0 : Int32).toNatClampNeg) + 1)) (1 : Int32).toNatClampNeg (((vp_updL (vp_updL (MO_got mo_6) (3 : Int32).toNatClampNeg t_1) (0 : Int32).toNatClampNeg (((vp_updL (MO_got mo_6) (3 : Int32).toNatClampNeg t_1) (0 : Int32).toNatClampNeg) + 1)) (1 : Int32).toNatClampNeg) + v2_5)) (4 : Int32).toNatClampNeg)) + v2_5))) (upd (MO_isIn mo_6) v1_4.toNatClampNeg 0)) : MOt) fun mo_7 =>
    f_MO_contents_L22 k n v1_4 mo_7
def f_MO_contents (k : Nat) (mo : MOt) : Option MOt :=
  (f_MO_contents_L2 k 0 mo).bind fun mo_2 =>
  (f_MO_contents_L22 k k 0 mo_2).bind fun mo_5 =>
  some mo_5
set_option maxHeartbeats 4000000 in
set_option maxRecDepth 100000 in
theorem c_MO_contents (l : Launch) (dC : Nat → ClassId) (dI : Nat → Nat → Nat) (tC : Nat → ClassId) (a : Nat → Nat) (k : Nat) (mo : MOt) (moR : MOt) (hf : f_MO_contents k mo = some moR) : cx_M l y_MO_contents w_MO_contents { frames := 1, cells := 0, slots := 0, locals := 22 } (dC, dI) classes (tyS tC) [.ref (a 0)] (wMO tC a mo) (wMO tC a moR) (none) := by
  refine cx_of (cc := b_MO_contents) (maxL := 4) (ret := none) (plainFor_of_name (by decide)) rfl (Nat.le_of_ble_eq_true rfl) ?_
  intro p e s m below meth c hx hb hr hml hown hts hlocks A hA H locs ls hK hN hP hD hS hl
  have hown : s.vm.findClass R_MO = some m.cls := hown
  have hl : lv_has ls 4 [(0, .ref (a 0))] := hl
  unfold f_MO_contents at hf
  refine lv_iconst (v := 0) hx hb d_MO_contents_0 (by decide) ?_
  refine lv_istore_n (lv' := [(1, .int 0), (0, .ref (a 0))]) hx hb d_MO_contents_1 rfl hl (by decide) rfl (fun ls hl => ?_)
  have L_2 : ∀ (n : Nat) (v1 : Int32) (mo_1 : MOt) (mo_2 : MOt), f_MO_contents_L2 n v1 mo_1 = some mo_2 → ∀ (H : Heap) (locs : List Loc) (ls : Array Slot), va_P (dC, dI) classes (wMO tC a mo_1) H → va_D A (wMO tC a mo_1) → va_S A s.heap H locs → lv_has ls 4 [(0, .ref (a 0)), (1, .int v1)] → (∀ (H : Heap) (locs : List Loc) (ls : Array Slot), va_P (dC, dI) classes (wMO tC a mo_2) H → va_D A (wMO tC a mo_2) → va_S A s.heap H locs → lv_has ls 4 [(0, .ref (a 0))] → W p l e { frames := 1, cells := 0, slots := 0, locals := 22 } s m [.ref (a 0)].toArray below meth c H locs 0 0 (cx_Z (dC, dI) classes below [.ref (a 0)] s (wMO tC a moR) (none) A) (F0 m 20 ls [])) → W p l e { frames := 1, cells := 0, slots := 0, locals := 22 } s m [.ref (a 0)].toArray below meth c H locs 0 0 (cx_Z (dC, dI) classes below [.ref (a 0)] s (wMO tC a moR) (none) A) (F0 m 2 ls []) := by
    intro n
    induction n with
    | zero =>
      intro v1 mo_1 mo_2 hf
      rw [f_MO_contents_L2] at hf
      cases hf
    | succ n ih =>
      intro v1 mo_1 mo_2 hf H locs ls hP hD hS hl kk
      rw [f_MO_contents_L2] at hf
      refine lv_iload_n hx hb d_MO_contents_2 rfl (lv_at hl 1 rfl) ?_
      refine lv_iconst (v := 5) hx hb d_MO_contents_3 (by decide) ?_
      refine lv_icmp_ge (tgt := 20) hx hb d_MO_contents_4 (by decide) (fun cb => ?_) (fun cb => ?_)
      · have hf := g_t hf cb
        have hq0 := (g_some hf)
        subst hq0
        exact kk _ _ _ hP hD hS (lv_sub hl [0] rfl)
      · have hf := g_f hf cb
        refine lv_aload_n hx hb d_MO_contents_7 rfl (lv_at hl 0 rfl) ?_
        refine va_get (D := (dC, dI)) (ci := 8) (v := .ref (a 21)) (C := R_MO) (T := F_MO) (N := 42) hx hb hts (in_MO _) hown hK hP 0 rfl rfl 40 (by decide) (hts _ (List.mem_cons_of_mem _ mw_732)) (fun _ h9 => h9) rfl d_MO_contents_8 ?_
        refine lv_iload_n hx hb d_MO_contents_11 rfl (lv_at hl 1 rfl) ?_
        refine lv_lconst (v := 0) hx hb d_MO_contents_12 (by decide) ?_
        obtain ⟨ck, hf⟩ := g_ck hf
        refine va_last (D := (dC, dI)) hx hb hK hP hD hS 21 1 rfl rfl ck d_MO_contents_13 (fun H locs hP hD hS => ?_)
        have hP : va_P (dC, dI) classes (wMO tC a (sMO_got mo_1 (vp_updL (MO_got mo_1) v1.toNatClampNeg 0))) H := hP
        have hD : va_D A (wMO tC a (sMO_got mo_1 (vp_updL (MO_got mo_1) v1.toNatClampNeg 0))) := hD
        obtain ⟨v1_1, h_v1_1⟩ : ∃ z : Int32, z = v1 + 1 := ⟨_, rfl⟩
        have hf := g_let hf h_v1_1
        refine lv_iinc (v := v1_1) (lv' := [(1, .int v1_1), (0, .ref (a 0))]) hx hb d_MO_contents_14 hl (k := 1) rfl (by rw [h_v1_1]; rfl) (by decide) rfl (fun ls hl => ?_)
        refine lv_goto (tgt := 2) hx hb d_MO_contents_17 (by decide) ?_
        obtain ⟨mo_3, h_mo_3⟩ : ∃ z : MOt, z = (sMO_got mo_1 (vp_updL (MO_got mo_1) v1.toNatClampNeg 0)) := ⟨_, rfl⟩
        have hf := g_let hf h_mo_3
        have hP : va_P (dC, dI) classes (wMO tC a mo_3) H := by rw [h_mo_3]; exact hP
        have hD : va_D A (wMO tC a mo_3) := by rw [h_mo_3]; exact hD
        exact ih v1_1 mo_3 mo_2 hf H locs ls hP hD hS (lv_sub hl [1, 0] rfl) kk
  obtain ⟨mo_2, hL_2, hf⟩ := g_bind hf
  try dsimp only at hf
  refine L_2 k 0 mo mo_2 hL_2 H locs ls hP hD hS (lv_sub hl [1, 0] rfl) (fun H locs ls hP hD hS hl => ?_)
  refine lv_iconst (v := 0) hx hb d_MO_contents_20 (by decide) ?_
  refine lv_istore_n (lv' := [(1, .int 0), (0, .ref (a 0))]) hx hb d_MO_contents_21 rfl hl (by decide) rfl (fun ls hl => ?_)
  have L_22 : ∀ (n : Nat) (v1_2 : Int32) (mo_4 : MOt) (mo_5 : MOt), f_MO_contents_L22 k n v1_2 mo_4 = some mo_5 → ∀ (H : Heap) (locs : List Loc) (ls : Array Slot), va_P (dC, dI) classes (wMO tC a mo_4) H → va_D A (wMO tC a mo_4) → va_S A s.heap H locs → lv_has ls 4 [(0, .ref (a 0)), (1, .int v1_2)] → (∀ (H : Heap) (locs : List Loc) (ls : Array Slot), va_P (dC, dI) classes (wMO tC a mo_5) H → va_D A (wMO tC a mo_5) → va_S A s.heap H locs → lv_has ls 4 [] → W p l e { frames := 1, cells := 0, slots := 0, locals := 22 } s m [.ref (a 0)].toArray below meth c H locs 0 0 (cx_Z (dC, dI) classes below [.ref (a 0)] s (wMO tC a moR) (none) A) (F0 m 205 ls [])) → W p l e { frames := 1, cells := 0, slots := 0, locals := 22 } s m [.ref (a 0)].toArray below meth c H locs 0 0 (cx_Z (dC, dI) classes below [.ref (a 0)] s (wMO tC a moR) (none) A) (F0 m 22 ls []) := by
    intro n
    induction n with
    | zero =>
      intro v1_2 mo_4 mo_5 hf
      rw [f_MO_contents_L22] at hf
      cases hf
    | succ n ih =>
      intro v1_2 mo_4 mo_5 hf H locs ls hP hD hS hl kk
      rw [f_MO_contents_L22] at hf
      refine lv_iload_n hx hb d_MO_contents_22 rfl (lv_at hl 1 rfl) ?_
      refine lv_iconst (v := (-1)) hx hb d_MO_contents_23 (by decide) ?_
      refine lv_icmp_eq (tgt := 205) hx hb d_MO_contents_24 (by decide) (fun cb_1 => ?_) (fun cb_1 => ?_)
      · have hf := g_t hf cb_1
        have hq0 := (g_some hf)
        subst hq0
        exact kk _ _ _ hP hD hS (lv_sub hl [] rfl)
      · have hf := g_f hf cb_1
        refine lv_iconst (v := (-1)) hx hb d_MO_contents_27 (by decide) ?_
        refine lv_istore_n (lv' := [(1, .int (-1)), (0, .ref (a 0))]) hx hb d_MO_contents_28 rfl hl (by decide) rfl (fun ls hl => ?_)
        refine lv_iconst (v := 0) hx hb d_MO_contents_29 (by decide) ?_
        refine lv_istore_n (lv' := [(2, .int 0), (1, .int (-1)), (0, .ref (a 0))]) hx hb d_MO_contents_30 rfl hl (by decide) rfl (fun ls hl => ?_)
        have L_31 : ∀ (n : Nat) (v1_3 : Int32) (v2 : Int32) (v1_4 : Int32), f_MO_contents_L31 mo_4 n v1_3 v2 = some v1_4 → ∀ (H : Heap) (locs : List Loc) (ls : Array Slot), va_P (dC, dI) classes (wMO tC a mo_4) H → va_D A (wMO tC a mo_4) → va_S A s.heap H locs → lv_has ls 4 [(0, .ref (a 0)), (1, .int v1_3), (2, .int v2)] → (∀ (H : Heap) (locs : List Loc) (ls : Array Slot), va_P (dC, dI) classes (wMO tC a mo_4) H → va_D A (wMO tC a mo_4) → va_S A s.heap H locs → lv_has ls 4 [(0, .ref (a 0)), (1, .int v1_4)] → W p l e { frames := 1, cells := 0, slots := 0, locals := 22 } s m [.ref (a 0)].toArray below meth c H locs 0 0 (cx_Z (dC, dI) classes below [.ref (a 0)] s (wMO tC a moR) (none) A) (F0 m 69 ls [])) → W p l e { frames := 1, cells := 0, slots := 0, locals := 22 } s m [.ref (a 0)].toArray below meth c H locs 0 0 (cx_Z (dC, dI) classes below [.ref (a 0)] s (wMO tC a moR) (none) A) (F0 m 31 ls []) := by
          intro n
          induction n with
          | zero =>
            intro v1_3 v2 v1_4 hf
            rw [f_MO_contents_L31] at hf
            cases hf
          | succ n ih =>
            intro v1_3 v2 v1_4 hf H locs ls hP hD hS hl kk
            rw [f_MO_contents_L31] at hf
            refine lv_iload_n hx hb d_MO_contents_31 rfl (lv_at hl 2 rfl) ?_
            refine lv_sipush (v := 300) hx hb d_MO_contents_32 (by decide) ?_
            refine lv_icmp_ge (tgt := 69) hx hb d_MO_contents_35 (by decide) (fun cb_2 => ?_) (fun cb_2 => ?_)
            · have hf := g_t hf cb_2
              have hq0 := (g_some hf)
              subst hq0
              exact kk _ _ _ hP hD hS (lv_sub hl [0, 1] rfl)
            · have hf := g_f hf cb_2
              refine lv_aload_n hx hb d_MO_contents_38 rfl (lv_at hl 0 rfl) ?_
              refine va_get (D := (dC, dI)) (ci := 8) (v := .ref (a 22)) (C := R_MO) (T := F_MO) (N := 42) hx hb hts (in_MO _) hown hK hP 0 rfl rfl 41 (by decide) (hts _ (List.mem_cons_of_mem _ mw_733)) (fun _ h9 => h9) rfl d_MO_contents_39 ?_
              refine lv_iload_n hx hb d_MO_contents_42 rfl (lv_at hl 2 rfl) ?_
              obtain ⟨ck_1, hf⟩ := g_ck hf
              refine va_zald (D := (dC, dI)) hx hb hK hP 22 2 rfl rfl ck_1 d_MO_contents_43 ?_
              refine lv_if_eq (tgt := 63) hx hb d_MO_contents_44 (by decide) (fun cb_3 => ?_) (fun cb_3 => ?_)
              · have hf := g_t hf cb_3
                obtain ⟨v2_1, h_v2_1⟩ : ∃ z : Int32, z = v2 + 1 := ⟨_, rfl⟩
                have hf := g_let hf h_v2_1
                refine lv_iinc (v := v2_1) (lv' := [(2, .int v2_1), (0, .ref (a 0)), (1, .int v1_3)]) hx hb d_MO_contents_63 hl (k := 2) rfl (by rw [h_v2_1]; rfl) (by decide) rfl (fun ls hl => ?_)
                refine lv_goto (tgt := 31) hx hb d_MO_contents_66 (by decide) ?_
                exact ih v1_3 v2_1 v1_4 hf H locs ls hP hD hS (lv_sub hl [1, 2, 0] rfl) kk
              · have hf := g_f hf cb_3
                refine lv_iload_n hx hb d_MO_contents_47 rfl (lv_at hl 1 rfl) ?_
                refine lv_iconst (v := (-1)) hx hb d_MO_contents_48 (by decide) ?_
                refine lv_icmp_eq (tgt := 61) hx hb d_MO_contents_49 (by decide) (fun cb_4 => ?_) (fun cb_4 => ?_)
                · have hf := g_t hf cb_4
                  refine lv_iload_n hx hb d_MO_contents_61 rfl (lv_at hl 2 rfl) ?_
                  refine lv_istore_n (lv' := [(1, .int v2), (0, .ref (a 0)), (2, .int v2)]) hx hb d_MO_contents_62 rfl hl (by decide) rfl (fun ls hl => ?_)
                  obtain ⟨v2_2, h_v2_2⟩ : ∃ z : Int32, z = v2 + 1 := ⟨_, rfl⟩
                  have hf := g_let hf h_v2_2
                  refine lv_iinc (v := v2_2) (lv' := [(2, .int v2_2), (1, .int v2), (0, .ref (a 0))]) hx hb d_MO_contents_63 hl (k := 2) rfl (by rw [h_v2_2]; rfl) (by decide) rfl (fun ls hl => ?_)
                  refine lv_goto (tgt := 31) hx hb d_MO_contents_66 (by decide) ?_
                  exact ih v2 v2_2 v1_4 hf H locs ls hP hD hS (lv_sub hl [2, 1, 0] rfl) kk
                · have hf := g_f hf cb_4
                  refine lv_aload_n hx hb d_MO_contents_52 rfl (lv_at hl 0 rfl) ?_
                  refine lv_iload_n hx hb d_MO_contents_53 rfl (lv_at hl 2 rfl) ?_
                  refine lv_iload_n hx hb d_MO_contents_54 rfl (lv_at hl 1 rfl) ?_
                  obtain ⟨r, hc, hf⟩ := g_bind hf
                  try dsimp only at hf
                  refine cx3_callV (As := [.int v2, .int v1_3]) (rest := []) (wMO tC a mo_4) ⟨hx, hb, hml, hown, hts⟩ (c_MO_isBefore l dC dI tC a v2 v1_3 mo_4 r hc) (k_MO_206 hts ⟨Nat.le_of_ble_eq_true rfl, Nat.le_of_ble_eq_true rfl⟩) hl.1 hP hD hS hA hK hN 0 8 rfl rfl rfl rfl rfl rfl (Nat.le_of_ble_eq_true rfl) d_MO_contents_55 ⟨Nat.zero_le _, Nat.zero_le _⟩ (fun H locs hP hD hS => ?_)
                  refine W.eq (g2 := F0 m 58 ls [.int r]) rfl ?_
                  refine lv_if_eq (tgt := 63) hx hb d_MO_contents_58 (by decide) (fun cb_5 => ?_) (fun cb_5 => ?_)
                  · have hf := g_t hf cb_5
                    obtain ⟨v2_3, h_v2_3⟩ : ∃ z : Int32, z = v2 + 1 := ⟨_, rfl⟩
                    have hf := g_let hf h_v2_3
                    refine lv_iinc (v := v2_3) (lv' := [(2, .int v2_3), (0, .ref (a 0)), (1, .int v1_3)]) hx hb d_MO_contents_63 hl (k := 2) rfl (by rw [h_v2_3]; rfl) (by decide) rfl (fun ls hl => ?_)
                    refine lv_goto (tgt := 31) hx hb d_MO_contents_66 (by decide) ?_
                    exact ih v1_3 v2_3 v1_4 hf H locs ls hP hD hS (lv_sub hl [1, 2, 0] rfl) kk
                  · have hf := g_f hf cb_5
                    refine lv_iload_n hx hb d_MO_contents_61 rfl (lv_at hl 2 rfl) ?_
                    refine lv_istore_n (lv' := [(1, .int v2), (0, .ref (a 0)), (2, .int v2)]) hx hb d_MO_contents_62 rfl hl (by decide) rfl (fun ls hl => ?_)
                    obtain ⟨v2_4, h_v2_4⟩ : ∃ z : Int32, z = v2 + 1 := ⟨_, rfl⟩
                    have hf := g_let hf h_v2_4
                    refine lv_iinc (v := v2_4) (lv' := [(2, .int v2_4), (1, .int v2), (0, .ref (a 0))]) hx hb d_MO_contents_63 hl (k := 2) rfl (by rw [h_v2_4]; rfl) (by decide) rfl (fun ls hl => ?_)
                    refine lv_goto (tgt := 31) hx hb d_MO_contents_66 (by decide) ?_
                    exact ih v2 v2_4 v1_4 hf H locs ls hP hD hS (lv_sub hl [2, 1, 0] rfl) kk
        obtain ⟨v1_4, hL_31, hf⟩ := g_bind hf
        try dsimp only at hf
        refine L_31 k (-1) 0 v1_4 hL_31 H locs ls hP hD hS (lv_sub hl [2, 1, 0] rfl) (fun H locs ls hP hD hS hl => ?_)
        refine lv_iload_n hx hb d_MO_contents_69 rfl (lv_at hl 1 rfl) ?_
        refine lv_iconst (v := (-1)) hx hb d_MO_contents_70 (by decide) ?_
        refine lv_icmp_eq (tgt := 22) hx hb d_MO_contents_71 (by decide) (fun cb_6 => ?_) (fun cb_6 => ?_)
        · have hf := g_t hf cb_6
          exact ih v1_4 mo_4 mo_5 hf H locs ls hP hD hS (lv_sub hl [0, 1] rfl) kk
        · have hf := g_f hf cb_6
          refine lv_aload_n hx hb d_MO_contents_74 rfl (lv_at hl 0 rfl) ?_
          refine va_get (D := (dC, dI)) (ci := 8) (v := .ref (a 5)) (C := R_MO) (T := F_MO) (N := 42) hx hb hts (in_MO _) hown hK hP 0 rfl rfl 15 (by decide) (hts _ (List.mem_cons_of_mem _ mw_707)) (fun _ h9 => h9) rfl d_MO_contents_75 ?_
          refine lv_iload_n hx hb d_MO_contents_78 rfl (lv_at hl 1 rfl) ?_
          obtain ⟨ck_2, hf⟩ := g_ck hf
          refine va_lald (D := (dC, dI)) hx hb hK hP 5 1 rfl rfl ck_2 d_MO_contents_79 ?_
          refine lv_topl (fun v2_5 h_v2_5 => ?_)
          have hf := g_let hf h_v2_5
          refine lv_lstore_n (lv' := [(2, .long v2_5), (0, .ref (a 0)), (1, .int v1_4)]) hx hb d_MO_contents_80 rfl hl (by decide) rfl (fun ls hl => ?_)
          refine lv_aload_n hx hb d_MO_contents_81 rfl (lv_at hl 1 rfl) ?_
          refine va_get (D := (dC, dI)) (ci := 8) (v := .ref (a 21)) (C := R_MO) (T := F_MO) (N := 42) hx hb hts (in_MO _) hown hK hP 0 rfl rfl 40 (by decide) (hts _ (List.mem_cons_of_mem _ mw_732)) (fun _ h9 => h9) rfl d_MO_contents_82 ?_
          refine lv_iconst (v := 2) hx hb d_MO_contents_85 (by decide) ?_
          refine lv_aload_n hx hb d_MO_contents_86 rfl (lv_at hl 1 rfl) ?_
          refine va_get (D := (dC, dI)) (ci := 8) (v := .ref (a 21)) (C := R_MO) (T := F_MO) (N := 42) hx hb hts (in_MO _) hown hK hP 0 rfl rfl 40 (by decide) (hts _ (List.mem_cons_of_mem _ mw_732)) (fun _ h9 => h9) rfl d_MO_contents_87 ?_
          refine lv_iconst (v := 0) hx hb d_MO_contents_90 (by decide) ?_
          refine va_lald (D := (dC, dI)) hx hb hK hP 21 1 rfl rfl (show ¬ ((0 : Int32) < 0 ∨ 5 ≤ (0 : Int32).toNatClampNeg) from by decide) d_MO_contents_91 ?_
          refine lv_lconst (v := 0) hx hb d_MO_contents_92 (by decide) ?_
          obtain ⟨t, hB_118, hf⟩ := g_bind hf
          try dsimp only at hf
          have K_118 : ∀ (H : Heap) (locs : List Loc) (ls : Array Slot), va_P (dC, dI) classes (wMO tC a mo_4) H → va_D A (wMO tC a mo_4) → va_S A s.heap H locs → lv_has ls 4 [(0, .ref (a 0)), (1, .int v1_4), (2, .long v2_5)] → W p l e { frames := 1, cells := 0, slots := 0, locals := 22 } s m [.ref (a 0)].toArray below meth c H locs 0 0 (cx_Z (dC, dI) classes below [.ref (a 0)] s (wMO tC a moR) (none) A) (F0 m 118 ls [.long t, .int 2, .ref (a 21)]) := by
            intro H locs ls hP hD hS hl
            refine va_last (D := (dC, dI)) hx hb hK hP hD hS 21 1 rfl rfl (show ¬ ((2 : Int32) < 0 ∨ 5 ≤ (2 : Int32).toNatClampNeg) from by decide) d_MO_contents_118 (fun H locs hP hD hS => ?_)
            have hP : va_P (dC, dI) classes (wMO tC a (sMO_got mo_4 (vp_updL (MO_got mo_4) (2 : Int32).toNatClampNeg t))) H := hP
            have hD : va_D A (wMO tC a (sMO_got mo_4 (vp_updL (MO_got mo_4) (2 : Int32).toNatClampNeg t))) := hD
            refine lv_aload_n hx hb d_MO_contents_119 rfl (lv_at hl 0 rfl) ?_
            refine va_get (D := (dC, dI)) (ci := 8) (v := .ref (a 21)) (C := R_MO) (T := F_MO) (N := 42) hx hb hts (in_MO _) hown hK hP 0 rfl rfl 40 (by decide) (hts _ (List.mem_cons_of_mem _ mw_732)) (fun _ h9 => h9) rfl d_MO_contents_120 ?_
            refine lv_iconst (v := 3) hx hb d_MO_contents_123 (by decide) ?_
            refine lv_aload_n hx hb d_MO_contents_124 rfl (lv_at hl 0 rfl) ?_
            refine va_get (D := (dC, dI)) (ci := 8) (v := .ref (a 21)) (C := R_MO) (T := F_MO) (N := 42) hx hb hts (in_MO _) hown hK hP 0 rfl rfl 40 (by decide) (hts _ (List.mem_cons_of_mem _ mw_732)) (fun _ h9 => h9) rfl d_MO_contents_125 ?_
            refine lv_iconst (v := 0) hx hb d_MO_contents_128 (by decide) ?_
            refine va_lald (D := (dC, dI)) hx hb hK hP 21 1 rfl rfl (show ¬ ((0 : Int32) < 0 ∨ 5 ≤ (0 : Int32).toNatClampNeg) from by decide) d_MO_contents_129 ?_
            refine lv_lconst (v := 0) hx hb d_MO_contents_130 (by decide) ?_
            obtain ⟨mo_6, h_mo_6⟩ : ∃ z : MOt, z = (sMO_got mo_4 (vp_updL (MO_got mo_4) (2 : Int32).toNatClampNeg t)) := ⟨_, rfl⟩
            have hf := g_let hf h_mo_6
            have hP : va_P (dC, dI) classes (wMO tC a mo_6) H := by rw [h_mo_6]; exact hP
            have hD : va_D A (wMO tC a mo_6) := by rw [h_mo_6]; exact hD
            obtain ⟨t_1, hB_156, hf⟩ := g_bind hf
            try dsimp only at hf
            have K_156 : ∀ (H : Heap) (locs : List Loc) (ls : Array Slot), va_P (dC, dI) classes (wMO tC a mo_6) H → va_D A (wMO tC a mo_6) → va_S A s.heap H locs → lv_has ls 4 [(0, .ref (a 0)), (1, .int v1_4), (2, .long v2_5)] → W p l e { frames := 1, cells := 0, slots := 0, locals := 22 } s m [.ref (a 0)].toArray below meth c H locs 0 0 (cx_Z (dC, dI) classes below [.ref (a 0)] s (wMO tC a moR) (none) A) (F0 m 156 ls [.long t_1, .int 3, .ref (a 21)]) := by
              intro H locs ls hP hD hS hl
              refine va_last (D := (dC, dI)) hx hb hK hP hD hS 21 1 rfl rfl (show ¬ ((3 : Int32) < 0 ∨ 5 ≤ (3 : Int32).toNatClampNeg) from by decide) d_MO_contents_156 (fun H locs hP hD hS => ?_)
              have hP : va_P (dC, dI) classes (wMO tC a (sMO_got mo_6 (vp_updL (MO_got mo_6) (3 : Int32).toNatClampNeg t_1))) H := hP
              have hD : va_D A (wMO tC a (sMO_got mo_6 (vp_updL (MO_got mo_6) (3 : Int32).toNatClampNeg t_1))) := hD
              refine lv_aload_n hx hb d_MO_contents_157 rfl (lv_at hl 0 rfl) ?_
              refine va_get (D := (dC, dI)) (ci := 8) (v := .ref (a 21)) (C := R_MO) (T := F_MO) (N := 42) hx hb hts (in_MO _) hown hK hP 0 rfl rfl 40 (by decide) (hts _ (List.mem_cons_of_mem _ mw_732)) (fun _ h9 => h9) rfl d_MO_contents_158 ?_
              refine lv_iconst (v := 0) hx hb d_MO_contents_161 (by decide) ?_
              refine lv_dup2_11 hx hb d_MO_contents_162 rfl rfl ?_
              refine va_lald (D := (dC, dI)) hx hb hK hP 21 1 rfl rfl (show ¬ ((0 : Int32) < 0 ∨ 5 ≤ (0 : Int32).toNatClampNeg) from by decide) d_MO_contents_163 ?_
              refine lv_lconst (v := 1) hx hb d_MO_contents_164 (by decide) ?_
              refine lv_ladd hx hb d_MO_contents_165 ?_
              refine va_last (D := (dC, dI)) hx hb hK hP hD hS 21 1 rfl rfl (show ¬ ((0 : Int32) < 0 ∨ 5 ≤ (0 : Int32).toNatClampNeg) from by decide) d_MO_contents_166 (fun H locs hP hD hS => ?_)
              have hP : va_P (dC, dI) classes (wMO tC a (sMO_got mo_6 (vp_updL (vp_updL (MO_got mo_6) (3 : Int32).toNatClampNeg t_1) (0 : Int32).toNatClampNeg (((vp_updL (MO_got mo_6) (3 : Int32).toNatClampNeg t_1) (0 : Int32).toNatClampNeg) + 1)))) H := hP
              have hD : va_D A (wMO tC a (sMO_got mo_6 (vp_updL (vp_updL (MO_got mo_6) (3 : Int32).toNatClampNeg t_1) (0 : Int32).toNatClampNeg (((vp_updL (MO_got mo_6) (3 : Int32).toNatClampNeg t_1) (0 : Int32).toNatClampNeg) + 1)))) := hD
              refine lv_aload_n hx hb d_MO_contents_167 rfl (lv_at hl 0 rfl) ?_
              refine va_get (D := (dC, dI)) (ci := 8) (v := .ref (a 21)) (C := R_MO) (T := F_MO) (N := 42) hx hb hts (in_MO _) hown hK hP 0 rfl rfl 40 (by decide) (hts _ (List.mem_cons_of_mem _ mw_732)) (fun _ h9 => h9) rfl d_MO_contents_168 ?_
              refine lv_iconst (v := 1) hx hb d_MO_contents_171 (by decide) ?_
              refine lv_dup2_11 hx hb d_MO_contents_172 rfl rfl ?_
              refine va_lald (D := (dC, dI)) hx hb hK hP 21 1 rfl rfl (show ¬ ((1 : Int32) < 0 ∨ 5 ≤ (1 : Int32).toNatClampNeg) from by decide) d_MO_contents_173 ?_
              refine lv_lload_n hx hb d_MO_contents_174 rfl (lv_at hl 2 rfl) ?_
              refine lv_ladd hx hb d_MO_contents_175 ?_
              refine va_last (D := (dC, dI)) hx hb hK hP hD hS 21 1 rfl rfl (show ¬ ((1 : Int32) < 0 ∨ 5 ≤ (1 : Int32).toNatClampNeg) from by decide) d_MO_contents_176 (fun H locs hP hD hS => ?_)
              have hP : va_P (dC, dI) classes (wMO tC a (sMO_got mo_6 (vp_updL (vp_updL (vp_updL (MO_got mo_6) (3 : Int32).toNatClampNeg t_1) (0 : Int32).toNatClampNeg (((vp_updL (MO_got mo_6) (3 : Int32).toNatClampNeg t_1) (0 : Int32).toNatClampNeg) + 1)) (1 : Int32).toNatClampNeg (((vp_updL (vp_updL (MO_got mo_6) (3 : Int32).toNatClampNeg t_1) (0 : Int32).toNatClampNeg (((vp_updL (MO_got mo_6) (3 : Int32).toNatClampNeg t_1) (0 : Int32).toNatClampNeg) + 1)) (1 : Int32).toNatClampNeg) + v2_5)))) H := hP
              have hD : va_D A (wMO tC a (sMO_got mo_6 (vp_updL (vp_updL (vp_updL (MO_got mo_6) (3 : Int32).toNatClampNeg t_1) (0 : Int32).toNatClampNeg (((vp_updL (MO_got mo_6) (3 : Int32).toNatClampNeg t_1) (0 : Int32).toNatClampNeg) + 1)) (1 : Int32).toNatClampNeg (((vp_updL (vp_updL (MO_got mo_6) (3 : Int32).toNatClampNeg t_1) (0 : Int32).toNatClampNeg (((vp_updL (MO_got mo_6) (3 : Int32).toNatClampNeg t_1) (0 : Int32).toNatClampNeg) + 1)) (1 : Int32).toNatClampNeg) + v2_5)))) := hD
              refine lv_aload_n hx hb d_MO_contents_177 rfl (lv_at hl 0 rfl) ?_
              refine va_get (D := (dC, dI)) (ci := 8) (v := .ref (a 21)) (C := R_MO) (T := F_MO) (N := 42) hx hb hts (in_MO _) hown hK hP 0 rfl rfl 40 (by decide) (hts _ (List.mem_cons_of_mem _ mw_732)) (fun _ h9 => h9) rfl d_MO_contents_178 ?_
              refine lv_iconst (v := 4) hx hb d_MO_contents_181 (by decide) ?_
              refine lv_ldc2 (v := 31) hx hb hown (hts _ (List.mem_cons_of_mem _ mw_955)) d_MO_contents_182 ?_
              refine lv_aload_n hx hb d_MO_contents_185 rfl (lv_at hl 0 rfl) ?_
              refine va_get (D := (dC, dI)) (ci := 8) (v := .ref (a 21)) (C := R_MO) (T := F_MO) (N := 42) hx hb hts (in_MO _) hown hK hP 0 rfl rfl 40 (by decide) (hts _ (List.mem_cons_of_mem _ mw_732)) (fun _ h9 => h9) rfl d_MO_contents_186 ?_
              refine lv_iconst (v := 4) hx hb d_MO_contents_189 (by decide) ?_
              refine va_lald (D := (dC, dI)) hx hb hK hP 21 1 rfl rfl (show ¬ ((4 : Int32) < 0 ∨ 5 ≤ (4 : Int32).toNatClampNeg) from by decide) d_MO_contents_190 ?_
              refine lv_lmul hx hb d_MO_contents_191 ?_
              refine lv_lload_n hx hb d_MO_contents_192 rfl (lv_at hl 2 rfl) ?_
              refine lv_ladd hx hb d_MO_contents_193 ?_
              refine va_last (D := (dC, dI)) hx hb hK hP hD hS 21 1 rfl rfl (show ¬ ((4 : Int32) < 0 ∨ 5 ≤ (4 : Int32).toNatClampNeg) from by decide) d_MO_contents_194 (fun H locs hP hD hS => ?_)
              have hP : va_P (dC, dI) classes (wMO tC a (sMO_got mo_6 (vp_updL (vp_updL (vp_updL (vp_updL (MO_got mo_6) (3 : Int32).toNatClampNeg t_1) (0 : Int32).toNatClampNeg (((vp_updL (MO_got mo_6) (3 : Int32).toNatClampNeg t_1) (0 : Int32).toNatClampNeg) + 1)) (1 : Int32).toNatClampNeg (((vp_updL (vp_updL (MO_got mo_6) (3 : Int32).toNatClampNeg t_1) (0 : Int32).toNatClampNeg (((vp_updL (MO_got mo_6) (3 : Int32).toNatClampNeg t_1) (0 : Int32).toNatClampNeg) + 1)) (1 : Int32).toNatClampNeg) + v2_5)) (4 : Int32).toNatClampNeg ((31 * ((vp_updL (vp_updL (vp_updL (MO_got mo_6) (3 : Int32).toNatClampNeg t_1) (0 : Int32).toNatClampNeg (((vp_updL (MO_got mo_6) (3 : Int32).toNatClampNeg t_1) (0 : Int32).toNatClampNeg) + 1)) (1 : Int32).toNatClampNeg (((vp_updL (vp_updL (MO_got mo_6) (3 : Int32).toNatClampNeg t_1) (0 : Int32).toNatClampNeg (((vp_updL (MO_got mo_6) (3 : Int32).toNatClampNeg t_1) (0 : Int32).toNatClampNeg) + 1)) (1 : Int32).toNatClampNeg) + v2_5)) (4 : Int32).toNatClampNeg)) + v2_5)))) H := hP
              have hD : va_D A (wMO tC a (sMO_got mo_6 (vp_updL (vp_updL (vp_updL (vp_updL (MO_got mo_6) (3 : Int32).toNatClampNeg t_1) (0 : Int32).toNatClampNeg (((vp_updL (MO_got mo_6) (3 : Int32).toNatClampNeg t_1) (0 : Int32).toNatClampNeg) + 1)) (1 : Int32).toNatClampNeg (((vp_updL (vp_updL (MO_got mo_6) (3 : Int32).toNatClampNeg t_1) (0 : Int32).toNatClampNeg (((vp_updL (MO_got mo_6) (3 : Int32).toNatClampNeg t_1) (0 : Int32).toNatClampNeg) + 1)) (1 : Int32).toNatClampNeg) + v2_5)) (4 : Int32).toNatClampNeg ((31 * ((vp_updL (vp_updL (vp_updL (MO_got mo_6) (3 : Int32).toNatClampNeg t_1) (0 : Int32).toNatClampNeg (((vp_updL (MO_got mo_6) (3 : Int32).toNatClampNeg t_1) (0 : Int32).toNatClampNeg) + 1)) (1 : Int32).toNatClampNeg (((vp_updL (vp_updL (MO_got mo_6) (3 : Int32).toNatClampNeg t_1) (0 : Int32).toNatClampNeg (((vp_updL (MO_got mo_6) (3 : Int32).toNatClampNeg t_1) (0 : Int32).toNatClampNeg) + 1)) (1 : Int32).toNatClampNeg) + v2_5)) (4 : Int32).toNatClampNeg)) + v2_5)))) := hD
              refine lv_aload_n hx hb d_MO_contents_195 rfl (lv_at hl 0 rfl) ?_
              refine va_get (D := (dC, dI)) (ci := 8) (v := .ref (a 22)) (C := R_MO) (T := F_MO) (N := 42) hx hb hts (in_MO _) hown hK hP 0 rfl rfl 41 (by decide) (hts _ (List.mem_cons_of_mem _ mw_733)) (fun _ h9 => h9) rfl d_MO_contents_196 ?_
              refine lv_iload_n hx hb d_MO_contents_199 rfl (lv_at hl 1 rfl) ?_
              refine lv_iconst (v := 0) hx hb d_MO_contents_200 (by decide) ?_
              refine va_zast (D := (dC, dI)) hx hb hK hP hD hS 22 2 rfl rfl ck_2 d_MO_contents_201 (fun H locs hP hD hS => ?_)
              have hP : va_P (dC, dI) classes (wMO tC a (sMO_isIn (sMO_got mo_6 (vp_updL (vp_updL (vp_updL (vp_updL (MO_got mo_6) (3 : Int32).toNatClampNeg t_1) (0 : Int32).toNatClampNeg (((vp_updL (MO_got mo_6) (3 : Int32).toNatClampNeg t_1) (0 : Int32).toNatClampNeg) + 1)) (1 : Int32).toNatClampNeg (((vp_updL (vp_updL (MO_got mo_6) (3 : Int32).toNatClampNeg t_1) (0 : Int32).toNatClampNeg (((vp_updL (MO_got mo_6) (3 : Int32).toNatClampNeg t_1) (0 : Int32).toNatClampNeg) + 1)) (1 : Int32).toNatClampNeg) + v2_5)) (4 : Int32).toNatClampNeg ((31 * ((vp_updL (vp_updL (vp_updL (MO_got mo_6) (3 : Int32).toNatClampNeg t_1) (0 : Int32).toNatClampNeg (((vp_updL (MO_got mo_6) (3 : Int32).toNatClampNeg t_1) (0 : Int32).toNatClampNeg) + 1)) (1 : Int32).toNatClampNeg (((vp_updL (vp_updL (MO_got mo_6) (3 : Int32).toNatClampNeg t_1) (0 : Int32).toNatClampNeg (((vp_updL (MO_got mo_6) (3 : Int32).toNatClampNeg t_1) (0 : Int32).toNatClampNeg) + 1)) (1 : Int32).toNatClampNeg) + v2_5)) (4 : Int32).toNatClampNeg)) + v2_5))) (upd (MO_isIn mo_6) v1_4.toNatClampNeg 0))) H := hP
              have hD : va_D A (wMO tC a (sMO_isIn (sMO_got mo_6 (vp_updL (vp_updL (vp_updL (vp_updL (MO_got mo_6) (3 : Int32).toNatClampNeg t_1) (0 : Int32).toNatClampNeg (((vp_updL (MO_got mo_6) (3 : Int32).toNatClampNeg t_1) (0 : Int32).toNatClampNeg) + 1)) (1 : Int32).toNatClampNeg (((vp_updL (vp_updL (MO_got mo_6) (3 : Int32).toNatClampNeg t_1) (0 : Int32).toNatClampNeg (((vp_updL (MO_got mo_6) (3 : Int32).toNatClampNeg t_1) (0 : Int32).toNatClampNeg) + 1)) (1 : Int32).toNatClampNeg) + v2_5)) (4 : Int32).toNatClampNeg ((31 * ((vp_updL (vp_updL (vp_updL (MO_got mo_6) (3 : Int32).toNatClampNeg t_1) (0 : Int32).toNatClampNeg (((vp_updL (MO_got mo_6) (3 : Int32).toNatClampNeg t_1) (0 : Int32).toNatClampNeg) + 1)) (1 : Int32).toNatClampNeg (((vp_updL (vp_updL (MO_got mo_6) (3 : Int32).toNatClampNeg t_1) (0 : Int32).toNatClampNeg (((vp_updL (MO_got mo_6) (3 : Int32).toNatClampNeg t_1) (0 : Int32).toNatClampNeg) + 1)) (1 : Int32).toNatClampNeg) + v2_5)) (4 : Int32).toNatClampNeg)) + v2_5))) (upd (MO_isIn mo_6) v1_4.toNatClampNeg 0))) := hD
              refine lv_goto (tgt := 22) hx hb d_MO_contents_202 (by decide) ?_
              obtain ⟨mo_7, h_mo_7⟩ : ∃ z : MOt, z = (sMO_isIn (sMO_got mo_6 (vp_updL (vp_updL (vp_updL (vp_updL (MO_got mo_6) (3 : Int32).toNatClampNeg t_1) (0 : Int32).toNatClampNeg (((vp_updL (MO_got mo_6) (3 : Int32).toNatClampNeg t_1) (0 : Int32).toNatClampNeg) + 1)) (1 : Int32).toNatClampNeg (((vp_updL (vp_updL (MO_got mo_6) (3 : Int32).toNatClampNeg t_1) (0 : Int32).toNatClampNeg (((vp_updL (MO_got mo_6) (3 : Int32).toNatClampNeg t_1) (0 : Int32).toNatClampNeg) + 1)) (1 : Int32).toNatClampNeg) + v2_5)) (4 : Int32).toNatClampNeg ((31 * ((vp_updL (vp_updL (vp_updL (MO_got mo_6) (3 : Int32).toNatClampNeg t_1) (0 : Int32).toNatClampNeg (((vp_updL (MO_got mo_6) (3 : Int32).toNatClampNeg t_1) (0 : Int32).toNatClampNeg) + 1)) (1 : Int32).toNatClampNeg (((vp_updL (vp_updL (MO_got mo_6) (3 : Int32).toNatClampNeg t_1) (0 : Int32).toNatClampNeg (((vp_updL (MO_got mo_6) (3 : Int32).toNatClampNeg t_1) (0 : Int32).toNatClampNeg) + 1)) (1 : Int32).toNatClampNeg) + v2_5)) (4 : Int32).toNatClampNeg)) + v2_5))) (upd (MO_isIn mo_6) v1_4.toNatClampNeg 0)) := ⟨_, rfl⟩
              have hf := g_let hf h_mo_7
              have hP : va_P (dC, dI) classes (wMO tC a mo_7) H := by rw [h_mo_7]; exact hP
              have hD : va_D A (wMO tC a mo_7) := by rw [h_mo_7]; exact hD
              exact ih v1_4 mo_7 mo_5 hf H locs ls hP hD hS (lv_sub hl [0, 1] rfl) kk
            have hf := hB_156
            unfold f_MO_contents_B131 at hf
            refine cq_eq (tgt := 146) hx hb d_MO_contents_131 d_MO_contents_132 (by decide) (fun cb_9 => ?_) (fun cb_9 => ?_)
            · have hf := g_t hf cb_9
              refine lv_lload_n hx hb d_MO_contents_146 rfl (lv_at hl 2 rfl) ?_
              refine lv_goto (tgt := 156) hx hb d_MO_contents_147 (by decide) ?_
              have hq0 := (g_some hf)
              subst hq0
              exact K_156 _ _ _ hP hD hS (lv_sub hl [0, 1, 2] rfl)
            · have hf := g_f hf cb_9
              refine lv_lload_n hx hb d_MO_contents_135 rfl (lv_at hl 2 rfl) ?_
              refine lv_aload_n hx hb d_MO_contents_136 rfl (lv_at hl 0 rfl) ?_
              refine va_get (D := (dC, dI)) (ci := 8) (v := .ref (a 21)) (C := R_MO) (T := F_MO) (N := 42) hx hb hts (in_MO _) hown hK hP 0 rfl rfl 40 (by decide) (hts _ (List.mem_cons_of_mem _ mw_732)) (fun _ h9 => h9) rfl d_MO_contents_137 ?_
              refine lv_iconst (v := 3) hx hb d_MO_contents_140 (by decide) ?_
              refine va_lald (D := (dC, dI)) hx hb hK hP 21 1 rfl rfl (show ¬ ((3 : Int32) < 0 ∨ 5 ≤ (3 : Int32).toNatClampNeg) from by decide) d_MO_contents_141 ?_
              refine cq_le (tgt := 150) hx hb d_MO_contents_142 d_MO_contents_143 (by decide) (fun cb_10 => ?_) (fun cb_10 => ?_)
              · have hf := g_t hf cb_10
                refine lv_aload_n hx hb d_MO_contents_150 rfl (lv_at hl 0 rfl) ?_
                refine va_get (D := (dC, dI)) (ci := 8) (v := .ref (a 21)) (C := R_MO) (T := F_MO) (N := 42) hx hb hts (in_MO _) hown hK hP 0 rfl rfl 40 (by decide) (hts _ (List.mem_cons_of_mem _ mw_732)) (fun _ h9 => h9) rfl d_MO_contents_151 ?_
                refine lv_iconst (v := 3) hx hb d_MO_contents_154 (by decide) ?_
                refine va_lald (D := (dC, dI)) hx hb hK hP 21 1 rfl rfl (show ¬ ((3 : Int32) < 0 ∨ 5 ≤ (3 : Int32).toNatClampNeg) from by decide) d_MO_contents_155 ?_
                have hq0 := (g_some hf)
                subst hq0
                exact K_156 _ _ _ hP hD hS (lv_sub hl [0, 1, 2] rfl)
              · have hf := g_f hf cb_10
                refine lv_lload_n hx hb d_MO_contents_146 rfl (lv_at hl 2 rfl) ?_
                refine lv_goto (tgt := 156) hx hb d_MO_contents_147 (by decide) ?_
                have hq0 := (g_some hf)
                subst hq0
                exact K_156 _ _ _ hP hD hS (lv_sub hl [0, 1, 2] rfl)
          have hf := hB_118
          unfold f_MO_contents_B93 at hf
          refine cq_eq (tgt := 108) hx hb d_MO_contents_93 d_MO_contents_94 (by decide) (fun cb_7 => ?_) (fun cb_7 => ?_)
          · have hf := g_t hf cb_7
            refine lv_lload_n hx hb d_MO_contents_108 rfl (lv_at hl 0 rfl) ?_
            refine lv_goto (tgt := 118) hx hb d_MO_contents_109 (by decide) ?_
            have hq0 := (g_some hf)
            subst hq0
            exact K_118 _ _ _ hP hD hS (lv_sub hl [1, 2, 0] rfl)
          · have hf := g_f hf cb_7
            refine lv_lload_n hx hb d_MO_contents_97 rfl (lv_at hl 0 rfl) ?_
            refine lv_aload_n hx hb d_MO_contents_98 rfl (lv_at hl 1 rfl) ?_
            refine va_get (D := (dC, dI)) (ci := 8) (v := .ref (a 21)) (C := R_MO) (T := F_MO) (N := 42) hx hb hts (in_MO _) hown hK hP 0 rfl rfl 40 (by decide) (hts _ (List.mem_cons_of_mem _ mw_732)) (fun _ h9 => h9) rfl d_MO_contents_99 ?_
            refine lv_iconst (v := 2) hx hb d_MO_contents_102 (by decide) ?_
            refine va_lald (D := (dC, dI)) hx hb hK hP 21 1 rfl rfl (show ¬ ((2 : Int32) < 0 ∨ 5 ≤ (2 : Int32).toNatClampNeg) from by decide) d_MO_contents_103 ?_
            refine cq_ge (tgt := 112) hx hb d_MO_contents_104 d_MO_contents_105 (by decide) (fun cb_8 => ?_) (fun cb_8 => ?_)
            · have hf := g_t hf cb_8
              refine lv_aload_n hx hb d_MO_contents_112 rfl (lv_at hl 1 rfl) ?_
              refine va_get (D := (dC, dI)) (ci := 8) (v := .ref (a 21)) (C := R_MO) (T := F_MO) (N := 42) hx hb hts (in_MO _) hown hK hP 0 rfl rfl 40 (by decide) (hts _ (List.mem_cons_of_mem _ mw_732)) (fun _ h9 => h9) rfl d_MO_contents_113 ?_
              refine lv_iconst (v := 2) hx hb d_MO_contents_116 (by decide) ?_
              refine va_lald (D := (dC, dI)) hx hb hK hP 21 1 rfl rfl (show ¬ ((2 : Int32) < 0 ∨ 5 ≤ (2 : Int32).toNatClampNeg) from by decide) d_MO_contents_117 ?_
              have hq0 := (g_some hf)
              subst hq0
              exact K_118 _ _ _ hP hD hS (lv_sub hl [1, 2, 0] rfl)
            · have hf := g_f hf cb_8
              refine lv_lload_n hx hb d_MO_contents_108 rfl (lv_at hl 0 rfl) ?_
              refine lv_goto (tgt := 118) hx hb d_MO_contents_109 (by decide) ?_
              have hq0 := (g_some hf)
              subst hq0
              exact K_118 _ _ _ hP hD hS (lv_sub hl [1, 2, 0] rfl)
  obtain ⟨mo_5, hL_22, hf⟩ := g_bind hf
  try dsimp only at hf
  refine L_22 k 0 mo_2 mo_5 hL_22 H locs ls hP hD hS (lv_sub hl [1, 0] rfl) (fun H locs ls hP hD hS hl => ?_)
  have hq0 := (g_some hf)
  subst hq0
  exact cx_vret hx hb hr hlocks hP hS d_MO_contents_205
