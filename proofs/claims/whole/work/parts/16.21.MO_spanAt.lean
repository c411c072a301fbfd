def f_MO_spanAt_L3 (x1 : Int32) (x2 : Int64) (x4 : Int64) (mo : MOt) : Nat → Int32 → Option (Int32)
  | 0, _ => none
  | n + 1, v6 =>
    if 200 ≤ v6 then (
      some (-1)
    ) else
    if v6 < 0 ∨ 200 ≤ v6.toNatClampNeg then none else
    if (MO_sKey mo v6.toNatClampNeg) = x1 then (
      if (MO_sBegin mo v6.toNatClampNeg) = x2 then (
        if (MO_sEnd mo v6.toNatClampNeg) = x4 then (
          some v6
        ) else
        gl_let (v6 + 1) fun v6_3 =>
        f_MO_spanAt_L3 x1 x2 x4 mo n v6_3
      ) else
      gl_let (v6 + 1) fun v6_2 =>
      f_MO_spanAt_L3 x1 x2 x4 mo n v6_2
    ) else
    gl_let (v6 + 1) fun v6_1 =>
    f_MO_spanAt_L3 x1 x2 x4 mo n v6_1
def f_MO_spanAt (k : Nat) (x1 : Int32) (x2 : Int64) (x4 : Int64) (mo : MOt) : Option Int32 :=
  f_MO_spanAt_L3 x1 x2 x4 mo k 0
set_option maxHeartbeats 4000000 in
set_option maxRecDepth 100000 in
theorem c_MO_spanAt (l : Launch) (dC : Nat → ClassId) (dI : Nat → Nat → Nat) (tC : Nat → ClassId) (a : Nat → Nat) (k : Nat) (x1 : Int32) (x2 : Int64) (x4 : Int64) (mo : MOt) (res : Int32) (hf : f_MO_spanAt k x1 x2 x4 mo = some res) : cx_M l y_MO_spanAt w_MO_spanAt { frames := 0, cells := 0, slots := 0, locals := 0 } (dC, dI) classes (tyS tC) [.ref (a 0), .int x1, .long x2, .long x4] (wMO tC a mo) (wMO tC a mo) (some (.int res)) := by
  refine cx_of (cc := b_MO_spanAt) (maxL := 7) (ret := some .int) (plainFor_of_name (by decide)) rfl (Nat.le_of_ble_eq_true rfl) ?_
  intro p e s m below meth c hx hb hr hml hown hts hlocks A hA H locs ls hK hN hP hD hS hl
  have hown : s.vm.findClass R_MO = some m.cls := hown
  have hl : lv_has ls 7 [(0, .ref (a 0)), (1, .int x1), (2, .long x2), (4, .long x4)] := hl
  unfold f_MO_spanAt at hf
  refine lv_iconst (v := 0) hx hb d_MO_spanAt_0 (by decide) ?_
  refine lv_istore (lv' := [(6, .int 0), (0, .ref (a 0)), (1, .int x1), (2, .long x2), (4, .long x4)]) hx hb d_MO_spanAt_1 hl (by decide) rfl (fun ls hl => ?_)
  have L_3 : ∀ (n : Nat) (v6 : Int32), f_MO_spanAt_L3 x1 x2 x4 mo n v6 = some res → ∀ (H : Heap) (locs : List Loc) (ls : Array Slot), va_P (dC, dI) classes (wMO tC a mo) H → va_D A (wMO tC a mo) → va_S A s.heap H locs → lv_has ls 7 [(0, .ref (a 0)), (1, .int x1), (2, .long x2), (4, .long x4), (6, .int v6)] → W p l e { frames := 0, cells := 0, slots := 0, locals := 0 } s m [.ref (a 0), .int x1, .long x2, .long x4].toArray below meth c H locs 0 0 (cx_Z (dC, dI) classes below [.ref (a 0), .int x1, .long x2, .long x4] s (wMO tC a mo) (some (.int res)) A) (F0 m 3 ls []) := by
    intro n
    induction n with
    | zero =>
      intro v6 hf
      rw [f_MO_spanAt_L3] at hf
      cases hf
    | succ n ih =>
      intro v6 hf H locs ls hP hD hS hl
      rw [f_MO_spanAt_L3] at hf
      refine lv_iload hx hb d_MO_spanAt_3 (lv_at hl 4 rfl) ?_
      refine lv_sipush (v := 200) hx hb d_MO_spanAt_5 (by decide) ?_
      refine lv_icmp_ge (tgt := 56) hx hb d_MO_spanAt_8 (by decide) (fun cb => ?_) (fun cb => ?_)
      · have hf := g_t hf cb
        refine lv_iconst (v := (-1)) hx hb d_MO_spanAt_56 (by decide) ?_
        have hq0 := (g_some hf)
        subst hq0
        exact cx_iret hx hb hr hlocks hP hS d_MO_spanAt_57
      · have hf := g_f hf cb
        refine lv_aload_n hx hb d_MO_spanAt_11 rfl (lv_at hl 0 rfl) ?_
        refine va_get (D := (dC, dI)) (ci := 8) (v := .ref (a 8)) (C := R_MO) (T := F_MO) (N := 42) hx hb hts (in_MO _) hown hK hP 0 rfl rfl 21 (by decide) (hts _ (List.mem_cons_of_mem _ mw_713)) (fun _ h9 => h9) rfl d_MO_spanAt_12 ?_
        refine lv_iload hx hb d_MO_spanAt_15 (lv_at hl 4 rfl) ?_
        obtain ⟨ck, hf⟩ := g_ck hf
        refine va_iald (D := (dC, dI)) hx hb hK hP 8 0 rfl rfl ck d_MO_spanAt_17 ?_
        refine lv_iload_n hx hb d_MO_spanAt_18 rfl (lv_at hl 1 rfl) ?_
        refine lv_icmp_ne (tgt := 50) hx hb d_MO_spanAt_19 (by decide) (fun cb_1 => ?_) (fun cb_1 => ?_)
        · have hf := g_f hf cb_1
          obtain ⟨v6_1, h_v6_1⟩ : ∃ z : Int32, z = v6 + 1 := ⟨_, rfl⟩
          have hf := g_let hf h_v6_1
          refine lv_iinc (v := v6_1) (lv' := [(6, .int v6_1), (0, .ref (a 0)), (1, .int x1), (2, .long x2), (4, .long x4)]) hx hb d_MO_spanAt_50 hl (k := 4) rfl (by rw [h_v6_1]; rfl) (by decide) rfl (fun ls hl => ?_)
          refine lv_goto (tgt := 3) hx hb d_MO_spanAt_53 (by decide) ?_
          exact ih v6_1 hf H locs ls hP hD hS (lv_sub hl [1, 2, 3, 4, 0] rfl)
        · have hf := g_t hf cb_1
          refine lv_aload_n hx hb d_MO_spanAt_22 rfl (lv_at hl 0 rfl) ?_
          refine va_get (D := (dC, dI)) (ci := 8) (v := .ref (a 9)) (C := R_MO) (T := F_MO) (N := 42) hx hb hts (in_MO _) hown hK hP 0 rfl rfl 22 (by decide) (hts _ (List.mem_cons_of_mem _ mw_714)) (fun _ h9 => h9) rfl d_MO_spanAt_23 ?_
          refine lv_iload hx hb d_MO_spanAt_26 (lv_at hl 4 rfl) ?_
          refine va_lald (D := (dC, dI)) hx hb hK hP 9 1 rfl rfl ck d_MO_spanAt_28 ?_
          refine lv_lload_n hx hb d_MO_spanAt_29 rfl (lv_at hl 2 rfl) ?_
          refine cq_ne (tgt := 50) hx hb d_MO_spanAt_30 d_MO_spanAt_31 (by decide) (fun cb_2 => ?_) (fun cb_2 => ?_)
          · have hf := g_f hf cb_2
            obtain ⟨v6_2, h_v6_2⟩ : ∃ z : Int32, z = v6 + 1 := ⟨_, rfl⟩
            have hf := g_let hf h_v6_2
            refine lv_iinc (v := v6_2) (lv' := [(6, .int v6_2), (0, .ref (a 0)), (1, .int x1), (2, .long x2), (4, .long x4)]) hx hb d_MO_spanAt_50 hl (k := 4) rfl (by rw [h_v6_2]; rfl) (by decide) rfl (fun ls hl => ?_)
            refine lv_goto (tgt := 3) hx hb d_MO_spanAt_53 (by decide) ?_
            exact ih v6_2 hf H locs ls hP hD hS (lv_sub hl [1, 2, 3, 4, 0] rfl)
          · have hf := g_t hf cb_2
            refine lv_aload_n hx hb d_MO_spanAt_34 rfl (lv_at hl 0 rfl) ?_
            refine va_get (D := (dC, dI)) (ci := 8) (v := .ref (a 10)) (C := R_MO) (T := F_MO) (N := 42) hx hb hts (in_MO _) hown hK hP 0 rfl rfl 23 (by decide) (hts _ (List.mem_cons_of_mem _ mw_715)) (fun _ h9 => h9) rfl d_MO_spanAt_35 ?_
            refine lv_iload hx hb d_MO_spanAt_38 (lv_at hl 4 rfl) ?_
            refine va_lald (D := (dC, dI)) hx hb hK hP 10 1 rfl rfl ck d_MO_spanAt_40 ?_
            refine lv_lload hx hb d_MO_spanAt_41 (lv_at hl 3 rfl) ?_
            refine cq_ne (tgt := 50) hx hb d_MO_spanAt_43 d_MO_spanAt_44 (by decide) (fun cb_3 => ?_) (fun cb_3 => ?_)
            · have hf := g_f hf cb_3
              obtain ⟨v6_3, h_v6_3⟩ : ∃ z : Int32, z = v6 + 1 := ⟨_, rfl⟩
              have hf := g_let hf h_v6_3
              refine lv_iinc (v := v6_3) (lv' := [(6, .int v6_3), (0, .ref (a 0)), (1, .int x1), (2, .long x2), (4, .long x4)]) hx hb d_MO_spanAt_50 hl (k := 4) rfl (by rw [h_v6_3]; rfl) (by decide) rfl (fun ls hl => ?_)
              refine lv_goto (tgt := 3) hx hb d_MO_spanAt_53 (by decide) ?_
              exact ih v6_3 hf H locs ls hP hD hS (lv_sub hl [1, 2, 3, 4, 0] rfl)
            · have hf := g_t hf cb_3
              refine lv_iload hx hb d_MO_spanAt_47 (lv_at hl 4 rfl) ?_
              have hq0 := (g_some hf)
              subst hq0
              exact cx_iret hx hb hr hlocks hP hS d_MO_spanAt_49
  exact L_3 k 0 hf H locs ls hP hD hS (lv_sub hl [1, 2, 3, 4, 0] rfl)
