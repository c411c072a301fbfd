def f_MO_isForbidden_L3 (x1 : Int32) (x2 : Int64) (mo : MOt) : Nat → Int32 → Option (Int32)
  | 0, _ => none
  | n + 1, v4 =>
    if x1 < 0 ∨ 3 ≤ x1.toNatClampNeg then none else
    if (MO_forbidden mo x1.toNatClampNeg) ≤ v4 then (
      some 0
    ) else
    if ((8 * x1) + v4) < 0 ∨ 24 ≤ ((8 * x1) + v4).toNatClampNeg then none else
    if (MO_bad mo ((8 * x1) + v4).toNatClampNeg) = x2 then (
      some 1
    ) else
    gl_let (v4 + 1) fun v4_1 =>
    f_MO_isForbidden_L3 x1 x2 mo n v4_1
def f_MO_isForbidden (k : Nat) (x1 : Int32) (x2 : Int64) (mo : MOt) : Option Int32 :=
  f_MO_isForbidden_L3 x1 x2 mo k 0
set_option maxHeartbeats 4000000 in
set_option maxRecDepth 100000 in
theorem c_MO_isForbidden (l : Launch) (dC : Nat → ClassId) (dI : Nat → Nat → Nat) (tC : Nat → ClassId) (a : Nat → Nat) (k : Nat) (x1 : Int32) (x2 : Int64) (mo : MOt) (res : Int32) (hf : f_MO_isForbidden k x1 x2 mo = some res) : cx_M l y_MO_isForbidden w_MO_isForbidden { frames := 0, cells := 0, slots := 0, locals := 0 } (dC, dI) classes (tyS tC) [.ref (a 0), .int x1, .long x2] (wMO tC a mo) (wMO tC a mo) (some (.int res)) := by
  refine cx_of (cc := b_MO_isForbidden) (maxL := 5) (ret := some .boolean) (plainFor_of_name (by decide)) rfl (Nat.le_of_ble_eq_true rfl) ?_
  intro p e s m below meth c hx hb hr hml hown hts hlocks A hA H locs ls hK hN hP hD hS hl
  have hown : s.vm.findClass R_MO = some m.cls := hown
  have hl : lv_has ls 5 [(0, .ref (a 0)), (1, .int x1), (2, .long x2)] := hl
  unfold f_MO_isForbidden at hf
  refine lv_iconst (v := 0) hx hb d_MO_isForbidden_0 (by decide) ?_
  refine lv_istore (lv' := [(4, .int 0), (0, .ref (a 0)), (1, .int x1), (2, .long x2)]) hx hb d_MO_isForbidden_1 hl (by decide) rfl (fun ls hl => ?_)
  have L_3 : ∀ (n : Nat) (v4 : Int32), f_MO_isForbidden_L3 x1 x2 mo n v4 = some res → ∀ (H : Heap) (locs : List Loc) (ls : Array Slot), va_P (dC, dI) classes (wMO tC a mo) H → va_D A (wMO tC a mo) → va_S A s.heap H locs → lv_has ls 5 [(0, .ref (a 0)), (1, .int x1), (2, .long x2), (4, .int v4)] → W p l e { frames := 0, cells := 0, slots := 0, locals := 0 } s m [.ref (a 0), .int x1, .long x2].toArray below meth c H locs 0 0 (cx_Z (dC, dI) classes below [.ref (a 0), .int x1, .long x2] s (wMO tC a mo) (some (.int res)) A) (F0 m 3 ls []) := by
    intro n
    induction n with
    | zero =>
      intro v4 hf
      rw [f_MO_isForbidden_L3] at hf
      cases hf
    | succ n ih =>
      intro v4 hf H locs ls hP hD hS hl
      rw [f_MO_isForbidden_L3] at hf
      refine lv_iload hx hb d_MO_isForbidden_3 (lv_at hl 3 rfl) ?_
      refine lv_aload_n hx hb d_MO_isForbidden_5 rfl (lv_at hl 0 rfl) ?_
      refine va_get (D := (dC, dI)) (ci := 8) (v := .ref (a 1)) (C := R_MO) (T := F_MO) (N := 42) hx hb hts (in_MO _) hown hK hP 0 rfl rfl 9 (by decide) (hts _ (List.mem_cons_of_mem _ mw_701)) (fun _ h9 => h9) rfl d_MO_isForbidden_6 ?_
      refine lv_iload_n hx hb d_MO_isForbidden_9 rfl (lv_at hl 1 rfl) ?_
      obtain ⟨ck, hf⟩ := g_ck hf
      refine va_iald (D := (dC, dI)) hx hb hK hP 1 0 rfl rfl ck d_MO_isForbidden_10 ?_
      refine lv_icmp_ge (tgt := 39) hx hb d_MO_isForbidden_11 (by decide) (fun cb => ?_) (fun cb => ?_)
      · have hf := g_t hf cb
        refine lv_iconst (v := 0) hx hb d_MO_isForbidden_39 (by decide) ?_
        have hq0 := (g_some hf)
        subst hq0
        exact cx_zret hx hb hr hlocks rfl hP hS d_MO_isForbidden_40
      · have hf := g_f hf cb
        refine lv_aload_n hx hb d_MO_isForbidden_14 rfl (lv_at hl 0 rfl) ?_
        refine va_get (D := (dC, dI)) (ci := 8) (v := .ref (a 2)) (C := R_MO) (T := F_MO) (N := 42) hx hb hts (in_MO _) hown hK hP 0 rfl rfl 10 (by decide) (hts _ (List.mem_cons_of_mem _ mw_702)) (fun _ h9 => h9) rfl d_MO_isForbidden_15 ?_
        refine lv_bipush (v := 8) hx hb d_MO_isForbidden_18 (by decide) ?_
        refine lv_iload_n hx hb d_MO_isForbidden_20 rfl (lv_at hl 1 rfl) ?_
        refine lv_imul hx hb d_MO_isForbidden_21 ?_
        refine lv_iload hx hb d_MO_isForbidden_22 (lv_at hl 3 rfl) ?_
        refine lv_iadd hx hb d_MO_isForbidden_24 ?_
        obtain ⟨ck_1, hf⟩ := g_ck hf
        refine va_lald (D := (dC, dI)) hx hb hK hP 2 1 rfl rfl ck_1 d_MO_isForbidden_25 ?_
        refine lv_lload_n hx hb d_MO_isForbidden_26 rfl (lv_at hl 2 rfl) ?_
        refine cq_ne (tgt := 33) hx hb d_MO_isForbidden_27 d_MO_isForbidden_28 (by decide) (fun cb_1 => ?_) (fun cb_1 => ?_)
        · have hf := g_f hf cb_1
          obtain ⟨v4_1, h_v4_1⟩ : ∃ z : Int32, z = v4 + 1 := ⟨_, rfl⟩
          have hf := g_let hf h_v4_1
          refine lv_iinc (v := v4_1) (lv' := [(4, .int v4_1), (0, .ref (a 0)), (1, .int x1), (2, .long x2)]) hx hb d_MO_isForbidden_33 hl (k := 3) rfl (by rw [h_v4_1]; rfl) (by decide) rfl (fun ls hl => ?_)
          refine lv_goto (tgt := 3) hx hb d_MO_isForbidden_36 (by decide) ?_
          exact ih v4_1 hf H locs ls hP hD hS (lv_sub hl [1, 2, 3, 0] rfl)
        · have hf := g_t hf cb_1
          refine lv_iconst (v := 1) hx hb d_MO_isForbidden_31 (by decide) ?_
          have hq0 := (g_some hf)
          subst hq0
          exact cx_zret hx hb hr hlocks rfl hP hS d_MO_isForbidden_32
  exact L_3 k 0 hf H locs ls hP hD hS (lv_sub hl [1, 2, 3, 0] rfl)
