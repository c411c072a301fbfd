def f_SR_clears (x1 : Int32) (sr : SRt) (la : LAt) : Option (Int32 × SRt) :=
  if (LA_kind la) = 3 then (
    some ((-3), sr)
  ) else
  if (SR_clearsOn sr) = x1 then (
    some (0, sr)
  ) else
  if ¬ (x1 = 0 ∨ x1 = 1) then none else
  some (1, (sSR_clearsOn sr x1))
set_option maxHeartbeats 4000000 in
set_option maxRecDepth 100000 in
theorem c_SR_clears (l : Launch) (dC : Nat → ClassId) (dI : Nat → Nat → Nat) (tC : Nat → ClassId) (ad : Nat → Nat → Nat) (x1 : Int32) (sr : SRt) (la : LAt) (res : Int32) (srR : SRt) (hf : f_SR_clears x1 sr la = some (res, srR)) : cx_M l y_SR_clears w_SR_clears { frames := 0, cells := 0, slots := 0, locals := 0 } (dC, dI) classes (tyS tC) [.ref (ad 0 0), .int x1] (wSR tC ad sr ++ wLA tC (ad 1) la) (wSR tC ad srR ++ wLA tC (ad 1) la) (some (.int res)) := by
  refine cx_of (cc := b_SR_clears) (maxL := 2) (ret := some .int) (plainFor_of_name (by decide)) rfl (Nat.le_of_ble_eq_true rfl) ?_
  intro p e s m below meth c hx hb hr hml hown hts hlocks A hA H locs ls hK hN hP hD hS hl
  have hown : s.vm.findClass R_SR = some m.cls := hown
  have hl : lv_has ls 2 [(0, .ref (ad 0 0)), (1, .int x1)] := hl
  unfold f_SR_clears at hf
  refine lv_aload_n hx hb d_SR_clears_0 rfl (lv_at hl 0 rfl) ?_
  refine va_get (D := (dC, dI)) (ci := 0) (v := .ref (ad 1 0)) (C := R_SR) (T := F_SR) (N := 14) hx hb hts (in_SR _) hown hK hP 0 rfl rfl 0 (by decide) (hts _ (List.mem_cons_of_mem _ mw_232)) (fun _ h9 => h9) rfl d_SR_clears_1 ?_
  refine va_get (D := (dC, dI)) (ci := 1) (v := .int (LA_kind la)) (C := R_LA) (T := F_LA) (N := 8) hx hb hts (in_LA _) hown hK hP 1 rfl rfl 0 (by decide) (hts _ (List.mem_cons_of_mem _ mw_200)) (fun _ h9 => h9) rfl d_SR_clears_4 ?_
  refine lv_iconst (v := 3) hx hb d_SR_clears_7 (by decide) ?_
  refine lv_icmp_ne (tgt := 14) hx hb d_SR_clears_8 (by decide) (fun cb => ?_) (fun cb => ?_)
  · have hf := g_f hf cb
    refine lv_aload_n hx hb d_SR_clears_14 rfl (lv_at hl 0 rfl) ?_
    refine va_get (D := (dC, dI)) (ci := 0) (v := .int (SR_clearsOn sr)) (C := R_SR) (T := F_SR) (N := 14) hx hb hts (in_SR _) hown hK hP 0 rfl rfl 11 (by decide) (hts _ (List.mem_cons_of_mem _ mw_243)) (fun _ h9 => h9) rfl d_SR_clears_15 ?_
    refine lv_iload_n hx hb d_SR_clears_18 rfl (lv_at hl 1 rfl) ?_
    refine lv_icmp_ne (tgt := 24) hx hb d_SR_clears_19 (by decide) (fun cb_1 => ?_) (fun cb_1 => ?_)
    · have hf := g_f hf cb_1
      refine lv_aload_n hx hb d_SR_clears_24 rfl (lv_at hl 0 rfl) ?_
      refine lv_iload_n hx hb d_SR_clears_25 rfl (lv_at hl 1 rfl) ?_
      obtain ⟨ck, hf⟩ := g_ck hf
      refine va_put (D := (dC, dI)) (ci := 0) (v := .int x1) (ty := .boolean) (C := R_SR) (T := F_SR) (N := 14) hx hb hts (in_SR _) t_SR t_SR_ok n_SR hown hK hP hD hS 0 rfl rfl 11 (by decide) (hts _ (List.mem_cons_of_mem _ mw_243)) (fun _ h9 => h9) rfl (by decide +kernel) (cx_nz ck) (cx_nzf ck) (Nat.le_of_ble_eq_true rfl) d_SR_clears_26 (fun H locs hP hD hS => ?_)
      have hP : va_P (dC, dI) classes (wSR tC ad (sSR_clearsOn sr x1) ++ wLA tC (ad 1) la) H := hP
      have hD : va_D A (wSR tC ad (sSR_clearsOn sr x1) ++ wLA tC (ad 1) la) := hD
      refine lv_iconst (v := 1) hx hb d_SR_clears_29 (by decide) ?_
      obtain ⟨hq0, hr1⟩ := Prod.mk.inj (g_some hf)
      subst hq0
      subst hr1
      exact cx_iret hx hb hr hlocks hP hS d_SR_clears_30
    · have hf := g_t hf cb_1
      refine lv_iconst (v := 0) hx hb d_SR_clears_22 (by decide) ?_
      obtain ⟨hq0, hr1⟩ := Prod.mk.inj (g_some hf)
      subst hq0
      subst hr1
      exact cx_iret hx hb hr hlocks hP hS d_SR_clears_23
  · have hf := g_t hf cb
    refine lv_bipush (v := (-3)) hx hb d_SR_clears_11 (by decide) ?_
    obtain ⟨hq0, hr1⟩ := Prod.mk.inj (g_some hf)
    subst hq0
    subst hr1
    exact cx_iret hx hb hr hlocks hP hS d_SR_clears_13
