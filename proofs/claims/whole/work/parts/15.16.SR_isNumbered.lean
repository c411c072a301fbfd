def f_SR_isNumbered (x1 : Int32) (sr : SRt) (rs : RSt) : Option Int32 :=
  if x1 < 0 ∨ 300 ≤ x1.toNatClampNeg then none else
  if (RS_numbers rs x1.toNatClampNeg) = (-1) then (
    some 0
  ) else
  some 1
set_option maxHeartbeats 4000000 in
set_option maxRecDepth 100000 in
theorem c_SR_isNumbered (l : Launch) (dC : Nat → ClassId) (dI : Nat → Nat → Nat) (tC : Nat → ClassId) (ad : Nat → Nat → Nat) (x1 : Int32) (sr : SRt) (rs : RSt) (res : Int32) (hf : f_SR_isNumbered x1 sr rs = some res) : cx_M l y_SR_isNumbered w_SR_isNumbered { frames := 0, cells := 0, slots := 0, locals := 0 } (dC, dI) classes (tyS tC) [.ref (ad 0 0), .int x1] (wSR tC ad sr ++ wRS tC (ad 3) rs) (wSR tC ad sr ++ wRS tC (ad 3) rs) (some (.int res)) := by
  refine cx_of (cc := b_SR_isNumbered) (maxL := 2) (ret := some .boolean) (plainFor_of_name (by decide)) rfl (Nat.le_of_ble_eq_true rfl) ?_
  intro p e s m below meth c hx hb hr hml hown hts hlocks A hA H locs ls hK hN hP hD hS hl
  have hown : s.vm.findClass R_SR = some m.cls := hown
  have hl : lv_has ls 2 [(0, .ref (ad 0 0)), (1, .int x1)] := hl
  unfold f_SR_isNumbered at hf
  refine lv_aload_n hx hb d_SR_isNumbered_0 rfl (lv_at hl 0 rfl) ?_
  refine va_get (D := (dC, dI)) (ci := 0) (v := .ref (ad 3 0)) (C := R_SR) (T := F_SR) (N := 14) hx hb hts (in_SR _) hown hK hP 0 rfl rfl 2 (by decide) (hts _ (List.mem_cons_of_mem _ mw_234)) (fun _ h9 => h9) rfl d_SR_isNumbered_1 ?_
  refine va_get (D := (dC, dI)) (ci := 3) (v := .ref ((ad 3) 4)) (C := R_RS) (T := F_RS) (N := 7) hx hb hts (in_RS _) hown hK hP 1 rfl rfl 3 (by decide) (hts _ (List.mem_cons_of_mem _ mw_52)) (fun _ h9 => h9) rfl d_SR_isNumbered_4 ?_
  refine lv_iload_n hx hb d_SR_isNumbered_7 rfl (lv_at hl 1 rfl) ?_
  obtain ⟨ck, hf⟩ := g_ck hf
  refine va_iald (D := (dC, dI)) hx hb hK hP 5 0 rfl rfl ck d_SR_isNumbered_8 ?_
  refine lv_iconst (v := (-1)) hx hb d_SR_isNumbered_9 (by decide) ?_
  refine lv_icmp_eq (tgt := 17) hx hb d_SR_isNumbered_10 (by decide) (fun cb => ?_) (fun cb => ?_)
  · have hf := g_t hf cb
    refine lv_iconst (v := 0) hx hb d_SR_isNumbered_17 (by decide) ?_
    have hq0 := (g_some hf)
    subst hq0
    exact cx_zret hx hb hr hlocks rfl hP hS d_SR_isNumbered_18
  · have hf := g_f hf cb
    refine lv_iconst (v := 1) hx hb d_SR_isNumbered_13 (by decide) ?_
    refine lv_goto (tgt := 18) hx hb d_SR_isNumbered_14 (by decide) ?_
    have hq0 := (g_some hf)
    subst hq0
    exact cx_zret hx hb hr hlocks rfl hP hS d_SR_isNumbered_18
