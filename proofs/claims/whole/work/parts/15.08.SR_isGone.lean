def f_SR_isGone (x1 : Int64) (sr : SRt) : Int32 :=
  if (SR_theMark sr) < (x1 + (SR_lateBy sr)) then (
    0
  ) else
  1
theorem z_SR_isGone (x1 : Int64) (sr : SRt) : narrow .boolean (.int (f_SR_isGone x1 sr)) = .int (f_SR_isGone x1 sr) := by
  unfold f_SR_isGone
  first | ((repeat' split) <;> rfl) | exact z_SR_isWithin _ _ _
set_option maxHeartbeats 4000000 in
set_option maxRecDepth 100000 in
theorem c_SR_isGone (l : Launch) (dC : Nat → ClassId) (dI : Nat → Nat → Nat) (tC : Nat → ClassId) (ad : Nat → Nat → Nat) (x1 : Int64) (sr : SRt) (res : Int32) (hf : f_SR_isGone x1 sr = res) : cx_M l y_SR_isGone w_SR_isGone { frames := 0, cells := 0, slots := 0, locals := 0 } (dC, dI) classes (tyS tC) [.ref (ad 0 0), .long x1] (wSR tC ad sr) (wSR tC ad sr) (some (.int res)) := by
  refine cx_of (cc := b_SR_isGone) (maxL := 3) (ret := some .boolean) (plainFor_of_name (by decide)) rfl (Nat.le_of_ble_eq_true rfl) ?_
  intro p e s m below meth c hx hb hr hml hown hts hlocks A hA H locs ls hK hN hP hD hS hl
  have hown : s.vm.findClass R_SR = some m.cls := hown
  have hl : lv_has ls 3 [(0, .ref (ad 0 0)), (1, .long x1)] := hl
  unfold f_SR_isGone at hf
  refine lv_lload_n hx hb d_SR_isGone_0 rfl (lv_at hl 1 rfl) ?_
  refine lv_aload_n hx hb d_SR_isGone_1 rfl (lv_at hl 0 rfl) ?_
  refine va_get (D := (dC, dI)) (ci := 0) (v := .long (SR_lateBy sr)) (C := R_SR) (T := F_SR) (N := 14) hx hb hts (in_SR _) hown hK hP 0 rfl rfl 7 (by decide) (hts _ (List.mem_cons_of_mem _ mw_239)) (fun _ h9 => h9) rfl d_SR_isGone_2 ?_
  refine lv_ladd hx hb d_SR_isGone_5 ?_
  refine lv_aload_n hx hb d_SR_isGone_6 rfl (lv_at hl 0 rfl) ?_
  refine va_get (D := (dC, dI)) (ci := 0) (v := .long (SR_theMark sr)) (C := R_SR) (T := F_SR) (N := 14) hx hb hts (in_SR _) hown hK hP 0 rfl rfl 8 (by decide) (hts _ (List.mem_cons_of_mem _ mw_240)) (fun _ h9 => h9) rfl d_SR_isGone_7 ?_
  refine cq_gt (tgt := 18) hx hb d_SR_isGone_10 d_SR_isGone_11 (by decide) (fun cb => ?_) (fun cb => ?_)
  · have hf := g_t hf cb
    refine lv_iconst (v := 0) hx hb d_SR_isGone_18 (by decide) ?_
    have hq0 := hf
    subst hq0
    exact cx_zret hx hb hr hlocks rfl hP hS d_SR_isGone_19
  · have hf := g_f hf cb
    refine lv_iconst (v := 1) hx hb d_SR_isGone_14 (by decide) ?_
    refine lv_goto (tgt := 19) hx hb d_SR_isGone_15 (by decide) ?_
    have hq0 := hf
    subst hq0
    exact cx_zret hx hb hr hlocks rfl hP hS d_SR_isGone_19
