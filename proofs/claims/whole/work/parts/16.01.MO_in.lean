def f_MO_in (x0 : Int64) (x2 : Int64) (x4 : Int64) : Int32 :=
  if x0 < x2 then (
    0
  ) else
  if x4 < x0 then (
    0
  ) else
  1
theorem z_MO_in (x0 : Int64) (x2 : Int64) (x4 : Int64) : narrow .boolean (.int (f_MO_in x0 x2 x4)) = .int (f_MO_in x0 x2 x4) := by
  unfold f_MO_in
  first | ((repeat' split) <;> rfl) | exact z_SR_isWithin _ _ _
set_option maxHeartbeats 4000000 in
set_option maxRecDepth 100000 in
theorem c_MO_in (l : Launch) (dC : Nat → ClassId) (dI : Nat → Nat → Nat) (tC : Nat → ClassId)  (x0 : Int64) (x2 : Int64) (x4 : Int64) (res : Int32) (hf : f_MO_in x0 x2 x4 = res) : cx_M l y_MO_in w_MO_in { frames := 0, cells := 0, slots := 0, locals := 0 } (dC, dI) classes (tyS tC) [.long x0, .long x2, .long x4] ([]) ([]) (some (.int res)) := by
  refine cx_of (cc := b_MO_in) (maxL := 6) (ret := some .boolean) (plainFor_of_name (by decide)) rfl (Nat.le_of_ble_eq_true rfl) ?_
  intro p e s m below meth c hx hb hr hml hown hts hlocks A hA H locs ls hK hN hP hD hS hl
  have hown : s.vm.findClass R_MO = some m.cls := hown
  have hl : lv_has ls 6 [(0, .long x0), (2, .long x2), (4, .long x4)] := hl
  unfold f_MO_in at hf
  refine lv_lload_n hx hb d_MO_in_0 rfl (lv_at hl 0 rfl) ?_
  refine lv_lload_n hx hb d_MO_in_1 rfl (lv_at hl 1 rfl) ?_
  refine cq_lt (tgt := 17) hx hb d_MO_in_2 d_MO_in_3 (by decide) (fun cb => ?_) (fun cb => ?_)
  · have hf := g_t hf cb
    refine lv_iconst (v := 0) hx hb d_MO_in_17 (by decide) ?_
    have hq0 := hf
    subst hq0
    exact cx_zret hx hb hr hlocks rfl hP hS d_MO_in_18
  · have hf := g_f hf cb
    refine lv_lload_n hx hb d_MO_in_6 rfl (lv_at hl 0 rfl) ?_
    refine lv_lload hx hb d_MO_in_7 (lv_at hl 2 rfl) ?_
    refine cq_gt (tgt := 17) hx hb d_MO_in_9 d_MO_in_10 (by decide) (fun cb_1 => ?_) (fun cb_1 => ?_)
    · have hf := g_t hf cb_1
      refine lv_iconst (v := 0) hx hb d_MO_in_17 (by decide) ?_
      have hq0 := hf
      subst hq0
      exact cx_zret hx hb hr hlocks rfl hP hS d_MO_in_18
    · have hf := g_f hf cb_1
      refine lv_iconst (v := 1) hx hb d_MO_in_13 (by decide) ?_
      refine lv_goto (tgt := 18) hx hb d_MO_in_14 (by decide) ?_
      have hq0 := hf
      subst hq0
      exact cx_zret hx hb hr hlocks rfl hP hS d_MO_in_18
