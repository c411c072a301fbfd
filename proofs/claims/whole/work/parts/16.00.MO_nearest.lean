def f_MO_nearest (x0 : Int32) (x1 : Int32) (x2 : Int32) : Int32 :=
  if x1 ≤ x0 then (
    if x0 ≤ x2 then (
      x0
    ) else
    x2
  ) else
  x1
set_option maxHeartbeats 4000000 in
set_option maxRecDepth 100000 in
theorem c_MO_nearest (l : Launch) (dC : Nat → ClassId) (dI : Nat → Nat → Nat) (tC : Nat → ClassId)  (x0 : Int32) (x1 : Int32) (x2 : Int32) (res : Int32) (hf : f_MO_nearest x0 x1 x2 = res) : cx_M l y_MO_nearest w_MO_nearest { frames := 0, cells := 0, slots := 0, locals := 0 } (dC, dI) classes (tyS tC) [.int x0, .int x1, .int x2] ([]) ([]) (some (.int res)) := by
  refine cx_of (cc := b_MO_nearest) (maxL := 3) (ret := some .int) (plainFor_of_name (by decide)) rfl (Nat.le_of_ble_eq_true rfl) ?_
  intro p e s m below meth c hx hb hr hml hown hts hlocks A hA H locs ls hK hN hP hD hS hl
  have hown : s.vm.findClass R_MO = some m.cls := hown
  have hl : lv_has ls 3 [(0, .int x0), (1, .int x1), (2, .int x2)] := hl
  unfold f_MO_nearest at hf
  refine lv_iload_n hx hb d_MO_nearest_0 rfl (lv_at hl 0 rfl) ?_
  refine lv_iload_n hx hb d_MO_nearest_1 rfl (lv_at hl 1 rfl) ?_
  refine lv_icmp_ge (tgt := 9) hx hb d_MO_nearest_2 (by decide) (fun cb => ?_) (fun cb => ?_)
  · have hf := g_t hf cb
    refine lv_iload_n hx hb d_MO_nearest_9 rfl (lv_at hl 0 rfl) ?_
    refine lv_iload_n hx hb d_MO_nearest_10 rfl (lv_at hl 2 rfl) ?_
    refine lv_icmp_le (tgt := 18) hx hb d_MO_nearest_11 (by decide) (fun cb_1 => ?_) (fun cb_1 => ?_)
    · have hf := g_t hf cb_1
      refine lv_iload_n hx hb d_MO_nearest_18 rfl (lv_at hl 0 rfl) ?_
      have hq0 := hf
      subst hq0
      exact cx_iret hx hb hr hlocks hP hS d_MO_nearest_19
    · have hf := g_f hf cb_1
      refine lv_iload_n hx hb d_MO_nearest_14 rfl (lv_at hl 2 rfl) ?_
      refine lv_goto (tgt := 19) hx hb d_MO_nearest_15 (by decide) ?_
      have hq0 := hf
      subst hq0
      exact cx_iret hx hb hr hlocks hP hS d_MO_nearest_19
  · have hf := g_f hf cb
    refine lv_iload_n hx hb d_MO_nearest_5 rfl (lv_at hl 1 rfl) ?_
    refine lv_goto (tgt := 19) hx hb d_MO_nearest_6 (by decide) ?_
    have hq0 := hf
    subst hq0
    exact cx_iret hx hb hr hlocks hP hS d_MO_nearest_19
