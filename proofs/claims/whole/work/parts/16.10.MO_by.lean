def f_MO_by (x0 : Int64) (x2 : Int64) : Option Int64 :=
  if x2 = 0 then none else
  gl_let ((x0 / x2)) fun v4 =>
  if (v4 * x2) ≤ x0 then (
    some v4
  ) else
  some (v4 - 1)
set_option maxHeartbeats 4000000 in
set_option maxRecDepth 100000 in
theorem c_MO_by (l : Launch) (dC : Nat → ClassId) (dI : Nat → Nat → Nat) (tC : Nat → ClassId)  (x0 : Int64) (x2 : Int64) (res : Int64) (hf : f_MO_by x0 x2 = some res) : cx_M l y_MO_by w_MO_by { frames := 0, cells := 0, slots := 0, locals := 0 } (dC, dI) classes (tyS tC) [.long x0, .long x2] ([]) ([]) (some (.long res)) := by
  refine cx_of (cc := b_MO_by) (maxL := 6) (ret := some .long) (plainFor_of_name (by decide)) rfl (Nat.le_of_ble_eq_true rfl) ?_
  intro p e s m below meth c hx hb hr hml hown hts hlocks A hA H locs ls hK hN hP hD hS hl
  have hown : s.vm.findClass R_MO = some m.cls := hown
  have hl : lv_has ls 6 [(0, .long x0), (2, .long x2)] := hl
  unfold f_MO_by at hf
  refine lv_lload_n hx hb d_MO_by_0 rfl (lv_at hl 0 rfl) ?_
  refine lv_lload_n hx hb d_MO_by_1 rfl (lv_at hl 1 rfl) ?_
  obtain ⟨ck, hf⟩ := g_ck hf
  refine lv_ldiv hx hb d_MO_by_2 ck ?_
  refine lv_topl (fun v4 h_v4 => ?_)
  have hf := g_let hf h_v4
  refine lv_lstore (lv' := [(4, .long v4), (0, .long x0), (2, .long x2)]) hx hb d_MO_by_3 hl (by decide) rfl (fun ls hl => ?_)
  refine lv_lload hx hb d_MO_by_5 (lv_at hl 0 rfl) ?_
  refine lv_lload_n hx hb d_MO_by_7 rfl (lv_at hl 2 rfl) ?_
  refine lv_lmul hx hb d_MO_by_8 ?_
  refine lv_lload_n hx hb d_MO_by_9 rfl (lv_at hl 1 rfl) ?_
  refine cq_le (tgt := 21) hx hb d_MO_by_10 d_MO_by_11 (by decide) (fun cb => ?_) (fun cb => ?_)
  · have hf := g_t hf cb
    refine lv_lload hx hb d_MO_by_21 (lv_at hl 0 rfl) ?_
    have hq0 := (g_some hf)
    subst hq0
    exact cx_lret hx hb hr hlocks hP hS d_MO_by_23
  · have hf := g_f hf cb
    refine lv_lload hx hb d_MO_by_14 (lv_at hl 0 rfl) ?_
    refine lv_lconst (v := 1) hx hb d_MO_by_16 (by decide) ?_
    refine lv_lsub hx hb d_MO_by_17 ?_
    refine lv_goto (tgt := 23) hx hb d_MO_by_18 (by decide) ?_
    have hq0 := (g_some hf)
    subst hq0
    exact cx_lret hx hb hr hlocks hP hS d_MO_by_23
