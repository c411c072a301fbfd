def f_MO_isLeap (x0 : Int64) : Int32 :=
  if (x0 - x0 / 4 * 4) = 0 then (
    if (x0 - x0 / 100 * 100) = 0 then (
      if (x0 - x0 / 400 * 400) = 0 then (
        1
      ) else
      0
    ) else
    1
  ) else
  0
theorem z_MO_isLeap (x0 : Int64) : narrow .boolean (.int (f_MO_isLeap x0)) = .int (f_MO_isLeap x0) := by
  unfold f_MO_isLeap
  first | ((repeat' split) <;> rfl) | exact z_SR_isWithin _ _ _
set_option maxHeartbeats 4000000 in
set_option maxRecDepth 100000 in
theorem c_MO_isLeap (l : Launch) (dC : Nat → ClassId) (dI : Nat → Nat → Nat) (tC : Nat → ClassId)  (x0 : Int64) (res : Int32) (hf : f_MO_isLeap x0 = res) : cx_M l y_MO_isLeap w_MO_isLeap { frames := 0, cells := 0, slots := 0, locals := 0 } (dC, dI) classes (tyS tC) [.long x0] ([]) ([]) (some (.int res)) := by
  refine cx_of (cc := b_MO_isLeap) (maxL := 2) (ret := some .boolean) (plainFor_of_name (by decide)) rfl (Nat.le_of_ble_eq_true rfl) ?_
  intro p e s m below meth c hx hb hr hml hown hts hlocks A hA H locs ls hK hN hP hD hS hl
  have hown : s.vm.findClass R_MO = some m.cls := hown
  have hl : lv_has ls 2 [(0, .long x0)] := hl
  unfold f_MO_isLeap at hf
  refine lv_lload_n hx hb d_MO_isLeap_0 rfl (lv_at hl 0 rfl) ?_
  refine lv_ldc2 (v := 4) hx hb hown (hts _ (List.mem_cons_of_mem _ mw_876)) d_MO_isLeap_1 ?_
  refine lv_lrem hx hb d_MO_isLeap_4 (by decide) ?_
  refine lv_lconst (v := 0) hx hb d_MO_isLeap_5 (by decide) ?_
  refine cq_ne (tgt := 34) hx hb d_MO_isLeap_6 d_MO_isLeap_7 (by decide) (fun cb => ?_) (fun cb => ?_)
  · have hf := g_f hf cb
    refine lv_iconst (v := 0) hx hb d_MO_isLeap_34 (by decide) ?_
    have hq0 := hf
    subst hq0
    exact cx_zret hx hb hr hlocks rfl hP hS d_MO_isLeap_35
  · have hf := g_t hf cb
    refine lv_lload_n hx hb d_MO_isLeap_10 rfl (lv_at hl 0 rfl) ?_
    refine lv_ldc2 (v := 100) hx hb hown (hts _ (List.mem_cons_of_mem _ mw_878)) d_MO_isLeap_11 ?_
    refine lv_lrem hx hb d_MO_isLeap_14 (by decide) ?_
    refine lv_lconst (v := 0) hx hb d_MO_isLeap_15 (by decide) ?_
    refine cq_ne (tgt := 30) hx hb d_MO_isLeap_16 d_MO_isLeap_17 (by decide) (fun cb_1 => ?_) (fun cb_1 => ?_)
    · have hf := g_f hf cb_1
      refine lv_iconst (v := 1) hx hb d_MO_isLeap_30 (by decide) ?_
      refine lv_goto (tgt := 35) hx hb d_MO_isLeap_31 (by decide) ?_
      have hq0 := hf
      subst hq0
      exact cx_zret hx hb hr hlocks rfl hP hS d_MO_isLeap_35
    · have hf := g_t hf cb_1
      refine lv_lload_n hx hb d_MO_isLeap_20 rfl (lv_at hl 0 rfl) ?_
      refine lv_ldc2 (v := 400) hx hb hown (hts _ (List.mem_cons_of_mem _ mw_880)) d_MO_isLeap_21 ?_
      refine lv_lrem hx hb d_MO_isLeap_24 (by decide) ?_
      refine lv_lconst (v := 0) hx hb d_MO_isLeap_25 (by decide) ?_
      refine cq_ne (tgt := 34) hx hb d_MO_isLeap_26 d_MO_isLeap_27 (by decide) (fun cb_2 => ?_) (fun cb_2 => ?_)
      · have hf := g_f hf cb_2
        refine lv_iconst (v := 0) hx hb d_MO_isLeap_34 (by decide) ?_
        have hq0 := hf
        subst hq0
        exact cx_zret hx hb hr hlocks rfl hP hS d_MO_isLeap_35
      · have hf := g_t hf cb_2
        refine lv_iconst (v := 1) hx hb d_MO_isLeap_30 (by decide) ?_
        refine lv_goto (tgt := 35) hx hb d_MO_isLeap_31 (by decide) ?_
        have hq0 := hf
        subst hq0
        exact cx_zret hx hb hr hlocks rfl hP hS d_MO_isLeap_35
