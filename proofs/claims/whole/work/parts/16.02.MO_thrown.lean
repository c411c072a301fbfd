def f_MO_thrown (mo : MOt) : Int32 :=
  (MO_thrown mo)
set_option maxHeartbeats 4000000 in
set_option maxRecDepth 100000 in
theorem c_MO_thrown (l : Launch) (dC : Nat → ClassId) (dI : Nat → Nat → Nat) (tC : Nat → ClassId) (a : Nat → Nat) (mo : MOt) (res : Int32) (hf : f_MO_thrown mo = res) : cx_M l y_MO_thrown w_MO_thrown { frames := 0, cells := 0, slots := 0, locals := 0 } (dC, dI) classes (tyS tC) [.ref (a 0)] (wMO tC a mo) (wMO tC a mo) (some (.int res)) := by
  refine cx_of (cc := b_MO_thrown) (maxL := 1) (ret := some .int) (plainFor_of_name (by decide)) rfl (Nat.le_of_ble_eq_true rfl) ?_
  intro p e s m below meth c hx hb hr hml hown hts hlocks A hA H locs ls hK hN hP hD hS hl
  have hown : s.vm.findClass R_MO = some m.cls := hown
  have hl : lv_has ls 1 [(0, .ref (a 0))] := hl
  unfold f_MO_thrown at hf
  refine lv_aload_n hx hb d_MO_thrown_0 rfl (lv_at hl 0 rfl) ?_
  refine va_get (D := (dC, dI)) (ci := 8) (v := .int (MO_thrown mo)) (C := R_MO) (T := F_MO) (N := 42) hx hb hts (in_MO _) hown hK hP 0 rfl rfl 12 (by decide) (hts _ (List.mem_cons_of_mem _ mw_704)) (fun _ h9 => h9) rfl d_MO_thrown_1 ?_
  have hq0 := hf
  subst hq0
  exact cx_iret hx hb hr hlocks hP hS d_MO_thrown_4
