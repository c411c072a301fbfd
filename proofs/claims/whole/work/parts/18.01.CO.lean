def f_CO_init  : COt :=
  gl_let ((((0, 0), 0), (0, 0)) : COt) fun co =>
  co
set_option maxHeartbeats 4000000 in
set_option maxRecDepth 100000 in
theorem c_CO_init (l : Launch) (dC : Nat → ClassId) (dI : Nat → Nat → Nat) (tC : Nat → ClassId) (h0 : Nat)  (coR : COt) (hf : f_CO_init = coR) : cx_N l y_CO_init w_CO_init { frames := 1, cells := 0, slots := 0, locals := 12 } (dC, dI) classes (tyS tC) [.ref h0] h0 [(h0, .inr (7, [.int 0, .long 0, .long 0, .long 0, .long 0]))] (fun a => wCO tC a coR) 0 0 := by
  refine cx_ofN (cc := b_CO_init) (maxL := 1) (plainFor_of_name (by decide)) rfl (Nat.le_of_ble_eq_true rfl) ?_
  intro p e s m below meth c hx hb hr hml hown hts hlocks hin A hA H locs ls hK hN hP hD hS hl
  have hown : s.vm.findClass R_CO = some m.cls := hown
  have hin : meth.name = "<init>" := hin
  have hl : lv_has ls 1 [(0, .ref h0)] := hl
  unfold f_CO_init at hf
  refine lv_aload_n hx hb d_CO_init_0 rfl (lv_at hl 0 rfl) ?_
  refine W.objInit hx hb hown (hts _ (List.mem_cons_of_mem _ mw_171)) (hts _ (List.mem_cons_of_mem _ mw_22)) (hts _ (List.mem_cons_of_mem _ mw_23)) rfl (by rw [hml]; exact hl.1) rfl d_CO_init_1 (Nat.le_of_ble_eq_true rfl) (Nat.le_of_ble_eq_true rfl) ?_
  refine W.eq (g2 := F0 m 4 ls []) rfl ?_
  obtain ⟨co, h_co⟩ : ∃ z : COt, z = (((0, 0), 0), (0, 0)) := ⟨_, rfl⟩
  have hf := g_let hf h_co
  have hP : va_P (dC, dI) classes (wCO tC (cxA [h0]) co) H := by rw [h_co]; exact hP
  have hD : va_D A (wCO tC (cxA [h0]) co) := by rw [h_co]; exact hD
  have hq0 := hf
  subst hq0
  exact cx_vretN (mk := fun a => wCO tC a co) hx hb hr hlocks (cxA [h0]) rfl hP hD hS d_CO_init_4
