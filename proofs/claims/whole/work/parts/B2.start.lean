/-! THE LAW FROM ITS ENTRY -/
theorem wD_rot {A : Nat → Prop} {wA wB wC : va_W} (hD : va_D A (wA ++ wB ++ wC)) : va_D A (wB ++ (wA ++ wC)) := by
  refine va_D.app (wD_r (wD_l hD)) (va_D.app (wD_l (wD_l hD)) (wD_r hD) (fun i j x y hx hy => wD_x hD (i := i) (by rw [List.getElem?_append_left (List.getElem?_eq_some_iff.mp hx).1]; exact hx) hy)) (fun i j x y hx hy hxy => ?_)
  by_cases hj : j < wA.length
  · rw [List.getElem?_append_left hj] at hy
    exact wD_x (wD_l hD) hy hx hxy.symm
  · rw [List.getElem?_append_right (by omega)] at hy
    exact wD_x hD (i := wA.length + i) (by rw [List.getElem?_append_right (Nat.le_add_right _ _), Nat.add_sub_cancel_left]; exact hx) hy hxy
section LWCELL
variable {p : Program} {l : Launch} {e : Env} {s : State} {m : MethodId} {below : List Frame} {meth : Method} {c : Code} {H : Heap} {locs : List Loc} {cells slots : Nat} {Q : State → Prop} {pc : Nat} {ls : Array Slot} {rest : List Value} {b L : Nat} {xs : Nat → Int32} {dC : Nat → ClassId} {dI : Nat → Nat → Nat} {tC : Nat → ClassId} {ws : va_W}
/-- cell(script, k) -/
theorem lw_cell (F : LFx p l s m c b L xs dC dI tC) (hS : va_S (AA s) s.heap H locs) (hP : va_P (dC, dI) classes ws H) (hsz : ls.size = 7) (h0 : ls[0]? = some (.val (.ref b))) (k : Nat) (hk : k ≤ 2) {z : Int} (hz : Int32.ofInt z = nI k) (hW : (rest.map fun v => v.category).sum ≤ 8) (hf : cells ≤ room_1.cells ∧ slots ≤ room_1.slots) (d1 : decode code pc = .ok (.aload_n 0, 1)) (d2 : decode code (pc + 1) = .ok (.iconst z, 1)) (d3 : decode code (pc + 1 + 1) = .ok (.invokestatic 15, 3))
    (kk : ∀ (H1 : Heap) (locs1 : List Loc), va_P (dC, dI) classes ws H1 → va_S (AA s) s.heap H1 locs1 → W p l e room_1 s m #[Value.ref b] below meth c H1 locs1 cells slots Q (F0 m (pc + 1 + 1 + 3) ls (.int (lw_cv L xs k) :: rest))) : W p l e room_1 s m #[Value.ref b] below meth c H locs cells slots Q (F0 m pc ls rest) := by
  have hbA : ¬ AA s b := Nat.not_le.mpr F.hbl
  refine lv_aload_n F.hx F.hb d1 rfl h0 ?_
  refine lv_iconst (v := nI k) F.hx F.hb d2 hz ?_
  refine cxr_run (rv := some (.int (lw_cv L xs k))) (va_runS (g := F0 m (pc + 1 + 1) ls (.int (nI k) :: .ref b :: rest)) (As := [.ref b, .int (nI k)]) (rest := rest) ⟨F.hx, F.hb, F.hml, F.hown, F.hts⟩ (c_LW_cell l b L xs F.hL k hk H.size) (k_LW_15 F.hts ⟨Nat.le_of_ble_eq_true rfl, Nat.le_of_ble_eq_true rfl⟩) ⟨fun a U g mk q => ⟨q.1, q.2.1, va_X.moved (u := U) (U := U.calling g mk a) (Vm.Alike.refl U.vm) q.2.2.1, q.2.2.2⟩, fun U hU hW => ⟨rfl, by rw [hU], by rw [hU]; exact (F.hX.kept (hS.2.1 b F.hbl hbA)).moved hW.alike, Nat.lt_of_lt_of_le F.hbl hS.1⟩⟩ rfl rfl hsz rfl (lv_room hW) d3 hf)
    (fun st t v hst hq => by obtain ⟨hv, hz9, hk9⟩ := hq; cases hv; rw [hst] at hz9 hk9; exact ⟨rfl, hz9, hk9⟩) (fun q h => h) hP hS (fun _ h => h) kk
end LWCELL
set_option maxHeartbeats 4000000 in
set_option maxRecDepth 100000 in
/-- THE LAW, from its entry: for every script of at most 3075 ints it comes to its end with true -/
theorem whole_start {p : Program} {e : Env} {s : State} {m : MethodId} {below : List Frame} {meth : Method} {c : Code} (l : Launch) (hfl : l.flags = flags0) {b L : Nat} {xs : Nat → Int32} (hL : L ≤ 3075) (C0 : lw_At p s m meth c b L xs) : W p l e room_1 s m #[Value.ref b] below meth c s.heap [] 0 0 (lw_Z below #[Value.ref b] s) (entryFrame m ([Value.ref b] : List Value).toArray 7) := by
  obtain ⟨hx, hb, hr, hml, hown, hts0, hX, hbl, hlocks, hgv⟩ := id C0
  have hown : s.vm.findClass R_LW = some m.cls := hown
  have hts : ∀ w ∈ Cond.tt :: ww, w.before #[Value.ref b] s = true := by
    intro w hw
    rcases List.mem_cons.mp hw with rfl | hw
    · rfl
    · exact ww_hts hts0 w hw
  have hN := cx_W.start hts0
  have hO := OWN.start hts0 hgv
  obtain ⟨dC, dI, tC, hK⟩ := K_start hts
  have F : LFx p l s m c b L xs dC dI tC := ⟨hx, hb, hml, hown, hts, hX, hbl, hK, hN, hO, hfl, hL⟩
  have hA : ∀ q : Nat, s.heap.size ≤ q → AA s q := fun _ h => h
  have hS : va_S (AA s) s.heap s.heap [] := va_S.rf
  have hP : va_P (dC, dI) classes [] s.heap := cx_nP
  have hD : va_D (AA s) [] := cx_nD
  have hl := lv_entry ([.ref b]) (n := 7) (Nat.le_of_ble_eq_true rfl)
  rw [lg_entry_eq]
  generalize (lg_sl ([.ref b]) ++ List.replicate (7 - (lg_sl ([.ref b])).length) Slot.unset).toArray = ls at hl ⊢
  have hl : lv_has ls 7 [(0, .ref b)] := hl
  obtain ⟨k, hk⟩ : ∃ k : Nat, 5000 ≤ k := ⟨5000, Nat.le_refl _⟩
  obtain ⟨sr, fb, rs, ss, nu, fs, co, la, mo, e1, e2, hR⟩ := s_init k hk (lw_cv L xs 0) (lw_cv L xs 1) (lw_cv L xs 2)
  refine va_new (ci := 0) (fs := [.null, .null, .null, .null, .null, .null, .null, .long 0, .long 0, .int 0, .int 0, .int 0, .int 0, .int 0]) (C := R_SR) (T := F_SR) (N := 14) hx hb hts (in_SR _) t_SR t_SR_ok hown (hts _ (List.mem_cons_of_mem _ mw_16)) (hts _ (List.mem_cons_of_mem _ mw_17)) (hts _ (List.mem_cons_of_mem _ mw_1)) hK hP hD hS hA rfl (fun j hj => by rcases (show j = 0 ∨ j = 1 ∨ j = 2 ∨ j = 3 ∨ j = 4 ∨ j = 5 ∨ j = 6 ∨ j = 7 ∨ j = 8 ∨ j = 9 ∨ j = 10 ∨ j = 11 ∨ j = 12 ∨ j = 13 by omega) with rfl | rfl | rfl | rfl | rfl | rfl | rfl | rfl | rfl | rfl | rfl | rfl | rfl | rfl <;> rfl) (Nat.le_of_ble_eq_true rfl) (Nat.le_of_ble_eq_true rfl) d_LW_law_0 (fun h0 H hP hD hS => ?_)
  have hP : va_P (dC, dI) classes [(h0, .inr (0, [.null, .null, .null, .null, .null, .null, .null, .long 0, .long 0, .int 0, .int 0, .int 0, .int 0, .int 0]))] H := hP
  have hD : va_D (AA s) [(h0, .inr (0, [.null, .null, .null, .null, .null, .null, .null, .long 0, .long 0, .int 0, .int 0, .int 0, .int 0, .int 0]))] := hD
  refine W.widen (k := 1) (n := 14) (Nat.le_of_ble_eq_true rfl) (Nat.le_of_ble_eq_true rfl) ?_
  refine lv_dup hx hb d_LW_law_3 rfl ?_
  refine lw_cell F hS hP hl.1 (lv_at hl 0 rfl) 0 (by omega) (by decide) (Nat.le_of_ble_eq_true rfl) ⟨Nat.le_of_ble_eq_true rfl, Nat.le_of_ble_eq_true rfl⟩ d_LW_law_4 d_LW_law_5 d_LW_law_6 (fun H locs hP hS => ?_)
  refine lw_cell F hS hP hl.1 (lv_at hl 0 rfl) 1 (by omega) (by decide) (Nat.le_of_ble_eq_true rfl) ⟨Nat.le_of_ble_eq_true rfl, Nat.le_of_ble_eq_true rfl⟩ d_LW_law_9 d_LW_law_10 d_LW_law_11 (fun H locs hP hS => ?_)
  refine lw_cell F hS hP hl.1 (lv_at hl 0 rfl) 2 (by omega) (by decide) (Nat.le_of_ble_eq_true rfl) ⟨Nat.le_of_ble_eq_true rfl, Nat.le_of_ble_eq_true rfl⟩ d_LW_law_14 d_LW_law_15 d_LW_law_16 (fun H locs hP hS => ?_)
  refine W.eq (g2 := F0 m 19 ls [.int (lw_cv L xs 2), .int (lw_cv L xs 1), .int (lw_cv L xs 0), .ref h0, .ref h0]) rfl ?_
  refine cx_callI (ws := []) (As := [.int (lw_cv L xs 0), .int (lw_cv L xs 1), .int (lw_cv L xs 2)]) (rest := [.ref h0]) ⟨hx, hb, hml, hown, hts⟩ (c_SR_init l dC dI tC h0 k (lw_cv L xs 0) (lw_cv L xs 1) (lw_cv L xs 2) sr fb rs ss nu fs co la e1) (cwI 3 hts (gi_C mw_20) rfl rfl rfl (hts _ (List.mem_cons_of_mem _ mw_1)) (hts _ (List.mem_cons_of_mem _ mw_18)) (hts _ (List.mem_cons_of_mem _ mw_19)) rfl (by decide +kernel) ⟨Nat.le_of_ble_eq_true rfl, Nat.le_of_ble_eq_true rfl⟩) hl.1 hP hD hS hA hK hN rfl rfl (Nat.le_of_ble_eq_true rfl) d_LW_law_19 ⟨Nat.le_of_ble_eq_true rfl, Nat.le_of_ble_eq_true rfl⟩ (fun a H locs ha hP9 hD9 hS => ?_)
  clear hP hD
  refine W.widen (k := 40) (n := 9600) (Nat.le_of_ble_eq_true rfl) (Nat.le_of_ble_eq_true rfl) ?_
  obtain ⟨ad, had⟩ : ∃ ad : Nat → Nat → Nat, ad = cxD a := ⟨_, rfl⟩
  have h00 : ad 0 0 = h0 := by rw [had]; exact ha
  have hPa : va_P (dC, dI) classes (wSR tC ad sr ++ wFB tC (ad 2) fb ++ wRS tC (ad 3) rs ++ wSS tC (ad 4) ss ++ wNU tC (ad 5) nu ++ wFS tC (ad 6) fs ++ wCO tC (ad 7) co ++ wLA tC (ad 1) la) H := by rw [had]; exact hP9
  have hDa : va_D (AA s) (wSR tC ad sr ++ wFB tC (ad 2) fb ++ wRS tC (ad 3) rs ++ wSS tC (ad 4) ss ++ wNU tC (ad 5) nu ++ wFS tC (ad 6) fs ++ wCO tC (ad 7) co ++ wLA tC (ad 1) la) := by rw [had]; exact hD9
  clear hP9 hD9 had ha
  subst h00
  have hP := hPa.sub (ws' := wX tC ad sr la fb rs ss nu fs co) [0, 29, 30, 31, 1, 2, 3, 4, 5, 6, 7, 8, 9, 10, 11, 12, 13, 14, 15, 16, 17, 18, 19, 20, 21, 22, 23, 24, 25, 26, 27, 28] rfl
  have hD := hDa.sub (ws' := wX tC ad sr la fb rs ss nu fs co) [0, 29, 30, 31, 1, 2, 3, 4, 5, 6, 7, 8, 9, 10, 11, 12, 13, 14, 15, 16, 17, 18, 19, 20, 21, 22, 23, 24, 25, 26, 27, 28] (by decide) rfl
  refine W.eq (g2 := F0 m 22 ls [.ref (ad 0 0)]) rfl ?_
  refine lv_astore_n (lv' := [(1, .ref (ad 0 0)), (0, .ref b)]) hx hb d_LW_law_22 rfl hl (by decide) rfl (fun ls hl => ?_)
  refine va_new (ci := 8) (fs := [.int 0, .int 0, .int 0, .long 0, .long 0, .int 0, .int 0, .int 0, .int 0, .null, .null, .long 0, .int 0, .null, .null, .null, .null, .null, .int 0, .int 0, .int 0, .null, .null, .null, .null, .null, .null, .null, .null, .int 0, .null, .null, .null, .int 0, .int 0, .int 0, .int 0, .int 0, .null, .null, .null, .null]) (C := R_MO) (T := F_MO) (N := 42) hx hb hts (in_MO _) t_MO t_MO_ok hown (hts _ (List.mem_cons_of_mem _ mw_680)) (hts _ (List.mem_cons_of_mem _ mw_681)) (hts _ (List.mem_cons_of_mem _ mw_9)) hK hP hD hS hA rfl (fun j hj => by rcases (show j = 0 ∨ j = 1 ∨ j = 2 ∨ j = 3 ∨ j = 4 ∨ j = 5 ∨ j = 6 ∨ j = 7 ∨ j = 8 ∨ j = 9 ∨ j = 10 ∨ j = 11 ∨ j = 12 ∨ j = 13 ∨ j = 14 ∨ j = 15 ∨ j = 16 ∨ j = 17 ∨ j = 18 ∨ j = 19 ∨ j = 20 ∨ j = 21 ∨ j = 22 ∨ j = 23 ∨ j = 24 ∨ j = 25 ∨ j = 26 ∨ j = 27 ∨ j = 28 ∨ j = 29 ∨ j = 30 ∨ j = 31 ∨ j = 32 ∨ j = 33 ∨ j = 34 ∨ j = 35 ∨ j = 36 ∨ j = 37 ∨ j = 38 ∨ j = 39 ∨ j = 40 ∨ j = 41 by omega) with rfl | rfl | rfl | rfl | rfl | rfl | rfl | rfl | rfl | rfl | rfl | rfl | rfl | rfl | rfl | rfl | rfl | rfl | rfl | rfl | rfl | rfl | rfl | rfl | rfl | rfl | rfl | rfl | rfl | rfl | rfl | rfl | rfl | rfl | rfl | rfl | rfl | rfl | rfl | rfl | rfl | rfl <;> rfl) (Nat.le_of_ble_eq_true rfl) (Nat.le_of_ble_eq_true rfl) d_LW_law_23 (fun h1 H hP hD hS => ?_)
  refine W.widen (k := 41) (n := 9642) (Nat.le_of_ble_eq_true rfl) (Nat.le_of_ble_eq_true rfl) ?_
  refine lv_dup hx hb d_LW_law_26 rfl ?_
  refine lw_cell F hS hP hl.1 (lv_at hl 1 rfl) 0 (by omega) (by decide) (Nat.le_of_ble_eq_true rfl) ⟨Nat.le_of_ble_eq_true rfl, Nat.le_of_ble_eq_true rfl⟩ d_LW_law_27 d_LW_law_28 d_LW_law_29 (fun H locs hP hS => ?_)
  refine lw_cell F hS hP hl.1 (lv_at hl 1 rfl) 1 (by omega) (by decide) (Nat.le_of_ble_eq_true rfl) ⟨Nat.le_of_ble_eq_true rfl, Nat.le_of_ble_eq_true rfl⟩ d_LW_law_32 d_LW_law_33 d_LW_law_34 (fun H locs hP hS => ?_)
  refine lw_cell F hS hP hl.1 (lv_at hl 1 rfl) 2 (by omega) (by decide) (Nat.le_of_ble_eq_true rfl) ⟨Nat.le_of_ble_eq_true rfl, Nat.le_of_ble_eq_true rfl⟩ d_LW_law_37 d_LW_law_38 d_LW_law_39 (fun H locs hP hS => ?_)
  refine W.eq (g2 := F0 m 42 ls [.int (lw_cv L xs 2), .int (lw_cv L xs 1), .int (lw_cv L xs 0), .ref h1, .ref h1]) rfl ?_
  refine cx_callI (ws := wX tC ad sr la fb rs ss nu fs co) (As := [.int (lw_cv L xs 0), .int (lw_cv L xs 1), .int (lw_cv L xs 2)]) (rest := [.ref h1]) ⟨hx, hb, hml, hown, hts⟩ (c_MO_init l dC dI tC h1 k (lw_cv L xs 0) (lw_cv L xs 1) (lw_cv L xs 2) mo e2) (cwI 3 hts (gi_C mw_684) rfl rfl rfl (hts _ (List.mem_cons_of_mem _ mw_9)) (hts _ (List.mem_cons_of_mem _ mw_682)) (hts _ (List.mem_cons_of_mem _ mw_683)) rfl (by decide +kernel) ⟨Nat.le_of_ble_eq_true rfl, Nat.le_of_ble_eq_true rfl⟩) hl.1 hP hD hS hA hK hN rfl rfl (Nat.le_of_ble_eq_true rfl) d_LW_law_42 ⟨Nat.le_of_ble_eq_true rfl, Nat.le_of_ble_eq_true rfl⟩ (fun am H locs ha hP9 hD9 hS => ?_)
  clear hP hD
  subst ha
  have hP : va_P (dC, dI) classes (wX tC ad sr la fb rs ss nu fs co ++ wMO tC am mo) H := hP9
  have hD : va_D (AA s) (wX tC ad sr la fb rs ss nu fs co ++ wMO tC am mo) := hD9
  clear hP9 hD9
  refine W.widen (k := 80) (n := 140000) (Nat.le_of_ble_eq_true rfl) (Nat.le_of_ble_eq_true rfl) ?_
  refine W.eq (g2 := F0 m 45 ls [.ref (am 0)]) rfl ?_
  refine lv_astore_n (lv' := [(2, .ref (am 0)), (1, .ref (ad 0 0)), (0, .ref b)]) hx hb d_LW_law_45 rfl hl (by decide) rfl (fun ls hl => ?_)
  refine lv_iconst (v := 1) hx hb d_LW_law_46 (by decide) ?_
  refine cx_newa (atype := .long) (ty := .long) (a0 := (1, .inr (.inl (fun _ => 0)))) (N' := 1) hx hb (hts _ (List.mem_cons_of_mem _ mw_37)) rfl hK hP hD hS hA (fun _ => rfl) (by decide) (by decide) (by decide) (Nat.le_of_ble_eq_true rfl) (Nat.le_of_ble_eq_true rfl) d_LW_law_47 1 rfl cx_uL (fun ao H hP9 hD9 hS => ?_)
  clear hP hD
  refine W.widen (k := 100 + 0) (n := 200000 + 6 * 0) (Nat.le_of_ble_eq_true rfl) (Nat.le_of_ble_eq_true rfl) ?_
  refine lv_astore_n (lv' := [(3, .ref ao), (2, .ref (am 0)), (1, .ref (ad 0 0)), (0, .ref b)]) hx hb d_LW_law_49 rfl hl (by decide) rfl (fun ls hl => ?_)
  refine lv_iconst (v := 3) hx hb d_LW_law_50 (by decide) ?_
  refine lv_istore (lv' := [(4, .int 3), (3, .ref ao), (2, .ref (am 0)), (1, .ref (ad 0 0)), (0, .ref b)]) hx hb d_LW_law_51 hl (by decide) rfl (fun ls hl => ?_)
  have hP : va_P (dC, dI) classes (wLW tC ad am ao sr la fb rs ss nu fs co mo (fun _ => 0)) H := va_P.app (wP_r (wP_l hP9)) (va_P.app (wP_l (wP_l hP9)) (wP_r hP9))
  have hD : va_D (AA s) (wLW tC ad am ao sr la fb rs ss nu fs co mo (fun _ => 0)) := wD_rot hD9
  have hl : lv_has ls 7 [(4, .int (nI (3 + 6 * 0))), (3, .ref ao), (2, .ref (am 0)), (1, .ref (ad 0 0)), (0, .ref b)] := hl
  exact lw_loop F hr hlocks k hk 513 0 rfl sr la fb rs ss nu fs co mo (fun _ => 0) H locs ls hR hP hD hS (lv_sub hl [4, 3, 2, 1, 0] rfl)
