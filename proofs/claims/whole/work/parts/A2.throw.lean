theorem cx_nP {D : va_G} {cl : List vw_C} {H : Heap} : va_P D cl [] H := fun k q h => absurd h (by simp)
theorem cx_nD {A : Nat → Prop} : va_D A [] := ⟨fun i j p q h => absurd h (by simp), fun k q h => absurd h (by simp)⟩
theorem cx_nA {sz q : Nat} (h : va_A [] sz q) : sz ≤ q := by
  rcases h with ⟨k, e, h⟩ | h
  · exact absurd h (by simp)
  · exact h
def QT : Array Value → State → Outcome → State → Prop := fun _ st o t => ∃ (a : Addr) (ce : Cell), o = .threw a ∧ st.heap.size ≤ a ∧ t.heap[a]? = some ce ∧ st.vm.findClass arithN = some ce.cls ∧ ce.vm = .none ∧ st.vm.assignable ce.cls ce.cls = true ∧ FrameEndT st o t [] 1 6
def TZ (below : List Frame) (s : State) : State → Prop := fun t => ∃ o, t.status = .running ∧ Ended t below o ∧ QT #[] s o t
abbrev rmT : Room := { frames := 6, cells := 1, slots := 6, locals := 154 }
abbrev avR (ad : Nat → Nat → Nat) (x1 : Int32) (x2 x4 : Int64) : List Value := [.ref (ad 0 0), .int x1, .long x2, .long x4]
/-- the end of the road: a new ArithmeticException is thrown -/
theorem t_end {p : Program} {l : Launch} {e : Env} {s : State} {m : MethodId} {args : Array Value} {below : List Frame} {meth : Method} {c : Code} {H : Heap} {ls : Array Slot} (hfl : l.flags = flags0) (hx : p.tables.exec = Jvm.exec) (hb : c.code = b_SR_row) (hml : c.maxLocals = 8) (hls : ls.size = 8) (hown : s.vm.findClass "SpanRules" = some m.cls) (hts : ∀ w ∈ w_SR_row, w.before args s = true) (hlocks : meth.locks = false) (hno : c.exceptionTable.toList = []) (hO : OWN s) (hH : s.heap.size ≤ H.size) :
    W p l e rmT s m args below meth c H [] 0 0 (TZ below s) (F0 m 76 ls []) := by
  obtain ⟨hO1, q, hq⟩ := hO
  have hOa := OWN.any ⟨hO1, q, hq⟩ args
  obtain ⟨cX, kX, hfX, hkX, -⟩ := Cond.instantiable_spec (hts (.instantiable arithN 6) (List.mem_cons_of_mem _ mw_491))
  refine W.newcK (C := arithN) hx hb hown (hts _ (List.mem_cons_of_mem _ mw_490)) (hts (.instantiable arithN 6) (List.mem_cons_of_mem _ mw_491)) (hts _ (List.mem_cons_of_mem _ mw_13)) rfl d_SR_row_76 (by decide) (by decide) hfX rfl (fun H1 kC hkC e1 z1 o1 => ?_)
  refine W.eq (g2 := F0 m 79 ls [.ref H.size]) rfl ?_
  refine lv_dup hx hb d_SR_row_79 rfl ?_
  refine va_ldcS (q := q) hx hb hown hq d_SR_row_80 ?_
  intro T hT X
  have htr : e.platform.stackTraces = false := Launch.traces_off hfl X.admits
  obtain ⟨U, hsteps, hrun, hend, hW, hsame, ce, hce, K⟩ := X.ctorThrowS hx htr (own := "SpanRules") (cls := arithN) (names := arithUp) (ic := 132) hown (by decide +kernel) (by decide +kernel)
    hOa (fun y hy => by cases hy) hfX hkC (a := H.size) (by rw [hT]; exact e1) hH (msg := .ref q) rfl
    (g := F0 m 82 ls [.ref q, .ref H.size, .ref H.size]) rfl (by rw [hml]; exact hls) rfl rfl (rest := []) rfl
    (by rw [hb]; exact d_SR_row_82) (by rw [hb]; exact d_SR_row_85) (fun x hx => by rw [hno] at hx; cases hx) (by decide) (Nat.le_of_ble_eq_true rfl)
  exact ⟨U, hsteps, _, hrun, hend, H.size, ce, rfl, hH, hce, K.cls, K.vm, K.self, ⟨_, rfl⟩, hW, hsame⟩
set_option maxHeartbeats 4000000 in
set_option maxRecDepth 100000 in
theorem t_row (l : Launch) (hfl : l.flags = flags0) (dC : Nat → ClassId) (dI : Nat → Nat → Nat) (tC : Nat → ClassId) (ad : Nat → Nat → Nat) (k : Nat) (x1 : Int32) (x2 x4 : Int64) (sr : SRt) (la : LAt) (fb : FBt) (r : Int32) (h1 : ¬ f_SR_isKey x1 = 0) (h2 : ¬ f_SR_isWithin x2 (-(f_SR_row_B17 la)) (f_SR_row_B17 la) = 0) (h3 : LA_kind la = 5) (h4 : f_FB_has k (LA_ownRule la) x4 fb = some r) (h5 : ¬ r = 0) (sz : Nat) :
    MetFree l y_SR_row (headSpec w_SR_row rmT) (va_Pc (avR ad x1 x2 x4) (fun U => U.heap.size = sz ∧ va_P (dC, dI) classes (wSR tC ad sr ++ wLA tC (ad 1) la ++ wFB tC (ad 2) fb) U.heap ∧ va_K (dC, dI) classes (tyS tC) U ∧ cx_W U ∧ OWN U)) (fun _ _ _ _ _ => True) QT := by
  refine MetFree.of_bodySF (code := b_SR_row) (maxLocals := 8) (ret := some .int) (plainFor_of_name (by decide)) ?_ ?_
  · intro args s m h hn
    obtain ⟨meth, c, q1, q2, q3, q4, q5, q6, -, -⟩ := Cond.code_spec hn (atoms_spec (ws := w_SR_row) h _ List.mem_cons_self)
    exact ⟨meth, c, q1, q2, q3, q4, q5, q6⟩
  intro p e s m args below meth c s₁ B hml hv _
  obtain ⟨rfl, hsz, hP, hK, hN, hO⟩ := hv
  have hx := B.exec
  have hb := B.bytes
  have hr := B.returns
  have hts := atoms_spec (ws := w_SR_row) B.pre
  have hown : s.vm.findClass R_SR = some m.cls := findClass_of_methodNamed B.named
  have hlocks := B.notSynchronized
  have hno : c.exceptionTable.toList = [] := by
    have := B.noHandlers (hts _ List.mem_cons_self)
    rw [Array.isEmpty_iff.mp this]
  have hh0 : s₁.heap = s.heap := by rw [B.state]; rfl
  have key : W p l e rmT s m (avR ad x1 x2 x4).toArray below meth c s.heap [] 0 0 (TZ below s) (entryFrame m (avR ad x1 x2 x4).toArray 8) := by
    have hl := lv_entry (avR ad x1 x2 x4) (n := 8) (Nat.le_of_ble_eq_true rfl)
    rw [lg_entry_eq]
    generalize (lg_sl (avR ad x1 x2 x4) ++ List.replicate (8 - (lg_sl (avR ad x1 x2 x4)).length) Slot.unset).toArray = ls at hl ⊢
    have hl : lv_has ls 8 [(0, .ref (ad 0 0)), (1, .int x1), (2, .long x2), (4, .long x4)] := hl
    obtain ⟨A, hAe⟩ : ∃ A : Nat → Prop, A = fun q => s.heap.size ≤ q := ⟨_, rfl⟩
    have hA : ∀ q : Nat, s.heap.size ≤ q → A q := fun q h => by rw [hAe]; exact h
    have hS : va_S A s.heap s.heap [] := va_S.rf
    have hP : va_P (dC, dI) classes (wSR tC ad sr ++ wLA tC (ad 1) la ++ wFB tC (ad 2) fb) s.heap := hP
    refine lv_iload_n hx hb d_SR_row_0 rfl (lv_at hl 1 rfl) ?_
    refine cxr_run (rv := some (.int (f_SR_isKey x1))) (va_runS (As := [.int x1]) (rest := []) ⟨hx, hb, hml, hown, hts⟩ (c_SR_isKey l dC dI tC x1 (f_SR_isKey x1) rfl s.heap.size) (k_SR_116 hts ⟨Nat.le_of_ble_eq_true rfl, Nat.le_of_ble_eq_true rfl⟩) ⟨cx_blind, fun U hU hW => ⟨rfl, by rw [hU], cx_nP, va_K.moved hW.alike hK, cx_nD, cx_W.warm hW hN⟩⟩ rfl rfl hl.1 rfl (lv_room (Nat.le_of_ble_eq_true rfl)) d_SR_row_1 ⟨Nat.zero_le _, Nat.zero_le _⟩)
      (fun st t v hst hq => by obtain ⟨⟨hv, -⟩, hz, hk⟩ := hq; cases hv; rw [hst] at hz hk; exact ⟨rfl, hz, fun q hq => hk q hq (fun z => by have := cx_nA z; omega)⟩) (fun q h => cx_nA h) hP hS hA (fun H locs hP hS => ?_)
    refine W.eq (g2 := F0 m 4 ls [.int (f_SR_isKey x1)]) rfl ?_
    refine lv_if_ne (tgt := 9) hx hb d_SR_row_4 (by decide) (fun cb => ?_) (fun cb => absurd cb h1)
    refine lv_aload_n hx hb d_SR_row_9 rfl (lv_at hl 0 rfl) ?_
    refine va_get (D := (dC, dI)) (ci := 0) (v := .ref (ad 1 0)) (C := R_SR) (T := F_SR) (N := 14) hx hb hts (in_SR _) hown hK hP 0 rfl rfl 0 (by decide) (hts _ (List.mem_cons_of_mem _ mw_232)) (fun _ h9 => h9) rfl d_SR_row_10 ?_
    refine va_get (D := (dC, dI)) (ci := 1) (v := .int (LA_kind la)) (C := R_LA) (T := F_LA) (N := 8) hx hb hts (in_LA _) hown hK hP 1 rfl rfl 0 (by decide) (hts _ (List.mem_cons_of_mem _ mw_200)) (fun _ h9 => h9) rfl d_SR_row_13 ?_
    refine lv_iconst (v := 4) hx hb d_SR_row_16 (by decide) ?_
    have ht : f_SR_row_B17 la = 1000000000000 := by
      unfold f_SR_row_B17
      rw [h3, if_neg (by decide)]
    rw [ht] at h2
    refine lv_icmp_ne (tgt := 26) hx hb d_SR_row_17 (by decide) (fun cb2 => ?_) (fun cb2 => absurd (h3.symm.trans cb2) (by decide))
    refine lv_ldc2 (v := 1000000000000) hx hb hown (hts _ (List.mem_cons_of_mem _ mw_488)) d_SR_row_26 ?_
    refine lv_lstore (lv' := [(6, .long 1000000000000), (0, .ref (ad 0 0)), (1, .int x1), (2, .long x2), (4, .long x4)]) hx hb d_SR_row_29 hl (by decide) rfl (fun ls hl => ?_)
    refine lv_lload_n hx hb d_SR_row_31 rfl (lv_at hl 3 rfl) ?_
    refine lv_lload hx hb d_SR_row_32 (lv_at hl 0 rfl) ?_
    refine lv_lneg hx hb d_SR_row_34 ?_
    refine lv_lload hx hb d_SR_row_35 (lv_at hl 0 rfl) ?_
    refine cxr_run (rv := some (.int (f_SR_isWithin x2 (-1000000000000) 1000000000000))) (va_runS (As := [.long x2, .long (-1000000000000), .long 1000000000000]) (rest := []) ⟨hx, hb, hml, hown, hts⟩ (c_SR_isWithin l dC dI tC x2 (-1000000000000) 1000000000000 (f_SR_isWithin x2 (-1000000000000) 1000000000000) rfl H.size) (k_SR_95 hts ⟨Nat.le_of_ble_eq_true rfl, Nat.le_of_ble_eq_true rfl⟩) ⟨cx_blind, fun U hU hW => ⟨rfl, by rw [hU], cx_nP, va_K.moved hW.alike hK, cx_nD, cx_W.warm hW hN⟩⟩ rfl rfl hl.1 rfl (lv_room (Nat.le_of_ble_eq_true rfl)) d_SR_row_37 ⟨Nat.zero_le _, Nat.zero_le _⟩)
      (fun st t v hst hq => by obtain ⟨⟨hv, -⟩, hz, hk⟩ := hq; cases hv; rw [hst] at hz hk; exact ⟨rfl, hz, fun q hq => hk q hq (fun z => by have := cx_nA z; omega)⟩) (fun q h => cx_nA h) hP hS hA (fun H locs hP hS => ?_)
    refine W.eq (g2 := F0 m 40 ls [.int (f_SR_isWithin x2 (-1000000000000) 1000000000000)]) rfl ?_
    refine lv_if_ne (tgt := 46) hx hb d_SR_row_40 (by decide) (fun cb3 => ?_) (fun cb3 => absurd cb3 h2)
    refine lv_aload_n hx hb d_SR_row_46 rfl (lv_at hl 1 rfl) ?_
    refine va_get (D := (dC, dI)) (ci := 0) (v := .ref (ad 1 0)) (C := R_SR) (T := F_SR) (N := 14) hx hb hts (in_SR _) hown hK hP 0 rfl rfl 0 (by decide) (hts _ (List.mem_cons_of_mem _ mw_232)) (fun _ h9 => h9) rfl d_SR_row_47 ?_
    refine va_get (D := (dC, dI)) (ci := 1) (v := .int (LA_kind la)) (C := R_LA) (T := F_LA) (N := 8) hx hb hts (in_LA _) hown hK hP 1 rfl rfl 0 (by decide) (hts _ (List.mem_cons_of_mem _ mw_200)) (fun _ h9 => h9) rfl d_SR_row_50 ?_
    refine lv_iconst (v := 5) hx hb d_SR_row_53 (by decide) ?_
    refine lv_icmp_ne (tgt := 86) hx hb d_SR_row_54 (by decide) (fun cb4 => absurd h3 cb4) (fun cb4 => ?_)
    refine lv_aload_n hx hb d_SR_row_57 rfl (lv_at hl 1 rfl) ?_
    refine va_get (D := (dC, dI)) (ci := 0) (v := .ref (ad 2 0)) (C := R_SR) (T := F_SR) (N := 14) hx hb hts (in_SR _) hown hK hP 0 rfl rfl 1 (by decide) (hts _ (List.mem_cons_of_mem _ mw_233)) (fun _ h9 => h9) rfl d_SR_row_58 ?_
    refine lv_aload_n hx hb d_SR_row_61 rfl (lv_at hl 1 rfl) ?_
    refine va_get (D := (dC, dI)) (ci := 0) (v := .ref (ad 1 0)) (C := R_SR) (T := F_SR) (N := 14) hx hb hts (in_SR _) hown hK hP 0 rfl rfl 0 (by decide) (hts _ (List.mem_cons_of_mem _ mw_232)) (fun _ h9 => h9) rfl d_SR_row_62 ?_
    refine va_get (D := (dC, dI)) (ci := 1) (v := .int (LA_ownRule la)) (C := R_LA) (T := F_LA) (N := 8) hx hb hts (in_LA _) hown hK hP 1 rfl rfl 6 (by decide) (hts _ (List.mem_cons_of_mem _ mw_212)) (fun _ h9 => h9) rfl d_SR_row_65 ?_
    refine lv_lload hx hb d_SR_row_68 (lv_at hl 4 rfl) ?_
    refine cxr_run (rv := some (.int r)) (va_runV (As := [.int (LA_ownRule la), .long x4]) (rest := []) ⟨hx, hb, hml, hown, hts⟩ (c_FB_hasR l dC dI tC (ad 2) k (LA_ownRule la) x4 fb r h4 H.size) (k_SR_124 hts ⟨Nat.le_of_ble_eq_true rfl, Nat.le_of_ble_eq_true rfl⟩) ⟨fun a U g mk q => by obtain ⟨q0, q1, qP, qK, qN⟩ := q; exact ⟨q0, q1, qP, va_K.moved (u := U) (U := U.calling g mk a) (Vm.Alike.refl U.vm) qK, cx_W.same (s := U) (U := U.calling g mk a) rfl qN⟩, va_recv hK hP (ci := 2) rfl (show (wSR tC ad sr ++ wLA tC (ad 1) la ++ wFB tC (ad 2) fb)[4]? = _ from rfl), fun U hU hW => ⟨rfl, by rw [hU], by rw [hU]; exact cx_P hP (is := [4, 5, 6]) rfl, va_K.moved hW.alike hK, cx_W.warm hW hN⟩⟩ rfl rfl hl.1 rfl (lv_room (Nat.le_of_ble_eq_true rfl)) d_SR_row_70 ⟨Nat.zero_le _, Nat.zero_le _⟩)
      (fun st t v hst hq => by obtain ⟨⟨hv, -⟩, hz, hk⟩ := hq; cases hv; rw [hst] at hz hk; exact ⟨rfl, hz, fun q hq => hk q hq (by omega)⟩) (fun q h => h) hP hS hA (fun H locs hP hS => ?_)
    refine W.eq (g2 := F0 m 73 ls [.int r]) rfl ?_
    refine lv_if_eq (tgt := 86) hx hb d_SR_row_73 (by decide) (fun cb5 => absurd cb5 h5) (fun cb5 => ?_)
    refine va_forget (fun q hq => by have := hS.2.2 q hq; rw [hAe] at this; exact this) ?_
    exact t_end hfl hx hb hml hl.1 hown hts hlocks hno hO hS.1
  obtain ⟨t, a1, o, b1, b2, b3⟩ := key s₁ hh0 (Stand.of_body B)
  exact ⟨t, o, a1, b1, b2, b3⟩
