/-- the helper row where the class throws: it answers 1, no old cell has changed -/
def QH : Array Value → State → Outcome → State → Prop := fun _ st oc t => oc = .returned (some (.int 1)) ∧ st.heap.size ≤ t.heap.size ∧ ∀ q : Nat, q < st.heap.size → t.heap[q]? = st.heap[q]?
abbrev PcR (dC : Nat → ClassId) (dI : Nat → Nat → Nat) (tC : Nat → ClassId) (ad : Nat → Nat → Nat) (sr : SRt) (la : LAt) (fb : FBt) (sz : Nat) : State → Prop := fun U => U.heap.size = sz ∧ va_P (dC, dI) classes (wSR tC ad sr ++ wLA tC (ad 1) la ++ wFB tC (ad 2) fb) U.heap ∧ va_K (dC, dI) classes (tyS tC) U ∧ cx_W U ∧ OWN U
theorem PcR.same {dC : Nat → ClassId} {dI : Nat → Nat → Nat} {tC : Nat → ClassId} {ad : Nat → Nat → Nat} {sr : SRt} {la : LAt} {fb : FBt} {sz : Nat} {s U : State} (h : PcR dC dI tC ad sr la fb sz s) (hh : U.heap = s.heap) (hW : s.WarmedH U.vm) : PcR dC dI tC ad sr la fb sz U := by
  obtain ⟨h1, h2, h3, h4, h5⟩ := h
  exact ⟨by rw [hh]; exact h1, by rw [hh]; exact h2, va_K.moved hW.alike h3, cx_W.warm hW h4, h5.move hW (fun q cell hc _ => by rw [hh]; exact hc)⟩
set_option maxHeartbeats 4000000 in
set_option maxRecDepth 100000 in
theorem t_LW_row (l : Launch) (hfl : l.flags = flags0) (dC : Nat → ClassId) (dI : Nat → Nat → Nat) (tC : Nat → ClassId) (ad : Nat → Nat → Nat) (ao : Nat) (k : Nat) (x1 : Int32) (x2 x4 : Int64) (sr : SRt) (la : LAt) (fb : FBt) (r : Int32) (h1 : ¬ f_SR_isKey x1 = 0) (h2 : ¬ f_SR_isWithin x2 (-(f_SR_row_B17 la)) (f_SR_row_B17 la) = 0) (h3 : LA_kind la = 5) (h4 : f_FB_has k (LA_ownRule la) x4 fb = some r) (h5 : ¬ r = 0) (sz : Nat) :
    Met l y_LW_row w_LW_row rmHT (va_Pc (avH ad x1 x2 x4 ao) (PcR dC dI tC ad sr la fb sz)) QH 1 6 (fun q => sz ≤ q) := by
  refine va_MetW (cc := b_LW_row) (maxL := 8) (ret := some .int) (hh := h_LW_row) (by decide) rfl ?_
  intro p e s m args below meth c s₁ B hml hv
  obtain ⟨rfl, hPR⟩ := hv
  have hx := B.exec
  have hb := B.bytes
  have hr := B.returns
  have hts := atoms_spec (ws := w_LW_row) B.pre
  have hown : s.vm.findClass R_LW = some m.cls := findClass_of_methodNamed B.named
  have hlocks := B.notSynchronized
  have htab : c.exceptionTable.toList = [⟨0, 13, 16, 13⟩] := by
    have X0 := Stand.of_body B
    obtain ⟨m', meth', c', q0, q1, q2, q3, q4, q5, -⟩ := Cond.codeWith_spec (hts _ List.mem_cons_self)
    cases B.named.symm.trans q0
    cases X0.method.symm.trans q1
    cases X0.code.symm.trans q2
    rw [← table_eq c.exceptionTable.toList, q5]
    rfl
  have hl := lv_entry (avH ad x1 x2 x4 ao) (n := 8) (Nat.le_of_ble_eq_true rfl)
  rw [lg_entry_eq]
  generalize (lg_sl (avH ad x1 x2 x4 ao) ++ List.replicate (8 - (lg_sl (avH ad x1 x2 x4 ao)).length) Slot.unset).toArray = ls at hl ⊢
  have hl : lv_has ls 8 [(0, .ref (ad 0 0)), (1, .int x1), (2, .long x2), (4, .long x4), (6, .ref ao)] := hl
  refine lv_aload hx hb d_LW_row_0 (lv_at hl 4 rfl) ?_
  refine lv_iconst (v := 0) hx hb d_LW_row_2 (by decide) ?_
  refine lv_aload_n hx hb d_LW_row_3 rfl (lv_at hl 0 rfl) ?_
  refine lv_iload_n hx hb d_LW_row_4 rfl (lv_at hl 1 rfl) ?_
  refine lv_lload_n hx hb d_LW_row_5 rfl (lv_at hl 2 rfl) ?_
  refine lv_lload hx hb d_LW_row_6 (lv_at hl 3 rfl) ?_
  refine W.eq (g2 := F0 m 8 ls [.long x4, .long x2, .int x1, .ref (ad 0 0), .int 0, .ref ao]) rfl ?_
  obtain ⟨⟨-, -, hfr, hlo, hws, hcw, hcode, hini, hy, hlen, hlk⟩, hin, hse⟩ := k_LW_7 (R := rmHT) hts ⟨Nat.le_of_ble_eq_true rfl, Nat.le_of_ble_eq_true rfl⟩
  have hBT : BackT l rmHT p e below s (avH ad x1 x2 x4 ao).toArray y_SR_row 3 8 (fun A a => A.cells + 1 ≤ 1 ∧ A.slots + 6 ≤ 6 ∧ va_Pc (avR ad x1 x2 x4) (PcR dC dI tC ad sr la fb sz) a A.U)
      (fun A a v B => ∃ (g : JFrame) (mk : MethodId) (t : State), B.U.heap = t.heap ∧ QT a (A.U.calling g mk a) (.threw v) t ∧ B.locs = A.locs ∧ B.cells = A.cells + 1 ∧ B.slots = A.slots + 6) := by
    refine BackT.of_free (S := headSpec w_SR_row rmT) (K := fun _ _ _ _ _ => True) (bytes := b_SR_row) (maxL := 8) (ret := some .int) (E := fun a st o t L k n => L = [] ∧ k = 1 ∧ n = 6) (t_row l hfl dC dI tC ad k x1 x2 x4 sr la fb r h1 h2 h3 h4 h5 sz) hfr hlo ?_ ?_ (fun _ _ _ _ _ _ _ _ _ => trivial) ?_ ?_
    · intro m' meth' c' A a X hp
      exact ⟨atoms_intro fun w hw => hws w hw _ _ X.warmed, hws _ hcw _ _ X.warmed, word_at X.warmed (Or.inl (by first | rfl | simp [Cond.onTables, Cond.keeps, Cond.steady])) hini, hp.1, hp.2.1⟩
    · intro m' meth' c' A a g mk X hp
      exact ⟨hp.2.2.1, hp.2.2.2.same rfl (State.WarmedH.refl A.U)⟩
    · intro a st o t hq
      obtain ⟨ax, ce, ho, q1, q2, q3, q4, q5, q6⟩ := hq
      exact ⟨[], 1, 6, q6, rfl, rfl, rfl⟩
    · intro m' meth' c' A a g mk v t L k n X hp hq hF hE
      obtain ⟨rfl, rfl, rfl⟩ := hE
      exact ⟨g, mk, t, rfl, hq, by simp, rfl, rfl⟩
  have hh0 : s.heap.size = sz := hPR.1
  intro T hT X
  obtain ⟨cellB, hcB, hoB, hclB⟩ := va_recv (D := (dC, dI)) hPR.2.2.1 hPR.2.1 (ci := 0) (q0 := 0) rfl rfl
  obtain ⟨v, vm₁, ⟨U, L1, c1, n1⟩, hW1, XU, ⟨g1, mk1, t1, ht1, ⟨ax, ce, ho, q1, q2, q3, q4, q5, q6⟩, eL, ec, en⟩, come⟩ := th_callV X hx (own := R_LW) (C := R_SR) (index := 7) (y := y_SR_row) (bytes := b_SR_row) (maxL := 8) (ret := some .int) hown hlk hin hse hcode hy hBT (b := ad 0 0) (cellB := cellB) (by rw [hT]; exact hcB) hoB hclB
    (g := F0 m 8 ls [.long x4, .long x2, .int x1, .ref (ad 0 0), .int 0, .ref ao]) rfl (by rw [hml]; exact hl.1) (argsL := [.int x1, .long x2, .long x4]) (rest := [.int 0, .ref ao]) (fun sig h => hlen sig h) rfl (lv_room (Nat.le_of_ble_eq_true rfl)) (by rw [hb]; exact d_LW_row_8)
    (fun vm₁ hW₁ => ⟨Nat.le_refl _, Nat.le_refl _, rfl, hPR.same hT hW₁⟩)
  dsimp only [Pt.U, Pt.locs, Pt.cells, Pt.slots] at XU ht1 eL ec en come
  subst eL ec en
  cases ho
  have hst : ∀ (vm : Vm), ((T.setVm vm).calling g1 mk1 (Value.ref (ad 0 0) :: [Value.int x1, .long x2, .long x4]).toArray).heap = s.heap := fun vm => hT
  have hsm := q6.2.2
  have hkept : ∀ q : Nat, q < s.heap.size → U.heap[q]? = s.heap[q]? := fun q hq => by
    have h9 := th_kept hsm q (by rw [hst]; exact hq)
    rw [hst] at h9
    rw [ht1]
    exact h9
  have hsize : s.heap.size ≤ U.heap.size := by
    have h9 := hsm.2.1
    rw [hst] at h9
    rw [ht1]
    exact h9
  have hcT : s.vm.findClass arithN = some ce.cls := by
    have h9 : vm₁.findClass arithN = some ce.cls := q3
    rw [← hW1.alike.findClass]
    exact h9
  have hasg : s.vm.assignable ce.cls ce.cls = true := by
    have h9 : vm₁.assignable ce.cls ce.cls = true := q5
    rw [← hW1.alike.assignable]
    exact h9
  obtain ⟨vm2, XV, come2⟩ := XU.thenCaughtLink v (g := F0 m 8 ls [.int 0, .ref ao]) rfl come (own := R_LW) (name := arithN) hown [] ⟨0, 13, 16, 13⟩ [] htab (fun y hy => by cases hy) (by show covers ⟨0, 13, 16, 13⟩ 8 = true; decide) (by decide)
    (hts _ (List.mem_cons_of_mem _ mw_482)) hcT (by rw [ht1]; exact q2) (by rw [q4]; rfl) hasg
  have last : W p l e rmHT s m (avH ad x1 x2 x4 ao).toArray below meth c U.heap [] 1 6 (MQ below QH (avH ad x1 x2 x4 ao).toArray s 1 6 (fun q => sz ≤ q)) (F0 m 16 ls [.ref v]) := by
    refine lv_astore (lv' := [(7, .ref v), (0, .ref (ad 0 0)), (1, .int x1), (2, .long x2), (4, .long x4), (6, .ref ao)]) hx hb d_LW_row_16 hl (by decide) rfl (fun ls hl => ?_)
    refine lv_iconst (v := 1) hx hb d_LW_row_18 (by decide) ?_
    exact W.iret hx hb hr (fun t ht hW => ⟨rfl, by rw [ht]; exact hsize, fun q hq => by rw [ht]; exact hkept q hq⟩) (fun q hq => by cases hq) d_LW_row_19 hlocks
  obtain ⟨t2, a1, b1⟩ := last (U.setVm vm2) rfl XV
  exact ⟨t2, come2.trans a1, b1⟩
