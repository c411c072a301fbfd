/-! THE LAW'S HELPER row: it hands the class's answer on, or catches what it threw -/
/-- where f_SR_row says 'throw', the way to the throw is open -/
theorem f_row_none {k : Nat} {x1 : Int32} {x2 x4 : Int64} {sr : SRt} {la : LAt} {fb : FBt} {rs : RSt} {ss : SSt} {fs : FSt} {co : COt} {srR : SRt} {laR : LAt} {rsR : RSt} {ssR : SSt} {fsR : FSt} {coR : COt}
    (hf : f_SR_row k x1 x2 x4 sr la fb rs ss fs co = some (none, srR, laR, rsR, ssR, fsR, coR)) : ¬ f_SR_isKey x1 = 0 ∧ ¬ f_SR_isWithin x2 (-(f_SR_row_B17 la)) (f_SR_row_B17 la) = 0 ∧ LA_kind la = 5 ∧ ∃ r, f_FB_has k (LA_ownRule la) x4 fb = some r ∧ ¬ r = 0 := by
  unfold f_SR_row at hf
  by_cases c1 : f_SR_isKey x1 = 0
  · rw [if_pos c1] at hf; simp at hf
  rw [if_neg c1] at hf
  dsimp only [gl_let] at hf
  by_cases c2 : f_SR_isWithin x2 (-(f_SR_row_B17 la)) (f_SR_row_B17 la) = 0
  · rw [if_pos c2] at hf; simp at hf
  rw [if_neg c2] at hf
  have hno : ∀ {α : Type} {o : Option α} {g : α → Int32 × SRt × LAt × RSt × SSt × FSt × COt}, (o.bind fun a => some (some (g a).1, (g a).2)) = some (none, srR, laR, rsR, ssR, fsR, coR) → False := by
    intro α o g h
    cases o <;> simp at h
  have tail : (if LA_kind la = 3 then ((f_SR_putWaiting k x1 x2 x4 sr rs).bind fun (r_2, sr_3, rs_3) => some (some r_2, sr_3, la, rs_3, ss, fs, co))
    else if LA_kind la = 2 then ((f_SR_putByGap k x1 x2 x4 sr la rs ss fs co).bind fun (r_1, sr_2, rs_2, ss_2, fs_2, co_2) => some (some r_1, sr_2, la, rs_2, ss_2, fs_2, co_2))
    else (f_SR_putByLayout k x1 x2 x4 sr la rs ss fs co).bind fun (r, sr_1, la_1, rs_1, ss_1, fs_1, co_1) => some (some r, sr_1, la_1, rs_1, ss_1, fs_1, co_1)) = some (none, srR, laR, rsR, ssR, fsR, coR) → False := by
    intro h
    by_cases c3 : LA_kind la = 3
    · rw [if_pos c3] at h
      cases hh : f_SR_putWaiting k x1 x2 x4 sr rs <;> rw [hh] at h <;> simp at h
    rw [if_neg c3] at h
    by_cases c4 : LA_kind la = 2
    · rw [if_pos c4] at h
      cases hh : f_SR_putByGap k x1 x2 x4 sr la rs ss fs co <;> rw [hh] at h <;> simp at h
    rw [if_neg c4] at h
    cases hh : f_SR_putByLayout k x1 x2 x4 sr la rs ss fs co <;> rw [hh] at h <;> simp at h
  by_cases c5 : LA_kind la = 5
  · rw [if_pos c5] at hf
    cases hh : f_FB_has k (LA_ownRule la) x4 fb with
    | none => rw [hh] at hf; cases hf
    | some r =>
      rw [hh] at hf
      by_cases c6 : r = 0
      · have hf : (if r = 0 then _ else _) = _ := hf
        rw [if_pos c6] at hf
        exact absurd hf tail
      · exact ⟨c1, c2, c5, r, rfl, c6⟩
  · rw [if_neg c5] at hf
    exact absurd hf tail
theorem cx_ofH {l : Launch} {y : MethodName} {ws ws' : List Cond} {rm : Room} {D : va_G} {cl : List vw_C} {tys : List (ClassId × FieldType)} {av : List Value} {wc w1 : va_W} {rv : Option Value} {cc : ByteArray} {maxL : Nat} {ret : Option FieldType} {hh : List (Nat × Nat × Nat × Nat)}
    (hy : plainName y.cls = true) (hw : ws = Cond.codeWith y cc maxL ret hh :: ws') (hlen : (lg_sl av).length ≤ maxL)
    (body : ∀ (p : Program) (e : Env) (s : State) (m : MethodId) (below : List Frame) (meth : Method) (c : Code), p.tables.exec = Jvm.exec → c.code = cc → meth.sig.returnType = ret → c.maxLocals = maxL → s.vm.findClass y.cls = some m.cls → (∀ w ∈ ws, w.before av.toArray s = true) → meth.locks = false →
      ∀ (A : Nat → Prop), (∀ q : Nat, s.heap.size ≤ q → A q) → ∀ (H : Heap) (locs : List Loc) (ls : Array Slot), va_K D cl tys s → cx_W s → va_P D cl wc H → va_D A wc → va_S A s.heap H locs → lv_has ls maxL (lv_args 0 av) → W p l e rm s m av.toArray below meth c H locs 0 0 (cx_Z D cl below av s w1 rv A) (F0 m 0 ls [])) :
    cx_M l y ws rm D cl tys av wc w1 rv := by
  intro sz
  refine va_MetW (cc := cc) (maxL := maxL) (ret := ret) (hh := hh) hy hw ?_
  intro p e s m args below meth c s₁ B hml hv
  obtain ⟨rfl, hsz, hP, hK, hD0, hN⟩ := hv
  subst hsz
  have hD := hD0.self (sz := s.heap.size)
  have hl := lv_entry av (n := maxL) hlen
  rw [lg_entry_eq]
  exact body p e s m below meth c B.exec B.bytes B.returns hml (findClass_of_methodNamed B.named) (atoms_spec (ws := ws) B.pre) B.notSynchronized _ (fun q h => Or.inr h) s.heap [] _ hK hN hP hD va_S.rf hl
abbrev wX (tC : Nat → ClassId) (ad : Nat → Nat → Nat) (sr : SRt) (la : LAt) (fb : FBt) (rs : RSt) (ss : SSt) (nu : NUt) (fs : FSt) (co : COt) : va_W := wSR tC ad sr ++ wLA tC (ad 1) la ++ wFB tC (ad 2) fb ++ wRS tC (ad 3) rs ++ wSS tC (ad 4) ss ++ wNU tC (ad 5) nu ++ wFS tC (ad 6) fs ++ wCO tC (ad 7) co
abbrev wOut (tC : Nat → ClassId) (ao : Nat) (ov : Nat → Int64) : va_W := [(ao, .inl (tC 1, 1, .inr (.inl ov)))]
abbrev avH (ad : Nat → Nat → Nat) (x1 : Int32) (x2 x4 : Int64) (ao : Nat) : List Value := [.ref (ad 0 0), .int x1, .long x2, .long x4, .ref ao]
abbrev rmH : Room := { frames := 7, cells := 0, slots := 0, locals := 181 }
abbrev rmHT : Room := { frames := 7, cells := 1, slots := 6, locals := 181 }
set_option maxHeartbeats 4000000 in
set_option maxRecDepth 100000 in
theorem c_LW_row (l : Launch) (dC : Nat → ClassId) (dI : Nat → Nat → Nat) (tC : Nat → ClassId) (ad : Nat → Nat → Nat) (ao : Nat) (ov : Nat → Int64) (k : Nat) (x1 : Int32) (x2 x4 : Int64) (sr : SRt) (la : LAt) (fb : FBt) (rs : RSt) (ss : SSt) (nu : NUt) (fs : FSt) (co : COt) (res : Int32) (srR : SRt) (laR : LAt) (rsR : RSt) (ssR : SSt) (fsR : FSt) (coR : COt)
    (hf : f_SR_row k x1 x2 x4 sr la fb rs ss fs co = some (some res, srR, laR, rsR, ssR, fsR, coR)) : cx_M l y_LW_row w_LW_row rmH (dC, dI) classes (tyS tC) (avH ad x1 x2 x4 ao) (wX tC ad sr la fb rs ss nu fs co ++ wOut tC ao ov) (wX tC ad srR laR fb rsR ssR nu fsR coR ++ wOut tC ao (vp_updL ov 0 res.toInt64)) (some (.int 0)) := by
  refine cx_ofH (cc := b_LW_row) (maxL := 8) (ret := some .int) (hh := h_LW_row) (by decide) rfl (Nat.le_of_ble_eq_true rfl) ?_
  intro p e s m below meth c hx hb hr hml hown hts hlocks A hA H locs ls hK hN hP hD hS hl
  have hown : s.vm.findClass R_LW = some m.cls := hown
  have hl : lv_has ls 8 [(0, .ref (ad 0 0)), (1, .int x1), (2, .long x2), (4, .long x4), (6, .ref ao)] := hl
  refine lv_aload hx hb d_LW_row_0 (lv_at hl 4 rfl) ?_
  refine lv_iconst (v := 0) hx hb d_LW_row_2 (by decide) ?_
  refine lv_aload_n hx hb d_LW_row_3 rfl (lv_at hl 0 rfl) ?_
  refine lv_iload_n hx hb d_LW_row_4 rfl (lv_at hl 1 rfl) ?_
  refine lv_lload_n hx hb d_LW_row_5 rfl (lv_at hl 2 rfl) ?_
  refine lv_lload hx hb d_LW_row_6 (lv_at hl 3 rfl) ?_
  refine cx2_callV (As := [.int x1, .long x2, .long x4]) (rest := [.int 0, .ref ao]) (wX tC ad srR laR fb rsR ssR nu fsR coR ++ wOut tC ao ov) (wNU tC (ad 5) nu ++ wOut tC ao ov) ⟨hx, hb, hml, hown, hts⟩ (c_SR_row l dC dI tC ad k x1 x2 x4 sr la fb rs ss fs co res srR laR rsR ssR fsR coR hf) (k_LW_7 hts ⟨Nat.le_of_ble_eq_true rfl, Nat.le_of_ble_eq_true rfl⟩) hl.1 hP hD hS hA hK hN [0, 1, 2, 3, 4, 5, 6, 7, 8, 9, 10, 11, 12, 13, 14, 15, 16, 17, 18, 19, 20, 21, 22, 23, 24, 25, 29, 30, 31] [26, 27, 28, 32] 33 0 0 rfl rfl rfl rfl rfl (cx_hw (cx_hw (cx_hw (cx_hw (cx_hw (cx_hw (adSR _ _ _ _) (adLA _ _ _ _)) rfl) (adRS _ _ _ _)) (adSS _ _ _ _)) (adFS _ _ _ _)) (adCO _ _ _ _)) rfl rfl rfl rfl (by decide) rfl rfl (Nat.le_of_ble_eq_true rfl) d_LW_row_8 ⟨Nat.zero_le _, Nat.zero_le _⟩ (fun H locs hP hD hS => ?_)
  refine W.eq (g2 := F0 m 11 ls [.int res, .int 0, .ref ao]) rfl ?_
  refine lv_i2l hx hb d_LW_row_11 rfl ?_
  refine va_last (D := (dC, dI)) hx hb hK hP hD hS 32 1 rfl rfl (by unfold vp_in; decide) d_LW_row_12 (fun H locs hP hD hS => ?_)
  have hP : va_P (dC, dI) classes (wX tC ad srR laR fb rsR ssR nu fsR coR ++ wOut tC ao (vp_updL ov 0 res.toInt64)) H := hP
  refine lv_goto (tgt := 20) hx hb d_LW_row_13 (by decide) ?_
  refine lv_iconst (v := 0) hx hb d_LW_row_20 (by decide) ?_
  exact cx_iret hx hb hr hlocks hP hS d_LW_row_21
theorem th_kept {s s' : State} {k n : Nat} (h : s.sameButNew s' [] k n) (q : Nat) (hq : q < s.heap.size) : s'.heap[q]? = s.heap[q]? := by
  obtain ⟨-, -, -, -, -, h⟩ := h
  obtain ⟨c', h1, h2, h3, h4⟩ := h q s.heap[q] (Array.getElem?_eq_getElem hq)
  have h5 : c'.slots = (s.heap[q]).slots := Array.ext_getElem? (fun i => h4 i (by simp))
  have e : c' = s.heap[q] := by rw [h2, h5]
  rw [h1, Array.getElem?_eq_getElem hq, e]
section TH
variable {p : Program} {l : Launch} {e : Env} {R : Room} {s : State} {m : MethodId} {args : Array Value} {below : List Frame} {meth : Method} {c : Code} {T : State} {locs : List Loc} {cells slots : Nat}
/-- 'invokevirtual' of a method that throws -/
theorem th_callV (X : Stand p l e R s m args below meth c T locs cells slots) (hexec : p.tables.exec = Jvm.exec) {own C : String} {index : Nat} {y : MethodName} {bytes : ByteArray} {maxL : Nat} {ret : Option FieldType}
    (hown : s.vm.findClass own = some m.cls) (hlink : (Cond.methodLink own index y).before args s = true) (hinst : (Cond.instanceMethod y).before args s = true) (hsel : (Cond.selects C y y).before args s = true)
    (hcode : (Cond.code y bytes maxL ret).before args s = true) (hy : y.cls ≠ "java/lang/invoke/MethodHandle" ∧ y.cls ≠ "java/lang/invoke/VarHandle")
    {W : Nat} {Pre : Pt → Array Value → Prop} {Post : Pt → Array Value → Addr → Pt → Prop} (hK : BackT l R p e below s args y 3 W Pre Post)
    {b : Addr} {cellB : Cell} (hcell : T.heap[b]? = some cellB) (hobj : cellB.vm.isStatics = false) (hcls : s.vm.findClass C = some cellB.cls)
    {g : JFrame} (hg : g.method = m) (hsize : g.locals.size = c.maxLocals) {argsL rest : List Value} (hlen : ∀ sig, parseMethodDescriptor y.desc = some sig → argsL.length = sig.parameters.length)
    (hstack : g.stack = argsL.reverse ++ .ref b :: rest) (hW : 2 * g.monitorRoom + (rest.map fun v => v.category).sum ≤ W) (hdg : decode c.code g.pc = .ok (.invokevirtual index, 3))
    (hpre : ∀ vm₁, s.WarmedH vm₁ → Pre ⟨T.setVm vm₁, locs, cells, slots⟩ (Value.ref b :: argsL).toArray) :
    ∃ (v : Addr) (vm₁ : Vm) (B : Pt), s.WarmedH vm₁ ∧ Stand p l e R s m args below meth c B.U B.locs B.cells B.slots ∧ Post ⟨T.setVm vm₁, locs, cells, slots⟩ (Value.ref b :: argsL).toArray v B ∧
      Steps p.tables e below (T.setTop g) ((B.U.setTop { g with stack := rest }).pushFrame (.throwing v)) := by
  obtain ⟨mk, methM, hnamed, hmethM, hstM, habM⟩ := Cond.instanceMethod_spec hinst
  obtain ⟨methM', cM, hmethM', -, -, -, -, -, -, hsigM⟩ := Cond.code_spec hnamed hcode
  cases hmethM.symm.trans hmethM'
  obtain ⟨c2, r2, m2, q1, q2, q3, q4, kP, hkP, hkPi⟩ := Cond.selects_spec hsel
  cases hcls.symm.trans q1
  cases (State.methodFound?_of_named hnamed hy).symm.trans q2
  cases hnamed.symm.trans q3
  have hselP : selectMethod e.platform s.vm cellB.cls mk = .method mk := by rw [Launch.admits_selectMethod X.admits]; exact q4
  obtain ⟨vm₁, X₁, hstep₁⟩ := X.invokevirtual hexec hown hlink hnamed hmethM hstM hkP hkPi hy (a := b) (cell := cellB) hcell
    (fun z h => by rw [h] at hobj; cases hobj) hselP hmethM habM hkP hkPi (g := g) hg (argsL := argsL) (rest := rest) (hlen _ hsigM) hstack hdg
  obtain ⟨v, B, X', hpost, hsteps⟩ := hK m meth c ⟨T.setVm vm₁, locs, cells, slots⟩ { g with stack := rest } (.invokevirtual index) mk (Value.ref b :: argsL).toArray X₁ hg hsize hdg hW (X₁.named hnamed) (hpre vm₁ X₁.warmed)
  exact ⟨v, vm₁, B, X₁.warmed, X', hpost, (hstep₁ _ fun acts => by rw [doInvoke_state]; exact Steps.refl _).trans hsteps⟩
end TH
