/-! MY ROWS: one form of contract for a method that makes nothing (cx_M), the way into it (cx_of), out of it (cx_iret ..), a call of it (cx_callV ..), all with the caller's world kept in its order -/
/-- a pure function's steps -/
def gl_let {α β : Type} (e : α) (f : α → β) : β := f e
theorem g_let {α β : Type} {e : α} {f : α → β} {r : β} (h : gl_let e f = r) {x : α} (hx : x = e) : f x = r := by subst hx; exact h
theorem g_ck {c : Prop} [Decidable c] {α : Type} {x : Option α} {r : α} (h : (if c then none else x) = some r) : ¬ c ∧ x = some r := by
  by_cases hc : c
  · rw [if_pos hc] at h; cases h
  · rw [if_neg hc] at h; exact ⟨hc, h⟩
theorem g_t {c : Prop} [Decidable c] {α : Type} {x y r : α} (h : (if c then x else y) = r) (hc : c) : x = r := by rw [if_pos hc] at h; exact h
theorem g_f {c : Prop} [Decidable c] {α : Type} {x y r : α} (h : (if c then x else y) = r) (hc : ¬ c) : y = r := by rw [if_neg hc] at h; exact h
theorem g_bind {α β : Type} {o : Option α} {f : α → Option β} {r : β} (h : o.bind f = some r) : ∃ v, o = some v ∧ f v = some r := by
  cases o with
  | none => cases h
  | some v => exact ⟨v, rfl, h⟩
theorem g_some {α : Type} {a b : α} (h : some a = some b) : a = b := Option.some.inj h
/-- cells put into a world, place by place -/
def cx_up : va_W → List Nat → va_W → va_W
  | ws, [], _ => ws
  | ws, _ :: _, [] => ws
  | ws, i :: is, q :: w1 => cx_up (ws.set i q) is w1
theorem cx_up_at : ∀ (is : List Nat) (ws w1 : va_W) (k : Nat) (q : Nat × va_E), is.length = w1.length → (cx_up ws is w1)[k]? = some q → (∃ j : Nat, w1[j]? = some q ∧ is[j]? = some k) ∨ (ws[k]? = some q ∧ k ∉ is) := by
  intro is
  induction is with
  | nil =>
    intro ws w1 k q _ h
    rw [show cx_up ws [] w1 = ws from by cases w1 <;> rfl] at h
    exact Or.inr ⟨h, by simp⟩
  | cons i is ih =>
    intro ws w1 k q hl h
    cases w1 with
    | nil => simp at hl
    | cons q0 w1 =>
      rcases ih (ws.set i q0) w1 k q (by simpa using hl) h with ⟨j, h1, h2⟩ | ⟨h1, h2⟩
      · exact Or.inl ⟨j + 1, by simpa using h1, by simpa using h2⟩
      · by_cases hk : k = i
        · subst hk
          rw [List.getElem?_set] at h1
          by_cases hlt : k < ws.length
          · rw [if_pos rfl, if_pos hlt] at h1
            exact Or.inl ⟨0, by simpa using h1, by simp⟩
          · rw [if_pos rfl, if_neg hlt] at h1
            cases h1
        · rw [List.getElem?_set, if_neg (fun e => hk e.symm)] at h1
          exact Or.inr ⟨h1, by simp [hk, h2]⟩
theorem cx_back {A0 : Nat → Prop} {D : va_G} {cl : List vw_C} {ws wc w1 : va_W} {H H1 : Heap} (hP : va_P D cl ws H) (hD : va_D A0 ws) (is : List Nat) (hC : is.map (fun i => ws[i]?) = wc.map some) (hw : w1.map Prod.fst = wc.map Prod.fst)
    (hk : ∀ q : Nat, q < H.size → ¬ va_A wc H.size q → H1[q]? = H[q]?) (hP1 : va_P D cl w1 H1) : va_P D cl (cx_up ws is w1) H1 ∧ va_D A0 (cx_up ws is w1) := by
  have hlen : is.length = w1.length := by
    have a := congrArg List.length hC
    have b := congrArg List.length hw
    simp at a b
    omega
  have at' : ∀ (k : Nat) (q : Nat × va_E), wc[k]? = some q → ∃ i, is[k]? = some i ∧ ws[i]? = some q := by
    intro k q hq
    have h1 : (is.map (fun i => ws[i]?))[k]? = some (some q) := by rw [hC, List.getElem?_map, hq]; rfl
    rw [List.getElem?_map] at h1
    cases hi : is[k]? with
    | none => rw [hi] at h1; cases h1
    | some i => rw [hi] at h1; exact ⟨i, rfl, Option.some.inj h1⟩
  have adr : ∀ (k : Nat) (q : Nat × va_E), (cx_up ws is w1)[k]? = some q → ∃ e, ws[k]? = some (q.1, e) := by
    intro k q hq
    rcases cx_up_at is ws w1 k q hlen hq with ⟨j, h1, h2⟩ | ⟨h1, _⟩
    · have h3 : (wc.map Prod.fst)[j]? = some q.1 := by rw [← hw, List.getElem?_map, h1]; rfl
      rw [List.getElem?_map] at h3
      cases hc : wc[j]? with
      | none => rw [hc] at h3; cases h3
      | some qc =>
        rw [hc] at h3
        obtain ⟨i, h4, h5⟩ := at' j qc hc
        have e1 : i = k := Option.some.inj (h4.symm.trans h2)
        have e2 : qc.1 = q.1 := Option.some.inj h3
        subst e1
        exact ⟨qc.2, by rw [h5, ← e2]⟩
    · exact ⟨q.2, h1⟩
  refine ⟨fun k q hq => ?_, fun i j p q hi hj hpq => ?_, fun k q hq => ?_⟩
  · rcases cx_up_at is ws w1 k q hlen hq with ⟨j, h1, _⟩ | ⟨h1, h2⟩
    · exact hP1 j q h1
    · have hl := (hP k q h1).lt
      refine (hP k q h1).kept (hk q.1 hl (fun h => ?_))
      rcases h with ⟨k2, e, h⟩ | h
      · obtain ⟨i, h3, h4⟩ := at' k2 (q.1, e) h
        have hij := hD.1 k i q (q.1, e) h1 h4 rfl
        subst hij
        exact h2 (List.mem_of_getElem? h3)
      · exact absurd hl (Nat.not_lt.mpr h)
  · obtain ⟨e1, h1⟩ := adr i p hi
    obtain ⟨e2, h2⟩ := adr j q hj
    exact hD.1 i j _ _ h1 h2 hpq
  · obtain ⟨e1, h1⟩ := adr k q hq
    exact hD.2 k (q.1, e1) h1
/-- the links to a nest mate's private members: no word of a list, so they go along with the state -/
def cx_W (U : State) : Prop := va_Nw (Jvm.Cond.methodLinkNest "SpanRules" (9 : Nat) ({ cls := "SpanRules$Forbidden", name := "<init>", desc := "()V" } : Jvm.MethodName) "SpanRules") U ∧ va_Nw (Jvm.Cond.methodLinkNest "SpanRules" (32 : Nat) ({ cls := "SpanRules$Numbering", name := "<init>", desc := "()V" } : Jvm.MethodName) "SpanRules") U ∧ va_Nw (Jvm.Cond.methodLinkNest "SpanRules" (39 : Nat) ({ cls := "SpanRules$FiringStore", name := "<init>", desc := "()V" } : Jvm.MethodName) "SpanRules") U ∧ va_Nw (Jvm.Cond.methodLinkNest "SpanRules" (46 : Nat) ({ cls := "SpanRules$Contents", name := "<init>", desc := "()V" } : Jvm.MethodName) "SpanRules") U ∧ va_Nw (Jvm.Cond.methodLinkNest "SpanRules$Layout" (52 : Nat) ({ cls := "SpanRules", name := "by", desc := "(JJ)J" } : Jvm.MethodName) "SpanRules") U
theorem cx_W.warm {s U : State} (hW : s.WarmedH U.vm) (h : cx_W s) : cx_W U := ⟨va_Nw.warmM hW h.1, va_Nw.warmM hW h.2.1, va_Nw.warmM hW h.2.2.1, va_Nw.warmM hW h.2.2.2.1, va_Nw.warmM hW h.2.2.2.2⟩
theorem cx_W.same {s U : State} (hv : s.vm = U.vm) (h : cx_W s) : cx_W U := ⟨va_Nw.same rfl hv h.1, va_Nw.same rfl hv h.2.1, va_Nw.same rfl hv h.2.2.1, va_Nw.same rfl hv h.2.2.2.1, va_Nw.same rfl hv h.2.2.2.2⟩
/-- the contract: called with av in the world wc, y returns rv and leaves the world w1, the addresses as they were, and nothing else changed -/
def cx_Q (D : va_G) (cl : List vw_C) (w1 : va_W) (rv : Option Value) (A : Nat → Prop) : Array Value → State → Outcome → State → Prop := fun _ st oc t => (oc = .returned rv ∧ va_P D cl w1 t.heap) ∧ va_F A st t
def cx_M (l : Launch) (y : MethodName) (ws : List Cond) (rm : Room) (D : va_G) (cl : List vw_C) (tys : List (ClassId × FieldType)) (av : List Value) (wc w1 : va_W) (rv : Option Value) : Prop :=
  ∀ sz : Nat, Met l y ws rm (va_Pc av (fun U => U.heap.size = sz ∧ va_P D cl wc U.heap ∧ va_K D cl tys U ∧ va_D (fun _ => True) wc ∧ cx_W U)) (cx_Q D cl w1 rv (va_A wc sz)) 0 0 (va_A wc sz)
def cx_Z (D : va_G) (cl : List vw_C) (below : List Frame) (av : List Value) (s : State) (w1 : va_W) (rv : Option Value) (A : Nat → Prop) : State → Prop := MQ below (cx_Q D cl w1 rv A) av.toArray s 0 0 A
/-- as Met.ofW, of a method that no native row stands for, whatever its class's name -/
theorem cx_ofW {l : Launch} {y : MethodName} {ws ws' : List Cond} {rm : Room} {Pc : Array Value → State → Prop} {Qc : Array Value → State → Outcome → State → Prop} {mc ms : Nat} {free : Addr → Prop} {cc : ByteArray} {maxL : Nat} {ret : Option FieldType}
    (hy : plainFor y = true) (hw : ws = Cond.code y cc maxL ret :: ws')
    (body : ∀ p e s m args below meth c s₁, BodyLoose p l y (headSpec ws rm) cc maxL ret e s m args below meth c s₁ → c.maxLocals = maxL → Pc args s →
      W p l e (headSpec ws rm).room s m args below meth c s.heap [] 0 0 (MQ below Qc args s mc ms free) (entryFrame m args maxL)) : Met l y ws rm Pc Qc mc ms free := by
  refine MetFree.of_bodySF (code := cc) (maxLocals := maxL) (ret := ret) hy ?_ ?_
  · intro args s m h hn
    obtain ⟨meth, c, h1, h2, h3, h4, h5, h6, -, -⟩ := Cond.code_spec hn (atoms_spec (ws := ws) h _ (by rw [hw]; exact List.mem_cons_self))
    exact ⟨meth, c, h1, h2, h3, h4, h5, h6⟩
  · intro p e s m args below meth c s₁ B hml hP _
    have hh0 : s₁.heap = s.heap := by rw [B.state]; rfl
    obtain ⟨t, a1, o, b1, b2, b3⟩ := body p e s m args below meth c s₁ B hml hP s₁ hh0 (Stand.of_body B)
    exact ⟨t, o, a1, b1, b2, ⟨b3.1, b3.2⟩⟩
theorem cx_of {l : Launch} {y : MethodName} {ws ws' : List Cond} {rm : Room} {D : va_G} {cl : List vw_C} {tys : List (ClassId × FieldType)} {av : List Value} {wc w1 : va_W} {rv : Option Value} {cc : ByteArray} {maxL : Nat} {ret : Option FieldType}
    (hy : plainFor y = true) (hw : ws = Cond.code y cc maxL ret :: ws') (hlen : (lg_sl av).length ≤ maxL)
    (body : ∀ (p : Program) (e : Env) (s : State) (m : MethodId) (below : List Frame) (meth : Method) (c : Code), p.tables.exec = Jvm.exec → c.code = cc → meth.sig.returnType = ret → c.maxLocals = maxL → s.vm.findClass y.cls = some m.cls → (∀ w ∈ ws, w.before av.toArray s = true) → meth.locks = false →
      ∀ (A : Nat → Prop), (∀ q : Nat, s.heap.size ≤ q → A q) → ∀ (H : Heap) (locs : List Loc) (ls : Array Slot), va_K D cl tys s → cx_W s → va_P D cl wc H → va_D A wc → va_S A s.heap H locs → lv_has ls maxL (lv_args 0 av) → W p l e rm s m av.toArray below meth c H locs 0 0 (cx_Z D cl below av s w1 rv A) (F0 m 0 ls [])) :
    cx_M l y ws rm D cl tys av wc w1 rv := by
  intro sz
  refine cx_ofW (cc := cc) (maxL := maxL) (ret := ret) hy hw ?_
  intro p e s m args below meth c s₁ B hml hv
  obtain ⟨rfl, hsz, hP, hK, hD0, hN⟩ := hv
  subst hsz
  have hD := hD0.self (sz := s.heap.size)
  have hl := lv_entry av (n := maxL) hlen
  rw [lg_entry_eq]
  exact body p e s m below meth c B.exec B.bytes B.returns hml (findClass_of_methodNamed B.named) (atoms_spec (ws := ws) B.pre) B.notSynchronized _ (fun q h => Or.inr h) s.heap [] _ hK hN hP hD va_S.rf hl
section CX
variable {p : Program} {l : Launch} {e : Env} {R : Room} {s : State} {m : MethodId} {below : List Frame} {meth : Method} {c : Code} {H : Heap} {locs : List Loc} {D : va_G} {cl : List vw_C} {av : List Value} {w1 : va_W} {A : Nat → Prop} {cc : ByteArray} {pc : Nat} {ls : Array Slot}
theorem cx_iret {v : Int32} (hx : p.tables.exec = Jvm.exec) (hb : c.code = cc) (hr : meth.sig.returnType = some .int) (hlocks : meth.locks = false) (hP : va_P D cl w1 H) (hS : va_S A s.heap H locs) (hdg : decode cc pc = .ok (.ireturn, 1)) :
    W p l e R s m av.toArray below meth c H locs 0 0 (cx_Z D cl below av s w1 (some (.int v)) A) (F0 m pc ls [.int v]) :=
  W.iret hx hb hr (fun t ht _ => ⟨⟨rfl, by rw [ht]; exact hP⟩, hS.F ht⟩) hS.2.2 hdg hlocks
theorem cx_zret {v : Int32} (hx : p.tables.exec = Jvm.exec) (hb : c.code = cc) (hr : meth.sig.returnType = some .boolean) (hlocks : meth.locks = false) (hn : narrow .boolean (.int v) = .int v) (hP : va_P D cl w1 H) (hS : va_S A s.heap H locs) (hdg : decode cc pc = .ok (.ireturn, 1)) :
    W p l e R s m av.toArray below meth c H locs 0 0 (cx_Z D cl below av s w1 (some (.int v)) A) (F0 m pc ls [.int v]) :=
  W.zret hx hb hr hn (fun t ht _ => ⟨⟨rfl, by rw [ht]; exact hP⟩, hS.F ht⟩) hS.2.2 hdg hlocks
theorem cx_lret {v : Int64} (hx : p.tables.exec = Jvm.exec) (hb : c.code = cc) (hr : meth.sig.returnType = some .long) (hlocks : meth.locks = false) (hP : va_P D cl w1 H) (hS : va_S A s.heap H locs) (hdg : decode cc pc = .ok (.lreturn, 1)) :
    W p l e R s m av.toArray below meth c H locs 0 0 (cx_Z D cl below av s w1 (some (.long v)) A) (F0 m pc ls [.long v]) :=
  W.lret hx hb hr (fun t ht _ => ⟨⟨rfl, by rw [ht]; exact hP⟩, hS.F ht⟩) hS.2.2 hdg hlocks
theorem cx_vret (hx : p.tables.exec = Jvm.exec) (hb : c.code = cc) (hr : meth.sig.returnType = none) (hlocks : meth.locks = false) (hP : va_P D cl w1 H) (hS : va_S A s.heap H locs) (hdg : decode cc pc = .ok (.return_, 1)) :
    W p l e R s m av.toArray below meth c H locs 0 0 (cx_Z D cl below av s w1 none A) (F0 m pc ls []) :=
  W.vret hx hb hr (fun t ht _ => ⟨⟨rfl, by rw [ht]; exact hP⟩, hS.F ht⟩) hS.2.2 hdg hlocks
end CX
section CXC
variable {p : Program} {l : Launch} {e : Env} {R : Room} {s : State} {m : MethodId} {args : Array Value} {below : List Frame} {meth : Method} {c : Code} {H : Heap} {locs : List Loc} {cells slots : Nat} {Q : State → Prop}
variable {cc bytes : ByteArray} {pc nL maxL n index : Nat} {ls : Array Slot} {rest st0 As : List Value} {D : va_G} {cl : List vw_C} {tys : List (ClassId × FieldType)} {ws wc w1 : va_W} {A : Nat → Prop} {H0 : Heap} {y : MethodName} {wy Ts : List Cond} {rm : Room} {rv : Option Value} {ret : Option FieldType} {own C host : String} {b : Addr}
theorem cx_run {aa : Array Value} (hr : va_Run p l e R s m args below meth c H locs cells slots 0 0 (F0 m pc ls st0) rest (cx_Q D cl w1 rv (va_A wc H.size) aa) (va_A wc H.size)) (hP : va_P D cl ws H) (hD : va_D A ws) (hS : va_S A H0 H locs) (hA : ∀ q, H0.size ≤ q → A q) (is : List Nat) (hC : is.map (fun i => ws[i]?) = wc.map some) (hw : w1.map Prod.fst = wc.map Prod.fst)
    (kk : ∀ (H1 : Heap) (locs1 : List Loc), va_P D cl (cx_up ws is w1) H1 → va_D A (cx_up ws is w1) → va_S A H0 H1 locs1 → W p l e R s m args below meth c H1 locs1 cells slots Q (F0 m (pc + 3) ls (rv.toList ++ rest))) : W p l e R s m args below meth c H locs cells slots Q (F0 m pc ls st0) := by
  have hF := va_free (wc := wc) hD hS hA is hC
  intro T hT X
  obtain ⟨v, st₀, t, T', L, h0, X', hL, e1, e2, ⟨⟨hv, hP1⟩, hz, hk⟩, st⟩ := hr T hT X
  cases hv
  rw [h0] at hz hk
  rw [← e1] at hP1
  obtain ⟨hP2, hD2⟩ := cx_back hP hD is hC hw (fun q h1 h2 => by rw [e1]; exact hk q h1 h2) hP1
  obtain ⟨t2, a1, b1⟩ := kk T'.heap (locs ++ L) hP2 hD2
    ⟨Nat.le_trans hS.1 (by rw [e1]; exact hz), fun q h1 h2 => by rw [e1, hk q (Nat.lt_of_lt_of_le h1 hS.1) (fun z => h2 (hF q z))]; exact hS.2.1 q h1 h2, fun q hq => by
      rcases List.mem_append.mp hq with h | h
      · exact hS.2.2 q h
      · exact hF _ (hL q h)⟩ T' rfl X'
  exact ⟨t2, st t2 a1, b1⟩
theorem cx_blind {av : List Value} {sz : Nat} : FrameBlind (va_Pc av (fun U => U.heap.size = sz ∧ va_P D cl wc U.heap ∧ va_K D cl tys U ∧ va_D (fun _ => True) wc ∧ cx_W U)) := fun a U g mk q => by
  obtain ⟨q0, q1, qP, qK, qD, qN⟩ := q
  exact ⟨q0, q1, qP, va_K.moved (u := U) (U := U.calling g mk a) (Vm.Alike.refl U.vm) qK, qD, cx_W.same (s := U) (U := U.calling g mk a) rfl qN⟩
theorem cx_D {is : List Nat} (hD : va_D A ws) (hn : va_nd is = true) (hC : is.map (fun i => ws[i]?) = wc.map some) : va_D (fun _ => True) wc := (hD.sub is hn hC).weaken (fun _ _ _ _ => trivial)
theorem cx_P {is : List Nat} (hP : va_P D cl ws H) (hC : is.map (fun i => ws[i]?) = wc.map some) : va_P D cl wc H := fun k q hq => by
  have h1 : (is.map (fun i => ws[i]?))[k]? = some (some q) := by rw [hC, List.getElem?_map, hq]; rfl
  rw [List.getElem?_map] at h1
  cases hi : is[k]? with
  | none => rw [hi] at h1; cases h1
  | some i => rw [hi] at h1; exact hP i q (Option.some.inj h1)
theorem cx_callV (S : CallFix p m c cc nL s args Ts own) (hM : cx_M l y wy rm D cl tys (.ref b :: As) wc w1 rv) (cw : CallW R s args own C index y bytes maxL ret wy rm 0 0 n) (hsize : ls.size = nL) (hP : va_P D cl ws H) (hD : va_D A ws) (hS : va_S A H0 H locs) (hA : ∀ q, H0.size ≤ q → A q) (hK : va_K D cl tys s) (hN : cx_W s)
    (is : List Nat) (q0 ci : Nat) {q : vw_C} {fs : List Value} (hc : cl[ci]? = some q) (he : ws[q0]? = some (b, .inr (ci, fs))) (hq : q.1 = C) (hC : is.map (fun i => ws[i]?) = wc.map some) (hnd : va_nd is = true) (hw : w1.map Prod.fst = wc.map Prod.fst) (hn : As.length = n) (hst : st0 = As.reverse ++ .ref b :: rest) (hW : (rest.map fun v => v.category).sum ≤ 8) (hdg : decode cc pc = .ok (.invokevirtual index, 3)) (hf : cells ≤ R.cells ∧ slots ≤ R.slots)
    (kk : ∀ (H1 : Heap) (locs1 : List Loc), va_P D cl (cx_up ws is w1) H1 → va_D A (cx_up ws is w1) → va_S A H0 H1 locs1 → W p l e R s m args below meth c H1 locs1 cells slots Q (F0 m (pc + 3) ls (rv.toList ++ rest))) : W p l e R s m args below meth c H locs cells slots Q (F0 m pc ls st0) := by
  subst hq
  refine cx_run (aa := (Value.ref b :: As).toArray) (wc := wc) (rest := rest) ?_ hP hD hS hA is hC hw kk
  exact va_runV (g := F0 m pc ls st0) S (hM H.size) cw ⟨cx_blind, va_recv hK hP hc he, fun U hU hW => ⟨rfl, by rw [hU], by rw [hU]; exact cx_P hP hC, va_K.moved hW.alike hK, cx_D hD hnd hC, cx_W.warm hW hN⟩⟩ rfl hn hsize hst (lv_room hW) hdg hf
theorem cx_callVN (S : CallFix p m c cc nL s args Ts own) (hM : cx_M l y wy rm D cl tys (.ref b :: As) wc w1 rv) (cw : va_CN R s args own index y host bytes maxL ret wy rm 0 0 n ∧ (Cond.instanceMethod y).before args s = true ∧ (Cond.selects C y y).before args s = true) (hsize : ls.size = nL) (hP : va_P D cl ws H) (hD : va_D A ws) (hS : va_S A H0 H locs) (hA : ∀ q, H0.size ≤ q → A q) (hK : va_K D cl tys s) (hN : cx_W s)
    (is : List Nat) (q0 ci : Nat) {q : vw_C} {fs : List Value} (hc : cl[ci]? = some q) (he : ws[q0]? = some (b, .inr (ci, fs))) (hq : q.1 = C) (hC : is.map (fun i => ws[i]?) = wc.map some) (hnd : va_nd is = true) (hw : w1.map Prod.fst = wc.map Prod.fst) (hn : As.length = n) (hst : st0 = As.reverse ++ .ref b :: rest) (hW : (rest.map fun v => v.category).sum ≤ 8) (hdg : decode cc pc = .ok (.invokevirtual index, 3)) (hf : cells ≤ R.cells ∧ slots ≤ R.slots)
    (kk : ∀ (H1 : Heap) (locs1 : List Loc), va_P D cl (cx_up ws is w1) H1 → va_D A (cx_up ws is w1) → va_S A H0 H1 locs1 → W p l e R s m args below meth c H1 locs1 cells slots Q (F0 m (pc + 3) ls (rv.toList ++ rest))) : W p l e R s m args below meth c H locs cells slots Q (F0 m pc ls st0) := by
  subst hq
  refine cx_run (aa := (Value.ref b :: As).toArray) (wc := wc) (rest := rest) ?_ hP hD hS hA is hC hw kk
  exact va_runVN (g := F0 m pc ls st0) S (hM H.size) cw ⟨cx_blind, va_recv hK hP hc he, fun U hU hW => ⟨rfl, by rw [hU], by rw [hU]; exact cx_P hP hC, va_K.moved hW.alike hK, cx_D hD hnd hC, cx_W.warm hW hN⟩⟩ rfl hn hsize hst (lv_room hW) hdg hf
theorem cx_callS (S : CallFix p m c cc nL s args Ts own) (hM : cx_M l y wy rm D cl tys As wc w1 rv) (cw : CallB R s args own index y bytes maxL ret wy rm 0 0 n ∧ (Cond.static y).before args s = true) (hsize : ls.size = nL) (hP : va_P D cl ws H) (hD : va_D A ws) (hS : va_S A H0 H locs) (hA : ∀ q, H0.size ≤ q → A q) (hK : va_K D cl tys s) (hN : cx_W s)
    (is : List Nat) (hC : is.map (fun i => ws[i]?) = wc.map some) (hnd : va_nd is = true) (hw : w1.map Prod.fst = wc.map Prod.fst) (hn : As.length = n) (hst : st0 = As.reverse ++ rest) (hW : (rest.map fun v => v.category).sum ≤ 8) (hdg : decode cc pc = .ok (.invokestatic index, 3)) (hf : cells ≤ R.cells ∧ slots ≤ R.slots)
    (kk : ∀ (H1 : Heap) (locs1 : List Loc), va_P D cl (cx_up ws is w1) H1 → va_D A (cx_up ws is w1) → va_S A H0 H1 locs1 → W p l e R s m args below meth c H1 locs1 cells slots Q (F0 m (pc + 3) ls (rv.toList ++ rest))) : W p l e R s m args below meth c H locs cells slots Q (F0 m pc ls st0) := by
  refine cx_run (aa := As.toArray) (wc := wc) (rest := rest) ?_ hP hD hS hA is hC hw kk
  exact va_runS (g := F0 m pc ls st0) S (hM H.size) cw ⟨cx_blind, fun U hU hW => ⟨rfl, by rw [hU], by rw [hU]; exact cx_P hP hC, va_K.moved hW.alike hK, cx_D hD hnd hC, cx_W.warm hW hN⟩⟩ rfl hn hsize hst (lv_room hW) hdg hf
theorem cx_callSN (S : CallFix p m c cc nL s args Ts own) (hM : cx_M l y wy rm D cl tys As wc w1 rv) (cw : va_CN R s args own index y host bytes maxL ret wy rm 0 0 n ∧ (Cond.static y).before args s = true ∧ True) (hsize : ls.size = nL) (hP : va_P D cl ws H) (hD : va_D A ws) (hS : va_S A H0 H locs) (hA : ∀ q, H0.size ≤ q → A q) (hK : va_K D cl tys s) (hN : cx_W s)
    (is : List Nat) (hC : is.map (fun i => ws[i]?) = wc.map some) (hnd : va_nd is = true) (hw : w1.map Prod.fst = wc.map Prod.fst) (hn : As.length = n) (hst : st0 = As.reverse ++ rest) (hW : (rest.map fun v => v.category).sum ≤ 8) (hdg : decode cc pc = .ok (.invokestatic index, 3)) (hf : cells ≤ R.cells ∧ slots ≤ R.slots)
    (kk : ∀ (H1 : Heap) (locs1 : List Loc), va_P D cl (cx_up ws is w1) H1 → va_D A (cx_up ws is w1) → va_S A H0 H1 locs1 → W p l e R s m args below meth c H1 locs1 cells slots Q (F0 m (pc + 3) ls (rv.toList ++ rest))) : W p l e R s m args below meth c H locs cells slots Q (F0 m pc ls st0) := by
  refine cx_run (aa := As.toArray) (wc := wc) (rest := rest) ?_ hP hD hS hA is hC hw kk
  exact va_runSN (g := F0 m pc ls st0) S (hM H.size) cw ⟨cx_blind, fun U hU hW => ⟨rfl, by rw [hU], by rw [hU]; exact cx_P hP hC, va_K.moved hW.alike hK, cx_D hD hnd hC, cx_W.warm hW hN⟩⟩ rfl hn hsize hst (lv_room hW) hdg hf
/-- a compare of two longs and the branch behind it -/
theorem cq_lt (hx : p.tables.exec = Jvm.exec) (hb : c.code = cc) {x y : Int64} {off : Int} {tgt : Nat} (h1 : decode cc pc = .ok (.lcmp, 1)) (h2 : decode cc (pc + 1) = .ok (.ifCond .lt off, 3)) (ht : ((pc + 1 : Nat) : Int) + off = (tgt : Int))
    (kt : x < y → W p l e R s m args below meth c H locs cells slots Q (F0 m tgt ls rest)) (kf : ¬ x < y → W p l e R s m args below meth c H locs cells slots Q (F0 m (pc + 1 + 3) ls rest)) : W p l e R s m args below meth c H locs cells slots Q (F0 m pc ls (.long y :: .long x :: rest)) :=
  W.lcmp hx hb h1 (lv_if_lt hx hb h2 ht (fun h => kt ((lg_cmp_lt x y).mp h)) (fun h => kf (fun z => h ((lg_cmp_lt x y).mpr z))))
theorem cq_ge (hx : p.tables.exec = Jvm.exec) (hb : c.code = cc) {x y : Int64} {off : Int} {tgt : Nat} (h1 : decode cc pc = .ok (.lcmp, 1)) (h2 : decode cc (pc + 1) = .ok (.ifCond .ge off, 3)) (ht : ((pc + 1 : Nat) : Int) + off = (tgt : Int))
    (kt : y ≤ x → W p l e R s m args below meth c H locs cells slots Q (F0 m tgt ls rest)) (kf : ¬ y ≤ x → W p l e R s m args below meth c H locs cells slots Q (F0 m (pc + 1 + 3) ls rest)) : W p l e R s m args below meth c H locs cells slots Q (F0 m pc ls (.long y :: .long x :: rest)) :=
  W.lcmp hx hb h1 (lv_if_ge hx hb h2 ht (fun h => kt ((lg_cmp_ge x y).mp h)) (fun h => kf (fun z => h ((lg_cmp_ge x y).mpr z))))
theorem cq_gt (hx : p.tables.exec = Jvm.exec) (hb : c.code = cc) {x y : Int64} {off : Int} {tgt : Nat} (h1 : decode cc pc = .ok (.lcmp, 1)) (h2 : decode cc (pc + 1) = .ok (.ifCond .gt off, 3)) (ht : ((pc + 1 : Nat) : Int) + off = (tgt : Int))
    (kt : y < x → W p l e R s m args below meth c H locs cells slots Q (F0 m tgt ls rest)) (kf : ¬ y < x → W p l e R s m args below meth c H locs cells slots Q (F0 m (pc + 1 + 3) ls rest)) : W p l e R s m args below meth c H locs cells slots Q (F0 m pc ls (.long y :: .long x :: rest)) :=
  W.lcmp hx hb h1 (lv_if_gt hx hb h2 ht (fun h => kt ((lg_cmp_gt x y).mp h)) (fun h => kf (fun z => h ((lg_cmp_gt x y).mpr z))))
theorem cq_le (hx : p.tables.exec = Jvm.exec) (hb : c.code = cc) {x y : Int64} {off : Int} {tgt : Nat} (h1 : decode cc pc = .ok (.lcmp, 1)) (h2 : decode cc (pc + 1) = .ok (.ifCond .le off, 3)) (ht : ((pc + 1 : Nat) : Int) + off = (tgt : Int))
    (kt : x ≤ y → W p l e R s m args below meth c H locs cells slots Q (F0 m tgt ls rest)) (kf : ¬ x ≤ y → W p l e R s m args below meth c H locs cells slots Q (F0 m (pc + 1 + 3) ls rest)) : W p l e R s m args below meth c H locs cells slots Q (F0 m pc ls (.long y :: .long x :: rest)) :=
  W.lcmp hx hb h1 (lv_if_le hx hb h2 ht (fun h => kt ((lg_cmp_le x y).mp h)) (fun h => kf (fun z => h ((lg_cmp_le x y).mpr z))))
theorem cq_eq (hx : p.tables.exec = Jvm.exec) (hb : c.code = cc) {x y : Int64} {off : Int} {tgt : Nat} (h1 : decode cc pc = .ok (.lcmp, 1)) (h2 : decode cc (pc + 1) = .ok (.ifCond .eq off, 3)) (ht : ((pc + 1 : Nat) : Int) + off = (tgt : Int))
    (kt : x = y → W p l e R s m args below meth c H locs cells slots Q (F0 m tgt ls rest)) (kf : ¬ x = y → W p l e R s m args below meth c H locs cells slots Q (F0 m (pc + 1 + 3) ls rest)) : W p l e R s m args below meth c H locs cells slots Q (F0 m pc ls (.long y :: .long x :: rest)) :=
  W.lcmp hx hb h1 (lv_if_eq hx hb h2 ht (fun h => kt ((lg_cmp_eq x y).mp h)) (fun h => kf (fun z => h ((lg_cmp_eq x y).mpr z))))
theorem cq_ne (hx : p.tables.exec = Jvm.exec) (hb : c.code = cc) {x y : Int64} {off : Int} {tgt : Nat} (h1 : decode cc pc = .ok (.lcmp, 1)) (h2 : decode cc (pc + 1) = .ok (.ifCond .ne off, 3)) (ht : ((pc + 1 : Nat) : Int) + off = (tgt : Int))
    (kt : ¬ x = y → W p l e R s m args below meth c H locs cells slots Q (F0 m tgt ls rest)) (kf : x = y → W p l e R s m args below meth c H locs cells slots Q (F0 m (pc + 1 + 3) ls rest)) : W p l e R s m args below meth c H locs cells slots Q (F0 m pc ls (.long y :: .long x :: rest)) :=
  W.lcmp hx hb h1 (lv_if_ne hx hb h2 ht (fun h => kt (fun z => h ((lg_cmp_eq x y).mpr z))) (fun h => kf ((lg_cmp_eq x y).mp h)))
end CXC

