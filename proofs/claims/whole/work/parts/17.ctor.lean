/-! CONSTRUCTORS: a new array with its class known beforehand; the contract of a constructor (cx_N): the one cell h0 becomes the block mk a, a 0 = h0; the call of it -/
theorem cx_nd : ∀ (l : List Nat), l.Nodup → va_nd l = true
  | [], _ => rfl
  | a :: l, h => by
    rw [List.nodup_cons] at h
    simp only [va_nd, Bool.and_eq_true, decide_eq_true_eq]
    exact ⟨h.1, cx_nd l h.2⟩
section CXN
variable {p : Program} {l : Launch} {e : Env} {R : Room} {s : State} {m : MethodId} {args : Array Value} {below : List Frame} {meth : Method} {c : Code} {H : Heap} {locs : List Loc} {cells slots : Nat} {Q : State → Prop}
variable {cc bytes : ByteArray} {pc nL maxL n index : Nat} {ls : Array Slot} {rest st0 As : List Value} {D : va_G} {cl : List vw_C} {tys : List (ClassId × FieldType)} {ws : va_W} {A : Nat → Prop} {H0 : Heap} {y : MethodName} {wy Ts : List Cond} {rm : Room} {own host : String} {b : Addr}
theorem cx_newa (hexec : p.tables.exec = Jvm.exec) (hb : c.code = cc) {atype : ArrayType} (harr : (Cond.arrayClass (newarray.typeOf atype)).before args s = true) {ty : FieldType} (hty : newarray.typeOf atype = ty) (hK : va_K D cl tys s) (hP : va_P D cl ws H) (hD : va_D A ws) (hS : va_S A H0 H locs) (hA : ∀ q, H0.size ≤ q → A q)
    {n : Int32} {N' : Nat} {a0 : vp_A} (ha : ∀ cA : ClassId, vp_cell cA a0 = arrV cA N' (fun _ => defaultValue ty)) (hn : ¬ n < 0) (hN : n.toNatClampNeg = N') (hbytes : N' * componentBytes ty ≤ 536870912) (hcells : cells + 1 ≤ R.cells) (hslots : slots + N' ≤ R.slots) (hdg : decode cc pc = .ok (.newarray atype, 2)) (t0 : Nat) {cT : ClassId} (ht : tys[t0]? = some (cT, ty)) (hu : ∀ x z : ClassId, va_RA s x ty → va_RA s z ty → x = z)
    (kk : ∀ (q : Nat) (H1 : Heap), va_P D cl (ws ++ [(q, .inl (cT, a0))]) H1 → va_D A (ws ++ [(q, .inl (cT, a0))]) → va_S A H0 H1 locs →
      W p l e R s m args below meth c H1 locs (cells + 1) (slots + N') Q (F0 m (pc + 2) ls (.ref q :: rest))) : W p l e R s m args below meth c H locs cells slots Q (F0 m pc ls (.int n :: rest)) := by
  refine va_newa hexec hb harr hty hK hP hD hS hA ha hn hN hbytes hcells hslots hdg (fun q cA H1 hK' hP1 hD1 hS1 => ?_)
  have e1 := (hK'.2 tys.length (cA, ty) (by simp)).2
  have e2 := (hK.2 t0 (cT, ty) ht).2
  have e3 : cA = cT := hu cA cT e1 e2
  subst e3
  exact kk q H1 hP1 hD1 hS1
theorem cx_uI (x z : ClassId) (h1 : va_RA s x .int) (h2 : va_RA s z .int) : x = z := Option.some.inj (h1.symm.trans h2)
theorem cx_uL (x z : ClassId) (h1 : va_RA s x .long) (h2 : va_RA s z .long) : x = z := Option.some.inj (h1.symm.trans h2)
theorem cx_uZ (x z : ClassId) (h1 : va_RA s x .boolean) (h2 : va_RA s z .boolean) : x = z := Option.some.inj (h1.symm.trans h2)
def cx_QN (D : va_G) (cl : List vw_C) (h0 : Nat) (mk : (Nat → Nat) → va_W) (A : Nat → Prop) : Array Value → State → Outcome → State → Prop := fun _ st oc t => (oc = .returned none ∧ ∃ a : Nat → Nat, a 0 = h0 ∧ va_P D cl (mk a) t.heap ∧ va_D A (mk a)) ∧ va_F A st t
def cx_N (l : Launch) (y : MethodName) (ws : List Cond) (rm : Room) (D : va_G) (cl : List vw_C) (tys : List (ClassId × FieldType)) (av : List Value) (h0 : Nat) (w0 : va_W) (mk : (Nat → Nat) → va_W) (mc ms : Nat) : Prop :=
  ∀ sz : Nat, Met l y ws rm (va_Pc av (fun U => U.heap.size = sz ∧ va_P D cl w0 U.heap ∧ va_K D cl tys U ∧ va_D (fun _ => True) w0 ∧ cx_W U)) (cx_QN D cl h0 mk (va_A w0 sz)) mc ms (va_A w0 sz)
def cx_ZN (D : va_G) (cl : List vw_C) (below : List Frame) (av : List Value) (s : State) (h0 : Nat) (mk : (Nat → Nat) → va_W) (mc ms : Nat) (A : Nat → Prop) : State → Prop := MQ below (cx_QN D cl h0 mk A) av.toArray s mc ms A
theorem cx_ofN {y : MethodName} {ws ws' : List Cond} {rm : Room} {av : List Value} {h0 : Nat} {w0 : va_W} {mk : (Nat → Nat) → va_W} {mc ms : Nat} {cc : ByteArray} {maxL : Nat}
    (hy : plainFor y = true) (hw : ws = Cond.code y cc maxL none :: ws') (hlen : (lg_sl av).length ≤ maxL)
    (body : ∀ (p : Program) (e : Env) (s : State) (m : MethodId) (below : List Frame) (meth : Method) (c : Code), p.tables.exec = Jvm.exec → c.code = cc → meth.sig.returnType = none → c.maxLocals = maxL → s.vm.findClass y.cls = some m.cls → (∀ w ∈ ws, w.before av.toArray s = true) → meth.locks = false → meth.name = y.name →
      ∀ (A : Nat → Prop), (∀ q : Nat, s.heap.size ≤ q → A q) → ∀ (H : Heap) (locs : List Loc) (ls : Array Slot), va_K D cl tys s → cx_W s → va_P D cl w0 H → va_D A w0 → va_S A s.heap H locs → lv_has ls maxL (lv_args 0 av) → W p l e rm s m av.toArray below meth c H locs 0 0 (cx_ZN D cl below av s h0 mk mc ms A) (F0 m 0 ls [])) :
    cx_N l y ws rm D cl tys av h0 w0 mk mc ms := by
  intro sz
  refine cx_ofW (cc := cc) (maxL := maxL) (ret := none) hy hw ?_
  intro p e s m args below meth c s₁ B hml hv
  obtain ⟨rfl, hsz, hP, hK, hD0, hN⟩ := hv
  subst hsz
  have hD := hD0.self (sz := s.heap.size)
  have hl := lv_entry av (n := maxL) hlen
  rw [lg_entry_eq]
  exact body p e s m below meth c B.exec B.bytes B.returns hml (findClass_of_methodNamed B.named) (atoms_spec (ws := ws) B.pre) B.notSynchronized (name_of_methodNamed B.named B.method).1 _ (fun q h => Or.inr h) s.heap [] _ hK hN hP hD va_S.rf hl
theorem cx_vretN {av : List Value} {h0 : Nat} {mk : (Nat → Nat) → va_W} (hx : p.tables.exec = Jvm.exec) (hb : c.code = cc) (hr : meth.sig.returnType = none) (hlocks : meth.locks = false) (a : Nat → Nat) (ha : a 0 = h0) (hP : va_P D cl (mk a) H) (hD : va_D A (mk a)) (hS : va_S A s.heap H locs) (hdg : decode cc pc = .ok (.return_, 1)) :
    W p l e R s m av.toArray below meth c H locs cells slots (cx_ZN D cl below av s h0 mk cells slots A) (F0 m pc ls []) :=
  W.vret hx hb hr (fun t ht _ => ⟨⟨rfl, a, ha, by rw [ht]; exact hP, hD⟩, hS.F ht⟩) hS.2.2 hdg hlocks
theorem cx_lastR (ws : va_W) (x : Nat × va_E) : (List.range ws.length).map (fun i => (ws ++ [x])[i]?) = ws.map some := by
  apply List.ext_getElem?
  intro k
  rw [List.getElem?_map, List.getElem?_map]
  by_cases hk : k < ws.length
  · rw [List.getElem?_range hk]
    simp only [Option.map_some, List.getElem?_append_left hk, List.getElem?_eq_getElem hk]
  · rw [List.getElem?_eq_none (by simp; omega), List.getElem?_eq_none (by omega)]
    rfl
theorem cx_lastC (ws : va_W) (x : Nat × va_E) : [ws.length].map (fun i => (ws ++ [x])[i]?) = [x].map some := by simp
theorem cx_runN {aa : Array Value} {h0 : Nat} {x : Nat × va_E} {mk : (Nat → Nat) → va_W} {mc ms : Nat} (hr : va_Run p l e R s m args below meth c H locs cells slots mc ms (F0 m pc ls st0) rest (cx_QN D cl h0 mk (va_A [x] H.size) aa) (va_A [x] H.size)) (hP : va_P D cl (ws ++ [x]) H) (hD : va_D A (ws ++ [x])) (hS : va_S A H0 H locs) (hA : ∀ q, H0.size ≤ q → A q)
    (kk : ∀ (a : Nat → Nat) (H1 : Heap) (locs1 : List Loc), a 0 = h0 → va_P D cl (ws ++ mk a) H1 → va_D A (ws ++ mk a) → va_S A H0 H1 locs1 → W p l e R s m args below meth c H1 locs1 (cells + mc) (slots + ms) Q (F0 m (pc + 3) ls rest)) : W p l e R s m args below meth c H locs cells slots Q (F0 m pc ls st0) := by
  have hF := va_free (wc := [x]) hD hS hA [ws.length] (cx_lastC ws x)
  intro T hT X
  obtain ⟨v, st₀, t, T', L, h0', X', hL, e1, e2, ⟨⟨hv, a, ha, hP1, hD1⟩, hz, hk⟩, st⟩ := hr T hT X
  cases hv
  rw [h0'] at hz hk
  rw [← e1] at hP1
  obtain ⟨hP2, hD2⟩ := va_join (wr := ws) (w1 := mk a) hP hD [ws.length] (List.range ws.length) (cx_lastC ws x) (cx_lastR ws x) (cx_nd _ List.nodup_range) (fun i hi => by simp at hi ⊢; omega) (fun q h1 h2 => by rw [e1]; exact hk q h1 h2) hF hP1 hD1
  obtain ⟨t2, a1, b1⟩ := kk a T'.heap (locs ++ L) ha hP2 hD2
    ⟨Nat.le_trans hS.1 (by rw [e1]; exact hz), fun q h1 h2 => by rw [e1, hk q (Nat.lt_of_lt_of_le h1 hS.1) (fun z => h2 (hF q z))]; exact hS.2.1 q h1 h2, fun q hq => by
      rcases List.mem_append.mp hq with h | h
      · exact hS.2.2 q h
      · exact hF _ (hL q h)⟩ T' rfl X'
  exact ⟨t2, st t2 a1, b1⟩
end CXN
