/-! THE THROW OF SpanRules.row -/
/-- the contract of a method that only reads -/
def cx_R (l : Launch) (y : MethodName) (ws : List Cond) (rm : Room) (D : va_G) (cl : List vw_C) (tys : List (ClassId × FieldType)) (av : List Value) (wc : va_W) (rv : Option Value) : Prop :=
  ∀ sz : Nat, Met l y ws rm (va_Pc av (fun U => U.heap.size = sz ∧ va_P D cl wc U.heap ∧ va_K D cl tys U ∧ cx_W U)) (cx_Q D cl wc rv (fun q => sz ≤ q)) 0 0 (fun q => sz ≤ q)
theorem cx_ofR {l : Launch} {y : MethodName} {ws ws' : List Cond} {rm : Room} {D : va_G} {cl : List vw_C} {tys : List (ClassId × FieldType)} {av : List Value} {wc : va_W} {rv : Option Value} {cc : ByteArray} {maxL : Nat} {ret : Option FieldType}
    (hy : plainFor y = true) (hw : ws = Cond.code y cc maxL ret :: ws') (hlen : (lg_sl av).length ≤ maxL)
    (body : ∀ (p : Program) (e : Env) (s : State) (m : MethodId) (below : List Frame) (meth : Method) (c : Code), p.tables.exec = Jvm.exec → c.code = cc → meth.sig.returnType = ret → c.maxLocals = maxL → s.vm.findClass y.cls = some m.cls → (∀ w ∈ ws, w.before av.toArray s = true) → meth.locks = false →
      ∀ (A : Nat → Prop), (∀ q : Nat, s.heap.size ≤ q → A q) → ∀ (H : Heap) (locs : List Loc) (ls : Array Slot), va_K D cl tys s → cx_W s → va_P D cl wc H → va_S A s.heap H locs → lv_has ls maxL (lv_args 0 av) → W p l e rm s m av.toArray below meth c H locs 0 0 (cx_Z D cl below av s wc rv A) (F0 m 0 ls [])) :
    cx_R l y ws rm D cl tys av wc rv := by
  intro sz
  refine cx_ofW (cc := cc) (maxL := maxL) (ret := ret) hy hw ?_
  intro p e s m args below meth c s₁ B hml hv
  obtain ⟨rfl, hsz, hP, hK, hN⟩ := hv
  subst hsz
  have hl := lv_entry av (n := maxL) hlen
  rw [lg_entry_eq]
  exact body p e s m below meth c B.exec B.bytes B.returns hml (findClass_of_methodNamed B.named) (atoms_spec (ws := ws) B.pre) B.notSynchronized _ (fun q h => h) s.heap [] _ hK hN hP va_S.rf hl
set_option maxHeartbeats 4000000 in
set_option maxRecDepth 100000 in
theorem c_FB_hasR (l : Launch) (dC : Nat → ClassId) (dI : Nat → Nat → Nat) (tC : Nat → ClassId) (a : Nat → Nat) (k : Nat) (x1 : Int32) (x2 : Int64) (fb : FBt) (res : Int32) (hf : f_FB_has k x1 x2 fb = some res) : cx_R l y_FB_has w_FB_has { frames := 0, cells := 0, slots := 0, locals := 0 } (dC, dI) classes (tyS tC) [.ref (a 0), .int x1, .long x2] (wFB tC a fb) (some (.int res)) := by
  refine cx_ofR (cc := b_FB_has) (maxL := 5) (ret := some .boolean) (plainFor_of_name (by decide)) rfl (Nat.le_of_ble_eq_true rfl) ?_
  intro p e s m below meth c hx hb hr hml hown hts hlocks A hA H locs ls hK hN hP hS hl
  have hown : s.vm.findClass R_FB = some m.cls := hown
  have hl : lv_has ls 5 [(0, .ref (a 0)), (1, .int x1), (2, .long x2)] := hl
  unfold f_FB_has at hf
  refine lv_iconst (v := 0) hx hb d_FB_has_0 (by decide) ?_
  refine lv_istore (lv' := [(4, .int 0), (0, .ref (a 0)), (1, .int x1), (2, .long x2)]) hx hb d_FB_has_1 hl (by decide) rfl (fun ls hl => ?_)
  have L_3 : ∀ (n : Nat) (v4 : Int32), f_FB_has_L3 x1 x2 fb n v4 = some res → ∀ (H : Heap) (locs : List Loc) (ls : Array Slot), va_P (dC, dI) classes (wFB tC a fb) H → va_S A s.heap H locs → lv_has ls 5 [(0, .ref (a 0)), (1, .int x1), (2, .long x2), (4, .int v4)] → W p l e { frames := 0, cells := 0, slots := 0, locals := 0 } s m [.ref (a 0), .int x1, .long x2].toArray below meth c H locs 0 0 (cx_Z (dC, dI) classes below [.ref (a 0), .int x1, .long x2] s (wFB tC a fb) (some (.int res)) A) (F0 m 3 ls []) := by
    intro n
    induction n with
    | zero =>
      intro v4 hf
      rw [f_FB_has_L3] at hf
      cases hf
    | succ n ih =>
      intro v4 hf H locs ls hP hS hl
      rw [f_FB_has_L3] at hf
      refine lv_iload hx hb d_FB_has_3 (lv_at hl 3 rfl) ?_
      refine lv_aload_n hx hb d_FB_has_5 rfl (lv_at hl 0 rfl) ?_
      refine va_get (D := (dC, dI)) (ci := 2) (v := .ref (a 2)) (C := R_FB) (T := F_FB) (N := 2) hx hb hts (in_FB _) hown hK hP 0 rfl rfl 1 (by decide) (hts _ (List.mem_cons_of_mem _ mw_31)) (fun _ h9 => h9) rfl d_FB_has_6 ?_
      refine lv_iload_n hx hb d_FB_has_9 rfl (lv_at hl 1 rfl) ?_
      obtain ⟨ck, hf⟩ := g_ck hf
      refine va_iald (D := (dC, dI)) hx hb hK hP 2 0 rfl rfl ck d_FB_has_10 ?_
      refine lv_icmp_ge (tgt := 39) hx hb d_FB_has_11 (by decide) (fun cb => ?_) (fun cb => ?_)
      · have hf := g_t hf cb
        refine lv_iconst (v := 0) hx hb d_FB_has_39 (by decide) ?_
        have hq0 := (g_some hf)
        subst hq0
        exact cx_zret hx hb hr hlocks rfl hP hS d_FB_has_40
      · have hf := g_f hf cb
        refine lv_aload_n hx hb d_FB_has_14 rfl (lv_at hl 0 rfl) ?_
        refine va_get (D := (dC, dI)) (ci := 2) (v := .ref (a 1)) (C := R_FB) (T := F_FB) (N := 2) hx hb hts (in_FB _) hown hK hP 0 rfl rfl 0 (by decide) (hts _ (List.mem_cons_of_mem _ mw_30)) (fun _ h9 => h9) rfl d_FB_has_15 ?_
        refine lv_iload_n hx hb d_FB_has_18 rfl (lv_at hl 1 rfl) ?_
        refine lv_bipush (v := 8) hx hb d_FB_has_19 (by decide) ?_
        refine lv_imul hx hb d_FB_has_21 ?_
        refine lv_iload hx hb d_FB_has_22 (lv_at hl 3 rfl) ?_
        refine lv_iadd hx hb d_FB_has_24 ?_
        obtain ⟨ck_1, hf⟩ := g_ck hf
        refine va_lald (D := (dC, dI)) hx hb hK hP 1 1 rfl rfl ck_1 d_FB_has_25 ?_
        refine lv_lload_n hx hb d_FB_has_26 rfl (lv_at hl 2 rfl) ?_
        refine cq_ne (tgt := 33) hx hb d_FB_has_27 d_FB_has_28 (by decide) (fun cb_1 => ?_) (fun cb_1 => ?_)
        · have hf := g_f hf cb_1
          obtain ⟨v4_1, h_v4_1⟩ : ∃ z : Int32, z = v4 + 1 := ⟨_, rfl⟩
          have hf := g_let hf h_v4_1
          refine lv_iinc (v := v4_1) (lv' := [(4, .int v4_1), (0, .ref (a 0)), (1, .int x1), (2, .long x2)]) hx hb d_FB_has_33 hl (k := 3) rfl (by rw [h_v4_1]; rfl) (by decide) rfl (fun ls hl => ?_)
          refine lv_goto (tgt := 3) hx hb d_FB_has_36 (by decide) ?_
          exact ih v4_1 hf H locs ls hP hS (lv_sub hl [1, 2, 3, 0] rfl)
        · have hf := g_t hf cb_1
          refine lv_iconst (v := 1) hx hb d_FB_has_31 (by decide) ?_
          have hq0 := (g_some hf)
          subst hq0
          exact cx_zret hx hb hr hlocks rfl hP hS d_FB_has_32
  exact L_3 k 0 hf H locs ls hP hS (lv_sub hl [1, 2, 3, 0] rfl)
section CXR
variable {p : Program} {l : Launch} {e : Env} {R : Room} {s : State} {m : MethodId} {args : Array Value} {below : List Frame} {meth : Method} {c : Code} {H : Heap} {locs : List Loc} {cells slots : Nat} {Q : State → Prop}
variable {pc : Nat} {ls : Array Slot} {rest st0 : List Value} {D : va_G} {cl : List vw_C} {ws : va_W} {A : Nat → Prop} {H0 : Heap} {rv : Option Value}
/-- behind a call that only reads: the world is as it was -/
theorem cxr_run {Qa : State → Outcome → State → Prop} {free : Addr → Prop} (hr : va_Run p l e R s m args below meth c H locs cells slots 0 0 (F0 m pc ls st0) rest Qa free)
    (hQ : ∀ (st t : State) (v : Option Value), st.heap = H → Qa st (.returned v) t → v = rv ∧ H.size ≤ t.heap.size ∧ ∀ q : Nat, q < H.size → t.heap[q]? = H[q]?) (hfree : ∀ q, free q → H.size ≤ q) (hP : va_P D cl ws H) (hS : va_S A H0 H locs) (hA : ∀ q, H0.size ≤ q → A q)
    (kk : ∀ (H1 : Heap) (locs1 : List Loc), va_P D cl ws H1 → va_S A H0 H1 locs1 → W p l e R s m args below meth c H1 locs1 cells slots Q (F0 m (pc + 3) ls (rv.toList ++ rest))) : W p l e R s m args below meth c H locs cells slots Q (F0 m pc ls st0) := by
  intro T hT X
  obtain ⟨v, st₀, t, T', L, h0, X', hL, e1, e2, hq, st⟩ := hr T hT X
  obtain ⟨rfl, hz, hk⟩ := hQ st₀ t v h0 hq
  obtain ⟨t2, a1, b1⟩ := kk T'.heap (locs ++ L) (fun k q hq => (hP k q hq).kept (by rw [e1]; exact hk q.1 (hP k q hq).lt))
    ⟨Nat.le_trans hS.1 (by rw [e1]; exact hz), fun q h1 h2 => by rw [e1, hk q (Nat.lt_of_lt_of_le h1 hS.1)]; exact hS.2.1 q h1 h2, fun q hq => by
      rcases List.mem_append.mp hq with h | h
      · exact hS.2.2 q h
      · exact hA _ (Nat.le_trans hS.1 (hfree _ (hL q h)))⟩ T' rfl X'
  exact ⟨t2, st t2 a1, b1⟩
end CXR
