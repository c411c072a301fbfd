/-! THE LAW'S LOOP -/
/-! worlds in segments -/
section SEG
variable {A : Nat → Prop} {D : va_G} {cl : List vw_C} {wA wB w1 wc ws wt wr : va_W} {H H1 : Heap}
theorem wP_l (h : va_P D cl (wA ++ wB) H) : va_P D cl wA H := fun k q hk => h k q (by rw [List.getElem?_append_left (List.getElem?_eq_some_iff.mp hk).1]; exact hk)
theorem wP_r (h : va_P D cl (wA ++ wB) H) : va_P D cl wB H := fun k q hk => h (wA.length + k) q (by rw [List.getElem?_append_right (Nat.le_add_right _ _), Nat.add_sub_cancel_left]; exact hk)
theorem wD_l (h : va_D A (wA ++ wB)) : va_D A wA := by
  have e : ∀ (k : Nat) (q : Nat × va_E), wA[k]? = some q → (wA ++ wB)[k]? = some q := fun k q hk => by rw [List.getElem?_append_left (List.getElem?_eq_some_iff.mp hk).1]; exact hk
  exact ⟨fun i j p q hi hj hpq => h.1 i j p q (e i p hi) (e j q hj) hpq, fun k q hk => h.2 k q (e k q hk)⟩
theorem wD_r (h : va_D A (wA ++ wB)) : va_D A wB := by
  have e : ∀ (k : Nat) (q : Nat × va_E), wB[k]? = some q → (wA ++ wB)[wA.length + k]? = some q := fun k q hk => by rw [List.getElem?_append_right (Nat.le_add_right _ _), Nat.add_sub_cancel_left]; exact hk
  exact ⟨fun i j p q hi hj hpq => by have := h.1 _ _ p q (e i p hi) (e j q hj) hpq; omega, fun k q hk => h.2 _ q (e k q hk)⟩
theorem wD_x (h : va_D A (wA ++ wB)) {i j : Nat} {p q : Nat × va_E} (hi : wA[i]? = some p) (hj : wB[j]? = some q) : p.1 ≠ q.1 := fun hpq => by
  have hl := (List.getElem?_eq_some_iff.mp hi).1
  have := h.1 i (wA.length + j) p q (by rw [List.getElem?_append_left hl]; exact hi) (by rw [List.getElem?_append_right (Nat.le_add_right _ _), Nat.add_sub_cancel_left]; exact hj) hpq
  omega
/-- the callee's world is the first segment -/
theorem wS_first (hP : va_P D cl (wc ++ wB) H) (hD : va_D A (wc ++ wB)) (hw : w1.map Prod.fst = wc.map Prod.fst) (hk : ∀ q : Nat, q < H.size → ¬ va_A wc H.size q → H1[q]? = H[q]?) (hP1 : va_P D cl w1 H1) : va_P D cl (w1 ++ wB) H1 ∧ va_D A (w1 ++ wB) := by
  refine cx3_back hD (cx_hw hw rfl) (va_P.app hP1 (fun k q hq => ?_))
  have hl := (wP_r hP k q hq).lt
  refine (wP_r hP k q hq).kept (hk q.1 hl (fun h => ?_))
  rcases h with ⟨k2, e, h⟩ | h
  · exact wD_x hD h hq rfl
  · exact absurd hl (Nat.not_lt.mpr h)
/-- the callee's world is the last segment -/
theorem wS_last (hP : va_P D cl (wA ++ wc) H) (hD : va_D A (wA ++ wc)) (hw : w1.map Prod.fst = wc.map Prod.fst) (hk : ∀ q : Nat, q < H.size → ¬ va_A wc H.size q → H1[q]? = H[q]?) (hP1 : va_P D cl w1 H1) : va_P D cl (wA ++ w1) H1 ∧ va_D A (wA ++ w1) := by
  refine cx3_back hD (cx_hw rfl hw) (va_P.app (fun k q hq => ?_) hP1)
  have hl := (wP_l hP k q hq).lt
  refine (wP_l hP k q hq).kept (hk q.1 hl (fun h => ?_))
  rcases h with ⟨k2, e, h⟩ | h
  · exact wD_x hD hq h rfl
  · exact absurd hl (Nat.not_lt.mpr h)
/-- the callee's world lies in the last segment -/
theorem wS_in (hP : va_P D cl (wA ++ ws) H) (hD : va_D A (wA ++ ws)) (is isR : List Nat) (n : Nat) (hC : is.map (fun i => ws[i]?) = wc.map some) (hw : w1.map Prod.fst = wc.map Prod.fst)
    (h1 : is.map (fun i => wt[i]?) = w1.map some) (h2 : isR.map (fun i => wt[i]?) = wr.map some) (h3 : isR.map (fun i => ws[i]?) = wr.map some) (hn : wt.length = n) (hcov : (List.range n).all (fun k => is.contains k || (isR.contains k && !is.contains k)) = true) (ha : wt.map Prod.fst = ws.map Prod.fst)
    (hk : ∀ q : Nat, q < H.size → ¬ va_A wc H.size q → H1[q]? = H[q]?) (hP1 : va_P D cl w1 H1) : va_P D cl (wA ++ wt) H1 ∧ va_D A (wA ++ wt) := by
  obtain ⟨hPt, -⟩ := cx2_back (wP_r hP) (wD_r hD) is isR n hC hw h1 h2 h3 hn hcov hk hP1
  refine cx3_back hD (cx_hw rfl ha) (va_P.app (fun k q hq => ?_) hPt)
  have hl := (wP_l hP k q hq).lt
  refine (wP_l hP k q hq).kept (hk q.1 hl (fun h => ?_))
  rcases h with ⟨k2, e, h⟩ | h
  · have h9 : (is.map (fun i => ws[i]?))[k2]? = some (some (q.1, e)) := by rw [hC, List.getElem?_map, h]; rfl
    rw [List.getElem?_map] at h9
    cases hi : is[k2]? with
    | none => rw [hi] at h9; cases h9
    | some i =>
      rw [hi] at h9
      exact wD_x hD hq (Option.some.inj h9) rfl
  · exact absurd hl (Nat.not_lt.mpr h)
end SEG
section SEGC
variable {p : Program} {l : Launch} {e : Env} {R : Room} {s : State} {m : MethodId} {args : Array Value} {below : List Frame} {meth : Method} {c : Code} {H : Heap} {locs : List Loc} {cells slots : Nat} {Q : State → Prop}
variable {cc bytes : ByteArray} {pc nL maxL n index : Nat} {ls : Array Slot} {rest st0 As : List Value} {D : va_G} {cl : List vw_C} {tys : List (ClassId × FieldType)} {ws wc w1 wA wB : va_W} {A : Nat → Prop} {H0 : Heap} {y : MethodName} {wy Ts : List Cond} {rm : Room} {rv : Option Value} {ret : Option FieldType} {own C : String} {b : Addr}
theorem wS_callIn (wt wr : va_W) (S : CallFix p m c cc nL s args Ts own) (hM : cx_M l y wy rm D cl tys (.ref b :: As) wc w1 rv) (cw : CallW R s args own C index y bytes maxL ret wy rm 0 0 n) (hsize : ls.size = nL) (hP : va_P D cl (wA ++ ws) H) (hD : va_D A (wA ++ ws)) (hS : va_S A H0 H locs) (hA : ∀ q, H0.size ≤ q → A q) (hK : va_K D cl tys s) (hN : cx_W s)
    (is isR : List Nat) (nw : Nat) (q0 ci : Nat) {q : vw_C} {fs : List Value} (hc : cl[ci]? = some q) (he : ws[q0]? = some (b, .inr (ci, fs))) (hq : q.1 = C) (hC : is.map (fun i => ws[i]?) = wc.map some) (hnd : va_nd is = true) (hw : w1.map Prod.fst = wc.map Prod.fst) (h1 : is.map (fun i => wt[i]?) = w1.map some) (h2 : isR.map (fun i => wt[i]?) = wr.map some) (h3 : isR.map (fun i => ws[i]?) = wr.map some) (hnw : wt.length = nw) (hcov : (List.range nw).all (fun k => is.contains k || (isR.contains k && !is.contains k)) = true) (ha : wt.map Prod.fst = ws.map Prod.fst)
    (hn : As.length = n) (hst : st0 = As.reverse ++ .ref b :: rest) (hW : (rest.map fun v => v.category).sum ≤ 8) (hdg : decode cc pc = .ok (.invokevirtual index, 3)) (hf : cells ≤ R.cells ∧ slots ≤ R.slots)
    (kk : ∀ (H1 : Heap) (locs1 : List Loc), va_P D cl (wA ++ wt) H1 → va_D A (wA ++ wt) → va_S A H0 H1 locs1 → W p l e R s m args below meth c H1 locs1 cells slots Q (F0 m (pc + 3) ls (rv.toList ++ rest))) : W p l e R s m args below meth c H locs cells slots Q (F0 m pc ls st0) := by
  subst hq
  have hP0 := wP_r hP
  have hD0 := wD_r hD
  refine cx2_run (aa := (Value.ref b :: As).toArray) (wc := wc) (w1 := w1) (rest := rest) ?_ hS (va_free hD0 hS hA is hC) (fun H1 hk hP1 => wS_in hP hD is isR nw hC hw h1 h2 h3 hnw hcov ha hk hP1) kk
  exact va_runV (g := F0 m pc ls st0) S (hM H.size) cw ⟨cx_blind, va_recv hK hP0 hc he, fun U hU hW => ⟨rfl, by rw [hU], by rw [hU]; exact cx_P hP0 hC, va_K.moved hW.alike hK, cx_D hD0 hnd hC, cx_W.warm hW hN⟩⟩ rfl hn hsize hst (lv_room hW) hdg hf
theorem wS_callFirst (wt : va_W) (S : CallFix p m c cc nL s args Ts own) (hM : cx_M l y wy rm D cl tys (.ref b :: As) wc wt rv) (cw : CallW R s args own C index y bytes maxL ret wy rm 0 0 n) (hsize : ls.size = nL) (hP : va_P D cl (wc ++ wB) H) (hD : va_D A (wc ++ wB)) (hS : va_S A H0 H locs) (hA : ∀ q, H0.size ≤ q → A q) (hK : va_K D cl tys s) (hN : cx_W s)
    (q0 ci : Nat) {q : vw_C} {fs : List Value} (hc : cl[ci]? = some q) (he : wc[q0]? = some (b, .inr (ci, fs))) (hq : q.1 = C) (hw : wt.map Prod.fst = wc.map Prod.fst)
    (hn : As.length = n) (hst : st0 = As.reverse ++ .ref b :: rest) (hW : (rest.map fun v => v.category).sum ≤ 8) (hdg : decode cc pc = .ok (.invokevirtual index, 3)) (hf : cells ≤ R.cells ∧ slots ≤ R.slots)
    (kk : ∀ (H1 : Heap) (locs1 : List Loc), va_P D cl (wt ++ wB) H1 → va_D A (wt ++ wB) → va_S A H0 H1 locs1 → W p l e R s m args below meth c H1 locs1 cells slots Q (F0 m (pc + 3) ls (rv.toList ++ rest))) : W p l e R s m args below meth c H locs cells slots Q (F0 m pc ls st0) := by
  subst hq
  have hP0 := wP_l hP
  have hD0 := wD_l hD
  refine cx2_run (aa := (Value.ref b :: As).toArray) (wc := wc) (w1 := wt) (rest := rest) ?_ hS (cx3_free hD0 hS hA) (fun H1 hk hP1 => wS_first hP hD hw hk hP1) kk
  exact va_runV (g := F0 m pc ls st0) S (hM H.size) cw ⟨cx_blind, va_recv hK hP0 hc he, fun U hU hW => ⟨rfl, by rw [hU], by rw [hU]; exact hP0, va_K.moved hW.alike hK, hD0.weaken (fun _ _ _ _ => trivial), cx_W.warm hW hN⟩⟩ rfl hn hsize hst (lv_room hW) hdg hf
end SEGC
abbrev wLW (tC : Nat → ClassId) (ad : Nat → Nat → Nat) (am : Nat → Nat) (ao : Nat) (sr : SRt) (la : LAt) (fb : FBt) (rs : RSt) (ss : SSt) (nu : NUt) (fs : FSt) (co : COt) (mo : MOt) (ov : Nat → Int64) : va_W := wMO tC am mo ++ (wX tC ad sr la fb rs ss nu fs co ++ wOut tC ao ov)
abbrev AA (s : State) : Nat → Prop := fun q => s.heap.size ≤ q
abbrev lvL (ad : Nat → Nat → Nat) (am : Nat → Nat) (ao b i : Nat) : List (Nat × Value) := [(0, .ref b), (1, .ref (ad 0 0)), (2, .ref (am 0)), (3, .ref ao), (4, .int (nI i))]
/-- what stays the same in the whole law -/
def LFx (p : Program) (l : Launch) (s : State) (m : MethodId) (c : Code) (b L : Nat) (xs : Nat → Int32) (dC : Nat → ClassId) (dI : Nat → Nat → Nat) (tC : Nat → ClassId) : Prop :=
  (p.tables.exec = Jvm.exec) ∧ (c.code = code) ∧ (c.maxLocals = 7) ∧ (s.vm.findClass R_LW = some m.cls) ∧ (∀ w ∈ Cond.tt :: ww, w.before #[Value.ref b] s = true) ∧ (va_X b L xs s s.heap) ∧ (b < s.heap.size) ∧ (va_K (dC, dI) classes (tyS tC) s) ∧ (cx_W s) ∧ (OWN s) ∧ (l.flags = flags0) ∧ (L ≤ 3075)
theorem LFx.hx {p : Program} {l : Launch} {s : State} {m : MethodId} {c : Code} {b L : Nat} {xs : Nat → Int32} {dC : Nat → ClassId} {dI : Nat → Nat → Nat} {tC : Nat → ClassId} (h : LFx p l s m c b L xs dC dI tC) : p.tables.exec = Jvm.exec := h.1
theorem LFx.hb {p : Program} {l : Launch} {s : State} {m : MethodId} {c : Code} {b L : Nat} {xs : Nat → Int32} {dC : Nat → ClassId} {dI : Nat → Nat → Nat} {tC : Nat → ClassId} (h : LFx p l s m c b L xs dC dI tC) : c.code = code := h.2.1
theorem LFx.hml {p : Program} {l : Launch} {s : State} {m : MethodId} {c : Code} {b L : Nat} {xs : Nat → Int32} {dC : Nat → ClassId} {dI : Nat → Nat → Nat} {tC : Nat → ClassId} (h : LFx p l s m c b L xs dC dI tC) : c.maxLocals = 7 := h.2.2.1
theorem LFx.hown {p : Program} {l : Launch} {s : State} {m : MethodId} {c : Code} {b L : Nat} {xs : Nat → Int32} {dC : Nat → ClassId} {dI : Nat → Nat → Nat} {tC : Nat → ClassId} (h : LFx p l s m c b L xs dC dI tC) : s.vm.findClass R_LW = some m.cls := h.2.2.2.1
theorem LFx.hts {p : Program} {l : Launch} {s : State} {m : MethodId} {c : Code} {b L : Nat} {xs : Nat → Int32} {dC : Nat → ClassId} {dI : Nat → Nat → Nat} {tC : Nat → ClassId} (h : LFx p l s m c b L xs dC dI tC) : ∀ w ∈ Cond.tt :: ww, w.before #[Value.ref b] s = true := h.2.2.2.2.1
theorem LFx.hX {p : Program} {l : Launch} {s : State} {m : MethodId} {c : Code} {b L : Nat} {xs : Nat → Int32} {dC : Nat → ClassId} {dI : Nat → Nat → Nat} {tC : Nat → ClassId} (h : LFx p l s m c b L xs dC dI tC) : va_X b L xs s s.heap := h.2.2.2.2.2.1
theorem LFx.hbl {p : Program} {l : Launch} {s : State} {m : MethodId} {c : Code} {b L : Nat} {xs : Nat → Int32} {dC : Nat → ClassId} {dI : Nat → Nat → Nat} {tC : Nat → ClassId} (h : LFx p l s m c b L xs dC dI tC) : b < s.heap.size := h.2.2.2.2.2.2.1
theorem LFx.hK {p : Program} {l : Launch} {s : State} {m : MethodId} {c : Code} {b L : Nat} {xs : Nat → Int32} {dC : Nat → ClassId} {dI : Nat → Nat → Nat} {tC : Nat → ClassId} (h : LFx p l s m c b L xs dC dI tC) : va_K (dC, dI) classes (tyS tC) s := h.2.2.2.2.2.2.2.1
theorem LFx.hN {p : Program} {l : Launch} {s : State} {m : MethodId} {c : Code} {b L : Nat} {xs : Nat → Int32} {dC : Nat → ClassId} {dI : Nat → Nat → Nat} {tC : Nat → ClassId} (h : LFx p l s m c b L xs dC dI tC) : cx_W s := h.2.2.2.2.2.2.2.2.1
theorem LFx.hO {p : Program} {l : Launch} {s : State} {m : MethodId} {c : Code} {b L : Nat} {xs : Nat → Int32} {dC : Nat → ClassId} {dI : Nat → Nat → Nat} {tC : Nat → ClassId} (h : LFx p l s m c b L xs dC dI tC) : OWN s := h.2.2.2.2.2.2.2.2.2.1
theorem LFx.hfl {p : Program} {l : Launch} {s : State} {m : MethodId} {c : Code} {b L : Nat} {xs : Nat → Int32} {dC : Nat → ClassId} {dI : Nat → Nat → Nat} {tC : Nat → ClassId} (h : LFx p l s m c b L xs dC dI tC) : l.flags = flags0 := h.2.2.2.2.2.2.2.2.2.2.1
theorem LFx.hL {p : Program} {l : Launch} {s : State} {m : MethodId} {c : Code} {b L : Nat} {xs : Nat → Int32} {dC : Nat → ClassId} {dI : Nat → Nat → Nat} {tC : Nat → ClassId} (h : LFx p l s m c b L xs dC dI tC) : L ≤ 3075 := h.2.2.2.2.2.2.2.2.2.2.2
/-- a case's end: the next round -/
def KK (p : Program) (l : Launch) (e : Env) (s : State) (m : MethodId) (below : List Frame) (meth : Method) (c : Code) (b : Nat) (dC : Nat → ClassId) (dI : Nat → Nat → Nat) (tC : Nat → ClassId) (ad : Nat → Nat → Nat) (am : Nat → Nat) (ao B i cells slots : Nat) : Prop :=
  ∀ (sr : SRt) (la : LAt) (fb : FBt) (rs : RSt) (ss : SSt) (nu : NUt) (fs : FSt) (co : COt) (mo : MOt) (ov : Nat → Int64) (H : Heap) (locs : List Loc) (ls : Array Slot), RL (B + 1) sr la fb rs ss nu fs mo → va_P (dC, dI) classes (wLW tC ad am ao sr la fb rs ss nu fs co mo ov) H → va_D (AA s) (wLW tC ad am ao sr la fb rs ss nu fs co mo ov) → va_S (AA s) s.heap H locs → lv_has ls 7 (lvL ad am ao b i) →
    W p l e room_1 s m #[Value.ref b] below meth c H locs (cells + 1) (slots + 6) (lw_Z below #[Value.ref b] s) (F0 m 802 ls [])
/-- a long out of two ints -/
def lw_v (a b : Int32) : Int64 := (a.toInt64 <<< ((32 : Int32).toInt64 &&& 63)) ||| (b.toInt64 &&& 4294967295)
section LWG
variable {p : Program} {l : Launch} {e : Env} {R : Room} {s : State} {m : MethodId} {args : Array Value} {below : List Frame} {meth : Method} {c : Code} {H : Heap} {locs : List Loc} {cells slots : Nat} {Q : State → Prop} {pc : Nat} {ls : Array Slot} {rest : List Value} {b L : Nat} {xs : Nat → Int32} {dC : Nat → ClassId} {dI : Nat → Nat → Nat} {tC : Nat → ClassId} {i : Nat}
/-- script[i + j] -/
theorem lw_g (F : LFx p l s m c b L xs dC dI tC) (hS : va_S (AA s) s.heap H locs) (h0 : ls[0]? = some (.val (.ref b))) (h4 : ls[4]? = some (.val (.int (nI i)))) (j : Nat) {z : Int} (hij : i + j < L) (hz : Int32.ofInt z = nI j) (d1 : decode code pc = .ok (.aload_n 0, 1)) (d2 : decode code (pc + 1) = .ok (.iload 4, 2)) (d3 : decode code (pc + 1 + 2) = .ok (.iconst z, 1)) (d4 : decode code (pc + 1 + 2 + 1) = .ok (.iadd, 1)) (d5 : decode code (pc + 1 + 2 + 1 + 1) = .ok (.iaload, 1))
    (kk : W p l e R s m args below meth c H locs cells slots Q (F0 m (pc + 1 + 2 + 1 + 1 + 1) ls (.int (xs (i + j)) :: rest))) : W p l e R s m args below meth c H locs cells slots Q (F0 m pc ls rest) := by
  have hL := F.hL
  refine lv_aload_n F.hx F.hb d1 rfl h0 ?_
  refine lv_iload F.hx F.hb d2 h4 ?_
  refine lv_iconst (v := nI j) F.hx F.hb d3 hz ?_
  refine lv_iadd F.hx F.hb d4 ?_
  rw [nI_add]
  refine va_sld F.hx F.hb F.hX F.hbl (Nat.not_le.mpr F.hbl) hS (vp_in_nI hij (by omega)) d5 ?_
  rw [nI_clamp (by omega)]
  exact kk
end LWG
