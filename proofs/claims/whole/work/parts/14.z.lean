theorem cx_nzf {x : Int32} (h : ¬ ¬ (x = 0 ∨ x = 1)) : fits .boolean (.int x) = true := by
  rcases Classical.not_not.mp h with rfl | rfl <;> rfl
theorem cx_hw {A A' B B' : va_W} (hA : A.map Prod.fst = A'.map Prod.fst) (hB : B.map Prod.fst = B'.map Prod.fst) : (A ++ B).map Prod.fst = (A' ++ B').map Prod.fst := by rw [List.map_append, List.map_append, hA, hB]
theorem cx2_pl {ws wc : va_W} {is : List Nat} (hC : is.map (fun i => ws[i]?) = wc.map some) {j k : Nat} (hj : is[j]? = some k) : ws[k]? = wc[j]? ∧ j < wc.length := by
  have h3 : (is.map (fun i => ws[i]?))[j]? = some (ws[k]?) := by rw [List.getElem?_map, hj]; rfl
  rw [hC, List.getElem?_map] at h3
  cases hw : wc[j]? with
  | none => rw [hw] at h3; cases h3
  | some q' =>
    rw [hw] at h3
    exact ⟨(Option.some.inj h3).symm, (List.getElem?_eq_some_iff.mp hw).1⟩
/-- behind a call, with the new world given: the callee's cells stand at their places, the others (wr) are as they were -/
theorem cx2_back {A0 : Nat → Prop} {D : va_G} {cl : List vw_C} {ws wc w1 wt wr : va_W} {H H1 : Heap} (hP : va_P D cl ws H) (hD : va_D A0 ws) (is isR : List Nat) (n : Nat) (hC : is.map (fun i => ws[i]?) = wc.map some) (hw : w1.map Prod.fst = wc.map Prod.fst)
    (h1 : is.map (fun i => wt[i]?) = w1.map some) (h2 : isR.map (fun i => wt[i]?) = wr.map some) (h3 : isR.map (fun i => ws[i]?) = wr.map some) (hn : wt.length = n) (hcov : (List.range n).all (fun k => is.contains k || (isR.contains k && !is.contains k)) = true)
    (hk : ∀ q : Nat, q < H.size → ¬ va_A wc H.size q → H1[q]? = H[q]?) (hP1 : va_P D cl w1 H1) : va_P D cl wt H1 ∧ va_D A0 wt := by
  have at' : ∀ (k : Nat) (q : Nat × va_E), wc[k]? = some q → ∃ i, is[k]? = some i ∧ ws[i]? = some q := by
    intro k q hq
    have h1 : (is.map (fun i => ws[i]?))[k]? = some (some q) := by rw [hC, List.getElem?_map, hq]; rfl
    rw [List.getElem?_map] at h1
    cases hi : is[k]? with
    | none => rw [hi] at h1; cases h1
    | some i => rw [hi] at h1; exact ⟨i, rfl, Option.some.inj h1⟩
  have two : ∀ (k : Nat) (q : Nat × va_E), wt[k]? = some q → (∃ j : Nat, is[j]? = some k ∧ w1[j]? = some q) ∨ (ws[k]? = some q ∧ k ∉ is) := by
    intro k q hq
    have hkn : k < n := by
      rw [← hn]
      exact (List.getElem?_eq_some_iff.mp hq).1
    have hc := List.all_eq_true.mp hcov k (List.mem_range.mpr hkn)
    simp only [Bool.or_eq_true, Bool.and_eq_true, List.contains_iff_mem, Bool.not_eq_true', ← Bool.not_eq_true] at hc
    rcases hc with hin | ⟨hin, hout⟩
    · obtain ⟨j, hj⟩ := List.getElem?_of_mem hin
      exact Or.inl ⟨j, hj, by rw [← (cx2_pl h1 hj).1]; exact hq⟩
    · obtain ⟨j, hj⟩ := List.getElem?_of_mem hin
      exact Or.inr ⟨by rw [(cx2_pl h3 hj).1, ← (cx2_pl h2 hj).1]; exact hq, hout⟩
  have adr : ∀ (k : Nat) (q : Nat × va_E), wt[k]? = some q → ∃ e, ws[k]? = some (q.1, e) := by
    intro k q hq
    rcases two k q hq with ⟨j, hj, hw1⟩ | ⟨h, _⟩
    · have h4 : (wc.map Prod.fst)[j]? = some q.1 := by rw [← hw, List.getElem?_map, hw1]; rfl
      rw [List.getElem?_map] at h4
      cases hc : wc[j]? with
      | none => rw [hc] at h4; cases h4
      | some qc =>
        rw [hc] at h4
        have e2 : qc.1 = q.1 := Option.some.inj h4
        exact ⟨qc.2, by rw [(cx2_pl hC hj).1, hc, ← e2]⟩
    · exact ⟨q.2, h⟩
  refine ⟨fun k q hq => ?_, fun i j p q hi hj hpq => ?_, fun k q hq => ?_⟩
  · rcases two k q hq with ⟨j, hj, hw1⟩ | ⟨hws2, hout⟩
    · exact hP1 j q hw1
    · have hl := (hP k q hws2).lt
      refine (hP k q hws2).kept (hk q.1 hl (fun h => ?_))
      rcases h with ⟨k2, e, h⟩ | h
      · obtain ⟨i, h3, h4⟩ := at' k2 (q.1, e) h
        have hij := hD.1 k i q (q.1, e) hws2 h4 rfl
        subst hij
        exact hout (List.mem_of_getElem? h3)
      · exact absurd hl (Nat.not_lt.mpr h)
  · obtain ⟨e1, h1⟩ := adr i p hi
    obtain ⟨e2, h2⟩ := adr j q hj
    exact hD.1 i j _ _ h1 h2 hpq
  · obtain ⟨e1, h1⟩ := adr k q hq
    exact hD.2 k (q.1, e1) h1
theorem cx3_back {A0 : Nat → Prop} {D : va_G} {cl : List vw_C} {ws w1 : va_W} {H1 : Heap} (hD : va_D A0 ws) (ha : w1.map Prod.fst = ws.map Prod.fst) (hP1 : va_P D cl w1 H1) : va_P D cl w1 H1 ∧ va_D A0 w1 := by
  have adr : ∀ (k : Nat) (q : Nat × va_E), w1[k]? = some q → ∃ e, ws[k]? = some (q.1, e) := by
    intro k q hq
    have h3 : (ws.map Prod.fst)[k]? = some q.1 := by rw [← ha, List.getElem?_map, hq]; rfl
    rw [List.getElem?_map] at h3
    cases hc : ws[k]? with
    | none => rw [hc] at h3; cases h3
    | some qc =>
      rw [hc] at h3
      have e2 : qc.1 = q.1 := Option.some.inj h3
      exact ⟨qc.2, by rw [← e2]⟩
  refine ⟨hP1, fun i j p q hi hj hpq => ?_, fun k q hq => ?_⟩
  · obtain ⟨e1, h1⟩ := adr i p hi
    obtain ⟨e2, h2⟩ := adr j q hj
    exact hD.1 i j _ _ h1 h2 hpq
  · obtain ⟨e1, h1⟩ := adr k q hq
    exact hD.2 k (q.1, e1) h1
theorem cx3_free {A0 : Nat → Prop} {ws : va_W} {H0 H : Heap} {locs : List Loc} (hD : va_D A0 ws) (hS : va_S A0 H0 H locs) (hA : ∀ q, H0.size ≤ q → A0 q) : ∀ q, va_A ws H.size q → A0 q := by
  intro q h
  rcases h with ⟨k, e, h⟩ | h
  · exact hD.2 k (q, e) h
  · exact hA q (Nat.le_trans hS.1 h)
section CXC2
variable {p : Program} {l : Launch} {e : Env} {R : Room} {s : State} {m : MethodId} {args : Array Value} {below : List Frame} {meth : Method} {c : Code} {H : Heap} {locs : List Loc} {cells slots : Nat} {Q : State → Prop}
variable {cc bytes : ByteArray} {pc nL maxL n index : Nat} {ls : Array Slot} {rest st0 As : List Value} {D : va_G} {cl : List vw_C} {tys : List (ClassId × FieldType)} {ws wc w1 wt : va_W} {A : Nat → Prop} {H0 : Heap} {y : MethodName} {wy Ts : List Cond} {rm : Room} {rv : Option Value} {ret : Option FieldType} {own C host : String} {b : Addr}
theorem cx2_run {aa : Array Value} (hr : va_Run p l e R s m args below meth c H locs cells slots 0 0 (F0 m pc ls st0) rest (cx_Q D cl w1 rv (va_A wc H.size) aa) (va_A wc H.size)) (hS : va_S A H0 H locs) (hF : ∀ q, va_A wc H.size q → A q)
    (hb : ∀ H1 : Heap, (∀ q : Nat, q < H.size → ¬ va_A wc H.size q → H1[q]? = H[q]?) → va_P D cl w1 H1 → va_P D cl wt H1 ∧ va_D A wt)
    (kk : ∀ (H1 : Heap) (locs1 : List Loc), va_P D cl wt H1 → va_D A wt → va_S A H0 H1 locs1 → W p l e R s m args below meth c H1 locs1 cells slots Q (F0 m (pc + 3) ls (rv.toList ++ rest))) : W p l e R s m args below meth c H locs cells slots Q (F0 m pc ls st0) := by
  intro T hT X
  obtain ⟨v, st₀, t, T', L, h0, X', hL, e1, e2, ⟨⟨hv, hP1⟩, hz, hk⟩, st⟩ := hr T hT X
  cases hv
  rw [h0] at hz hk
  rw [← e1] at hP1
  obtain ⟨hP2, hD2⟩ := hb T'.heap (fun q h1 h2 => by rw [e1]; exact hk q h1 h2) hP1
  obtain ⟨t2, a1, b1⟩ := kk T'.heap (locs ++ L) hP2 hD2
    ⟨Nat.le_trans hS.1 (by rw [e1]; exact hz), fun q h1 h2 => by rw [e1, hk q (Nat.lt_of_lt_of_le h1 hS.1) (fun z => h2 (hF q z))]; exact hS.2.1 q h1 h2, fun q hq => by
      rcases List.mem_append.mp hq with h | h
      · exact hS.2.2 q h
      · exact hF _ (hL q h)⟩ T' rfl X'
  exact ⟨t2, st t2 a1, b1⟩
theorem cx2_callV (wt wr : va_W) (S : CallFix p m c cc nL s args Ts own) (hM : cx_M l y wy rm D cl tys (.ref b :: As) wc w1 rv) (cw : CallW R s args own C index y bytes maxL ret wy rm 0 0 n) (hsize : ls.size = nL) (hP : va_P D cl ws H) (hD : va_D A ws) (hS : va_S A H0 H locs) (hA : ∀ q, H0.size ≤ q → A q) (hK : va_K D cl tys s) (hN : cx_W s)
    (is isR : List Nat) (nw : Nat) (q0 ci : Nat) {q : vw_C} {fs : List Value} (hc : cl[ci]? = some q) (he : ws[q0]? = some (b, .inr (ci, fs))) (hq : q.1 = C) (hC : is.map (fun i => ws[i]?) = wc.map some) (hnd : va_nd is = true) (hw : w1.map Prod.fst = wc.map Prod.fst) (h1 : is.map (fun i => wt[i]?) = w1.map some) (h2 : isR.map (fun i => wt[i]?) = wr.map some) (h3 : isR.map (fun i => ws[i]?) = wr.map some) (hnw : wt.length = nw) (hcov : (List.range nw).all (fun k => is.contains k || (isR.contains k && !is.contains k)) = true)
    (hn : As.length = n) (hst : st0 = As.reverse ++ .ref b :: rest) (hW : (rest.map fun v => v.category).sum ≤ 8) (hdg : decode cc pc = .ok (.invokevirtual index, 3)) (hf : cells ≤ R.cells ∧ slots ≤ R.slots)
    (kk : ∀ (H1 : Heap) (locs1 : List Loc), va_P D cl wt H1 → va_D A wt → va_S A H0 H1 locs1 → W p l e R s m args below meth c H1 locs1 cells slots Q (F0 m (pc + 3) ls (rv.toList ++ rest))) : W p l e R s m args below meth c H locs cells slots Q (F0 m pc ls st0) := by
  subst hq
  refine cx2_run (aa := (Value.ref b :: As).toArray) (wc := wc) (w1 := w1) (rest := rest) ?_ hS (va_free hD hS hA is hC) (fun H1 hk hP1 => cx2_back hP hD is isR nw hC hw h1 h2 h3 hnw hcov hk hP1) kk
  exact va_runV (g := F0 m pc ls st0) S (hM H.size) cw ⟨cx_blind, va_recv hK hP hc he, fun U hU hW => ⟨rfl, by rw [hU], by rw [hU]; exact cx_P hP hC, va_K.moved hW.alike hK, cx_D hD hnd hC, cx_W.warm hW hN⟩⟩ rfl hn hsize hst (lv_room hW) hdg hf
theorem cx2_callS (wt wr : va_W) (S : CallFix p m c cc nL s args Ts own) (hM : cx_M l y wy rm D cl tys As wc w1 rv) (cw : CallB R s args own index y bytes maxL ret wy rm 0 0 n ∧ (Cond.static y).before args s = true) (hsize : ls.size = nL) (hP : va_P D cl ws H) (hD : va_D A ws) (hS : va_S A H0 H locs) (hA : ∀ q, H0.size ≤ q → A q) (hK : va_K D cl tys s) (hN : cx_W s)
    (is isR : List Nat) (nw : Nat) (hC : is.map (fun i => ws[i]?) = wc.map some) (hnd : va_nd is = true) (hw : w1.map Prod.fst = wc.map Prod.fst) (h1 : is.map (fun i => wt[i]?) = w1.map some) (h2 : isR.map (fun i => wt[i]?) = wr.map some) (h3 : isR.map (fun i => ws[i]?) = wr.map some) (hnw : wt.length = nw) (hcov : (List.range nw).all (fun k => is.contains k || (isR.contains k && !is.contains k)) = true)
    (hn : As.length = n) (hst : st0 = As.reverse ++ rest) (hW : (rest.map fun v => v.category).sum ≤ 8) (hdg : decode cc pc = .ok (.invokestatic index, 3)) (hf : cells ≤ R.cells ∧ slots ≤ R.slots)
    (kk : ∀ (H1 : Heap) (locs1 : List Loc), va_P D cl wt H1 → va_D A wt → va_S A H0 H1 locs1 → W p l e R s m args below meth c H1 locs1 cells slots Q (F0 m (pc + 3) ls (rv.toList ++ rest))) : W p l e R s m args below meth c H locs cells slots Q (F0 m pc ls st0) := by
  refine cx2_run (aa := As.toArray) (wc := wc) (w1 := w1) (rest := rest) ?_ hS (va_free hD hS hA is hC) (fun H1 hk hP1 => cx2_back hP hD is isR nw hC hw h1 h2 h3 hnw hcov hk hP1) kk
  exact va_runS (g := F0 m pc ls st0) S (hM H.size) cw ⟨cx_blind, fun U hU hW => ⟨rfl, by rw [hU], by rw [hU]; exact cx_P hP hC, va_K.moved hW.alike hK, cx_D hD hnd hC, cx_W.warm hW hN⟩⟩ rfl hn hsize hst (lv_room hW) hdg hf
/-- the callee's world is the caller's -/
theorem cx3_callV (wt : va_W) (S : CallFix p m c cc nL s args Ts own) (hM : cx_M l y wy rm D cl tys (.ref b :: As) ws wt rv) (cw : CallW R s args own C index y bytes maxL ret wy rm 0 0 n) (hsize : ls.size = nL) (hP : va_P D cl ws H) (hD : va_D A ws) (hS : va_S A H0 H locs) (hA : ∀ q, H0.size ≤ q → A q) (hK : va_K D cl tys s) (hN : cx_W s)
    (q0 ci : Nat) {q : vw_C} {fs : List Value} (hc : cl[ci]? = some q) (he : ws[q0]? = some (b, .inr (ci, fs))) (hq : q.1 = C) (ha : wt.map Prod.fst = ws.map Prod.fst)
    (hn : As.length = n) (hst : st0 = As.reverse ++ .ref b :: rest) (hW : (rest.map fun v => v.category).sum ≤ 8) (hdg : decode cc pc = .ok (.invokevirtual index, 3)) (hf : cells ≤ R.cells ∧ slots ≤ R.slots)
    (kk : ∀ (H1 : Heap) (locs1 : List Loc), va_P D cl wt H1 → va_D A wt → va_S A H0 H1 locs1 → W p l e R s m args below meth c H1 locs1 cells slots Q (F0 m (pc + 3) ls (rv.toList ++ rest))) : W p l e R s m args below meth c H locs cells slots Q (F0 m pc ls st0) := by
  subst hq
  refine cx2_run (aa := (Value.ref b :: As).toArray) (wc := ws) (w1 := wt) (rest := rest) ?_ hS (cx3_free hD hS hA) (fun H1 _ hP1 => cx3_back hD ha hP1) kk
  exact va_runV (g := F0 m pc ls st0) S (hM H.size) cw ⟨cx_blind, va_recv hK hP hc he, fun U hU hW => ⟨rfl, by rw [hU], by rw [hU]; exact hP, va_K.moved hW.alike hK, hD.weaken (fun _ _ _ _ => trivial), cx_W.warm hW hN⟩⟩ rfl hn hsize hst (lv_room hW) hdg hf
end CXC2
theorem adSR (tC : Nat → ClassId) (ad : Nat → Nat → Nat) (x y : SRt) : (wSR tC ad x).map Prod.fst = (wSR tC ad y).map Prod.fst := rfl
theorem adLA (tC : Nat → ClassId) (a : Nat → Nat) (x y : LAt) : (wLA tC a x).map Prod.fst = (wLA tC a y).map Prod.fst := rfl
theorem adFB (tC : Nat → ClassId) (a : Nat → Nat) (x y : FBt) : (wFB tC a x).map Prod.fst = (wFB tC a y).map Prod.fst := rfl
theorem adRS (tC : Nat → ClassId) (a : Nat → Nat) (x y : RSt) : (wRS tC a x).map Prod.fst = (wRS tC a y).map Prod.fst := rfl
theorem adSS (tC : Nat → ClassId) (a : Nat → Nat) (x y : SSt) : (wSS tC a x).map Prod.fst = (wSS tC a y).map Prod.fst := rfl
theorem adNU (tC : Nat → ClassId) (a : Nat → Nat) (x y : NUt) : (wNU tC a x).map Prod.fst = (wNU tC a y).map Prod.fst := rfl
theorem adFS (tC : Nat → ClassId) (a : Nat → Nat) (x y : FSt) : (wFS tC a x).map Prod.fst = (wFS tC a y).map Prod.fst := rfl
theorem adCO (tC : Nat → ClassId) (a : Nat → Nat) (x y : COt) : (wCO tC a x).map Prod.fst = (wCO tC a y).map Prod.fst := rfl
theorem adMO (tC : Nat → ClassId) (a : Nat → Nat) (x y : MOt) : (wMO tC a x).map Prod.fst = (wMO tC a y).map Prod.fst := rfl
