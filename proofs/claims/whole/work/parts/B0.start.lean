/-! THE START OF THE LAW -/
theorem va_toN {w : Cond} (hw : w.onTables = true) {a : Array Value} {s : State} (h : w.before a s = true) : va_Nw w s := va_tabs hw rfl h
theorem tbl_mem {n : Nat} {w : Cond} (h : tables_1[n]? = some w) : w ∈ lw_tbl := List.mem_append_right _ (List.mem_of_getElem? h)
theorem cx_W.start {s : State} {a : Array Value} (hts : ∀ w ∈ lw_tbl, w.before a s = true) : cx_W s := ⟨va_toN rfl (hts _ (tbl_mem (n := 26) (by decide +kernel))), va_toN rfl (hts _ (tbl_mem (n := 131) (by decide +kernel))), va_toN rfl (hts _ (tbl_mem (n := 146) (by decide +kernel))), va_toN rfl (hts _ (tbl_mem (n := 168) (by decide +kernel))), va_toN rfl (hts _ (tbl_mem (n := 633) (by decide +kernel)))⟩
theorem own_src : ownL.all (fun w => tables_1.contains w || (flatC (Jvm.Cond.and given_1 narrow_1)).contains w) = true := by decide +kernel
theorem OWN.start {s : State} {a : Array Value} (hts : ∀ w ∈ lw_tbl, w.before a s = true) (hgv : (Jvm.Cond.and given_1 narrow_1).before a s = true) : OWN s := by
  have hfl := flat_of_before _ hgv
  have h1 : ∀ w ∈ ownL, w.before a s = true := by
    intro w hw
    have h9 := List.all_eq_true.mp own_src w hw
    rw [Bool.or_eq_true] at h9
    rcases h9 with h9 | h9
    · exact hts w (List.mem_append_right _ (List.contains_iff_mem.mp h9))
    · exact hfl w (List.contains_iff_mem.mp h9)
  refine ⟨fun w hw => ?_, ?_⟩
  · have hok := List.all_eq_true.mp own_all w hw
    have hW : s.WarmedH s.vm := State.WarmedH.refl s
    have hh : ∀ (q : Nat) (cell : Cell), s.heap[q]? = some cell → cell.vm.isStatics = true → s.heap[q]? = some cell := fun _ _ h _ => h
    cases w with
    | laysStatic O f d => exact own_lay hW hh (h1 _ hw)
    | isRef t =>
      cases t with
      | static O f d => exact own_ref hW hh (h1 _ (by simp only [own_ok] at hok; exact List.contains_iff_mem.mp hok)) (h1 _ hw)
      | _ => exact own_tab hW hok (h1 _ hw)
    | _ => exact own_tab hW hok (h1 _ hw)
  · have hr : (Cond.stringRef "SpanRules" 130 "this value is forbidden").before a s = true := hts _ (tbl_mem (n := 529) (by decide +kernel))
    have he : (Cond.exactly (.string "SpanRules" 130) "java/lang/String").before a s = true := hfl _ (by decide +kernel)
    obtain ⟨q, -, -, -, hq, -⟩ := Cond.exactly_spec (args := a) (first := s) (o := none) (s := s) (idx := []) he
    exact ⟨q, vk_R.of hr hq⟩
theorem tyW {s : State} {a : Array Value} {ty : FieldType} (h : (Cond.arrayClass ty).before a s = true) (hn : ∀ C, ty ≠ .object C) : ∃ cA, ArrOfT s cA ty ∧ va_RA s cA ty := by
  obtain ⟨cA, kA, comp, h1, h2, h3⟩ := Cond.arrayClass_spec h
  refine ⟨cA, fun n z => ⟨fun k h => (by cases h), kA, h2, comp, h3⟩, ?_⟩
  cases ty with
  | object C => exact absurd rfl (hn C)
  | _ => exact h1
theorem K_start {s : State} {a : Array Value} {cd : Cond} (hts : ∀ w ∈ cd :: ww, w.before a s = true) : ∃ (dC : Nat → ClassId) (dI : Nat → Nat → Nat) (tC : Nat → ClassId), va_K (dC, dI) classes (tyS tC) s := by
  obtain ⟨t0, h0, r0⟩ := tyW (hts _ (List.mem_cons_of_mem _ mw_38)) (fun C h => by cases h)
  obtain ⟨t1, h1, r1⟩ := tyW (hts _ (List.mem_cons_of_mem _ mw_37)) (fun C h => by cases h)
  obtain ⟨t2, h2, r2⟩ := tyW (hts _ (List.mem_cons_of_mem _ mw_74)) (fun C h => by cases h)
  obtain ⟨c0, i0, k0⟩ := u_known (C := R_SR) (T := F_SR) (N := 14) (n := 14) hts (in_SR _) (hts _ (List.mem_cons_of_mem _ mw_17))
  obtain ⟨c1, i1, k1⟩ := u_known (C := R_LA) (T := F_LA) (N := 8) (n := 8) hts (in_LA _) (hts _ (List.mem_cons_of_mem _ mw_194))
  obtain ⟨c2, i2, k2⟩ := u_known (C := R_FB) (T := F_FB) (N := 2) (n := 2) hts (in_FB _) (hts _ (List.mem_cons_of_mem _ mw_25))
  obtain ⟨c3, i3, k3⟩ := u_known (C := R_RS) (T := F_RS) (N := 7) (n := 7) hts (in_RS _) (hts _ (List.mem_cons_of_mem _ mw_40))
  obtain ⟨c4, i4, k4⟩ := u_known (C := R_SS) (T := F_SS) (N := 12) (n := 12) hts (in_SS _) (hts _ (List.mem_cons_of_mem _ mw_76))
  obtain ⟨c5, i5, k5⟩ := u_known (C := R_NU) (T := F_NU) (N := 2) (n := 2) hts (in_NU _) (hts _ (List.mem_cons_of_mem _ mw_130))
  obtain ⟨c6, i6, k6⟩ := u_known (C := R_FS) (T := F_FS) (N := 4) (n := 4) hts (in_FS _) (hts _ (List.mem_cons_of_mem _ mw_145))
  obtain ⟨c7, i7, k7⟩ := u_known (C := R_CO) (T := F_CO) (N := 5) (n := 5) hts (in_CO _) (hts _ (List.mem_cons_of_mem _ mw_167))
  obtain ⟨c8, i8, k8⟩ := u_known (C := R_MO) (T := F_MO) (N := 42) (n := 42) hts (in_MO _) (hts _ (List.mem_cons_of_mem _ mw_681))
  refine ⟨fun k => if k = 0 then c0 else if k = 1 then c1 else if k = 2 then c2 else if k = 3 then c3 else if k = 4 then c4 else if k = 5 then c5 else if k = 6 then c6 else if k = 7 then c7 else c8, fun k => if k = 0 then i0 else if k = 1 then i1 else if k = 2 then i2 else if k = 3 then i3 else if k = 4 then i4 else if k = 5 then i5 else if k = 6 then i6 else if k = 7 then i7 else i8, fun k => if k = 0 then t0 else if k = 1 then t1 else t2, ?_, ?_⟩
  · intro k q hq
    match k, hq with
    | 0, hq => cases hq; exact k0
    | 1, hq => cases hq; exact k1
    | 2, hq => cases hq; exact k2
    | 3, hq => cases hq; exact k3
    | 4, hq => cases hq; exact k4
    | 5, hq => cases hq; exact k5
    | 6, hq => cases hq; exact k6
    | 7, hq => cases hq; exact k7
    | 8, hq => cases hq; exact k8
    | k + 9, hq => simp [classes] at hq
  · intro k q hq
    match k, hq with
    | 0, hq => cases hq; exact ⟨h0, r0⟩
    | 1, hq => cases hq; exact ⟨h1, r1⟩
    | 2, hq => cases hq; exact ⟨h2, r2⟩
    | k + 3, hq => simp at hq
