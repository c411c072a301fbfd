theorem mw_13 : (Jvm.Cond.initialized "java/lang/ArithmeticException") ∈ ww := ww_mem (List.mem_append_right _ (List.mem_append_left _ (List.mem_of_getElem? (i := 13) rfl))) rfl
theorem mw_490 : (Jvm.Cond.classLink "SpanRules" (128 : Nat) "java/lang/ArithmeticException") ∈ ww := ww_mem (List.mem_append_right _ (List.mem_append_right _ (List.mem_append_right _ (List.mem_append_left _ (List.mem_of_getElem? (i := 10) rfl))))) rfl
theorem mw_491 : (Jvm.Cond.instantiable "java/lang/ArithmeticException" (6 : Nat)) ∈ ww := ww_mem (List.mem_append_right _ (List.mem_append_right _ (List.mem_append_right _ (List.mem_append_left _ (List.mem_of_getElem? (i := 11) rfl))))) rfl
def arithN : String := "java/lang/ArithmeticException"
def arithUp : List String := ["java/lang/RuntimeException", "java/lang/Exception"]
def ownL : List Cond := Bundle.ownAtoms "SpanRules" 132 arithN arithUp
/-- what the throw asks of a state -/
def OWN (U : State) : Prop := (∀ w ∈ ownL, w.before #[] U = true) ∧ ∃ q : Nat, vk_R "SpanRules" 130 "this value is forbidden" q U
def own_t : Cond → Bool
  | .declares _ => true
  | .castable .. => true
  | c => c.onTables && c.keeps
def own_ok : Cond → Bool
  | .laysStatic .. => true
  | .isRef (.static O f d) => ownL.contains (.laysStatic O f d)
  | c => own_t c
theorem own_all : ownL.all own_ok = true := by decide +kernel
theorem own_lay {s U : State} {a a' : Array Value} (hW : s.WarmedH U.vm) (hh : ∀ (q : Nat) (cell : Cell), s.heap[q]? = some cell → cell.vm.isStatics = true → U.heap[q]? = some cell) {O f d : String} (h : (Cond.laysStatic O f d).before a s = true) : (Cond.laysStatic O f d).before a' U = true := by
  obtain ⟨c, k, i, fd, q, cell, hc, hf, hst, hsta, hcell, hiss, hcls, hlt, hty⟩ := Cond.laysStatic_spec h
  obtain ⟨k', hi', he⟩ := State.fieldFound?_setVm hW.alike hf
  have hi' : U.fieldFound? O f d = some (c, k', i, fd) := hi'
  have h1 : k'.statics = some q := by rw [he]; exact hsta
  have h2 : k'.staticTypes[fd.slot]? = some fd.type := by rw [he]; exact hty
  have h3 : U.vm.findClass O = some c := by rw [hW.alike.findClass]; exact hc
  simp [Cond.before, Cond.holds, Cond.value, h3, hi', hst, h1, hh q cell hcell hiss, hiss, hcls, hlt, h2]
theorem own_ref {s U : State} {a a' : Array Value} (hW : s.WarmedH U.vm) (hh : ∀ (q : Nat) (cell : Cell), s.heap[q]? = some cell → cell.vm.isStatics = true → U.heap[q]? = some cell) {O f d : String} (hl : (Cond.laysStatic O f d).before a s = true) (h : (Cond.isRef (.static O f d)).before a s = true) : (Cond.isRef (.static O f d)).before a' U = true := by
  obtain ⟨c, k, i, fd, q, cell, hc, hf, hst, hsta, hcell, hiss, hcls, hlt, hty⟩ := Cond.laysStatic_spec hl
  obtain ⟨k', hi', he⟩ := State.fieldFound?_setVm hW.alike hf
  have hi' : U.fieldFound? O f d = some (c, k', i, fd) := hi'
  have h1 : k'.statics = some q := by rw [he]; exact hsta
  have hv : cell.slots[fd.slot]? = some cell.slots[fd.slot] := Array.getElem?_eq_getElem hlt
  have e1 : (Term.static O f d).eval a s none [] s = some cell.slots[fd.slot] := by simp [Term.eval, State.fieldNamed?, hf, hst, hsta, hcell, hiss, hv]
  have e2 : (Term.static O f d).eval a' U none [] U = some cell.slots[fd.slot] := by simp [Term.eval, State.fieldNamed?, hi', hst, h1, hh q cell hcell hiss, hiss, hv]
  simp only [Cond.before, Cond.holds, Cond.value, e1] at h
  simp only [Cond.before, Cond.holds, Cond.value, e2]
  exact h
theorem own_tab {s U : State} {a a' : Array Value} (hW : s.WarmedH U.vm) {w : Cond} (ht : own_t w = true) (h : w.before a s = true) : w.before a' U = true := by
  have e : ∀ w : Cond, w.onTables = true → w.warmOk s → w.before a s = true → w.before a' U = true := by
    intro w h1 h2 h3
    have h4 := Cond.before_warmed (args := a) hW w h2 h3
    rw [Cond.onTables_vm (A' := a') (U' := U) U.vm w h1] at h4
    exact h4
  have e2 : ∀ w : Cond, (w.onTables && w.keeps) = true → w.before a s = true → w.before a' U = true := by
    intro w hw h
    rw [Bool.and_eq_true] at hw
    exact Cond.onTables_warm (T := U) hW hw.1 hw.2 h
  cases w <;> first | exact e _ rfl trivial h | exact e2 _ ht h
theorem OWN.move {s U : State} (h : OWN s) (hW : s.WarmedH U.vm) (hh : ∀ (q : Nat) (cell : Cell), s.heap[q]? = some cell → cell.vm.isStatics = true → U.heap[q]? = some cell) : OWN U := by
  obtain ⟨h1, q, hq⟩ := h
  refine ⟨fun w hw => ?_, q, vk_R.warm hW hq⟩
  have hok := List.all_eq_true.mp own_all w hw
  cases w with
  | laysStatic O f d => exact own_lay hW hh (h1 _ hw)
  | isRef t =>
    cases t with
    | static O f d => exact own_ref hW hh (h1 _ (by simp only [own_ok] at hok; exact List.contains_iff_mem.mp hok)) (h1 _ hw)
    | _ => exact own_tab hW hok (h1 _ hw)
  | _ => exact own_tab hW hok (h1 _ hw)
/-- the words of the throw do not look at the arguments -/
theorem OWN.any {U : State} (h : OWN U) (a' : Array Value) : ∀ w ∈ ownL, w.before a' U = true := by
  intro w hw
  have hok := List.all_eq_true.mp own_all w hw
  have hW : U.WarmedH U.vm := State.WarmedH.refl U
  have hh : ∀ (q : Nat) (cell : Cell), U.heap[q]? = some cell → cell.vm.isStatics = true → U.heap[q]? = some cell := fun _ _ h _ => h
  cases w with
  | laysStatic O f d => exact own_lay hW hh (h.1 _ hw)
  | isRef t =>
    cases t with
    | static O f d => exact own_ref hW hh (h.1 _ (by simp only [own_ok] at hok; exact List.contains_iff_mem.mp hok)) (h.1 _ hw)
    | _ => exact own_tab hW hok (h.1 _ hw)
  | _ => exact own_tab hW hok (h.1 _ hw)
