theorem mw_5 : (Jvm.Cond.initialized "SpanRules$Numbering") ∈ ww := ww_mem (List.mem_append_right _ (List.mem_append_left _ (List.mem_of_getElem? (i := 5) rfl))) rfl
theorem mw_21 : (Jvm.Cond.methodLink "SpanRules" (1 : Nat) ({ cls := "java/lang/Object", name := "<init>", desc := "()V" } : Jvm.MethodName)) ∈ ww := ww_mem (List.mem_append_right _ (List.mem_append_left _ (List.mem_of_getElem? (i := 21) rfl))) rfl
theorem mw_24 : (Jvm.Cond.classLink "SpanRules" (7 : Nat) "SpanRules$Forbidden") ∈ ww := ww_mem (List.mem_append_right _ (List.mem_append_left _ (List.mem_of_getElem? (i := 24) rfl))) rfl
theorem mw_25 : (Jvm.Cond.instantiable "SpanRules$Forbidden" (2 : Nat)) ∈ ww := ww_mem (List.mem_append_right _ (List.mem_append_left _ (List.mem_of_getElem? (i := 25) rfl))) rfl
theorem mw_27 : (Jvm.Cond.instanceMethod ({ cls := "SpanRules$Forbidden", name := "<init>", desc := "()V" } : Jvm.MethodName)) ∈ ww := ww_mem (List.mem_append_right _ (List.mem_append_left _ (List.mem_of_getElem? (i := 27) rfl))) rfl
theorem mw_28 : (Jvm.Cond.code ({ cls := "SpanRules$Forbidden", name := "<init>", desc := "()V" } : Jvm.MethodName) prog_5_method_1_code (1 : Nat) (Option.none : Option Jvm.ClassFile.FieldType)) ∈ ww := ww_mem (List.mem_append_right _ (List.mem_append_left _ (List.mem_of_getElem? (i := 28) rfl))) rfl
theorem mw_39 : (Jvm.Cond.classLink "SpanRules" (16 : Nat) "SpanRules$RowStore") ∈ ww := ww_mem (List.mem_append_right _ (List.mem_append_left _ (List.mem_of_getElem? (i := 39) rfl))) rfl
theorem mw_40 : (Jvm.Cond.instantiable "SpanRules$RowStore" (7 : Nat)) ∈ ww := ww_mem (List.mem_append_right _ (List.mem_append_left _ (List.mem_of_getElem? (i := 40) rfl))) rfl
theorem mw_41 : (Jvm.Cond.methodLink "SpanRules" (18 : Nat) ({ cls := "SpanRules$RowStore", name := "<init>", desc := "()V" } : Jvm.MethodName)) ∈ ww := ww_mem (List.mem_append_right _ (List.mem_append_left _ (List.mem_of_getElem? (i := 41) rfl))) rfl
theorem mw_42 : (Jvm.Cond.instanceMethod ({ cls := "SpanRules$RowStore", name := "<init>", desc := "()V" } : Jvm.MethodName)) ∈ ww := ww_mem (List.mem_append_right _ (List.mem_append_left _ (List.mem_of_getElem? (i := 42) rfl))) rfl
theorem mw_43 : (Jvm.Cond.code ({ cls := "SpanRules$RowStore", name := "<init>", desc := "()V" } : Jvm.MethodName) prog_8_method_1_code (2 : Nat) (Option.none : Option Jvm.ClassFile.FieldType)) ∈ ww := ww_mem (List.mem_append_right _ (List.mem_append_left _ (List.mem_of_getElem? (i := 43) rfl))) rfl
theorem mw_75 : (Jvm.Cond.classLink "SpanRules" (23 : Nat) "SpanRules$SpanStore") ∈ ww := ww_mem (List.mem_append_right _ (List.mem_append_left _ (List.mem_of_getElem? (i := 75) rfl))) rfl
theorem mw_76 : (Jvm.Cond.instantiable "SpanRules$SpanStore" (12 : Nat)) ∈ ww := ww_mem (List.mem_append_right _ (List.mem_append_left _ (List.mem_of_getElem? (i := 76) rfl))) rfl
theorem mw_77 : (Jvm.Cond.methodLink "SpanRules" (25 : Nat) ({ cls := "SpanRules$SpanStore", name := "<init>", desc := "()V" } : Jvm.MethodName)) ∈ ww := ww_mem (List.mem_append_right _ (List.mem_append_left _ (List.mem_of_getElem? (i := 77) rfl))) rfl
theorem mw_78 : (Jvm.Cond.instanceMethod ({ cls := "SpanRules$SpanStore", name := "<init>", desc := "()V" } : Jvm.MethodName)) ∈ ww := ww_mem (List.mem_append_right _ (List.mem_append_left _ (List.mem_of_getElem? (i := 78) rfl))) rfl
theorem mw_79 : (Jvm.Cond.code ({ cls := "SpanRules$SpanStore", name := "<init>", desc := "()V" } : Jvm.MethodName) prog_9_method_1_code (2 : Nat) (Option.none : Option Jvm.ClassFile.FieldType)) ∈ ww := ww_mem (List.mem_append_right _ (List.mem_append_left _ (List.mem_of_getElem? (i := 79) rfl))) rfl
theorem mw_129 : (Jvm.Cond.classLink "SpanRules" (30 : Nat) "SpanRules$Numbering") ∈ ww := ww_mem (List.mem_append_right _ (List.mem_append_left _ (List.mem_of_getElem? (i := 129) rfl))) rfl
theorem mw_130 : (Jvm.Cond.instantiable "SpanRules$Numbering" (2 : Nat)) ∈ ww := ww_mem (List.mem_append_right _ (List.mem_append_left _ (List.mem_of_getElem? (i := 130) rfl))) rfl
theorem mw_132 : (Jvm.Cond.instanceMethod ({ cls := "SpanRules$Numbering", name := "<init>", desc := "()V" } : Jvm.MethodName)) ∈ ww := ww_mem (List.mem_append_right _ (List.mem_append_left _ (List.mem_of_getElem? (i := 132) rfl))) rfl
theorem mw_133 : (Jvm.Cond.code ({ cls := "SpanRules$Numbering", name := "<init>", desc := "()V" } : Jvm.MethodName) prog_7_method_1_code (1 : Nat) (Option.none : Option Jvm.ClassFile.FieldType)) ∈ ww := ww_mem (List.mem_append_right _ (List.mem_append_left _ (List.mem_of_getElem? (i := 133) rfl))) rfl
theorem mw_144 : (Jvm.Cond.classLink "SpanRules" (37 : Nat) "SpanRules$FiringStore") ∈ ww := ww_mem (List.mem_append_right _ (List.mem_append_left _ (List.mem_of_getElem? (i := 144) rfl))) rfl
theorem mw_145 : (Jvm.Cond.instantiable "SpanRules$FiringStore" (4 : Nat)) ∈ ww := ww_mem (List.mem_append_right _ (List.mem_append_left _ (List.mem_of_getElem? (i := 145) rfl))) rfl
theorem mw_147 : (Jvm.Cond.instanceMethod ({ cls := "SpanRules$FiringStore", name := "<init>", desc := "()V" } : Jvm.MethodName)) ∈ ww := ww_mem (List.mem_append_right _ (List.mem_append_left _ (List.mem_of_getElem? (i := 147) rfl))) rfl
theorem mw_148 : (Jvm.Cond.code ({ cls := "SpanRules$FiringStore", name := "<init>", desc := "()V" } : Jvm.MethodName) prog_4_method_1_code (1 : Nat) (Option.none : Option Jvm.ClassFile.FieldType)) ∈ ww := ww_mem (List.mem_append_right _ (List.mem_append_left _ (List.mem_of_getElem? (i := 148) rfl))) rfl
theorem mw_166 : (Jvm.Cond.classLink "SpanRules" (44 : Nat) "SpanRules$Contents") ∈ ww := ww_mem (List.mem_append_right _ (List.mem_append_left _ (List.mem_of_getElem? (i := 166) rfl))) rfl
theorem mw_167 : (Jvm.Cond.instantiable "SpanRules$Contents" (5 : Nat)) ∈ ww := ww_mem (List.mem_append_right _ (List.mem_append_left _ (List.mem_of_getElem? (i := 167) rfl))) rfl
theorem mw_169 : (Jvm.Cond.instanceMethod ({ cls := "SpanRules$Contents", name := "<init>", desc := "()V" } : Jvm.MethodName)) ∈ ww := ww_mem (List.mem_append_right _ (List.mem_append_left _ (List.mem_of_getElem? (i := 169) rfl))) rfl
theorem mw_170 : (Jvm.Cond.code ({ cls := "SpanRules$Contents", name := "<init>", desc := "()V" } : Jvm.MethodName) prog_3_method_1_code (1 : Nat) (Option.none : Option Jvm.ClassFile.FieldType)) ∈ ww := ww_mem (List.mem_append_right _ (List.mem_append_left _ (List.mem_of_getElem? (i := 170) rfl))) rfl
theorem mw_189 : (Jvm.Cond.methodLink "SpanRules" (77 : Nat) ({ cls := "SpanRules", name := "nearest", desc := "(III)I" } : Jvm.MethodName)) ∈ ww := ww_mem (List.mem_append_right _ (List.mem_append_left _ (List.mem_of_getElem? (i := 189) rfl))) rfl
theorem mw_190 : (Jvm.Cond.static ({ cls := "SpanRules", name := "nearest", desc := "(III)I" } : Jvm.MethodName)) ∈ ww := ww_mem (List.mem_append_right _ (List.mem_append_left _ (List.mem_of_getElem? (i := 190) rfl))) rfl
theorem mw_191 : (Jvm.Cond.code ({ cls := "SpanRules", name := "nearest", desc := "(III)I" } : Jvm.MethodName) prog_1_method_15_code (3 : Nat) (Option.some Jvm.ClassFile.FieldType.int)) ∈ ww := ww_mem (List.mem_append_right _ (List.mem_append_left _ (List.mem_of_getElem? (i := 191) rfl))) rfl
theorem mw_192 : (Jvm.Cond.constant "SpanRules" (81 : Nat) (65536 : Int32)) ∈ ww := ww_mem (List.mem_append_right _ (List.mem_append_left _ (List.mem_of_getElem? (i := 192) rfl))) rfl
theorem mw_193 : (Jvm.Cond.classLink "SpanRules" (82 : Nat) "SpanRules$Layout") ∈ ww := ww_mem (List.mem_append_right _ (List.mem_append_left _ (List.mem_of_getElem? (i := 193) rfl))) rfl
theorem mw_194 : (Jvm.Cond.instantiable "SpanRules$Layout" (8 : Nat)) ∈ ww := ww_mem (List.mem_append_right _ (List.mem_append_left _ (List.mem_of_getElem? (i := 194) rfl))) rfl
theorem mw_195 : (Jvm.Cond.methodLink "SpanRules" (84 : Nat) ({ cls := "SpanRules$Layout", name := "<init>", desc := "(III)V" } : Jvm.MethodName)) ∈ ww := ww_mem (List.mem_append_right _ (List.mem_append_left _ (List.mem_of_getElem? (i := 195) rfl))) rfl
theorem mw_196 : (Jvm.Cond.instanceMethod ({ cls := "SpanRules$Layout", name := "<init>", desc := "(III)V" } : Jvm.MethodName)) ∈ ww := ww_mem (List.mem_append_right _ (List.mem_append_left _ (List.mem_of_getElem? (i := 196) rfl))) rfl
theorem mw_197 : (Jvm.Cond.code ({ cls := "SpanRules$Layout", name := "<init>", desc := "(III)V" } : Jvm.MethodName) prog_6_method_1_code (4 : Nat) (Option.none : Option Jvm.ClassFile.FieldType)) ∈ ww := ww_mem (List.mem_append_right _ (List.mem_append_left _ (List.mem_of_getElem? (i := 197) rfl))) rfl
abbrev b_SR_init : ByteArray := prog_1_method_1_code
def y_SR_init : MethodName := ⟨R_SR, "<init>", "(III)V"⟩
def w_SR_init : List Cond := .code y_SR_init b_SR_init 7 (none) :: ww
theorem k_SR_77 {R : Room} {s : State} {args : Array Value} {cd : Cond} (hts : ∀ w ∈ cd :: ww, w.before args s = true) (hR : 0 + 1 ≤ R.frames ∧ 8 + (3 + 11) + 0 ≤ R.locals) : CallB R s args R_SR 77 y_SR_nearest b_SR_nearest 3 (some .int) w_SR_nearest { frames := 0, cells := 0, slots := 0, locals := 0 } 0 0 3 ∧ (Cond.static y_SR_nearest).before args s = true := va_cwS 3 hts (gi_S mw_189 mw_190 mw_1 mw_191) rfl rfl rfl (by decide +kernel) hR
theorem d_SR_init_0 : decode b_SR_init 0 = .ok (.aload_n 0, 1) := by decide +kernel
theorem d_SR_init_1 : decode b_SR_init 1 = .ok (.invokespecial 1, 3) := by decide +kernel
theorem d_SR_init_4 : decode b_SR_init 4 = .ok (.aload_n 0, 1) := by decide +kernel
theorem d_SR_init_5 : decode b_SR_init 5 = .ok (.new 7, 3) := by decide +kernel
theorem d_SR_init_8 : decode b_SR_init 8 = .ok (.dup, 1) := by decide +kernel
theorem d_SR_init_9 : decode b_SR_init 9 = .ok (.invokespecial 9, 3) := by decide +kernel
theorem d_SR_init_12 : decode b_SR_init 12 = .ok (.putfield 10, 3) := by decide +kernel
theorem d_SR_init_15 : decode b_SR_init 15 = .ok (.aload_n 0, 1) := by decide +kernel
theorem d_SR_init_16 : decode b_SR_init 16 = .ok (.new 16, 3) := by decide +kernel
theorem d_SR_init_19 : decode b_SR_init 19 = .ok (.dup, 1) := by decide +kernel
theorem d_SR_init_20 : decode b_SR_init 20 = .ok (.invokespecial 18, 3) := by decide +kernel
theorem d_SR_init_23 : decode b_SR_init 23 = .ok (.putfield 19, 3) := by decide +kernel
theorem d_SR_init_26 : decode b_SR_init 26 = .ok (.aload_n 0, 1) := by decide +kernel
theorem d_SR_init_27 : decode b_SR_init 27 = .ok (.new 23, 3) := by decide +kernel
theorem d_SR_init_30 : decode b_SR_init 30 = .ok (.dup, 1) := by decide +kernel
theorem d_SR_init_31 : decode b_SR_init 31 = .ok (.invokespecial 25, 3) := by decide +kernel
theorem d_SR_init_34 : decode b_SR_init 34 = .ok (.putfield 26, 3) := by decide +kernel
theorem d_SR_init_37 : decode b_SR_init 37 = .ok (.aload_n 0, 1) := by decide +kernel
theorem d_SR_init_38 : decode b_SR_init 38 = .ok (.new 30, 3) := by decide +kernel
theorem d_SR_init_41 : decode b_SR_init 41 = .ok (.dup, 1) := by decide +kernel
theorem d_SR_init_42 : decode b_SR_init 42 = .ok (.invokespecial 32, 3) := by decide +kernel
theorem d_SR_init_45 : decode b_SR_init 45 = .ok (.putfield 33, 3) := by decide +kernel
theorem d_SR_init_48 : decode b_SR_init 48 = .ok (.aload_n 0, 1) := by decide +kernel
theorem d_SR_init_49 : decode b_SR_init 49 = .ok (.new 37, 3) := by decide +kernel
theorem d_SR_init_52 : decode b_SR_init 52 = .ok (.dup, 1) := by decide +kernel
theorem d_SR_init_53 : decode b_SR_init 53 = .ok (.invokespecial 39, 3) := by decide +kernel
theorem d_SR_init_56 : decode b_SR_init 56 = .ok (.putfield 40, 3) := by decide +kernel
theorem d_SR_init_59 : decode b_SR_init 59 = .ok (.aload_n 0, 1) := by decide +kernel
theorem d_SR_init_60 : decode b_SR_init 60 = .ok (.new 44, 3) := by decide +kernel
theorem d_SR_init_63 : decode b_SR_init 63 = .ok (.dup, 1) := by decide +kernel
theorem d_SR_init_64 : decode b_SR_init 64 = .ok (.invokespecial 46, 3) := by decide +kernel
theorem d_SR_init_67 : decode b_SR_init 67 = .ok (.putfield 47, 3) := by decide +kernel
theorem d_SR_init_70 : decode b_SR_init 70 = .ok (.aload_n 0, 1) := by decide +kernel
theorem d_SR_init_71 : decode b_SR_init 71 = .ok (.lconst 0, 1) := by decide +kernel
theorem d_SR_init_72 : decode b_SR_init 72 = .ok (.putfield 51, 3) := by decide +kernel
theorem d_SR_init_75 : decode b_SR_init 75 = .ok (.aload_n 0, 1) := by decide +kernel
theorem d_SR_init_76 : decode b_SR_init 76 = .ok (.ldc2_w 55, 3) := by decide +kernel
theorem d_SR_init_79 : decode b_SR_init 79 = .ok (.putfield 57, 3) := by decide +kernel
theorem d_SR_init_82 : decode b_SR_init 82 = .ok (.aload_n 0, 1) := by decide +kernel
theorem d_SR_init_83 : decode b_SR_init 83 = .ok (.iconst 0, 1) := by decide +kernel
theorem d_SR_init_84 : decode b_SR_init 84 = .ok (.putfield 60, 3) := by decide +kernel
theorem d_SR_init_87 : decode b_SR_init 87 = .ok (.aload_n 0, 1) := by decide +kernel
theorem d_SR_init_88 : decode b_SR_init 88 = .ok (.iconst 1, 1) := by decide +kernel
theorem d_SR_init_89 : decode b_SR_init 89 = .ok (.putfield 64, 3) := by decide +kernel
theorem d_SR_init_92 : decode b_SR_init 92 = .ok (.aload_n 0, 1) := by decide +kernel
theorem d_SR_init_93 : decode b_SR_init 93 = .ok (.iconst 0, 1) := by decide +kernel
theorem d_SR_init_94 : decode b_SR_init 94 = .ok (.putfield 68, 3) := by decide +kernel
theorem d_SR_init_97 : decode b_SR_init 97 = .ok (.aload_n 0, 1) := by decide +kernel
theorem d_SR_init_98 : decode b_SR_init 98 = .ok (.iconst 0, 1) := by decide +kernel
theorem d_SR_init_99 : decode b_SR_init 99 = .ok (.putfield 71, 3) := by decide +kernel
theorem d_SR_init_102 : decode b_SR_init 102 = .ok (.aload_n 0, 1) := by decide +kernel
theorem d_SR_init_103 : decode b_SR_init 103 = .ok (.iconst 0, 1) := by decide +kernel
theorem d_SR_init_104 : decode b_SR_init 104 = .ok (.putfield 74, 3) := by decide +kernel
theorem d_SR_init_107 : decode b_SR_init 107 = .ok (.iload_n 1, 1) := by decide +kernel
theorem d_SR_init_108 : decode b_SR_init 108 = .ok (.iconst 0, 1) := by decide +kernel
theorem d_SR_init_109 : decode b_SR_init 109 = .ok (.iconst 5, 1) := by decide +kernel
theorem d_SR_init_110 : decode b_SR_init 110 = .ok (.invokestatic 77, 3) := by decide +kernel
theorem d_SR_init_113 : decode b_SR_init 113 = .ok (.istore 4, 2) := by decide +kernel
theorem d_SR_init_115 : decode b_SR_init 115 = .ok (.iload_n 2, 1) := by decide +kernel
theorem d_SR_init_116 : decode b_SR_init 116 = .ok (.iconst 1, 1) := by decide +kernel
theorem d_SR_init_117 : decode b_SR_init 117 = .ok (.iload 4, 2) := by decide +kernel
theorem d_SR_init_119 : decode b_SR_init 119 = .ok (.iconst 4, 1) := by decide +kernel
theorem d_SR_init_120 : decode b_SR_init 120 = .ok (.if_icmp .ne 8, 3) := by decide +kernel
theorem d_SR_init_123 : decode b_SR_init 123 = .ok (.bipush 12, 2) := by decide +kernel
theorem d_SR_init_125 : decode b_SR_init 125 = .ok (.goto 5, 3) := by decide +kernel
theorem d_SR_init_128 : decode b_SR_init 128 = .ok (.ldc 81, 2) := by decide +kernel
theorem d_SR_init_130 : decode b_SR_init 130 = .ok (.invokestatic 77, 3) := by decide +kernel
theorem d_SR_init_133 : decode b_SR_init 133 = .ok (.istore 5, 2) := by decide +kernel
theorem d_SR_init_135 : decode b_SR_init 135 = .ok (.iload 4, 2) := by decide +kernel
theorem d_SR_init_137 : decode b_SR_init 137 = .ok (.iconst 1, 1) := by decide +kernel
theorem d_SR_init_138 : decode b_SR_init 138 = .ok (.if_icmp .ne 16, 3) := by decide +kernel
theorem d_SR_init_141 : decode b_SR_init 141 = .ok (.iload 5, 2) := by decide +kernel
theorem d_SR_init_143 : decode b_SR_init 143 = .ok (.bipush 16, 2) := by decide +kernel
theorem d_SR_init_145 : decode b_SR_init 145 = .ok (.iadd, 1) := by decide +kernel
theorem d_SR_init_146 : decode b_SR_init 146 = .ok (.iconst 1, 1) := by decide +kernel
theorem d_SR_init_147 : decode b_SR_init 147 = .ok (.isub, 1) := by decide +kernel
theorem d_SR_init_148 : decode b_SR_init 148 = .ok (.bipush 16, 2) := by decide +kernel
theorem d_SR_init_150 : decode b_SR_init 150 = .ok (.idiv, 1) := by decide +kernel
theorem d_SR_init_151 : decode b_SR_init 151 = .ok (.goto 4, 3) := by decide +kernel
theorem d_SR_init_154 : decode b_SR_init 154 = .ok (.iconst 1, 1) := by decide +kernel
theorem d_SR_init_155 : decode b_SR_init 155 = .ok (.istore 6, 2) := by decide +kernel
theorem d_SR_init_157 : decode b_SR_init 157 = .ok (.aload_n 0, 1) := by decide +kernel
theorem d_SR_init_158 : decode b_SR_init 158 = .ok (.new 82, 3) := by decide +kernel
theorem d_SR_init_161 : decode b_SR_init 161 = .ok (.dup, 1) := by decide +kernel
theorem d_SR_init_162 : decode b_SR_init 162 = .ok (.iload 4, 2) := by decide +kernel
theorem d_SR_init_164 : decode b_SR_init 164 = .ok (.iload 5, 2) := by decide +kernel
theorem d_SR_init_166 : decode b_SR_init 166 = .ok (.iload_n 3, 1) := by decide +kernel
theorem d_SR_init_167 : decode b_SR_init 167 = .ok (.iload 6, 2) := by decide +kernel
theorem d_SR_init_169 : decode b_SR_init 169 = .ok (.ldc 81, 2) := by decide +kernel
theorem d_SR_init_171 : decode b_SR_init 171 = .ok (.invokestatic 77, 3) := by decide +kernel
theorem d_SR_init_174 : decode b_SR_init 174 = .ok (.invokespecial 84, 3) := by decide +kernel
theorem d_SR_init_177 : decode b_SR_init 177 = .ok (.putfield 87, 3) := by decide +kernel
theorem d_SR_init_180 : decode b_SR_init 180 = .ok (.return_, 1) := by decide +kernel
/-- addresses of SpanRules and its parts, one function -/
def cxD (a : Nat → Nat) : Nat → Nat → Nat := fun j i => a (100 * j + i)
def cxE (h0 : Nat) (a1 a2 a3 a4 a5 a6 a7 : Nat → Nat) : Nat → Nat := fun n => match n / 100 with
  | 0 => h0
  | 1 => a1 (n % 100)
  | 2 => a2 (n % 100)
  | 3 => a3 (n % 100)
  | 4 => a4 (n % 100)
  | 5 => a5 (n % 100)
  | 6 => a6 (n % 100)
  | _ => a7 (n % 100)
def f_SR_init_B120 (v4 : Int32) : Int32 :=
  if v4 = 4 then (
    12
  ) else
  65536
def f_SR_init_B138 (v4 : Int32) (v5 : Int32) : Int32 :=
  if v4 = 1 then (
    (((v5 + 16) - 1) / 16)
  ) else
  1
def f_SR_init (k : Nat) (x1 : Int32) (x2 : Int32) (x3 : Int32) : Option (SRt × FBt × RSt × SSt × NUt × FSt × COt × LAt) :=
  gl_let (f_FB_init) fun fb =>
  (f_RS_init k).bind fun rs =>
  (f_SS_init k).bind fun ss =>
  gl_let (f_NU_init) fun nu =>
  gl_let (f_FS_init) fun fs =>
  gl_let (f_CO_init) fun co =>
  gl_let ((f_SR_nearest x1 0 5)) fun v4 =>
  gl_let (f_SR_init_B120 v4) fun t =>
  gl_let ((f_SR_nearest x2 1 t)) fun v5 =>
  gl_let (f_SR_init_B138 v4 v5) fun t_1 =>
  gl_let (f_LA_init v4 v5 (f_SR_nearest x3 t_1 65536)) fun la =>
  some (((((0, (-10000000000000)), (0, 1)), ((0, 0), 0)) : SRt), fb, rs, ss, nu, fs, co, la)
set_option maxHeartbeats 4000000 in
set_option maxRecDepth 100000 in
theorem c_SR_init (l : Launch) (dC : Nat → ClassId) (dI : Nat → Nat → Nat) (tC : Nat → ClassId) (h0 : Nat) (k : Nat) (x1 : Int32) (x2 : Int32) (x3 : Int32) (srR : SRt) (fbR : FBt) (rsR : RSt) (ssR : SSt) (nuR : NUt) (fsR : FSt) (coR : COt) (laR : LAt) (hf : f_SR_init k x1 x2 x3 = some (srR, fbR, rsR, ssR, nuR, fsR, coR, laR)) : cx_N l y_SR_init w_SR_init { frames := 2, cells := 31, slots := 9520, locals := 35 } (dC, dI) classes (tyS tC) [.ref h0, .int x1, .int x2, .int x3] h0 [(h0, .inr (0, [.null, .null, .null, .null, .null, .null, .null, .long 0, .long 0, .int 0, .int 0, .int 0, .int 0, .int 0]))] (fun a => wSR tC (cxD a) srR ++ wFB tC (cxD a 2) fbR ++ wRS tC (cxD a 3) rsR ++ wSS tC (cxD a 4) ssR ++ wNU tC (cxD a 5) nuR ++ wFS tC (cxD a 6) fsR ++ wCO tC (cxD a 7) coR ++ wLA tC (cxD a 1) laR) 31 9520 := by
  refine cx_ofN (cc := b_SR_init) (maxL := 7) (plainFor_of_name (by decide)) rfl (Nat.le_of_ble_eq_true rfl) ?_
  intro p e s m below meth c hx hb hr hml hown hts hlocks hin A hA H locs ls hK hN hP hD hS hl
  have hown : s.vm.findClass R_SR = some m.cls := hown
  have hin : meth.name = "<init>" := hin
  have hl : lv_has ls 7 [(0, .ref h0), (1, .int x1), (2, .int x2), (3, .int x3)] := hl
  unfold f_SR_init at hf
  refine lv_aload_n hx hb d_SR_init_0 rfl (lv_at hl 0 rfl) ?_
  refine W.objInit hx hb hown (hts _ (List.mem_cons_of_mem _ mw_21)) (hts _ (List.mem_cons_of_mem _ mw_22)) (hts _ (List.mem_cons_of_mem _ mw_23)) rfl (by rw [hml]; exact hl.1) rfl d_SR_init_1 (Nat.le_of_ble_eq_true rfl) (Nat.le_of_ble_eq_true rfl) ?_
  refine W.eq (g2 := F0 m 4 ls []) rfl ?_
  refine lv_aload_n hx hb d_SR_init_4 rfl (lv_at hl 0 rfl) ?_
  refine va_new (ci := 2) (fs := [.null, .null]) (C := R_FB) (T := F_FB) (N := 2) hx hb hts (in_FB _) t_FB t_FB_ok hown (hts _ (List.mem_cons_of_mem _ mw_24)) (hts _ (List.mem_cons_of_mem _ mw_25)) (hts _ (List.mem_cons_of_mem _ mw_2)) hK hP hD hS hA rfl (fun j hj => by rcases (show j = 0 ∨ j = 1 by omega) with rfl | rfl <;> rfl) (Nat.le_of_ble_eq_true rfl) (Nat.le_of_ble_eq_true rfl) d_SR_init_5 (fun q H hP hD hS => ?_)
  refine W.widen (k := 1) (n := 2) (Nat.le_of_ble_eq_true rfl) (Nat.le_of_ble_eq_true rfl) ?_
  have hP : va_P (dC, dI) classes ([(h0, .inr (0, [.null, .null, .null, .null, .null, .null, .null, .long 0, .long 0, .int 0, .int 0, .int 0, .int 0, .int 0]))] ++ [(q, .inr (2, [.null, .null]))]) H := hP
  have hD : va_D A ([(h0, .inr (0, [.null, .null, .null, .null, .null, .null, .null, .long 0, .long 0, .int 0, .int 0, .int 0, .int 0, .int 0]))] ++ [(q, .inr (2, [.null, .null]))]) := hD
  refine lv_dup hx hb d_SR_init_8 rfl ?_
  obtain ⟨fb, hc_fb⟩ : ∃ z : FBt, z = f_FB_init := ⟨_, rfl⟩
  have hf := g_let hf hc_fb
  refine cx_callIN (As := []) (rest := [.ref q, .ref h0]) ⟨hx, hb, hml, hown, hts⟩ (c_FB_init l dC dI tC q  fb hc_fb.symm) ⟨va_cnB 0 hts (gi_C mw_28) rfl rfl rfl hN.1 (hts _ (List.mem_cons_of_mem _ mw_2)) (by decide +kernel) ⟨Nat.le_of_ble_eq_true rfl, Nat.le_of_ble_eq_true rfl⟩, rfl, hts _ (List.mem_cons_of_mem _ mw_27)⟩ hl.1 hP hD hS hA hK hN rfl rfl (Nat.le_of_ble_eq_true rfl) d_SR_init_9 ⟨Nat.le_of_ble_eq_true rfl, Nat.le_of_ble_eq_true rfl⟩ (fun aFB H locs ha_aFB hP9 hD9 hS9 => ?_)
  subst ha_aFB
  have hP := hP9
  have hD := hD9
  have hS := hS9
  clear hP9 hD9 hS9
  refine W.widen (k := 3) (n := 29) (Nat.le_of_ble_eq_true rfl) (Nat.le_of_ble_eq_true rfl) ?_
  have hP : va_P (dC, dI) classes ([(h0, .inr (0, [.null, .null, .null, .null, .null, .null, .null, .long 0, .long 0, .int 0, .int 0, .int 0, .int 0, .int 0]))] ++ wFB tC aFB fb) H := hP
  have hD : va_D A ([(h0, .inr (0, [.null, .null, .null, .null, .null, .null, .null, .long 0, .long 0, .int 0, .int 0, .int 0, .int 0, .int 0]))] ++ wFB tC aFB fb) := hD
  refine W.eq (g2 := F0 m 12 ls [.ref (aFB 0), .ref h0]) rfl ?_
  refine va_putF (D := (dC, dI)) (ci := 0) (v := .ref (aFB 0)) (ty := .object "SpanRules$Forbidden") (C := R_SR) (T := F_SR) (N := 14) hx hb hts (in_SR _) t_SR t_SR_ok n_SR hown hK hP hD hS 0 rfl rfl 1 (by decide) (hts _ (List.mem_cons_of_mem _ mw_233)) (fun _ h9 => h9) rfl hin rfl (by decide +kernel) rfl rfl (Nat.le_of_ble_eq_true rfl) d_SR_init_12 (fun H locs hP hD hS => ?_)
  have hP : va_P (dC, dI) classes ([(h0, .inr (0, [.null, .ref (aFB 0), .null, .null, .null, .null, .null, .long 0, .long 0, .int 0, .int 0, .int 0, .int 0, .int 0]))] ++ wFB tC aFB fb) H := hP
  have hD : va_D A ([(h0, .inr (0, [.null, .ref (aFB 0), .null, .null, .null, .null, .null, .long 0, .long 0, .int 0, .int 0, .int 0, .int 0, .int 0]))] ++ wFB tC aFB fb) := hD
  refine lv_aload_n hx hb d_SR_init_15 rfl (lv_at hl 0 rfl) ?_
  refine va_new (ci := 3) (fs := [.null, .null, .null, .null, .null, .null, .int 0]) (C := R_RS) (T := F_RS) (N := 7) hx hb hts (in_RS _) t_RS t_RS_ok hown (hts _ (List.mem_cons_of_mem _ mw_39)) (hts _ (List.mem_cons_of_mem _ mw_40)) (hts _ (List.mem_cons_of_mem _ mw_3)) hK hP hD hS hA rfl (fun j hj => by rcases (show j = 0 ∨ j = 1 ∨ j = 2 ∨ j = 3 ∨ j = 4 ∨ j = 5 ∨ j = 6 by omega) with rfl | rfl | rfl | rfl | rfl | rfl | rfl <;> rfl) (Nat.le_of_ble_eq_true rfl) (Nat.le_of_ble_eq_true rfl) d_SR_init_16 (fun q_1 H hP hD hS => ?_)
  refine W.widen (k := 4) (n := 36) (Nat.le_of_ble_eq_true rfl) (Nat.le_of_ble_eq_true rfl) ?_
  have hP : va_P (dC, dI) classes ([(h0, .inr (0, [.null, .ref (aFB 0), .null, .null, .null, .null, .null, .long 0, .long 0, .int 0, .int 0, .int 0, .int 0, .int 0]))] ++ wFB tC aFB fb ++ [(q_1, .inr (3, [.null, .null, .null, .null, .null, .null, .int 0]))]) H := hP
  have hD : va_D A ([(h0, .inr (0, [.null, .ref (aFB 0), .null, .null, .null, .null, .null, .long 0, .long 0, .int 0, .int 0, .int 0, .int 0, .int 0]))] ++ wFB tC aFB fb ++ [(q_1, .inr (3, [.null, .null, .null, .null, .null, .null, .int 0]))]) := hD
  refine lv_dup hx hb d_SR_init_19 rfl ?_
  obtain ⟨rs, hc_rs, hf⟩ := g_bind hf
  refine cx_callI (As := []) (rest := [.ref q_1, .ref h0]) ⟨hx, hb, hml, hown, hts⟩ (c_RS_init l dC dI tC q_1 k rs hc_rs) (cwI 0 hts (gi_C mw_43) rfl rfl rfl (hts _ (List.mem_cons_of_mem _ mw_3)) (hts _ (List.mem_cons_of_mem _ mw_41)) (hts _ (List.mem_cons_of_mem _ mw_42)) rfl (by decide +kernel) ⟨Nat.le_of_ble_eq_true rfl, Nat.le_of_ble_eq_true rfl⟩) hl.1 hP hD hS hA hK hN rfl rfl (Nat.le_of_ble_eq_true rfl) d_SR_init_20 ⟨Nat.le_of_ble_eq_true rfl, Nat.le_of_ble_eq_true rfl⟩ (fun aRS H locs ha_aRS hP9 hD9 hS9 => ?_)
  subst ha_aRS
  have hP := hP9
  have hD := hD9
  have hS := hS9
  clear hP9 hD9 hS9
  refine W.widen (k := 10) (n := 1836) (Nat.le_of_ble_eq_true rfl) (Nat.le_of_ble_eq_true rfl) ?_
  have hP : va_P (dC, dI) classes ([(h0, .inr (0, [.null, .ref (aFB 0), .null, .null, .null, .null, .null, .long 0, .long 0, .int 0, .int 0, .int 0, .int 0, .int 0]))] ++ wFB tC aFB fb ++ wRS tC aRS rs) H := hP
  have hD : va_D A ([(h0, .inr (0, [.null, .ref (aFB 0), .null, .null, .null, .null, .null, .long 0, .long 0, .int 0, .int 0, .int 0, .int 0, .int 0]))] ++ wFB tC aFB fb ++ wRS tC aRS rs) := hD
  refine W.eq (g2 := F0 m 23 ls [.ref (aRS 0), .ref h0]) rfl ?_
  refine va_putF (D := (dC, dI)) (ci := 0) (v := .ref (aRS 0)) (ty := .object "SpanRules$RowStore") (C := R_SR) (T := F_SR) (N := 14) hx hb hts (in_SR _) t_SR t_SR_ok n_SR hown hK hP hD hS 0 rfl rfl 2 (by decide) (hts _ (List.mem_cons_of_mem _ mw_234)) (fun _ h9 => h9) rfl hin rfl (by decide +kernel) rfl rfl (Nat.le_of_ble_eq_true rfl) d_SR_init_23 (fun H locs hP hD hS => ?_)
  have hP : va_P (dC, dI) classes ([(h0, .inr (0, [.null, .ref (aFB 0), .ref (aRS 0), .null, .null, .null, .null, .long 0, .long 0, .int 0, .int 0, .int 0, .int 0, .int 0]))] ++ wFB tC aFB fb ++ wRS tC aRS rs) H := hP
  have hD : va_D A ([(h0, .inr (0, [.null, .ref (aFB 0), .ref (aRS 0), .null, .null, .null, .null, .long 0, .long 0, .int 0, .int 0, .int 0, .int 0, .int 0]))] ++ wFB tC aFB fb ++ wRS tC aRS rs) := hD
  refine lv_aload_n hx hb d_SR_init_26 rfl (lv_at hl 0 rfl) ?_
  refine va_new (ci := 4) (fs := [.null, .null, .null, .null, .null, .null, .null, .null, .null, .null, .null, .int 0]) (C := R_SS) (T := F_SS) (N := 12) hx hb hts (in_SS _) t_SS t_SS_ok hown (hts _ (List.mem_cons_of_mem _ mw_75)) (hts _ (List.mem_cons_of_mem _ mw_76)) (hts _ (List.mem_cons_of_mem _ mw_4)) hK hP hD hS hA rfl (fun j hj => by rcases (show j = 0 ∨ j = 1 ∨ j = 2 ∨ j = 3 ∨ j = 4 ∨ j = 5 ∨ j = 6 ∨ j = 7 ∨ j = 8 ∨ j = 9 ∨ j = 10 ∨ j = 11 by omega) with rfl | rfl | rfl | rfl | rfl | rfl | rfl | rfl | rfl | rfl | rfl | rfl <;> rfl) (Nat.le_of_ble_eq_true rfl) (Nat.le_of_ble_eq_true rfl) d_SR_init_27 (fun q_2 H hP hD hS => ?_)
  refine W.widen (k := 11) (n := 1848) (Nat.le_of_ble_eq_true rfl) (Nat.le_of_ble_eq_true rfl) ?_
  have hP : va_P (dC, dI) classes ([(h0, .inr (0, [.null, .ref (aFB 0), .ref (aRS 0), .null, .null, .null, .null, .long 0, .long 0, .int 0, .int 0, .int 0, .int 0, .int 0]))] ++ wFB tC aFB fb ++ wRS tC aRS rs ++ [(q_2, .inr (4, [.null, .null, .null, .null, .null, .null, .null, .null, .null, .null, .null, .int 0]))]) H := hP
  have hD : va_D A ([(h0, .inr (0, [.null, .ref (aFB 0), .ref (aRS 0), .null, .null, .null, .null, .long 0, .long 0, .int 0, .int 0, .int 0, .int 0, .int 0]))] ++ wFB tC aFB fb ++ wRS tC aRS rs ++ [(q_2, .inr (4, [.null, .null, .null, .null, .null, .null, .null, .null, .null, .null, .null, .int 0]))]) := hD
  refine lv_dup hx hb d_SR_init_30 rfl ?_
  obtain ⟨ss, hc_ss, hf⟩ := g_bind hf
  refine cx_callI (As := []) (rest := [.ref q_2, .ref h0]) ⟨hx, hb, hml, hown, hts⟩ (c_SS_init l dC dI tC q_2 k ss hc_ss) (cwI 0 hts (gi_C mw_79) rfl rfl rfl (hts _ (List.mem_cons_of_mem _ mw_4)) (hts _ (List.mem_cons_of_mem _ mw_77)) (hts _ (List.mem_cons_of_mem _ mw_78)) rfl (by decide +kernel) ⟨Nat.le_of_ble_eq_true rfl, Nat.le_of_ble_eq_true rfl⟩) hl.1 hP hD hS hA hK hN rfl rfl (Nat.le_of_ble_eq_true rfl) d_SR_init_31 ⟨Nat.le_of_ble_eq_true rfl, Nat.le_of_ble_eq_true rfl⟩ (fun aSS H locs ha_aSS hP9 hD9 hS9 => ?_)
  subst ha_aSS
  have hP := hP9
  have hD := hD9
  have hS := hS9
  clear hP9 hD9 hS9
  refine W.widen (k := 22) (n := 5453) (Nat.le_of_ble_eq_true rfl) (Nat.le_of_ble_eq_true rfl) ?_
  have hP : va_P (dC, dI) classes ([(h0, .inr (0, [.null, .ref (aFB 0), .ref (aRS 0), .null, .null, .null, .null, .long 0, .long 0, .int 0, .int 0, .int 0, .int 0, .int 0]))] ++ wFB tC aFB fb ++ wRS tC aRS rs ++ wSS tC aSS ss) H := hP
  have hD : va_D A ([(h0, .inr (0, [.null, .ref (aFB 0), .ref (aRS 0), .null, .null, .null, .null, .long 0, .long 0, .int 0, .int 0, .int 0, .int 0, .int 0]))] ++ wFB tC aFB fb ++ wRS tC aRS rs ++ wSS tC aSS ss) := hD
  refine W.eq (g2 := F0 m 34 ls [.ref (aSS 0), .ref h0]) rfl ?_
  refine va_putF (D := (dC, dI)) (ci := 0) (v := .ref (aSS 0)) (ty := .object "SpanRules$SpanStore") (C := R_SR) (T := F_SR) (N := 14) hx hb hts (in_SR _) t_SR t_SR_ok n_SR hown hK hP hD hS 0 rfl rfl 3 (by decide) (hts _ (List.mem_cons_of_mem _ mw_235)) (fun _ h9 => h9) rfl hin rfl (by decide +kernel) rfl rfl (Nat.le_of_ble_eq_true rfl) d_SR_init_34 (fun H locs hP hD hS => ?_)
  have hP : va_P (dC, dI) classes ([(h0, .inr (0, [.null, .ref (aFB 0), .ref (aRS 0), .ref (aSS 0), .null, .null, .null, .long 0, .long 0, .int 0, .int 0, .int 0, .int 0, .int 0]))] ++ wFB tC aFB fb ++ wRS tC aRS rs ++ wSS tC aSS ss) H := hP
  have hD : va_D A ([(h0, .inr (0, [.null, .ref (aFB 0), .ref (aRS 0), .ref (aSS 0), .null, .null, .null, .long 0, .long 0, .int 0, .int 0, .int 0, .int 0, .int 0]))] ++ wFB tC aFB fb ++ wRS tC aRS rs ++ wSS tC aSS ss) := hD
  refine lv_aload_n hx hb d_SR_init_37 rfl (lv_at hl 0 rfl) ?_
  refine va_new (ci := 5) (fs := [.null, .null]) (C := R_NU) (T := F_NU) (N := 2) hx hb hts (in_NU _) t_NU t_NU_ok hown (hts _ (List.mem_cons_of_mem _ mw_129)) (hts _ (List.mem_cons_of_mem _ mw_130)) (hts _ (List.mem_cons_of_mem _ mw_5)) hK hP hD hS hA rfl (fun j hj => by rcases (show j = 0 ∨ j = 1 by omega) with rfl | rfl <;> rfl) (Nat.le_of_ble_eq_true rfl) (Nat.le_of_ble_eq_true rfl) d_SR_init_38 (fun q_3 H hP hD hS => ?_)
  refine W.widen (k := 23) (n := 5455) (Nat.le_of_ble_eq_true rfl) (Nat.le_of_ble_eq_true rfl) ?_
  have hP : va_P (dC, dI) classes ([(h0, .inr (0, [.null, .ref (aFB 0), .ref (aRS 0), .ref (aSS 0), .null, .null, .null, .long 0, .long 0, .int 0, .int 0, .int 0, .int 0, .int 0]))] ++ wFB tC aFB fb ++ wRS tC aRS rs ++ wSS tC aSS ss ++ [(q_3, .inr (5, [.null, .null]))]) H := hP
  have hD : va_D A ([(h0, .inr (0, [.null, .ref (aFB 0), .ref (aRS 0), .ref (aSS 0), .null, .null, .null, .long 0, .long 0, .int 0, .int 0, .int 0, .int 0, .int 0]))] ++ wFB tC aFB fb ++ wRS tC aRS rs ++ wSS tC aSS ss ++ [(q_3, .inr (5, [.null, .null]))]) := hD
  refine lv_dup hx hb d_SR_init_41 rfl ?_
  obtain ⟨nu, hc_nu⟩ : ∃ z : NUt, z = f_NU_init := ⟨_, rfl⟩
  have hf := g_let hf hc_nu
  refine cx_callIN (As := []) (rest := [.ref q_3, .ref h0]) ⟨hx, hb, hml, hown, hts⟩ (c_NU_init l dC dI tC q_3  nu hc_nu.symm) ⟨va_cnB 0 hts (gi_C mw_133) rfl rfl rfl hN.2.1 (hts _ (List.mem_cons_of_mem _ mw_5)) (by decide +kernel) ⟨Nat.le_of_ble_eq_true rfl, Nat.le_of_ble_eq_true rfl⟩, rfl, hts _ (List.mem_cons_of_mem _ mw_132)⟩ hl.1 hP hD hS hA hK hN rfl rfl (Nat.le_of_ble_eq_true rfl) d_SR_init_42 ⟨Nat.le_of_ble_eq_true rfl, Nat.le_of_ble_eq_true rfl⟩ (fun aNU H locs ha_aNU hP9 hD9 hS9 => ?_)
  subst ha_aNU
  have hP := hP9
  have hD := hD9
  have hS := hS9
  clear hP9 hD9 hS9
  refine W.widen (k := 25) (n := 5471) (Nat.le_of_ble_eq_true rfl) (Nat.le_of_ble_eq_true rfl) ?_
  have hP : va_P (dC, dI) classes ([(h0, .inr (0, [.null, .ref (aFB 0), .ref (aRS 0), .ref (aSS 0), .null, .null, .null, .long 0, .long 0, .int 0, .int 0, .int 0, .int 0, .int 0]))] ++ wFB tC aFB fb ++ wRS tC aRS rs ++ wSS tC aSS ss ++ wNU tC aNU nu) H := hP
  have hD : va_D A ([(h0, .inr (0, [.null, .ref (aFB 0), .ref (aRS 0), .ref (aSS 0), .null, .null, .null, .long 0, .long 0, .int 0, .int 0, .int 0, .int 0, .int 0]))] ++ wFB tC aFB fb ++ wRS tC aRS rs ++ wSS tC aSS ss ++ wNU tC aNU nu) := hD
  refine W.eq (g2 := F0 m 45 ls [.ref (aNU 0), .ref h0]) rfl ?_
  refine va_putF (D := (dC, dI)) (ci := 0) (v := .ref (aNU 0)) (ty := .object "SpanRules$Numbering") (C := R_SR) (T := F_SR) (N := 14) hx hb hts (in_SR _) t_SR t_SR_ok n_SR hown hK hP hD hS 0 rfl rfl 4 (by decide) (hts _ (List.mem_cons_of_mem _ mw_236)) (fun _ h9 => h9) rfl hin rfl (by decide +kernel) rfl rfl (Nat.le_of_ble_eq_true rfl) d_SR_init_45 (fun H locs hP hD hS => ?_)
  have hP : va_P (dC, dI) classes ([(h0, .inr (0, [.null, .ref (aFB 0), .ref (aRS 0), .ref (aSS 0), .ref (aNU 0), .null, .null, .long 0, .long 0, .int 0, .int 0, .int 0, .int 0, .int 0]))] ++ wFB tC aFB fb ++ wRS tC aRS rs ++ wSS tC aSS ss ++ wNU tC aNU nu) H := hP
  have hD : va_D A ([(h0, .inr (0, [.null, .ref (aFB 0), .ref (aRS 0), .ref (aSS 0), .ref (aNU 0), .null, .null, .long 0, .long 0, .int 0, .int 0, .int 0, .int 0, .int 0]))] ++ wFB tC aFB fb ++ wRS tC aRS rs ++ wSS tC aSS ss ++ wNU tC aNU nu) := hD
  refine lv_aload_n hx hb d_SR_init_48 rfl (lv_at hl 0 rfl) ?_
  refine va_new (ci := 6) (fs := [.null, .int 0, .int 0, .int 0]) (C := R_FS) (T := F_FS) (N := 4) hx hb hts (in_FS _) t_FS t_FS_ok hown (hts _ (List.mem_cons_of_mem _ mw_144)) (hts _ (List.mem_cons_of_mem _ mw_145)) (hts _ (List.mem_cons_of_mem _ mw_6)) hK hP hD hS hA rfl (fun j hj => by rcases (show j = 0 ∨ j = 1 ∨ j = 2 ∨ j = 3 by omega) with rfl | rfl | rfl | rfl <;> rfl) (Nat.le_of_ble_eq_true rfl) (Nat.le_of_ble_eq_true rfl) d_SR_init_49 (fun q_4 H hP hD hS => ?_)
  refine W.widen (k := 26) (n := 5475) (Nat.le_of_ble_eq_true rfl) (Nat.le_of_ble_eq_true rfl) ?_
  have hP : va_P (dC, dI) classes ([(h0, .inr (0, [.null, .ref (aFB 0), .ref (aRS 0), .ref (aSS 0), .ref (aNU 0), .null, .null, .long 0, .long 0, .int 0, .int 0, .int 0, .int 0, .int 0]))] ++ wFB tC aFB fb ++ wRS tC aRS rs ++ wSS tC aSS ss ++ wNU tC aNU nu ++ [(q_4, .inr (6, [.null, .int 0, .int 0, .int 0]))]) H := hP
  have hD : va_D A ([(h0, .inr (0, [.null, .ref (aFB 0), .ref (aRS 0), .ref (aSS 0), .ref (aNU 0), .null, .null, .long 0, .long 0, .int 0, .int 0, .int 0, .int 0, .int 0]))] ++ wFB tC aFB fb ++ wRS tC aRS rs ++ wSS tC aSS ss ++ wNU tC aNU nu ++ [(q_4, .inr (6, [.null, .int 0, .int 0, .int 0]))]) := hD
  refine lv_dup hx hb d_SR_init_52 rfl ?_
  obtain ⟨fs, hc_fs⟩ : ∃ z : FSt, z = f_FS_init := ⟨_, rfl⟩
  have hf := g_let hf hc_fs
  refine cx_callIN (As := []) (rest := [.ref q_4, .ref h0]) ⟨hx, hb, hml, hown, hts⟩ (c_FS_init l dC dI tC q_4  fs hc_fs.symm) ⟨va_cnB 0 hts (gi_C mw_148) rfl rfl rfl hN.2.2.1 (hts _ (List.mem_cons_of_mem _ mw_6)) (by decide +kernel) ⟨Nat.le_of_ble_eq_true rfl, Nat.le_of_ble_eq_true rfl⟩, rfl, hts _ (List.mem_cons_of_mem _ mw_147)⟩ hl.1 hP hD hS hA hK hN rfl rfl (Nat.le_of_ble_eq_true rfl) d_SR_init_53 ⟨Nat.le_of_ble_eq_true rfl, Nat.le_of_ble_eq_true rfl⟩ (fun aFS H locs ha_aFS hP9 hD9 hS9 => ?_)
  subst ha_aFS
  have hP := hP9
  have hD := hD9
  have hS := hS9
  clear hP9 hD9 hS9
  refine W.widen (k := 27) (n := 9475) (Nat.le_of_ble_eq_true rfl) (Nat.le_of_ble_eq_true rfl) ?_
  have hP : va_P (dC, dI) classes ([(h0, .inr (0, [.null, .ref (aFB 0), .ref (aRS 0), .ref (aSS 0), .ref (aNU 0), .null, .null, .long 0, .long 0, .int 0, .int 0, .int 0, .int 0, .int 0]))] ++ wFB tC aFB fb ++ wRS tC aRS rs ++ wSS tC aSS ss ++ wNU tC aNU nu ++ wFS tC aFS fs) H := hP
  have hD : va_D A ([(h0, .inr (0, [.null, .ref (aFB 0), .ref (aRS 0), .ref (aSS 0), .ref (aNU 0), .null, .null, .long 0, .long 0, .int 0, .int 0, .int 0, .int 0, .int 0]))] ++ wFB tC aFB fb ++ wRS tC aRS rs ++ wSS tC aSS ss ++ wNU tC aNU nu ++ wFS tC aFS fs) := hD
  refine W.eq (g2 := F0 m 56 ls [.ref (aFS 0), .ref h0]) rfl ?_
  refine va_putF (D := (dC, dI)) (ci := 0) (v := .ref (aFS 0)) (ty := .object "SpanRules$FiringStore") (C := R_SR) (T := F_SR) (N := 14) hx hb hts (in_SR _) t_SR t_SR_ok n_SR hown hK hP hD hS 0 rfl rfl 5 (by decide) (hts _ (List.mem_cons_of_mem _ mw_237)) (fun _ h9 => h9) rfl hin rfl (by decide +kernel) rfl rfl (Nat.le_of_ble_eq_true rfl) d_SR_init_56 (fun H locs hP hD hS => ?_)
  have hP : va_P (dC, dI) classes ([(h0, .inr (0, [.null, .ref (aFB 0), .ref (aRS 0), .ref (aSS 0), .ref (aNU 0), .ref (aFS 0), .null, .long 0, .long 0, .int 0, .int 0, .int 0, .int 0, .int 0]))] ++ wFB tC aFB fb ++ wRS tC aRS rs ++ wSS tC aSS ss ++ wNU tC aNU nu ++ wFS tC aFS fs) H := hP
  have hD : va_D A ([(h0, .inr (0, [.null, .ref (aFB 0), .ref (aRS 0), .ref (aSS 0), .ref (aNU 0), .ref (aFS 0), .null, .long 0, .long 0, .int 0, .int 0, .int 0, .int 0, .int 0]))] ++ wFB tC aFB fb ++ wRS tC aRS rs ++ wSS tC aSS ss ++ wNU tC aNU nu ++ wFS tC aFS fs) := hD
  refine lv_aload_n hx hb d_SR_init_59 rfl (lv_at hl 0 rfl) ?_
  refine va_new (ci := 7) (fs := [.int 0, .long 0, .long 0, .long 0, .long 0]) (C := R_CO) (T := F_CO) (N := 5) hx hb hts (in_CO _) t_CO t_CO_ok hown (hts _ (List.mem_cons_of_mem _ mw_166)) (hts _ (List.mem_cons_of_mem _ mw_167)) (hts _ (List.mem_cons_of_mem _ mw_7)) hK hP hD hS hA rfl (fun j hj => by rcases (show j = 0 ∨ j = 1 ∨ j = 2 ∨ j = 3 ∨ j = 4 by omega) with rfl | rfl | rfl | rfl | rfl <;> rfl) (Nat.le_of_ble_eq_true rfl) (Nat.le_of_ble_eq_true rfl) d_SR_init_60 (fun q_5 H hP hD hS => ?_)
  refine W.widen (k := 28) (n := 9480) (Nat.le_of_ble_eq_true rfl) (Nat.le_of_ble_eq_true rfl) ?_
  have hP : va_P (dC, dI) classes ([(h0, .inr (0, [.null, .ref (aFB 0), .ref (aRS 0), .ref (aSS 0), .ref (aNU 0), .ref (aFS 0), .null, .long 0, .long 0, .int 0, .int 0, .int 0, .int 0, .int 0]))] ++ wFB tC aFB fb ++ wRS tC aRS rs ++ wSS tC aSS ss ++ wNU tC aNU nu ++ wFS tC aFS fs ++ [(q_5, .inr (7, [.int 0, .long 0, .long 0, .long 0, .long 0]))]) H := hP
  have hD : va_D A ([(h0, .inr (0, [.null, .ref (aFB 0), .ref (aRS 0), .ref (aSS 0), .ref (aNU 0), .ref (aFS 0), .null, .long 0, .long 0, .int 0, .int 0, .int 0, .int 0, .int 0]))] ++ wFB tC aFB fb ++ wRS tC aRS rs ++ wSS tC aSS ss ++ wNU tC aNU nu ++ wFS tC aFS fs ++ [(q_5, .inr (7, [.int 0, .long 0, .long 0, .long 0, .long 0]))]) := hD
  refine lv_dup hx hb d_SR_init_63 rfl ?_
  obtain ⟨co, hc_co⟩ : ∃ z : COt, z = f_CO_init := ⟨_, rfl⟩
  have hf := g_let hf hc_co
  refine cx_callIN (As := []) (rest := [.ref q_5, .ref h0]) ⟨hx, hb, hml, hown, hts⟩ (c_CO_init l dC dI tC q_5  co hc_co.symm) ⟨va_cnB 0 hts (gi_C mw_170) rfl rfl rfl hN.2.2.2.1 (hts _ (List.mem_cons_of_mem _ mw_7)) (by decide +kernel) ⟨Nat.le_of_ble_eq_true rfl, Nat.le_of_ble_eq_true rfl⟩, rfl, hts _ (List.mem_cons_of_mem _ mw_169)⟩ hl.1 hP hD hS hA hK hN rfl rfl (Nat.le_of_ble_eq_true rfl) d_SR_init_64 ⟨Nat.le_of_ble_eq_true rfl, Nat.le_of_ble_eq_true rfl⟩ (fun aCO H locs ha_aCO hP9 hD9 hS9 => ?_)
  subst ha_aCO
  have hP := hP9
  have hD := hD9
  have hS := hS9
  clear hP9 hD9 hS9
  refine W.widen (k := 28) (n := 9480) (Nat.le_of_ble_eq_true rfl) (Nat.le_of_ble_eq_true rfl) ?_
  have hP : va_P (dC, dI) classes ([(h0, .inr (0, [.null, .ref (aFB 0), .ref (aRS 0), .ref (aSS 0), .ref (aNU 0), .ref (aFS 0), .null, .long 0, .long 0, .int 0, .int 0, .int 0, .int 0, .int 0]))] ++ wFB tC aFB fb ++ wRS tC aRS rs ++ wSS tC aSS ss ++ wNU tC aNU nu ++ wFS tC aFS fs ++ wCO tC aCO co) H := hP
  have hD : va_D A ([(h0, .inr (0, [.null, .ref (aFB 0), .ref (aRS 0), .ref (aSS 0), .ref (aNU 0), .ref (aFS 0), .null, .long 0, .long 0, .int 0, .int 0, .int 0, .int 0, .int 0]))] ++ wFB tC aFB fb ++ wRS tC aRS rs ++ wSS tC aSS ss ++ wNU tC aNU nu ++ wFS tC aFS fs ++ wCO tC aCO co) := hD
  refine W.eq (g2 := F0 m 67 ls [.ref (aCO 0), .ref h0]) rfl ?_
  refine va_putF (D := (dC, dI)) (ci := 0) (v := .ref (aCO 0)) (ty := .object "SpanRules$Contents") (C := R_SR) (T := F_SR) (N := 14) hx hb hts (in_SR _) t_SR t_SR_ok n_SR hown hK hP hD hS 0 rfl rfl 6 (by decide) (hts _ (List.mem_cons_of_mem _ mw_238)) (fun _ h9 => h9) rfl hin rfl (by decide +kernel) rfl rfl (Nat.le_of_ble_eq_true rfl) d_SR_init_67 (fun H locs hP hD hS => ?_)
  have hP : va_P (dC, dI) classes ([(h0, .inr (0, [.null, .ref (aFB 0), .ref (aRS 0), .ref (aSS 0), .ref (aNU 0), .ref (aFS 0), .ref (aCO 0), .long 0, .long 0, .int 0, .int 0, .int 0, .int 0, .int 0]))] ++ wFB tC aFB fb ++ wRS tC aRS rs ++ wSS tC aSS ss ++ wNU tC aNU nu ++ wFS tC aFS fs ++ wCO tC aCO co) H := hP
  have hD : va_D A ([(h0, .inr (0, [.null, .ref (aFB 0), .ref (aRS 0), .ref (aSS 0), .ref (aNU 0), .ref (aFS 0), .ref (aCO 0), .long 0, .long 0, .int 0, .int 0, .int 0, .int 0, .int 0]))] ++ wFB tC aFB fb ++ wRS tC aRS rs ++ wSS tC aSS ss ++ wNU tC aNU nu ++ wFS tC aFS fs ++ wCO tC aCO co) := hD
  refine lv_aload_n hx hb d_SR_init_70 rfl (lv_at hl 0 rfl) ?_
  refine lv_lconst (v := 0) hx hb d_SR_init_71 (by decide) ?_
  refine va_put (D := (dC, dI)) (ci := 0) (v := .long 0) (ty := .long) (C := R_SR) (T := F_SR) (N := 14) hx hb hts (in_SR _) t_SR t_SR_ok n_SR hown hK hP hD hS 0 rfl rfl 7 (by decide) (hts _ (List.mem_cons_of_mem _ mw_239)) (fun _ h9 => h9) rfl (by decide +kernel) rfl rfl (Nat.le_of_ble_eq_true rfl) d_SR_init_72 (fun H locs hP hD hS => ?_)
  have hP : va_P (dC, dI) classes ([(h0, .inr (0, [.null, .ref (aFB 0), .ref (aRS 0), .ref (aSS 0), .ref (aNU 0), .ref (aFS 0), .ref (aCO 0), .long 0, .long 0, .int 0, .int 0, .int 0, .int 0, .int 0]))] ++ wFB tC aFB fb ++ wRS tC aRS rs ++ wSS tC aSS ss ++ wNU tC aNU nu ++ wFS tC aFS fs ++ wCO tC aCO co) H := hP
  have hD : va_D A ([(h0, .inr (0, [.null, .ref (aFB 0), .ref (aRS 0), .ref (aSS 0), .ref (aNU 0), .ref (aFS 0), .ref (aCO 0), .long 0, .long 0, .int 0, .int 0, .int 0, .int 0, .int 0]))] ++ wFB tC aFB fb ++ wRS tC aRS rs ++ wSS tC aSS ss ++ wNU tC aNU nu ++ wFS tC aFS fs ++ wCO tC aCO co) := hD
  refine lv_aload_n hx hb d_SR_init_75 rfl (lv_at hl 0 rfl) ?_
  refine lv_ldc2 (v := (-10000000000000)) hx hb hown (hts _ (List.mem_cons_of_mem _ mw_188)) d_SR_init_76 ?_
  refine va_put (D := (dC, dI)) (ci := 0) (v := .long (-10000000000000)) (ty := .long) (C := R_SR) (T := F_SR) (N := 14) hx hb hts (in_SR _) t_SR t_SR_ok n_SR hown hK hP hD hS 0 rfl rfl 8 (by decide) (hts _ (List.mem_cons_of_mem _ mw_240)) (fun _ h9 => h9) rfl (by decide +kernel) rfl rfl (Nat.le_of_ble_eq_true rfl) d_SR_init_79 (fun H locs hP hD hS => ?_)
  have hP : va_P (dC, dI) classes ([(h0, .inr (0, [.null, .ref (aFB 0), .ref (aRS 0), .ref (aSS 0), .ref (aNU 0), .ref (aFS 0), .ref (aCO 0), .long 0, .long (-10000000000000), .int 0, .int 0, .int 0, .int 0, .int 0]))] ++ wFB tC aFB fb ++ wRS tC aRS rs ++ wSS tC aSS ss ++ wNU tC aNU nu ++ wFS tC aFS fs ++ wCO tC aCO co) H := hP
  have hD : va_D A ([(h0, .inr (0, [.null, .ref (aFB 0), .ref (aRS 0), .ref (aSS 0), .ref (aNU 0), .ref (aFS 0), .ref (aCO 0), .long 0, .long (-10000000000000), .int 0, .int 0, .int 0, .int 0, .int 0]))] ++ wFB tC aFB fb ++ wRS tC aRS rs ++ wSS tC aSS ss ++ wNU tC aNU nu ++ wFS tC aFS fs ++ wCO tC aCO co) := hD
  refine lv_aload_n hx hb d_SR_init_82 rfl (lv_at hl 0 rfl) ?_
  refine lv_iconst (v := 0) hx hb d_SR_init_83 (by decide) ?_
  refine va_put (D := (dC, dI)) (ci := 0) (v := .int 0) (ty := .int) (C := R_SR) (T := F_SR) (N := 14) hx hb hts (in_SR _) t_SR t_SR_ok n_SR hown hK hP hD hS 0 rfl rfl 9 (by decide) (hts _ (List.mem_cons_of_mem _ mw_241)) (fun _ h9 => h9) rfl (by decide +kernel) rfl rfl (Nat.le_of_ble_eq_true rfl) d_SR_init_84 (fun H locs hP hD hS => ?_)
  have hP : va_P (dC, dI) classes ([(h0, .inr (0, [.null, .ref (aFB 0), .ref (aRS 0), .ref (aSS 0), .ref (aNU 0), .ref (aFS 0), .ref (aCO 0), .long 0, .long (-10000000000000), .int 0, .int 0, .int 0, .int 0, .int 0]))] ++ wFB tC aFB fb ++ wRS tC aRS rs ++ wSS tC aSS ss ++ wNU tC aNU nu ++ wFS tC aFS fs ++ wCO tC aCO co) H := hP
  have hD : va_D A ([(h0, .inr (0, [.null, .ref (aFB 0), .ref (aRS 0), .ref (aSS 0), .ref (aNU 0), .ref (aFS 0), .ref (aCO 0), .long 0, .long (-10000000000000), .int 0, .int 0, .int 0, .int 0, .int 0]))] ++ wFB tC aFB fb ++ wRS tC aRS rs ++ wSS tC aSS ss ++ wNU tC aNU nu ++ wFS tC aFS fs ++ wCO tC aCO co) := hD
  refine lv_aload_n hx hb d_SR_init_87 rfl (lv_at hl 0 rfl) ?_
  refine lv_iconst (v := 1) hx hb d_SR_init_88 (by decide) ?_
  refine va_put (D := (dC, dI)) (ci := 0) (v := .int 1) (ty := .boolean) (C := R_SR) (T := F_SR) (N := 14) hx hb hts (in_SR _) t_SR t_SR_ok n_SR hown hK hP hD hS 0 rfl rfl 10 (by decide) (hts _ (List.mem_cons_of_mem _ mw_242)) (fun _ h9 => h9) rfl (by decide +kernel) rfl rfl (Nat.le_of_ble_eq_true rfl) d_SR_init_89 (fun H locs hP hD hS => ?_)
  have hP : va_P (dC, dI) classes ([(h0, .inr (0, [.null, .ref (aFB 0), .ref (aRS 0), .ref (aSS 0), .ref (aNU 0), .ref (aFS 0), .ref (aCO 0), .long 0, .long (-10000000000000), .int 0, .int 1, .int 0, .int 0, .int 0]))] ++ wFB tC aFB fb ++ wRS tC aRS rs ++ wSS tC aSS ss ++ wNU tC aNU nu ++ wFS tC aFS fs ++ wCO tC aCO co) H := hP
  have hD : va_D A ([(h0, .inr (0, [.null, .ref (aFB 0), .ref (aRS 0), .ref (aSS 0), .ref (aNU 0), .ref (aFS 0), .ref (aCO 0), .long 0, .long (-10000000000000), .int 0, .int 1, .int 0, .int 0, .int 0]))] ++ wFB tC aFB fb ++ wRS tC aRS rs ++ wSS tC aSS ss ++ wNU tC aNU nu ++ wFS tC aFS fs ++ wCO tC aCO co) := hD
  refine lv_aload_n hx hb d_SR_init_92 rfl (lv_at hl 0 rfl) ?_
  refine lv_iconst (v := 0) hx hb d_SR_init_93 (by decide) ?_
  refine va_put (D := (dC, dI)) (ci := 0) (v := .int 0) (ty := .boolean) (C := R_SR) (T := F_SR) (N := 14) hx hb hts (in_SR _) t_SR t_SR_ok n_SR hown hK hP hD hS 0 rfl rfl 11 (by decide) (hts _ (List.mem_cons_of_mem _ mw_243)) (fun _ h9 => h9) rfl (by decide +kernel) rfl rfl (Nat.le_of_ble_eq_true rfl) d_SR_init_94 (fun H locs hP hD hS => ?_)
  have hP : va_P (dC, dI) classes ([(h0, .inr (0, [.null, .ref (aFB 0), .ref (aRS 0), .ref (aSS 0), .ref (aNU 0), .ref (aFS 0), .ref (aCO 0), .long 0, .long (-10000000000000), .int 0, .int 1, .int 0, .int 0, .int 0]))] ++ wFB tC aFB fb ++ wRS tC aRS rs ++ wSS tC aSS ss ++ wNU tC aNU nu ++ wFS tC aFS fs ++ wCO tC aCO co) H := hP
  have hD : va_D A ([(h0, .inr (0, [.null, .ref (aFB 0), .ref (aRS 0), .ref (aSS 0), .ref (aNU 0), .ref (aFS 0), .ref (aCO 0), .long 0, .long (-10000000000000), .int 0, .int 1, .int 0, .int 0, .int 0]))] ++ wFB tC aFB fb ++ wRS tC aRS rs ++ wSS tC aSS ss ++ wNU tC aNU nu ++ wFS tC aFS fs ++ wCO tC aCO co) := hD
  refine lv_aload_n hx hb d_SR_init_97 rfl (lv_at hl 0 rfl) ?_
  refine lv_iconst (v := 0) hx hb d_SR_init_98 (by decide) ?_
  refine va_put (D := (dC, dI)) (ci := 0) (v := .int 0) (ty := .int) (C := R_SR) (T := F_SR) (N := 14) hx hb hts (in_SR _) t_SR t_SR_ok n_SR hown hK hP hD hS 0 rfl rfl 12 (by decide) (hts _ (List.mem_cons_of_mem _ mw_244)) (fun _ h9 => h9) rfl (by decide +kernel) rfl rfl (Nat.le_of_ble_eq_true rfl) d_SR_init_99 (fun H locs hP hD hS => ?_)
  have hP : va_P (dC, dI) classes ([(h0, .inr (0, [.null, .ref (aFB 0), .ref (aRS 0), .ref (aSS 0), .ref (aNU 0), .ref (aFS 0), .ref (aCO 0), .long 0, .long (-10000000000000), .int 0, .int 1, .int 0, .int 0, .int 0]))] ++ wFB tC aFB fb ++ wRS tC aRS rs ++ wSS tC aSS ss ++ wNU tC aNU nu ++ wFS tC aFS fs ++ wCO tC aCO co) H := hP
  have hD : va_D A ([(h0, .inr (0, [.null, .ref (aFB 0), .ref (aRS 0), .ref (aSS 0), .ref (aNU 0), .ref (aFS 0), .ref (aCO 0), .long 0, .long (-10000000000000), .int 0, .int 1, .int 0, .int 0, .int 0]))] ++ wFB tC aFB fb ++ wRS tC aRS rs ++ wSS tC aSS ss ++ wNU tC aNU nu ++ wFS tC aFS fs ++ wCO tC aCO co) := hD
  refine lv_aload_n hx hb d_SR_init_102 rfl (lv_at hl 0 rfl) ?_
  refine lv_iconst (v := 0) hx hb d_SR_init_103 (by decide) ?_
  refine va_put (D := (dC, dI)) (ci := 0) (v := .int 0) (ty := .int) (C := R_SR) (T := F_SR) (N := 14) hx hb hts (in_SR _) t_SR t_SR_ok n_SR hown hK hP hD hS 0 rfl rfl 13 (by decide) (hts _ (List.mem_cons_of_mem _ mw_245)) (fun _ h9 => h9) rfl (by decide +kernel) rfl rfl (Nat.le_of_ble_eq_true rfl) d_SR_init_104 (fun H locs hP hD hS => ?_)
  have hP : va_P (dC, dI) classes ([(h0, .inr (0, [.null, .ref (aFB 0), .ref (aRS 0), .ref (aSS 0), .ref (aNU 0), .ref (aFS 0), .ref (aCO 0), .long 0, .long (-10000000000000), .int 0, .int 1, .int 0, .int 0, .int 0]))] ++ wFB tC aFB fb ++ wRS tC aRS rs ++ wSS tC aSS ss ++ wNU tC aNU nu ++ wFS tC aFS fs ++ wCO tC aCO co) H := hP
  have hD : va_D A ([(h0, .inr (0, [.null, .ref (aFB 0), .ref (aRS 0), .ref (aSS 0), .ref (aNU 0), .ref (aFS 0), .ref (aCO 0), .long 0, .long (-10000000000000), .int 0, .int 1, .int 0, .int 0, .int 0]))] ++ wFB tC aFB fb ++ wRS tC aRS rs ++ wSS tC aSS ss ++ wNU tC aNU nu ++ wFS tC aFS fs ++ wCO tC aCO co) := hD
  refine lv_iload_n hx hb d_SR_init_107 rfl (lv_at hl 1 rfl) ?_
  refine lv_iconst (v := 0) hx hb d_SR_init_108 (by decide) ?_
  refine lv_iconst (v := 5) hx hb d_SR_init_109 (by decide) ?_
  refine cx_callS (As := [.int x1, .int 0, .int 5]) (rest := []) ⟨hx, hb, hml, hown, hts⟩ (c_SR_nearest l dC dI tC  x1 0 5 (f_SR_nearest x1 0 5) rfl) (k_SR_77 hts ⟨Nat.le_of_ble_eq_true rfl, Nat.le_of_ble_eq_true rfl⟩) hl.1 hP hD hS hA hK hN [] rfl rfl rfl rfl rfl (Nat.le_of_ble_eq_true rfl) d_SR_init_110 ⟨Nat.le_of_ble_eq_true rfl, Nat.le_of_ble_eq_true rfl⟩ (fun H locs hP hD hS => ?_)
  have hP : va_P (dC, dI) classes ([(h0, .inr (0, [.null, .ref (aFB 0), .ref (aRS 0), .ref (aSS 0), .ref (aNU 0), .ref (aFS 0), .ref (aCO 0), .long 0, .long (-10000000000000), .int 0, .int 1, .int 0, .int 0, .int 0]))] ++ wFB tC aFB fb ++ wRS tC aRS rs ++ wSS tC aSS ss ++ wNU tC aNU nu ++ wFS tC aFS fs ++ wCO tC aCO co) H := hP
  have hD : va_D A ([(h0, .inr (0, [.null, .ref (aFB 0), .ref (aRS 0), .ref (aSS 0), .ref (aNU 0), .ref (aFS 0), .ref (aCO 0), .long 0, .long (-10000000000000), .int 0, .int 1, .int 0, .int 0, .int 0]))] ++ wFB tC aFB fb ++ wRS tC aRS rs ++ wSS tC aSS ss ++ wNU tC aNU nu ++ wFS tC aFS fs ++ wCO tC aCO co) := hD
  refine W.eq (g2 := F0 m 113 ls [.int (f_SR_nearest x1 0 5)]) rfl ?_
  refine lv_topi (fun v4 h_v4 => ?_)
  have hf := g_let hf h_v4
  refine lv_istore (lv' := [(4, .int v4), (0, .ref h0), (1, .int x1), (2, .int x2), (3, .int x3)]) hx hb d_SR_init_113 hl (by decide) rfl (fun ls hl => ?_)
  refine lv_iload_n hx hb d_SR_init_115 rfl (lv_at hl 3 rfl) ?_
  refine lv_iconst (v := 1) hx hb d_SR_init_116 (by decide) ?_
  refine lv_iload hx hb d_SR_init_117 (lv_at hl 0 rfl) ?_
  refine lv_iconst (v := 4) hx hb d_SR_init_119 (by decide) ?_
  obtain ⟨t, hB_130⟩ : ∃ z : Int32, z = f_SR_init_B120 v4 := ⟨_, rfl⟩
  have hf := g_let hf hB_130
  have hB_130 := hB_130.symm
  try dsimp only at hf
  have K_130 : ∀ (H : Heap) (locs : List Loc) (ls : Array Slot), va_P (dC, dI) classes ([(h0, .inr (0, [.null, .ref (aFB 0), .ref (aRS 0), .ref (aSS 0), .ref (aNU 0), .ref (aFS 0), .ref (aCO 0), .long 0, .long (-10000000000000), .int 0, .int 1, .int 0, .int 0, .int 0]))] ++ wFB tC aFB fb ++ wRS tC aRS rs ++ wSS tC aSS ss ++ wNU tC aNU nu ++ wFS tC aFS fs ++ wCO tC aCO co) H → va_D A ([(h0, .inr (0, [.null, .ref (aFB 0), .ref (aRS 0), .ref (aSS 0), .ref (aNU 0), .ref (aFS 0), .ref (aCO 0), .long 0, .long (-10000000000000), .int 0, .int 1, .int 0, .int 0, .int 0]))] ++ wFB tC aFB fb ++ wRS tC aRS rs ++ wSS tC aSS ss ++ wNU tC aNU nu ++ wFS tC aFS fs ++ wCO tC aCO co) → va_S A s.heap H locs → lv_has ls 7 [(0, .ref h0), (3, .int x3), (4, .int v4)] → W p l e { frames := 2, cells := 31, slots := 9520, locals := 35 } s m [.ref h0, .int x1, .int x2, .int x3].toArray below meth c H locs 28 9480 (cx_ZN (dC, dI) classes below [.ref h0, .int x1, .int x2, .int x3] s h0 (fun a => wSR tC (cxD a) srR ++ wFB tC (cxD a 2) fbR ++ wRS tC (cxD a 3) rsR ++ wSS tC (cxD a 4) ssR ++ wNU tC (cxD a 5) nuR ++ wFS tC (cxD a 6) fsR ++ wCO tC (cxD a 7) coR ++ wLA tC (cxD a 1) laR) 31 9520 A) (F0 m 130 ls [.int t, .int 1, .int x2]) := by
    intro H locs ls hP hD hS hl
    refine cx_callS (As := [.int x2, .int 1, .int t]) (rest := []) ⟨hx, hb, hml, hown, hts⟩ (c_SR_nearest l dC dI tC  x2 1 t (f_SR_nearest x2 1 t) rfl) (k_SR_77 hts ⟨Nat.le_of_ble_eq_true rfl, Nat.le_of_ble_eq_true rfl⟩) hl.1 hP hD hS hA hK hN [] rfl rfl rfl rfl rfl (Nat.le_of_ble_eq_true rfl) d_SR_init_130 ⟨Nat.le_of_ble_eq_true rfl, Nat.le_of_ble_eq_true rfl⟩ (fun H locs hP hD hS => ?_)
    have hP : va_P (dC, dI) classes ([(h0, .inr (0, [.null, .ref (aFB 0), .ref (aRS 0), .ref (aSS 0), .ref (aNU 0), .ref (aFS 0), .ref (aCO 0), .long 0, .long (-10000000000000), .int 0, .int 1, .int 0, .int 0, .int 0]))] ++ wFB tC aFB fb ++ wRS tC aRS rs ++ wSS tC aSS ss ++ wNU tC aNU nu ++ wFS tC aFS fs ++ wCO tC aCO co) H := hP
    have hD : va_D A ([(h0, .inr (0, [.null, .ref (aFB 0), .ref (aRS 0), .ref (aSS 0), .ref (aNU 0), .ref (aFS 0), .ref (aCO 0), .long 0, .long (-10000000000000), .int 0, .int 1, .int 0, .int 0, .int 0]))] ++ wFB tC aFB fb ++ wRS tC aRS rs ++ wSS tC aSS ss ++ wNU tC aNU nu ++ wFS tC aFS fs ++ wCO tC aCO co) := hD
    refine W.eq (g2 := F0 m 133 ls [.int (f_SR_nearest x2 1 t)]) rfl ?_
    refine lv_topi (fun v5 h_v5 => ?_)
    have hf := g_let hf h_v5
    refine lv_istore (lv' := [(5, .int v5), (0, .ref h0), (3, .int x3), (4, .int v4)]) hx hb d_SR_init_133 hl (by decide) rfl (fun ls hl => ?_)
    refine lv_iload hx hb d_SR_init_135 (lv_at hl 3 rfl) ?_
    refine lv_iconst (v := 1) hx hb d_SR_init_137 (by decide) ?_
    obtain ⟨t_1, hB_155⟩ : ∃ z : Int32, z = f_SR_init_B138 v4 v5 := ⟨_, rfl⟩
    have hf := g_let hf hB_155
    have hB_155 := hB_155.symm
    try dsimp only at hf
    have K_155 : ∀ (H : Heap) (locs : List Loc) (ls : Array Slot), va_P (dC, dI) classes ([(h0, .inr (0, [.null, .ref (aFB 0), .ref (aRS 0), .ref (aSS 0), .ref (aNU 0), .ref (aFS 0), .ref (aCO 0), .long 0, .long (-10000000000000), .int 0, .int 1, .int 0, .int 0, .int 0]))] ++ wFB tC aFB fb ++ wRS tC aRS rs ++ wSS tC aSS ss ++ wNU tC aNU nu ++ wFS tC aFS fs ++ wCO tC aCO co) H → va_D A ([(h0, .inr (0, [.null, .ref (aFB 0), .ref (aRS 0), .ref (aSS 0), .ref (aNU 0), .ref (aFS 0), .ref (aCO 0), .long 0, .long (-10000000000000), .int 0, .int 1, .int 0, .int 0, .int 0]))] ++ wFB tC aFB fb ++ wRS tC aRS rs ++ wSS tC aSS ss ++ wNU tC aNU nu ++ wFS tC aFS fs ++ wCO tC aCO co) → va_S A s.heap H locs → lv_has ls 7 [(0, .ref h0), (3, .int x3), (4, .int v4), (5, .int v5)] → W p l e { frames := 2, cells := 31, slots := 9520, locals := 35 } s m [.ref h0, .int x1, .int x2, .int x3].toArray below meth c H locs 28 9480 (cx_ZN (dC, dI) classes below [.ref h0, .int x1, .int x2, .int x3] s h0 (fun a => wSR tC (cxD a) srR ++ wFB tC (cxD a 2) fbR ++ wRS tC (cxD a 3) rsR ++ wSS tC (cxD a 4) ssR ++ wNU tC (cxD a 5) nuR ++ wFS tC (cxD a 6) fsR ++ wCO tC (cxD a 7) coR ++ wLA tC (cxD a 1) laR) 31 9520 A) (F0 m 155 ls [.int t_1]) := by
      intro H locs ls hP hD hS hl
      refine lv_istore (lv' := [(6, .int t_1), (0, .ref h0), (3, .int x3), (4, .int v4), (5, .int v5)]) hx hb d_SR_init_155 hl (by decide) rfl (fun ls hl => ?_)
      refine lv_aload_n hx hb d_SR_init_157 rfl (lv_at hl 1 rfl) ?_
      refine va_new (ci := 1) (fs := [.int 0, .long 0, .long 0, .null, .null, .long 0, .int 0, .int 0]) (C := R_LA) (T := F_LA) (N := 8) hx hb hts (in_LA _) t_LA t_LA_ok hown (hts _ (List.mem_cons_of_mem _ mw_193)) (hts _ (List.mem_cons_of_mem _ mw_194)) (hts _ (List.mem_cons_of_mem _ mw_8)) hK hP hD hS hA rfl (fun j hj => by rcases (show j = 0 ∨ j = 1 ∨ j = 2 ∨ j = 3 ∨ j = 4 ∨ j = 5 ∨ j = 6 ∨ j = 7 by omega) with rfl | rfl | rfl | rfl | rfl | rfl | rfl | rfl <;> rfl) (Nat.le_of_ble_eq_true rfl) (Nat.le_of_ble_eq_true rfl) d_SR_init_158 (fun q_6 H hP hD hS => ?_)
      refine W.widen (k := 29) (n := 9488) (Nat.le_of_ble_eq_true rfl) (Nat.le_of_ble_eq_true rfl) ?_
      have hP : va_P (dC, dI) classes ([(h0, .inr (0, [.null, .ref (aFB 0), .ref (aRS 0), .ref (aSS 0), .ref (aNU 0), .ref (aFS 0), .ref (aCO 0), .long 0, .long (-10000000000000), .int 0, .int 1, .int 0, .int 0, .int 0]))] ++ wFB tC aFB fb ++ wRS tC aRS rs ++ wSS tC aSS ss ++ wNU tC aNU nu ++ wFS tC aFS fs ++ wCO tC aCO co ++ [(q_6, .inr (1, [.int 0, .long 0, .long 0, .null, .null, .long 0, .int 0, .int 0]))]) H := hP
      have hD : va_D A ([(h0, .inr (0, [.null, .ref (aFB 0), .ref (aRS 0), .ref (aSS 0), .ref (aNU 0), .ref (aFS 0), .ref (aCO 0), .long 0, .long (-10000000000000), .int 0, .int 1, .int 0, .int 0, .int 0]))] ++ wFB tC aFB fb ++ wRS tC aRS rs ++ wSS tC aSS ss ++ wNU tC aNU nu ++ wFS tC aFS fs ++ wCO tC aCO co ++ [(q_6, .inr (1, [.int 0, .long 0, .long 0, .null, .null, .long 0, .int 0, .int 0]))]) := hD
      refine lv_dup hx hb d_SR_init_161 rfl ?_
      refine lv_iload hx hb d_SR_init_162 (lv_at hl 3 rfl) ?_
      refine lv_iload hx hb d_SR_init_164 (lv_at hl 4 rfl) ?_
      refine lv_iload_n hx hb d_SR_init_166 rfl (lv_at hl 2 rfl) ?_
      refine lv_iload hx hb d_SR_init_167 (lv_at hl 0 rfl) ?_
      refine lv_ldc (v := 65536) hx hb hown (hts _ (List.mem_cons_of_mem _ mw_192)) d_SR_init_169 ?_
      refine cx_callS (As := [.int x3, .int t_1, .int 65536]) (rest := [.int v5, .int v4, .ref q_6, .ref q_6, .ref h0]) ⟨hx, hb, hml, hown, hts⟩ (c_SR_nearest l dC dI tC  x3 t_1 65536 (f_SR_nearest x3 t_1 65536) rfl) (k_SR_77 hts ⟨Nat.le_of_ble_eq_true rfl, Nat.le_of_ble_eq_true rfl⟩) hl.1 hP hD hS hA hK hN [] rfl rfl rfl rfl rfl (Nat.le_of_ble_eq_true rfl) d_SR_init_171 ⟨Nat.le_of_ble_eq_true rfl, Nat.le_of_ble_eq_true rfl⟩ (fun H locs hP hD hS => ?_)
      have hP : va_P (dC, dI) classes ([(h0, .inr (0, [.null, .ref (aFB 0), .ref (aRS 0), .ref (aSS 0), .ref (aNU 0), .ref (aFS 0), .ref (aCO 0), .long 0, .long (-10000000000000), .int 0, .int 1, .int 0, .int 0, .int 0]))] ++ wFB tC aFB fb ++ wRS tC aRS rs ++ wSS tC aSS ss ++ wNU tC aNU nu ++ wFS tC aFS fs ++ wCO tC aCO co ++ [(q_6, .inr (1, [.int 0, .long 0, .long 0, .null, .null, .long 0, .int 0, .int 0]))]) H := hP
      have hD : va_D A ([(h0, .inr (0, [.null, .ref (aFB 0), .ref (aRS 0), .ref (aSS 0), .ref (aNU 0), .ref (aFS 0), .ref (aCO 0), .long 0, .long (-10000000000000), .int 0, .int 1, .int 0, .int 0, .int 0]))] ++ wFB tC aFB fb ++ wRS tC aRS rs ++ wSS tC aSS ss ++ wNU tC aNU nu ++ wFS tC aFS fs ++ wCO tC aCO co ++ [(q_6, .inr (1, [.int 0, .long 0, .long 0, .null, .null, .long 0, .int 0, .int 0]))]) := hD
      refine W.eq (g2 := F0 m 174 ls [.int (f_SR_nearest x3 t_1 65536), .int v5, .int v4, .ref q_6, .ref q_6, .ref h0]) rfl ?_
      obtain ⟨la, hc_la⟩ : ∃ z : LAt, z = f_LA_init v4 v5 (f_SR_nearest x3 t_1 65536) := ⟨_, rfl⟩
      have hf := g_let hf hc_la
      refine cx_callI (As := [.int v4, .int v5, .int (f_SR_nearest x3 t_1 65536)]) (rest := [.ref q_6, .ref h0]) ⟨hx, hb, hml, hown, hts⟩ (c_LA_init l dC dI tC q_6 v4 v5 (f_SR_nearest x3 t_1 65536) la hc_la.symm) (cwI 3 hts (gi_C mw_197) rfl rfl rfl (hts _ (List.mem_cons_of_mem _ mw_8)) (hts _ (List.mem_cons_of_mem _ mw_195)) (hts _ (List.mem_cons_of_mem _ mw_196)) rfl (by decide +kernel) ⟨Nat.le_of_ble_eq_true rfl, Nat.le_of_ble_eq_true rfl⟩) hl.1 hP hD hS hA hK hN rfl rfl (Nat.le_of_ble_eq_true rfl) d_SR_init_174 ⟨Nat.le_of_ble_eq_true rfl, Nat.le_of_ble_eq_true rfl⟩ (fun aLA H locs ha_aLA hP9 hD9 hS9 => ?_)
      subst ha_aLA
      have hP := hP9
      have hD := hD9
      have hS := hS9
      clear hP9 hD9 hS9
      refine W.widen (k := 31) (n := 9520) (Nat.le_of_ble_eq_true rfl) (Nat.le_of_ble_eq_true rfl) ?_
      have hP : va_P (dC, dI) classes ([(h0, .inr (0, [.null, .ref (aFB 0), .ref (aRS 0), .ref (aSS 0), .ref (aNU 0), .ref (aFS 0), .ref (aCO 0), .long 0, .long (-10000000000000), .int 0, .int 1, .int 0, .int 0, .int 0]))] ++ wFB tC aFB fb ++ wRS tC aRS rs ++ wSS tC aSS ss ++ wNU tC aNU nu ++ wFS tC aFS fs ++ wCO tC aCO co ++ wLA tC aLA la) H := hP
      have hD : va_D A ([(h0, .inr (0, [.null, .ref (aFB 0), .ref (aRS 0), .ref (aSS 0), .ref (aNU 0), .ref (aFS 0), .ref (aCO 0), .long 0, .long (-10000000000000), .int 0, .int 1, .int 0, .int 0, .int 0]))] ++ wFB tC aFB fb ++ wRS tC aRS rs ++ wSS tC aSS ss ++ wNU tC aNU nu ++ wFS tC aFS fs ++ wCO tC aCO co ++ wLA tC aLA la) := hD
      refine W.eq (g2 := F0 m 177 ls [.ref (aLA 0), .ref h0]) rfl ?_
      refine va_putF (D := (dC, dI)) (ci := 0) (v := .ref (aLA 0)) (ty := .object "SpanRules$Layout") (C := R_SR) (T := F_SR) (N := 14) hx hb hts (in_SR _) t_SR t_SR_ok n_SR hown hK hP hD hS 0 rfl rfl 0 (by decide) (hts _ (List.mem_cons_of_mem _ mw_232)) (fun _ h9 => h9) rfl hin rfl (by decide +kernel) rfl rfl (Nat.le_of_ble_eq_true rfl) d_SR_init_177 (fun H locs hP hD hS => ?_)
      have hP : va_P (dC, dI) classes ([(h0, .inr (0, [.ref (aLA 0), .ref (aFB 0), .ref (aRS 0), .ref (aSS 0), .ref (aNU 0), .ref (aFS 0), .ref (aCO 0), .long 0, .long (-10000000000000), .int 0, .int 1, .int 0, .int 0, .int 0]))] ++ wFB tC aFB fb ++ wRS tC aRS rs ++ wSS tC aSS ss ++ wNU tC aNU nu ++ wFS tC aFS fs ++ wCO tC aCO co ++ wLA tC aLA la) H := hP
      have hD : va_D A ([(h0, .inr (0, [.ref (aLA 0), .ref (aFB 0), .ref (aRS 0), .ref (aSS 0), .ref (aNU 0), .ref (aFS 0), .ref (aCO 0), .long 0, .long (-10000000000000), .int 0, .int 1, .int 0, .int 0, .int 0]))] ++ wFB tC aFB fb ++ wRS tC aRS rs ++ wSS tC aSS ss ++ wNU tC aNU nu ++ wFS tC aFS fs ++ wCO tC aCO co ++ wLA tC aLA la) := hD
      obtain ⟨hq0, hr1⟩ := Prod.mk.inj (g_some hf)
      obtain ⟨hq1, hr2⟩ := Prod.mk.inj hr1
      obtain ⟨hq2, hr3⟩ := Prod.mk.inj hr2
      obtain ⟨hq3, hr4⟩ := Prod.mk.inj hr3
      obtain ⟨hq4, hr5⟩ := Prod.mk.inj hr4
      obtain ⟨hq5, hr6⟩ := Prod.mk.inj hr5
      obtain ⟨hq6, hr7⟩ := Prod.mk.inj hr6
      subst hq0
      subst hq1
      subst hq2
      subst hq3
      subst hq4
      subst hq5
      subst hq6
      subst hr7
      exact cx_vretN (mk := fun a => wSR tC (cxD a) ((((0, (-10000000000000)), (0, 1)), ((0, 0), 0)) : SRt) ++ wFB tC (cxD a 2) fb ++ wRS tC (cxD a 3) rs ++ wSS tC (cxD a 4) ss ++ wNU tC (cxD a 5) nu ++ wFS tC (cxD a 6) fs ++ wCO tC (cxD a 7) co ++ wLA tC (cxD a 1) la) hx hb hr hlocks (cxE h0 aLA aFB aRS aSS aNU aFS aCO) rfl hP hD hS d_SR_init_180
    have hf := hB_155
    unfold f_SR_init_B138 at hf
    refine lv_icmp_ne (tgt := 154) hx hb d_SR_init_138 (by decide) (fun cb_1 => ?_) (fun cb_1 => ?_)
    · have hf := g_f hf cb_1
      refine lv_iconst (v := 1) hx hb d_SR_init_154 (by decide) ?_
      have hq0 := hf
      subst hq0
      exact K_155 _ _ _ hP hD hS (lv_sub hl [1, 2, 3, 0] rfl)
    · have hf := g_t hf cb_1
      refine lv_iload hx hb d_SR_init_141 (lv_at hl 0 rfl) ?_
      refine lv_bipush (v := 16) hx hb d_SR_init_143 (by decide) ?_
      refine lv_iadd hx hb d_SR_init_145 ?_
      refine lv_iconst (v := 1) hx hb d_SR_init_146 (by decide) ?_
      refine lv_isub hx hb d_SR_init_147 ?_
      refine lv_bipush (v := 16) hx hb d_SR_init_148 (by decide) ?_
      refine lv_idiv hx hb d_SR_init_150 (by decide) ?_
      refine lv_goto (tgt := 155) hx hb d_SR_init_151 (by decide) ?_
      have hq0 := hf
      subst hq0
      exact K_155 _ _ _ hP hD hS (lv_sub hl [1, 2, 3, 0] rfl)
  have hf := hB_130
  unfold f_SR_init_B120 at hf
  refine lv_icmp_ne (tgt := 128) hx hb d_SR_init_120 (by decide) (fun cb => ?_) (fun cb => ?_)
  · have hf := g_f hf cb
    refine lv_ldc (v := 65536) hx hb hown (hts _ (List.mem_cons_of_mem _ mw_192)) d_SR_init_128 ?_
    have hq0 := hf
    subst hq0
    exact K_130 _ _ _ hP hD hS (lv_sub hl [1, 4, 0] rfl)
  · have hf := g_t hf cb
    refine lv_bipush (v := 12) hx hb d_SR_init_123 (by decide) ?_
    refine lv_goto (tgt := 130) hx hb d_SR_init_125 (by decide) ?_
    have hq0 := hf
    subst hq0
    exact K_130 _ _ _ hP hD hS (lv_sub hl [1, 4, 0] rfl)
