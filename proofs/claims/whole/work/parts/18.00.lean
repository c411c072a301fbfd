theorem mw_22 : (Jvm.Cond.instanceMethod ({ cls := "java/lang/Object", name := "<init>", desc := "()V" } : Jvm.MethodName)) ∈ ww := ww_mem (List.mem_append_right _ (List.mem_append_left _ (List.mem_of_getElem? (i := 22) rfl))) rfl
theorem mw_23 : (Jvm.Cond.code ({ cls := "java/lang/Object", name := "<init>", desc := "()V" } : Jvm.MethodName) object_method_1_code (1 : Nat) (Option.none : Option Jvm.ClassFile.FieldType)) ∈ ww := ww_mem (List.mem_append_right _ (List.mem_append_left _ (List.mem_of_getElem? (i := 23) rfl))) rfl
theorem mw_29 : (Jvm.Cond.methodLink "SpanRules$Forbidden" (3 : Nat) ({ cls := "java/lang/Object", name := "<init>", desc := "()V" } : Jvm.MethodName)) ∈ ww := ww_mem (List.mem_append_right _ (List.mem_append_left _ (List.mem_of_getElem? (i := 29) rfl))) rfl
theorem mw_37 : (Jvm.Cond.arrayClass Jvm.ClassFile.FieldType.long) ∈ ww := ww_mem (List.mem_append_right _ (List.mem_append_left _ (List.mem_of_getElem? (i := 37) rfl))) rfl
theorem mw_38 : (Jvm.Cond.arrayClass Jvm.ClassFile.FieldType.int) ∈ ww := ww_mem (List.mem_append_right _ (List.mem_append_left _ (List.mem_of_getElem? (i := 38) rfl))) rfl
theorem mw_44 : (Jvm.Cond.methodLink "SpanRules$RowStore" (3 : Nat) ({ cls := "java/lang/Object", name := "<init>", desc := "()V" } : Jvm.MethodName)) ∈ ww := ww_mem (List.mem_append_right _ (List.mem_append_left _ (List.mem_of_getElem? (i := 44) rfl))) rfl
theorem mw_74 : (Jvm.Cond.arrayClass Jvm.ClassFile.FieldType.boolean) ∈ ww := ww_mem (List.mem_append_right _ (List.mem_append_left _ (List.mem_of_getElem? (i := 74) rfl))) rfl
theorem mw_80 : (Jvm.Cond.methodLink "SpanRules$SpanStore" (3 : Nat) ({ cls := "java/lang/Object", name := "<init>", desc := "()V" } : Jvm.MethodName)) ∈ ww := ww_mem (List.mem_append_right _ (List.mem_append_left _ (List.mem_of_getElem? (i := 80) rfl))) rfl
theorem mw_134 : (Jvm.Cond.methodLink "SpanRules$Numbering" (3 : Nat) ({ cls := "java/lang/Object", name := "<init>", desc := "()V" } : Jvm.MethodName)) ∈ ww := ww_mem (List.mem_append_right _ (List.mem_append_left _ (List.mem_of_getElem? (i := 134) rfl))) rfl
theorem mw_135 : (Jvm.Cond.fieldLink "SpanRules$Numbering" (9 : Nat) "SpanRules$Numbering" "numbered" "[I") ∈ ww := ww_mem (List.mem_append_right _ (List.mem_append_left _ (List.mem_of_getElem? (i := 135) rfl))) rfl
theorem mw_137 : (Jvm.Cond.fieldLink "SpanRules$Numbering" (15 : Nat) "SpanRules$Numbering" "begins" "[J") ∈ ww := ww_mem (List.mem_append_right _ (List.mem_append_left _ (List.mem_of_getElem? (i := 137) rfl))) rfl
theorem mw_149 : (Jvm.Cond.methodLink "SpanRules$FiringStore" (3 : Nat) ({ cls := "java/lang/Object", name := "<init>", desc := "()V" } : Jvm.MethodName)) ∈ ww := ww_mem (List.mem_append_right _ (List.mem_append_left _ (List.mem_of_getElem? (i := 149) rfl))) rfl
theorem mw_171 : (Jvm.Cond.methodLink "SpanRules$Contents" (1 : Nat) ({ cls := "java/lang/Object", name := "<init>", desc := "()V" } : Jvm.MethodName)) ∈ ww := ww_mem (List.mem_append_right _ (List.mem_append_left _ (List.mem_of_getElem? (i := 171) rfl))) rfl
theorem mw_198 : (Jvm.Cond.methodLink "SpanRules$Layout" (3 : Nat) ({ cls := "java/lang/Object", name := "<init>", desc := "()V" } : Jvm.MethodName)) ∈ ww := ww_mem (List.mem_append_right _ (List.mem_append_left _ (List.mem_of_getElem? (i := 198) rfl))) rfl
abbrev b_CO_init : ByteArray := prog_3_method_1_code
def y_CO_init : MethodName := ⟨R_CO, "<init>", "()V"⟩
def w_CO_init : List Cond := .code y_CO_init b_CO_init 1 (none) :: ww
abbrev b_FS_init : ByteArray := prog_4_method_1_code
def y_FS_init : MethodName := ⟨R_FS, "<init>", "()V"⟩
def w_FS_init : List Cond := .code y_FS_init b_FS_init 1 (none) :: ww
abbrev b_FB_init : ByteArray := prog_5_method_1_code
def y_FB_init : MethodName := ⟨R_FB, "<init>", "()V"⟩
def w_FB_init : List Cond := .code y_FB_init b_FB_init 1 (none) :: ww
abbrev b_NU_init : ByteArray := prog_7_method_1_code
def y_NU_init : MethodName := ⟨R_NU, "<init>", "()V"⟩
def w_NU_init : List Cond := .code y_NU_init b_NU_init 1 (none) :: ww
abbrev b_LA_init : ByteArray := prog_6_method_1_code
def y_LA_init : MethodName := ⟨R_LA, "<init>", "(III)V"⟩
def w_LA_init : List Cond := .code y_LA_init b_LA_init 4 (none) :: ww
abbrev b_RS_init : ByteArray := prog_8_method_1_code
def y_RS_init : MethodName := ⟨R_RS, "<init>", "()V"⟩
def w_RS_init : List Cond := .code y_RS_init b_RS_init 2 (none) :: ww
abbrev b_SS_init : ByteArray := prog_9_method_1_code
def y_SS_init : MethodName := ⟨R_SS, "<init>", "()V"⟩
def w_SS_init : List Cond := .code y_SS_init b_SS_init 2 (none) :: ww
theorem d_CO_init_0 : decode b_CO_init 0 = .ok (.aload_n 0, 1) := by decide +kernel
theorem d_CO_init_1 : decode b_CO_init 1 = .ok (.invokespecial 1, 3) := by decide +kernel
theorem d_CO_init_4 : decode b_CO_init 4 = .ok (.return_, 1) := by decide +kernel
theorem d_FS_init_0 : decode b_FS_init 0 = .ok (.aload_n 0, 1) := by decide +kernel
theorem d_FS_init_1 : decode b_FS_init 1 = .ok (.invokespecial 3, 3) := by decide +kernel
theorem d_FS_init_4 : decode b_FS_init 4 = .ok (.aload_n 0, 1) := by decide +kernel
theorem d_FS_init_5 : decode b_FS_init 5 = .ok (.sipush 4000, 3) := by decide +kernel
theorem d_FS_init_8 : decode b_FS_init 8 = .ok (.newarray .long, 2) := by decide +kernel
theorem d_FS_init_10 : decode b_FS_init 10 = .ok (.putfield 11, 3) := by decide +kernel
theorem d_FS_init_13 : decode b_FS_init 13 = .ok (.aload_n 0, 1) := by decide +kernel
theorem d_FS_init_14 : decode b_FS_init 14 = .ok (.iconst 0, 1) := by decide +kernel
theorem d_FS_init_15 : decode b_FS_init 15 = .ok (.putfield 15, 3) := by decide +kernel
theorem d_FS_init_18 : decode b_FS_init 18 = .ok (.aload_n 0, 1) := by decide +kernel
theorem d_FS_init_19 : decode b_FS_init 19 = .ok (.iconst 0, 1) := by decide +kernel
theorem d_FS_init_20 : decode b_FS_init 20 = .ok (.putfield 19, 3) := by decide +kernel
theorem d_FS_init_23 : decode b_FS_init 23 = .ok (.aload_n 0, 1) := by decide +kernel
theorem d_FS_init_24 : decode b_FS_init 24 = .ok (.iconst 0, 1) := by decide +kernel
theorem d_FS_init_25 : decode b_FS_init 25 = .ok (.putfield 22, 3) := by decide +kernel
theorem d_FS_init_28 : decode b_FS_init 28 = .ok (.return_, 1) := by decide +kernel
theorem d_FB_init_0 : decode b_FB_init 0 = .ok (.aload_n 0, 1) := by decide +kernel
theorem d_FB_init_1 : decode b_FB_init 1 = .ok (.invokespecial 3, 3) := by decide +kernel
theorem d_FB_init_4 : decode b_FB_init 4 = .ok (.aload_n 0, 1) := by decide +kernel
theorem d_FB_init_5 : decode b_FB_init 5 = .ok (.bipush 24, 2) := by decide +kernel
theorem d_FB_init_7 : decode b_FB_init 7 = .ok (.newarray .long, 2) := by decide +kernel
theorem d_FB_init_9 : decode b_FB_init 9 = .ok (.putfield 9, 3) := by decide +kernel
theorem d_FB_init_12 : decode b_FB_init 12 = .ok (.aload_n 0, 1) := by decide +kernel
theorem d_FB_init_13 : decode b_FB_init 13 = .ok (.iconst 3, 1) := by decide +kernel
theorem d_FB_init_14 : decode b_FB_init 14 = .ok (.newarray .int, 2) := by decide +kernel
theorem d_FB_init_16 : decode b_FB_init 16 = .ok (.putfield 15, 3) := by decide +kernel
theorem d_FB_init_19 : decode b_FB_init 19 = .ok (.return_, 1) := by decide +kernel
theorem d_NU_init_0 : decode b_NU_init 0 = .ok (.aload_n 0, 1) := by decide +kernel
theorem d_NU_init_1 : decode b_NU_init 1 = .ok (.invokespecial 3, 3) := by decide +kernel
theorem d_NU_init_4 : decode b_NU_init 4 = .ok (.aload_n 0, 1) := by decide +kernel
theorem d_NU_init_5 : decode b_NU_init 5 = .ok (.bipush 8, 2) := by decide +kernel
theorem d_NU_init_7 : decode b_NU_init 7 = .ok (.newarray .int, 2) := by decide +kernel
theorem d_NU_init_9 : decode b_NU_init 9 = .ok (.putfield 9, 3) := by decide +kernel
theorem d_NU_init_12 : decode b_NU_init 12 = .ok (.aload_n 0, 1) := by decide +kernel
theorem d_NU_init_13 : decode b_NU_init 13 = .ok (.bipush 8, 2) := by decide +kernel
theorem d_NU_init_15 : decode b_NU_init 15 = .ok (.newarray .long, 2) := by decide +kernel
theorem d_NU_init_17 : decode b_NU_init 17 = .ok (.putfield 15, 3) := by decide +kernel
theorem d_NU_init_20 : decode b_NU_init 20 = .ok (.return_, 1) := by decide +kernel
theorem d_LA_init_0 : decode b_LA_init 0 = .ok (.aload_n 0, 1) := by decide +kernel
theorem d_LA_init_1 : decode b_LA_init 1 = .ok (.invokespecial 3, 3) := by decide +kernel
theorem d_LA_init_4 : decode b_LA_init 4 = .ok (.aload_n 0, 1) := by decide +kernel
theorem d_LA_init_5 : decode b_LA_init 5 = .ok (.bipush 16, 2) := by decide +kernel
theorem d_LA_init_7 : decode b_LA_init 7 = .ok (.newarray .long, 2) := by decide +kernel
theorem d_LA_init_9 : decode b_LA_init 9 = .ok (.putfield 9, 3) := by decide +kernel
theorem d_LA_init_12 : decode b_LA_init 12 = .ok (.aload_n 0, 1) := by decide +kernel
theorem d_LA_init_13 : decode b_LA_init 13 = .ok (.bipush 16, 2) := by decide +kernel
theorem d_LA_init_15 : decode b_LA_init 15 = .ok (.newarray .long, 2) := by decide +kernel
theorem d_LA_init_17 : decode b_LA_init 17 = .ok (.putfield 15, 3) := by decide +kernel
theorem d_LA_init_20 : decode b_LA_init 20 = .ok (.aload_n 0, 1) := by decide +kernel
theorem d_LA_init_21 : decode b_LA_init 21 = .ok (.lconst 0, 1) := by decide +kernel
theorem d_LA_init_22 : decode b_LA_init 22 = .ok (.putfield 18, 3) := by decide +kernel
theorem d_LA_init_25 : decode b_LA_init 25 = .ok (.aload_n 0, 1) := by decide +kernel
theorem d_LA_init_26 : decode b_LA_init 26 = .ok (.iconst 0, 1) := by decide +kernel
theorem d_LA_init_27 : decode b_LA_init 27 = .ok (.putfield 22, 3) := by decide +kernel
theorem d_LA_init_30 : decode b_LA_init 30 = .ok (.aload_n 0, 1) := by decide +kernel
theorem d_LA_init_31 : decode b_LA_init 31 = .ok (.iconst 0, 1) := by decide +kernel
theorem d_LA_init_32 : decode b_LA_init 32 = .ok (.putfield 26, 3) := by decide +kernel
theorem d_LA_init_35 : decode b_LA_init 35 = .ok (.aload_n 0, 1) := by decide +kernel
theorem d_LA_init_36 : decode b_LA_init 36 = .ok (.iload_n 1, 1) := by decide +kernel
theorem d_LA_init_37 : decode b_LA_init 37 = .ok (.putfield 29, 3) := by decide +kernel
theorem d_LA_init_40 : decode b_LA_init 40 = .ok (.aload_n 0, 1) := by decide +kernel
theorem d_LA_init_41 : decode b_LA_init 41 = .ok (.iload_n 2, 1) := by decide +kernel
theorem d_LA_init_42 : decode b_LA_init 42 = .ok (.i2l, 1) := by decide +kernel
theorem d_LA_init_43 : decode b_LA_init 43 = .ok (.putfield 32, 3) := by decide +kernel
theorem d_LA_init_46 : decode b_LA_init 46 = .ok (.aload_n 0, 1) := by decide +kernel
theorem d_LA_init_47 : decode b_LA_init 47 = .ok (.iload_n 3, 1) := by decide +kernel
theorem d_LA_init_48 : decode b_LA_init 48 = .ok (.i2l, 1) := by decide +kernel
theorem d_LA_init_49 : decode b_LA_init 49 = .ok (.putfield 35, 3) := by decide +kernel
theorem d_LA_init_52 : decode b_LA_init 52 = .ok (.return_, 1) := by decide +kernel
theorem d_RS_init_0 : decode b_RS_init 0 = .ok (.aload_n 0, 1) := by decide +kernel
theorem d_RS_init_1 : decode b_RS_init 1 = .ok (.invokespecial 3, 3) := by decide +kernel
theorem d_RS_init_4 : decode b_RS_init 4 = .ok (.aload_n 0, 1) := by decide +kernel
theorem d_RS_init_5 : decode b_RS_init 5 = .ok (.sipush 300, 3) := by decide +kernel
theorem d_RS_init_8 : decode b_RS_init 8 = .ok (.newarray .int, 2) := by decide +kernel
theorem d_RS_init_10 : decode b_RS_init 10 = .ok (.putfield 9, 3) := by decide +kernel
theorem d_RS_init_13 : decode b_RS_init 13 = .ok (.aload_n 0, 1) := by decide +kernel
theorem d_RS_init_14 : decode b_RS_init 14 = .ok (.sipush 300, 3) := by decide +kernel
theorem d_RS_init_17 : decode b_RS_init 17 = .ok (.newarray .long, 2) := by decide +kernel
theorem d_RS_init_19 : decode b_RS_init 19 = .ok (.putfield 15, 3) := by decide +kernel
theorem d_RS_init_22 : decode b_RS_init 22 = .ok (.aload_n 0, 1) := by decide +kernel
theorem d_RS_init_23 : decode b_RS_init 23 = .ok (.sipush 300, 3) := by decide +kernel
theorem d_RS_init_26 : decode b_RS_init 26 = .ok (.newarray .long, 2) := by decide +kernel
theorem d_RS_init_28 : decode b_RS_init 28 = .ok (.putfield 19, 3) := by decide +kernel
theorem d_RS_init_31 : decode b_RS_init 31 = .ok (.aload_n 0, 1) := by decide +kernel
theorem d_RS_init_32 : decode b_RS_init 32 = .ok (.sipush 300, 3) := by decide +kernel
theorem d_RS_init_35 : decode b_RS_init 35 = .ok (.newarray .int, 2) := by decide +kernel
theorem d_RS_init_37 : decode b_RS_init 37 = .ok (.putfield 22, 3) := by decide +kernel
theorem d_RS_init_40 : decode b_RS_init 40 = .ok (.aload_n 0, 1) := by decide +kernel
theorem d_RS_init_41 : decode b_RS_init 41 = .ok (.sipush 300, 3) := by decide +kernel
theorem d_RS_init_44 : decode b_RS_init 44 = .ok (.newarray .boolean, 2) := by decide +kernel
theorem d_RS_init_46 : decode b_RS_init 46 = .ok (.putfield 25, 3) := by decide +kernel
theorem d_RS_init_49 : decode b_RS_init 49 = .ok (.aload_n 0, 1) := by decide +kernel
theorem d_RS_init_50 : decode b_RS_init 50 = .ok (.sipush 300, 3) := by decide +kernel
theorem d_RS_init_53 : decode b_RS_init 53 = .ok (.newarray .int, 2) := by decide +kernel
theorem d_RS_init_55 : decode b_RS_init 55 = .ok (.putfield 29, 3) := by decide +kernel
theorem d_RS_init_58 : decode b_RS_init 58 = .ok (.aload_n 0, 1) := by decide +kernel
theorem d_RS_init_59 : decode b_RS_init 59 = .ok (.iconst 0, 1) := by decide +kernel
theorem d_RS_init_60 : decode b_RS_init 60 = .ok (.putfield 32, 3) := by decide +kernel
theorem d_RS_init_63 : decode b_RS_init 63 = .ok (.iconst 0, 1) := by decide +kernel
theorem d_RS_init_64 : decode b_RS_init 64 = .ok (.istore_n 1, 1) := by decide +kernel
theorem d_RS_init_65 : decode b_RS_init 65 = .ok (.iload_n 1, 1) := by decide +kernel
theorem d_RS_init_66 : decode b_RS_init 66 = .ok (.sipush 300, 3) := by decide +kernel
theorem d_RS_init_69 : decode b_RS_init 69 = .ok (.if_icmp .ge 16, 3) := by decide +kernel
theorem d_RS_init_72 : decode b_RS_init 72 = .ok (.aload_n 0, 1) := by decide +kernel
theorem d_RS_init_73 : decode b_RS_init 73 = .ok (.getfield 29, 3) := by decide +kernel
theorem d_RS_init_76 : decode b_RS_init 76 = .ok (.iload_n 1, 1) := by decide +kernel
theorem d_RS_init_77 : decode b_RS_init 77 = .ok (.iload_n 1, 1) := by decide +kernel
theorem d_RS_init_78 : decode b_RS_init 78 = .ok (.iastore, 1) := by decide +kernel
theorem d_RS_init_79 : decode b_RS_init 79 = .ok (.iinc 1 1, 3) := by decide +kernel
theorem d_RS_init_82 : decode b_RS_init 82 = .ok (.goto (-17), 3) := by decide +kernel
theorem d_RS_init_85 : decode b_RS_init 85 = .ok (.return_, 1) := by decide +kernel
theorem d_SS_init_0 : decode b_SS_init 0 = .ok (.aload_n 0, 1) := by decide +kernel
theorem d_SS_init_1 : decode b_SS_init 1 = .ok (.invokespecial 3, 3) := by decide +kernel
theorem d_SS_init_4 : decode b_SS_init 4 = .ok (.aload_n 0, 1) := by decide +kernel
theorem d_SS_init_5 : decode b_SS_init 5 = .ok (.sipush 200, 3) := by decide +kernel
theorem d_SS_init_8 : decode b_SS_init 8 = .ok (.newarray .int, 2) := by decide +kernel
theorem d_SS_init_10 : decode b_SS_init 10 = .ok (.putfield 9, 3) := by decide +kernel
theorem d_SS_init_13 : decode b_SS_init 13 = .ok (.aload_n 0, 1) := by decide +kernel
theorem d_SS_init_14 : decode b_SS_init 14 = .ok (.sipush 200, 3) := by decide +kernel
theorem d_SS_init_17 : decode b_SS_init 17 = .ok (.newarray .long, 2) := by decide +kernel
theorem d_SS_init_19 : decode b_SS_init 19 = .ok (.putfield 15, 3) := by decide +kernel
theorem d_SS_init_22 : decode b_SS_init 22 = .ok (.aload_n 0, 1) := by decide +kernel
theorem d_SS_init_23 : decode b_SS_init 23 = .ok (.sipush 200, 3) := by decide +kernel
theorem d_SS_init_26 : decode b_SS_init 26 = .ok (.newarray .long, 2) := by decide +kernel
theorem d_SS_init_28 : decode b_SS_init 28 = .ok (.putfield 19, 3) := by decide +kernel
theorem d_SS_init_31 : decode b_SS_init 31 = .ok (.aload_n 0, 1) := by decide +kernel
theorem d_SS_init_32 : decode b_SS_init 32 = .ok (.sipush 200, 3) := by decide +kernel
theorem d_SS_init_35 : decode b_SS_init 35 = .ok (.newarray .int, 2) := by decide +kernel
theorem d_SS_init_37 : decode b_SS_init 37 = .ok (.putfield 22, 3) := by decide +kernel
theorem d_SS_init_40 : decode b_SS_init 40 = .ok (.aload_n 0, 1) := by decide +kernel
theorem d_SS_init_41 : decode b_SS_init 41 = .ok (.sipush 200, 3) := by decide +kernel
theorem d_SS_init_44 : decode b_SS_init 44 = .ok (.newarray .int, 2) := by decide +kernel
theorem d_SS_init_46 : decode b_SS_init 46 = .ok (.putfield 25, 3) := by decide +kernel
theorem d_SS_init_49 : decode b_SS_init 49 = .ok (.aload_n 0, 1) := by decide +kernel
theorem d_SS_init_50 : decode b_SS_init 50 = .ok (.sipush 200, 3) := by decide +kernel
theorem d_SS_init_53 : decode b_SS_init 53 = .ok (.newarray .boolean, 2) := by decide +kernel
theorem d_SS_init_55 : decode b_SS_init 55 = .ok (.putfield 28, 3) := by decide +kernel
theorem d_SS_init_58 : decode b_SS_init 58 = .ok (.aload_n 0, 1) := by decide +kernel
theorem d_SS_init_59 : decode b_SS_init 59 = .ok (.sipush 1000, 3) := by decide +kernel
theorem d_SS_init_62 : decode b_SS_init 62 = .ok (.newarray .long, 2) := by decide +kernel
theorem d_SS_init_64 : decode b_SS_init 64 = .ok (.putfield 32, 3) := by decide +kernel
theorem d_SS_init_67 : decode b_SS_init 67 = .ok (.aload_n 0, 1) := by decide +kernel
theorem d_SS_init_68 : decode b_SS_init 68 = .ok (.sipush 1000, 3) := by decide +kernel
theorem d_SS_init_71 : decode b_SS_init 71 = .ok (.newarray .long, 2) := by decide +kernel
theorem d_SS_init_73 : decode b_SS_init 73 = .ok (.putfield 35, 3) := by decide +kernel
theorem d_SS_init_76 : decode b_SS_init 76 = .ok (.aload_n 0, 1) := by decide +kernel
theorem d_SS_init_77 : decode b_SS_init 77 = .ok (.iconst 5, 1) := by decide +kernel
theorem d_SS_init_78 : decode b_SS_init 78 = .ok (.newarray .long, 2) := by decide +kernel
theorem d_SS_init_80 : decode b_SS_init 80 = .ok (.putfield 38, 3) := by decide +kernel
theorem d_SS_init_83 : decode b_SS_init 83 = .ok (.aload_n 0, 1) := by decide +kernel
theorem d_SS_init_84 : decode b_SS_init 84 = .ok (.sipush 200, 3) := by decide +kernel
theorem d_SS_init_87 : decode b_SS_init 87 = .ok (.newarray .int, 2) := by decide +kernel
theorem d_SS_init_89 : decode b_SS_init 89 = .ok (.putfield 41, 3) := by decide +kernel
theorem d_SS_init_92 : decode b_SS_init 92 = .ok (.aload_n 0, 1) := by decide +kernel
theorem d_SS_init_93 : decode b_SS_init 93 = .ok (.sipush 200, 3) := by decide +kernel
theorem d_SS_init_96 : decode b_SS_init 96 = .ok (.newarray .int, 2) := by decide +kernel
theorem d_SS_init_98 : decode b_SS_init 98 = .ok (.putfield 44, 3) := by decide +kernel
theorem d_SS_init_101 : decode b_SS_init 101 = .ok (.aload_n 0, 1) := by decide +kernel
theorem d_SS_init_102 : decode b_SS_init 102 = .ok (.iconst 0, 1) := by decide +kernel
theorem d_SS_init_103 : decode b_SS_init 103 = .ok (.putfield 47, 3) := by decide +kernel
theorem d_SS_init_106 : decode b_SS_init 106 = .ok (.iconst 0, 1) := by decide +kernel
theorem d_SS_init_107 : decode b_SS_init 107 = .ok (.istore_n 1, 1) := by decide +kernel
theorem d_SS_init_108 : decode b_SS_init 108 = .ok (.iload_n 1, 1) := by decide +kernel
theorem d_SS_init_109 : decode b_SS_init 109 = .ok (.sipush 200, 3) := by decide +kernel
theorem d_SS_init_112 : decode b_SS_init 112 = .ok (.if_icmp .ge 16, 3) := by decide +kernel
theorem d_SS_init_115 : decode b_SS_init 115 = .ok (.aload_n 0, 1) := by decide +kernel
theorem d_SS_init_116 : decode b_SS_init 116 = .ok (.getfield 44, 3) := by decide +kernel
theorem d_SS_init_119 : decode b_SS_init 119 = .ok (.iload_n 1, 1) := by decide +kernel
theorem d_SS_init_120 : decode b_SS_init 120 = .ok (.iload_n 1, 1) := by decide +kernel
theorem d_SS_init_121 : decode b_SS_init 121 = .ok (.iastore, 1) := by decide +kernel
theorem d_SS_init_122 : decode b_SS_init 122 = .ok (.iinc 1 1, 3) := by decide +kernel
theorem d_SS_init_125 : decode b_SS_init 125 = .ok (.goto (-17), 3) := by decide +kernel
theorem d_SS_init_128 : decode b_SS_init 128 = .ok (.return_, 1) := by decide +kernel
def cxA (l : List Nat) : Nat → Nat := fun i => l.getD i 0
