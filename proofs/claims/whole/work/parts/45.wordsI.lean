theorem hw_21 : (Jvm.Cond.methodLink "LazyMotion" (3 : Nat) ({ cls := "java/lang/Object", name := "<init>", desc := "()V" } : Jvm.MethodName)) ∈ lw_g := wk_in 21 (by decide +kernel) (by decide +kernel)
theorem hw_22 : (Jvm.Cond.instanceMethod ({ cls := "java/lang/Object", name := "<init>", desc := "()V" } : Jvm.MethodName)) ∈ lw_g := wk_in 22 (by decide +kernel) (by decide +kernel)
theorem hw_23 : (Jvm.Cond.code ({ cls := "java/lang/Object", name := "<init>", desc := "()V" } : Jvm.MethodName) object_method_1_code (1 : Nat) (Option.none : Option Jvm.ClassFile.FieldType)) ∈ lw_g := wk_in 23 (by decide +kernel) (by decide +kernel)
theorem hw_24 : (Jvm.Cond.classLink "LazyMotion" (9 : Nat) "LazyMotion$Program") ∈ lw_g := wk_in 24 (by decide +kernel) (by decide +kernel)
theorem hw_25 : (Jvm.Cond.instantiable "LazyMotion$Program" (13 : Nat)) ∈ lw_g := wk_in 25 (by decide +kernel) (by decide +kernel)
theorem hw_27 : (Jvm.Cond.instanceMethod ({ cls := "LazyMotion$Program", name := "<init>", desc := "()V" } : Jvm.MethodName)) ∈ lw_g := wk_in 27 (by decide +kernel) (by decide +kernel)
theorem hw_28 : (Jvm.Cond.code ({ cls := "LazyMotion$Program", name := "<init>", desc := "()V" } : Jvm.MethodName) prog_4_method_1_code (1 : Nat) (Option.none : Option Jvm.ClassFile.FieldType)) ∈ lw_g := wk_in 28 (by decide +kernel) (by decide +kernel)
theorem hw_29 : (Jvm.Cond.methodLink "LazyMotion$Program" (3 : Nat) ({ cls := "java/lang/Object", name := "<init>", desc := "()V" } : Jvm.MethodName)) ∈ lw_g := wk_in 29 (by decide +kernel) (by decide +kernel)
theorem hw_89 : (Jvm.Cond.arrayClass Jvm.ClassFile.FieldType.int) ∈ lw_g := wk_in 89 (by decide +kernel) (by decide +kernel)
theorem hw_90 : (Jvm.Cond.arrayClass Jvm.ClassFile.FieldType.long) ∈ lw_g := wk_in 90 (by decide +kernel) (by decide +kernel)
theorem hw_91 : (Jvm.Cond.classLink "LazyMotion" (12 : Nat) "LazyMotion$Motion") ∈ lw_g := wk_in 91 (by decide +kernel) (by decide +kernel)
theorem hw_92 : (Jvm.Cond.instantiable "LazyMotion$Motion" (11 : Nat)) ∈ lw_g := wk_in 92 (by decide +kernel) (by decide +kernel)
theorem hw_93 : (Jvm.Cond.methodLink "LazyMotion" (14 : Nat) ({ cls := "LazyMotion$Motion", name := "<init>", desc := "(LLazyMotion$Program;)V" } : Jvm.MethodName)) ∈ lw_g := wk_in 93 (by decide +kernel) (by decide +kernel)
theorem hw_94 : (Jvm.Cond.instanceMethod ({ cls := "LazyMotion$Motion", name := "<init>", desc := "(LLazyMotion$Program;)V" } : Jvm.MethodName)) ∈ lw_g := wk_in 94 (by decide +kernel) (by decide +kernel)
theorem hw_95 : (Jvm.Cond.code ({ cls := "LazyMotion$Motion", name := "<init>", desc := "(LLazyMotion$Program;)V" } : Jvm.MethodName) prog_3_method_1_code (2 : Nat) (Option.none : Option Jvm.ClassFile.FieldType)) ∈ lw_g := wk_in 95 (by decide +kernel) (by decide +kernel)
theorem hw_96 : (Jvm.Cond.methodLink "LazyMotion$Motion" (3 : Nat) ({ cls := "java/lang/Object", name := "<init>", desc := "()V" } : Jvm.MethodName)) ∈ lw_g := wk_in 96 (by decide +kernel) (by decide +kernel)
theorem hw_132 : (Jvm.Cond.arrayClass Jvm.ClassFile.FieldType.boolean) ∈ lw_g := wk_in 132 (by decide +kernel) (by decide +kernel)
theorem hw_133 : (Jvm.Cond.classLink "LazyMotion" (25 : Nat) "LazyMotion$Machine") ∈ lw_g := wk_in 133 (by decide +kernel) (by decide +kernel)
theorem hw_134 : (Jvm.Cond.instantiable "LazyMotion$Machine" (9 : Nat)) ∈ lw_g := wk_in 134 (by decide +kernel) (by decide +kernel)
theorem hw_135 : (Jvm.Cond.methodLink "LazyMotion" (27 : Nat) ({ cls := "LazyMotion$Machine", name := "<init>", desc := "(LLazyMotion$Program;LLazyMotion$Motion;)V" } : Jvm.MethodName)) ∈ lw_g := wk_in 135 (by decide +kernel) (by decide +kernel)
theorem hw_136 : (Jvm.Cond.instanceMethod ({ cls := "LazyMotion$Machine", name := "<init>", desc := "(LLazyMotion$Program;LLazyMotion$Motion;)V" } : Jvm.MethodName)) ∈ lw_g := wk_in 136 (by decide +kernel) (by decide +kernel)
theorem hw_137 : (Jvm.Cond.code ({ cls := "LazyMotion$Machine", name := "<init>", desc := "(LLazyMotion$Program;LLazyMotion$Motion;)V" } : Jvm.MethodName) prog_2_method_1_code (3 : Nat) (Option.none : Option Jvm.ClassFile.FieldType)) ∈ lw_g := wk_in 137 (by decide +kernel) (by decide +kernel)
theorem hw_138 : (Jvm.Cond.methodLink "LazyMotion$Machine" (3 : Nat) ({ cls := "java/lang/Object", name := "<init>", desc := "()V" } : Jvm.MethodName)) ∈ lw_g := wk_in 138 (by decide +kernel) (by decide +kernel)
theorem hw_581 : (Jvm.Cond.methodLink "LazyMotionModel" (1 : Nat) ({ cls := "java/lang/Object", name := "<init>", desc := "()V" } : Jvm.MethodName)) ∈ lw_g := wk_in 581 (by decide +kernel) (by decide +kernel)
theorem hw_600 : (Jvm.Cond.fieldLink "LazyMotionModel" (47 : Nat) "LazyMotionModel" "before" "[Z") ∈ lw_g := wk_in 600 (by decide +kernel) (by decide +kernel)
theorem hw_603 : (Jvm.Cond.fieldLink "LazyMotionModel" (56 : Nat) "LazyMotionModel" "later" "[Z") ∈ lw_g := wk_in 603 (by decide +kernel) (by decide +kernel)
def ke_P_init : MethodName := ⟨kr_P, "<init>", "()V"⟩
abbrev kc_P_init : Cond := .code ke_P_init prog_4_method_1_code 1 none
def ke_O_init : MethodName := ⟨kr_O, "<init>", "(LLazyMotion$Program;)V"⟩
abbrev kc_O_init : Cond := .code ke_O_init prog_3_method_1_code 2 none
def ke_K_init : MethodName := ⟨kr_K, "<init>", "(LLazyMotion$Program;LLazyMotion$Motion;)V"⟩
abbrev kc_K_init : Cond := .code ke_K_init prog_2_method_1_code 3 none
def ke_C_init : MethodName := ⟨kr_C, "<init>", "()V"⟩
abbrev kc_C_init : Cond := .code ke_C_init prog_1_method_1_code 3 none
def ke_M_init : MethodName := ⟨kr_M, "<init>", "()V"⟩
abbrev kc_M_init : Cond := .code ke_M_init prog_6_method_1_code 1 none
