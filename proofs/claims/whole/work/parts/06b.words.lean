/-! ===== the tables' words, by their places ===== -/
theorem ps_inT {w : Cond} (h : w ∈ tables_1) (hg : goodWord w = true) : w ∈ ps_W := List.mem_filter.mpr ⟨List.mem_append_right _ h, hg⟩
theorem ps_in0 {w : Cond} (h : w ∈ k2_sels lw_privs) (hg : goodWord w = true) : w ∈ ps_W := List.mem_filter.mpr ⟨List.mem_append_left _ h, hg⟩
theorem ps_in1 {w : Cond} (i : Nat) (h : tables_1_1[i]? = some w) (hg : goodWord w = true) : w ∈ ps_W := ps_inT (by unfold tables_1; exact List.mem_append_left _ (List.mem_of_getElem? h)) hg
theorem ps_in2 {w : Cond} (i : Nat) (h : tables_1_2[i]? = some w) (hg : goodWord w = true) : w ∈ ps_W := ps_inT (by unfold tables_1; exact List.mem_append_right _ (List.mem_append_left _ (List.mem_of_getElem? h))) hg
theorem ps_in3 {w : Cond} (i : Nat) (h : tables_1_3[i]? = some w) (hg : goodWord w = true) : w ∈ ps_W := ps_inT (by unfold tables_1; exact List.mem_append_right _ (List.mem_append_right _ (List.mem_append_left _ (List.mem_of_getElem? h)))) hg
theorem ps_in4 {w : Cond} (i : Nat) (h : tables_1_4[i]? = some w) (hg : goodWord w = true) : w ∈ ps_W := ps_inT (by unfold tables_1; exact List.mem_append_right _ (List.mem_append_right _ (List.mem_append_right _ (List.mem_append_left _ (List.mem_of_getElem? h))))) hg
theorem ps_in5 {w : Cond} (i : Nat) (h : tables_1_5[i]? = some w) (hg : goodWord w = true) : w ∈ ps_W := ps_inT (by unfold tables_1; exact List.mem_append_right _ (List.mem_append_right _ (List.mem_append_right _ (List.mem_append_right _ (List.mem_append_left _ (List.mem_of_getElem? h)))))) hg
theorem ps_in6 {w : Cond} (i : Nat) (h : tables_1_6[i]? = some w) (hg : goodWord w = true) : w ∈ ps_W := ps_inT (by unfold tables_1; exact List.mem_append_right _ (List.mem_append_right _ (List.mem_append_right _ (List.mem_append_right _ (List.mem_append_right _ (List.mem_append_left _ (List.mem_of_getElem? h))))))) hg
theorem ps_in7 {w : Cond} (i : Nat) (h : tables_1_7[i]? = some w) (hg : goodWord w = true) : w ∈ ps_W := ps_inT (by unfold tables_1; exact List.mem_append_right _ (List.mem_append_right _ (List.mem_append_right _ (List.mem_append_right _ (List.mem_append_right _ (List.mem_append_right _ (List.mem_append_left _ (List.mem_of_getElem? h)))))))) hg
theorem ps_in8 {w : Cond} (i : Nat) (h : tables_1_8[i]? = some w) (hg : goodWord w = true) : w ∈ ps_W := ps_inT (by unfold tables_1; exact List.mem_append_right _ (List.mem_append_right _ (List.mem_append_right _ (List.mem_append_right _ (List.mem_append_right _ (List.mem_append_right _ (List.mem_append_right _ (List.mem_append_left _ (List.mem_of_getElem? h))))))))) hg
theorem ps_in9 {w : Cond} (i : Nat) (h : tables_1_9[i]? = some w) (hg : goodWord w = true) : w ∈ ps_W := ps_inT (by unfold tables_1; exact List.mem_append_right _ (List.mem_append_right _ (List.mem_append_right _ (List.mem_append_right _ (List.mem_append_right _ (List.mem_append_right _ (List.mem_append_right _ (List.mem_append_right _ (List.mem_append_left _ (List.mem_of_getElem? h)))))))))) hg
theorem ps_in10 {w : Cond} (i : Nat) (h : tables_1_10[i]? = some w) (hg : goodWord w = true) : w ∈ ps_W := ps_inT (by unfold tables_1; exact List.mem_append_right _ (List.mem_append_right _ (List.mem_append_right _ (List.mem_append_right _ (List.mem_append_right _ (List.mem_append_right _ (List.mem_append_right _ (List.mem_append_right _ (List.mem_append_right _ (List.mem_append_left _ (List.mem_of_getElem? h))))))))))) hg
theorem ps_in11 {w : Cond} (i : Nat) (h : tables_1_11[i]? = some w) (hg : goodWord w = true) : w ∈ ps_W := ps_inT (by unfold tables_1; exact List.mem_append_right _ (List.mem_append_right _ (List.mem_append_right _ (List.mem_append_right _ (List.mem_append_right _ (List.mem_append_right _ (List.mem_append_right _ (List.mem_append_right _ (List.mem_append_right _ (List.mem_append_right _ (List.mem_append_left _ (List.mem_of_getElem? h)))))))))))) hg
theorem ps_in12 {w : Cond} (i : Nat) (h : tables_1_12[i]? = some w) (hg : goodWord w = true) : w ∈ ps_W := ps_inT (by unfold tables_1; exact List.mem_append_right _ (List.mem_append_right _ (List.mem_append_right _ (List.mem_append_right _ (List.mem_append_right _ (List.mem_append_right _ (List.mem_append_right _ (List.mem_append_right _ (List.mem_append_right _ (List.mem_append_right _ (List.mem_append_right _ (List.mem_append_left _ (List.mem_of_getElem? h))))))))))))) hg
theorem ps_in13 {w : Cond} (i : Nat) (h : tables_1_13[i]? = some w) (hg : goodWord w = true) : w ∈ ps_W := ps_inT (by unfold tables_1; exact List.mem_append_right _ (List.mem_append_right _ (List.mem_append_right _ (List.mem_append_right _ (List.mem_append_right _ (List.mem_append_right _ (List.mem_append_right _ (List.mem_append_right _ (List.mem_append_right _ (List.mem_append_right _ (List.mem_append_right _ (List.mem_append_right _ (List.mem_of_getElem? h))))))))))))) hg
theorem ps_w1_0 : (Jvm.Cond.initialized "PictureStudioLaw") ∈ ps_W := ps_in1 0 rfl rfl
theorem ps_w1_1 : (Jvm.Cond.initialized "PictureStudio") ∈ ps_W := ps_in1 1 rfl rfl
theorem ps_w1_2 : (Jvm.Cond.initialized "PictureStudio$Stand") ∈ ps_W := ps_in1 2 rfl rfl
theorem ps_w1_3 : (Jvm.Cond.initialized "PictureStudio$Looks") ∈ ps_W := ps_in1 3 rfl rfl
theorem ps_w1_4 : (Jvm.Cond.initialized "PictureStudio$Viewer") ∈ ps_W := ps_in1 4 rfl rfl
theorem ps_w1_5 : (Jvm.Cond.initialized "PictureStudio$Area") ∈ ps_W := ps_in1 5 rfl rfl
theorem ps_w1_6 : (Jvm.Cond.initialized "java/util/Arrays") ∈ ps_W := ps_in1 6 rfl rfl
theorem ps_w1_7 : (Jvm.Cond.initialized "PictureStudio$Brush") ∈ ps_W := ps_in1 7 rfl rfl
theorem ps_w1_8 : (Jvm.Cond.initialized "PictureStudio$Paths") ∈ ps_W := ps_in1 8 rfl rfl
theorem ps_w1_9 : (Jvm.Cond.initialized "PictureStudio$Lab") ∈ ps_W := ps_in1 9 rfl rfl
theorem ps_w1_10 : (Jvm.Cond.initialized "PictureStudio$PngMaker") ∈ ps_W := ps_in1 10 rfl rfl
theorem ps_w1_11 : (Jvm.Cond.initialized "PictureStudio$PngReader") ∈ ps_W := ps_in1 11 rfl rfl
theorem ps_w1_12 : (Jvm.Cond.initialized "PictureStudio$Inflater") ∈ ps_W := ps_in1 12 rfl rfl
theorem ps_w1_13 : (Jvm.Cond.initialized "PictureStudioModel") ∈ ps_W := ps_in1 13 rfl rfl
theorem ps_w1_14 : (Jvm.Cond.initialized "java/lang/Throwable") ∈ ps_W := ps_in1 14 rfl rfl
theorem ps_w1_15 : (Jvm.Cond.initialized "java/lang/Exception") ∈ ps_W := ps_in1 15 rfl rfl
theorem ps_w1_16 : (Jvm.Cond.initialized "java/lang/RuntimeException") ∈ ps_W := ps_in1 16 rfl rfl
theorem ps_w1_17 : (Jvm.Cond.initialized "java/lang/IndexOutOfBoundsException") ∈ ps_W := ps_in1 17 rfl rfl
theorem ps_w1_18 : (Jvm.Cond.initialized "java/lang/IllegalArgumentException") ∈ ps_W := ps_in1 18 rfl rfl
theorem ps_w1_19 : (Jvm.Cond.initialized "java/util/NoSuchElementException") ∈ ps_W := ps_in1 19 rfl rfl
theorem ps_w1_20 : (Jvm.Cond.initialized "PictureStudio$Layer") ∈ ps_W := ps_in1 20 rfl rfl
theorem ps_w1_21 : (Jvm.Cond.initialized "java/lang/IllegalStateException") ∈ ps_W := ps_in1 21 rfl rfl
theorem ps_w1_22 : (Jvm.Cond.initialized "java/lang/Math") ∈ ps_W := ps_in1 22 rfl rfl
theorem ps_w1_23 : (Jvm.Cond.initialized "java/lang/UnsupportedOperationException") ∈ ps_W := ps_in1 23 rfl rfl
theorem ps_w1_24 : (Jvm.Cond.initialized "java/lang/System") ∈ ps_W := ps_in1 24 rfl rfl
theorem ps_w1_25 : (Jvm.Cond.classLink "PictureStudioLaw" (8 : Nat) "PictureStudio") ∈ ps_W := ps_in1 25 rfl rfl
theorem ps_w1_26 : (Jvm.Cond.instantiable "PictureStudio" (18 : Nat)) ∈ ps_W := ps_in1 26 rfl rfl
theorem ps_w1_27 : (Jvm.Cond.methodLink "PictureStudioLaw" (165 : Nat) ({ cls := "PictureStudio", name := "<init>", desc := "()V" } : Jvm.MethodName)) ∈ ps_W := ps_in1 27 rfl rfl
theorem ps_w1_28 : (Jvm.Cond.instanceMethod ({ cls := "PictureStudio", name := "<init>", desc := "()V" } : Jvm.MethodName)) ∈ ps_W := ps_in1 28 rfl rfl
theorem ps_w1_29 : (Jvm.Cond.code ({ cls := "PictureStudio", name := "<init>", desc := "()V" } : Jvm.MethodName) prog_1_method_1_code (1 : Nat) (Option.none : Option Jvm.ClassFile.FieldType)) ∈ ps_W := ps_in1 29 rfl rfl
theorem ps_w1_30 : (Jvm.Cond.methodLink "PictureStudio" (1 : Nat) ({ cls := "java/lang/Object", name := "<init>", desc := "()V" } : Jvm.MethodName)) ∈ ps_W := ps_in1 30 rfl rfl
theorem ps_w1_31 : (Jvm.Cond.instanceMethod ({ cls := "java/lang/Object", name := "<init>", desc := "()V" } : Jvm.MethodName)) ∈ ps_W := ps_in1 31 rfl rfl
theorem ps_w1_32 : (Jvm.Cond.code ({ cls := "java/lang/Object", name := "<init>", desc := "()V" } : Jvm.MethodName) object_method_1_code (1 : Nat) (Option.none : Option Jvm.ClassFile.FieldType)) ∈ ps_W := ps_in1 32 rfl rfl
theorem ps_w1_33 : (Jvm.Cond.classLink "PictureStudio" (7 : Nat) "PictureStudio$Stand") ∈ ps_W := ps_in1 33 rfl rfl
theorem ps_w1_34 : (Jvm.Cond.instantiable "PictureStudio$Stand" (6 : Nat)) ∈ ps_W := ps_in1 34 rfl rfl
theorem ps_w1_35 : (Jvm.Cond.methodLink "PictureStudio" (9 : Nat) ({ cls := "PictureStudio$Stand", name := "<init>", desc := "(II)V" } : Jvm.MethodName)) ∈ ps_W := ps_in1 35 rfl rfl
theorem ps_w1_36 : (Jvm.Cond.instanceMethod ({ cls := "PictureStudio$Stand", name := "<init>", desc := "(II)V" } : Jvm.MethodName)) ∈ ps_W := ps_in1 36 rfl rfl
theorem ps_w1_37 : (Jvm.Cond.code ({ cls := "PictureStudio$Stand", name := "<init>", desc := "(II)V" } : Jvm.MethodName) prog_11_method_1_code (3 : Nat) (Option.none : Option Jvm.ClassFile.FieldType)) ∈ ps_W := ps_in1 37 rfl rfl
theorem ps_w1_38 : (Jvm.Cond.methodLink "PictureStudio$Stand" (3 : Nat) ({ cls := "java/lang/Object", name := "<init>", desc := "()V" } : Jvm.MethodName)) ∈ ps_W := ps_in1 38 rfl rfl
theorem ps_w1_39 : (Jvm.Cond.classLink "PictureStudio$Stand" (9 : Nat) "PictureStudio$Layer") ∈ ps_W := ps_in1 39 rfl rfl
theorem ps_w1_41 : (Jvm.Cond.fieldLink "PictureStudio$Stand" (21 : Nat) "PictureStudio$Stand" "w" "I") ∈ ps_W := ps_in1 41 rfl rfl
theorem ps_w1_42 : (Jvm.Cond.fieldLink "PictureStudio" (153 : Nat) "PictureStudio$Stand" "w" "I") ∈ ps_W := ps_in1 42 rfl rfl
theorem ps_w1_43 : (Jvm.Cond.fieldLink "PictureStudio$Viewer" (109 : Nat) "PictureStudio$Stand" "w" "I") ∈ ps_W := ps_in1 43 rfl rfl
theorem ps_w1_44 : (Jvm.Cond.fieldLink "PictureStudio$Stand" (25 : Nat) "PictureStudio$Stand" "h" "I") ∈ ps_W := ps_in1 44 rfl rfl
theorem ps_w1_45 : (Jvm.Cond.fieldLink "PictureStudio" (156 : Nat) "PictureStudio$Stand" "h" "I") ∈ ps_W := ps_in1 45 rfl rfl
theorem ps_w1_46 : (Jvm.Cond.fieldLink "PictureStudio$Viewer" (112 : Nat) "PictureStudio$Stand" "h" "I") ∈ ps_W := ps_in1 46 rfl rfl
theorem ps_w1_47 : (Jvm.Cond.fieldLink "PictureStudio$Stand" (11 : Nat) "PictureStudio$Stand" "layers" "[LPictureStudio$Layer;") ∈ ps_W := ps_in1 47 rfl rfl
theorem ps_w1_48 : (Jvm.Cond.fieldLink "PictureStudio$Stand" (17 : Nat) "PictureStudio$Stand" "order" "[I") ∈ ps_W := ps_in1 48 rfl rfl
theorem ps_w1_49 : (Jvm.Cond.fieldLink "PictureStudio$Stand" (31 : Nat) "PictureStudio$Stand" "size" "I") ∈ ps_W := ps_in1 49 rfl rfl
theorem ps_w1_50 : (Jvm.Cond.fieldLink "PictureStudio$Viewer" (83 : Nat) "PictureStudio$Stand" "size" "I") ∈ ps_W := ps_in1 50 rfl rfl
theorem ps_w1_51 : (Jvm.Cond.fieldLink "PictureStudio" (591 : Nat) "PictureStudio$Stand" "size" "I") ∈ ps_W := ps_in1 51 rfl rfl
theorem ps_w1_52 : (Jvm.Cond.fieldLink "PictureStudio$Stand" (34 : Nat) "PictureStudio$Stand" "next" "I") ∈ ps_W := ps_in1 52 rfl rfl
theorem ps_w1_53 : (Jvm.Cond.fieldLink "PictureStudio" (161 : Nat) "PictureStudio$Stand" "next" "I") ∈ ps_W := ps_in1 53 rfl rfl
theorem ps_w1_54 : (Jvm.Cond.laysFinal "PictureStudio$Stand" "PictureStudio$Stand" "w" "I") ∈ ps_W := ps_in1 54 rfl rfl
theorem ps_w1_56 : (Jvm.Cond.laysFinal "PictureStudio$Stand" "PictureStudio$Stand" "h" "I") ∈ ps_W := ps_in1 56 rfl rfl
theorem ps_w1_58 : (Jvm.Cond.laysFinal "PictureStudio$Stand" "PictureStudio$Stand" "layers" "[LPictureStudio$Layer;") ∈ ps_W := ps_in1 58 rfl rfl
theorem ps_w1_60 : (Jvm.Cond.laysFinal "PictureStudio$Stand" "PictureStudio$Stand" "order" "[I") ∈ ps_W := ps_in1 60 rfl rfl
theorem ps_w1_62 : (Jvm.Cond.lays "PictureStudio$Stand" "PictureStudio$Stand" "size" "I") ∈ ps_W := ps_in1 62 rfl rfl
theorem ps_w1_64 : (Jvm.Cond.lays "PictureStudio$Stand" "PictureStudio$Stand" "next" "I") ∈ ps_W := ps_in1 64 rfl rfl
theorem ps_w1_67 : (Jvm.Cond.arrayClass Jvm.ClassFile.FieldType.int) ∈ ps_W := ps_in1 67 rfl rfl
theorem ps_w1_69 : (Jvm.Cond.classLink "PictureStudio" (25 : Nat) "PictureStudio$Looks") ∈ ps_W := ps_in1 69 rfl rfl
theorem ps_w1_70 : (Jvm.Cond.instantiable "PictureStudio$Looks" (10 : Nat)) ∈ ps_W := ps_in1 70 rfl rfl
theorem ps_w1_71 : (Jvm.Cond.methodLink "PictureStudio" (27 : Nat) ({ cls := "PictureStudio$Looks", name := "<init>", desc := "()V" } : Jvm.MethodName)) ∈ ps_W := ps_in1 71 rfl rfl
theorem ps_w1_72 : (Jvm.Cond.instanceMethod ({ cls := "PictureStudio$Looks", name := "<init>", desc := "()V" } : Jvm.MethodName)) ∈ ps_W := ps_in1 72 rfl rfl
theorem ps_w1_73 : (Jvm.Cond.code ({ cls := "PictureStudio$Looks", name := "<init>", desc := "()V" } : Jvm.MethodName) prog_7_method_1_code (1 : Nat) (Option.none : Option Jvm.ClassFile.FieldType)) ∈ ps_W := ps_in1 73 rfl rfl
theorem ps_w1_74 : (Jvm.Cond.methodLink "PictureStudio$Looks" (3 : Nat) ({ cls := "java/lang/Object", name := "<init>", desc := "()V" } : Jvm.MethodName)) ∈ ps_W := ps_in1 74 rfl rfl
theorem ps_w1_77 : (Jvm.Cond.fieldLink "PictureStudio$Looks" (11 : Nat) "PictureStudio$Looks" "curveX" "[I") ∈ ps_W := ps_in1 77 rfl rfl
theorem ps_w1_78 : (Jvm.Cond.fieldLink "PictureStudio$Looks" (15 : Nat) "PictureStudio$Looks" "curveY" "[I") ∈ ps_W := ps_in1 78 rfl rfl
theorem ps_w1_79 : (Jvm.Cond.fieldLink "PictureStudio$Looks" (18 : Nat) "PictureStudio$Looks" "curveCount" "[I") ∈ ps_W := ps_in1 79 rfl rfl
theorem ps_w1_80 : (Jvm.Cond.fieldLink "PictureStudio$Looks" (21 : Nat) "PictureStudio$Looks" "weights" "[I") ∈ ps_W := ps_in1 80 rfl rfl
theorem ps_w1_81 : (Jvm.Cond.fieldLink "PictureStudio" (539 : Nat) "PictureStudio$Looks" "weights" "[I") ∈ ps_W := ps_in1 81 rfl rfl
theorem ps_w1_82 : (Jvm.Cond.fieldLink "PictureStudio$Looks" (24 : Nat) "PictureStudio$Looks" "divisor" "I") ∈ ps_W := ps_in1 82 rfl rfl
theorem ps_w1_83 : (Jvm.Cond.fieldLink "PictureStudio" (533 : Nat) "PictureStudio$Looks" "divisor" "I") ∈ ps_W := ps_in1 83 rfl rfl
theorem ps_w1_84 : (Jvm.Cond.fieldLink "PictureStudio$Looks" (117 : Nat) "PictureStudio$Looks" "offset" "I") ∈ ps_W := ps_in1 84 rfl rfl
theorem ps_w1_85 : (Jvm.Cond.fieldLink "PictureStudio" (536 : Nat) "PictureStudio$Looks" "offset" "I") ∈ ps_W := ps_in1 85 rfl rfl
theorem ps_w1_86 : (Jvm.Cond.fieldLink "PictureStudio$Looks" (28 : Nat) "PictureStudio$Looks" "nine" "[I") ∈ ps_W := ps_in1 86 rfl rfl
theorem ps_w1_87 : (Jvm.Cond.fieldLink "PictureStudio$Looks" (34 : Nat) "PictureStudio$Looks" "from" "[I") ∈ ps_W := ps_in1 87 rfl rfl
theorem ps_w1_88 : (Jvm.Cond.fieldLink "PictureStudio$Looks" (37 : Nat) "PictureStudio$Looks" "w" "I") ∈ ps_W := ps_in1 88 rfl rfl
theorem ps_w1_89 : (Jvm.Cond.fieldLink "PictureStudio$Looks" (40 : Nat) "PictureStudio$Looks" "h" "I") ∈ ps_W := ps_in1 89 rfl rfl
theorem ps_w1_90 : (Jvm.Cond.laysFinal "PictureStudio$Looks" "PictureStudio$Looks" "curveX" "[I") ∈ ps_W := ps_in1 90 rfl rfl
theorem ps_w1_92 : (Jvm.Cond.laysFinal "PictureStudio$Looks" "PictureStudio$Looks" "curveY" "[I") ∈ ps_W := ps_in1 92 rfl rfl
theorem ps_w1_94 : (Jvm.Cond.laysFinal "PictureStudio$Looks" "PictureStudio$Looks" "curveCount" "[I") ∈ ps_W := ps_in1 94 rfl rfl
theorem ps_w1_96 : (Jvm.Cond.laysFinal "PictureStudio$Looks" "PictureStudio$Looks" "weights" "[I") ∈ ps_W := ps_in1 96 rfl rfl
theorem ps_w1_98 : (Jvm.Cond.lays "PictureStudio$Looks" "PictureStudio$Looks" "divisor" "I") ∈ ps_W := ps_in1 98 rfl rfl
theorem ps_w1_100 : (Jvm.Cond.lays "PictureStudio$Looks" "PictureStudio$Looks" "offset" "I") ∈ ps_W := ps_in1 100 rfl rfl
theorem ps_w1_102 : (Jvm.Cond.laysFinal "PictureStudio$Looks" "PictureStudio$Looks" "nine" "[I") ∈ ps_W := ps_in1 102 rfl rfl
theorem ps_w1_104 : (Jvm.Cond.lays "PictureStudio$Looks" "PictureStudio$Looks" "from" "[I") ∈ ps_W := ps_in1 104 rfl rfl
theorem ps_w1_106 : (Jvm.Cond.lays "PictureStudio$Looks" "PictureStudio$Looks" "w" "I") ∈ ps_W := ps_in1 106 rfl rfl
theorem ps_w1_108 : (Jvm.Cond.lays "PictureStudio$Looks" "PictureStudio$Looks" "h" "I") ∈ ps_W := ps_in1 108 rfl rfl
theorem ps_w1_111 : (Jvm.Cond.classLink "PictureStudio" (32 : Nat) "PictureStudio$Viewer") ∈ ps_W := ps_in1 111 rfl rfl
theorem ps_w1_112 : (Jvm.Cond.instantiable "PictureStudio$Viewer" (9 : Nat)) ∈ ps_W := ps_in1 112 rfl rfl
theorem ps_w1_113 : (Jvm.Cond.methodLink "PictureStudio" (34 : Nat) ({ cls := "PictureStudio$Viewer", name := "<init>", desc := "(LPictureStudio$Looks;)V" } : Jvm.MethodName)) ∈ ps_W := ps_in1 113 rfl rfl
theorem ps_w1_114 : (Jvm.Cond.instanceMethod ({ cls := "PictureStudio$Viewer", name := "<init>", desc := "(LPictureStudio$Looks;)V" } : Jvm.MethodName)) ∈ ps_W := ps_in1 114 rfl rfl
theorem ps_w1_115 : (Jvm.Cond.code ({ cls := "PictureStudio$Viewer", name := "<init>", desc := "(LPictureStudio$Looks;)V" } : Jvm.MethodName) prog_12_method_1_code (2 : Nat) (Option.none : Option Jvm.ClassFile.FieldType)) ∈ ps_W := ps_in1 115 rfl rfl
theorem ps_w1_116 : (Jvm.Cond.methodLink "PictureStudio$Viewer" (3 : Nat) ({ cls := "java/lang/Object", name := "<init>", desc := "()V" } : Jvm.MethodName)) ∈ ps_W := ps_in1 116 rfl rfl
theorem ps_w1_117 : (Jvm.Cond.classLink "PictureStudio$Viewer" (11 : Nat) "[[I") ∈ ps_W := ps_in1 117 rfl rfl
theorem ps_w1_119 : (Jvm.Cond.fieldLink "PictureStudio$Viewer" (33 : Nat) "PictureStudio$Viewer" "looks" "LPictureStudio$Looks;") ∈ ps_W := ps_in1 119 rfl rfl
theorem ps_w1_120 : (Jvm.Cond.fieldLink "PictureStudio$Viewer" (13 : Nat) "PictureStudio$Viewer" "views" "[[I") ∈ ps_W := ps_in1 120 rfl rfl
theorem ps_w1_121 : (Jvm.Cond.fieldLink "PictureStudio$Viewer" (16 : Nat) "PictureStudio$Viewer" "bases" "[[I") ∈ ps_W := ps_in1 121 rfl rfl
theorem ps_w1_122 : (Jvm.Cond.fieldLink "PictureStudio$Viewer" (19 : Nat) "PictureStudio$Viewer" "changed" "[I") ∈ ps_W := ps_in1 122 rfl rfl
theorem ps_w1_123 : (Jvm.Cond.fieldLink "PictureStudio$Viewer" (23 : Nat) "PictureStudio$Viewer" "whole" "[I") ∈ ps_W := ps_in1 123 rfl rfl
theorem ps_w1_124 : (Jvm.Cond.fieldLink "PictureStudio$Viewer" (37 : Nat) "PictureStudio$Viewer" "fresh" "Z") ∈ ps_W := ps_in1 124 rfl rfl
theorem ps_w1_125 : (Jvm.Cond.fieldLink "PictureStudio$Viewer" (26 : Nat) "PictureStudio$Viewer" "kept" "[I") ∈ ps_W := ps_in1 125 rfl rfl
theorem ps_w1_126 : (Jvm.Cond.fieldLink "PictureStudio$Viewer" (29 : Nat) "PictureStudio$Viewer" "keptTile" "[Z") ∈ ps_W := ps_in1 126 rfl rfl
theorem ps_w1_127 : (Jvm.Cond.fieldLink "PictureStudio$Viewer" (60 : Nat) "PictureStudio$Viewer" "worked" "I") ∈ ps_W := ps_in1 127 rfl rfl
theorem ps_w1_128 : (Jvm.Cond.fieldLink "PictureStudio" (592 : Nat) "PictureStudio$Viewer" "worked" "I") ∈ ps_W := ps_in1 128 rfl rfl
theorem ps_w1_129 : (Jvm.Cond.laysFinal "PictureStudio$Viewer" "PictureStudio$Viewer" "looks" "LPictureStudio$Looks;") ∈ ps_W := ps_in1 129 rfl rfl
theorem ps_w1_131 : (Jvm.Cond.laysFinal "PictureStudio$Viewer" "PictureStudio$Viewer" "views" "[[I") ∈ ps_W := ps_in1 131 rfl rfl
theorem ps_w1_133 : (Jvm.Cond.laysFinal "PictureStudio$Viewer" "PictureStudio$Viewer" "bases" "[[I") ∈ ps_W := ps_in1 133 rfl rfl
theorem ps_w1_135 : (Jvm.Cond.laysFinal "PictureStudio$Viewer" "PictureStudio$Viewer" "changed" "[I") ∈ ps_W := ps_in1 135 rfl rfl
theorem ps_w1_137 : (Jvm.Cond.laysFinal "PictureStudio$Viewer" "PictureStudio$Viewer" "whole" "[I") ∈ ps_W := ps_in1 137 rfl rfl
theorem ps_w1_139 : (Jvm.Cond.lays "PictureStudio$Viewer" "PictureStudio$Viewer" "fresh" "Z") ∈ ps_W := ps_in1 139 rfl rfl
theorem ps_w1_141 : (Jvm.Cond.laysFinal "PictureStudio$Viewer" "PictureStudio$Viewer" "kept" "[I") ∈ ps_W := ps_in1 141 rfl rfl
theorem ps_w1_143 : (Jvm.Cond.laysFinal "PictureStudio$Viewer" "PictureStudio$Viewer" "keptTile" "[Z") ∈ ps_W := ps_in1 143 rfl rfl
theorem ps_w1_145 : (Jvm.Cond.lays "PictureStudio$Viewer" "PictureStudio$Viewer" "worked" "I") ∈ ps_W := ps_in1 145 rfl rfl
theorem ps_w1_148 : (Jvm.Cond.arrayClass Jvm.ClassFile.FieldType.boolean) ∈ ps_W := ps_in1 148 rfl rfl
theorem ps_w1_149 : (Jvm.Cond.classLink "PictureStudio" (41 : Nat) "PictureStudio$Area") ∈ ps_W := ps_in1 149 rfl rfl
theorem ps_w1_150 : (Jvm.Cond.instantiable "PictureStudio$Area" (5 : Nat)) ∈ ps_W := ps_in1 150 rfl rfl
theorem ps_w1_151 : (Jvm.Cond.methodLink "PictureStudio" (43 : Nat) ({ cls := "PictureStudio$Area", name := "<init>", desc := "()V" } : Jvm.MethodName)) ∈ ps_W := ps_in1 151 rfl rfl
theorem ps_w1_152 : (Jvm.Cond.instanceMethod ({ cls := "PictureStudio$Area", name := "<init>", desc := "()V" } : Jvm.MethodName)) ∈ ps_W := ps_in1 152 rfl rfl
theorem ps_w1_153 : (Jvm.Cond.code ({ cls := "PictureStudio$Area", name := "<init>", desc := "()V" } : Jvm.MethodName) prog_2_method_1_code (1 : Nat) (Option.none : Option Jvm.ClassFile.FieldType)) ∈ ps_W := ps_in1 153 rfl rfl
theorem ps_w1_154 : (Jvm.Cond.methodLink "PictureStudio$Area" (3 : Nat) ({ cls := "java/lang/Object", name := "<init>", desc := "()V" } : Jvm.MethodName)) ∈ ps_W := ps_in1 154 rfl rfl
theorem ps_w1_155 : (Jvm.Cond.methodLink "PictureStudio$Area" (28 : Nat) ({ cls := "java/util/Arrays", name := "fill", desc := "([II)V" } : Jvm.MethodName)) ∈ ps_W := ps_in1 155 rfl rfl
theorem ps_w1_156 : (Jvm.Cond.static ({ cls := "java/util/Arrays", name := "fill", desc := "([II)V" } : Jvm.MethodName)) ∈ ps_W := ps_in1 156 rfl rfl
theorem ps_w1_157 : (Jvm.Cond.code ({ cls := "java/util/Arrays", name := "fill", desc := "([II)V" } : Jvm.MethodName) prog_26_method_103_code (4 : Nat) (Option.none : Option Jvm.ClassFile.FieldType)) ∈ ps_W := ps_in1 157 rfl rfl
theorem ps_w1_158 : (Jvm.Cond.fieldLink "PictureStudio$Area" (9 : Nat) "PictureStudio$Area" "w" "I") ∈ ps_W := ps_in1 158 rfl rfl
theorem ps_w1_159 : (Jvm.Cond.fieldLink "PictureStudio$Area" (15 : Nat) "PictureStudio$Area" "h" "I") ∈ ps_W := ps_in1 159 rfl rfl
theorem ps_w1_160 : (Jvm.Cond.fieldLink "PictureStudio$Area" (18 : Nat) "PictureStudio$Area" "values" "[I") ∈ ps_W := ps_in1 160 rfl rfl
theorem ps_w1_161 : (Jvm.Cond.fieldLink "PictureStudio" (290 : Nat) "PictureStudio$Area" "values" "[I") ∈ ps_W := ps_in1 161 rfl rfl
theorem ps_w1_162 : (Jvm.Cond.fieldLink "PictureStudio$Area" (22 : Nat) "PictureStudio$Area" "shape" "[I") ∈ ps_W := ps_in1 162 rfl rfl
theorem ps_w1_163 : (Jvm.Cond.fieldLink "PictureStudio$Area" (25 : Nat) "PictureStudio$Area" "spare" "[I") ∈ ps_W := ps_in1 163 rfl rfl
theorem ps_w1_164 : (Jvm.Cond.lays "PictureStudio$Area" "PictureStudio$Area" "w" "I") ∈ ps_W := ps_in1 164 rfl rfl
theorem ps_w1_166 : (Jvm.Cond.lays "PictureStudio$Area" "PictureStudio$Area" "h" "I") ∈ ps_W := ps_in1 166 rfl rfl
theorem ps_w1_168 : (Jvm.Cond.laysFinal "PictureStudio$Area" "PictureStudio$Area" "values" "[I") ∈ ps_W := ps_in1 168 rfl rfl
theorem ps_w1_170 : (Jvm.Cond.laysFinal "PictureStudio$Area" "PictureStudio$Area" "shape" "[I") ∈ ps_W := ps_in1 170 rfl rfl
theorem ps_w1_172 : (Jvm.Cond.laysFinal "PictureStudio$Area" "PictureStudio$Area" "spare" "[I") ∈ ps_W := ps_in1 172 rfl rfl
theorem ps_w1_175 : (Jvm.Cond.classLink "PictureStudio" (48 : Nat) "PictureStudio$Brush") ∈ ps_W := ps_in1 175 rfl rfl
theorem ps_w1_176 : (Jvm.Cond.instantiable "PictureStudio$Brush" (15 : Nat)) ∈ ps_W := ps_in1 176 rfl rfl
theorem ps_w1_178 : (Jvm.Cond.instanceMethod ({ cls := "PictureStudio$Brush", name := "<init>", desc := "()V" } : Jvm.MethodName)) ∈ ps_W := ps_in1 178 rfl rfl
theorem ps_w1_179 : (Jvm.Cond.code ({ cls := "PictureStudio$Brush", name := "<init>", desc := "()V" } : Jvm.MethodName) prog_3_method_1_code (1 : Nat) (Option.none : Option Jvm.ClassFile.FieldType)) ∈ ps_W := ps_in1 179 rfl rfl
theorem ps_w1_180 : (Jvm.Cond.methodLink "PictureStudio$Brush" (3 : Nat) ({ cls := "java/lang/Object", name := "<init>", desc := "()V" } : Jvm.MethodName)) ∈ ps_W := ps_in1 180 rfl rfl
theorem ps_w1_181 : (Jvm.Cond.constant "PictureStudio$Brush" (9 : Nat) (-16777216 : Int32)) ∈ ps_W := ps_in1 181 rfl rfl
theorem ps_w1_182 : (Jvm.Cond.fieldLink "PictureStudio$Brush" (10 : Nat) "PictureStudio$Brush" "colour" "I") ∈ ps_W := ps_in1 182 rfl rfl
theorem ps_w1_183 : (Jvm.Cond.fieldLink "PictureStudio" (352 : Nat) "PictureStudio$Brush" "colour" "I") ∈ ps_W := ps_in1 183 rfl rfl
theorem ps_w1_184 : (Jvm.Cond.fieldLink "PictureStudio$Brush" (16 : Nat) "PictureStudio$Brush" "size" "I") ∈ ps_W := ps_in1 184 rfl rfl
theorem ps_w1_185 : (Jvm.Cond.fieldLink "PictureStudio" (508 : Nat) "PictureStudio$Brush" "size" "I") ∈ ps_W := ps_in1 185 rfl rfl
theorem ps_w1_186 : (Jvm.Cond.fieldLink "PictureStudio$Brush" (19 : Nat) "PictureStudio$Brush" "hard" "I") ∈ ps_W := ps_in1 186 rfl rfl
theorem ps_w1_187 : (Jvm.Cond.fieldLink "PictureStudio" (511 : Nat) "PictureStudio$Brush" "hard" "I") ∈ ps_W := ps_in1 187 rfl rfl
theorem ps_w1_188 : (Jvm.Cond.fieldLink "PictureStudio$Brush" (22 : Nat) "PictureStudio$Brush" "spacing" "I") ∈ ps_W := ps_in1 188 rfl rfl
theorem ps_w1_189 : (Jvm.Cond.fieldLink "PictureStudio" (514 : Nat) "PictureStudio$Brush" "spacing" "I") ∈ ps_W := ps_in1 189 rfl rfl
theorem ps_w1_190 : (Jvm.Cond.fieldLink "PictureStudio$Brush" (25 : Nat) "PictureStudio$Brush" "flow" "I") ∈ ps_W := ps_in1 190 rfl rfl
theorem ps_w1_191 : (Jvm.Cond.fieldLink "PictureStudio" (517 : Nat) "PictureStudio$Brush" "flow" "I") ∈ ps_W := ps_in1 191 rfl rfl
theorem ps_w1_192 : (Jvm.Cond.fieldLink "PictureStudio$Brush" (28 : Nat) "PictureStudio$Brush" "opacity" "I") ∈ ps_W := ps_in1 192 rfl rfl
theorem ps_w1_193 : (Jvm.Cond.fieldLink "PictureStudio" (378 : Nat) "PictureStudio$Brush" "opacity" "I") ∈ ps_W := ps_in1 193 rfl rfl
theorem ps_w1_194 : (Jvm.Cond.fieldLink "PictureStudio" (382 : Nat) "PictureStudio$Brush" "cx" "I") ∈ ps_W := ps_in1 194 rfl rfl
theorem ps_w1_195 : (Jvm.Cond.fieldLink "PictureStudio" (385 : Nat) "PictureStudio$Brush" "cy" "I") ∈ ps_W := ps_in1 195 rfl rfl
theorem ps_w1_196 : (Jvm.Cond.fieldLink "PictureStudio$Brush" (44 : Nat) "PictureStudio$Brush" "points" "I") ∈ ps_W := ps_in1 196 rfl rfl
theorem ps_w1_197 : (Jvm.Cond.fieldLink "PictureStudio" (365 : Nat) "PictureStudio$Brush" "points" "I") ∈ ps_W := ps_in1 197 rfl rfl
theorem ps_w1_198 : (Jvm.Cond.fieldLink "PictureStudio$Brush" (31 : Nat) "PictureStudio$Brush" "xs" "[I") ∈ ps_W := ps_in1 198 rfl rfl
theorem ps_w1_199 : (Jvm.Cond.fieldLink "PictureStudio$Brush" (35 : Nat) "PictureStudio$Brush" "ys" "[I") ∈ ps_W := ps_in1 199 rfl rfl
theorem ps_w1_200 : (Jvm.Cond.fieldLink "PictureStudio$Brush" (38 : Nat) "PictureStudio$Brush" "pressures" "[I") ∈ ps_W := ps_in1 200 rfl rfl
theorem ps_w1_201 : (Jvm.Cond.fieldLink "PictureStudio$Brush" (41 : Nat) "PictureStudio$Brush" "cover" "[I") ∈ ps_W := ps_in1 201 rfl rfl
theorem ps_w1_202 : (Jvm.Cond.fieldLink "PictureStudio" (375 : Nat) "PictureStudio$Brush" "cover" "[I") ∈ ps_W := ps_in1 202 rfl rfl
theorem ps_w1_203 : (Jvm.Cond.fieldLink "PictureStudio$Brush" (51 : Nat) "PictureStudio$Brush" "w" "I") ∈ ps_W := ps_in1 203 rfl rfl
theorem ps_w1_204 : (Jvm.Cond.fieldLink "PictureStudio$Brush" (54 : Nat) "PictureStudio$Brush" "h" "I") ∈ ps_W := ps_in1 204 rfl rfl
theorem ps_w1_205 : (Jvm.Cond.lays "PictureStudio$Brush" "PictureStudio$Brush" "colour" "I") ∈ ps_W := ps_in1 205 rfl rfl
theorem ps_w1_207 : (Jvm.Cond.lays "PictureStudio$Brush" "PictureStudio$Brush" "size" "I") ∈ ps_W := ps_in1 207 rfl rfl
theorem ps_w1_209 : (Jvm.Cond.lays "PictureStudio$Brush" "PictureStudio$Brush" "hard" "I") ∈ ps_W := ps_in1 209 rfl rfl
theorem ps_w1_211 : (Jvm.Cond.lays "PictureStudio$Brush" "PictureStudio$Brush" "spacing" "I") ∈ ps_W := ps_in1 211 rfl rfl
theorem ps_w1_213 : (Jvm.Cond.lays "PictureStudio$Brush" "PictureStudio$Brush" "flow" "I") ∈ ps_W := ps_in1 213 rfl rfl
theorem ps_w1_215 : (Jvm.Cond.lays "PictureStudio$Brush" "PictureStudio$Brush" "opacity" "I") ∈ ps_W := ps_in1 215 rfl rfl
theorem ps_w1_217 : (Jvm.Cond.lays "PictureStudio$Brush" "PictureStudio$Brush" "cx" "I") ∈ ps_W := ps_in1 217 rfl rfl
theorem ps_w1_219 : (Jvm.Cond.lays "PictureStudio$Brush" "PictureStudio$Brush" "cy" "I") ∈ ps_W := ps_in1 219 rfl rfl
theorem ps_w1_221 : (Jvm.Cond.lays "PictureStudio$Brush" "PictureStudio$Brush" "points" "I") ∈ ps_W := ps_in1 221 rfl rfl
theorem ps_w1_223 : (Jvm.Cond.laysFinal "PictureStudio$Brush" "PictureStudio$Brush" "xs" "[I") ∈ ps_W := ps_in1 223 rfl rfl
theorem ps_w1_225 : (Jvm.Cond.laysFinal "PictureStudio$Brush" "PictureStudio$Brush" "ys" "[I") ∈ ps_W := ps_in1 225 rfl rfl
theorem ps_w1_227 : (Jvm.Cond.laysFinal "PictureStudio$Brush" "PictureStudio$Brush" "pressures" "[I") ∈ ps_W := ps_in1 227 rfl rfl
theorem ps_w1_229 : (Jvm.Cond.laysFinal "PictureStudio$Brush" "PictureStudio$Brush" "cover" "[I") ∈ ps_W := ps_in1 229 rfl rfl
theorem ps_w1_231 : (Jvm.Cond.lays "PictureStudio$Brush" "PictureStudio$Brush" "w" "I") ∈ ps_W := ps_in1 231 rfl rfl
theorem ps_w1_233 : (Jvm.Cond.lays "PictureStudio$Brush" "PictureStudio$Brush" "h" "I") ∈ ps_W := ps_in1 233 rfl rfl
theorem ps_w1_236 : (Jvm.Cond.classLink "PictureStudio" (55 : Nat) "PictureStudio$Paths") ∈ ps_W := ps_in1 236 rfl rfl
theorem ps_w1_237 : (Jvm.Cond.instantiable "PictureStudio$Paths" (15 : Nat)) ∈ ps_W := ps_in1 237 rfl rfl
theorem ps_w1_238 : (Jvm.Cond.methodLink "PictureStudio" (57 : Nat) ({ cls := "PictureStudio$Paths", name := "<init>", desc := "()V" } : Jvm.MethodName)) ∈ ps_W := ps_in1 238 rfl rfl
theorem ps_w1_239 : (Jvm.Cond.instanceMethod ({ cls := "PictureStudio$Paths", name := "<init>", desc := "()V" } : Jvm.MethodName)) ∈ ps_W := ps_in1 239 rfl rfl
theorem ps_w2_0 : (Jvm.Cond.code ({ cls := "PictureStudio$Paths", name := "<init>", desc := "()V" } : Jvm.MethodName) prog_8_method_1_code (1 : Nat) (Option.none : Option Jvm.ClassFile.FieldType)) ∈ ps_W := ps_in2 0 rfl rfl
theorem ps_w2_1 : (Jvm.Cond.methodLink "PictureStudio$Paths" (3 : Nat) ({ cls := "java/lang/Object", name := "<init>", desc := "()V" } : Jvm.MethodName)) ∈ ps_W := ps_in2 1 rfl rfl
theorem ps_w2_2 : (Jvm.Cond.methodLink "PictureStudio$Paths" (48 : Nat) ({ cls := "java/util/Arrays", name := "fill", desc := "([II)V" } : Jvm.MethodName)) ∈ ps_W := ps_in2 2 rfl rfl
theorem ps_w2_3 : (Jvm.Cond.fieldLink "PictureStudio$Paths" (11 : Nat) "PictureStudio$Paths" "counts" "[I") ∈ ps_W := ps_in2 3 rfl rfl
theorem ps_w2_4 : (Jvm.Cond.fieldLink "PictureStudio" (548 : Nat) "PictureStudio$Paths" "counts" "[I") ∈ ps_W := ps_in2 4 rfl rfl
theorem ps_w2_5 : (Jvm.Cond.fieldLink "PictureStudio$Paths" (15 : Nat) "PictureStudio$Paths" "kinds" "[I") ∈ ps_W := ps_in2 5 rfl rfl
theorem ps_w2_6 : (Jvm.Cond.fieldLink "PictureStudio$Paths" (18 : Nat) "PictureStudio$Paths" "xs" "[I") ∈ ps_W := ps_in2 6 rfl rfl
theorem ps_w2_7 : (Jvm.Cond.fieldLink "PictureStudio$Paths" (21 : Nat) "PictureStudio$Paths" "ys" "[I") ∈ ps_W := ps_in2 7 rfl rfl
theorem ps_w2_8 : (Jvm.Cond.fieldLink "PictureStudio$Paths" (24 : Nat) "PictureStudio$Paths" "glyphPath" "[I") ∈ ps_W := ps_in2 8 rfl rfl
theorem ps_w2_9 : (Jvm.Cond.fieldLink "PictureStudio" (411 : Nat) "PictureStudio$Paths" "glyphPath" "[I") ∈ ps_W := ps_in2 9 rfl rfl
theorem ps_w2_10 : (Jvm.Cond.fieldLink "PictureStudio$Paths" (27 : Nat) "PictureStudio$Paths" "glyphAdvance" "[I") ∈ ps_W := ps_in2 10 rfl rfl
theorem ps_w2_11 : (Jvm.Cond.fieldLink "PictureStudio" (414 : Nat) "PictureStudio$Paths" "glyphAdvance" "[I") ∈ ps_W := ps_in2 11 rfl rfl
theorem ps_w2_12 : (Jvm.Cond.fieldLink "PictureStudio$Paths" (30 : Nat) "PictureStudio$Paths" "fromX" "[I") ∈ ps_W := ps_in2 12 rfl rfl
theorem ps_w2_13 : (Jvm.Cond.fieldLink "PictureStudio$Paths" (33 : Nat) "PictureStudio$Paths" "fromY" "[I") ∈ ps_W := ps_in2 13 rfl rfl
theorem ps_w2_14 : (Jvm.Cond.fieldLink "PictureStudio$Paths" (36 : Nat) "PictureStudio$Paths" "toX" "[I") ∈ ps_W := ps_in2 14 rfl rfl
theorem ps_w2_15 : (Jvm.Cond.fieldLink "PictureStudio$Paths" (39 : Nat) "PictureStudio$Paths" "toY" "[I") ∈ ps_W := ps_in2 15 rfl rfl
theorem ps_w2_16 : (Jvm.Cond.fieldLink "PictureStudio$Paths" (54 : Nat) "PictureStudio$Paths" "lines" "I") ∈ ps_W := ps_in2 16 rfl rfl
theorem ps_w2_17 : (Jvm.Cond.fieldLink "PictureStudio$Paths" (58 : Nat) "PictureStudio$Paths" "penX" "I") ∈ ps_W := ps_in2 17 rfl rfl
theorem ps_w2_18 : (Jvm.Cond.fieldLink "PictureStudio$Paths" (61 : Nat) "PictureStudio$Paths" "penY" "I") ∈ ps_W := ps_in2 18 rfl rfl
theorem ps_w2_19 : (Jvm.Cond.fieldLink "PictureStudio$Paths" (42 : Nat) "PictureStudio$Paths" "turns" "[I") ∈ ps_W := ps_in2 19 rfl rfl
theorem ps_w2_20 : (Jvm.Cond.fieldLink "PictureStudio$Paths" (45 : Nat) "PictureStudio$Paths" "cover" "[I") ∈ ps_W := ps_in2 20 rfl rfl
theorem ps_w2_21 : (Jvm.Cond.fieldLink "PictureStudio" (407 : Nat) "PictureStudio$Paths" "cover" "[I") ∈ ps_W := ps_in2 21 rfl rfl
theorem ps_w2_22 : (Jvm.Cond.laysFinal "PictureStudio$Paths" "PictureStudio$Paths" "counts" "[I") ∈ ps_W := ps_in2 22 rfl rfl
theorem ps_w2_24 : (Jvm.Cond.laysFinal "PictureStudio$Paths" "PictureStudio$Paths" "kinds" "[I") ∈ ps_W := ps_in2 24 rfl rfl
theorem ps_w2_26 : (Jvm.Cond.laysFinal "PictureStudio$Paths" "PictureStudio$Paths" "xs" "[I") ∈ ps_W := ps_in2 26 rfl rfl
theorem ps_w2_28 : (Jvm.Cond.laysFinal "PictureStudio$Paths" "PictureStudio$Paths" "ys" "[I") ∈ ps_W := ps_in2 28 rfl rfl
theorem ps_w2_30 : (Jvm.Cond.laysFinal "PictureStudio$Paths" "PictureStudio$Paths" "glyphPath" "[I") ∈ ps_W := ps_in2 30 rfl rfl
theorem ps_w2_32 : (Jvm.Cond.laysFinal "PictureStudio$Paths" "PictureStudio$Paths" "glyphAdvance" "[I") ∈ ps_W := ps_in2 32 rfl rfl
theorem ps_w2_34 : (Jvm.Cond.laysFinal "PictureStudio$Paths" "PictureStudio$Paths" "fromX" "[I") ∈ ps_W := ps_in2 34 rfl rfl
theorem ps_w2_36 : (Jvm.Cond.laysFinal "PictureStudio$Paths" "PictureStudio$Paths" "fromY" "[I") ∈ ps_W := ps_in2 36 rfl rfl
theorem ps_w2_38 : (Jvm.Cond.laysFinal "PictureStudio$Paths" "PictureStudio$Paths" "toX" "[I") ∈ ps_W := ps_in2 38 rfl rfl
theorem ps_w2_40 : (Jvm.Cond.laysFinal "PictureStudio$Paths" "PictureStudio$Paths" "toY" "[I") ∈ ps_W := ps_in2 40 rfl rfl
theorem ps_w2_42 : (Jvm.Cond.lays "PictureStudio$Paths" "PictureStudio$Paths" "lines" "I") ∈ ps_W := ps_in2 42 rfl rfl
theorem ps_w2_44 : (Jvm.Cond.lays "PictureStudio$Paths" "PictureStudio$Paths" "penX" "I") ∈ ps_W := ps_in2 44 rfl rfl
theorem ps_w2_46 : (Jvm.Cond.lays "PictureStudio$Paths" "PictureStudio$Paths" "penY" "I") ∈ ps_W := ps_in2 46 rfl rfl
theorem ps_w2_48 : (Jvm.Cond.laysFinal "PictureStudio$Paths" "PictureStudio$Paths" "turns" "[I") ∈ ps_W := ps_in2 48 rfl rfl
theorem ps_w2_50 : (Jvm.Cond.laysFinal "PictureStudio$Paths" "PictureStudio$Paths" "cover" "[I") ∈ ps_W := ps_in2 50 rfl rfl
theorem ps_w2_53 : (Jvm.Cond.classLink "PictureStudio" (62 : Nat) "PictureStudio$Lab") ∈ ps_W := ps_in2 53 rfl rfl
theorem ps_w2_54 : (Jvm.Cond.instantiable "PictureStudio$Lab" (13 : Nat)) ∈ ps_W := ps_in2 54 rfl rfl
theorem ps_w2_55 : (Jvm.Cond.methodLink "PictureStudio" (64 : Nat) ({ cls := "PictureStudio$Lab", name := "<init>", desc := "()V" } : Jvm.MethodName)) ∈ ps_W := ps_in2 55 rfl rfl
theorem ps_w2_56 : (Jvm.Cond.instanceMethod ({ cls := "PictureStudio$Lab", name := "<init>", desc := "()V" } : Jvm.MethodName)) ∈ ps_W := ps_in2 56 rfl rfl
theorem ps_w2_57 : (Jvm.Cond.code ({ cls := "PictureStudio$Lab", name := "<init>", desc := "()V" } : Jvm.MethodName) prog_5_method_1_code (2 : Nat) (Option.none : Option Jvm.ClassFile.FieldType)) ∈ ps_W := ps_in2 57 rfl rfl
theorem ps_w2_58 : (Jvm.Cond.methodLink "PictureStudio$Lab" (3 : Nat) ({ cls := "java/lang/Object", name := "<init>", desc := "()V" } : Jvm.MethodName)) ∈ ps_W := ps_in2 58 rfl rfl
theorem ps_w2_59 : (Jvm.Cond.fieldLink "PictureStudio$Lab" (9 : Nat) "PictureStudio$Lab" "profiles" "[I") ∈ ps_W := ps_in2 59 rfl rfl
theorem ps_w2_60 : (Jvm.Cond.fieldLink "PictureStudio" (542 : Nat) "PictureStudio$Lab" "profiles" "[I") ∈ ps_W := ps_in2 60 rfl rfl
theorem ps_w2_61 : (Jvm.Cond.fieldLink "PictureStudio$Lab" (15 : Nat) "PictureStudio$Lab" "frame" "[I") ∈ ps_W := ps_in2 61 rfl rfl
theorem ps_w2_62 : (Jvm.Cond.fieldLink "PictureStudio" (545 : Nat) "PictureStudio$Lab" "frame" "[I") ∈ ps_W := ps_in2 62 rfl rfl
theorem ps_w2_63 : (Jvm.Cond.fieldLink "PictureStudio$Lab" (18 : Nat) "PictureStudio$Lab" "levels" "[I") ∈ ps_W := ps_in2 63 rfl rfl
theorem ps_w2_64 : (Jvm.Cond.fieldLink "PictureStudio$Lab" (21 : Nat) "PictureStudio$Lab" "inverse" "[J") ∈ ps_W := ps_in2 64 rfl rfl
theorem ps_w2_65 : (Jvm.Cond.fieldLink "PictureStudio$Lab" (25 : Nat) "PictureStudio$Lab" "shades" "[I") ∈ ps_W := ps_in2 65 rfl rfl
theorem ps_w2_66 : (Jvm.Cond.fieldLink "PictureStudio$Lab" (28 : Nat) "PictureStudio$Lab" "starts" "[I") ∈ ps_W := ps_in2 66 rfl rfl
theorem ps_w2_67 : (Jvm.Cond.fieldLink "PictureStudio$Lab" (31 : Nat) "PictureStudio$Lab" "sizes" "[I") ∈ ps_W := ps_in2 67 rfl rfl
theorem ps_w2_68 : (Jvm.Cond.fieldLink "PictureStudio$Lab" (34 : Nat) "PictureStudio$Lab" "colours" "[I") ∈ ps_W := ps_in2 68 rfl rfl
theorem ps_w2_69 : (Jvm.Cond.fieldLink "PictureStudio$Lab" (91 : Nat) "PictureStudio$Lab" "boxes" "I") ∈ ps_W := ps_in2 69 rfl rfl
theorem ps_w2_70 : (Jvm.Cond.fieldLink "PictureStudio$Lab" (99 : Nat) "PictureStudio$Lab" "widest" "I") ∈ ps_W := ps_in2 70 rfl rfl
theorem ps_w2_71 : (Jvm.Cond.fieldLink "PictureStudio$Lab" (102 : Nat) "PictureStudio$Lab" "widestShift" "I") ∈ ps_W := ps_in2 71 rfl rfl
theorem ps_w2_72 : (Jvm.Cond.fieldLink "PictureStudio$Lab" (37 : Nat) "PictureStudio$Lab" "errors" "[I") ∈ ps_W := ps_in2 72 rfl rfl
theorem ps_w2_73 : (Jvm.Cond.fieldLink "PictureStudio$Lab" (40 : Nat) "PictureStudio$Lab" "light" "[I") ∈ ps_W := ps_in2 73 rfl rfl
theorem ps_w2_74 : (Jvm.Cond.laysFinal "PictureStudio$Lab" "PictureStudio$Lab" "profiles" "[I") ∈ ps_W := ps_in2 74 rfl rfl
theorem ps_w2_76 : (Jvm.Cond.laysFinal "PictureStudio$Lab" "PictureStudio$Lab" "frame" "[I") ∈ ps_W := ps_in2 76 rfl rfl
theorem ps_w2_78 : (Jvm.Cond.laysFinal "PictureStudio$Lab" "PictureStudio$Lab" "levels" "[I") ∈ ps_W := ps_in2 78 rfl rfl
theorem ps_w2_80 : (Jvm.Cond.laysFinal "PictureStudio$Lab" "PictureStudio$Lab" "inverse" "[J") ∈ ps_W := ps_in2 80 rfl rfl
theorem ps_w2_82 : (Jvm.Cond.laysFinal "PictureStudio$Lab" "PictureStudio$Lab" "shades" "[I") ∈ ps_W := ps_in2 82 rfl rfl
theorem ps_w2_84 : (Jvm.Cond.laysFinal "PictureStudio$Lab" "PictureStudio$Lab" "starts" "[I") ∈ ps_W := ps_in2 84 rfl rfl
theorem ps_w2_86 : (Jvm.Cond.laysFinal "PictureStudio$Lab" "PictureStudio$Lab" "sizes" "[I") ∈ ps_W := ps_in2 86 rfl rfl
theorem ps_w2_88 : (Jvm.Cond.laysFinal "PictureStudio$Lab" "PictureStudio$Lab" "colours" "[I") ∈ ps_W := ps_in2 88 rfl rfl
theorem ps_w2_90 : (Jvm.Cond.lays "PictureStudio$Lab" "PictureStudio$Lab" "boxes" "I") ∈ ps_W := ps_in2 90 rfl rfl
theorem ps_w2_92 : (Jvm.Cond.lays "PictureStudio$Lab" "PictureStudio$Lab" "widest" "I") ∈ ps_W := ps_in2 92 rfl rfl
theorem ps_w2_94 : (Jvm.Cond.lays "PictureStudio$Lab" "PictureStudio$Lab" "widestShift" "I") ∈ ps_W := ps_in2 94 rfl rfl
theorem ps_w2_96 : (Jvm.Cond.laysFinal "PictureStudio$Lab" "PictureStudio$Lab" "errors" "[I") ∈ ps_W := ps_in2 96 rfl rfl
theorem ps_w2_98 : (Jvm.Cond.laysFinal "PictureStudio$Lab" "PictureStudio$Lab" "light" "[I") ∈ ps_W := ps_in2 98 rfl rfl
theorem ps_w2_101 : (Jvm.Cond.arrayClass Jvm.ClassFile.FieldType.long) ∈ ps_W := ps_in2 101 rfl rfl
theorem ps_w2_102 : (Jvm.Cond.classLink "PictureStudio" (69 : Nat) "PictureStudio$PngMaker") ∈ ps_W := ps_in2 102 rfl rfl
theorem ps_w2_103 : (Jvm.Cond.instantiable "PictureStudio$PngMaker" (6 : Nat)) ∈ ps_W := ps_in2 103 rfl rfl
theorem ps_w2_105 : (Jvm.Cond.instanceMethod ({ cls := "PictureStudio$PngMaker", name := "<init>", desc := "()V" } : Jvm.MethodName)) ∈ ps_W := ps_in2 105 rfl rfl
theorem ps_w2_106 : (Jvm.Cond.code ({ cls := "PictureStudio$PngMaker", name := "<init>", desc := "()V" } : Jvm.MethodName) prog_9_method_1_code (1 : Nat) (Option.none : Option Jvm.ClassFile.FieldType)) ∈ ps_W := ps_in2 106 rfl rfl
theorem ps_w2_107 : (Jvm.Cond.methodLink "PictureStudio$PngMaker" (3 : Nat) ({ cls := "java/lang/Object", name := "<init>", desc := "()V" } : Jvm.MethodName)) ∈ ps_W := ps_in2 107 rfl rfl
theorem ps_w2_108 : (Jvm.Cond.fieldLink "PictureStudio$PngMaker" (11 : Nat) "PictureStudio$PngMaker" "out" "[I") ∈ ps_W := ps_in2 108 rfl rfl
theorem ps_w2_109 : (Jvm.Cond.fieldLink "PictureStudio$PngMaker" (18 : Nat) "PictureStudio$PngMaker" "length" "I") ∈ ps_W := ps_in2 109 rfl rfl
theorem ps_w2_110 : (Jvm.Cond.fieldLink "PictureStudio" (585 : Nat) "PictureStudio$PngMaker" "length" "I") ∈ ps_W := ps_in2 110 rfl rfl
theorem ps_w2_111 : (Jvm.Cond.fieldLink "PictureStudio$PngMaker" (15 : Nat) "PictureStudio$PngMaker" "rows" "[I") ∈ ps_W := ps_in2 111 rfl rfl
theorem ps_w2_112 : (Jvm.Cond.fieldLink "PictureStudio$PngMaker" (48 : Nat) "PictureStudio$PngMaker" "rowLength" "I") ∈ ps_W := ps_in2 112 rfl rfl
theorem ps_w2_113 : (Jvm.Cond.fieldLink "PictureStudio$PngMaker" (76 : Nat) "PictureStudio$PngMaker" "bits" "I") ∈ ps_W := ps_in2 113 rfl rfl
theorem ps_w2_114 : (Jvm.Cond.fieldLink "PictureStudio$PngMaker" (79 : Nat) "PictureStudio$PngMaker" "bitCount" "I") ∈ ps_W := ps_in2 114 rfl rfl
theorem ps_w2_115 : (Jvm.Cond.laysFinal "PictureStudio$PngMaker" "PictureStudio$PngMaker" "out" "[I") ∈ ps_W := ps_in2 115 rfl rfl
theorem ps_w2_117 : (Jvm.Cond.lays "PictureStudio$PngMaker" "PictureStudio$PngMaker" "length" "I") ∈ ps_W := ps_in2 117 rfl rfl
theorem ps_w2_119 : (Jvm.Cond.laysFinal "PictureStudio$PngMaker" "PictureStudio$PngMaker" "rows" "[I") ∈ ps_W := ps_in2 119 rfl rfl
theorem ps_w2_121 : (Jvm.Cond.lays "PictureStudio$PngMaker" "PictureStudio$PngMaker" "rowLength" "I") ∈ ps_W := ps_in2 121 rfl rfl
theorem ps_w2_123 : (Jvm.Cond.lays "PictureStudio$PngMaker" "PictureStudio$PngMaker" "bits" "I") ∈ ps_W := ps_in2 123 rfl rfl
theorem ps_w2_125 : (Jvm.Cond.lays "PictureStudio$PngMaker" "PictureStudio$PngMaker" "bitCount" "I") ∈ ps_W := ps_in2 125 rfl rfl
theorem ps_w2_128 : (Jvm.Cond.classLink "PictureStudio" (76 : Nat) "PictureStudio$PngReader") ∈ ps_W := ps_in2 128 rfl rfl
theorem ps_w2_129 : (Jvm.Cond.instantiable "PictureStudio$PngReader" (13 : Nat)) ∈ ps_W := ps_in2 129 rfl rfl
theorem ps_w2_131 : (Jvm.Cond.instanceMethod ({ cls := "PictureStudio$PngReader", name := "<init>", desc := "()V" } : Jvm.MethodName)) ∈ ps_W := ps_in2 131 rfl rfl
theorem ps_w2_132 : (Jvm.Cond.code ({ cls := "PictureStudio$PngReader", name := "<init>", desc := "()V" } : Jvm.MethodName) prog_10_method_1_code (1 : Nat) (Option.none : Option Jvm.ClassFile.FieldType)) ∈ ps_W := ps_in2 132 rfl rfl
theorem ps_w2_133 : (Jvm.Cond.methodLink "PictureStudio$PngReader" (3 : Nat) ({ cls := "java/lang/Object", name := "<init>", desc := "()V" } : Jvm.MethodName)) ∈ ps_W := ps_in2 133 rfl rfl
theorem ps_w2_135 : (Jvm.Cond.classLink "PictureStudio$PngReader" (24 : Nat) "PictureStudio$Inflater") ∈ ps_W := ps_in2 135 rfl rfl
theorem ps_w2_136 : (Jvm.Cond.instantiable "PictureStudio$Inflater" (13 : Nat)) ∈ ps_W := ps_in2 136 rfl rfl
theorem ps_w2_138 : (Jvm.Cond.instanceMethod ({ cls := "PictureStudio$Inflater", name := "<init>", desc := "()V" } : Jvm.MethodName)) ∈ ps_W := ps_in2 138 rfl rfl
theorem ps_w2_139 : (Jvm.Cond.code ({ cls := "PictureStudio$Inflater", name := "<init>", desc := "()V" } : Jvm.MethodName) prog_4_method_1_code (1 : Nat) (Option.none : Option Jvm.ClassFile.FieldType)) ∈ ps_W := ps_in2 139 rfl rfl
theorem ps_w2_140 : (Jvm.Cond.methodLink "PictureStudio$Inflater" (3 : Nat) ({ cls := "java/lang/Object", name := "<init>", desc := "()V" } : Jvm.MethodName)) ∈ ps_W := ps_in2 140 rfl rfl
theorem ps_w2_141 : (Jvm.Cond.fieldLink "PictureStudio$Inflater" (9 : Nat) "PictureStudio$Inflater" "packed" "[I") ∈ ps_W := ps_in2 141 rfl rfl
theorem ps_w2_142 : (Jvm.Cond.fieldLink "PictureStudio$Inflater" (36 : Nat) "PictureStudio$Inflater" "length" "I") ∈ ps_W := ps_in2 142 rfl rfl
theorem ps_w2_143 : (Jvm.Cond.fieldLink "PictureStudio$PngReader" (59 : Nat) "PictureStudio$Inflater" "length" "I") ∈ ps_W := ps_in2 143 rfl rfl
theorem ps_w2_144 : (Jvm.Cond.fieldLink "PictureStudio$Inflater" (43 : Nat) "PictureStudio$Inflater" "bit" "I") ∈ ps_W := ps_in2 144 rfl rfl
theorem ps_w2_145 : (Jvm.Cond.fieldLink "PictureStudio$Inflater" (46 : Nat) "PictureStudio$Inflater" "wrong" "Z") ∈ ps_W := ps_in2 145 rfl rfl
theorem ps_w2_146 : (Jvm.Cond.fieldLink "PictureStudio$Inflater" (15 : Nat) "PictureStudio$Inflater" "out" "[I") ∈ ps_W := ps_in2 146 rfl rfl
theorem ps_w2_147 : (Jvm.Cond.fieldLink "PictureStudio$Inflater" (40 : Nat) "PictureStudio$Inflater" "size" "I") ∈ ps_W := ps_in2 147 rfl rfl
theorem ps_w2_148 : (Jvm.Cond.fieldLink "PictureStudio$Inflater" (56 : Nat) "PictureStudio$Inflater" "need" "I") ∈ ps_W := ps_in2 148 rfl rfl
theorem ps_w2_149 : (Jvm.Cond.fieldLink "PictureStudio$Inflater" (18 : Nat) "PictureStudio$Inflater" "lengths" "[I") ∈ ps_W := ps_in2 149 rfl rfl
theorem ps_w2_150 : (Jvm.Cond.fieldLink "PictureStudio$Inflater" (21 : Nat) "PictureStudio$Inflater" "literalCounts" "[I") ∈ ps_W := ps_in2 150 rfl rfl
theorem ps_w2_151 : (Jvm.Cond.fieldLink "PictureStudio$Inflater" (24 : Nat) "PictureStudio$Inflater" "literalSymbols" "[I") ∈ ps_W := ps_in2 151 rfl rfl
theorem ps_w2_152 : (Jvm.Cond.fieldLink "PictureStudio$Inflater" (27 : Nat) "PictureStudio$Inflater" "distanceCounts" "[I") ∈ ps_W := ps_in2 152 rfl rfl
theorem ps_w2_153 : (Jvm.Cond.fieldLink "PictureStudio$Inflater" (30 : Nat) "PictureStudio$Inflater" "distanceSymbols" "[I") ∈ ps_W := ps_in2 153 rfl rfl
theorem ps_w2_154 : (Jvm.Cond.fieldLink "PictureStudio$Inflater" (33 : Nat) "PictureStudio$Inflater" "offsets" "[I") ∈ ps_W := ps_in2 154 rfl rfl
theorem ps_w2_155 : (Jvm.Cond.laysFinal "PictureStudio$Inflater" "PictureStudio$Inflater" "packed" "[I") ∈ ps_W := ps_in2 155 rfl rfl
theorem ps_w2_157 : (Jvm.Cond.lays "PictureStudio$Inflater" "PictureStudio$Inflater" "length" "I") ∈ ps_W := ps_in2 157 rfl rfl
theorem ps_w2_159 : (Jvm.Cond.lays "PictureStudio$Inflater" "PictureStudio$Inflater" "bit" "I") ∈ ps_W := ps_in2 159 rfl rfl
theorem ps_w2_161 : (Jvm.Cond.lays "PictureStudio$Inflater" "PictureStudio$Inflater" "wrong" "Z") ∈ ps_W := ps_in2 161 rfl rfl
theorem ps_w2_163 : (Jvm.Cond.laysFinal "PictureStudio$Inflater" "PictureStudio$Inflater" "out" "[I") ∈ ps_W := ps_in2 163 rfl rfl
theorem ps_w2_165 : (Jvm.Cond.lays "PictureStudio$Inflater" "PictureStudio$Inflater" "size" "I") ∈ ps_W := ps_in2 165 rfl rfl
theorem ps_w2_167 : (Jvm.Cond.lays "PictureStudio$Inflater" "PictureStudio$Inflater" "need" "I") ∈ ps_W := ps_in2 167 rfl rfl
theorem ps_w2_169 : (Jvm.Cond.laysFinal "PictureStudio$Inflater" "PictureStudio$Inflater" "lengths" "[I") ∈ ps_W := ps_in2 169 rfl rfl
theorem ps_w2_171 : (Jvm.Cond.laysFinal "PictureStudio$Inflater" "PictureStudio$Inflater" "literalCounts" "[I") ∈ ps_W := ps_in2 171 rfl rfl
theorem ps_w2_173 : (Jvm.Cond.laysFinal "PictureStudio$Inflater" "PictureStudio$Inflater" "literalSymbols" "[I") ∈ ps_W := ps_in2 173 rfl rfl
theorem ps_w2_175 : (Jvm.Cond.laysFinal "PictureStudio$Inflater" "PictureStudio$Inflater" "distanceCounts" "[I") ∈ ps_W := ps_in2 175 rfl rfl
theorem ps_w2_177 : (Jvm.Cond.laysFinal "PictureStudio$Inflater" "PictureStudio$Inflater" "distanceSymbols" "[I") ∈ ps_W := ps_in2 177 rfl rfl
theorem ps_w2_179 : (Jvm.Cond.laysFinal "PictureStudio$Inflater" "PictureStudio$Inflater" "offsets" "[I") ∈ ps_W := ps_in2 179 rfl rfl
theorem ps_w2_182 : (Jvm.Cond.fieldLink "PictureStudio$PngReader" (31 : Nat) "PictureStudio$PngReader" "faultSort" "I") ∈ ps_W := ps_in2 182 rfl rfl
theorem ps_w2_183 : (Jvm.Cond.fieldLink "PictureStudio" (451 : Nat) "PictureStudio$PngReader" "faultSort" "I") ∈ ps_W := ps_in2 183 rfl rfl
theorem ps_w2_184 : (Jvm.Cond.fieldLink "PictureStudio$PngReader" (35 : Nat) "PictureStudio$PngReader" "faultPlace" "I") ∈ ps_W := ps_in2 184 rfl rfl
theorem ps_w2_185 : (Jvm.Cond.fieldLink "PictureStudio" (452 : Nat) "PictureStudio$PngReader" "faultPlace" "I") ∈ ps_W := ps_in2 185 rfl rfl
theorem ps_w2_186 : (Jvm.Cond.fieldLink "PictureStudio$PngReader" (13 : Nat) "PictureStudio$PngReader" "data" "[I") ∈ ps_W := ps_in2 186 rfl rfl
theorem ps_w2_187 : (Jvm.Cond.fieldLink "PictureStudio$PngReader" (44 : Nat) "PictureStudio$PngReader" "n" "I") ∈ ps_W := ps_in2 187 rfl rfl
theorem ps_w2_188 : (Jvm.Cond.fieldLink "PictureStudio$PngReader" (88 : Nat) "PictureStudio$PngReader" "width" "I") ∈ ps_W := ps_in2 188 rfl rfl
theorem ps_w2_189 : (Jvm.Cond.fieldLink "PictureStudio$PngReader" (85 : Nat) "PictureStudio$PngReader" "height" "I") ∈ ps_W := ps_in2 189 rfl rfl
theorem ps_w2_190 : (Jvm.Cond.fieldLink "PictureStudio$PngReader" (47 : Nat) "PictureStudio$PngReader" "colour" "I") ∈ ps_W := ps_in2 190 rfl rfl
theorem ps_w2_191 : (Jvm.Cond.fieldLink "PictureStudio$PngReader" (18 : Nat) "PictureStudio$PngReader" "palette" "[I") ∈ ps_W := ps_in2 191 rfl rfl
theorem ps_w2_192 : (Jvm.Cond.fieldLink "PictureStudio$PngReader" (50 : Nat) "PictureStudio$PngReader" "paletteCount" "I") ∈ ps_W := ps_in2 192 rfl rfl
theorem ps_w2_193 : (Jvm.Cond.fieldLink "PictureStudio$PngReader" (21 : Nat) "PictureStudio$PngReader" "clear" "[I") ∈ ps_W := ps_in2 193 rfl rfl
theorem ps_w2_194 : (Jvm.Cond.fieldLink "PictureStudio$PngReader" (53 : Nat) "PictureStudio$PngReader" "clearCount" "I") ∈ ps_W := ps_in2 194 rfl rfl
theorem ps_w2_195 : (Jvm.Cond.fieldLink "PictureStudio$PngReader" (56 : Nat) "PictureStudio$PngReader" "firstPacked" "I") ∈ ps_W := ps_in2 195 rfl rfl
theorem ps_w2_196 : (Jvm.Cond.fieldLink "PictureStudio$PngReader" (27 : Nat) "PictureStudio$PngReader" "inflater" "LPictureStudio$Inflater;") ∈ ps_W := ps_in2 196 rfl rfl
theorem ps_w2_197 : (Jvm.Cond.lays "PictureStudio$PngReader" "PictureStudio$PngReader" "faultSort" "I") ∈ ps_W := ps_in2 197 rfl rfl
theorem ps_w2_199 : (Jvm.Cond.lays "PictureStudio$PngReader" "PictureStudio$PngReader" "faultPlace" "I") ∈ ps_W := ps_in2 199 rfl rfl
theorem ps_w2_201 : (Jvm.Cond.lays "PictureStudio$PngReader" "PictureStudio$PngReader" "data" "[I") ∈ ps_W := ps_in2 201 rfl rfl
theorem ps_w2_203 : (Jvm.Cond.lays "PictureStudio$PngReader" "PictureStudio$PngReader" "n" "I") ∈ ps_W := ps_in2 203 rfl rfl
theorem ps_w2_205 : (Jvm.Cond.lays "PictureStudio$PngReader" "PictureStudio$PngReader" "width" "I") ∈ ps_W := ps_in2 205 rfl rfl
theorem ps_w2_207 : (Jvm.Cond.lays "PictureStudio$PngReader" "PictureStudio$PngReader" "height" "I") ∈ ps_W := ps_in2 207 rfl rfl
theorem ps_w2_209 : (Jvm.Cond.lays "PictureStudio$PngReader" "PictureStudio$PngReader" "colour" "I") ∈ ps_W := ps_in2 209 rfl rfl
theorem ps_w2_211 : (Jvm.Cond.laysFinal "PictureStudio$PngReader" "PictureStudio$PngReader" "palette" "[I") ∈ ps_W := ps_in2 211 rfl rfl
theorem ps_w2_213 : (Jvm.Cond.lays "PictureStudio$PngReader" "PictureStudio$PngReader" "paletteCount" "I") ∈ ps_W := ps_in2 213 rfl rfl
theorem ps_w2_215 : (Jvm.Cond.laysFinal "PictureStudio$PngReader" "PictureStudio$PngReader" "clear" "[I") ∈ ps_W := ps_in2 215 rfl rfl
theorem ps_w2_217 : (Jvm.Cond.lays "PictureStudio$PngReader" "PictureStudio$PngReader" "clearCount" "I") ∈ ps_W := ps_in2 217 rfl rfl
theorem ps_w2_219 : (Jvm.Cond.lays "PictureStudio$PngReader" "PictureStudio$PngReader" "firstPacked" "I") ∈ ps_W := ps_in2 219 rfl rfl
theorem ps_w2_221 : (Jvm.Cond.laysFinal "PictureStudio$PngReader" "PictureStudio$PngReader" "inflater" "LPictureStudio$Inflater;") ∈ ps_W := ps_in2 221 rfl rfl
theorem ps_w2_224 : (Jvm.Cond.fieldLink "PictureStudio" (12 : Nat) "PictureStudio" "now" "LPictureStudio$Stand;") ∈ ps_W := ps_in2 224 rfl rfl
theorem ps_w2_225 : (Jvm.Cond.fieldLink "PictureStudio" (18 : Nat) "PictureStudio" "past" "[LPictureStudio$Stand;") ∈ ps_W := ps_in2 225 rfl rfl
theorem ps_w2_226 : (Jvm.Cond.fieldLink "PictureStudio" (171 : Nat) "PictureStudio" "pastCount" "I") ∈ ps_W := ps_in2 226 rfl rfl
theorem ps_w2_227 : (Jvm.Cond.fieldLink "PictureStudio" (22 : Nat) "PictureStudio" "undone" "[LPictureStudio$Stand;") ∈ ps_W := ps_in2 227 rfl rfl
theorem ps_w2_228 : (Jvm.Cond.fieldLink "PictureStudio" (174 : Nat) "PictureStudio" "undoneCount" "I") ∈ ps_W := ps_in2 228 rfl rfl
theorem ps_w2_229 : (Jvm.Cond.fieldLink "PictureStudio" (28 : Nat) "PictureStudio" "looks" "LPictureStudio$Looks;") ∈ ps_W := ps_in2 229 rfl rfl
theorem ps_w2_230 : (Jvm.Cond.fieldLink "PictureStudio" (37 : Nat) "PictureStudio" "viewer" "LPictureStudio$Viewer;") ∈ ps_W := ps_in2 230 rfl rfl
theorem ps_w2_231 : (Jvm.Cond.fieldLink "PictureStudio" (44 : Nat) "PictureStudio" "area" "LPictureStudio$Area;") ∈ ps_W := ps_in2 231 rfl rfl
theorem ps_w2_232 : (Jvm.Cond.fieldLink "PictureStudio" (51 : Nat) "PictureStudio" "pen" "LPictureStudio$Brush;") ∈ ps_W := ps_in2 232 rfl rfl
theorem ps_w2_233 : (Jvm.Cond.fieldLink "PictureStudio" (58 : Nat) "PictureStudio" "paths" "LPictureStudio$Paths;") ∈ ps_W := ps_in2 233 rfl rfl
theorem ps_w2_234 : (Jvm.Cond.fieldLink "PictureStudio" (65 : Nat) "PictureStudio" "lab" "LPictureStudio$Lab;") ∈ ps_W := ps_in2 234 rfl rfl
theorem ps_w2_235 : (Jvm.Cond.fieldLink "PictureStudio" (72 : Nat) "PictureStudio" "maker" "LPictureStudio$PngMaker;") ∈ ps_W := ps_in2 235 rfl rfl
theorem ps_w2_236 : (Jvm.Cond.fieldLink "PictureStudio" (79 : Nat) "PictureStudio" "reader" "LPictureStudio$PngReader;") ∈ ps_W := ps_in2 236 rfl rfl
theorem ps_w2_237 : (Jvm.Cond.fieldLink "PictureStudio" (83 : Nat) "PictureStudio" "input" "[I") ∈ ps_W := ps_in2 237 rfl rfl
theorem ps_w2_238 : (Jvm.Cond.fieldLink "PictureStudio" (90 : Nat) "PictureStudio" "inputLength" "I") ∈ ps_W := ps_in2 238 rfl rfl
theorem ps_w2_239 : (Jvm.Cond.fieldLink "PictureStudio" (109 : Nat) "PictureStudio" "faultSort" "I") ∈ ps_W := ps_in2 239 rfl rfl
theorem ps_w3_0 : (Jvm.Cond.fieldLink "PictureStudio" (112 : Nat) "PictureStudio" "faultPlace" "I") ∈ ps_W := ps_in3 0 rfl rfl
theorem ps_w3_1 : (Jvm.Cond.fieldLink "PictureStudio" (87 : Nat) "PictureStudio" "filtered" "[I") ∈ ps_W := ps_in3 1 rfl rfl
theorem ps_w3_2 : (Jvm.Cond.lays "PictureStudio" "PictureStudio" "now" "LPictureStudio$Stand;") ∈ ps_W := ps_in3 2 rfl rfl
theorem ps_w3_4 : (Jvm.Cond.laysFinal "PictureStudio" "PictureStudio" "past" "[LPictureStudio$Stand;") ∈ ps_W := ps_in3 4 rfl rfl
theorem ps_w3_6 : (Jvm.Cond.lays "PictureStudio" "PictureStudio" "pastCount" "I") ∈ ps_W := ps_in3 6 rfl rfl
theorem ps_w3_8 : (Jvm.Cond.laysFinal "PictureStudio" "PictureStudio" "undone" "[LPictureStudio$Stand;") ∈ ps_W := ps_in3 8 rfl rfl
theorem ps_w3_10 : (Jvm.Cond.lays "PictureStudio" "PictureStudio" "undoneCount" "I") ∈ ps_W := ps_in3 10 rfl rfl
theorem ps_w3_12 : (Jvm.Cond.laysFinal "PictureStudio" "PictureStudio" "looks" "LPictureStudio$Looks;") ∈ ps_W := ps_in3 12 rfl rfl
theorem ps_w3_14 : (Jvm.Cond.laysFinal "PictureStudio" "PictureStudio" "viewer" "LPictureStudio$Viewer;") ∈ ps_W := ps_in3 14 rfl rfl
theorem ps_w3_16 : (Jvm.Cond.laysFinal "PictureStudio" "PictureStudio" "area" "LPictureStudio$Area;") ∈ ps_W := ps_in3 16 rfl rfl
theorem ps_w3_18 : (Jvm.Cond.laysFinal "PictureStudio" "PictureStudio" "pen" "LPictureStudio$Brush;") ∈ ps_W := ps_in3 18 rfl rfl
theorem ps_w3_20 : (Jvm.Cond.laysFinal "PictureStudio" "PictureStudio" "paths" "LPictureStudio$Paths;") ∈ ps_W := ps_in3 20 rfl rfl
theorem ps_w3_22 : (Jvm.Cond.laysFinal "PictureStudio" "PictureStudio" "lab" "LPictureStudio$Lab;") ∈ ps_W := ps_in3 22 rfl rfl
theorem ps_w3_24 : (Jvm.Cond.laysFinal "PictureStudio" "PictureStudio" "maker" "LPictureStudio$PngMaker;") ∈ ps_W := ps_in3 24 rfl rfl
theorem ps_w3_26 : (Jvm.Cond.laysFinal "PictureStudio" "PictureStudio" "reader" "LPictureStudio$PngReader;") ∈ ps_W := ps_in3 26 rfl rfl
theorem ps_w3_28 : (Jvm.Cond.laysFinal "PictureStudio" "PictureStudio" "input" "[I") ∈ ps_W := ps_in3 28 rfl rfl
theorem ps_w3_30 : (Jvm.Cond.lays "PictureStudio" "PictureStudio" "inputLength" "I") ∈ ps_W := ps_in3 30 rfl rfl
theorem ps_w3_32 : (Jvm.Cond.lays "PictureStudio" "PictureStudio" "faultSort" "I") ∈ ps_W := ps_in3 32 rfl rfl
theorem ps_w3_34 : (Jvm.Cond.lays "PictureStudio" "PictureStudio" "faultPlace" "I") ∈ ps_W := ps_in3 34 rfl rfl
theorem ps_w3_36 : (Jvm.Cond.laysFinal "PictureStudio" "PictureStudio" "filtered" "[I") ∈ ps_W := ps_in3 36 rfl rfl
theorem ps_w3_39 : (Jvm.Cond.methodLink "PictureStudioLaw" (182 : Nat) ({ cls := "PictureStudio", name := "fault", desc := "(I)I" } : Jvm.MethodName)) ∈ ps_W := ps_in3 39 rfl rfl
theorem ps_w3_40 : (Jvm.Cond.instanceMethod ({ cls := "PictureStudio", name := "fault", desc := "(I)I" } : Jvm.MethodName)) ∈ ps_W := ps_in3 40 rfl rfl
theorem ps_w3_41 : (Jvm.Cond.selects "PictureStudio" ({ cls := "PictureStudio", name := "fault", desc := "(I)I" } : Jvm.MethodName) ({ cls := "PictureStudio", name := "fault", desc := "(I)I" } : Jvm.MethodName)) ∈ ps_W := ps_in3 41 rfl rfl
theorem ps_w3_42 : (Jvm.Cond.code ({ cls := "PictureStudio", name := "fault", desc := "(I)I" } : Jvm.MethodName) prog_1_method_5_code (2 : Nat) (Option.some Jvm.ClassFile.FieldType.int)) ∈ ps_W := ps_in3 42 rfl rfl
theorem ps_w3_43 : (Jvm.Cond.methodLink "PictureStudioLaw" (268 : Nat) ({ cls := "PictureStudio", name := "front", desc := "(I)V" } : Jvm.MethodName)) ∈ ps_W := ps_in3 43 rfl rfl
theorem ps_w3_44 : (Jvm.Cond.instanceMethod ({ cls := "PictureStudio", name := "front", desc := "(I)V" } : Jvm.MethodName)) ∈ ps_W := ps_in3 44 rfl rfl
theorem ps_w3_45 : (Jvm.Cond.selects "PictureStudio" ({ cls := "PictureStudio", name := "front", desc := "(I)V" } : Jvm.MethodName) ({ cls := "PictureStudio", name := "front", desc := "(I)V" } : Jvm.MethodName)) ∈ ps_W := ps_in3 45 rfl rfl
theorem ps_w3_46 : (Jvm.Cond.code ({ cls := "PictureStudio", name := "front", desc := "(I)V" } : Jvm.MethodName) prog_1_method_53_code (2 : Nat) (Option.none : Option Jvm.ClassFile.FieldType)) ∈ ps_W := ps_in3 46 rfl rfl
theorem ps_w3_47 : (Jvm.Cond.methodLink "PictureStudioLaw" (306 : Nat) ({ cls := "PictureStudio", name := "hash", desc := "()I" } : Jvm.MethodName)) ∈ ps_W := ps_in3 47 rfl rfl
theorem ps_w3_48 : (Jvm.Cond.instanceMethod ({ cls := "PictureStudio", name := "hash", desc := "()I" } : Jvm.MethodName)) ∈ ps_W := ps_in3 48 rfl rfl
theorem ps_w3_49 : (Jvm.Cond.selects "PictureStudio" ({ cls := "PictureStudio", name := "hash", desc := "()I" } : Jvm.MethodName) ({ cls := "PictureStudio", name := "hash", desc := "()I" } : Jvm.MethodName)) ∈ ps_W := ps_in3 49 rfl rfl
theorem ps_w3_50 : (Jvm.Cond.code ({ cls := "PictureStudio", name := "hash", desc := "()I" } : Jvm.MethodName) prog_1_method_65_code (4 : Nat) (Option.some Jvm.ClassFile.FieldType.int)) ∈ ps_W := ps_in3 50 rfl rfl
theorem ps_w3_51 : (Jvm.Cond.methodLink "PictureStudio" (466 : Nat) ({ cls := "PictureStudio$Viewer", name := "seen", desc := "(LPictureStudio$Stand;)[I" } : Jvm.MethodName)) ∈ ps_W := ps_in3 51 rfl rfl
theorem ps_w3_52 : (Jvm.Cond.instanceMethod ({ cls := "PictureStudio$Viewer", name := "seen", desc := "(LPictureStudio$Stand;)[I" } : Jvm.MethodName)) ∈ ps_W := ps_in3 52 rfl rfl
theorem ps_w3_53 : (Jvm.Cond.selects "PictureStudio$Viewer" ({ cls := "PictureStudio$Viewer", name := "seen", desc := "(LPictureStudio$Stand;)[I" } : Jvm.MethodName) ({ cls := "PictureStudio$Viewer", name := "seen", desc := "(LPictureStudio$Stand;)[I" } : Jvm.MethodName)) ∈ ps_W := ps_in3 53 rfl rfl
theorem ps_w3_54 : (Jvm.Cond.code ({ cls := "PictureStudio$Viewer", name := "seen", desc := "(LPictureStudio$Stand;)[I" } : Jvm.MethodName) prog_12_method_9_code (2 : Nat) (Option.some (Jvm.ClassFile.FieldType.array Jvm.ClassFile.FieldType.int))) ∈ ps_W := ps_in3 54 rfl rfl
theorem ps_w3_55 : (Jvm.Cond.methodLink "PictureStudio$Viewer" (64 : Nat) ({ cls := "PictureStudio$Viewer", name := "viewOf", desc := "(LPictureStudio$Stand;II)V" } : Jvm.MethodName)) ∈ ps_W := ps_in3 55 rfl rfl
theorem ps_w3_57 : (Jvm.Cond.instanceMethod ({ cls := "PictureStudio$Viewer", name := "viewOf", desc := "(LPictureStudio$Stand;II)V" } : Jvm.MethodName)) ∈ ps_W := ps_in3 57 rfl rfl
theorem ps_w3_58 : (Jvm.Cond.code ({ cls := "PictureStudio$Viewer", name := "viewOf", desc := "(LPictureStudio$Stand;II)V" } : Jvm.MethodName) prog_12_method_11_code (6 : Nat) (Option.none : Option Jvm.ClassFile.FieldType)) ∈ ps_W := ps_in3 58 rfl rfl
theorem ps_w3_59 : (Jvm.Cond.methodLink "PictureStudio$Viewer" (41 : Nat) ({ cls := "java/util/Arrays", name := "fill", desc := "([II)V" } : Jvm.MethodName)) ∈ ps_W := ps_in3 59 rfl rfl
theorem ps_w3_60 : (Jvm.Cond.methodLink "PictureStudio$Viewer" (88 : Nat) ({ cls := "PictureStudio$Stand", name := "child", desc := "(II)LPictureStudio$Layer;" } : Jvm.MethodName)) ∈ ps_W := ps_in3 60 rfl rfl
theorem ps_w3_61 : (Jvm.Cond.instanceMethod ({ cls := "PictureStudio$Stand", name := "child", desc := "(II)LPictureStudio$Layer;" } : Jvm.MethodName)) ∈ ps_W := ps_in3 61 rfl rfl
theorem ps_w3_62 : (Jvm.Cond.selects "PictureStudio$Stand" ({ cls := "PictureStudio$Stand", name := "child", desc := "(II)LPictureStudio$Layer;" } : Jvm.MethodName) ({ cls := "PictureStudio$Stand", name := "child", desc := "(II)LPictureStudio$Layer;" } : Jvm.MethodName)) ∈ ps_W := ps_in3 62 rfl rfl
theorem ps_w3_63 : (Jvm.Cond.code ({ cls := "PictureStudio$Stand", name := "child", desc := "(II)LPictureStudio$Layer;" } : Jvm.MethodName) prog_11_method_4_code (4 : Nat) (Option.some (Jvm.ClassFile.FieldType.object "PictureStudio$Layer"))) ∈ ps_W := ps_in3 63 rfl rfl
theorem ps_w3_64 : (Jvm.Cond.methodLink "PictureStudio$Stand" (37 : Nat) ({ cls := "PictureStudio$Stand", name := "find", desc := "(I)LPictureStudio$Layer;" } : Jvm.MethodName)) ∈ ps_W := ps_in3 64 rfl rfl
theorem ps_w3_65 : (Jvm.Cond.instanceMethod ({ cls := "PictureStudio$Stand", name := "find", desc := "(I)LPictureStudio$Layer;" } : Jvm.MethodName)) ∈ ps_W := ps_in3 65 rfl rfl
theorem ps_w3_66 : (Jvm.Cond.selects "PictureStudio$Stand" ({ cls := "PictureStudio$Stand", name := "find", desc := "(I)LPictureStudio$Layer;" } : Jvm.MethodName) ({ cls := "PictureStudio$Stand", name := "find", desc := "(I)LPictureStudio$Layer;" } : Jvm.MethodName)) ∈ ps_W := ps_in3 66 rfl rfl
theorem ps_w3_67 : (Jvm.Cond.code ({ cls := "PictureStudio$Stand", name := "find", desc := "(I)LPictureStudio$Layer;" } : Jvm.MethodName) prog_11_method_3_code (2 : Nat) (Option.some (Jvm.ClassFile.FieldType.object "PictureStudio$Layer"))) ∈ ps_W := ps_in3 67 rfl rfl
theorem ps_w3_68 : (Jvm.Cond.methodLink "PictureStudio$Viewer" (74 : Nat) ({ cls := "PictureStudio$Viewer", name := "lay", desc := "(LPictureStudio$Stand;LPictureStudio$Layer;I)V" } : Jvm.MethodName)) ∈ ps_W := ps_in3 68 rfl rfl
theorem ps_w3_70 : (Jvm.Cond.instanceMethod ({ cls := "PictureStudio$Viewer", name := "lay", desc := "(LPictureStudio$Stand;LPictureStudio$Layer;I)V" } : Jvm.MethodName)) ∈ ps_W := ps_in3 70 rfl rfl
theorem ps_w3_71 : (Jvm.Cond.code ({ cls := "PictureStudio$Viewer", name := "lay", desc := "(LPictureStudio$Stand;LPictureStudio$Layer;I)V" } : Jvm.MethodName) prog_12_method_12_code (5 : Nat) (Option.none : Option Jvm.ClassFile.FieldType)) ∈ ps_W := ps_in3 71 rfl rfl
theorem ps_w3_72 : (Jvm.Cond.methodLink "PictureStudio$Viewer" (103 : Nat) ({ cls := "PictureStudio$Viewer", name := "adjust", desc := "(LPictureStudio$Stand;LPictureStudio$Layer;I)V" } : Jvm.MethodName)) ∈ ps_W := ps_in3 72 rfl rfl
theorem ps_w3_74 : (Jvm.Cond.instanceMethod ({ cls := "PictureStudio$Viewer", name := "adjust", desc := "(LPictureStudio$Stand;LPictureStudio$Layer;I)V" } : Jvm.MethodName)) ∈ ps_W := ps_in3 74 rfl rfl
theorem ps_w3_75 : (Jvm.Cond.code ({ cls := "PictureStudio$Viewer", name := "adjust", desc := "(LPictureStudio$Stand;LPictureStudio$Layer;I)V" } : Jvm.MethodName) prog_12_method_13_code (8 : Nat) (Option.none : Option Jvm.ClassFile.FieldType)) ∈ ps_W := ps_in3 75 rfl rfl
theorem ps_w3_76 : (Jvm.Cond.methodLink "PictureStudio$Viewer" (121 : Nat) ({ cls := "PictureStudio$Looks", name := "apply", desc := "(II[I[III)V" } : Jvm.MethodName)) ∈ ps_W := ps_in3 76 rfl rfl
theorem ps_w3_77 : (Jvm.Cond.instanceMethod ({ cls := "PictureStudio$Looks", name := "apply", desc := "(II[I[III)V" } : Jvm.MethodName)) ∈ ps_W := ps_in3 77 rfl rfl
theorem ps_w3_78 : (Jvm.Cond.selects "PictureStudio$Looks" ({ cls := "PictureStudio$Looks", name := "apply", desc := "(II[I[III)V" } : Jvm.MethodName) ({ cls := "PictureStudio$Looks", name := "apply", desc := "(II[I[III)V" } : Jvm.MethodName)) ∈ ps_W := ps_in3 78 rfl rfl
theorem ps_w3_79 : (Jvm.Cond.code ({ cls := "PictureStudio$Looks", name := "apply", desc := "(II[I[III)V" } : Jvm.MethodName) prog_7_method_9_code (10 : Nat) (Option.none : Option Jvm.ClassFile.FieldType)) ∈ ps_W := ps_in3 79 rfl rfl
theorem ps_w3_81 : (Jvm.Cond.static ({ cls := "PictureStudio", name := "within", desc := "(III)I" } : Jvm.MethodName)) ∈ ps_W := ps_in3 81 rfl rfl
theorem ps_w3_82 : (Jvm.Cond.code ({ cls := "PictureStudio", name := "within", desc := "(III)I" } : Jvm.MethodName) prog_1_method_75_code (3 : Nat) (Option.some Jvm.ClassFile.FieldType.int)) ∈ ps_W := ps_in3 82 rfl rfl
theorem ps_w3_83 : (Jvm.Cond.methodLink "PictureStudio$Looks" (65 : Nat) ({ cls := "PictureStudio$Looks", name := "soft", desc := "(III)I" } : Jvm.MethodName)) ∈ ps_W := ps_in3 83 rfl rfl
theorem ps_w3_85 : (Jvm.Cond.instanceMethod ({ cls := "PictureStudio$Looks", name := "soft", desc := "(III)I" } : Jvm.MethodName)) ∈ ps_W := ps_in3 85 rfl rfl
theorem ps_w3_86 : (Jvm.Cond.code ({ cls := "PictureStudio$Looks", name := "soft", desc := "(III)I" } : Jvm.MethodName) prog_7_method_11_code (12 : Nat) (Option.some Jvm.ClassFile.FieldType.int)) ∈ ps_W := ps_in3 86 rfl rfl
theorem ps_w3_87 : (Jvm.Cond.methodLink "PictureStudio$Looks" (80 : Nat) ({ cls := "PictureStudio$Looks", name := "near", desc := "(II)I" } : Jvm.MethodName)) ∈ ps_W := ps_in3 87 rfl rfl
theorem ps_w3_89 : (Jvm.Cond.instanceMethod ({ cls := "PictureStudio$Looks", name := "near", desc := "(II)I" } : Jvm.MethodName)) ∈ ps_W := ps_in3 89 rfl rfl
theorem ps_w3_90 : (Jvm.Cond.code ({ cls := "PictureStudio$Looks", name := "near", desc := "(II)I" } : Jvm.MethodName) prog_7_method_10_code (5 : Nat) (Option.some Jvm.ClassFile.FieldType.int)) ∈ ps_W := ps_in3 90 rfl rfl
theorem ps_w3_92 : (Jvm.Cond.static ({ cls := "PictureStudio", name := "mean", desc := "(IIIII)I" } : Jvm.MethodName)) ∈ ps_W := ps_in3 92 rfl rfl
theorem ps_w3_93 : (Jvm.Cond.code ({ cls := "PictureStudio", name := "mean", desc := "(IIIII)I" } : Jvm.MethodName) prog_1_method_83_code (6 : Nat) (Option.some Jvm.ClassFile.FieldType.int)) ∈ ps_W := ps_in3 93 rfl rfl
theorem ps_w3_94 : (Jvm.Cond.methodLink "PictureStudio$Looks" (68 : Nat) ({ cls := "PictureStudio$Looks", name := "sharp", desc := "(III)I" } : Jvm.MethodName)) ∈ ps_W := ps_in3 94 rfl rfl
theorem ps_w3_95 : (Jvm.Cond.static ({ cls := "PictureStudio$Looks", name := "sharp", desc := "(III)I" } : Jvm.MethodName)) ∈ ps_W := ps_in3 95 rfl rfl
theorem ps_w3_96 : (Jvm.Cond.code ({ cls := "PictureStudio$Looks", name := "sharp", desc := "(III)I" } : Jvm.MethodName) prog_7_method_12_code (6 : Nat) (Option.some Jvm.ClassFile.FieldType.int)) ∈ ps_W := ps_in3 96 rfl rfl
theorem ps_w3_97 : (Jvm.Cond.constant "PictureStudio$Looks" (102 : Nat) (-16777216 : Int32)) ∈ ps_W := ps_in3 97 rfl rfl
theorem ps_w3_99 : (Jvm.Cond.static ({ cls := "PictureStudio", name := "clip", desc := "(I)I" } : Jvm.MethodName)) ∈ ps_W := ps_in3 99 rfl rfl
theorem ps_w3_100 : (Jvm.Cond.code ({ cls := "PictureStudio", name := "clip", desc := "(I)I" } : Jvm.MethodName) prog_1_method_74_code (1 : Nat) (Option.some Jvm.ClassFile.FieldType.int)) ∈ ps_W := ps_in3 100 rfl rfl
theorem ps_w3_101 : (Jvm.Cond.methodLink "PictureStudio$Looks" (71 : Nat) ({ cls := "PictureStudio$Looks", name := "middle", desc := "(II)I" } : Jvm.MethodName)) ∈ ps_W := ps_in3 101 rfl rfl
theorem ps_w3_103 : (Jvm.Cond.instanceMethod ({ cls := "PictureStudio$Looks", name := "middle", desc := "(II)I" } : Jvm.MethodName)) ∈ ps_W := ps_in3 103 rfl rfl
theorem ps_w3_104 : (Jvm.Cond.code ({ cls := "PictureStudio$Looks", name := "middle", desc := "(II)I" } : Jvm.MethodName) prog_7_method_13_code (8 : Nat) (Option.some Jvm.ClassFile.FieldType.int)) ∈ ps_W := ps_in3 104 rfl rfl
theorem ps_w3_105 : (Jvm.Cond.methodLink "PictureStudio$Looks" (74 : Nat) ({ cls := "PictureStudio$Looks", name := "edges", desc := "(II)I" } : Jvm.MethodName)) ∈ ps_W := ps_in3 105 rfl rfl
theorem ps_w3_107 : (Jvm.Cond.instanceMethod ({ cls := "PictureStudio$Looks", name := "edges", desc := "(II)I" } : Jvm.MethodName)) ∈ ps_W := ps_in3 107 rfl rfl
theorem ps_w3_108 : (Jvm.Cond.code ({ cls := "PictureStudio$Looks", name := "edges", desc := "(II)I" } : Jvm.MethodName) prog_7_method_14_code (6 : Nat) (Option.some Jvm.ClassFile.FieldType.int)) ∈ ps_W := ps_in3 108 rfl rfl
theorem ps_w3_110 : (Jvm.Cond.static ({ cls := "PictureStudio", name := "luma", desc := "(I)I" } : Jvm.MethodName)) ∈ ps_W := ps_in3 110 rfl rfl
theorem ps_w3_111 : (Jvm.Cond.code ({ cls := "PictureStudio", name := "luma", desc := "(I)I" } : Jvm.MethodName) prog_1_method_81_code (1 : Nat) (Option.some Jvm.ClassFile.FieldType.int)) ∈ ps_W := ps_in3 111 rfl rfl
theorem ps_w3_112 : (Jvm.Cond.methodLink "PictureStudio$Looks" (109 : Nat) ({ cls := "java/lang/Math", name := "abs", desc := "(I)I" } : Jvm.MethodName)) ∈ ps_W := ps_in3 112 rfl rfl
theorem ps_w3_113 : (Jvm.Cond.static ({ cls := "java/lang/Math", name := "abs", desc := "(I)I" } : Jvm.MethodName)) ∈ ps_W := ps_in3 113 rfl rfl
theorem ps_w3_114 : (Jvm.Cond.code ({ cls := "java/lang/Math", name := "abs", desc := "(I)I" } : Jvm.MethodName) prog_20_method_59_code (1 : Nat) (Option.some Jvm.ClassFile.FieldType.int)) ∈ ps_W := ps_in3 114 rfl rfl
theorem ps_w3_115 : (Jvm.Cond.methodLink "PictureStudio$Looks" (114 : Nat) ({ cls := "java/lang/Math", name := "min", desc := "(II)I" } : Jvm.MethodName)) ∈ ps_W := ps_in3 115 rfl rfl
theorem ps_w3_116 : (Jvm.Cond.static ({ cls := "java/lang/Math", name := "min", desc := "(II)I" } : Jvm.MethodName)) ∈ ps_W := ps_in3 116 rfl rfl
theorem ps_w3_117 : (Jvm.Cond.code ({ cls := "java/lang/Math", name := "min", desc := "(II)I" } : Jvm.MethodName) prog_20_method_69_code (2 : Nat) (Option.some Jvm.ClassFile.FieldType.int)) ∈ ps_W := ps_in3 117 rfl rfl
theorem ps_w3_119 : (Jvm.Cond.static ({ cls := "PictureStudio", name := "pack", desc := "(IIII)I" } : Jvm.MethodName)) ∈ ps_W := ps_in3 119 rfl rfl
theorem ps_w3_120 : (Jvm.Cond.code ({ cls := "PictureStudio", name := "pack", desc := "(IIII)I" } : Jvm.MethodName) prog_1_method_77_code (4 : Nat) (Option.some Jvm.ClassFile.FieldType.int)) ∈ ps_W := ps_in3 120 rfl rfl
theorem ps_w3_121 : (Jvm.Cond.methodLink "PictureStudio$Looks" (77 : Nat) ({ cls := "PictureStudio$Looks", name := "raised", desc := "(II)I" } : Jvm.MethodName)) ∈ ps_W := ps_in3 121 rfl rfl
theorem ps_w3_123 : (Jvm.Cond.instanceMethod ({ cls := "PictureStudio$Looks", name := "raised", desc := "(II)I" } : Jvm.MethodName)) ∈ ps_W := ps_in3 123 rfl rfl
theorem ps_w3_124 : (Jvm.Cond.code ({ cls := "PictureStudio$Looks", name := "raised", desc := "(II)I" } : Jvm.MethodName) prog_7_method_15_code (5 : Nat) (Option.some Jvm.ClassFile.FieldType.int)) ∈ ps_W := ps_in3 124 rfl rfl
theorem ps_w3_126 : (Jvm.Cond.static ({ cls := "PictureStudio", name := "red", desc := "(I)I" } : Jvm.MethodName)) ∈ ps_W := ps_in3 126 rfl rfl
theorem ps_w3_127 : (Jvm.Cond.code ({ cls := "PictureStudio", name := "red", desc := "(I)I" } : Jvm.MethodName) prog_1_method_78_code (1 : Nat) (Option.some Jvm.ClassFile.FieldType.int)) ∈ ps_W := ps_in3 127 rfl rfl
theorem ps_w3_129 : (Jvm.Cond.static ({ cls := "PictureStudio", name := "green", desc := "(I)I" } : Jvm.MethodName)) ∈ ps_W := ps_in3 129 rfl rfl
theorem ps_w3_130 : (Jvm.Cond.code ({ cls := "PictureStudio", name := "green", desc := "(I)I" } : Jvm.MethodName) prog_1_method_79_code (1 : Nat) (Option.some Jvm.ClassFile.FieldType.int)) ∈ ps_W := ps_in3 130 rfl rfl
theorem ps_w3_132 : (Jvm.Cond.static ({ cls := "PictureStudio", name := "blue", desc := "(I)I" } : Jvm.MethodName)) ∈ ps_W := ps_in3 132 rfl rfl
theorem ps_w3_133 : (Jvm.Cond.code ({ cls := "PictureStudio", name := "blue", desc := "(I)I" } : Jvm.MethodName) prog_1_method_80_code (1 : Nat) (Option.some Jvm.ClassFile.FieldType.int)) ∈ ps_W := ps_in3 133 rfl rfl
theorem ps_w3_134 : (Jvm.Cond.methodLink "PictureStudio$Looks" (83 : Nat) ({ cls := "PictureStudio$Looks", name := "ownKernel", desc := "(II)I" } : Jvm.MethodName)) ∈ ps_W := ps_in3 134 rfl rfl
theorem ps_w3_136 : (Jvm.Cond.instanceMethod ({ cls := "PictureStudio$Looks", name := "ownKernel", desc := "(II)I" } : Jvm.MethodName)) ∈ ps_W := ps_in3 136 rfl rfl
theorem ps_w3_137 : (Jvm.Cond.code ({ cls := "PictureStudio$Looks", name := "ownKernel", desc := "(II)I" } : Jvm.MethodName) prog_7_method_16_code (7 : Nat) (Option.some Jvm.ClassFile.FieldType.int)) ∈ ps_W := ps_in3 137 rfl rfl
theorem ps_w3_138 : (Jvm.Cond.methodLink "PictureStudio$Looks" (86 : Nat) ({ cls := "PictureStudio$Looks", name := "grain", desc := "(III)I" } : Jvm.MethodName)) ∈ ps_W := ps_in3 138 rfl rfl
theorem ps_w3_139 : (Jvm.Cond.static ({ cls := "PictureStudio$Looks", name := "grain", desc := "(III)I" } : Jvm.MethodName)) ∈ ps_W := ps_in3 139 rfl rfl
theorem ps_w3_140 : (Jvm.Cond.code ({ cls := "PictureStudio$Looks", name := "grain", desc := "(III)I" } : Jvm.MethodName) prog_7_method_17_code (5 : Nat) (Option.some Jvm.ClassFile.FieldType.int)) ∈ ps_W := ps_in3 140 rfl rfl
theorem ps_w3_141 : (Jvm.Cond.methodLink "PictureStudio$Looks" (120 : Nat) ({ cls := "java/lang/Math", name := "max", desc := "(II)I" } : Jvm.MethodName)) ∈ ps_W := ps_in3 141 rfl rfl
theorem ps_w3_142 : (Jvm.Cond.static ({ cls := "java/lang/Math", name := "max", desc := "(II)I" } : Jvm.MethodName)) ∈ ps_W := ps_in3 142 rfl rfl
theorem ps_w3_143 : (Jvm.Cond.code ({ cls := "java/lang/Math", name := "max", desc := "(II)I" } : Jvm.MethodName) prog_20_method_65_code (2 : Nat) (Option.some Jvm.ClassFile.FieldType.int)) ∈ ps_W := ps_in3 143 rfl rfl
theorem ps_w3_144 : (Jvm.Cond.constant "PictureStudio$Looks" (123 : Nat) (374761393 : Int32)) ∈ ps_W := ps_in3 144 rfl rfl
theorem ps_w3_145 : (Jvm.Cond.constant "PictureStudio$Looks" (124 : Nat) (668265263 : Int32)) ∈ ps_W := ps_in3 145 rfl rfl
theorem ps_w3_146 : (Jvm.Cond.constant "PictureStudio$Looks" (125 : Nat) (1274126177 : Int32)) ∈ ps_W := ps_in3 146 rfl rfl
theorem ps_w3_147 : (Jvm.Cond.constant "PictureStudio$Looks" (126 : Nat) (1103515245 : Int32)) ∈ ps_W := ps_in3 147 rfl rfl
theorem ps_w3_148 : (Jvm.Cond.methodLink "PictureStudio$Looks" (89 : Nat) ({ cls := "PictureStudio$Looks", name := "lifted", desc := "(II)I" } : Jvm.MethodName)) ∈ ps_W := ps_in3 148 rfl rfl
theorem ps_w3_149 : (Jvm.Cond.static ({ cls := "PictureStudio$Looks", name := "lifted", desc := "(II)I" } : Jvm.MethodName)) ∈ ps_W := ps_in3 149 rfl rfl
theorem ps_w3_150 : (Jvm.Cond.code ({ cls := "PictureStudio$Looks", name := "lifted", desc := "(II)I" } : Jvm.MethodName) prog_7_method_18_code (2 : Nat) (Option.some Jvm.ClassFile.FieldType.int)) ∈ ps_W := ps_in3 150 rfl rfl
theorem ps_w3_151 : (Jvm.Cond.methodLink "PictureStudio$Looks" (92 : Nat) ({ cls := "PictureStudio$Looks", name := "hue", desc := "(II)I" } : Jvm.MethodName)) ∈ ps_W := ps_in3 151 rfl rfl
theorem ps_w3_152 : (Jvm.Cond.static ({ cls := "PictureStudio$Looks", name := "hue", desc := "(II)I" } : Jvm.MethodName)) ∈ ps_W := ps_in3 152 rfl rfl
theorem ps_w3_153 : (Jvm.Cond.code ({ cls := "PictureStudio$Looks", name := "hue", desc := "(II)I" } : Jvm.MethodName) prog_7_method_19_code (12 : Nat) (Option.some Jvm.ClassFile.FieldType.int)) ∈ ps_W := ps_in3 153 rfl rfl
theorem ps_w3_154 : (Jvm.Cond.methodLink "PictureStudio$Looks" (127 : Nat) ({ cls := "java/lang/Math", name := "floorMod", desc := "(II)I" } : Jvm.MethodName)) ∈ ps_W := ps_in3 154 rfl rfl
theorem ps_w3_155 : (Jvm.Cond.static ({ cls := "java/lang/Math", name := "floorMod", desc := "(II)I" } : Jvm.MethodName)) ∈ ps_W := ps_in3 155 rfl rfl
theorem ps_w3_156 : (Jvm.Cond.code ({ cls := "java/lang/Math", name := "floorMod", desc := "(II)I" } : Jvm.MethodName) prog_20_method_50_code (3 : Nat) (Option.some Jvm.ClassFile.FieldType.int)) ∈ ps_W := ps_in3 156 rfl rfl
theorem ps_w3_157 : (Jvm.Cond.methodLink "PictureStudio$Looks" (95 : Nat) ({ cls := "PictureStudio$Looks", name := "alone", desc := "(III)I" } : Jvm.MethodName)) ∈ ps_W := ps_in3 157 rfl rfl
theorem ps_w3_158 : (Jvm.Cond.static ({ cls := "PictureStudio$Looks", name := "alone", desc := "(III)I" } : Jvm.MethodName)) ∈ ps_W := ps_in3 158 rfl rfl
theorem ps_w3_159 : (Jvm.Cond.code ({ cls := "PictureStudio$Looks", name := "alone", desc := "(III)I" } : Jvm.MethodName) prog_7_method_20_code (7 : Nat) (Option.some Jvm.ClassFile.FieldType.int)) ∈ ps_W := ps_in3 159 rfl rfl
theorem ps_w3_160 : (Jvm.Cond.methodLink "PictureStudio$Viewer" (127 : Nat) ({ cls := "PictureStudio$Looks", name := "byCurve", desc := "(II)I" } : Jvm.MethodName)) ∈ ps_W := ps_in3 160 rfl rfl
theorem ps_w3_161 : (Jvm.Cond.instanceMethod ({ cls := "PictureStudio$Looks", name := "byCurve", desc := "(II)I" } : Jvm.MethodName)) ∈ ps_W := ps_in3 161 rfl rfl
theorem ps_w3_162 : (Jvm.Cond.selects "PictureStudio$Looks" ({ cls := "PictureStudio$Looks", name := "byCurve", desc := "(II)I" } : Jvm.MethodName) ({ cls := "PictureStudio$Looks", name := "byCurve", desc := "(II)I" } : Jvm.MethodName)) ∈ ps_W := ps_in3 162 rfl rfl
theorem ps_w3_163 : (Jvm.Cond.code ({ cls := "PictureStudio$Looks", name := "byCurve", desc := "(II)I" } : Jvm.MethodName) prog_7_method_8_code (7 : Nat) (Option.some Jvm.ClassFile.FieldType.int)) ∈ ps_W := ps_in3 163 rfl rfl
theorem ps_w3_164 : (Jvm.Cond.methodLink "PictureStudio$Looks" (51 : Nat) ({ cls := "PictureStudio$Looks", name := "bent", desc := "(II)I" } : Jvm.MethodName)) ∈ ps_W := ps_in3 164 rfl rfl
theorem ps_w3_166 : (Jvm.Cond.instanceMethod ({ cls := "PictureStudio$Looks", name := "bent", desc := "(II)I" } : Jvm.MethodName)) ∈ ps_W := ps_in3 166 rfl rfl
theorem ps_w3_167 : (Jvm.Cond.code ({ cls := "PictureStudio$Looks", name := "bent", desc := "(II)I" } : Jvm.MethodName) prog_7_method_7_code (8 : Nat) (Option.some Jvm.ClassFile.FieldType.int)) ∈ ps_W := ps_in3 167 rfl rfl
theorem ps_w3_168 : (Jvm.Cond.methodLink "PictureStudio$Viewer" (133 : Nat) ({ cls := "PictureStudio$Layer", name := "maskAt", desc := "(I)I" } : Jvm.MethodName)) ∈ ps_W := ps_in3 168 rfl rfl
theorem ps_w3_169 : (Jvm.Cond.instanceMethod ({ cls := "PictureStudio$Layer", name := "maskAt", desc := "(I)I" } : Jvm.MethodName)) ∈ ps_W := ps_in3 169 rfl rfl
theorem ps_w3_170 : (Jvm.Cond.selects "PictureStudio$Layer" ({ cls := "PictureStudio$Layer", name := "maskAt", desc := "(I)I" } : Jvm.MethodName) ({ cls := "PictureStudio$Layer", name := "maskAt", desc := "(I)I" } : Jvm.MethodName)) ∈ ps_W := ps_in3 170 rfl rfl
theorem ps_w3_171 : (Jvm.Cond.code ({ cls := "PictureStudio$Layer", name := "maskAt", desc := "(I)I" } : Jvm.MethodName) prog_6_method_7_code (2 : Nat) (Option.some Jvm.ClassFile.FieldType.int)) ∈ ps_W := ps_in3 171 rfl rfl
theorem ps_w3_173 : (Jvm.Cond.static ({ cls := "PictureStudio", name := "mul", desc := "(II)I" } : Jvm.MethodName)) ∈ ps_W := ps_in3 173 rfl rfl
theorem ps_w3_174 : (Jvm.Cond.code ({ cls := "PictureStudio", name := "mul", desc := "(II)I" } : Jvm.MethodName) prog_1_method_72_code (2 : Nat) (Option.some Jvm.ClassFile.FieldType.int)) ∈ ps_W := ps_in3 174 rfl rfl
theorem ps_w3_176 : (Jvm.Cond.static ({ cls := "PictureStudio", name := "mixColours", desc := "(III)I" } : Jvm.MethodName)) ∈ ps_W := ps_in3 176 rfl rfl
theorem ps_w3_177 : (Jvm.Cond.code ({ cls := "PictureStudio", name := "mixColours", desc := "(III)I" } : Jvm.MethodName) prog_1_method_82_code (3 : Nat) (Option.some Jvm.ClassFile.FieldType.int)) ∈ ps_W := ps_in3 177 rfl rfl
theorem ps_w3_178 : (Jvm.Cond.methodLink "PictureStudio" (599 : Nat) ({ cls := "PictureStudio", name := "mix", desc := "(III)I" } : Jvm.MethodName)) ∈ ps_W := ps_in3 178 rfl rfl
theorem ps_w3_179 : (Jvm.Cond.static ({ cls := "PictureStudio", name := "mix", desc := "(III)I" } : Jvm.MethodName)) ∈ ps_W := ps_in3 179 rfl rfl
theorem ps_w3_180 : (Jvm.Cond.code ({ cls := "PictureStudio", name := "mix", desc := "(III)I" } : Jvm.MethodName) prog_1_method_73_code (3 : Nat) (Option.some Jvm.ClassFile.FieldType.int)) ∈ ps_W := ps_in3 180 rfl rfl
theorem ps_w3_181 : (Jvm.Cond.methodLink "PictureStudio" (602 : Nat) ({ cls := "PictureStudio", name := "red", desc := "(I)I" } : Jvm.MethodName)) ∈ ps_W := ps_in3 181 rfl rfl
theorem ps_w3_182 : (Jvm.Cond.methodLink "PictureStudio" (605 : Nat) ({ cls := "PictureStudio", name := "green", desc := "(I)I" } : Jvm.MethodName)) ∈ ps_W := ps_in3 182 rfl rfl
theorem ps_w3_183 : (Jvm.Cond.methodLink "PictureStudio" (608 : Nat) ({ cls := "PictureStudio", name := "blue", desc := "(I)I" } : Jvm.MethodName)) ∈ ps_W := ps_in3 183 rfl rfl
theorem ps_w3_184 : (Jvm.Cond.methodLink "PictureStudio" (611 : Nat) ({ cls := "PictureStudio", name := "pack", desc := "(IIII)I" } : Jvm.MethodName)) ∈ ps_W := ps_in3 184 rfl rfl
theorem ps_w3_185 : (Jvm.Cond.methodLink "PictureStudio$Viewer" (106 : Nat) ({ cls := "PictureStudio$Viewer", name := "cover", desc := "(LPictureStudio$Stand;LPictureStudio$Layer;I)V" } : Jvm.MethodName)) ∈ ps_W := ps_in3 185 rfl rfl
theorem ps_w3_187 : (Jvm.Cond.instanceMethod ({ cls := "PictureStudio$Viewer", name := "cover", desc := "(LPictureStudio$Stand;LPictureStudio$Layer;I)V" } : Jvm.MethodName)) ∈ ps_W := ps_in3 187 rfl rfl
theorem ps_w3_188 : (Jvm.Cond.code ({ cls := "PictureStudio$Viewer", name := "cover", desc := "(LPictureStudio$Stand;LPictureStudio$Layer;I)V" } : Jvm.MethodName) prog_12_method_14_code (10 : Nat) (Option.none : Option Jvm.ClassFile.FieldType)) ∈ ps_W := ps_in3 188 rfl rfl
theorem ps_w3_189 : (Jvm.Cond.methodLink "PictureStudio$Viewer" (152 : Nat) ({ cls := "PictureStudio$Layer", name := "own", desc := "(IIII)I" } : Jvm.MethodName)) ∈ ps_W := ps_in3 189 rfl rfl
theorem ps_w3_190 : (Jvm.Cond.instanceMethod ({ cls := "PictureStudio$Layer", name := "own", desc := "(IIII)I" } : Jvm.MethodName)) ∈ ps_W := ps_in3 190 rfl rfl
theorem ps_w3_191 : (Jvm.Cond.selects "PictureStudio$Layer" ({ cls := "PictureStudio$Layer", name := "own", desc := "(IIII)I" } : Jvm.MethodName) ({ cls := "PictureStudio$Layer", name := "own", desc := "(IIII)I" } : Jvm.MethodName)) ∈ ps_W := ps_in3 191 rfl rfl
theorem ps_w3_192 : (Jvm.Cond.code ({ cls := "PictureStudio$Layer", name := "own", desc := "(IIII)I" } : Jvm.MethodName) prog_6_method_5_code (6 : Nat) (Option.some Jvm.ClassFile.FieldType.int)) ∈ ps_W := ps_in3 192 rfl rfl
theorem ps_w3_193 : (Jvm.Cond.methodLink "PictureStudio$Viewer" (156 : Nat) ({ cls := "PictureStudio$Layer", name := "painted", desc := "(II)I" } : Jvm.MethodName)) ∈ ps_W := ps_in3 193 rfl rfl
theorem ps_w3_194 : (Jvm.Cond.instanceMethod ({ cls := "PictureStudio$Layer", name := "painted", desc := "(II)I" } : Jvm.MethodName)) ∈ ps_W := ps_in3 194 rfl rfl
theorem ps_w3_195 : (Jvm.Cond.selects "PictureStudio$Layer" ({ cls := "PictureStudio$Layer", name := "painted", desc := "(II)I" } : Jvm.MethodName) ({ cls := "PictureStudio$Layer", name := "painted", desc := "(II)I" } : Jvm.MethodName)) ∈ ps_W := ps_in3 195 rfl rfl
theorem ps_w3_196 : (Jvm.Cond.code ({ cls := "PictureStudio$Layer", name := "painted", desc := "(II)I" } : Jvm.MethodName) prog_6_method_8_code (5 : Nat) (Option.some Jvm.ClassFile.FieldType.int)) ∈ ps_W := ps_in3 196 rfl rfl
theorem ps_w3_200 : (Jvm.Cond.static ({ cls := "PictureStudio", name := "blend", desc := "(IIII)I" } : Jvm.MethodName)) ∈ ps_W := ps_in3 200 rfl rfl
theorem ps_w3_201 : (Jvm.Cond.code ({ cls := "PictureStudio", name := "blend", desc := "(IIII)I" } : Jvm.MethodName) prog_1_method_84_code (12 : Nat) (Option.some Jvm.ClassFile.FieldType.int)) ∈ ps_W := ps_in3 201 rfl rfl
theorem ps_w3_202 : (Jvm.Cond.methodLink "PictureStudio" (614 : Nat) ({ cls := "PictureStudio", name := "luma", desc := "(I)I" } : Jvm.MethodName)) ∈ ps_W := ps_in3 202 rfl rfl
theorem ps_w3_203 : (Jvm.Cond.methodLink "PictureStudio" (617 : Nat) ({ cls := "PictureStudio", name := "blended", desc := "(IIII)I" } : Jvm.MethodName)) ∈ ps_W := ps_in3 203 rfl rfl
theorem ps_w3_204 : (Jvm.Cond.static ({ cls := "PictureStudio", name := "blended", desc := "(IIII)I" } : Jvm.MethodName)) ∈ ps_W := ps_in3 204 rfl rfl
theorem ps_w3_205 : (Jvm.Cond.code ({ cls := "PictureStudio", name := "blended", desc := "(IIII)I" } : Jvm.MethodName) prog_1_method_85_code (4 : Nat) (Option.some Jvm.ClassFile.FieldType.int)) ∈ ps_W := ps_in3 205 rfl rfl
theorem ps_w3_206 : (Jvm.Cond.methodLink "PictureStudio" (379 : Nat) ({ cls := "PictureStudio", name := "mul", desc := "(II)I" } : Jvm.MethodName)) ∈ ps_W := ps_in3 206 rfl rfl
theorem ps_w3_207 : (Jvm.Cond.methodLink "PictureStudio" (201 : Nat) ({ cls := "java/lang/Math", name := "min", desc := "(II)I" } : Jvm.MethodName)) ∈ ps_W := ps_in3 207 rfl rfl
theorem ps_w3_208 : (Jvm.Cond.methodLink "PictureStudio" (207 : Nat) ({ cls := "java/lang/Math", name := "max", desc := "(II)I" } : Jvm.MethodName)) ∈ ps_W := ps_in3 208 rfl rfl
theorem ps_w3_209 : (Jvm.Cond.methodLink "PictureStudio" (620 : Nat) ({ cls := "java/lang/Math", name := "abs", desc := "(I)I" } : Jvm.MethodName)) ∈ ps_W := ps_in3 209 rfl rfl
theorem ps_w3_210 : (Jvm.Cond.methodLink "PictureStudio" (623 : Nat) ({ cls := "PictureStudio", name := "clip", desc := "(I)I" } : Jvm.MethodName)) ∈ ps_W := ps_in3 210 rfl rfl
theorem ps_w3_211 : (Jvm.Cond.methodLink "PictureStudio$Viewer" (68 : Nat) ({ cls := "java/lang/System", name := "arraycopy", desc := "(Ljava/lang/Object;ILjava/lang/Object;II)V" } : Jvm.MethodName)) ∈ ps_W := ps_in3 211 rfl rfl
theorem ps_w3_212 : (Jvm.Cond.static ({ cls := "java/lang/System", name := "arraycopy", desc := "(Ljava/lang/Object;ILjava/lang/Object;II)V" } : Jvm.MethodName)) ∈ ps_W := ps_in3 212 rfl rfl
theorem ps_w3_213 : (Jvm.Cond.native ({ cls := "java/lang/System", name := "arraycopy", desc := "(Ljava/lang/Object;ILjava/lang/Object;II)V" } : Jvm.MethodName)) ∈ ps_W := ps_in3 213 rfl rfl
theorem ps_w3_214 : (Jvm.Cond.methodLink "PictureStudioLaw" (331 : Nat) ({ cls := "PictureStudio", name := "count", desc := "(I)I" } : Jvm.MethodName)) ∈ ps_W := ps_in3 214 rfl rfl
theorem ps_w3_215 : (Jvm.Cond.instanceMethod ({ cls := "PictureStudio", name := "count", desc := "(I)I" } : Jvm.MethodName)) ∈ ps_W := ps_in3 215 rfl rfl
theorem ps_w3_216 : (Jvm.Cond.selects "PictureStudio" ({ cls := "PictureStudio", name := "count", desc := "(I)I" } : Jvm.MethodName) ({ cls := "PictureStudio", name := "count", desc := "(I)I" } : Jvm.MethodName)) ∈ ps_W := ps_in3 216 rfl rfl
theorem ps_w3_217 : (Jvm.Cond.code ({ cls := "PictureStudio", name := "count", desc := "(I)I" } : Jvm.MethodName) prog_1_method_71_code (2 : Nat) (Option.some Jvm.ClassFile.FieldType.int)) ∈ ps_W := ps_in3 217 rfl rfl
theorem ps_w3_218 : (Jvm.Cond.methodLink "PictureStudio" (595 : Nat) ({ cls := "PictureStudio$Viewer", name := "keptTiles", desc := "()I" } : Jvm.MethodName)) ∈ ps_W := ps_in3 218 rfl rfl
theorem ps_w3_219 : (Jvm.Cond.instanceMethod ({ cls := "PictureStudio$Viewer", name := "keptTiles", desc := "()I" } : Jvm.MethodName)) ∈ ps_W := ps_in3 219 rfl rfl
theorem ps_w3_220 : (Jvm.Cond.selects "PictureStudio$Viewer" ({ cls := "PictureStudio$Viewer", name := "keptTiles", desc := "()I" } : Jvm.MethodName) ({ cls := "PictureStudio$Viewer", name := "keptTiles", desc := "()I" } : Jvm.MethodName)) ∈ ps_W := ps_in3 220 rfl rfl
theorem ps_w3_221 : (Jvm.Cond.code ({ cls := "PictureStudio$Viewer", name := "keptTiles", desc := "()I" } : Jvm.MethodName) prog_12_method_8_code (3 : Nat) (Option.some Jvm.ClassFile.FieldType.int)) ∈ ps_W := ps_in3 221 rfl rfl
theorem ps_w3_222 : (Jvm.Cond.methodLink "PictureStudio" (210 : Nat) ({ cls := "PictureStudio$Stand", name := "reach", desc := "()I" } : Jvm.MethodName)) ∈ ps_W := ps_in3 222 rfl rfl
theorem ps_w3_223 : (Jvm.Cond.instanceMethod ({ cls := "PictureStudio$Stand", name := "reach", desc := "()I" } : Jvm.MethodName)) ∈ ps_W := ps_in3 223 rfl rfl
theorem ps_w3_224 : (Jvm.Cond.selects "PictureStudio$Stand" ({ cls := "PictureStudio$Stand", name := "reach", desc := "()I" } : Jvm.MethodName) ({ cls := "PictureStudio$Stand", name := "reach", desc := "()I" } : Jvm.MethodName)) ∈ ps_W := ps_in3 224 rfl rfl
theorem ps_w3_225 : (Jvm.Cond.code ({ cls := "PictureStudio$Stand", name := "reach", desc := "()I" } : Jvm.MethodName) prog_11_method_14_code (3 : Nat) (Option.some Jvm.ClassFile.FieldType.int)) ∈ ps_W := ps_in3 225 rfl rfl
theorem ps_w3_226 : (Jvm.Cond.methodLink "PictureStudio$Stand" (72 : Nat) ({ cls := "PictureStudio$Looks", name := "reachOf", desc := "(II)I" } : Jvm.MethodName)) ∈ ps_W := ps_in3 226 rfl rfl
theorem ps_w3_227 : (Jvm.Cond.static ({ cls := "PictureStudio$Looks", name := "reachOf", desc := "(II)I" } : Jvm.MethodName)) ∈ ps_W := ps_in3 227 rfl rfl
theorem ps_w3_228 : (Jvm.Cond.code ({ cls := "PictureStudio$Looks", name := "reachOf", desc := "(II)I" } : Jvm.MethodName) prog_7_method_4_code (2 : Nat) (Option.some Jvm.ClassFile.FieldType.int)) ∈ ps_W := ps_in3 228 rfl rfl
theorem ps_w3_229 : (Jvm.Cond.methodLink "PictureStudioLaw" (169 : Nat) ({ cls := "PictureStudioLaw", name := "feed", desc := "(LPictureStudio;IIIII[J)I" } : Jvm.MethodName)) ∈ ps_W := ps_in3 229 rfl rfl
theorem ps_w3_230 : (Jvm.Cond.static ({ cls := "PictureStudioLaw", name := "feed", desc := "(LPictureStudio;IIIII[J)I" } : Jvm.MethodName)) ∈ ps_W := ps_in3 230 rfl rfl
theorem ps_w3_231 : (Jvm.Cond.codeWith ({ cls := "PictureStudioLaw", name := "feed", desc := "(LPictureStudio;IIIII[J)I" } : Jvm.MethodName) method_3_code (8 : Nat) (Option.some Jvm.ClassFile.FieldType.int) [((0 : Nat), (16 : Nat), (19 : Nat), (13 : Nat))]) ∈ ps_W := ps_in3 231 rfl rfl
theorem ps_w3_232 : (Jvm.Cond.classLink "PictureStudioLaw" (13 : Nat) "java/lang/IndexOutOfBoundsException") ∈ ps_W := ps_in3 232 rfl rfl
theorem ps_w3_233 : (Jvm.Cond.methodLink "PictureStudioLaw" (7 : Nat) ({ cls := "PictureStudio", name := "feed", desc := "(IIIII)I" } : Jvm.MethodName)) ∈ ps_W := ps_in3 233 rfl rfl
theorem ps_w3_234 : (Jvm.Cond.instanceMethod ({ cls := "PictureStudio", name := "feed", desc := "(IIIII)I" } : Jvm.MethodName)) ∈ ps_W := ps_in3 234 rfl rfl
theorem ps_w3_235 : (Jvm.Cond.selects "PictureStudio" ({ cls := "PictureStudio", name := "feed", desc := "(IIIII)I" } : Jvm.MethodName) ({ cls := "PictureStudio", name := "feed", desc := "(IIIII)I" } : Jvm.MethodName)) ∈ ps_W := ps_in3 235 rfl rfl
theorem ps_w3_236 : (Jvm.Cond.code ({ cls := "PictureStudio", name := "feed", desc := "(IIIII)I" } : Jvm.MethodName) prog_1_method_2_code (6 : Nat) (Option.some Jvm.ClassFile.FieldType.int)) ∈ ps_W := ps_in3 236 rfl rfl
theorem ps_w3_237 : (Jvm.Cond.classLink "PictureStudio" (94 : Nat) "java/lang/IndexOutOfBoundsException") ∈ ps_W := ps_in3 237 rfl rfl
theorem ps_w3_238 : (Jvm.Cond.instantiable "java/lang/IndexOutOfBoundsException" (6 : Nat)) ∈ ps_W := ps_in3 238 rfl rfl
theorem ps_w4_6 : (Jvm.Cond.selects "java/lang/IndexOutOfBoundsException" ({ cls := "java/lang/Throwable", name := "fillInStackTrace", desc := "(I)Ljava/lang/Throwable;" } : Jvm.MethodName) ({ cls := "java/lang/Throwable", name := "fillInStackTrace", desc := "(I)Ljava/lang/Throwable;" } : Jvm.MethodName)) ∈ ps_W := ps_in4 6 rfl rfl
theorem ps_w4_7 : (Jvm.Cond.selects "java/lang/IndexOutOfBoundsException" ({ cls := "java/lang/Throwable", name := "fillInStackTrace", desc := "()Ljava/lang/Throwable;" } : Jvm.MethodName) ({ cls := "java/lang/Throwable", name := "fillInStackTrace", desc := "()Ljava/lang/Throwable;" } : Jvm.MethodName)) ∈ ps_W := ps_in4 7 rfl rfl
theorem ps_w4_8 : (Jvm.Cond.lays "java/lang/IndexOutOfBoundsException" "java/lang/Throwable" "cause" "Ljava/lang/Throwable;") ∈ ps_W := ps_in4 8 rfl rfl
theorem ps_w4_9 : (Jvm.Cond.lays "java/lang/Throwable" "java/lang/Throwable" "cause" "Ljava/lang/Throwable;") ∈ ps_W := ps_in4 9 rfl rfl
theorem ps_w4_10 : (Jvm.Cond.lays "java/lang/IndexOutOfBoundsException" "java/lang/Throwable" "stackTrace" "[Ljava/lang/StackTraceElement;") ∈ ps_W := ps_in4 10 rfl rfl
theorem ps_w4_11 : (Jvm.Cond.lays "java/lang/Throwable" "java/lang/Throwable" "stackTrace" "[Ljava/lang/StackTraceElement;") ∈ ps_W := ps_in4 11 rfl rfl
theorem ps_w4_12 : (Jvm.Cond.lays "java/lang/IndexOutOfBoundsException" "java/lang/Throwable" "suppressedExceptions" "Ljava/util/List;") ∈ ps_W := ps_in4 12 rfl rfl
theorem ps_w4_13 : (Jvm.Cond.lays "java/lang/Throwable" "java/lang/Throwable" "suppressedExceptions" "Ljava/util/List;") ∈ ps_W := ps_in4 13 rfl rfl
theorem ps_w4_14 : (Jvm.Cond.lays "java/lang/IndexOutOfBoundsException" "java/lang/Throwable" "detailMessage" "Ljava/lang/String;") ∈ ps_W := ps_in4 14 rfl rfl
theorem ps_w4_15 : (Jvm.Cond.lays "java/lang/Throwable" "java/lang/Throwable" "detailMessage" "Ljava/lang/String;") ∈ ps_W := ps_in4 15 rfl rfl
theorem ps_w4_16 : (Jvm.Cond.lays "java/lang/IndexOutOfBoundsException" "java/lang/Throwable" "backtrace" "Ljava/lang/Object;") ∈ ps_W := ps_in4 16 rfl rfl
theorem ps_w4_17 : (Jvm.Cond.lays "java/lang/Throwable" "java/lang/Throwable" "backtrace" "Ljava/lang/Object;") ∈ ps_W := ps_in4 17 rfl rfl
theorem ps_w4_18 : (Jvm.Cond.fieldLink "java/lang/Throwable" (198 : Nat) "java/lang/Throwable" "backtrace" "Ljava/lang/Object;") ∈ ps_W := ps_in4 18 rfl rfl
theorem ps_w4_20 : (Jvm.Cond.instanceMethod ({ cls := "java/lang/Throwable", name := "<init>", desc := "()V" } : Jvm.MethodName)) ∈ ps_W := ps_in4 20 rfl rfl
theorem ps_w4_21 : (Jvm.Cond.code ({ cls := "java/lang/Throwable", name := "<init>", desc := "()V" } : Jvm.MethodName) prog_24_method_1_code (1 : Nat) (Option.none : Option Jvm.ClassFile.FieldType)) ∈ ps_W := ps_in4 21 rfl rfl
theorem ps_w4_22 : (Jvm.Cond.methodLink "java/lang/Throwable" (1 : Nat) ({ cls := "java/lang/Object", name := "<init>", desc := "()V" } : Jvm.MethodName)) ∈ ps_W := ps_in4 22 rfl rfl
theorem ps_w4_23 : (Jvm.Cond.fieldLink "java/lang/Throwable" (13 : Nat) "java/lang/Throwable" "UNASSIGNED_STACK" "[Ljava/lang/StackTraceElement;") ∈ ps_W := ps_in4 23 rfl rfl
theorem ps_w4_25 : (Jvm.Cond.fieldLink "java/lang/Throwable" (20 : Nat) "java/lang/Throwable" "SUPPRESSED_SENTINEL" "Ljava/util/List;") ∈ ps_W := ps_in4 25 rfl rfl
theorem ps_w4_27 : (Jvm.Cond.methodLink "java/lang/Throwable" (27 : Nat) ({ cls := "java/lang/Throwable", name := "fillInStackTrace", desc := "()Ljava/lang/Throwable;" } : Jvm.MethodName)) ∈ ps_W := ps_in4 27 rfl rfl
theorem ps_w4_28 : (Jvm.Cond.instanceMethod ({ cls := "java/lang/Throwable", name := "fillInStackTrace", desc := "()Ljava/lang/Throwable;" } : Jvm.MethodName)) ∈ ps_W := ps_in4 28 rfl rfl
theorem ps_w4_29 : (Jvm.Cond.sameMethod "java/lang/Throwable" "java/lang/Throwable" "fillInStackTrace" "()Ljava/lang/Throwable;") ∈ ps_W := ps_in4 29 rfl rfl
theorem ps_w4_30 : (Jvm.Cond.selects "java/lang/IllegalArgumentException" ({ cls := "java/lang/Throwable", name := "fillInStackTrace", desc := "()Ljava/lang/Throwable;" } : Jvm.MethodName) ({ cls := "java/lang/Throwable", name := "fillInStackTrace", desc := "()Ljava/lang/Throwable;" } : Jvm.MethodName)) ∈ ps_W := ps_in4 30 rfl rfl
theorem ps_w4_31 : (Jvm.Cond.selects "java/lang/IllegalStateException" ({ cls := "java/lang/Throwable", name := "fillInStackTrace", desc := "()Ljava/lang/Throwable;" } : Jvm.MethodName) ({ cls := "java/lang/Throwable", name := "fillInStackTrace", desc := "()Ljava/lang/Throwable;" } : Jvm.MethodName)) ∈ ps_W := ps_in4 31 rfl rfl
theorem ps_w4_32 : (Jvm.Cond.selects "java/lang/UnsupportedOperationException" ({ cls := "java/lang/Throwable", name := "fillInStackTrace", desc := "()Ljava/lang/Throwable;" } : Jvm.MethodName) ({ cls := "java/lang/Throwable", name := "fillInStackTrace", desc := "()Ljava/lang/Throwable;" } : Jvm.MethodName)) ∈ ps_W := ps_in4 32 rfl rfl
theorem ps_w4_33 : (Jvm.Cond.selects "java/util/NoSuchElementException" ({ cls := "java/lang/Throwable", name := "fillInStackTrace", desc := "()Ljava/lang/Throwable;" } : Jvm.MethodName) ({ cls := "java/lang/Throwable", name := "fillInStackTrace", desc := "()Ljava/lang/Throwable;" } : Jvm.MethodName)) ∈ ps_W := ps_in4 33 rfl rfl
theorem ps_w4_35 : (Jvm.Cond.methodLink "java/lang/Throwable" (202 : Nat) ({ cls := "java/lang/Throwable", name := "fillInStackTrace", desc := "(I)Ljava/lang/Throwable;" } : Jvm.MethodName)) ∈ ps_W := ps_in4 35 rfl rfl
theorem ps_w4_37 : (Jvm.Cond.instanceMethod ({ cls := "java/lang/Throwable", name := "fillInStackTrace", desc := "(I)Ljava/lang/Throwable;" } : Jvm.MethodName)) ∈ ps_W := ps_in4 37 rfl rfl
theorem ps_w4_38 : (Jvm.Cond.instantiable "java/lang/Throwable" (6 : Nat)) ∈ ps_W := ps_in4 38 rfl rfl
theorem ps_w4_39 : (Jvm.Cond.native ({ cls := "java/lang/Throwable", name := "fillInStackTrace", desc := "(I)Ljava/lang/Throwable;" } : Jvm.MethodName)) ∈ ps_W := ps_in4 39 rfl rfl
theorem ps_w4_41 : (Jvm.Cond.methodLink "PictureStudio" (98 : Nat) ({ cls := "java/lang/IndexOutOfBoundsException", name := "<init>", desc := "(Ljava/lang/String;)V" } : Jvm.MethodName)) ∈ ps_W := ps_in4 41 rfl rfl
theorem ps_w4_42 : (Jvm.Cond.instanceMethod ({ cls := "java/lang/IndexOutOfBoundsException", name := "<init>", desc := "(Ljava/lang/String;)V" } : Jvm.MethodName)) ∈ ps_W := ps_in4 42 rfl rfl
theorem ps_w4_43 : (Jvm.Cond.code ({ cls := "java/lang/IndexOutOfBoundsException", name := "<init>", desc := "(Ljava/lang/String;)V" } : Jvm.MethodName) prog_19_method_2_code (2 : Nat) (Option.none : Option Jvm.ClassFile.FieldType)) ∈ ps_W := ps_in4 43 rfl rfl
theorem ps_w4_44 : (Jvm.Cond.methodLink "java/lang/IndexOutOfBoundsException" (7 : Nat) ({ cls := "java/lang/RuntimeException", name := "<init>", desc := "(Ljava/lang/String;)V" } : Jvm.MethodName)) ∈ ps_W := ps_in4 44 rfl rfl
theorem ps_w4_45 : (Jvm.Cond.instanceMethod ({ cls := "java/lang/RuntimeException", name := "<init>", desc := "(Ljava/lang/String;)V" } : Jvm.MethodName)) ∈ ps_W := ps_in4 45 rfl rfl
theorem ps_w4_46 : (Jvm.Cond.code ({ cls := "java/lang/RuntimeException", name := "<init>", desc := "(Ljava/lang/String;)V" } : Jvm.MethodName) prog_21_method_2_code (2 : Nat) (Option.none : Option Jvm.ClassFile.FieldType)) ∈ ps_W := ps_in4 46 rfl rfl
theorem ps_w4_47 : (Jvm.Cond.methodLink "java/lang/RuntimeException" (7 : Nat) ({ cls := "java/lang/Exception", name := "<init>", desc := "(Ljava/lang/String;)V" } : Jvm.MethodName)) ∈ ps_W := ps_in4 47 rfl rfl
theorem ps_w4_48 : (Jvm.Cond.instanceMethod ({ cls := "java/lang/Exception", name := "<init>", desc := "(Ljava/lang/String;)V" } : Jvm.MethodName)) ∈ ps_W := ps_in4 48 rfl rfl
theorem ps_w4_49 : (Jvm.Cond.code ({ cls := "java/lang/Exception", name := "<init>", desc := "(Ljava/lang/String;)V" } : Jvm.MethodName) prog_16_method_2_code (2 : Nat) (Option.none : Option Jvm.ClassFile.FieldType)) ∈ ps_W := ps_in4 49 rfl rfl
theorem ps_w4_50 : (Jvm.Cond.methodLink "java/lang/Exception" (7 : Nat) ({ cls := "java/lang/Throwable", name := "<init>", desc := "(Ljava/lang/String;)V" } : Jvm.MethodName)) ∈ ps_W := ps_in4 50 rfl rfl
theorem ps_w4_51 : (Jvm.Cond.instanceMethod ({ cls := "java/lang/Throwable", name := "<init>", desc := "(Ljava/lang/String;)V" } : Jvm.MethodName)) ∈ ps_W := ps_in4 51 rfl rfl
theorem ps_w4_52 : (Jvm.Cond.code ({ cls := "java/lang/Throwable", name := "<init>", desc := "(Ljava/lang/String;)V" } : Jvm.MethodName) prog_24_method_2_code (2 : Nat) (Option.none : Option Jvm.ClassFile.FieldType)) ∈ ps_W := ps_in4 52 rfl rfl
theorem ps_w4_54 : (Jvm.Cond.fieldLink "java/lang/Throwable" (31 : Nat) "java/lang/Throwable" "detailMessage" "Ljava/lang/String;") ∈ ps_W := ps_in4 54 rfl rfl
theorem ps_w4_55 : (Jvm.Cond.fieldLink "java/lang/Throwable" (7 : Nat) "java/lang/Throwable" "cause" "Ljava/lang/Throwable;") ∈ ps_W := ps_in4 55 rfl rfl
theorem ps_w4_56 : (Jvm.Cond.fieldLink "java/lang/Throwable" (17 : Nat) "java/lang/Throwable" "stackTrace" "[Ljava/lang/StackTraceElement;") ∈ ps_W := ps_in4 56 rfl rfl
theorem ps_w4_57 : (Jvm.Cond.fieldLink "java/lang/Throwable" (24 : Nat) "java/lang/Throwable" "suppressedExceptions" "Ljava/util/List;") ∈ ps_W := ps_in4 57 rfl rfl
theorem ps_w4_62 : (Jvm.Cond.lays "java/lang/IndexOutOfBoundsException" "java/lang/Throwable" "depth" "I") ∈ ps_W := ps_in4 62 rfl rfl
theorem ps_w4_66 : (Jvm.Cond.arrayClass Jvm.ClassFile.FieldType.byte) ∈ ps_W := ps_in4 66 rfl rfl
theorem ps_w4_67 : (Jvm.Cond.methodLink "PictureStudio" (101 : Nat) ({ cls := "PictureStudio", name := "take", desc := "(I)V" } : Jvm.MethodName)) ∈ ps_W := ps_in4 67 rfl rfl
theorem ps_w4_69 : (Jvm.Cond.instanceMethod ({ cls := "PictureStudio", name := "take", desc := "(I)V" } : Jvm.MethodName)) ∈ ps_W := ps_in4 69 rfl rfl
theorem ps_w4_70 : (Jvm.Cond.code ({ cls := "PictureStudio", name := "take", desc := "(I)V" } : Jvm.MethodName) prog_1_method_3_code (3 : Nat) (Option.none : Option Jvm.ClassFile.FieldType)) ∈ ps_W := ps_in4 70 rfl rfl
theorem ps_w4_71 : (Jvm.Cond.methodLink "PictureStudioLaw" (178 : Nat) ({ cls := "PictureStudioLaw", name := "end", desc := "(LPictureStudio;I[J)I" } : Jvm.MethodName)) ∈ ps_W := ps_in4 71 rfl rfl
theorem ps_w4_72 : (Jvm.Cond.static ({ cls := "PictureStudioLaw", name := "end", desc := "(LPictureStudio;I[J)I" } : Jvm.MethodName)) ∈ ps_W := ps_in4 72 rfl rfl
theorem ps_w4_73 : (Jvm.Cond.codeWith ({ cls := "PictureStudioLaw", name := "end", desc := "(LPictureStudio;I[J)I" } : Jvm.MethodName) method_4_code (4 : Nat) (Option.some Jvm.ClassFile.FieldType.int) [((0 : Nat), (9 : Nat), (12 : Nat), (19 : Nat))]) ∈ ps_W := ps_in4 73 rfl rfl
theorem ps_w4_74 : (Jvm.Cond.classLink "PictureStudioLaw" (19 : Nat) "java/lang/IllegalArgumentException") ∈ ps_W := ps_in4 74 rfl rfl
theorem ps_w4_75 : (Jvm.Cond.methodLink "PictureStudioLaw" (15 : Nat) ({ cls := "PictureStudio", name := "end", desc := "(I)I" } : Jvm.MethodName)) ∈ ps_W := ps_in4 75 rfl rfl
theorem ps_w4_76 : (Jvm.Cond.instanceMethod ({ cls := "PictureStudio", name := "end", desc := "(I)I" } : Jvm.MethodName)) ∈ ps_W := ps_in4 76 rfl rfl
theorem ps_w4_77 : (Jvm.Cond.selects "PictureStudio" ({ cls := "PictureStudio", name := "end", desc := "(I)I" } : Jvm.MethodName) ({ cls := "PictureStudio", name := "end", desc := "(I)I" } : Jvm.MethodName)) ∈ ps_W := ps_in4 77 rfl rfl
theorem ps_w4_78 : (Jvm.Cond.code ({ cls := "PictureStudio", name := "end", desc := "(I)I" } : Jvm.MethodName) prog_1_method_4_code (2 : Nat) (Option.some Jvm.ClassFile.FieldType.int)) ∈ ps_W := ps_in4 78 rfl rfl
theorem ps_w4_79 : (Jvm.Cond.methodLink "PictureStudio" (105 : Nat) ({ cls := "PictureStudio", name := "range", desc := "(III)V" } : Jvm.MethodName)) ∈ ps_W := ps_in4 79 rfl rfl
theorem ps_w4_80 : (Jvm.Cond.static ({ cls := "PictureStudio", name := "range", desc := "(III)V" } : Jvm.MethodName)) ∈ ps_W := ps_in4 80 rfl rfl
theorem ps_w4_81 : (Jvm.Cond.code ({ cls := "PictureStudio", name := "range", desc := "(III)V" } : Jvm.MethodName) prog_1_method_8_code (3 : Nat) (Option.none : Option Jvm.ClassFile.FieldType)) ∈ ps_W := ps_in4 81 rfl rfl
theorem ps_w4_82 : (Jvm.Cond.classLink "PictureStudio" (120 : Nat) "java/lang/IllegalArgumentException") ∈ ps_W := ps_in4 82 rfl rfl
theorem ps_w4_83 : (Jvm.Cond.instantiable "java/lang/IllegalArgumentException" (6 : Nat)) ∈ ps_W := ps_in4 83 rfl rfl
theorem ps_w4_85 : (Jvm.Cond.selects "java/lang/IllegalArgumentException" ({ cls := "java/lang/Throwable", name := "fillInStackTrace", desc := "(I)Ljava/lang/Throwable;" } : Jvm.MethodName) ({ cls := "java/lang/Throwable", name := "fillInStackTrace", desc := "(I)Ljava/lang/Throwable;" } : Jvm.MethodName)) ∈ ps_W := ps_in4 85 rfl rfl
theorem ps_w4_86 : (Jvm.Cond.lays "java/lang/IllegalArgumentException" "java/lang/Throwable" "cause" "Ljava/lang/Throwable;") ∈ ps_W := ps_in4 86 rfl rfl
theorem ps_w4_87 : (Jvm.Cond.lays "java/lang/IllegalArgumentException" "java/lang/Throwable" "stackTrace" "[Ljava/lang/StackTraceElement;") ∈ ps_W := ps_in4 87 rfl rfl
theorem ps_w4_88 : (Jvm.Cond.lays "java/lang/IllegalArgumentException" "java/lang/Throwable" "suppressedExceptions" "Ljava/util/List;") ∈ ps_W := ps_in4 88 rfl rfl
theorem ps_w4_89 : (Jvm.Cond.lays "java/lang/IllegalArgumentException" "java/lang/Throwable" "detailMessage" "Ljava/lang/String;") ∈ ps_W := ps_in4 89 rfl rfl
theorem ps_w4_90 : (Jvm.Cond.lays "java/lang/IllegalArgumentException" "java/lang/Throwable" "backtrace" "Ljava/lang/Object;") ∈ ps_W := ps_in4 90 rfl rfl
theorem ps_w4_92 : (Jvm.Cond.methodLink "PictureStudio" (124 : Nat) ({ cls := "java/lang/IllegalArgumentException", name := "<init>", desc := "(Ljava/lang/String;)V" } : Jvm.MethodName)) ∈ ps_W := ps_in4 92 rfl rfl
theorem ps_w4_93 : (Jvm.Cond.instanceMethod ({ cls := "java/lang/IllegalArgumentException", name := "<init>", desc := "(Ljava/lang/String;)V" } : Jvm.MethodName)) ∈ ps_W := ps_in4 93 rfl rfl
theorem ps_w4_94 : (Jvm.Cond.code ({ cls := "java/lang/IllegalArgumentException", name := "<init>", desc := "(Ljava/lang/String;)V" } : Jvm.MethodName) prog_17_method_2_code (2 : Nat) (Option.none : Option Jvm.ClassFile.FieldType)) ∈ ps_W := ps_in4 94 rfl rfl
theorem ps_w4_95 : (Jvm.Cond.methodLink "java/lang/IllegalArgumentException" (7 : Nat) ({ cls := "java/lang/RuntimeException", name := "<init>", desc := "(Ljava/lang/String;)V" } : Jvm.MethodName)) ∈ ps_W := ps_in4 95 rfl rfl
theorem ps_w4_96 : (Jvm.Cond.lays "java/lang/IllegalArgumentException" "java/lang/Throwable" "depth" "I") ∈ ps_W := ps_in4 96 rfl rfl
theorem ps_w4_98 : (Jvm.Cond.methodLink "PictureStudioLaw" (186 : Nat) ({ cls := "PictureStudioLaw", name := "open", desc := "(LPictureStudio;II)I" } : Jvm.MethodName)) ∈ ps_W := ps_in4 98 rfl rfl
theorem ps_w4_99 : (Jvm.Cond.static ({ cls := "PictureStudioLaw", name := "open", desc := "(LPictureStudio;II)I" } : Jvm.MethodName)) ∈ ps_W := ps_in4 99 rfl rfl
theorem ps_w4_100 : (Jvm.Cond.codeWith ({ cls := "PictureStudioLaw", name := "open", desc := "(LPictureStudio;II)I" } : Jvm.MethodName) method_5_code (4 : Nat) (Option.some Jvm.ClassFile.FieldType.int) [((0 : Nat), (6 : Nat), (9 : Nat), (19 : Nat))]) ∈ ps_W := ps_in4 100 rfl rfl
theorem ps_w4_101 : (Jvm.Cond.methodLink "PictureStudioLaw" (21 : Nat) ({ cls := "PictureStudio", name := "open", desc := "(II)V" } : Jvm.MethodName)) ∈ ps_W := ps_in4 101 rfl rfl
theorem ps_w4_102 : (Jvm.Cond.instanceMethod ({ cls := "PictureStudio", name := "open", desc := "(II)V" } : Jvm.MethodName)) ∈ ps_W := ps_in4 102 rfl rfl
theorem ps_w4_103 : (Jvm.Cond.selects "PictureStudio" ({ cls := "PictureStudio", name := "open", desc := "(II)V" } : Jvm.MethodName) ({ cls := "PictureStudio", name := "open", desc := "(II)V" } : Jvm.MethodName)) ∈ ps_W := ps_in4 103 rfl rfl
theorem ps_w4_104 : (Jvm.Cond.code ({ cls := "PictureStudio", name := "open", desc := "(II)V" } : Jvm.MethodName) prog_1_method_22_code (3 : Nat) (Option.none : Option Jvm.ClassFile.FieldType)) ∈ ps_W := ps_in4 104 rfl rfl
theorem ps_w4_105 : (Jvm.Cond.methodLink "PictureStudio" (228 : Nat) ({ cls := "PictureStudio$Area", name := "restart", desc := "(II)V" } : Jvm.MethodName)) ∈ ps_W := ps_in4 105 rfl rfl
theorem ps_w4_106 : (Jvm.Cond.instanceMethod ({ cls := "PictureStudio$Area", name := "restart", desc := "(II)V" } : Jvm.MethodName)) ∈ ps_W := ps_in4 106 rfl rfl
theorem ps_w4_107 : (Jvm.Cond.selects "PictureStudio$Area" ({ cls := "PictureStudio$Area", name := "restart", desc := "(II)V" } : Jvm.MethodName) ({ cls := "PictureStudio$Area", name := "restart", desc := "(II)V" } : Jvm.MethodName)) ∈ ps_W := ps_in4 107 rfl rfl
theorem ps_w4_108 : (Jvm.Cond.code ({ cls := "PictureStudio$Area", name := "restart", desc := "(II)V" } : Jvm.MethodName) prog_2_method_2_code (3 : Nat) (Option.none : Option Jvm.ClassFile.FieldType)) ∈ ps_W := ps_in4 108 rfl rfl
theorem ps_w4_110 : (Jvm.Cond.methodLink "PictureStudio" (181 : Nat) ({ cls := "PictureStudio$Viewer", name := "forgetAll", desc := "()V" } : Jvm.MethodName)) ∈ ps_W := ps_in4 110 rfl rfl
theorem ps_w4_111 : (Jvm.Cond.instanceMethod ({ cls := "PictureStudio$Viewer", name := "forgetAll", desc := "()V" } : Jvm.MethodName)) ∈ ps_W := ps_in4 111 rfl rfl
theorem ps_w4_112 : (Jvm.Cond.selects "PictureStudio$Viewer" ({ cls := "PictureStudio$Viewer", name := "forgetAll", desc := "()V" } : Jvm.MethodName) ({ cls := "PictureStudio$Viewer", name := "forgetAll", desc := "()V" } : Jvm.MethodName)) ∈ ps_W := ps_in4 112 rfl rfl
theorem ps_w4_113 : (Jvm.Cond.code ({ cls := "PictureStudio$Viewer", name := "forgetAll", desc := "()V" } : Jvm.MethodName) prog_12_method_2_code (2 : Nat) (Option.none : Option Jvm.ClassFile.FieldType)) ∈ ps_W := ps_in4 113 rfl rfl
theorem ps_w4_114 : (Jvm.Cond.methodLink "PictureStudioLaw" (190 : Nat) ({ cls := "PictureStudioLaw", name := "layer", desc := "(LPictureStudio;III[J)I" } : Jvm.MethodName)) ∈ ps_W := ps_in4 114 rfl rfl
theorem ps_w4_115 : (Jvm.Cond.static ({ cls := "PictureStudioLaw", name := "layer", desc := "(LPictureStudio;III[J)I" } : Jvm.MethodName)) ∈ ps_W := ps_in4 115 rfl rfl
theorem ps_w4_116 : (Jvm.Cond.codeWith ({ cls := "PictureStudioLaw", name := "layer", desc := "(LPictureStudio;III[J)I" } : Jvm.MethodName) method_6_code (6 : Nat) (Option.some Jvm.ClassFile.FieldType.int) [((0 : Nat), (12 : Nat), (15 : Nat), (19 : Nat)), ((0 : Nat), (12 : Nat), (19 : Nat), (29 : Nat)), ((0 : Nat), (12 : Nat), (23 : Nat), (13 : Nat))]) ∈ ps_W := ps_in4 116 rfl rfl
theorem ps_w4_117 : (Jvm.Cond.classLink "PictureStudioLaw" (29 : Nat) "java/util/NoSuchElementException") ∈ ps_W := ps_in4 117 rfl rfl
theorem ps_w4_118 : (Jvm.Cond.methodLink "PictureStudioLaw" (25 : Nat) ({ cls := "PictureStudio", name := "layer", desc := "(III)I" } : Jvm.MethodName)) ∈ ps_W := ps_in4 118 rfl rfl
theorem ps_w4_119 : (Jvm.Cond.instanceMethod ({ cls := "PictureStudio", name := "layer", desc := "(III)I" } : Jvm.MethodName)) ∈ ps_W := ps_in4 119 rfl rfl
theorem ps_w4_120 : (Jvm.Cond.selects "PictureStudio" ({ cls := "PictureStudio", name := "layer", desc := "(III)I" } : Jvm.MethodName) ({ cls := "PictureStudio", name := "layer", desc := "(III)I" } : Jvm.MethodName)) ∈ ps_W := ps_in4 120 rfl rfl
theorem ps_w4_121 : (Jvm.Cond.code ({ cls := "PictureStudio", name := "layer", desc := "(III)I" } : Jvm.MethodName) prog_1_method_23_code (4 : Nat) (Option.some Jvm.ClassFile.FieldType.int)) ∈ ps_W := ps_in4 121 rfl rfl
theorem ps_w4_122 : (Jvm.Cond.methodLink "PictureStudio" (231 : Nat) ({ cls := "PictureStudio", name := "needParent", desc := "(I)V" } : Jvm.MethodName)) ∈ ps_W := ps_in4 122 rfl rfl
theorem ps_w4_124 : (Jvm.Cond.instanceMethod ({ cls := "PictureStudio", name := "needParent", desc := "(I)V" } : Jvm.MethodName)) ∈ ps_W := ps_in4 124 rfl rfl
theorem ps_w4_125 : (Jvm.Cond.code ({ cls := "PictureStudio", name := "needParent", desc := "(I)V" } : Jvm.MethodName) prog_1_method_11_code (2 : Nat) (Option.none : Option Jvm.ClassFile.FieldType)) ∈ ps_W := ps_in4 125 rfl rfl
theorem ps_w4_126 : (Jvm.Cond.methodLink "PictureStudio" (147 : Nat) ({ cls := "PictureStudio$Stand", name := "holds", desc := "(I)Z" } : Jvm.MethodName)) ∈ ps_W := ps_in4 126 rfl rfl
theorem ps_w4_127 : (Jvm.Cond.instanceMethod ({ cls := "PictureStudio$Stand", name := "holds", desc := "(I)Z" } : Jvm.MethodName)) ∈ ps_W := ps_in4 127 rfl rfl
theorem ps_w4_128 : (Jvm.Cond.selects "PictureStudio$Stand" ({ cls := "PictureStudio$Stand", name := "holds", desc := "(I)Z" } : Jvm.MethodName) ({ cls := "PictureStudio$Stand", name := "holds", desc := "(I)Z" } : Jvm.MethodName)) ∈ ps_W := ps_in4 128 rfl rfl
theorem ps_w4_129 : (Jvm.Cond.code ({ cls := "PictureStudio$Stand", name := "holds", desc := "(I)Z" } : Jvm.MethodName) prog_11_method_5_code (3 : Nat) (Option.some Jvm.ClassFile.FieldType.boolean)) ∈ ps_W := ps_in4 129 rfl rfl
theorem ps_w4_130 : (Jvm.Cond.classLink "PictureStudio" (129 : Nat) "java/util/NoSuchElementException") ∈ ps_W := ps_in4 130 rfl rfl
theorem ps_w4_131 : (Jvm.Cond.instantiable "java/util/NoSuchElementException" (6 : Nat)) ∈ ps_W := ps_in4 131 rfl rfl
theorem ps_w4_133 : (Jvm.Cond.selects "java/util/NoSuchElementException" ({ cls := "java/lang/Throwable", name := "fillInStackTrace", desc := "(I)Ljava/lang/Throwable;" } : Jvm.MethodName) ({ cls := "java/lang/Throwable", name := "fillInStackTrace", desc := "(I)Ljava/lang/Throwable;" } : Jvm.MethodName)) ∈ ps_W := ps_in4 133 rfl rfl
theorem ps_w4_134 : (Jvm.Cond.lays "java/util/NoSuchElementException" "java/lang/Throwable" "cause" "Ljava/lang/Throwable;") ∈ ps_W := ps_in4 134 rfl rfl
theorem ps_w4_135 : (Jvm.Cond.lays "java/util/NoSuchElementException" "java/lang/Throwable" "stackTrace" "[Ljava/lang/StackTraceElement;") ∈ ps_W := ps_in4 135 rfl rfl
theorem ps_w4_136 : (Jvm.Cond.lays "java/util/NoSuchElementException" "java/lang/Throwable" "suppressedExceptions" "Ljava/util/List;") ∈ ps_W := ps_in4 136 rfl rfl
theorem ps_w4_137 : (Jvm.Cond.lays "java/util/NoSuchElementException" "java/lang/Throwable" "detailMessage" "Ljava/lang/String;") ∈ ps_W := ps_in4 137 rfl rfl
theorem ps_w4_138 : (Jvm.Cond.lays "java/util/NoSuchElementException" "java/lang/Throwable" "backtrace" "Ljava/lang/Object;") ∈ ps_W := ps_in4 138 rfl rfl
theorem ps_w4_140 : (Jvm.Cond.methodLink "PictureStudio" (133 : Nat) ({ cls := "java/util/NoSuchElementException", name := "<init>", desc := "(Ljava/lang/String;)V" } : Jvm.MethodName)) ∈ ps_W := ps_in4 140 rfl rfl
theorem ps_w4_141 : (Jvm.Cond.instanceMethod ({ cls := "java/util/NoSuchElementException", name := "<init>", desc := "(Ljava/lang/String;)V" } : Jvm.MethodName)) ∈ ps_W := ps_in4 141 rfl rfl
theorem ps_w4_142 : (Jvm.Cond.code ({ cls := "java/util/NoSuchElementException", name := "<init>", desc := "(Ljava/lang/String;)V" } : Jvm.MethodName) prog_27_method_4_code (2 : Nat) (Option.none : Option Jvm.ClassFile.FieldType)) ∈ ps_W := ps_in4 142 rfl rfl
theorem ps_w4_143 : (Jvm.Cond.methodLink "java/util/NoSuchElementException" (13 : Nat) ({ cls := "java/lang/RuntimeException", name := "<init>", desc := "(Ljava/lang/String;)V" } : Jvm.MethodName)) ∈ ps_W := ps_in4 143 rfl rfl
theorem ps_w4_144 : (Jvm.Cond.lays "java/util/NoSuchElementException" "java/lang/Throwable" "depth" "I") ∈ ps_W := ps_in4 144 rfl rfl
theorem ps_w4_146 : (Jvm.Cond.methodLink "PictureStudio" (234 : Nat) ({ cls := "PictureStudio$Stand", name := "among", desc := "(I)I" } : Jvm.MethodName)) ∈ ps_W := ps_in4 146 rfl rfl
theorem ps_w4_147 : (Jvm.Cond.instanceMethod ({ cls := "PictureStudio$Stand", name := "among", desc := "(I)I" } : Jvm.MethodName)) ∈ ps_W := ps_in4 147 rfl rfl
theorem ps_w4_148 : (Jvm.Cond.selects "PictureStudio$Stand" ({ cls := "PictureStudio$Stand", name := "among", desc := "(I)I" } : Jvm.MethodName) ({ cls := "PictureStudio$Stand", name := "among", desc := "(I)I" } : Jvm.MethodName)) ∈ ps_W := ps_in4 148 rfl rfl
theorem ps_w4_149 : (Jvm.Cond.code ({ cls := "PictureStudio$Stand", name := "among", desc := "(I)I" } : Jvm.MethodName) prog_11_method_6_code (4 : Nat) (Option.some Jvm.ClassFile.FieldType.int)) ∈ ps_W := ps_in4 149 rfl rfl
theorem ps_w4_150 : (Jvm.Cond.methodLink "PictureStudio$Stand" (47 : Nat) ({ cls := "PictureStudio$Stand", name := "child", desc := "(II)LPictureStudio$Layer;" } : Jvm.MethodName)) ∈ ps_W := ps_in4 150 rfl rfl
theorem ps_w4_151 : (Jvm.Cond.methodLink "PictureStudio" (238 : Nat) ({ cls := "PictureStudio", name := "needNumber", desc := "()V" } : Jvm.MethodName)) ∈ ps_W := ps_in4 151 rfl rfl
theorem ps_w4_153 : (Jvm.Cond.instanceMethod ({ cls := "PictureStudio", name := "needNumber", desc := "()V" } : Jvm.MethodName)) ∈ ps_W := ps_in4 153 rfl rfl
theorem ps_w4_154 : (Jvm.Cond.code ({ cls := "PictureStudio", name := "needNumber", desc := "()V" } : Jvm.MethodName) prog_1_method_13_code (1 : Nat) (Option.none : Option Jvm.ClassFile.FieldType)) ∈ ps_W := ps_in4 154 rfl rfl
theorem ps_w4_156 : (Jvm.Cond.classLink "PictureStudio" (138 : Nat) "PictureStudio$Layer") ∈ ps_W := ps_in4 156 rfl rfl
theorem ps_w4_157 : (Jvm.Cond.instantiable "PictureStudio$Layer" (17 : Nat)) ∈ ps_W := ps_in4 157 rfl rfl
theorem ps_w4_158 : (Jvm.Cond.methodLink "PictureStudio" (241 : Nat) ({ cls := "PictureStudio$Layer", name := "<init>", desc := "(III)V" } : Jvm.MethodName)) ∈ ps_W := ps_in4 158 rfl rfl
theorem ps_w4_159 : (Jvm.Cond.instanceMethod ({ cls := "PictureStudio$Layer", name := "<init>", desc := "(III)V" } : Jvm.MethodName)) ∈ ps_W := ps_in4 159 rfl rfl
theorem ps_w4_160 : (Jvm.Cond.code ({ cls := "PictureStudio$Layer", name := "<init>", desc := "(III)V" } : Jvm.MethodName) prog_6_method_1_code (4 : Nat) (Option.none : Option Jvm.ClassFile.FieldType)) ∈ ps_W := ps_in4 160 rfl rfl
theorem ps_w4_161 : (Jvm.Cond.methodLink "PictureStudio$Layer" (3 : Nat) ({ cls := "java/lang/Object", name := "<init>", desc := "()V" } : Jvm.MethodName)) ∈ ps_W := ps_in4 161 rfl rfl
theorem ps_w4_163 : (Jvm.Cond.fieldLink "PictureStudio$Layer" (26 : Nat) "PictureStudio$Layer" "number" "I") ∈ ps_W := ps_in4 163 rfl rfl
theorem ps_w4_164 : (Jvm.Cond.fieldLink "PictureStudio$Stand" (51 : Nat) "PictureStudio$Layer" "number" "I") ∈ ps_W := ps_in4 164 rfl rfl
theorem ps_w4_165 : (Jvm.Cond.fieldLink "PictureStudio$Viewer" (143 : Nat) "PictureStudio$Layer" "number" "I") ∈ ps_W := ps_in4 165 rfl rfl
theorem ps_w4_166 : (Jvm.Cond.fieldLink "PictureStudio" (251 : Nat) "PictureStudio$Layer" "number" "I") ∈ ps_W := ps_in4 166 rfl rfl
theorem ps_w4_167 : (Jvm.Cond.fieldLink "PictureStudio$Layer" (29 : Nat) "PictureStudio$Layer" "kind" "I") ∈ ps_W := ps_in4 167 rfl rfl
theorem ps_w4_168 : (Jvm.Cond.fieldLink "PictureStudio$Stand" (44 : Nat) "PictureStudio$Layer" "kind" "I") ∈ ps_W := ps_in4 168 rfl rfl
theorem ps_w4_169 : (Jvm.Cond.fieldLink "PictureStudio" (137 : Nat) "PictureStudio$Layer" "kind" "I") ∈ ps_W := ps_in4 169 rfl rfl
theorem ps_w4_170 : (Jvm.Cond.fieldLink "PictureStudio$Viewer" (92 : Nat) "PictureStudio$Layer" "kind" "I") ∈ ps_W := ps_in4 170 rfl rfl
theorem ps_w4_171 : (Jvm.Cond.fieldLink "PictureStudio$Layer" (32 : Nat) "PictureStudio$Layer" "parent" "I") ∈ ps_W := ps_in4 171 rfl rfl
theorem ps_w4_172 : (Jvm.Cond.fieldLink "PictureStudio$Stand" (41 : Nat) "PictureStudio$Layer" "parent" "I") ∈ ps_W := ps_in4 172 rfl rfl
theorem ps_w4_173 : (Jvm.Cond.fieldLink "PictureStudio" (260 : Nat) "PictureStudio$Layer" "parent" "I") ∈ ps_W := ps_in4 173 rfl rfl
theorem ps_w4_174 : (Jvm.Cond.fieldLink "PictureStudio$Layer" (9 : Nat) "PictureStudio$Layer" "opacity" "I") ∈ ps_W := ps_in4 174 rfl rfl
theorem ps_w4_175 : (Jvm.Cond.fieldLink "PictureStudio$Viewer" (130 : Nat) "PictureStudio$Layer" "opacity" "I") ∈ ps_W := ps_in4 175 rfl rfl
theorem ps_w4_176 : (Jvm.Cond.fieldLink "PictureStudio" (271 : Nat) "PictureStudio$Layer" "opacity" "I") ∈ ps_W := ps_in4 176 rfl rfl
theorem ps_w4_177 : (Jvm.Cond.fieldLink "PictureStudio$Layer" (41 : Nat) "PictureStudio$Layer" "mode" "I") ∈ ps_W := ps_in4 177 rfl rfl
theorem ps_w4_178 : (Jvm.Cond.fieldLink "PictureStudio$Viewer" (159 : Nat) "PictureStudio$Layer" "mode" "I") ∈ ps_W := ps_in4 178 rfl rfl
theorem ps_w4_179 : (Jvm.Cond.fieldLink "PictureStudio" (274 : Nat) "PictureStudio$Layer" "mode" "I") ∈ ps_W := ps_in4 179 rfl rfl
theorem ps_w4_180 : (Jvm.Cond.fieldLink "PictureStudio$Layer" (15 : Nat) "PictureStudio$Layer" "shown" "Z") ∈ ps_W := ps_in4 180 rfl rfl
theorem ps_w4_181 : (Jvm.Cond.fieldLink "PictureStudio$Viewer" (100 : Nat) "PictureStudio$Layer" "shown" "Z") ∈ ps_W := ps_in4 181 rfl rfl
theorem ps_w4_182 : (Jvm.Cond.fieldLink "PictureStudio" (277 : Nat) "PictureStudio$Layer" "shown" "Z") ∈ ps_W := ps_in4 182 rfl rfl
theorem ps_w4_183 : (Jvm.Cond.fieldLink "PictureStudio$Layer" (44 : Nat) "PictureStudio$Layer" "clipped" "Z") ∈ ps_W := ps_in4 183 rfl rfl
theorem ps_w4_184 : (Jvm.Cond.fieldLink "PictureStudio$Viewer" (97 : Nat) "PictureStudio$Layer" "clipped" "Z") ∈ ps_W := ps_in4 184 rfl rfl
theorem ps_w4_185 : (Jvm.Cond.fieldLink "PictureStudio" (281 : Nat) "PictureStudio$Layer" "clipped" "Z") ∈ ps_W := ps_in4 185 rfl rfl
theorem ps_w4_186 : (Jvm.Cond.fieldLink "PictureStudio$Layer" (47 : Nat) "PictureStudio$Layer" "dx" "I") ∈ ps_W := ps_in4 186 rfl rfl
theorem ps_w4_187 : (Jvm.Cond.fieldLink "PictureStudio$Area" (57 : Nat) "PictureStudio$Layer" "dx" "I") ∈ ps_W := ps_in4 187 rfl rfl
theorem ps_w4_188 : (Jvm.Cond.fieldLink "PictureStudio$Viewer" (146 : Nat) "PictureStudio$Layer" "dx" "I") ∈ ps_W := ps_in4 188 rfl rfl
theorem ps_w4_189 : (Jvm.Cond.fieldLink "PictureStudio" (214 : Nat) "PictureStudio$Layer" "dx" "I") ∈ ps_W := ps_in4 189 rfl rfl
theorem ps_w4_190 : (Jvm.Cond.fieldLink "PictureStudio$Layer" (50 : Nat) "PictureStudio$Layer" "dy" "I") ∈ ps_W := ps_in4 190 rfl rfl
theorem ps_w4_191 : (Jvm.Cond.fieldLink "PictureStudio$Area" (62 : Nat) "PictureStudio$Layer" "dy" "I") ∈ ps_W := ps_in4 191 rfl rfl
theorem ps_w4_192 : (Jvm.Cond.fieldLink "PictureStudio$Viewer" (149 : Nat) "PictureStudio$Layer" "dy" "I") ∈ ps_W := ps_in4 192 rfl rfl
theorem ps_w4_193 : (Jvm.Cond.fieldLink "PictureStudio" (217 : Nat) "PictureStudio$Layer" "dy" "I") ∈ ps_W := ps_in4 193 rfl rfl
theorem ps_w4_194 : (Jvm.Cond.fieldLink "PictureStudio$Layer" (35 : Nat) "PictureStudio$Layer" "p" "I") ∈ ps_W := ps_in4 194 rfl rfl
theorem ps_w4_195 : (Jvm.Cond.fieldLink "PictureStudio$Viewer" (115 : Nat) "PictureStudio$Layer" "p" "I") ∈ ps_W := ps_in4 195 rfl rfl
theorem ps_w4_196 : (Jvm.Cond.fieldLink "PictureStudio$Stand" (66 : Nat) "PictureStudio$Layer" "p" "I") ∈ ps_W := ps_in4 196 rfl rfl
theorem ps_w4_197 : (Jvm.Cond.fieldLink "PictureStudio" (296 : Nat) "PictureStudio$Layer" "p" "I") ∈ ps_W := ps_in4 197 rfl rfl
theorem ps_w4_198 : (Jvm.Cond.fieldLink "PictureStudio$Layer" (53 : Nat) "PictureStudio$Layer" "q" "I") ∈ ps_W := ps_in4 198 rfl rfl
theorem ps_w4_199 : (Jvm.Cond.fieldLink "PictureStudio$Viewer" (118 : Nat) "PictureStudio$Layer" "q" "I") ∈ ps_W := ps_in4 199 rfl rfl
theorem ps_w4_200 : (Jvm.Cond.fieldLink "PictureStudio$Stand" (69 : Nat) "PictureStudio$Layer" "q" "I") ∈ ps_W := ps_in4 200 rfl rfl
theorem ps_w4_201 : (Jvm.Cond.fieldLink "PictureStudio" (299 : Nat) "PictureStudio$Layer" "q" "I") ∈ ps_W := ps_in4 201 rfl rfl
theorem ps_w4_202 : (Jvm.Cond.fieldLink "PictureStudio$Layer" (56 : Nat) "PictureStudio$Layer" "x0" "I") ∈ ps_W := ps_in4 202 rfl rfl
theorem ps_w4_203 : (Jvm.Cond.fieldLink "PictureStudio" (308 : Nat) "PictureStudio$Layer" "x0" "I") ∈ ps_W := ps_in4 203 rfl rfl
theorem ps_w4_204 : (Jvm.Cond.fieldLink "PictureStudio$Layer" (59 : Nat) "PictureStudio$Layer" "y0" "I") ∈ ps_W := ps_in4 204 rfl rfl
theorem ps_w4_205 : (Jvm.Cond.fieldLink "PictureStudio" (311 : Nat) "PictureStudio$Layer" "y0" "I") ∈ ps_W := ps_in4 205 rfl rfl
theorem ps_w4_206 : (Jvm.Cond.fieldLink "PictureStudio$Layer" (62 : Nat) "PictureStudio$Layer" "x1" "I") ∈ ps_W := ps_in4 206 rfl rfl
theorem ps_w4_207 : (Jvm.Cond.fieldLink "PictureStudio" (314 : Nat) "PictureStudio$Layer" "x1" "I") ∈ ps_W := ps_in4 207 rfl rfl
theorem ps_w4_208 : (Jvm.Cond.fieldLink "PictureStudio$Layer" (65 : Nat) "PictureStudio$Layer" "y1" "I") ∈ ps_W := ps_in4 208 rfl rfl
theorem ps_w4_209 : (Jvm.Cond.fieldLink "PictureStudio" (317 : Nat) "PictureStudio$Layer" "y1" "I") ∈ ps_W := ps_in4 209 rfl rfl
theorem ps_w4_210 : (Jvm.Cond.fieldLink "PictureStudio$Layer" (38 : Nat) "PictureStudio$Layer" "pixels" "[I") ∈ ps_W := ps_in4 210 rfl rfl
theorem ps_w4_211 : (Jvm.Cond.fieldLink "PictureStudio" (142 : Nat) "PictureStudio$Layer" "pixels" "[I") ∈ ps_W := ps_in4 211 rfl rfl
theorem ps_w4_212 : (Jvm.Cond.fieldLink "PictureStudio$Layer" (23 : Nat) "PictureStudio$Layer" "mask" "[I") ∈ ps_W := ps_in4 212 rfl rfl
theorem ps_w4_213 : (Jvm.Cond.fieldLink "PictureStudio" (284 : Nat) "PictureStudio$Layer" "mask" "[I") ∈ ps_W := ps_in4 213 rfl rfl
theorem ps_w4_214 : (Jvm.Cond.laysFinal "PictureStudio$Layer" "PictureStudio$Layer" "number" "I") ∈ ps_W := ps_in4 214 rfl rfl
theorem ps_w4_216 : (Jvm.Cond.lays "PictureStudio$Layer" "PictureStudio$Layer" "kind" "I") ∈ ps_W := ps_in4 216 rfl rfl
theorem ps_w4_218 : (Jvm.Cond.lays "PictureStudio$Layer" "PictureStudio$Layer" "parent" "I") ∈ ps_W := ps_in4 218 rfl rfl
theorem ps_w4_220 : (Jvm.Cond.lays "PictureStudio$Layer" "PictureStudio$Layer" "opacity" "I") ∈ ps_W := ps_in4 220 rfl rfl
theorem ps_w4_222 : (Jvm.Cond.lays "PictureStudio$Layer" "PictureStudio$Layer" "mode" "I") ∈ ps_W := ps_in4 222 rfl rfl
theorem ps_w4_224 : (Jvm.Cond.lays "PictureStudio$Layer" "PictureStudio$Layer" "shown" "Z") ∈ ps_W := ps_in4 224 rfl rfl
theorem ps_w4_226 : (Jvm.Cond.lays "PictureStudio$Layer" "PictureStudio$Layer" "clipped" "Z") ∈ ps_W := ps_in4 226 rfl rfl
theorem ps_w4_228 : (Jvm.Cond.lays "PictureStudio$Layer" "PictureStudio$Layer" "dx" "I") ∈ ps_W := ps_in4 228 rfl rfl
theorem ps_w4_230 : (Jvm.Cond.lays "PictureStudio$Layer" "PictureStudio$Layer" "dy" "I") ∈ ps_W := ps_in4 230 rfl rfl
theorem ps_w4_232 : (Jvm.Cond.lays "PictureStudio$Layer" "PictureStudio$Layer" "p" "I") ∈ ps_W := ps_in4 232 rfl rfl
theorem ps_w4_234 : (Jvm.Cond.lays "PictureStudio$Layer" "PictureStudio$Layer" "q" "I") ∈ ps_W := ps_in4 234 rfl rfl
theorem ps_w4_236 : (Jvm.Cond.lays "PictureStudio$Layer" "PictureStudio$Layer" "x0" "I") ∈ ps_W := ps_in4 236 rfl rfl
theorem ps_w4_238 : (Jvm.Cond.lays "PictureStudio$Layer" "PictureStudio$Layer" "y0" "I") ∈ ps_W := ps_in4 238 rfl rfl
theorem ps_w5_0 : (Jvm.Cond.lays "PictureStudio$Layer" "PictureStudio$Layer" "x1" "I") ∈ ps_W := ps_in5 0 rfl rfl
theorem ps_w5_2 : (Jvm.Cond.lays "PictureStudio$Layer" "PictureStudio$Layer" "y1" "I") ∈ ps_W := ps_in5 2 rfl rfl
theorem ps_w5_4 : (Jvm.Cond.lays "PictureStudio$Layer" "PictureStudio$Layer" "pixels" "[I") ∈ ps_W := ps_in5 4 rfl rfl
theorem ps_w5_6 : (Jvm.Cond.lays "PictureStudio$Layer" "PictureStudio$Layer" "mask" "[I") ∈ ps_W := ps_in5 6 rfl rfl
theorem ps_w5_9 : (Jvm.Cond.methodLink "PictureStudio" (243 : Nat) ({ cls := "PictureStudio", name := "addLayer", desc := "(LPictureStudio$Layer;I)I" } : Jvm.MethodName)) ∈ ps_W := ps_in5 9 rfl rfl
theorem ps_w5_11 : (Jvm.Cond.instanceMethod ({ cls := "PictureStudio", name := "addLayer", desc := "(LPictureStudio$Layer;I)I" } : Jvm.MethodName)) ∈ ps_W := ps_in5 11 rfl rfl
theorem ps_w5_12 : (Jvm.Cond.code ({ cls := "PictureStudio", name := "addLayer", desc := "(LPictureStudio$Layer;I)I" } : Jvm.MethodName) prog_1_method_24_code (4 : Nat) (Option.some Jvm.ClassFile.FieldType.int)) ∈ ps_W := ps_in5 12 rfl rfl
theorem ps_w5_13 : (Jvm.Cond.methodLink "PictureStudio" (184 : Nat) ({ cls := "PictureStudio$Stand", name := "again", desc := "()LPictureStudio$Stand;" } : Jvm.MethodName)) ∈ ps_W := ps_in5 13 rfl rfl
theorem ps_w5_14 : (Jvm.Cond.instanceMethod ({ cls := "PictureStudio$Stand", name := "again", desc := "()LPictureStudio$Stand;" } : Jvm.MethodName)) ∈ ps_W := ps_in5 14 rfl rfl
theorem ps_w5_15 : (Jvm.Cond.selects "PictureStudio$Stand" ({ cls := "PictureStudio$Stand", name := "again", desc := "()LPictureStudio$Stand;" } : Jvm.MethodName) ({ cls := "PictureStudio$Stand", name := "again", desc := "()LPictureStudio$Stand;" } : Jvm.MethodName)) ∈ ps_W := ps_in5 15 rfl rfl
theorem ps_w5_16 : (Jvm.Cond.code ({ cls := "PictureStudio$Stand", name := "again", desc := "()LPictureStudio$Stand;" } : Jvm.MethodName) prog_11_method_2_code (3 : Nat) (Option.some (Jvm.ClassFile.FieldType.object "PictureStudio$Stand"))) ∈ ps_W := ps_in5 16 rfl rfl
theorem ps_w5_17 : (Jvm.Cond.classLink "PictureStudio$Stand" (12 : Nat) "PictureStudio$Stand") ∈ ps_W := ps_in5 17 rfl rfl
theorem ps_w5_18 : (Jvm.Cond.methodLink "PictureStudio$Stand" (28 : Nat) ({ cls := "PictureStudio$Stand", name := "<init>", desc := "(II)V" } : Jvm.MethodName)) ∈ ps_W := ps_in5 18 rfl rfl
theorem ps_w5_19 : (Jvm.Cond.methodLink "PictureStudio" (247 : Nat) ({ cls := "PictureStudio$Stand", name := "insert", desc := "(LPictureStudio$Layer;I)V" } : Jvm.MethodName)) ∈ ps_W := ps_in5 19 rfl rfl
theorem ps_w5_20 : (Jvm.Cond.instanceMethod ({ cls := "PictureStudio$Stand", name := "insert", desc := "(LPictureStudio$Layer;I)V" } : Jvm.MethodName)) ∈ ps_W := ps_in5 20 rfl rfl
theorem ps_w5_21 : (Jvm.Cond.selects "PictureStudio$Stand" ({ cls := "PictureStudio$Stand", name := "insert", desc := "(LPictureStudio$Layer;I)V" } : Jvm.MethodName) ({ cls := "PictureStudio$Stand", name := "insert", desc := "(LPictureStudio$Layer;I)V" } : Jvm.MethodName)) ∈ ps_W := ps_in5 21 rfl rfl
theorem ps_w5_22 : (Jvm.Cond.code ({ cls := "PictureStudio$Stand", name := "insert", desc := "(LPictureStudio$Layer;I)V" } : Jvm.MethodName) prog_11_method_11_code (6 : Nat) (Option.none : Option Jvm.ClassFile.FieldType)) ∈ ps_W := ps_in5 22 rfl rfl
theorem ps_w5_23 : (Jvm.Cond.methodLink "PictureStudio$Stand" (54 : Nat) ({ cls := "PictureStudio$Stand", name := "exchange", desc := "(LPictureStudio$Layer;)V" } : Jvm.MethodName)) ∈ ps_W := ps_in5 23 rfl rfl
theorem ps_w5_24 : (Jvm.Cond.instanceMethod ({ cls := "PictureStudio$Stand", name := "exchange", desc := "(LPictureStudio$Layer;)V" } : Jvm.MethodName)) ∈ ps_W := ps_in5 24 rfl rfl
theorem ps_w5_25 : (Jvm.Cond.selects "PictureStudio$Stand" ({ cls := "PictureStudio$Stand", name := "exchange", desc := "(LPictureStudio$Layer;)V" } : Jvm.MethodName) ({ cls := "PictureStudio$Stand", name := "exchange", desc := "(LPictureStudio$Layer;)V" } : Jvm.MethodName)) ∈ ps_W := ps_in5 25 rfl rfl
theorem ps_w5_26 : (Jvm.Cond.code ({ cls := "PictureStudio$Stand", name := "exchange", desc := "(LPictureStudio$Layer;)V" } : Jvm.MethodName) prog_11_method_10_code (2 : Nat) (Option.none : Option Jvm.ClassFile.FieldType)) ∈ ps_W := ps_in5 26 rfl rfl
theorem ps_w5_27 : (Jvm.Cond.methodLink "PictureStudio" (192 : Nat) ({ cls := "PictureStudio", name := "become", desc := "(LPictureStudio$Stand;)V" } : Jvm.MethodName)) ∈ ps_W := ps_in5 27 rfl rfl
theorem ps_w5_29 : (Jvm.Cond.instanceMethod ({ cls := "PictureStudio", name := "become", desc := "(LPictureStudio$Stand;)V" } : Jvm.MethodName)) ∈ ps_W := ps_in5 29 rfl rfl
theorem ps_w5_30 : (Jvm.Cond.code ({ cls := "PictureStudio", name := "become", desc := "(LPictureStudio$Stand;)V" } : Jvm.MethodName) prog_1_method_16_code (2 : Nat) (Option.none : Option Jvm.ClassFile.FieldType)) ∈ ps_W := ps_in5 30 rfl rfl
theorem ps_w5_31 : (Jvm.Cond.methodLink "PictureStudio" (177 : Nat) ({ cls := "PictureStudio", name := "remember", desc := "(LPictureStudio$Stand;)V" } : Jvm.MethodName)) ∈ ps_W := ps_in5 31 rfl rfl
theorem ps_w5_33 : (Jvm.Cond.instanceMethod ({ cls := "PictureStudio", name := "remember", desc := "(LPictureStudio$Stand;)V" } : Jvm.MethodName)) ∈ ps_W := ps_in5 33 rfl rfl
theorem ps_w5_34 : (Jvm.Cond.code ({ cls := "PictureStudio", name := "remember", desc := "(LPictureStudio$Stand;)V" } : Jvm.MethodName) prog_1_method_15_code (3 : Nat) (Option.none : Option Jvm.ClassFile.FieldType)) ∈ ps_W := ps_in5 34 rfl rfl
theorem ps_w5_35 : (Jvm.Cond.methodLink "PictureStudioLaw" (194 : Nat) ({ cls := "PictureStudioLaw", name := "drop", desc := "(LPictureStudio;I)I" } : Jvm.MethodName)) ∈ ps_W := ps_in5 35 rfl rfl
theorem ps_w5_36 : (Jvm.Cond.static ({ cls := "PictureStudioLaw", name := "drop", desc := "(LPictureStudio;I)I" } : Jvm.MethodName)) ∈ ps_W := ps_in5 36 rfl rfl
theorem ps_w5_37 : (Jvm.Cond.codeWith ({ cls := "PictureStudioLaw", name := "drop", desc := "(LPictureStudio;I)I" } : Jvm.MethodName) method_7_code (3 : Nat) (Option.some Jvm.ClassFile.FieldType.int) [((0 : Nat), (5 : Nat), (8 : Nat), (29 : Nat))]) ∈ ps_W := ps_in5 37 rfl rfl
theorem ps_w5_38 : (Jvm.Cond.methodLink "PictureStudioLaw" (31 : Nat) ({ cls := "PictureStudio", name := "drop", desc := "(I)V" } : Jvm.MethodName)) ∈ ps_W := ps_in5 38 rfl rfl
theorem ps_w5_39 : (Jvm.Cond.instanceMethod ({ cls := "PictureStudio", name := "drop", desc := "(I)V" } : Jvm.MethodName)) ∈ ps_W := ps_in5 39 rfl rfl
theorem ps_w5_40 : (Jvm.Cond.selects "PictureStudio" ({ cls := "PictureStudio", name := "drop", desc := "(I)V" } : Jvm.MethodName) ({ cls := "PictureStudio", name := "drop", desc := "(I)V" } : Jvm.MethodName)) ∈ ps_W := ps_in5 40 rfl rfl
theorem ps_w5_41 : (Jvm.Cond.code ({ cls := "PictureStudio", name := "drop", desc := "(I)V" } : Jvm.MethodName) prog_1_method_26_code (3 : Nat) (Option.none : Option Jvm.ClassFile.FieldType)) ∈ ps_W := ps_in5 41 rfl rfl
theorem ps_w5_42 : (Jvm.Cond.methodLink "PictureStudio" (134 : Nat) ({ cls := "PictureStudio", name := "known", desc := "(I)LPictureStudio$Layer;" } : Jvm.MethodName)) ∈ ps_W := ps_in5 42 rfl rfl
theorem ps_w5_44 : (Jvm.Cond.instanceMethod ({ cls := "PictureStudio", name := "known", desc := "(I)LPictureStudio$Layer;" } : Jvm.MethodName)) ∈ ps_W := ps_in5 44 rfl rfl
theorem ps_w5_45 : (Jvm.Cond.code ({ cls := "PictureStudio", name := "known", desc := "(I)LPictureStudio$Layer;" } : Jvm.MethodName) prog_1_method_9_code (3 : Nat) (Option.some (Jvm.ClassFile.FieldType.object "PictureStudio$Layer"))) ∈ ps_W := ps_in5 45 rfl rfl
theorem ps_w5_46 : (Jvm.Cond.methodLink "PictureStudio" (125 : Nat) ({ cls := "PictureStudio$Stand", name := "find", desc := "(I)LPictureStudio$Layer;" } : Jvm.MethodName)) ∈ ps_W := ps_in5 46 rfl rfl
theorem ps_w5_48 : (Jvm.Cond.methodLink "PictureStudio" (254 : Nat) ({ cls := "PictureStudio$Stand", name := "removeInside", desc := "(I)V" } : Jvm.MethodName)) ∈ ps_W := ps_in5 48 rfl rfl
theorem ps_w5_49 : (Jvm.Cond.instanceMethod ({ cls := "PictureStudio$Stand", name := "removeInside", desc := "(I)V" } : Jvm.MethodName)) ∈ ps_W := ps_in5 49 rfl rfl
theorem ps_w5_50 : (Jvm.Cond.selects "PictureStudio$Stand" ({ cls := "PictureStudio$Stand", name := "removeInside", desc := "(I)V" } : Jvm.MethodName) ({ cls := "PictureStudio$Stand", name := "removeInside", desc := "(I)V" } : Jvm.MethodName)) ∈ ps_W := ps_in5 50 rfl rfl
theorem ps_w5_51 : (Jvm.Cond.code ({ cls := "PictureStudio$Stand", name := "removeInside", desc := "(I)V" } : Jvm.MethodName) prog_11_method_13_code (4 : Nat) (Option.none : Option Jvm.ClassFile.FieldType)) ∈ ps_W := ps_in5 51 rfl rfl
theorem ps_w5_52 : (Jvm.Cond.methodLink "PictureStudio$Stand" (58 : Nat) ({ cls := "PictureStudio$Stand", name := "isIn", desc := "(II)Z" } : Jvm.MethodName)) ∈ ps_W := ps_in5 52 rfl rfl
theorem ps_w5_53 : (Jvm.Cond.instanceMethod ({ cls := "PictureStudio$Stand", name := "isIn", desc := "(II)Z" } : Jvm.MethodName)) ∈ ps_W := ps_in5 53 rfl rfl
theorem ps_w5_54 : (Jvm.Cond.selects "PictureStudio$Stand" ({ cls := "PictureStudio$Stand", name := "isIn", desc := "(II)Z" } : Jvm.MethodName) ({ cls := "PictureStudio$Stand", name := "isIn", desc := "(II)Z" } : Jvm.MethodName)) ∈ ps_W := ps_in5 54 rfl rfl
theorem ps_w5_55 : (Jvm.Cond.code ({ cls := "PictureStudio$Stand", name := "isIn", desc := "(II)Z" } : Jvm.MethodName) prog_11_method_9_code (5 : Nat) (Option.some Jvm.ClassFile.FieldType.boolean)) ∈ ps_W := ps_in5 55 rfl rfl
theorem ps_w5_56 : (Jvm.Cond.methodLink "PictureStudio$Stand" (62 : Nat) ({ cls := "PictureStudio$Stand", name := "remove", desc := "(I)V" } : Jvm.MethodName)) ∈ ps_W := ps_in5 56 rfl rfl
theorem ps_w5_57 : (Jvm.Cond.instanceMethod ({ cls := "PictureStudio$Stand", name := "remove", desc := "(I)V" } : Jvm.MethodName)) ∈ ps_W := ps_in5 57 rfl rfl
theorem ps_w5_58 : (Jvm.Cond.selects "PictureStudio$Stand" ({ cls := "PictureStudio$Stand", name := "remove", desc := "(I)V" } : Jvm.MethodName) ({ cls := "PictureStudio$Stand", name := "remove", desc := "(I)V" } : Jvm.MethodName)) ∈ ps_W := ps_in5 58 rfl rfl
theorem ps_w5_59 : (Jvm.Cond.code ({ cls := "PictureStudio$Stand", name := "remove", desc := "(I)V" } : Jvm.MethodName) prog_11_method_12_code (4 : Nat) (Option.none : Option Jvm.ClassFile.FieldType)) ∈ ps_W := ps_in5 59 rfl rfl
theorem ps_w5_60 : (Jvm.Cond.methodLink "PictureStudio" (257 : Nat) ({ cls := "PictureStudio$Stand", name := "remove", desc := "(I)V" } : Jvm.MethodName)) ∈ ps_W := ps_in5 60 rfl rfl
theorem ps_w5_61 : (Jvm.Cond.methodLink "PictureStudioLaw" (198 : Nat) ({ cls := "PictureStudioLaw", name := "move", desc := "(LPictureStudio;III)I" } : Jvm.MethodName)) ∈ ps_W := ps_in5 61 rfl rfl
theorem ps_w5_62 : (Jvm.Cond.static ({ cls := "PictureStudioLaw", name := "move", desc := "(LPictureStudio;III)I" } : Jvm.MethodName)) ∈ ps_W := ps_in5 62 rfl rfl
theorem ps_w5_63 : (Jvm.Cond.codeWith ({ cls := "PictureStudioLaw", name := "move", desc := "(LPictureStudio;III)I" } : Jvm.MethodName) method_8_code (5 : Nat) (Option.some Jvm.ClassFile.FieldType.int) [((0 : Nat), (7 : Nat), (10 : Nat), (19 : Nat)), ((0 : Nat), (7 : Nat), (14 : Nat), (29 : Nat)), ((0 : Nat), (7 : Nat), (18 : Nat), (39 : Nat))]) ∈ ps_W := ps_in5 63 rfl rfl
theorem ps_w5_64 : (Jvm.Cond.classLink "PictureStudioLaw" (39 : Nat) "java/lang/IllegalStateException") ∈ ps_W := ps_in5 64 rfl rfl
theorem ps_w5_65 : (Jvm.Cond.methodLink "PictureStudioLaw" (35 : Nat) ({ cls := "PictureStudio", name := "move", desc := "(III)V" } : Jvm.MethodName)) ∈ ps_W := ps_in5 65 rfl rfl
theorem ps_w5_66 : (Jvm.Cond.instanceMethod ({ cls := "PictureStudio", name := "move", desc := "(III)V" } : Jvm.MethodName)) ∈ ps_W := ps_in5 66 rfl rfl
theorem ps_w5_67 : (Jvm.Cond.selects "PictureStudio" ({ cls := "PictureStudio", name := "move", desc := "(III)V" } : Jvm.MethodName) ({ cls := "PictureStudio", name := "move", desc := "(III)V" } : Jvm.MethodName)) ∈ ps_W := ps_in5 67 rfl rfl
theorem ps_w5_68 : (Jvm.Cond.code ({ cls := "PictureStudio", name := "move", desc := "(III)V" } : Jvm.MethodName) prog_1_method_27_code (7 : Nat) (Option.none : Option Jvm.ClassFile.FieldType)) ∈ ps_W := ps_in5 68 rfl rfl
theorem ps_w5_69 : (Jvm.Cond.methodLink "PictureStudio" (263 : Nat) ({ cls := "PictureStudio$Stand", name := "isIn", desc := "(II)Z" } : Jvm.MethodName)) ∈ ps_W := ps_in5 69 rfl rfl
theorem ps_w5_70 : (Jvm.Cond.methodLink "PictureStudio" (267 : Nat) ({ cls := "PictureStudio", name := "refuse", desc := "(Z)V" } : Jvm.MethodName)) ∈ ps_W := ps_in5 70 rfl rfl
theorem ps_w5_71 : (Jvm.Cond.static ({ cls := "PictureStudio", name := "refuse", desc := "(Z)V" } : Jvm.MethodName)) ∈ ps_W := ps_in5 71 rfl rfl
theorem ps_w5_72 : (Jvm.Cond.code ({ cls := "PictureStudio", name := "refuse", desc := "(Z)V" } : Jvm.MethodName) prog_1_method_14_code (1 : Nat) (Option.none : Option Jvm.ClassFile.FieldType)) ∈ ps_W := ps_in5 72 rfl rfl
theorem ps_w5_73 : (Jvm.Cond.classLink "PictureStudio" (166 : Nat) "java/lang/IllegalStateException") ∈ ps_W := ps_in5 73 rfl rfl
theorem ps_w5_74 : (Jvm.Cond.instantiable "java/lang/IllegalStateException" (6 : Nat)) ∈ ps_W := ps_in5 74 rfl rfl
theorem ps_w5_76 : (Jvm.Cond.selects "java/lang/IllegalStateException" ({ cls := "java/lang/Throwable", name := "fillInStackTrace", desc := "(I)Ljava/lang/Throwable;" } : Jvm.MethodName) ({ cls := "java/lang/Throwable", name := "fillInStackTrace", desc := "(I)Ljava/lang/Throwable;" } : Jvm.MethodName)) ∈ ps_W := ps_in5 76 rfl rfl
theorem ps_w5_77 : (Jvm.Cond.lays "java/lang/IllegalStateException" "java/lang/Throwable" "cause" "Ljava/lang/Throwable;") ∈ ps_W := ps_in5 77 rfl rfl
theorem ps_w5_78 : (Jvm.Cond.lays "java/lang/IllegalStateException" "java/lang/Throwable" "stackTrace" "[Ljava/lang/StackTraceElement;") ∈ ps_W := ps_in5 78 rfl rfl
theorem ps_w5_79 : (Jvm.Cond.lays "java/lang/IllegalStateException" "java/lang/Throwable" "suppressedExceptions" "Ljava/util/List;") ∈ ps_W := ps_in5 79 rfl rfl
theorem ps_w5_80 : (Jvm.Cond.lays "java/lang/IllegalStateException" "java/lang/Throwable" "detailMessage" "Ljava/lang/String;") ∈ ps_W := ps_in5 80 rfl rfl
theorem ps_w5_81 : (Jvm.Cond.lays "java/lang/IllegalStateException" "java/lang/Throwable" "backtrace" "Ljava/lang/Object;") ∈ ps_W := ps_in5 81 rfl rfl
theorem ps_w5_83 : (Jvm.Cond.methodLink "PictureStudio" (170 : Nat) ({ cls := "java/lang/IllegalStateException", name := "<init>", desc := "(Ljava/lang/String;)V" } : Jvm.MethodName)) ∈ ps_W := ps_in5 83 rfl rfl
theorem ps_w5_84 : (Jvm.Cond.instanceMethod ({ cls := "java/lang/IllegalStateException", name := "<init>", desc := "(Ljava/lang/String;)V" } : Jvm.MethodName)) ∈ ps_W := ps_in5 84 rfl rfl
theorem ps_w5_85 : (Jvm.Cond.code ({ cls := "java/lang/IllegalStateException", name := "<init>", desc := "(Ljava/lang/String;)V" } : Jvm.MethodName) prog_18_method_2_code (2 : Nat) (Option.none : Option Jvm.ClassFile.FieldType)) ∈ ps_W := ps_in5 85 rfl rfl
theorem ps_w5_86 : (Jvm.Cond.methodLink "java/lang/IllegalStateException" (7 : Nat) ({ cls := "java/lang/RuntimeException", name := "<init>", desc := "(Ljava/lang/String;)V" } : Jvm.MethodName)) ∈ ps_W := ps_in5 86 rfl rfl
theorem ps_w5_87 : (Jvm.Cond.lays "java/lang/IllegalStateException" "java/lang/Throwable" "depth" "I") ∈ ps_W := ps_in5 87 rfl rfl
theorem ps_w5_89 : (Jvm.Cond.methodLink "PictureStudio" (195 : Nat) ({ cls := "PictureStudio$Layer", name := "again", desc := "()LPictureStudio$Layer;" } : Jvm.MethodName)) ∈ ps_W := ps_in5 89 rfl rfl
theorem ps_w5_90 : (Jvm.Cond.instanceMethod ({ cls := "PictureStudio$Layer", name := "again", desc := "()LPictureStudio$Layer;" } : Jvm.MethodName)) ∈ ps_W := ps_in5 90 rfl rfl
theorem ps_w5_91 : (Jvm.Cond.selects "PictureStudio$Layer" ({ cls := "PictureStudio$Layer", name := "again", desc := "()LPictureStudio$Layer;" } : Jvm.MethodName) ({ cls := "PictureStudio$Layer", name := "again", desc := "()LPictureStudio$Layer;" } : Jvm.MethodName)) ∈ ps_W := ps_in5 91 rfl rfl
theorem ps_w5_92 : (Jvm.Cond.code ({ cls := "PictureStudio$Layer", name := "again", desc := "()LPictureStudio$Layer;" } : Jvm.MethodName) prog_6_method_3_code (1 : Nat) (Option.some (Jvm.ClassFile.FieldType.object "PictureStudio$Layer"))) ∈ ps_W := ps_in5 92 rfl rfl
theorem ps_w5_93 : (Jvm.Cond.classLink "PictureStudio$Layer" (10 : Nat) "PictureStudio$Layer") ∈ ps_W := ps_in5 93 rfl rfl
theorem ps_w5_94 : (Jvm.Cond.methodLink "PictureStudio$Layer" (68 : Nat) ({ cls := "PictureStudio$Layer", name := "<init>", desc := "(LPictureStudio$Layer;)V" } : Jvm.MethodName)) ∈ ps_W := ps_in5 94 rfl rfl
theorem ps_w5_95 : (Jvm.Cond.instanceMethod ({ cls := "PictureStudio$Layer", name := "<init>", desc := "(LPictureStudio$Layer;)V" } : Jvm.MethodName)) ∈ ps_W := ps_in5 95 rfl rfl
theorem ps_w5_96 : (Jvm.Cond.code ({ cls := "PictureStudio$Layer", name := "<init>", desc := "(LPictureStudio$Layer;)V" } : Jvm.MethodName) prog_6_method_2_code (2 : Nat) (Option.none : Option Jvm.ClassFile.FieldType)) ∈ ps_W := ps_in5 96 rfl rfl
theorem ps_w5_97 : (Jvm.Cond.methodLink "PictureStudioLaw" (202 : Nat) ({ cls := "PictureStudioLaw", name := "set", desc := "(LPictureStudio;III)I" } : Jvm.MethodName)) ∈ ps_W := ps_in5 97 rfl rfl
theorem ps_w5_98 : (Jvm.Cond.static ({ cls := "PictureStudioLaw", name := "set", desc := "(LPictureStudio;III)I" } : Jvm.MethodName)) ∈ ps_W := ps_in5 98 rfl rfl
theorem ps_w5_99 : (Jvm.Cond.codeWith ({ cls := "PictureStudioLaw", name := "set", desc := "(LPictureStudio;III)I" } : Jvm.MethodName) method_9_code (5 : Nat) (Option.some Jvm.ClassFile.FieldType.int) [((0 : Nat), (7 : Nat), (10 : Nat), (19 : Nat)), ((0 : Nat), (7 : Nat), (14 : Nat), (29 : Nat))]) ∈ ps_W := ps_in5 99 rfl rfl
theorem ps_w5_100 : (Jvm.Cond.methodLink "PictureStudioLaw" (41 : Nat) ({ cls := "PictureStudio", name := "set", desc := "(III)V" } : Jvm.MethodName)) ∈ ps_W := ps_in5 100 rfl rfl
theorem ps_w5_101 : (Jvm.Cond.instanceMethod ({ cls := "PictureStudio", name := "set", desc := "(III)V" } : Jvm.MethodName)) ∈ ps_W := ps_in5 101 rfl rfl
theorem ps_w5_102 : (Jvm.Cond.selects "PictureStudio" ({ cls := "PictureStudio", name := "set", desc := "(III)V" } : Jvm.MethodName) ({ cls := "PictureStudio", name := "set", desc := "(III)V" } : Jvm.MethodName)) ∈ ps_W := ps_in5 102 rfl rfl
theorem ps_w5_103 : (Jvm.Cond.code ({ cls := "PictureStudio", name := "set", desc := "(III)V" } : Jvm.MethodName) prog_1_method_28_code (5 : Nat) (Option.none : Option Jvm.ClassFile.FieldType)) ∈ ps_W := ps_in5 103 rfl rfl
theorem ps_w5_104 : (Jvm.Cond.methodLink "PictureStudio" (198 : Nat) ({ cls := "PictureStudio", name := "replaceLayer", desc := "(LPictureStudio$Layer;)V" } : Jvm.MethodName)) ∈ ps_W := ps_in5 104 rfl rfl
theorem ps_w5_106 : (Jvm.Cond.instanceMethod ({ cls := "PictureStudio", name := "replaceLayer", desc := "(LPictureStudio$Layer;)V" } : Jvm.MethodName)) ∈ ps_W := ps_in5 106 rfl rfl
theorem ps_w5_107 : (Jvm.Cond.code ({ cls := "PictureStudio", name := "replaceLayer", desc := "(LPictureStudio$Layer;)V" } : Jvm.MethodName) prog_1_method_17_code (3 : Nat) (Option.none : Option Jvm.ClassFile.FieldType)) ∈ ps_W := ps_in5 107 rfl rfl
theorem ps_w5_108 : (Jvm.Cond.methodLink "PictureStudio" (188 : Nat) ({ cls := "PictureStudio$Stand", name := "exchange", desc := "(LPictureStudio$Layer;)V" } : Jvm.MethodName)) ∈ ps_W := ps_in5 108 rfl rfl
theorem ps_w5_109 : (Jvm.Cond.methodLink "PictureStudioLaw" (205 : Nat) ({ cls := "PictureStudioLaw", name := "mask", desc := "(LPictureStudio;II)I" } : Jvm.MethodName)) ∈ ps_W := ps_in5 109 rfl rfl
theorem ps_w5_110 : (Jvm.Cond.static ({ cls := "PictureStudioLaw", name := "mask", desc := "(LPictureStudio;II)I" } : Jvm.MethodName)) ∈ ps_W := ps_in5 110 rfl rfl
theorem ps_w5_111 : (Jvm.Cond.codeWith ({ cls := "PictureStudioLaw", name := "mask", desc := "(LPictureStudio;II)I" } : Jvm.MethodName) method_10_code (4 : Nat) (Option.some Jvm.ClassFile.FieldType.int) [((0 : Nat), (6 : Nat), (9 : Nat), (19 : Nat)), ((0 : Nat), (6 : Nat), (12 : Nat), (29 : Nat)), ((0 : Nat), (6 : Nat), (15 : Nat), (39 : Nat))]) ∈ ps_W := ps_in5 111 rfl rfl
theorem ps_w5_112 : (Jvm.Cond.methodLink "PictureStudioLaw" (44 : Nat) ({ cls := "PictureStudio", name := "mask", desc := "(II)V" } : Jvm.MethodName)) ∈ ps_W := ps_in5 112 rfl rfl
theorem ps_w5_113 : (Jvm.Cond.instanceMethod ({ cls := "PictureStudio", name := "mask", desc := "(II)V" } : Jvm.MethodName)) ∈ ps_W := ps_in5 113 rfl rfl
theorem ps_w5_114 : (Jvm.Cond.selects "PictureStudio" ({ cls := "PictureStudio", name := "mask", desc := "(II)V" } : Jvm.MethodName) ({ cls := "PictureStudio", name := "mask", desc := "(II)V" } : Jvm.MethodName)) ∈ ps_W := ps_in5 114 rfl rfl
theorem ps_w5_115 : (Jvm.Cond.code ({ cls := "PictureStudio", name := "mask", desc := "(II)V" } : Jvm.MethodName) prog_1_method_29_code (6 : Nat) (Option.none : Option Jvm.ClassFile.FieldType)) ∈ ps_W := ps_in5 115 rfl rfl
theorem ps_w5_116 : (Jvm.Cond.fieldLink "PictureStudio" (287 : Nat) "PictureStudio" "NONE" "[I") ∈ ps_W := ps_in5 116 rfl rfl
theorem ps_w5_117 : (Jvm.Cond.methodLink "PictureStudioLaw" (208 : Nat) ({ cls := "PictureStudioLaw", name := "colours", desc := "(LPictureStudio;III)I" } : Jvm.MethodName)) ∈ ps_W := ps_in5 117 rfl rfl
theorem ps_w5_118 : (Jvm.Cond.static ({ cls := "PictureStudioLaw", name := "colours", desc := "(LPictureStudio;III)I" } : Jvm.MethodName)) ∈ ps_W := ps_in5 118 rfl rfl
theorem ps_w5_119 : (Jvm.Cond.codeWith ({ cls := "PictureStudioLaw", name := "colours", desc := "(LPictureStudio;III)I" } : Jvm.MethodName) method_11_code (5 : Nat) (Option.some Jvm.ClassFile.FieldType.int) [((0 : Nat), (7 : Nat), (10 : Nat), (19 : Nat)), ((0 : Nat), (7 : Nat), (14 : Nat), (29 : Nat))]) ∈ ps_W := ps_in5 119 rfl rfl
theorem ps_w5_120 : (Jvm.Cond.methodLink "PictureStudioLaw" (47 : Nat) ({ cls := "PictureStudio", name := "colours", desc := "(III)V" } : Jvm.MethodName)) ∈ ps_W := ps_in5 120 rfl rfl
theorem ps_w5_121 : (Jvm.Cond.instanceMethod ({ cls := "PictureStudio", name := "colours", desc := "(III)V" } : Jvm.MethodName)) ∈ ps_W := ps_in5 121 rfl rfl
theorem ps_w5_122 : (Jvm.Cond.selects "PictureStudio" ({ cls := "PictureStudio", name := "colours", desc := "(III)V" } : Jvm.MethodName) ({ cls := "PictureStudio", name := "colours", desc := "(III)V" } : Jvm.MethodName)) ∈ ps_W := ps_in5 122 rfl rfl
theorem ps_w5_123 : (Jvm.Cond.code ({ cls := "PictureStudio", name := "colours", desc := "(III)V" } : Jvm.MethodName) prog_1_method_30_code (6 : Nat) (Option.none : Option Jvm.ClassFile.FieldType)) ∈ ps_W := ps_in5 123 rfl rfl
theorem ps_w5_124 : (Jvm.Cond.methodLink "PictureStudio" (293 : Nat) ({ cls := "PictureStudio", name := "needFilter", desc := "(II)V" } : Jvm.MethodName)) ∈ ps_W := ps_in5 124 rfl rfl
theorem ps_w5_125 : (Jvm.Cond.static ({ cls := "PictureStudio", name := "needFilter", desc := "(II)V" } : Jvm.MethodName)) ∈ ps_W := ps_in5 125 rfl rfl
theorem ps_w5_126 : (Jvm.Cond.code ({ cls := "PictureStudio", name := "needFilter", desc := "(II)V" } : Jvm.MethodName) prog_1_method_31_code (2 : Nat) (Option.none : Option Jvm.ClassFile.FieldType)) ∈ ps_W := ps_in5 126 rfl rfl
theorem ps_w5_127 : (Jvm.Cond.methodLink "PictureStudio" (302 : Nat) ({ cls := "PictureStudio$Looks", name := "leastAmount", desc := "(I)I" } : Jvm.MethodName)) ∈ ps_W := ps_in5 127 rfl rfl
theorem ps_w5_128 : (Jvm.Cond.static ({ cls := "PictureStudio$Looks", name := "leastAmount", desc := "(I)I" } : Jvm.MethodName)) ∈ ps_W := ps_in5 128 rfl rfl
theorem ps_w5_129 : (Jvm.Cond.code ({ cls := "PictureStudio$Looks", name := "leastAmount", desc := "(I)I" } : Jvm.MethodName) prog_7_method_2_code (1 : Nat) (Option.some Jvm.ClassFile.FieldType.int)) ∈ ps_W := ps_in5 129 rfl rfl
theorem ps_w5_130 : (Jvm.Cond.methodLink "PictureStudio" (305 : Nat) ({ cls := "PictureStudio$Looks", name := "greatestAmount", desc := "(I)I" } : Jvm.MethodName)) ∈ ps_W := ps_in5 130 rfl rfl
theorem ps_w5_131 : (Jvm.Cond.static ({ cls := "PictureStudio$Looks", name := "greatestAmount", desc := "(I)I" } : Jvm.MethodName)) ∈ ps_W := ps_in5 131 rfl rfl
theorem ps_w5_132 : (Jvm.Cond.code ({ cls := "PictureStudio$Looks", name := "greatestAmount", desc := "(I)I" } : Jvm.MethodName) prog_7_method_3_code (1 : Nat) (Option.some Jvm.ClassFile.FieldType.int)) ∈ ps_W := ps_in5 132 rfl rfl
theorem ps_w5_133 : (Jvm.Cond.methodLink "PictureStudioLaw" (211 : Nat) ({ cls := "PictureStudioLaw", name := "ramp", desc := "(LPictureStudio;IIIII)I" } : Jvm.MethodName)) ∈ ps_W := ps_in5 133 rfl rfl
theorem ps_w5_134 : (Jvm.Cond.static ({ cls := "PictureStudioLaw", name := "ramp", desc := "(LPictureStudio;IIIII)I" } : Jvm.MethodName)) ∈ ps_W := ps_in5 134 rfl rfl
theorem ps_w5_135 : (Jvm.Cond.codeWith ({ cls := "PictureStudioLaw", name := "ramp", desc := "(LPictureStudio;IIIII)I" } : Jvm.MethodName) method_12_code (7 : Nat) (Option.some Jvm.ClassFile.FieldType.int) [((0 : Nat), (11 : Nat), (14 : Nat), (19 : Nat)), ((0 : Nat), (11 : Nat), (18 : Nat), (29 : Nat))]) ∈ ps_W := ps_in5 135 rfl rfl
theorem ps_w5_136 : (Jvm.Cond.methodLink "PictureStudioLaw" (50 : Nat) ({ cls := "PictureStudio", name := "ramp", desc := "(IIIII)V" } : Jvm.MethodName)) ∈ ps_W := ps_in5 136 rfl rfl
theorem ps_w5_137 : (Jvm.Cond.instanceMethod ({ cls := "PictureStudio", name := "ramp", desc := "(IIIII)V" } : Jvm.MethodName)) ∈ ps_W := ps_in5 137 rfl rfl
theorem ps_w5_138 : (Jvm.Cond.selects "PictureStudio" ({ cls := "PictureStudio", name := "ramp", desc := "(IIIII)V" } : Jvm.MethodName) ({ cls := "PictureStudio", name := "ramp", desc := "(IIIII)V" } : Jvm.MethodName)) ∈ ps_W := ps_in5 138 rfl rfl
theorem ps_w5_139 : (Jvm.Cond.code ({ cls := "PictureStudio", name := "ramp", desc := "(IIIII)V" } : Jvm.MethodName) prog_1_method_32_code (8 : Nat) (Option.none : Option Jvm.ClassFile.FieldType)) ∈ ps_W := ps_in5 139 rfl rfl
theorem ps_w5_140 : (Jvm.Cond.methodLink "PictureStudioLaw" (215 : Nat) ({ cls := "PictureStudioLaw", name := "turn", desc := "(LPictureStudio;II)I" } : Jvm.MethodName)) ∈ ps_W := ps_in5 140 rfl rfl
theorem ps_w5_141 : (Jvm.Cond.static ({ cls := "PictureStudioLaw", name := "turn", desc := "(LPictureStudio;II)I" } : Jvm.MethodName)) ∈ ps_W := ps_in5 141 rfl rfl
theorem ps_w5_142 : (Jvm.Cond.codeWith ({ cls := "PictureStudioLaw", name := "turn", desc := "(LPictureStudio;II)I" } : Jvm.MethodName) method_13_code (4 : Nat) (Option.some Jvm.ClassFile.FieldType.int) [((0 : Nat), (6 : Nat), (9 : Nat), (19 : Nat)), ((0 : Nat), (6 : Nat), (12 : Nat), (29 : Nat)), ((0 : Nat), (6 : Nat), (15 : Nat), (39 : Nat))]) ∈ ps_W := ps_in5 142 rfl rfl
theorem ps_w5_143 : (Jvm.Cond.methodLink "PictureStudioLaw" (54 : Nat) ({ cls := "PictureStudio", name := "turn", desc := "(II)V" } : Jvm.MethodName)) ∈ ps_W := ps_in5 143 rfl rfl
theorem ps_w5_144 : (Jvm.Cond.instanceMethod ({ cls := "PictureStudio", name := "turn", desc := "(II)V" } : Jvm.MethodName)) ∈ ps_W := ps_in5 144 rfl rfl
theorem ps_w5_145 : (Jvm.Cond.selects "PictureStudio" ({ cls := "PictureStudio", name := "turn", desc := "(II)V" } : Jvm.MethodName) ({ cls := "PictureStudio", name := "turn", desc := "(II)V" } : Jvm.MethodName)) ∈ ps_W := ps_in5 145 rfl rfl
theorem ps_w5_146 : (Jvm.Cond.code ({ cls := "PictureStudio", name := "turn", desc := "(II)V" } : Jvm.MethodName) prog_1_method_33_code (9 : Nat) (Option.none : Option Jvm.ClassFile.FieldType)) ∈ ps_W := ps_in5 146 rfl rfl
theorem ps_w5_147 : (Jvm.Cond.methodLink "PictureStudio" (320 : Nat) ({ cls := "PictureStudio", name := "knownPixels", desc := "(I)LPictureStudio$Layer;" } : Jvm.MethodName)) ∈ ps_W := ps_in5 147 rfl rfl
theorem ps_w5_149 : (Jvm.Cond.instanceMethod ({ cls := "PictureStudio", name := "knownPixels", desc := "(I)LPictureStudio$Layer;" } : Jvm.MethodName)) ∈ ps_W := ps_in5 149 rfl rfl
theorem ps_w5_150 : (Jvm.Cond.code ({ cls := "PictureStudio", name := "knownPixels", desc := "(I)LPictureStudio$Layer;" } : Jvm.MethodName) prog_1_method_10_code (3 : Nat) (Option.some (Jvm.ClassFile.FieldType.object "PictureStudio$Layer"))) ∈ ps_W := ps_in5 150 rfl rfl
theorem ps_w5_152 : (Jvm.Cond.methodLink "PictureStudio" (323 : Nat) ({ cls := "PictureStudio$Layer", name := "own", desc := "(IIII)I" } : Jvm.MethodName)) ∈ ps_W := ps_in5 152 rfl rfl
theorem ps_w5_153 : (Jvm.Cond.methodLink "PictureStudio" (327 : Nat) ({ cls := "PictureStudio", name := "replacePixels", desc := "(LPictureStudio$Layer;[I)V" } : Jvm.MethodName)) ∈ ps_W := ps_in5 153 rfl rfl
theorem ps_w5_155 : (Jvm.Cond.instanceMethod ({ cls := "PictureStudio", name := "replacePixels", desc := "(LPictureStudio$Layer;[I)V" } : Jvm.MethodName)) ∈ ps_W := ps_in5 155 rfl rfl
theorem ps_w5_156 : (Jvm.Cond.code ({ cls := "PictureStudio", name := "replacePixels", desc := "(LPictureStudio$Layer;[I)V" } : Jvm.MethodName) prog_1_method_18_code (4 : Nat) (Option.none : Option Jvm.ClassFile.FieldType)) ∈ ps_W := ps_in5 156 rfl rfl
theorem ps_w5_157 : (Jvm.Cond.methodLink "PictureStudioLaw" (218 : Nat) ({ cls := "PictureStudioLaw", name := "scale", desc := "(LPictureStudio;IIIZ)I" } : Jvm.MethodName)) ∈ ps_W := ps_in5 157 rfl rfl
theorem ps_w5_158 : (Jvm.Cond.static ({ cls := "PictureStudioLaw", name := "scale", desc := "(LPictureStudio;IIIZ)I" } : Jvm.MethodName)) ∈ ps_W := ps_in5 158 rfl rfl
theorem ps_w5_159 : (Jvm.Cond.codeWith ({ cls := "PictureStudioLaw", name := "scale", desc := "(LPictureStudio;IIIZ)I" } : Jvm.MethodName) method_14_code (6 : Nat) (Option.some Jvm.ClassFile.FieldType.int) [((0 : Nat), (9 : Nat), (12 : Nat), (19 : Nat)), ((0 : Nat), (9 : Nat), (16 : Nat), (29 : Nat))]) ∈ ps_W := ps_in5 159 rfl rfl
theorem ps_w5_160 : (Jvm.Cond.methodLink "PictureStudioLaw" (57 : Nat) ({ cls := "PictureStudio", name := "scale", desc := "(IIIZ)V" } : Jvm.MethodName)) ∈ ps_W := ps_in5 160 rfl rfl
theorem ps_w5_161 : (Jvm.Cond.instanceMethod ({ cls := "PictureStudio", name := "scale", desc := "(IIIZ)V" } : Jvm.MethodName)) ∈ ps_W := ps_in5 161 rfl rfl
theorem ps_w5_162 : (Jvm.Cond.selects "PictureStudio" ({ cls := "PictureStudio", name := "scale", desc := "(IIIZ)V" } : Jvm.MethodName) ({ cls := "PictureStudio", name := "scale", desc := "(IIIZ)V" } : Jvm.MethodName)) ∈ ps_W := ps_in5 162 rfl rfl
theorem ps_w5_163 : (Jvm.Cond.code ({ cls := "PictureStudio", name := "scale", desc := "(IIIZ)V" } : Jvm.MethodName) prog_1_method_34_code (11 : Nat) (Option.none : Option Jvm.ClassFile.FieldType)) ∈ ps_W := ps_in5 163 rfl rfl
theorem ps_w5_164 : (Jvm.Cond.methodLink "PictureStudio" (331 : Nat) ({ cls := "PictureStudio$Layer", name := "between", desc := "(IIII)I" } : Jvm.MethodName)) ∈ ps_W := ps_in5 164 rfl rfl
theorem ps_w5_165 : (Jvm.Cond.instanceMethod ({ cls := "PictureStudio$Layer", name := "between", desc := "(IIII)I" } : Jvm.MethodName)) ∈ ps_W := ps_in5 165 rfl rfl
theorem ps_w5_166 : (Jvm.Cond.selects "PictureStudio$Layer" ({ cls := "PictureStudio$Layer", name := "between", desc := "(IIII)I" } : Jvm.MethodName) ({ cls := "PictureStudio$Layer", name := "between", desc := "(IIII)I" } : Jvm.MethodName)) ∈ ps_W := ps_in5 166 rfl rfl
theorem ps_w5_167 : (Jvm.Cond.code ({ cls := "PictureStudio$Layer", name := "between", desc := "(IIII)I" } : Jvm.MethodName) prog_6_method_6_code (16 : Nat) (Option.some Jvm.ClassFile.FieldType.int)) ∈ ps_W := ps_in5 167 rfl rfl
theorem ps_w5_168 : (Jvm.Cond.methodLink "PictureStudio$Layer" (71 : Nat) ({ cls := "PictureStudio$Layer", name := "own", desc := "(IIII)I" } : Jvm.MethodName)) ∈ ps_W := ps_in5 168 rfl rfl
theorem ps_w5_173 : (Jvm.Cond.methodLink "PictureStudioLaw" (222 : Nat) ({ cls := "PictureStudioLaw", name := "flat", desc := "(LPictureStudio;I)I" } : Jvm.MethodName)) ∈ ps_W := ps_in5 173 rfl rfl
theorem ps_w5_174 : (Jvm.Cond.static ({ cls := "PictureStudioLaw", name := "flat", desc := "(LPictureStudio;I)I" } : Jvm.MethodName)) ∈ ps_W := ps_in5 174 rfl rfl
theorem ps_w5_175 : (Jvm.Cond.codeWith ({ cls := "PictureStudioLaw", name := "flat", desc := "(LPictureStudio;I)I" } : Jvm.MethodName) method_15_code (3 : Nat) (Option.some Jvm.ClassFile.FieldType.int) [((0 : Nat), (5 : Nat), (8 : Nat), (29 : Nat)), ((0 : Nat), (5 : Nat), (11 : Nat), (39 : Nat))]) ∈ ps_W := ps_in5 175 rfl rfl
theorem ps_w5_176 : (Jvm.Cond.methodLink "PictureStudioLaw" (61 : Nat) ({ cls := "PictureStudio", name := "flat", desc := "(I)V" } : Jvm.MethodName)) ∈ ps_W := ps_in5 176 rfl rfl
theorem ps_w5_177 : (Jvm.Cond.instanceMethod ({ cls := "PictureStudio", name := "flat", desc := "(I)V" } : Jvm.MethodName)) ∈ ps_W := ps_in5 177 rfl rfl
theorem ps_w5_178 : (Jvm.Cond.selects "PictureStudio" ({ cls := "PictureStudio", name := "flat", desc := "(I)V" } : Jvm.MethodName) ({ cls := "PictureStudio", name := "flat", desc := "(I)V" } : Jvm.MethodName)) ∈ ps_W := ps_in5 178 rfl rfl
theorem ps_w5_179 : (Jvm.Cond.code ({ cls := "PictureStudio", name := "flat", desc := "(I)V" } : Jvm.MethodName) prog_1_method_35_code (6 : Nat) (Option.none : Option Jvm.ClassFile.FieldType)) ∈ ps_W := ps_in5 179 rfl rfl
theorem ps_w5_180 : (Jvm.Cond.methodLink "PictureStudio" (334 : Nat) ({ cls := "PictureStudio$Viewer", name := "together", desc := "(LPictureStudio$Stand;LPictureStudio$Layer;LPictureStudio$Layer;)[I" } : Jvm.MethodName)) ∈ ps_W := ps_in5 180 rfl rfl
theorem ps_w5_181 : (Jvm.Cond.instanceMethod ({ cls := "PictureStudio$Viewer", name := "together", desc := "(LPictureStudio$Stand;LPictureStudio$Layer;LPictureStudio$Layer;)[I" } : Jvm.MethodName)) ∈ ps_W := ps_in5 181 rfl rfl
theorem ps_w5_182 : (Jvm.Cond.selects "PictureStudio$Viewer" ({ cls := "PictureStudio$Viewer", name := "together", desc := "(LPictureStudio$Stand;LPictureStudio$Layer;LPictureStudio$Layer;)[I" } : Jvm.MethodName) ({ cls := "PictureStudio$Viewer", name := "together", desc := "(LPictureStudio$Stand;LPictureStudio$Layer;LPictureStudio$Layer;)[I" } : Jvm.MethodName)) ∈ ps_W := ps_in5 182 rfl rfl
theorem ps_w5_183 : (Jvm.Cond.code ({ cls := "PictureStudio$Viewer", name := "together", desc := "(LPictureStudio$Stand;LPictureStudio$Layer;LPictureStudio$Layer;)[I" } : Jvm.MethodName) prog_12_method_10_code (4 : Nat) (Option.some (Jvm.ClassFile.FieldType.array Jvm.ClassFile.FieldType.int))) ∈ ps_W := ps_in5 183 rfl rfl
theorem ps_w5_184 : (Jvm.Cond.methodLink "PictureStudio$Viewer" (78 : Nat) ({ cls := "[I", name := "clone", desc := "()Ljava/lang/Object;" } : Jvm.MethodName)) ∈ ps_W := ps_in5 184 rfl rfl
theorem ps_w5_185 : (Jvm.Cond.sameMethod "[I" "java/lang/Object" "clone" "()Ljava/lang/Object;") ∈ ps_W := ps_in5 185 rfl rfl
theorem ps_w5_186 : (Jvm.Cond.native ({ cls := "java/lang/Object", name := "clone", desc := "()Ljava/lang/Object;" } : Jvm.MethodName)) ∈ ps_W := ps_in5 186 rfl rfl
theorem ps_w5_187 : (Jvm.Cond.instanceMethod ({ cls := "java/lang/Object", name := "clone", desc := "()Ljava/lang/Object;" } : Jvm.MethodName)) ∈ ps_W := ps_in5 187 rfl rfl
theorem ps_w5_188 : (Jvm.Cond.selects "[I" ({ cls := "[I", name := "clone", desc := "()Ljava/lang/Object;" } : Jvm.MethodName) ({ cls := "java/lang/Object", name := "clone", desc := "()Ljava/lang/Object;" } : Jvm.MethodName)) ∈ ps_W := ps_in5 188 rfl rfl
theorem ps_w5_190 : (Jvm.Cond.classLink "PictureStudio$Viewer" (79 : Nat) "[I") ∈ ps_W := ps_in5 190 rfl rfl
theorem ps_w5_191 : (Jvm.Cond.methodLink "PictureStudio" (338 : Nat) ({ cls := "PictureStudio$Layer", name := "flattened", desc := "([I)LPictureStudio$Layer;" } : Jvm.MethodName)) ∈ ps_W := ps_in5 191 rfl rfl
theorem ps_w5_192 : (Jvm.Cond.instanceMethod ({ cls := "PictureStudio$Layer", name := "flattened", desc := "([I)LPictureStudio$Layer;" } : Jvm.MethodName)) ∈ ps_W := ps_in5 192 rfl rfl
theorem ps_w5_193 : (Jvm.Cond.selects "PictureStudio$Layer" ({ cls := "PictureStudio$Layer", name := "flattened", desc := "([I)LPictureStudio$Layer;" } : Jvm.MethodName) ({ cls := "PictureStudio$Layer", name := "flattened", desc := "([I)LPictureStudio$Layer;" } : Jvm.MethodName)) ∈ ps_W := ps_in5 193 rfl rfl
theorem ps_w5_194 : (Jvm.Cond.code ({ cls := "PictureStudio$Layer", name := "flattened", desc := "([I)LPictureStudio$Layer;" } : Jvm.MethodName) prog_6_method_4_code (3 : Nat) (Option.some (Jvm.ClassFile.FieldType.object "PictureStudio$Layer"))) ∈ ps_W := ps_in5 194 rfl rfl
theorem ps_w5_195 : (Jvm.Cond.methodLink "PictureStudioLaw" (225 : Nat) ({ cls := "PictureStudioLaw", name := "fill", desc := "(LPictureStudio;II[J)I" } : Jvm.MethodName)) ∈ ps_W := ps_in5 195 rfl rfl
theorem ps_w5_196 : (Jvm.Cond.static ({ cls := "PictureStudioLaw", name := "fill", desc := "(LPictureStudio;II[J)I" } : Jvm.MethodName)) ∈ ps_W := ps_in5 196 rfl rfl
theorem ps_w5_197 : (Jvm.Cond.codeWith ({ cls := "PictureStudioLaw", name := "fill", desc := "(LPictureStudio;II[J)I" } : Jvm.MethodName) method_16_code (5 : Nat) (Option.some Jvm.ClassFile.FieldType.int) [((0 : Nat), (10 : Nat), (13 : Nat), (19 : Nat)), ((0 : Nat), (10 : Nat), (17 : Nat), (29 : Nat))]) ∈ ps_W := ps_in5 197 rfl rfl
theorem ps_w5_198 : (Jvm.Cond.methodLink "PictureStudioLaw" (64 : Nat) ({ cls := "PictureStudio", name := "fill", desc := "(II)I" } : Jvm.MethodName)) ∈ ps_W := ps_in5 198 rfl rfl
theorem ps_w5_199 : (Jvm.Cond.instanceMethod ({ cls := "PictureStudio", name := "fill", desc := "(II)I" } : Jvm.MethodName)) ∈ ps_W := ps_in5 199 rfl rfl
theorem ps_w5_200 : (Jvm.Cond.selects "PictureStudio" ({ cls := "PictureStudio", name := "fill", desc := "(II)I" } : Jvm.MethodName) ({ cls := "PictureStudio", name := "fill", desc := "(II)I" } : Jvm.MethodName)) ∈ ps_W := ps_in5 200 rfl rfl
theorem ps_w5_201 : (Jvm.Cond.code ({ cls := "PictureStudio", name := "fill", desc := "(II)I" } : Jvm.MethodName) prog_1_method_38_code (8 : Nat) (Option.some Jvm.ClassFile.FieldType.int)) ∈ ps_W := ps_in5 201 rfl rfl
theorem ps_w5_202 : (Jvm.Cond.methodLink "PictureStudio" (355 : Nat) ({ cls := "PictureStudio$Area", name := "at", desc := "(II)I" } : Jvm.MethodName)) ∈ ps_W := ps_in5 202 rfl rfl
theorem ps_w5_203 : (Jvm.Cond.instanceMethod ({ cls := "PictureStudio$Area", name := "at", desc := "(II)I" } : Jvm.MethodName)) ∈ ps_W := ps_in5 203 rfl rfl
theorem ps_w5_204 : (Jvm.Cond.selects "PictureStudio$Area" ({ cls := "PictureStudio$Area", name := "at", desc := "(II)I" } : Jvm.MethodName) ({ cls := "PictureStudio$Area", name := "at", desc := "(II)I" } : Jvm.MethodName)) ∈ ps_W := ps_in5 204 rfl rfl
theorem ps_w5_205 : (Jvm.Cond.code ({ cls := "PictureStudio$Area", name := "at", desc := "(II)I" } : Jvm.MethodName) prog_2_method_3_code (3 : Nat) (Option.some Jvm.ClassFile.FieldType.int)) ∈ ps_W := ps_in5 205 rfl rfl
theorem ps_w5_206 : (Jvm.Cond.methodLink "PictureStudio" (358 : Nat) ({ cls := "PictureStudio", name := "put", desc := "(IIII)I" } : Jvm.MethodName)) ∈ ps_W := ps_in5 206 rfl rfl
theorem ps_w5_207 : (Jvm.Cond.static ({ cls := "PictureStudio", name := "put", desc := "(IIII)I" } : Jvm.MethodName)) ∈ ps_W := ps_in5 207 rfl rfl
theorem ps_w5_208 : (Jvm.Cond.code ({ cls := "PictureStudio", name := "put", desc := "(IIII)I" } : Jvm.MethodName) prog_1_method_86_code (5 : Nat) (Option.some Jvm.ClassFile.FieldType.int)) ∈ ps_W := ps_in5 208 rfl rfl
theorem ps_w5_209 : (Jvm.Cond.methodLink "PictureStudio" (626 : Nat) ({ cls := "PictureStudio", name := "blend", desc := "(IIII)I" } : Jvm.MethodName)) ∈ ps_W := ps_in5 209 rfl rfl
theorem ps_w5_210 : (Jvm.Cond.constant "PictureStudio" (629 : Nat) (16777215 : Int32)) ∈ ps_W := ps_in5 210 rfl rfl
theorem ps_w5_211 : (Jvm.Cond.methodLink "PictureStudio" (388 : Nat) ({ cls := "PictureStudio", name := "mixColours", desc := "(III)I" } : Jvm.MethodName)) ∈ ps_W := ps_in5 211 rfl rfl
theorem ps_w5_212 : (Jvm.Cond.methodLink "PictureStudio" (361 : Nat) ({ cls := "PictureStudio", name := "repaint", desc := "(LPictureStudio$Layer;[I)I" } : Jvm.MethodName)) ∈ ps_W := ps_in5 212 rfl rfl
theorem ps_w5_214 : (Jvm.Cond.instanceMethod ({ cls := "PictureStudio", name := "repaint", desc := "(LPictureStudio$Layer;[I)I" } : Jvm.MethodName)) ∈ ps_W := ps_in5 214 rfl rfl
theorem ps_w5_215 : (Jvm.Cond.code ({ cls := "PictureStudio", name := "repaint", desc := "(LPictureStudio$Layer;[I)I" } : Jvm.MethodName) prog_1_method_19_code (12 : Nat) (Option.some Jvm.ClassFile.FieldType.int)) ∈ ps_W := ps_in5 215 rfl rfl
theorem ps_w5_216 : (Jvm.Cond.methodLink "PictureStudio" (220 : Nat) ({ cls := "PictureStudio$Viewer", name := "forgetBox", desc := "(IIII)V" } : Jvm.MethodName)) ∈ ps_W := ps_in5 216 rfl rfl
theorem ps_w5_217 : (Jvm.Cond.instanceMethod ({ cls := "PictureStudio$Viewer", name := "forgetBox", desc := "(IIII)V" } : Jvm.MethodName)) ∈ ps_W := ps_in5 217 rfl rfl
theorem ps_w5_218 : (Jvm.Cond.selects "PictureStudio$Viewer" ({ cls := "PictureStudio$Viewer", name := "forgetBox", desc := "(IIII)V" } : Jvm.MethodName) ({ cls := "PictureStudio$Viewer", name := "forgetBox", desc := "(IIII)V" } : Jvm.MethodName)) ∈ ps_W := ps_in5 218 rfl rfl
theorem ps_w5_219 : (Jvm.Cond.code ({ cls := "PictureStudio$Viewer", name := "forgetBox", desc := "(IIII)V" } : Jvm.MethodName) prog_12_method_3_code (8 : Nat) (Option.none : Option Jvm.ClassFile.FieldType)) ∈ ps_W := ps_in5 219 rfl rfl
theorem ps_w5_220 : (Jvm.Cond.methodLink "PictureStudioLaw" (229 : Nat) ({ cls := "PictureStudioLaw", name := "merge", desc := "(LPictureStudio;I)I" } : Jvm.MethodName)) ∈ ps_W := ps_in5 220 rfl rfl
theorem ps_w5_221 : (Jvm.Cond.static ({ cls := "PictureStudioLaw", name := "merge", desc := "(LPictureStudio;I)I" } : Jvm.MethodName)) ∈ ps_W := ps_in5 221 rfl rfl
theorem ps_w5_222 : (Jvm.Cond.codeWith ({ cls := "PictureStudioLaw", name := "merge", desc := "(LPictureStudio;I)I" } : Jvm.MethodName) method_17_code (3 : Nat) (Option.some Jvm.ClassFile.FieldType.int) [((0 : Nat), (5 : Nat), (8 : Nat), (29 : Nat)), ((0 : Nat), (5 : Nat), (11 : Nat), (39 : Nat))]) ∈ ps_W := ps_in5 222 rfl rfl
theorem ps_w5_223 : (Jvm.Cond.methodLink "PictureStudioLaw" (68 : Nat) ({ cls := "PictureStudio", name := "merge", desc := "(I)V" } : Jvm.MethodName)) ∈ ps_W := ps_in5 223 rfl rfl
theorem ps_w5_224 : (Jvm.Cond.instanceMethod ({ cls := "PictureStudio", name := "merge", desc := "(I)V" } : Jvm.MethodName)) ∈ ps_W := ps_in5 224 rfl rfl
theorem ps_w5_225 : (Jvm.Cond.selects "PictureStudio" ({ cls := "PictureStudio", name := "merge", desc := "(I)V" } : Jvm.MethodName) ({ cls := "PictureStudio", name := "merge", desc := "(I)V" } : Jvm.MethodName)) ∈ ps_W := ps_in5 225 rfl rfl
theorem ps_w5_226 : (Jvm.Cond.code ({ cls := "PictureStudio", name := "merge", desc := "(I)V" } : Jvm.MethodName) prog_1_method_36_code (4 : Nat) (Option.none : Option Jvm.ClassFile.FieldType)) ∈ ps_W := ps_in5 226 rfl rfl
theorem ps_w5_227 : (Jvm.Cond.methodLink "PictureStudio" (342 : Nat) ({ cls := "PictureStudio$Stand", name := "below", desc := "(LPictureStudio$Layer;)LPictureStudio$Layer;" } : Jvm.MethodName)) ∈ ps_W := ps_in5 227 rfl rfl
theorem ps_w5_228 : (Jvm.Cond.instanceMethod ({ cls := "PictureStudio$Stand", name := "below", desc := "(LPictureStudio$Layer;)LPictureStudio$Layer;" } : Jvm.MethodName)) ∈ ps_W := ps_in5 228 rfl rfl
theorem ps_w5_229 : (Jvm.Cond.selects "PictureStudio$Stand" ({ cls := "PictureStudio$Stand", name := "below", desc := "(LPictureStudio$Layer;)LPictureStudio$Layer;" } : Jvm.MethodName) ({ cls := "PictureStudio$Stand", name := "below", desc := "(LPictureStudio$Layer;)LPictureStudio$Layer;" } : Jvm.MethodName)) ∈ ps_W := ps_in5 229 rfl rfl
theorem ps_w5_230 : (Jvm.Cond.code ({ cls := "PictureStudio$Stand", name := "below", desc := "(LPictureStudio$Layer;)LPictureStudio$Layer;" } : Jvm.MethodName) prog_11_method_8_code (5 : Nat) (Option.some (Jvm.ClassFile.FieldType.object "PictureStudio$Layer"))) ∈ ps_W := ps_in5 230 rfl rfl
theorem ps_w5_232 : (Jvm.Cond.methodLink "PictureStudio" (348 : Nat) ({ cls := "PictureStudio", name := "mergeInto", desc := "(LPictureStudio$Layer;LPictureStudio$Layer;)V" } : Jvm.MethodName)) ∈ ps_W := ps_in5 232 rfl rfl
theorem ps_w5_234 : (Jvm.Cond.instanceMethod ({ cls := "PictureStudio", name := "mergeInto", desc := "(LPictureStudio$Layer;LPictureStudio$Layer;)V" } : Jvm.MethodName)) ∈ ps_W := ps_in5 234 rfl rfl
theorem ps_w5_235 : (Jvm.Cond.code ({ cls := "PictureStudio", name := "mergeInto", desc := "(LPictureStudio$Layer;LPictureStudio$Layer;)V" } : Jvm.MethodName) prog_1_method_37_code (7 : Nat) (Option.none : Option Jvm.ClassFile.FieldType)) ∈ ps_W := ps_in5 235 rfl rfl
theorem ps_w5_236 : (Jvm.Cond.methodLink "PictureStudioLaw" (232 : Nat) ({ cls := "PictureStudioLaw", name := "stroke", desc := "(LPictureStudio;II[J)I" } : Jvm.MethodName)) ∈ ps_W := ps_in5 236 rfl rfl
theorem ps_w5_237 : (Jvm.Cond.static ({ cls := "PictureStudioLaw", name := "stroke", desc := "(LPictureStudio;II[J)I" } : Jvm.MethodName)) ∈ ps_W := ps_in5 237 rfl rfl
theorem ps_w5_238 : (Jvm.Cond.codeWith ({ cls := "PictureStudioLaw", name := "stroke", desc := "(LPictureStudio;II[J)I" } : Jvm.MethodName) method_18_code (5 : Nat) (Option.some Jvm.ClassFile.FieldType.int) [((0 : Nat), (10 : Nat), (13 : Nat), (19 : Nat)), ((0 : Nat), (10 : Nat), (17 : Nat), (29 : Nat)), ((0 : Nat), (10 : Nat), (21 : Nat), (39 : Nat))]) ∈ ps_W := ps_in5 238 rfl rfl
theorem ps_w5_239 : (Jvm.Cond.methodLink "PictureStudioLaw" (71 : Nat) ({ cls := "PictureStudio", name := "stroke", desc := "(II)I" } : Jvm.MethodName)) ∈ ps_W := ps_in5 239 rfl rfl
theorem ps_w6_0 : (Jvm.Cond.instanceMethod ({ cls := "PictureStudio", name := "stroke", desc := "(II)I" } : Jvm.MethodName)) ∈ ps_W := ps_in6 0 rfl rfl
theorem ps_w6_1 : (Jvm.Cond.selects "PictureStudio" ({ cls := "PictureStudio", name := "stroke", desc := "(II)I" } : Jvm.MethodName) ({ cls := "PictureStudio", name := "stroke", desc := "(II)I" } : Jvm.MethodName)) ∈ ps_W := ps_in6 1 rfl rfl
theorem ps_w6_2 : (Jvm.Cond.code ({ cls := "PictureStudio", name := "stroke", desc := "(II)I" } : Jvm.MethodName) prog_1_method_39_code (12 : Nat) (Option.some Jvm.ClassFile.FieldType.int)) ∈ ps_W := ps_in6 2 rfl rfl
theorem ps_w6_3 : (Jvm.Cond.methodLink "PictureStudio" (368 : Nat) ({ cls := "PictureStudio$Brush", name := "sweep", desc := "(II)V" } : Jvm.MethodName)) ∈ ps_W := ps_in6 3 rfl rfl
theorem ps_w6_4 : (Jvm.Cond.instanceMethod ({ cls := "PictureStudio$Brush", name := "sweep", desc := "(II)V" } : Jvm.MethodName)) ∈ ps_W := ps_in6 4 rfl rfl
theorem ps_w6_5 : (Jvm.Cond.selects "PictureStudio$Brush" ({ cls := "PictureStudio$Brush", name := "sweep", desc := "(II)V" } : Jvm.MethodName) ({ cls := "PictureStudio$Brush", name := "sweep", desc := "(II)V" } : Jvm.MethodName)) ∈ ps_W := ps_in6 5 rfl rfl
theorem ps_w6_6 : (Jvm.Cond.code ({ cls := "PictureStudio$Brush", name := "sweep", desc := "(II)V" } : Jvm.MethodName) prog_3_method_3_code (5 : Nat) (Option.none : Option Jvm.ClassFile.FieldType)) ∈ ps_W := ps_in6 6 rfl rfl
theorem ps_w6_8 : (Jvm.Cond.methodLink "PictureStudio$Brush" (57 : Nat) ({ cls := "java/util/Arrays", name := "fill", desc := "([II)V" } : Jvm.MethodName)) ∈ ps_W := ps_in6 8 rfl rfl
theorem ps_w6_9 : (Jvm.Cond.methodLink "PictureStudio$Brush" (63 : Nat) ({ cls := "PictureStudio$Brush", name := "dab", desc := "(III)V" } : Jvm.MethodName)) ∈ ps_W := ps_in6 9 rfl rfl
theorem ps_w6_11 : (Jvm.Cond.instanceMethod ({ cls := "PictureStudio$Brush", name := "dab", desc := "(III)V" } : Jvm.MethodName)) ∈ ps_W := ps_in6 11 rfl rfl
theorem ps_w6_12 : (Jvm.Cond.code ({ cls := "PictureStudio$Brush", name := "dab", desc := "(III)V" } : Jvm.MethodName) prog_3_method_5_code (16 : Nat) (Option.none : Option Jvm.ClassFile.FieldType)) ∈ ps_W := ps_in6 12 rfl rfl
theorem ps_w6_14 : (Jvm.Cond.methodLink "PictureStudio$Brush" (83 : Nat) ({ cls := "java/lang/Math", name := "min", desc := "(II)I" } : Jvm.MethodName)) ∈ ps_W := ps_in6 14 rfl rfl
theorem ps_w6_15 : (Jvm.Cond.methodLink "PictureStudio$Brush" (75 : Nat) ({ cls := "java/lang/Math", name := "max", desc := "(II)I" } : Jvm.MethodName)) ∈ ps_W := ps_in6 15 rfl rfl
theorem ps_w6_17 : (Jvm.Cond.static ({ cls := "PictureStudio", name := "root", desc := "(I)I" } : Jvm.MethodName)) ∈ ps_W := ps_in6 17 rfl rfl
theorem ps_w6_18 : (Jvm.Cond.code ({ cls := "PictureStudio", name := "root", desc := "(I)I" } : Jvm.MethodName) prog_1_method_76_code (5 : Nat) (Option.some Jvm.ClassFile.FieldType.int)) ∈ ps_W := ps_in6 18 rfl rfl
theorem ps_w6_19 : (Jvm.Cond.constant "PictureStudio" (598 : Nat) (32768 : Int32)) ∈ ps_W := ps_in6 19 rfl rfl
theorem ps_w6_20 : (Jvm.Cond.methodLink "PictureStudio$Brush" (67 : Nat) ({ cls := "PictureStudio$Brush", name := "along", desc := "(II)I" } : Jvm.MethodName)) ∈ ps_W := ps_in6 20 rfl rfl
theorem ps_w6_22 : (Jvm.Cond.instanceMethod ({ cls := "PictureStudio$Brush", name := "along", desc := "(II)I" } : Jvm.MethodName)) ∈ ps_W := ps_in6 22 rfl rfl
theorem ps_w6_23 : (Jvm.Cond.code ({ cls := "PictureStudio$Brush", name := "along", desc := "(II)I" } : Jvm.MethodName) prog_3_method_4_code (12 : Nat) (Option.some Jvm.ClassFile.FieldType.int)) ∈ ps_W := ps_in6 23 rfl rfl
theorem ps_w6_24 : (Jvm.Cond.methodLink "PictureStudio" (371 : Nat) ({ cls := "PictureStudio$Looks", name := "apply", desc := "(II[I[III)V" } : Jvm.MethodName)) ∈ ps_W := ps_in6 24 rfl rfl
theorem ps_w6_25 : (Jvm.Cond.methodLink "PictureStudioLaw" (235 : Nat) ({ cls := "PictureStudioLaw", name := "filter", desc := "(LPictureStudio;III[J)I" } : Jvm.MethodName)) ∈ ps_W := ps_in6 25 rfl rfl
theorem ps_w6_26 : (Jvm.Cond.static ({ cls := "PictureStudioLaw", name := "filter", desc := "(LPictureStudio;III[J)I" } : Jvm.MethodName)) ∈ ps_W := ps_in6 26 rfl rfl
theorem ps_w6_27 : (Jvm.Cond.codeWith ({ cls := "PictureStudioLaw", name := "filter", desc := "(LPictureStudio;III[J)I" } : Jvm.MethodName) method_19_code (6 : Nat) (Option.some Jvm.ClassFile.FieldType.int) [((0 : Nat), (12 : Nat), (15 : Nat), (19 : Nat)), ((0 : Nat), (12 : Nat), (19 : Nat), (29 : Nat))]) ∈ ps_W := ps_in6 27 rfl rfl
theorem ps_w6_28 : (Jvm.Cond.methodLink "PictureStudioLaw" (74 : Nat) ({ cls := "PictureStudio", name := "filter", desc := "(III)I" } : Jvm.MethodName)) ∈ ps_W := ps_in6 28 rfl rfl
theorem ps_w6_29 : (Jvm.Cond.instanceMethod ({ cls := "PictureStudio", name := "filter", desc := "(III)I" } : Jvm.MethodName)) ∈ ps_W := ps_in6 29 rfl rfl
theorem ps_w6_30 : (Jvm.Cond.selects "PictureStudio" ({ cls := "PictureStudio", name := "filter", desc := "(III)I" } : Jvm.MethodName) ({ cls := "PictureStudio", name := "filter", desc := "(III)I" } : Jvm.MethodName)) ∈ ps_W := ps_in6 30 rfl rfl
theorem ps_w6_31 : (Jvm.Cond.code ({ cls := "PictureStudio", name := "filter", desc := "(III)I" } : Jvm.MethodName) prog_1_method_40_code (9 : Nat) (Option.some Jvm.ClassFile.FieldType.int)) ∈ ps_W := ps_in6 31 rfl rfl
theorem ps_w6_32 : (Jvm.Cond.methodLink "PictureStudioLaw" (238 : Nat) ({ cls := "PictureStudioLaw", name := "path", desc := "(LPictureStudio;III[J)I" } : Jvm.MethodName)) ∈ ps_W := ps_in6 32 rfl rfl
theorem ps_w6_33 : (Jvm.Cond.static ({ cls := "PictureStudioLaw", name := "path", desc := "(LPictureStudio;III[J)I" } : Jvm.MethodName)) ∈ ps_W := ps_in6 33 rfl rfl
theorem ps_w6_34 : (Jvm.Cond.codeWith ({ cls := "PictureStudioLaw", name := "path", desc := "(LPictureStudio;III[J)I" } : Jvm.MethodName) method_20_code (6 : Nat) (Option.some Jvm.ClassFile.FieldType.int) [((0 : Nat), (12 : Nat), (15 : Nat), (19 : Nat)), ((0 : Nat), (12 : Nat), (19 : Nat), (29 : Nat))]) ∈ ps_W := ps_in6 34 rfl rfl
theorem ps_w6_35 : (Jvm.Cond.methodLink "PictureStudioLaw" (77 : Nat) ({ cls := "PictureStudio", name := "path", desc := "(III)I" } : Jvm.MethodName)) ∈ ps_W := ps_in6 35 rfl rfl
theorem ps_w6_36 : (Jvm.Cond.instanceMethod ({ cls := "PictureStudio", name := "path", desc := "(III)I" } : Jvm.MethodName)) ∈ ps_W := ps_in6 36 rfl rfl
theorem ps_w6_37 : (Jvm.Cond.selects "PictureStudio" ({ cls := "PictureStudio", name := "path", desc := "(III)I" } : Jvm.MethodName) ({ cls := "PictureStudio", name := "path", desc := "(III)I" } : Jvm.MethodName)) ∈ ps_W := ps_in6 37 rfl rfl
theorem ps_w6_38 : (Jvm.Cond.code ({ cls := "PictureStudio", name := "path", desc := "(III)I" } : Jvm.MethodName) prog_1_method_41_code (6 : Nat) (Option.some Jvm.ClassFile.FieldType.int)) ∈ ps_W := ps_in6 38 rfl rfl
theorem ps_w6_39 : (Jvm.Cond.methodLink "PictureStudio" (392 : Nat) ({ cls := "[I", name := "clone", desc := "()Ljava/lang/Object;" } : Jvm.MethodName)) ∈ ps_W := ps_in6 39 rfl rfl
theorem ps_w6_40 : (Jvm.Cond.classLink "PictureStudio" (393 : Nat) "[I") ∈ ps_W := ps_in6 40 rfl rfl
theorem ps_w6_41 : (Jvm.Cond.methodLink "PictureStudio" (397 : Nat) ({ cls := "PictureStudio$Paths", name := "trace", desc := "(III)V" } : Jvm.MethodName)) ∈ ps_W := ps_in6 41 rfl rfl
theorem ps_w6_42 : (Jvm.Cond.instanceMethod ({ cls := "PictureStudio$Paths", name := "trace", desc := "(III)V" } : Jvm.MethodName)) ∈ ps_W := ps_in6 42 rfl rfl
theorem ps_w6_43 : (Jvm.Cond.selects "PictureStudio$Paths" ({ cls := "PictureStudio$Paths", name := "trace", desc := "(III)V" } : Jvm.MethodName) ({ cls := "PictureStudio$Paths", name := "trace", desc := "(III)V" } : Jvm.MethodName)) ∈ ps_W := ps_in6 43 rfl rfl
theorem ps_w6_44 : (Jvm.Cond.code ({ cls := "PictureStudio$Paths", name := "trace", desc := "(III)V" } : Jvm.MethodName) prog_8_method_6_code (12 : Nat) (Option.none : Option Jvm.ClassFile.FieldType)) ∈ ps_W := ps_in6 44 rfl rfl
theorem ps_w6_46 : (Jvm.Cond.methodLink "PictureStudio$Paths" (72 : Nat) ({ cls := "java/lang/Math", name := "min", desc := "(II)I" } : Jvm.MethodName)) ∈ ps_W := ps_in6 46 rfl rfl
theorem ps_w6_47 : (Jvm.Cond.methodLink "PictureStudio$Paths" (64 : Nat) ({ cls := "PictureStudio$Paths", name := "lineTo", desc := "(II)V" } : Jvm.MethodName)) ∈ ps_W := ps_in6 47 rfl rfl
theorem ps_w6_49 : (Jvm.Cond.instanceMethod ({ cls := "PictureStudio$Paths", name := "lineTo", desc := "(II)V" } : Jvm.MethodName)) ∈ ps_W := ps_in6 49 rfl rfl
theorem ps_w6_50 : (Jvm.Cond.code ({ cls := "PictureStudio$Paths", name := "lineTo", desc := "(II)V" } : Jvm.MethodName) prog_8_method_4_code (3 : Nat) (Option.none : Option Jvm.ClassFile.FieldType)) ∈ ps_W := ps_in6 50 rfl rfl
theorem ps_w6_51 : (Jvm.Cond.methodLink "PictureStudio$Paths" (78 : Nat) ({ cls := "PictureStudio$Paths", name := "curveTo", desc := "(IIII)V" } : Jvm.MethodName)) ∈ ps_W := ps_in6 51 rfl rfl
theorem ps_w6_53 : (Jvm.Cond.instanceMethod ({ cls := "PictureStudio$Paths", name := "curveTo", desc := "(IIII)V" } : Jvm.MethodName)) ∈ ps_W := ps_in6 53 rfl rfl
theorem ps_w6_54 : (Jvm.Cond.code ({ cls := "PictureStudio$Paths", name := "curveTo", desc := "(IIII)V" } : Jvm.MethodName) prog_8_method_5_code (9 : Nat) (Option.none : Option Jvm.ClassFile.FieldType)) ∈ ps_W := ps_in6 54 rfl rfl
theorem ps_w6_55 : (Jvm.Cond.methodLink "PictureStudio" (400 : Nat) ({ cls := "PictureStudio", name := "fillTraced", desc := "(LPictureStudio$Layer;[II)V" } : Jvm.MethodName)) ∈ ps_W := ps_in6 55 rfl rfl
theorem ps_w6_57 : (Jvm.Cond.instanceMethod ({ cls := "PictureStudio", name := "fillTraced", desc := "(LPictureStudio$Layer;[II)V" } : Jvm.MethodName)) ∈ ps_W := ps_in6 57 rfl rfl
theorem ps_w6_58 : (Jvm.Cond.code ({ cls := "PictureStudio", name := "fillTraced", desc := "(LPictureStudio$Layer;[II)V" } : Jvm.MethodName) prog_1_method_42_code (8 : Nat) (Option.none : Option Jvm.ClassFile.FieldType)) ∈ ps_W := ps_in6 58 rfl rfl
theorem ps_w6_59 : (Jvm.Cond.methodLink "PictureStudio" (404 : Nat) ({ cls := "PictureStudio$Paths", name := "measure", desc := "(III)V" } : Jvm.MethodName)) ∈ ps_W := ps_in6 59 rfl rfl
theorem ps_w6_60 : (Jvm.Cond.instanceMethod ({ cls := "PictureStudio$Paths", name := "measure", desc := "(III)V" } : Jvm.MethodName)) ∈ ps_W := ps_in6 60 rfl rfl
theorem ps_w6_61 : (Jvm.Cond.selects "PictureStudio$Paths" ({ cls := "PictureStudio$Paths", name := "measure", desc := "(III)V" } : Jvm.MethodName) ({ cls := "PictureStudio$Paths", name := "measure", desc := "(III)V" } : Jvm.MethodName)) ∈ ps_W := ps_in6 61 rfl rfl
theorem ps_w6_62 : (Jvm.Cond.code ({ cls := "PictureStudio$Paths", name := "measure", desc := "(III)V" } : Jvm.MethodName) prog_8_method_7_code (7 : Nat) (Option.none : Option Jvm.ClassFile.FieldType)) ∈ ps_W := ps_in6 62 rfl rfl
theorem ps_w6_63 : (Jvm.Cond.methodLink "PictureStudio$Paths" (82 : Nat) ({ cls := "PictureStudio$Paths", name := "countTurns", desc := "(II)V" } : Jvm.MethodName)) ∈ ps_W := ps_in6 63 rfl rfl
theorem ps_w6_65 : (Jvm.Cond.instanceMethod ({ cls := "PictureStudio$Paths", name := "countTurns", desc := "(II)V" } : Jvm.MethodName)) ∈ ps_W := ps_in6 65 rfl rfl
theorem ps_w6_66 : (Jvm.Cond.code ({ cls := "PictureStudio$Paths", name := "countTurns", desc := "(II)V" } : Jvm.MethodName) prog_8_method_8_code (13 : Nat) (Option.none : Option Jvm.ClassFile.FieldType)) ∈ ps_W := ps_in6 66 rfl rfl
theorem ps_w6_67 : (Jvm.Cond.methodLink "PictureStudioLaw" (241 : Nat) ({ cls := "PictureStudioLaw", name := "text", desc := "(LPictureStudio;III[J)I" } : Jvm.MethodName)) ∈ ps_W := ps_in6 67 rfl rfl
theorem ps_w6_68 : (Jvm.Cond.static ({ cls := "PictureStudioLaw", name := "text", desc := "(LPictureStudio;III[J)I" } : Jvm.MethodName)) ∈ ps_W := ps_in6 68 rfl rfl
theorem ps_w6_69 : (Jvm.Cond.codeWith ({ cls := "PictureStudioLaw", name := "text", desc := "(LPictureStudio;III[J)I" } : Jvm.MethodName) method_21_code (6 : Nat) (Option.some Jvm.ClassFile.FieldType.int) [((0 : Nat), (12 : Nat), (15 : Nat), (19 : Nat)), ((0 : Nat), (12 : Nat), (19 : Nat), (29 : Nat))]) ∈ ps_W := ps_in6 69 rfl rfl
theorem ps_w6_70 : (Jvm.Cond.methodLink "PictureStudioLaw" (80 : Nat) ({ cls := "PictureStudio", name := "text", desc := "(III)I" } : Jvm.MethodName)) ∈ ps_W := ps_in6 70 rfl rfl
theorem ps_w6_71 : (Jvm.Cond.instanceMethod ({ cls := "PictureStudio", name := "text", desc := "(III)I" } : Jvm.MethodName)) ∈ ps_W := ps_in6 71 rfl rfl
theorem ps_w6_72 : (Jvm.Cond.selects "PictureStudio" ({ cls := "PictureStudio", name := "text", desc := "(III)I" } : Jvm.MethodName) ({ cls := "PictureStudio", name := "text", desc := "(III)I" } : Jvm.MethodName)) ∈ ps_W := ps_in6 72 rfl rfl
theorem ps_w6_73 : (Jvm.Cond.code ({ cls := "PictureStudio", name := "text", desc := "(III)I" } : Jvm.MethodName) prog_1_method_43_code (11 : Nat) (Option.some Jvm.ClassFile.FieldType.int)) ∈ ps_W := ps_in6 73 rfl rfl
theorem ps_w6_74 : (Jvm.Cond.methodLink "PictureStudio" (408 : Nat) ({ cls := "PictureStudio", name := "takeInput", desc := "()I" } : Jvm.MethodName)) ∈ ps_W := ps_in6 74 rfl rfl
theorem ps_w6_76 : (Jvm.Cond.instanceMethod ({ cls := "PictureStudio", name := "takeInput", desc := "()I" } : Jvm.MethodName)) ∈ ps_W := ps_in6 76 rfl rfl
theorem ps_w6_77 : (Jvm.Cond.code ({ cls := "PictureStudio", name := "takeInput", desc := "()I" } : Jvm.MethodName) prog_1_method_6_code (2 : Nat) (Option.some Jvm.ClassFile.FieldType.int)) ∈ ps_W := ps_in6 77 rfl rfl
theorem ps_w6_78 : (Jvm.Cond.methodLink "PictureStudioLaw" (244 : Nat) ({ cls := "PictureStudioLaw", name := "convert", desc := "(LPictureStudio;III)I" } : Jvm.MethodName)) ∈ ps_W := ps_in6 78 rfl rfl
theorem ps_w6_79 : (Jvm.Cond.static ({ cls := "PictureStudioLaw", name := "convert", desc := "(LPictureStudio;III)I" } : Jvm.MethodName)) ∈ ps_W := ps_in6 79 rfl rfl
theorem ps_w6_80 : (Jvm.Cond.codeWith ({ cls := "PictureStudioLaw", name := "convert", desc := "(LPictureStudio;III)I" } : Jvm.MethodName) method_22_code (5 : Nat) (Option.some Jvm.ClassFile.FieldType.int) [((0 : Nat), (7 : Nat), (10 : Nat), (19 : Nat)), ((0 : Nat), (7 : Nat), (14 : Nat), (29 : Nat)), ((0 : Nat), (7 : Nat), (18 : Nat), (39 : Nat))]) ∈ ps_W := ps_in6 80 rfl rfl
theorem ps_w6_81 : (Jvm.Cond.methodLink "PictureStudioLaw" (83 : Nat) ({ cls := "PictureStudio", name := "convert", desc := "(III)V" } : Jvm.MethodName)) ∈ ps_W := ps_in6 81 rfl rfl
theorem ps_w6_82 : (Jvm.Cond.instanceMethod ({ cls := "PictureStudio", name := "convert", desc := "(III)V" } : Jvm.MethodName)) ∈ ps_W := ps_in6 82 rfl rfl
theorem ps_w6_83 : (Jvm.Cond.selects "PictureStudio" ({ cls := "PictureStudio", name := "convert", desc := "(III)V" } : Jvm.MethodName) ({ cls := "PictureStudio", name := "convert", desc := "(III)V" } : Jvm.MethodName)) ∈ ps_W := ps_in6 83 rfl rfl
theorem ps_w6_84 : (Jvm.Cond.code ({ cls := "PictureStudio", name := "convert", desc := "(III)V" } : Jvm.MethodName) prog_1_method_44_code (6 : Nat) (Option.none : Option Jvm.ClassFile.FieldType)) ∈ ps_W := ps_in6 84 rfl rfl
theorem ps_w6_85 : (Jvm.Cond.methodLink "PictureStudio" (417 : Nat) ({ cls := "PictureStudio$Lab", name := "determinant", desc := "(I)J" } : Jvm.MethodName)) ∈ ps_W := ps_in6 85 rfl rfl
theorem ps_w6_86 : (Jvm.Cond.instanceMethod ({ cls := "PictureStudio$Lab", name := "determinant", desc := "(I)J" } : Jvm.MethodName)) ∈ ps_W := ps_in6 86 rfl rfl
theorem ps_w6_87 : (Jvm.Cond.selects "PictureStudio$Lab" ({ cls := "PictureStudio$Lab", name := "determinant", desc := "(I)J" } : Jvm.MethodName) ({ cls := "PictureStudio$Lab", name := "determinant", desc := "(I)J" } : Jvm.MethodName)) ∈ ps_W := ps_in6 87 rfl rfl
theorem ps_w6_88 : (Jvm.Cond.code ({ cls := "PictureStudio$Lab", name := "determinant", desc := "(I)J" } : Jvm.MethodName) prog_5_method_4_code (5 : Nat) (Option.some Jvm.ClassFile.FieldType.long)) ∈ ps_W := ps_in6 88 rfl rfl
theorem ps_w6_89 : (Jvm.Cond.methodLink "PictureStudio$Lab" (44 : Nat) ({ cls := "PictureStudio$Lab", name := "cofactor", desc := "(III)J" } : Jvm.MethodName)) ∈ ps_W := ps_in6 89 rfl rfl
theorem ps_w6_91 : (Jvm.Cond.instanceMethod ({ cls := "PictureStudio$Lab", name := "cofactor", desc := "(III)J" } : Jvm.MethodName)) ∈ ps_W := ps_in6 91 rfl rfl
theorem ps_w6_92 : (Jvm.Cond.code ({ cls := "PictureStudio$Lab", name := "cofactor", desc := "(III)J" } : Jvm.MethodName) prog_5_method_3_code (8 : Nat) (Option.some Jvm.ClassFile.FieldType.long)) ∈ ps_W := ps_in6 92 rfl rfl
theorem ps_w6_93 : (Jvm.Cond.methodLink "PictureStudio" (421 : Nat) ({ cls := "PictureStudio$Lab", name := "translate", desc := "([I[IIII)V" } : Jvm.MethodName)) ∈ ps_W := ps_in6 93 rfl rfl
theorem ps_w6_94 : (Jvm.Cond.instanceMethod ({ cls := "PictureStudio$Lab", name := "translate", desc := "([I[IIII)V" } : Jvm.MethodName)) ∈ ps_W := ps_in6 94 rfl rfl
theorem ps_w6_95 : (Jvm.Cond.selects "PictureStudio$Lab" ({ cls := "PictureStudio$Lab", name := "translate", desc := "([I[IIII)V" } : Jvm.MethodName) ({ cls := "PictureStudio$Lab", name := "translate", desc := "([I[IIII)V" } : Jvm.MethodName)) ∈ ps_W := ps_in6 95 rfl rfl
theorem ps_w6_96 : (Jvm.Cond.code ({ cls := "PictureStudio$Lab", name := "translate", desc := "([I[IIII)V" } : Jvm.MethodName) prog_5_method_5_code (23 : Nat) (Option.none : Option Jvm.ClassFile.FieldType)) ∈ ps_W := ps_in6 96 rfl rfl
theorem ps_w6_97 : (Jvm.Cond.methodLink "PictureStudio$Lab" (48 : Nat) ({ cls := "PictureStudio$Lab", name := "determinant", desc := "(I)J" } : Jvm.MethodName)) ∈ ps_W := ps_in6 97 rfl rfl
theorem ps_w6_98 : (Jvm.Cond.methodLink "PictureStudio$Lab" (52 : Nat) ({ cls := "PictureStudio$Lab", name := "level", desc := "(II)I" } : Jvm.MethodName)) ∈ ps_W := ps_in6 98 rfl rfl
theorem ps_w6_99 : (Jvm.Cond.static ({ cls := "PictureStudio$Lab", name := "level", desc := "(II)I" } : Jvm.MethodName)) ∈ ps_W := ps_in6 99 rfl rfl
theorem ps_w6_100 : (Jvm.Cond.code ({ cls := "PictureStudio$Lab", name := "level", desc := "(II)I" } : Jvm.MethodName) prog_5_method_2_code (4 : Nat) (Option.some Jvm.ClassFile.FieldType.int)) ∈ ps_W := ps_in6 100 rfl rfl
theorem ps_w6_101 : (Jvm.Cond.constant "PictureStudio$Lab" (43 : Nat) (65025 : Int32)) ∈ ps_W := ps_in6 101 rfl rfl
theorem ps_w6_105 : (Jvm.Cond.methodLink "PictureStudio$Lab" (66 : Nat) ({ cls := "PictureStudio$Lab", name := "byRow", desc := "(IIIII)I" } : Jvm.MethodName)) ∈ ps_W := ps_in6 105 rfl rfl
theorem ps_w6_107 : (Jvm.Cond.instanceMethod ({ cls := "PictureStudio$Lab", name := "byRow", desc := "(IIIII)I" } : Jvm.MethodName)) ∈ ps_W := ps_in6 107 rfl rfl
theorem ps_w6_108 : (Jvm.Cond.code ({ cls := "PictureStudio$Lab", name := "byRow", desc := "(IIIII)I" } : Jvm.MethodName) prog_5_method_6_code (7 : Nat) (Option.some Jvm.ClassFile.FieldType.int)) ∈ ps_W := ps_in6 108 rfl rfl
theorem ps_w6_109 : (Jvm.Cond.constant "PictureStudio$Lab" (70 : Nat) (-16777216 : Int32)) ∈ ps_W := ps_in6 109 rfl rfl
theorem ps_w6_110 : (Jvm.Cond.constantLong "PictureStudio$Lab" (71 : Nat) (1024 : Int64)) ∈ ps_W := ps_in6 110 rfl rfl
theorem ps_w6_111 : (Jvm.Cond.constantLong "PictureStudio$Lab" (73 : Nat) (4095 : Int64)) ∈ ps_W := ps_in6 111 rfl rfl
theorem ps_w6_112 : (Jvm.Cond.methodLink "PictureStudio$Lab" (75 : Nat) ({ cls := "java/lang/Math", name := "min", desc := "(JJ)J" } : Jvm.MethodName)) ∈ ps_W := ps_in6 112 rfl rfl
theorem ps_w6_113 : (Jvm.Cond.static ({ cls := "java/lang/Math", name := "min", desc := "(JJ)J" } : Jvm.MethodName)) ∈ ps_W := ps_in6 113 rfl rfl
theorem ps_w6_114 : (Jvm.Cond.code ({ cls := "java/lang/Math", name := "min", desc := "(JJ)J" } : Jvm.MethodName) prog_20_method_70_code (4 : Nat) (Option.some Jvm.ClassFile.FieldType.long)) ∈ ps_W := ps_in6 114 rfl rfl
theorem ps_w6_115 : (Jvm.Cond.methodLink "PictureStudio$Lab" (81 : Nat) ({ cls := "java/lang/Math", name := "max", desc := "(JJ)J" } : Jvm.MethodName)) ∈ ps_W := ps_in6 115 rfl rfl
theorem ps_w6_116 : (Jvm.Cond.static ({ cls := "java/lang/Math", name := "max", desc := "(JJ)J" } : Jvm.MethodName)) ∈ ps_W := ps_in6 116 rfl rfl
theorem ps_w6_117 : (Jvm.Cond.code ({ cls := "java/lang/Math", name := "max", desc := "(JJ)J" } : Jvm.MethodName) prog_20_method_66_code (4 : Nat) (Option.some Jvm.ClassFile.FieldType.long)) ∈ ps_W := ps_in6 117 rfl rfl
theorem ps_w6_118 : (Jvm.Cond.methodLink "PictureStudio$Lab" (84 : Nat) ({ cls := "PictureStudio$Lab", name := "nearestLevel", desc := "(I)I" } : Jvm.MethodName)) ∈ ps_W := ps_in6 118 rfl rfl
theorem ps_w6_120 : (Jvm.Cond.instanceMethod ({ cls := "PictureStudio$Lab", name := "nearestLevel", desc := "(I)I" } : Jvm.MethodName)) ∈ ps_W := ps_in6 120 rfl rfl
theorem ps_w6_121 : (Jvm.Cond.code ({ cls := "PictureStudio$Lab", name := "nearestLevel", desc := "(I)I" } : Jvm.MethodName) prog_5_method_7_code (4 : Nat) (Option.some Jvm.ClassFile.FieldType.int)) ∈ ps_W := ps_in6 121 rfl rfl
theorem ps_w6_122 : (Jvm.Cond.methodLink "PictureStudio$Lab" (87 : Nat) ({ cls := "java/lang/Math", name := "abs", desc := "(I)I" } : Jvm.MethodName)) ∈ ps_W := ps_in6 122 rfl rfl
theorem ps_w6_123 : (Jvm.Cond.methodLink "PictureStudioLaw" (247 : Nat) ({ cls := "PictureStudioLaw", name := "few", desc := "(LPictureStudio;IIZ[J)I" } : Jvm.MethodName)) ∈ ps_W := ps_in6 123 rfl rfl
theorem ps_w6_124 : (Jvm.Cond.static ({ cls := "PictureStudioLaw", name := "few", desc := "(LPictureStudio;IIZ[J)I" } : Jvm.MethodName)) ∈ ps_W := ps_in6 124 rfl rfl
theorem ps_w6_125 : (Jvm.Cond.codeWith ({ cls := "PictureStudioLaw", name := "few", desc := "(LPictureStudio;IIZ[J)I" } : Jvm.MethodName) method_23_code (6 : Nat) (Option.some Jvm.ClassFile.FieldType.int) [((0 : Nat), (12 : Nat), (15 : Nat), (19 : Nat)), ((0 : Nat), (12 : Nat), (19 : Nat), (29 : Nat))]) ∈ ps_W := ps_in6 125 rfl rfl
theorem ps_w6_126 : (Jvm.Cond.methodLink "PictureStudioLaw" (86 : Nat) ({ cls := "PictureStudio", name := "few", desc := "(IIZ)I" } : Jvm.MethodName)) ∈ ps_W := ps_in6 126 rfl rfl
theorem ps_w6_127 : (Jvm.Cond.instanceMethod ({ cls := "PictureStudio", name := "few", desc := "(IIZ)I" } : Jvm.MethodName)) ∈ ps_W := ps_in6 127 rfl rfl
theorem ps_w6_128 : (Jvm.Cond.selects "PictureStudio" ({ cls := "PictureStudio", name := "few", desc := "(IIZ)I" } : Jvm.MethodName) ({ cls := "PictureStudio", name := "few", desc := "(IIZ)I" } : Jvm.MethodName)) ∈ ps_W := ps_in6 128 rfl rfl
theorem ps_w6_129 : (Jvm.Cond.code ({ cls := "PictureStudio", name := "few", desc := "(IIZ)I" } : Jvm.MethodName) prog_1_method_45_code (7 : Nat) (Option.some Jvm.ClassFile.FieldType.int)) ∈ ps_W := ps_in6 129 rfl rfl
theorem ps_w6_130 : (Jvm.Cond.methodLink "PictureStudio" (425 : Nat) ({ cls := "PictureStudio$Lab", name := "boxes", desc := "([III)I" } : Jvm.MethodName)) ∈ ps_W := ps_in6 130 rfl rfl
theorem ps_w6_131 : (Jvm.Cond.instanceMethod ({ cls := "PictureStudio$Lab", name := "boxes", desc := "([III)I" } : Jvm.MethodName)) ∈ ps_W := ps_in6 131 rfl rfl
theorem ps_w6_132 : (Jvm.Cond.selects "PictureStudio$Lab" ({ cls := "PictureStudio$Lab", name := "boxes", desc := "([III)I" } : Jvm.MethodName) ({ cls := "PictureStudio$Lab", name := "boxes", desc := "([III)I" } : Jvm.MethodName)) ∈ ps_W := ps_in6 132 rfl rfl
theorem ps_w6_133 : (Jvm.Cond.code ({ cls := "PictureStudio$Lab", name := "boxes", desc := "([III)I" } : Jvm.MethodName) prog_5_method_8_code (6 : Nat) (Option.some Jvm.ClassFile.FieldType.int)) ∈ ps_W := ps_in6 133 rfl rfl
theorem ps_w6_134 : (Jvm.Cond.constant "PictureStudio$Lab" (90 : Nat) (16777215 : Int32)) ∈ ps_W := ps_in6 134 rfl rfl
theorem ps_w6_135 : (Jvm.Cond.methodLink "PictureStudio$Lab" (95 : Nat) ({ cls := "PictureStudio$Lab", name := "findWidest", desc := "()Z" } : Jvm.MethodName)) ∈ ps_W := ps_in6 135 rfl rfl
theorem ps_w6_137 : (Jvm.Cond.instanceMethod ({ cls := "PictureStudio$Lab", name := "findWidest", desc := "()Z" } : Jvm.MethodName)) ∈ ps_W := ps_in6 137 rfl rfl
theorem ps_w6_138 : (Jvm.Cond.code ({ cls := "PictureStudio$Lab", name := "findWidest", desc := "()Z" } : Jvm.MethodName) prog_5_method_9_code (8 : Nat) (Option.some Jvm.ClassFile.FieldType.boolean)) ∈ ps_W := ps_in6 138 rfl rfl
theorem ps_w6_139 : (Jvm.Cond.methodLink "PictureStudio$Lab" (116 : Nat) ({ cls := "java/lang/Math", name := "min", desc := "(II)I" } : Jvm.MethodName)) ∈ ps_W := ps_in6 139 rfl rfl
theorem ps_w6_140 : (Jvm.Cond.methodLink "PictureStudio$Lab" (118 : Nat) ({ cls := "java/lang/Math", name := "max", desc := "(II)I" } : Jvm.MethodName)) ∈ ps_W := ps_in6 140 rfl rfl
theorem ps_w6_141 : (Jvm.Cond.methodLink "PictureStudio$Lab" (105 : Nat) ({ cls := "PictureStudio$Lab", name := "cut", desc := "(II)V" } : Jvm.MethodName)) ∈ ps_W := ps_in6 141 rfl rfl
theorem ps_w6_143 : (Jvm.Cond.instanceMethod ({ cls := "PictureStudio$Lab", name := "cut", desc := "(II)V" } : Jvm.MethodName)) ∈ ps_W := ps_in6 143 rfl rfl
theorem ps_w6_144 : (Jvm.Cond.code ({ cls := "PictureStudio$Lab", name := "cut", desc := "(II)V" } : Jvm.MethodName) prog_5_method_11_code (6 : Nat) (Option.none : Option Jvm.ClassFile.FieldType)) ∈ ps_W := ps_in6 144 rfl rfl
theorem ps_w6_145 : (Jvm.Cond.methodLink "PictureStudio$Lab" (120 : Nat) ({ cls := "PictureStudio$Lab", name := "sortShades", desc := "(III)V" } : Jvm.MethodName)) ∈ ps_W := ps_in6 145 rfl rfl
theorem ps_w6_147 : (Jvm.Cond.instanceMethod ({ cls := "PictureStudio$Lab", name := "sortShades", desc := "(III)V" } : Jvm.MethodName)) ∈ ps_W := ps_in6 147 rfl rfl
theorem ps_w6_148 : (Jvm.Cond.code ({ cls := "PictureStudio$Lab", name := "sortShades", desc := "(III)V" } : Jvm.MethodName) prog_5_method_12_code (8 : Nat) (Option.none : Option Jvm.ClassFile.FieldType)) ∈ ps_W := ps_in6 148 rfl rfl
theorem ps_w6_149 : (Jvm.Cond.methodLink "PictureStudio$Lab" (124 : Nat) ({ cls := "PictureStudio$Lab", name := "channelAt", desc := "(II)I" } : Jvm.MethodName)) ∈ ps_W := ps_in6 149 rfl rfl
theorem ps_w6_151 : (Jvm.Cond.instanceMethod ({ cls := "PictureStudio$Lab", name := "channelAt", desc := "(II)I" } : Jvm.MethodName)) ∈ ps_W := ps_in6 151 rfl rfl
theorem ps_w6_152 : (Jvm.Cond.code ({ cls := "PictureStudio$Lab", name := "channelAt", desc := "(II)I" } : Jvm.MethodName) prog_5_method_10_code (3 : Nat) (Option.some Jvm.ClassFile.FieldType.int)) ∈ ps_W := ps_in6 152 rfl rfl
theorem ps_w6_153 : (Jvm.Cond.methodLink "PictureStudio$Lab" (109 : Nat) ({ cls := "PictureStudio$Lab", name := "meanOf", desc := "(II)I" } : Jvm.MethodName)) ∈ ps_W := ps_in6 153 rfl rfl
theorem ps_w6_155 : (Jvm.Cond.instanceMethod ({ cls := "PictureStudio$Lab", name := "meanOf", desc := "(II)I" } : Jvm.MethodName)) ∈ ps_W := ps_in6 155 rfl rfl
theorem ps_w6_156 : (Jvm.Cond.code ({ cls := "PictureStudio$Lab", name := "meanOf", desc := "(II)I" } : Jvm.MethodName) prog_5_method_13_code (6 : Nat) (Option.some Jvm.ClassFile.FieldType.int)) ∈ ps_W := ps_in6 156 rfl rfl
theorem ps_w6_158 : (Jvm.Cond.methodLink "PictureStudio" (429 : Nat) ({ cls := "PictureStudio$Lab", name := "reduce", desc := "([IIIZ)V" } : Jvm.MethodName)) ∈ ps_W := ps_in6 158 rfl rfl
theorem ps_w6_159 : (Jvm.Cond.instanceMethod ({ cls := "PictureStudio$Lab", name := "reduce", desc := "([IIIZ)V" } : Jvm.MethodName)) ∈ ps_W := ps_in6 159 rfl rfl
theorem ps_w6_160 : (Jvm.Cond.selects "PictureStudio$Lab" ({ cls := "PictureStudio$Lab", name := "reduce", desc := "([IIIZ)V" } : Jvm.MethodName) ({ cls := "PictureStudio$Lab", name := "reduce", desc := "([IIIZ)V" } : Jvm.MethodName)) ∈ ps_W := ps_in6 160 rfl rfl
theorem ps_w6_161 : (Jvm.Cond.code ({ cls := "PictureStudio$Lab", name := "reduce", desc := "([IIIZ)V" } : Jvm.MethodName) prog_5_method_14_code (12 : Nat) (Option.none : Option Jvm.ClassFile.FieldType)) ∈ ps_W := ps_in6 161 rfl rfl
theorem ps_w6_162 : (Jvm.Cond.methodLink "PictureStudio$Lab" (127 : Nat) ({ cls := "java/util/Arrays", name := "fill", desc := "([II)V" } : Jvm.MethodName)) ∈ ps_W := ps_in6 162 rfl rfl
theorem ps_w6_164 : (Jvm.Cond.methodLink "PictureStudio$Lab" (136 : Nat) ({ cls := "PictureStudio$Lab", name := "nearestColour", desc := "(III)I" } : Jvm.MethodName)) ∈ ps_W := ps_in6 164 rfl rfl
theorem ps_w6_166 : (Jvm.Cond.instanceMethod ({ cls := "PictureStudio$Lab", name := "nearestColour", desc := "(III)I" } : Jvm.MethodName)) ∈ ps_W := ps_in6 166 rfl rfl
theorem ps_w6_167 : (Jvm.Cond.code ({ cls := "PictureStudio$Lab", name := "nearestColour", desc := "(III)I" } : Jvm.MethodName) prog_5_method_15_code (10 : Nat) (Option.some Jvm.ClassFile.FieldType.int)) ∈ ps_W := ps_in6 167 rfl rfl
theorem ps_w6_168 : (Jvm.Cond.constant "PictureStudio$Lab" (144 : Nat) (1073741824 : Int32)) ∈ ps_W := ps_in6 168 rfl rfl
theorem ps_w6_169 : (Jvm.Cond.methodLink "PictureStudio$Lab" (140 : Nat) ({ cls := "PictureStudio$Lab", name := "spread", desc := "(IIIIII)V" } : Jvm.MethodName)) ∈ ps_W := ps_in6 169 rfl rfl
theorem ps_w6_171 : (Jvm.Cond.instanceMethod ({ cls := "PictureStudio$Lab", name := "spread", desc := "(IIIIII)V" } : Jvm.MethodName)) ∈ ps_W := ps_in6 171 rfl rfl
theorem ps_w6_172 : (Jvm.Cond.code ({ cls := "PictureStudio$Lab", name := "spread", desc := "(IIIIII)V" } : Jvm.MethodName) prog_5_method_16_code (9 : Nat) (Option.none : Option Jvm.ClassFile.FieldType)) ∈ ps_W := ps_in6 172 rfl rfl
theorem ps_w6_173 : (Jvm.Cond.methodLink "PictureStudioLaw" (251 : Nat) ({ cls := "PictureStudioLaw", name := "raw", desc := "(LPictureStudio;[J)I" } : Jvm.MethodName)) ∈ ps_W := ps_in6 173 rfl rfl
theorem ps_w6_174 : (Jvm.Cond.static ({ cls := "PictureStudioLaw", name := "raw", desc := "(LPictureStudio;[J)I" } : Jvm.MethodName)) ∈ ps_W := ps_in6 174 rfl rfl
theorem ps_w6_175 : (Jvm.Cond.codeWith ({ cls := "PictureStudioLaw", name := "raw", desc := "(LPictureStudio;[J)I" } : Jvm.MethodName) method_24_code (3 : Nat) (Option.some Jvm.ClassFile.FieldType.int) [((0 : Nat), (8 : Nat), (11 : Nat), (13 : Nat)), ((0 : Nat), (8 : Nat), (14 : Nat), (94 : Nat))]) ∈ ps_W := ps_in6 175 rfl rfl
theorem ps_w6_176 : (Jvm.Cond.classLink "PictureStudioLaw" (94 : Nat) "java/lang/UnsupportedOperationException") ∈ ps_W := ps_in6 176 rfl rfl
theorem ps_w6_177 : (Jvm.Cond.methodLink "PictureStudioLaw" (90 : Nat) ({ cls := "PictureStudio", name := "raw", desc := "()I" } : Jvm.MethodName)) ∈ ps_W := ps_in6 177 rfl rfl
theorem ps_w6_178 : (Jvm.Cond.instanceMethod ({ cls := "PictureStudio", name := "raw", desc := "()I" } : Jvm.MethodName)) ∈ ps_W := ps_in6 178 rfl rfl
theorem ps_w6_179 : (Jvm.Cond.selects "PictureStudio" ({ cls := "PictureStudio", name := "raw", desc := "()I" } : Jvm.MethodName) ({ cls := "PictureStudio", name := "raw", desc := "()I" } : Jvm.MethodName)) ∈ ps_W := ps_in6 179 rfl rfl
theorem ps_w6_180 : (Jvm.Cond.code ({ cls := "PictureStudio", name := "raw", desc := "()I" } : Jvm.MethodName) prog_1_method_46_code (6 : Nat) (Option.some Jvm.ClassFile.FieldType.int)) ∈ ps_W := ps_in6 180 rfl rfl
theorem ps_w6_181 : (Jvm.Cond.methodLink "PictureStudio" (433 : Nat) ({ cls := "PictureStudio", name := "failInput", desc := "(II)V" } : Jvm.MethodName)) ∈ ps_W := ps_in6 181 rfl rfl
theorem ps_w6_183 : (Jvm.Cond.instanceMethod ({ cls := "PictureStudio", name := "failInput", desc := "(II)V" } : Jvm.MethodName)) ∈ ps_W := ps_in6 183 rfl rfl
theorem ps_w6_184 : (Jvm.Cond.code ({ cls := "PictureStudio", name := "failInput", desc := "(II)V" } : Jvm.MethodName) prog_1_method_7_code (3 : Nat) (Option.none : Option Jvm.ClassFile.FieldType)) ∈ ps_W := ps_in6 184 rfl rfl
theorem ps_w6_185 : (Jvm.Cond.classLink "PictureStudio" (115 : Nat) "java/lang/UnsupportedOperationException") ∈ ps_W := ps_in6 185 rfl rfl
theorem ps_w6_186 : (Jvm.Cond.instantiable "java/lang/UnsupportedOperationException" (6 : Nat)) ∈ ps_W := ps_in6 186 rfl rfl
theorem ps_w6_188 : (Jvm.Cond.selects "java/lang/UnsupportedOperationException" ({ cls := "java/lang/Throwable", name := "fillInStackTrace", desc := "(I)Ljava/lang/Throwable;" } : Jvm.MethodName) ({ cls := "java/lang/Throwable", name := "fillInStackTrace", desc := "(I)Ljava/lang/Throwable;" } : Jvm.MethodName)) ∈ ps_W := ps_in6 188 rfl rfl
theorem ps_w6_189 : (Jvm.Cond.lays "java/lang/UnsupportedOperationException" "java/lang/Throwable" "cause" "Ljava/lang/Throwable;") ∈ ps_W := ps_in6 189 rfl rfl
theorem ps_w6_190 : (Jvm.Cond.lays "java/lang/UnsupportedOperationException" "java/lang/Throwable" "stackTrace" "[Ljava/lang/StackTraceElement;") ∈ ps_W := ps_in6 190 rfl rfl
theorem ps_w6_191 : (Jvm.Cond.lays "java/lang/UnsupportedOperationException" "java/lang/Throwable" "suppressedExceptions" "Ljava/util/List;") ∈ ps_W := ps_in6 191 rfl rfl
theorem ps_w6_192 : (Jvm.Cond.lays "java/lang/UnsupportedOperationException" "java/lang/Throwable" "detailMessage" "Ljava/lang/String;") ∈ ps_W := ps_in6 192 rfl rfl
theorem ps_w6_193 : (Jvm.Cond.lays "java/lang/UnsupportedOperationException" "java/lang/Throwable" "backtrace" "Ljava/lang/Object;") ∈ ps_W := ps_in6 193 rfl rfl
theorem ps_w6_195 : (Jvm.Cond.methodLink "PictureStudio" (119 : Nat) ({ cls := "java/lang/UnsupportedOperationException", name := "<init>", desc := "(Ljava/lang/String;)V" } : Jvm.MethodName)) ∈ ps_W := ps_in6 195 rfl rfl
theorem ps_w6_196 : (Jvm.Cond.instanceMethod ({ cls := "java/lang/UnsupportedOperationException", name := "<init>", desc := "(Ljava/lang/String;)V" } : Jvm.MethodName)) ∈ ps_W := ps_in6 196 rfl rfl
theorem ps_w6_197 : (Jvm.Cond.code ({ cls := "java/lang/UnsupportedOperationException", name := "<init>", desc := "(Ljava/lang/String;)V" } : Jvm.MethodName) prog_25_method_2_code (2 : Nat) (Option.none : Option Jvm.ClassFile.FieldType)) ∈ ps_W := ps_in6 197 rfl rfl
theorem ps_w6_198 : (Jvm.Cond.methodLink "java/lang/UnsupportedOperationException" (7 : Nat) ({ cls := "java/lang/RuntimeException", name := "<init>", desc := "(Ljava/lang/String;)V" } : Jvm.MethodName)) ∈ ps_W := ps_in6 198 rfl rfl
theorem ps_w6_199 : (Jvm.Cond.lays "java/lang/UnsupportedOperationException" "java/lang/Throwable" "depth" "I") ∈ ps_W := ps_in6 199 rfl rfl
theorem ps_w6_201 : (Jvm.Cond.methodLink "PictureStudio" (436 : Nat) ({ cls := "PictureStudio$Lab", name := "takeFrame", desc := "([III)I" } : Jvm.MethodName)) ∈ ps_W := ps_in6 201 rfl rfl
theorem ps_w6_202 : (Jvm.Cond.instanceMethod ({ cls := "PictureStudio$Lab", name := "takeFrame", desc := "([III)I" } : Jvm.MethodName)) ∈ ps_W := ps_in6 202 rfl rfl
theorem ps_w6_203 : (Jvm.Cond.selects "PictureStudio$Lab" ({ cls := "PictureStudio$Lab", name := "takeFrame", desc := "([III)I" } : Jvm.MethodName) ({ cls := "PictureStudio$Lab", name := "takeFrame", desc := "([III)I" } : Jvm.MethodName)) ∈ ps_W := ps_in6 203 rfl rfl
theorem ps_w6_204 : (Jvm.Cond.code ({ cls := "PictureStudio$Lab", name := "takeFrame", desc := "([III)I" } : Jvm.MethodName) prog_5_method_18_code (6 : Nat) (Option.some Jvm.ClassFile.FieldType.int)) ∈ ps_W := ps_in6 204 rfl rfl
theorem ps_w6_205 : (Jvm.Cond.methodLink "PictureStudio$Lab" (145 : Nat) ({ cls := "PictureStudio$Lab", name := "filterOf", desc := "(II)I" } : Jvm.MethodName)) ∈ ps_W := ps_in6 205 rfl rfl
theorem ps_w6_206 : (Jvm.Cond.static ({ cls := "PictureStudio$Lab", name := "filterOf", desc := "(II)I" } : Jvm.MethodName)) ∈ ps_W := ps_in6 206 rfl rfl
theorem ps_w6_207 : (Jvm.Cond.code ({ cls := "PictureStudio$Lab", name := "filterOf", desc := "(II)I" } : Jvm.MethodName) prog_5_method_17_code (2 : Nat) (Option.some Jvm.ClassFile.FieldType.int)) ∈ ps_W := ps_in6 207 rfl rfl
theorem ps_w6_209 : (Jvm.Cond.methodLink "PictureStudio" (439 : Nat) ({ cls := "PictureStudio$Lab", name := "unfold", desc := "([III)V" } : Jvm.MethodName)) ∈ ps_W := ps_in6 209 rfl rfl
theorem ps_w6_210 : (Jvm.Cond.instanceMethod ({ cls := "PictureStudio$Lab", name := "unfold", desc := "([III)V" } : Jvm.MethodName)) ∈ ps_W := ps_in6 210 rfl rfl
theorem ps_w6_211 : (Jvm.Cond.selects "PictureStudio$Lab" ({ cls := "PictureStudio$Lab", name := "unfold", desc := "([III)V" } : Jvm.MethodName) ({ cls := "PictureStudio$Lab", name := "unfold", desc := "([III)V" } : Jvm.MethodName)) ∈ ps_W := ps_in6 211 rfl rfl
theorem ps_w6_212 : (Jvm.Cond.code ({ cls := "PictureStudio$Lab", name := "unfold", desc := "([III)V" } : Jvm.MethodName) prog_5_method_19_code (7 : Nat) (Option.none : Option Jvm.ClassFile.FieldType)) ∈ ps_W := ps_in6 212 rfl rfl
theorem ps_w6_213 : (Jvm.Cond.methodLink "PictureStudio$Lab" (151 : Nat) ({ cls := "PictureStudio$Lab", name := "lightAt", desc := "(IIIII)I" } : Jvm.MethodName)) ∈ ps_W := ps_in6 213 rfl rfl
theorem ps_w6_215 : (Jvm.Cond.instanceMethod ({ cls := "PictureStudio$Lab", name := "lightAt", desc := "(IIIII)I" } : Jvm.MethodName)) ∈ ps_W := ps_in6 215 rfl rfl
theorem ps_w6_216 : (Jvm.Cond.code ({ cls := "PictureStudio$Lab", name := "lightAt", desc := "(IIIII)I" } : Jvm.MethodName) prog_5_method_20_code (10 : Nat) (Option.some Jvm.ClassFile.FieldType.int)) ∈ ps_W := ps_in6 216 rfl rfl
theorem ps_w6_217 : (Jvm.Cond.methodLink "PictureStudio" (443 : Nat) ({ cls := "PictureStudio", name := "addPixels", desc := "([I)I" } : Jvm.MethodName)) ∈ ps_W := ps_in6 217 rfl rfl
theorem ps_w6_219 : (Jvm.Cond.instanceMethod ({ cls := "PictureStudio", name := "addPixels", desc := "([I)I" } : Jvm.MethodName)) ∈ ps_W := ps_in6 219 rfl rfl
theorem ps_w6_220 : (Jvm.Cond.code ({ cls := "PictureStudio", name := "addPixels", desc := "([I)I" } : Jvm.MethodName) prog_1_method_25_code (3 : Nat) (Option.some Jvm.ClassFile.FieldType.int)) ∈ ps_W := ps_in6 220 rfl rfl
theorem ps_w6_221 : (Jvm.Cond.methodLink "PictureStudioLaw" (255 : Nat) ({ cls := "PictureStudioLaw", name := "png", desc := "(LPictureStudio;[J)I" } : Jvm.MethodName)) ∈ ps_W := ps_in6 221 rfl rfl
theorem ps_w6_222 : (Jvm.Cond.static ({ cls := "PictureStudioLaw", name := "png", desc := "(LPictureStudio;[J)I" } : Jvm.MethodName)) ∈ ps_W := ps_in6 222 rfl rfl
theorem ps_w6_223 : (Jvm.Cond.codeWith ({ cls := "PictureStudioLaw", name := "png", desc := "(LPictureStudio;[J)I" } : Jvm.MethodName) method_25_code (3 : Nat) (Option.some Jvm.ClassFile.FieldType.int) [((0 : Nat), (8 : Nat), (11 : Nat), (13 : Nat)), ((0 : Nat), (8 : Nat), (14 : Nat), (94 : Nat))]) ∈ ps_W := ps_in6 223 rfl rfl
theorem ps_w6_224 : (Jvm.Cond.methodLink "PictureStudioLaw" (96 : Nat) ({ cls := "PictureStudio", name := "png", desc := "()I" } : Jvm.MethodName)) ∈ ps_W := ps_in6 224 rfl rfl
theorem ps_w6_225 : (Jvm.Cond.instanceMethod ({ cls := "PictureStudio", name := "png", desc := "()I" } : Jvm.MethodName)) ∈ ps_W := ps_in6 225 rfl rfl
theorem ps_w6_226 : (Jvm.Cond.selects "PictureStudio" ({ cls := "PictureStudio", name := "png", desc := "()I" } : Jvm.MethodName) ({ cls := "PictureStudio", name := "png", desc := "()I" } : Jvm.MethodName)) ∈ ps_W := ps_in6 226 rfl rfl
theorem ps_w6_227 : (Jvm.Cond.code ({ cls := "PictureStudio", name := "png", desc := "()I" } : Jvm.MethodName) prog_1_method_47_code (3 : Nat) (Option.some Jvm.ClassFile.FieldType.int)) ∈ ps_W := ps_in6 227 rfl rfl
theorem ps_w6_228 : (Jvm.Cond.methodLink "PictureStudio" (447 : Nat) ({ cls := "PictureStudio$PngReader", name := "read", desc := "([II)Z" } : Jvm.MethodName)) ∈ ps_W := ps_in6 228 rfl rfl
theorem ps_w6_229 : (Jvm.Cond.instanceMethod ({ cls := "PictureStudio$PngReader", name := "read", desc := "([II)Z" } : Jvm.MethodName)) ∈ ps_W := ps_in6 229 rfl rfl
theorem ps_w6_230 : (Jvm.Cond.selects "PictureStudio$PngReader" ({ cls := "PictureStudio$PngReader", name := "read", desc := "([II)Z" } : Jvm.MethodName) ({ cls := "PictureStudio$PngReader", name := "read", desc := "([II)Z" } : Jvm.MethodName)) ∈ ps_W := ps_in6 230 rfl rfl
theorem ps_w6_231 : (Jvm.Cond.code ({ cls := "PictureStudio$PngReader", name := "read", desc := "([II)Z" } : Jvm.MethodName) prog_10_method_3_code (6 : Nat) (Option.some Jvm.ClassFile.FieldType.boolean)) ∈ ps_W := ps_in6 231 rfl rfl
theorem ps_w6_232 : (Jvm.Cond.methodLink "PictureStudio$PngReader" (38 : Nat) ({ cls := "java/lang/Math", name := "min", desc := "(II)I" } : Jvm.MethodName)) ∈ ps_W := ps_in6 232 rfl rfl
theorem ps_w6_233 : (Jvm.Cond.methodLink "PictureStudio$PngReader" (62 : Nat) ({ cls := "PictureStudio$PngReader", name := "isSigned", desc := "()Z" } : Jvm.MethodName)) ∈ ps_W := ps_in6 233 rfl rfl
theorem ps_w6_235 : (Jvm.Cond.instanceMethod ({ cls := "PictureStudio$PngReader", name := "isSigned", desc := "()Z" } : Jvm.MethodName)) ∈ ps_W := ps_in6 235 rfl rfl
theorem ps_w6_236 : (Jvm.Cond.code ({ cls := "PictureStudio$PngReader", name := "isSigned", desc := "()Z" } : Jvm.MethodName) prog_10_method_4_code (2 : Nat) (Option.some Jvm.ClassFile.FieldType.boolean)) ∈ ps_W := ps_in6 236 rfl rfl
theorem ps_w6_239 : (Jvm.Cond.methodLink "PictureStudio$PngReader" (66 : Nat) ({ cls := "PictureStudio$PngReader", name := "fails", desc := "(II)Z" } : Jvm.MethodName)) ∈ ps_W := ps_in6 239 rfl rfl
theorem ps_w7_1 : (Jvm.Cond.instanceMethod ({ cls := "PictureStudio$PngReader", name := "fails", desc := "(II)Z" } : Jvm.MethodName)) ∈ ps_W := ps_in7 1 rfl rfl
theorem ps_w7_2 : (Jvm.Cond.code ({ cls := "PictureStudio$PngReader", name := "fails", desc := "(II)Z" } : Jvm.MethodName) prog_10_method_2_code (3 : Nat) (Option.some Jvm.ClassFile.FieldType.boolean)) ∈ ps_W := ps_in7 2 rfl rfl
theorem ps_w7_3 : (Jvm.Cond.methodLink "PictureStudio$PngReader" (73 : Nat) ({ cls := "PictureStudio$PngReader", name := "isChunk", desc := "(I)Z" } : Jvm.MethodName)) ∈ ps_W := ps_in7 3 rfl rfl
theorem ps_w7_5 : (Jvm.Cond.instanceMethod ({ cls := "PictureStudio$PngReader", name := "isChunk", desc := "(I)Z" } : Jvm.MethodName)) ∈ ps_W := ps_in7 5 rfl rfl
theorem ps_w7_6 : (Jvm.Cond.code ({ cls := "PictureStudio$PngReader", name := "isChunk", desc := "(I)Z" } : Jvm.MethodName) prog_10_method_7_code (3 : Nat) (Option.some Jvm.ClassFile.FieldType.boolean)) ∈ ps_W := ps_in7 6 rfl rfl
theorem ps_w7_7 : (Jvm.Cond.methodLink "PictureStudio$PngReader" (80 : Nat) ({ cls := "PictureStudio$PngReader", name := "fourAt", desc := "(I)I" } : Jvm.MethodName)) ∈ ps_W := ps_in7 7 rfl rfl
theorem ps_w7_9 : (Jvm.Cond.instanceMethod ({ cls := "PictureStudio$PngReader", name := "fourAt", desc := "(I)I" } : Jvm.MethodName)) ∈ ps_W := ps_in7 9 rfl rfl
theorem ps_w7_10 : (Jvm.Cond.code ({ cls := "PictureStudio$PngReader", name := "fourAt", desc := "(I)I" } : Jvm.MethodName) prog_10_method_6_code (2 : Nat) (Option.some Jvm.ClassFile.FieldType.int)) ∈ ps_W := ps_in7 10 rfl rfl
theorem ps_w7_11 : (Jvm.Cond.methodLink "PictureStudio$PngReader" (104 : Nat) ({ cls := "PictureStudio$PngReader", name := "byteAt", desc := "(I)I" } : Jvm.MethodName)) ∈ ps_W := ps_in7 11 rfl rfl
theorem ps_w7_13 : (Jvm.Cond.instanceMethod ({ cls := "PictureStudio$PngReader", name := "byteAt", desc := "(I)I" } : Jvm.MethodName)) ∈ ps_W := ps_in7 13 rfl rfl
theorem ps_w7_14 : (Jvm.Cond.code ({ cls := "PictureStudio$PngReader", name := "byteAt", desc := "(I)I" } : Jvm.MethodName) prog_10_method_5_code (2 : Nat) (Option.some Jvm.ClassFile.FieldType.int)) ∈ ps_W := ps_in7 14 rfl rfl
theorem ps_w7_16 : (Jvm.Cond.static ({ cls := "PictureStudio", name := "crc", desc := "([III)I" } : Jvm.MethodName)) ∈ ps_W := ps_in7 16 rfl rfl
theorem ps_w7_17 : (Jvm.Cond.code ({ cls := "PictureStudio", name := "crc", desc := "([III)I" } : Jvm.MethodName) prog_1_method_88_code (6 : Nat) (Option.some Jvm.ClassFile.FieldType.int)) ∈ ps_W := ps_in7 17 rfl rfl
theorem ps_w7_18 : (Jvm.Cond.constant "PictureStudio" (630 : Nat) (-306674912 : Int32)) ∈ ps_W := ps_in7 18 rfl rfl
theorem ps_w7_19 : (Jvm.Cond.methodLink "PictureStudio$PngReader" (77 : Nat) ({ cls := "PictureStudio$PngReader", name := "takeChunk", desc := "(I)Z" } : Jvm.MethodName)) ∈ ps_W := ps_in7 19 rfl rfl
theorem ps_w7_21 : (Jvm.Cond.instanceMethod ({ cls := "PictureStudio$PngReader", name := "takeChunk", desc := "(I)Z" } : Jvm.MethodName)) ∈ ps_W := ps_in7 21 rfl rfl
theorem ps_w7_22 : (Jvm.Cond.code ({ cls := "PictureStudio$PngReader", name := "takeChunk", desc := "(I)Z" } : Jvm.MethodName) prog_10_method_8_code (5 : Nat) (Option.some Jvm.ClassFile.FieldType.boolean)) ∈ ps_W := ps_in7 22 rfl rfl
theorem ps_w7_23 : (Jvm.Cond.constant "PictureStudio$PngReader" (111 : Nat) (1229472850 : Int32)) ∈ ps_W := ps_in7 23 rfl rfl
theorem ps_w7_24 : (Jvm.Cond.methodLink "PictureStudio$PngReader" (112 : Nat) ({ cls := "PictureStudio$PngReader", name := "takeHeader", desc := "(II)Z" } : Jvm.MethodName)) ∈ ps_W := ps_in7 24 rfl rfl
theorem ps_w7_26 : (Jvm.Cond.instanceMethod ({ cls := "PictureStudio$PngReader", name := "takeHeader", desc := "(II)Z" } : Jvm.MethodName)) ∈ ps_W := ps_in7 26 rfl rfl
theorem ps_w7_27 : (Jvm.Cond.code ({ cls := "PictureStudio$PngReader", name := "takeHeader", desc := "(II)Z" } : Jvm.MethodName) prog_10_method_9_code (4 : Nat) (Option.some Jvm.ClassFile.FieldType.boolean)) ∈ ps_W := ps_in7 27 rfl rfl
theorem ps_w7_28 : (Jvm.Cond.constant "PictureStudio$PngReader" (115 : Nat) (1347179589 : Int32)) ∈ ps_W := ps_in7 28 rfl rfl
theorem ps_w7_29 : (Jvm.Cond.methodLink "PictureStudio$PngReader" (116 : Nat) ({ cls := "PictureStudio$PngReader", name := "takePalette", desc := "(II)Z" } : Jvm.MethodName)) ∈ ps_W := ps_in7 29 rfl rfl
theorem ps_w7_31 : (Jvm.Cond.instanceMethod ({ cls := "PictureStudio$PngReader", name := "takePalette", desc := "(II)Z" } : Jvm.MethodName)) ∈ ps_W := ps_in7 31 rfl rfl
theorem ps_w7_32 : (Jvm.Cond.code ({ cls := "PictureStudio$PngReader", name := "takePalette", desc := "(II)Z" } : Jvm.MethodName) prog_10_method_10_code (4 : Nat) (Option.some Jvm.ClassFile.FieldType.boolean)) ∈ ps_W := ps_in7 32 rfl rfl
theorem ps_w7_34 : (Jvm.Cond.constant "PictureStudio$PngReader" (119 : Nat) (1951551059 : Int32)) ∈ ps_W := ps_in7 34 rfl rfl
theorem ps_w7_35 : (Jvm.Cond.methodLink "PictureStudio$PngReader" (120 : Nat) ({ cls := "PictureStudio$PngReader", name := "takeClear", desc := "(II)Z" } : Jvm.MethodName)) ∈ ps_W := ps_in7 35 rfl rfl
theorem ps_w7_37 : (Jvm.Cond.instanceMethod ({ cls := "PictureStudio$PngReader", name := "takeClear", desc := "(II)Z" } : Jvm.MethodName)) ∈ ps_W := ps_in7 37 rfl rfl
theorem ps_w7_38 : (Jvm.Cond.code ({ cls := "PictureStudio$PngReader", name := "takeClear", desc := "(II)Z" } : Jvm.MethodName) prog_10_method_11_code (4 : Nat) (Option.some Jvm.ClassFile.FieldType.boolean)) ∈ ps_W := ps_in7 38 rfl rfl
theorem ps_w7_39 : (Jvm.Cond.constant "PictureStudio$PngReader" (123 : Nat) (1229209940 : Int32)) ∈ ps_W := ps_in7 39 rfl rfl
theorem ps_w7_40 : (Jvm.Cond.methodLink "PictureStudio$PngReader" (124 : Nat) ({ cls := "PictureStudio$Inflater", name := "addByte", desc := "(I)V" } : Jvm.MethodName)) ∈ ps_W := ps_in7 40 rfl rfl
theorem ps_w7_41 : (Jvm.Cond.instanceMethod ({ cls := "PictureStudio$Inflater", name := "addByte", desc := "(I)V" } : Jvm.MethodName)) ∈ ps_W := ps_in7 41 rfl rfl
theorem ps_w7_42 : (Jvm.Cond.selects "PictureStudio$Inflater" ({ cls := "PictureStudio$Inflater", name := "addByte", desc := "(I)V" } : Jvm.MethodName) ({ cls := "PictureStudio$Inflater", name := "addByte", desc := "(I)V" } : Jvm.MethodName)) ∈ ps_W := ps_in7 42 rfl rfl
theorem ps_w7_43 : (Jvm.Cond.code ({ cls := "PictureStudio$Inflater", name := "addByte", desc := "(I)V" } : Jvm.MethodName) prog_4_method_2_code (2 : Nat) (Option.none : Option Jvm.ClassFile.FieldType)) ∈ ps_W := ps_in7 43 rfl rfl
theorem ps_w7_44 : (Jvm.Cond.constant "PictureStudio$PngReader" (84 : Nat) (1229278788 : Int32)) ∈ ps_W := ps_in7 44 rfl rfl
theorem ps_w7_45 : (Jvm.Cond.methodLink "PictureStudio$PngReader" (91 : Nat) ({ cls := "PictureStudio$PngReader", name := "channels", desc := "()I" } : Jvm.MethodName)) ∈ ps_W := ps_in7 45 rfl rfl
theorem ps_w7_47 : (Jvm.Cond.instanceMethod ({ cls := "PictureStudio$PngReader", name := "channels", desc := "()I" } : Jvm.MethodName)) ∈ ps_W := ps_in7 47 rfl rfl
theorem ps_w7_48 : (Jvm.Cond.code ({ cls := "PictureStudio$PngReader", name := "channels", desc := "()I" } : Jvm.MethodName) prog_10_method_12_code (1 : Nat) (Option.some Jvm.ClassFile.FieldType.int)) ∈ ps_W := ps_in7 48 rfl rfl
theorem ps_w7_49 : (Jvm.Cond.methodLink "PictureStudio$PngReader" (95 : Nat) ({ cls := "PictureStudio$Inflater", name := "inflate", desc := "(I)Z" } : Jvm.MethodName)) ∈ ps_W := ps_in7 49 rfl rfl
theorem ps_w7_50 : (Jvm.Cond.instanceMethod ({ cls := "PictureStudio$Inflater", name := "inflate", desc := "(I)Z" } : Jvm.MethodName)) ∈ ps_W := ps_in7 50 rfl rfl
theorem ps_w7_51 : (Jvm.Cond.selects "PictureStudio$Inflater" ({ cls := "PictureStudio$Inflater", name := "inflate", desc := "(I)Z" } : Jvm.MethodName) ({ cls := "PictureStudio$Inflater", name := "inflate", desc := "(I)Z" } : Jvm.MethodName)) ∈ ps_W := ps_in7 51 rfl rfl
theorem ps_w7_52 : (Jvm.Cond.code ({ cls := "PictureStudio$Inflater", name := "inflate", desc := "(I)Z" } : Jvm.MethodName) prog_4_method_5_code (7 : Nat) (Option.some Jvm.ClassFile.FieldType.boolean)) ∈ ps_W := ps_in7 52 rfl rfl
theorem ps_w7_53 : (Jvm.Cond.methodLink "PictureStudio$Inflater" (50 : Nat) ({ cls := "java/lang/Math", name := "min", desc := "(II)I" } : Jvm.MethodName)) ∈ ps_W := ps_in7 53 rfl rfl
theorem ps_w7_54 : (Jvm.Cond.methodLink "PictureStudio$Inflater" (59 : Nat) ({ cls := "PictureStudio$Inflater", name := "readBits", desc := "(I)I" } : Jvm.MethodName)) ∈ ps_W := ps_in7 54 rfl rfl
theorem ps_w7_56 : (Jvm.Cond.instanceMethod ({ cls := "PictureStudio$Inflater", name := "readBits", desc := "(I)I" } : Jvm.MethodName)) ∈ ps_W := ps_in7 56 rfl rfl
theorem ps_w7_57 : (Jvm.Cond.code ({ cls := "PictureStudio$Inflater", name := "readBits", desc := "(I)I" } : Jvm.MethodName) prog_4_method_6_code (4 : Nat) (Option.some Jvm.ClassFile.FieldType.int)) ∈ ps_W := ps_in7 57 rfl rfl
theorem ps_w7_58 : (Jvm.Cond.constant "PictureStudio$Inflater" (63 : Nat) (64000 : Int32)) ∈ ps_W := ps_in7 58 rfl rfl
theorem ps_w7_59 : (Jvm.Cond.methodLink "PictureStudio$Inflater" (64 : Nat) ({ cls := "PictureStudio$Inflater", name := "stored", desc := "()V" } : Jvm.MethodName)) ∈ ps_W := ps_in7 59 rfl rfl
theorem ps_w7_61 : (Jvm.Cond.instanceMethod ({ cls := "PictureStudio$Inflater", name := "stored", desc := "()V" } : Jvm.MethodName)) ∈ ps_W := ps_in7 61 rfl rfl
theorem ps_w7_62 : (Jvm.Cond.code ({ cls := "PictureStudio$Inflater", name := "stored", desc := "()V" } : Jvm.MethodName) prog_4_method_9_code (4 : Nat) (Option.none : Option Jvm.ClassFile.FieldType)) ∈ ps_W := ps_in7 62 rfl rfl
theorem ps_w7_63 : (Jvm.Cond.methodLink "PictureStudio$Inflater" (76 : Nat) ({ cls := "PictureStudio$Inflater", name := "toByte", desc := "()V" } : Jvm.MethodName)) ∈ ps_W := ps_in7 63 rfl rfl
theorem ps_w7_65 : (Jvm.Cond.instanceMethod ({ cls := "PictureStudio$Inflater", name := "toByte", desc := "()V" } : Jvm.MethodName)) ∈ ps_W := ps_in7 65 rfl rfl
theorem ps_w7_66 : (Jvm.Cond.code ({ cls := "PictureStudio$Inflater", name := "toByte", desc := "()V" } : Jvm.MethodName) prog_4_method_7_code (1 : Nat) (Option.none : Option Jvm.ClassFile.FieldType)) ∈ ps_W := ps_in7 66 rfl rfl
theorem ps_w7_67 : (Jvm.Cond.constant "PictureStudio$Inflater" (83 : Nat) (65535 : Int32)) ∈ ps_W := ps_in7 67 rfl rfl
theorem ps_w7_68 : (Jvm.Cond.methodLink "PictureStudio$Inflater" (84 : Nat) ({ cls := "PictureStudio$Inflater", name := "emit", desc := "(I)V" } : Jvm.MethodName)) ∈ ps_W := ps_in7 68 rfl rfl
theorem ps_w7_70 : (Jvm.Cond.instanceMethod ({ cls := "PictureStudio$Inflater", name := "emit", desc := "(I)V" } : Jvm.MethodName)) ∈ ps_W := ps_in7 70 rfl rfl
theorem ps_w7_71 : (Jvm.Cond.code ({ cls := "PictureStudio$Inflater", name := "emit", desc := "(I)V" } : Jvm.MethodName) prog_4_method_8_code (2 : Nat) (Option.none : Option Jvm.ClassFile.FieldType)) ∈ ps_W := ps_in7 71 rfl rfl
theorem ps_w7_72 : (Jvm.Cond.methodLink "PictureStudio$Inflater" (67 : Nat) ({ cls := "PictureStudio$Inflater", name := "fixedCodes", desc := "()V" } : Jvm.MethodName)) ∈ ps_W := ps_in7 72 rfl rfl
theorem ps_w7_74 : (Jvm.Cond.instanceMethod ({ cls := "PictureStudio$Inflater", name := "fixedCodes", desc := "()V" } : Jvm.MethodName)) ∈ ps_W := ps_in7 74 rfl rfl
theorem ps_w7_75 : (Jvm.Cond.code ({ cls := "PictureStudio$Inflater", name := "fixedCodes", desc := "()V" } : Jvm.MethodName) prog_4_method_10_code (2 : Nat) (Option.none : Option Jvm.ClassFile.FieldType)) ∈ ps_W := ps_in7 75 rfl rfl
theorem ps_w7_76 : (Jvm.Cond.methodLink "PictureStudio$Inflater" (88 : Nat) ({ cls := "PictureStudio$Inflater", name := "order", desc := "([I[III)I" } : Jvm.MethodName)) ∈ ps_W := ps_in7 76 rfl rfl
theorem ps_w7_78 : (Jvm.Cond.instanceMethod ({ cls := "PictureStudio$Inflater", name := "order", desc := "([I[III)I" } : Jvm.MethodName)) ∈ ps_W := ps_in7 78 rfl rfl
theorem ps_w7_79 : (Jvm.Cond.code ({ cls := "PictureStudio$Inflater", name := "order", desc := "([I[III)I" } : Jvm.MethodName) prog_4_method_11_code (8 : Nat) (Option.some Jvm.ClassFile.FieldType.int)) ∈ ps_W := ps_in7 79 rfl rfl
theorem ps_w7_80 : (Jvm.Cond.methodLink "PictureStudio$Inflater" (92 : Nat) ({ cls := "java/util/Arrays", name := "fill", desc := "([II)V" } : Jvm.MethodName)) ∈ ps_W := ps_in7 80 rfl rfl
theorem ps_w7_81 : (Jvm.Cond.methodLink "PictureStudio$Inflater" (70 : Nat) ({ cls := "PictureStudio$Inflater", name := "symbols", desc := "()V" } : Jvm.MethodName)) ∈ ps_W := ps_in7 81 rfl rfl
theorem ps_w7_83 : (Jvm.Cond.instanceMethod ({ cls := "PictureStudio$Inflater", name := "symbols", desc := "()V" } : Jvm.MethodName)) ∈ ps_W := ps_in7 83 rfl rfl
theorem ps_w7_84 : (Jvm.Cond.code ({ cls := "PictureStudio$Inflater", name := "symbols", desc := "()V" } : Jvm.MethodName) prog_4_method_16_code (3 : Nat) (Option.none : Option Jvm.ClassFile.FieldType)) ∈ ps_W := ps_in7 84 rfl rfl
theorem ps_w7_85 : (Jvm.Cond.methodLink "PictureStudio$Inflater" (108 : Nat) ({ cls := "PictureStudio$Inflater", name := "decode", desc := "([I[I)I" } : Jvm.MethodName)) ∈ ps_W := ps_in7 85 rfl rfl
theorem ps_w7_87 : (Jvm.Cond.instanceMethod ({ cls := "PictureStudio$Inflater", name := "decode", desc := "([I[I)I" } : Jvm.MethodName)) ∈ ps_W := ps_in7 87 rfl rfl
theorem ps_w7_88 : (Jvm.Cond.code ({ cls := "PictureStudio$Inflater", name := "decode", desc := "([I[I)I" } : Jvm.MethodName) prog_4_method_15_code (8 : Nat) (Option.some Jvm.ClassFile.FieldType.int)) ∈ ps_W := ps_in7 88 rfl rfl
theorem ps_w7_89 : (Jvm.Cond.methodLink "PictureStudio$Inflater" (112 : Nat) ({ cls := "PictureStudio$Inflater", name := "copy", desc := "(I)V" } : Jvm.MethodName)) ∈ ps_W := ps_in7 89 rfl rfl
theorem ps_w7_91 : (Jvm.Cond.instanceMethod ({ cls := "PictureStudio$Inflater", name := "copy", desc := "(I)V" } : Jvm.MethodName)) ∈ ps_W := ps_in7 91 rfl rfl
theorem ps_w7_92 : (Jvm.Cond.code ({ cls := "PictureStudio$Inflater", name := "copy", desc := "(I)V" } : Jvm.MethodName) prog_4_method_17_code (6 : Nat) (Option.none : Option Jvm.ClassFile.FieldType)) ∈ ps_W := ps_in7 92 rfl rfl
theorem ps_w7_101 : (Jvm.Cond.methodLink "PictureStudio$Inflater" (127 : Nat) ({ cls := "PictureStudio$Inflater", name := "at", desc := "(I)I" } : Jvm.MethodName)) ∈ ps_W := ps_in7 101 rfl rfl
theorem ps_w7_102 : (Jvm.Cond.instanceMethod ({ cls := "PictureStudio$Inflater", name := "at", desc := "(I)I" } : Jvm.MethodName)) ∈ ps_W := ps_in7 102 rfl rfl
theorem ps_w7_103 : (Jvm.Cond.selects "PictureStudio$Inflater" ({ cls := "PictureStudio$Inflater", name := "at", desc := "(I)I" } : Jvm.MethodName) ({ cls := "PictureStudio$Inflater", name := "at", desc := "(I)I" } : Jvm.MethodName)) ∈ ps_W := ps_in7 103 rfl rfl
theorem ps_w7_104 : (Jvm.Cond.code ({ cls := "PictureStudio$Inflater", name := "at", desc := "(I)I" } : Jvm.MethodName) prog_4_method_3_code (2 : Nat) (Option.some Jvm.ClassFile.FieldType.int)) ∈ ps_W := ps_in7 104 rfl rfl
theorem ps_w7_105 : (Jvm.Cond.methodLink "PictureStudio$Inflater" (73 : Nat) ({ cls := "PictureStudio$Inflater", name := "toldCodes", desc := "()V" } : Jvm.MethodName)) ∈ ps_W := ps_in7 105 rfl rfl
theorem ps_w7_107 : (Jvm.Cond.instanceMethod ({ cls := "PictureStudio$Inflater", name := "toldCodes", desc := "()V" } : Jvm.MethodName)) ∈ ps_W := ps_in7 107 rfl rfl
theorem ps_w7_108 : (Jvm.Cond.code ({ cls := "PictureStudio$Inflater", name := "toldCodes", desc := "()V" } : Jvm.MethodName) prog_4_method_13_code (5 : Nat) (Option.none : Option Jvm.ClassFile.FieldType)) ∈ ps_W := ps_in7 108 rfl rfl
theorem ps_w7_111 : (Jvm.Cond.methodLink "PictureStudio$Inflater" (101 : Nat) ({ cls := "PictureStudio$Inflater", name := "areRight", desc := "(I[II)Z" } : Jvm.MethodName)) ∈ ps_W := ps_in7 111 rfl rfl
theorem ps_w7_112 : (Jvm.Cond.static ({ cls := "PictureStudio$Inflater", name := "areRight", desc := "(I[II)Z" } : Jvm.MethodName)) ∈ ps_W := ps_in7 112 rfl rfl
theorem ps_w7_113 : (Jvm.Cond.code ({ cls := "PictureStudio$Inflater", name := "areRight", desc := "(I[II)Z" } : Jvm.MethodName) prog_4_method_12_code (3 : Nat) (Option.some Jvm.ClassFile.FieldType.boolean)) ∈ ps_W := ps_in7 113 rfl rfl
theorem ps_w7_114 : (Jvm.Cond.methodLink "PictureStudio$Inflater" (105 : Nat) ({ cls := "PictureStudio$Inflater", name := "readLengths", desc := "(I)V" } : Jvm.MethodName)) ∈ ps_W := ps_in7 114 rfl rfl
theorem ps_w7_116 : (Jvm.Cond.instanceMethod ({ cls := "PictureStudio$Inflater", name := "readLengths", desc := "(I)V" } : Jvm.MethodName)) ∈ ps_W := ps_in7 116 rfl rfl
theorem ps_w7_117 : (Jvm.Cond.code ({ cls := "PictureStudio$Inflater", name := "readLengths", desc := "(I)V" } : Jvm.MethodName) prog_4_method_14_code (8 : Nat) (Option.none : Option Jvm.ClassFile.FieldType)) ∈ ps_W := ps_in7 117 rfl rfl
theorem ps_w7_119 : (Jvm.Cond.static ({ cls := "PictureStudio", name := "adler", desc := "([II)I" } : Jvm.MethodName)) ∈ ps_W := ps_in7 119 rfl rfl
theorem ps_w7_120 : (Jvm.Cond.code ({ cls := "PictureStudio", name := "adler", desc := "([II)I" } : Jvm.MethodName) prog_1_method_89_code (5 : Nat) (Option.some Jvm.ClassFile.FieldType.int)) ∈ ps_W := ps_in7 120 rfl rfl
theorem ps_w7_121 : (Jvm.Cond.constant "PictureStudio" (631 : Nat) (65521 : Int32)) ∈ ps_W := ps_in7 121 rfl rfl
theorem ps_w7_122 : (Jvm.Cond.constant "PictureStudio" (632 : Nat) (65536 : Int32)) ∈ ps_W := ps_in7 122 rfl rfl
theorem ps_w7_123 : (Jvm.Cond.methodLink "PictureStudio$PngReader" (98 : Nat) ({ cls := "PictureStudio$PngReader", name := "unfilter", desc := "()Z" } : Jvm.MethodName)) ∈ ps_W := ps_in7 123 rfl rfl
theorem ps_w7_125 : (Jvm.Cond.instanceMethod ({ cls := "PictureStudio$PngReader", name := "unfilter", desc := "()Z" } : Jvm.MethodName)) ∈ ps_W := ps_in7 125 rfl rfl
theorem ps_w7_126 : (Jvm.Cond.code ({ cls := "PictureStudio$PngReader", name := "unfilter", desc := "()Z" } : Jvm.MethodName) prog_10_method_13_code (10 : Nat) (Option.some Jvm.ClassFile.FieldType.boolean)) ∈ ps_W := ps_in7 126 rfl rfl
theorem ps_w7_127 : (Jvm.Cond.methodLink "PictureStudio$PngReader" (132 : Nat) ({ cls := "PictureStudio$Inflater", name := "at", desc := "(I)I" } : Jvm.MethodName)) ∈ ps_W := ps_in7 127 rfl rfl
theorem ps_w7_129 : (Jvm.Cond.static ({ cls := "PictureStudio", name := "foretold", desc := "(IIII)I" } : Jvm.MethodName)) ∈ ps_W := ps_in7 129 rfl rfl
theorem ps_w7_130 : (Jvm.Cond.code ({ cls := "PictureStudio", name := "foretold", desc := "(IIII)I" } : Jvm.MethodName) prog_1_method_87_code (8 : Nat) (Option.some Jvm.ClassFile.FieldType.int)) ∈ ps_W := ps_in7 130 rfl rfl
theorem ps_w7_131 : (Jvm.Cond.methodLink "PictureStudio$PngReader" (138 : Nat) ({ cls := "PictureStudio$Inflater", name := "change", desc := "(II)V" } : Jvm.MethodName)) ∈ ps_W := ps_in7 131 rfl rfl
theorem ps_w7_132 : (Jvm.Cond.instanceMethod ({ cls := "PictureStudio$Inflater", name := "change", desc := "(II)V" } : Jvm.MethodName)) ∈ ps_W := ps_in7 132 rfl rfl
theorem ps_w7_133 : (Jvm.Cond.selects "PictureStudio$Inflater" ({ cls := "PictureStudio$Inflater", name := "change", desc := "(II)V" } : Jvm.MethodName) ({ cls := "PictureStudio$Inflater", name := "change", desc := "(II)V" } : Jvm.MethodName)) ∈ ps_W := ps_in7 133 rfl rfl
theorem ps_w7_134 : (Jvm.Cond.code ({ cls := "PictureStudio$Inflater", name := "change", desc := "(II)V" } : Jvm.MethodName) prog_4_method_4_code (3 : Nat) (Option.none : Option Jvm.ClassFile.FieldType)) ∈ ps_W := ps_in7 134 rfl rfl
theorem ps_w7_135 : (Jvm.Cond.methodLink "PictureStudio$PngReader" (101 : Nat) ({ cls := "PictureStudio$PngReader", name := "areIndices", desc := "()Z" } : Jvm.MethodName)) ∈ ps_W := ps_in7 135 rfl rfl
theorem ps_w7_137 : (Jvm.Cond.instanceMethod ({ cls := "PictureStudio$PngReader", name := "areIndices", desc := "()Z" } : Jvm.MethodName)) ∈ ps_W := ps_in7 137 rfl rfl
theorem ps_w7_138 : (Jvm.Cond.code ({ cls := "PictureStudio$PngReader", name := "areIndices", desc := "()Z" } : Jvm.MethodName) prog_10_method_14_code (3 : Nat) (Option.some Jvm.ClassFile.FieldType.boolean)) ∈ ps_W := ps_in7 138 rfl rfl
theorem ps_w7_139 : (Jvm.Cond.methodLink "PictureStudio" (453 : Nat) ({ cls := "PictureStudio$PngReader", name := "paint", desc := "([III)V" } : Jvm.MethodName)) ∈ ps_W := ps_in7 139 rfl rfl
theorem ps_w7_140 : (Jvm.Cond.instanceMethod ({ cls := "PictureStudio$PngReader", name := "paint", desc := "([III)V" } : Jvm.MethodName)) ∈ ps_W := ps_in7 140 rfl rfl
theorem ps_w7_141 : (Jvm.Cond.selects "PictureStudio$PngReader" ({ cls := "PictureStudio$PngReader", name := "paint", desc := "([III)V" } : Jvm.MethodName) ({ cls := "PictureStudio$PngReader", name := "paint", desc := "([III)V" } : Jvm.MethodName)) ∈ ps_W := ps_in7 141 rfl rfl
theorem ps_w7_142 : (Jvm.Cond.code ({ cls := "PictureStudio$PngReader", name := "paint", desc := "([III)V" } : Jvm.MethodName) prog_10_method_16_code (7 : Nat) (Option.none : Option Jvm.ClassFile.FieldType)) ∈ ps_W := ps_in7 142 rfl rfl
theorem ps_w7_143 : (Jvm.Cond.methodLink "PictureStudio$PngReader" (142 : Nat) ({ cls := "PictureStudio$PngReader", name := "colourAt", desc := "(II)I" } : Jvm.MethodName)) ∈ ps_W := ps_in7 143 rfl rfl
theorem ps_w7_145 : (Jvm.Cond.instanceMethod ({ cls := "PictureStudio$PngReader", name := "colourAt", desc := "(II)I" } : Jvm.MethodName)) ∈ ps_W := ps_in7 145 rfl rfl
theorem ps_w7_146 : (Jvm.Cond.code ({ cls := "PictureStudio$PngReader", name := "colourAt", desc := "(II)I" } : Jvm.MethodName) prog_10_method_15_code (6 : Nat) (Option.some Jvm.ClassFile.FieldType.int)) ∈ ps_W := ps_in7 146 rfl rfl
theorem ps_w7_147 : (Jvm.Cond.methodLink "PictureStudioLaw" (258 : Nat) ({ cls := "PictureStudioLaw", name := "select", desc := "(LPictureStudio;IIIIII[J)I" } : Jvm.MethodName)) ∈ ps_W := ps_in7 147 rfl rfl
theorem ps_w7_148 : (Jvm.Cond.static ({ cls := "PictureStudioLaw", name := "select", desc := "(LPictureStudio;IIIIII[J)I" } : Jvm.MethodName)) ∈ ps_W := ps_in7 148 rfl rfl
theorem ps_w7_149 : (Jvm.Cond.codeWith ({ cls := "PictureStudioLaw", name := "select", desc := "(LPictureStudio;IIIIII[J)I" } : Jvm.MethodName) method_26_code (9 : Nat) (Option.some Jvm.ClassFile.FieldType.int) [((0 : Nat), (18 : Nat), (21 : Nat), (19 : Nat)), ((0 : Nat), (18 : Nat), (25 : Nat), (29 : Nat))]) ∈ ps_W := ps_in7 149 rfl rfl
theorem ps_w7_150 : (Jvm.Cond.methodLink "PictureStudioLaw" (99 : Nat) ({ cls := "PictureStudio", name := "select", desc := "(IIIIII)I" } : Jvm.MethodName)) ∈ ps_W := ps_in7 150 rfl rfl
theorem ps_w7_151 : (Jvm.Cond.instanceMethod ({ cls := "PictureStudio", name := "select", desc := "(IIIIII)I" } : Jvm.MethodName)) ∈ ps_W := ps_in7 151 rfl rfl
theorem ps_w7_152 : (Jvm.Cond.selects "PictureStudio" ({ cls := "PictureStudio", name := "select", desc := "(IIIIII)I" } : Jvm.MethodName) ({ cls := "PictureStudio", name := "select", desc := "(IIIIII)I" } : Jvm.MethodName)) ∈ ps_W := ps_in7 152 rfl rfl
theorem ps_w7_153 : (Jvm.Cond.code ({ cls := "PictureStudio", name := "select", desc := "(IIIIII)I" } : Jvm.MethodName) prog_1_method_48_code (7 : Nat) (Option.some Jvm.ClassFile.FieldType.int)) ∈ ps_W := ps_in7 153 rfl rfl
theorem ps_w7_154 : (Jvm.Cond.methodLink "PictureStudio" (456 : Nat) ({ cls := "PictureStudio", name := "needShape", desc := "(IIIIII)V" } : Jvm.MethodName)) ∈ ps_W := ps_in7 154 rfl rfl
theorem ps_w7_156 : (Jvm.Cond.instanceMethod ({ cls := "PictureStudio", name := "needShape", desc := "(IIIIII)V" } : Jvm.MethodName)) ∈ ps_W := ps_in7 156 rfl rfl
theorem ps_w7_157 : (Jvm.Cond.code ({ cls := "PictureStudio", name := "needShape", desc := "(IIIIII)V" } : Jvm.MethodName) prog_1_method_49_code (9 : Nat) (Option.none : Option Jvm.ClassFile.FieldType)) ∈ ps_W := ps_in7 157 rfl rfl
theorem ps_w7_158 : (Jvm.Cond.methodLink "PictureStudio" (460 : Nat) ({ cls := "PictureStudio$Area", name := "box", desc := "(IIII)V" } : Jvm.MethodName)) ∈ ps_W := ps_in7 158 rfl rfl
theorem ps_w7_159 : (Jvm.Cond.instanceMethod ({ cls := "PictureStudio$Area", name := "box", desc := "(IIII)V" } : Jvm.MethodName)) ∈ ps_W := ps_in7 159 rfl rfl
theorem ps_w7_160 : (Jvm.Cond.selects "PictureStudio$Area" ({ cls := "PictureStudio$Area", name := "box", desc := "(IIII)V" } : Jvm.MethodName) ({ cls := "PictureStudio$Area", name := "box", desc := "(IIII)V" } : Jvm.MethodName)) ∈ ps_W := ps_in7 160 rfl rfl
theorem ps_w7_161 : (Jvm.Cond.code ({ cls := "PictureStudio$Area", name := "box", desc := "(IIII)V" } : Jvm.MethodName) prog_2_method_6_code (7 : Nat) (Option.none : Option Jvm.ClassFile.FieldType)) ∈ ps_W := ps_in7 161 rfl rfl
theorem ps_w7_162 : (Jvm.Cond.methodLink "PictureStudio" (463 : Nat) ({ cls := "PictureStudio$Area", name := "ellipse", desc := "(IIII)V" } : Jvm.MethodName)) ∈ ps_W := ps_in7 162 rfl rfl
theorem ps_w7_163 : (Jvm.Cond.instanceMethod ({ cls := "PictureStudio$Area", name := "ellipse", desc := "(IIII)V" } : Jvm.MethodName)) ∈ ps_W := ps_in7 163 rfl rfl
theorem ps_w7_164 : (Jvm.Cond.selects "PictureStudio$Area" ({ cls := "PictureStudio$Area", name := "ellipse", desc := "(IIII)V" } : Jvm.MethodName) ({ cls := "PictureStudio$Area", name := "ellipse", desc := "(IIII)V" } : Jvm.MethodName)) ∈ ps_W := ps_in7 164 rfl rfl
theorem ps_w7_165 : (Jvm.Cond.code ({ cls := "PictureStudio$Area", name := "ellipse", desc := "(IIII)V" } : Jvm.MethodName) prog_2_method_7_code (17 : Nat) (Option.none : Option Jvm.ClassFile.FieldType)) ∈ ps_W := ps_in7 165 rfl rfl
theorem ps_w7_166 : (Jvm.Cond.constantLong "PictureStudio$Area" (47 : Nat) (16 : Int64)) ∈ ps_W := ps_in7 166 rfl rfl
theorem ps_w7_167 : (Jvm.Cond.methodLink "PictureStudio" (470 : Nat) ({ cls := "PictureStudio$Area", name := "wand", desc := "([IIII)V" } : Jvm.MethodName)) ∈ ps_W := ps_in7 167 rfl rfl
theorem ps_w7_168 : (Jvm.Cond.instanceMethod ({ cls := "PictureStudio$Area", name := "wand", desc := "([IIII)V" } : Jvm.MethodName)) ∈ ps_W := ps_in7 168 rfl rfl
theorem ps_w7_169 : (Jvm.Cond.selects "PictureStudio$Area" ({ cls := "PictureStudio$Area", name := "wand", desc := "([IIII)V" } : Jvm.MethodName) ({ cls := "PictureStudio$Area", name := "wand", desc := "([IIII)V" } : Jvm.MethodName)) ∈ ps_W := ps_in7 169 rfl rfl
theorem ps_w7_170 : (Jvm.Cond.code ({ cls := "PictureStudio$Area", name := "wand", desc := "([IIII)V" } : Jvm.MethodName) prog_2_method_10_code (15 : Nat) (Option.none : Option Jvm.ClassFile.FieldType)) ∈ ps_W := ps_in7 170 rfl rfl
theorem ps_w7_171 : (Jvm.Cond.methodLink "PictureStudio$Area" (53 : Nat) ({ cls := "PictureStudio$Area", name := "like", desc := "(III)Z" } : Jvm.MethodName)) ∈ ps_W := ps_in7 171 rfl rfl
theorem ps_w7_172 : (Jvm.Cond.static ({ cls := "PictureStudio$Area", name := "like", desc := "(III)Z" } : Jvm.MethodName)) ∈ ps_W := ps_in7 172 rfl rfl
theorem ps_w7_173 : (Jvm.Cond.code ({ cls := "PictureStudio$Area", name := "like", desc := "(III)Z" } : Jvm.MethodName) prog_2_method_8_code (4 : Nat) (Option.some Jvm.ClassFile.FieldType.boolean)) ∈ ps_W := ps_in7 173 rfl rfl
theorem ps_w7_174 : (Jvm.Cond.methodLink "PictureStudio$Area" (49 : Nat) ({ cls := "java/lang/Math", name := "abs", desc := "(I)I" } : Jvm.MethodName)) ∈ ps_W := ps_in7 174 rfl rfl
theorem ps_w7_175 : (Jvm.Cond.methodLink "PictureStudio" (474 : Nat) ({ cls := "PictureStudio$Area", name := "alike", desc := "([IIII)V" } : Jvm.MethodName)) ∈ ps_W := ps_in7 175 rfl rfl
theorem ps_w7_176 : (Jvm.Cond.instanceMethod ({ cls := "PictureStudio$Area", name := "alike", desc := "([IIII)V" } : Jvm.MethodName)) ∈ ps_W := ps_in7 176 rfl rfl
theorem ps_w7_177 : (Jvm.Cond.selects "PictureStudio$Area" ({ cls := "PictureStudio$Area", name := "alike", desc := "([IIII)V" } : Jvm.MethodName) ({ cls := "PictureStudio$Area", name := "alike", desc := "([IIII)V" } : Jvm.MethodName)) ∈ ps_W := ps_in7 177 rfl rfl
theorem ps_w7_178 : (Jvm.Cond.code ({ cls := "PictureStudio$Area", name := "alike", desc := "([IIII)V" } : Jvm.MethodName) prog_2_method_9_code (7 : Nat) (Option.none : Option Jvm.ClassFile.FieldType)) ∈ ps_W := ps_in7 178 rfl rfl
theorem ps_w7_179 : (Jvm.Cond.methodLink "PictureStudio" (477 : Nat) ({ cls := "PictureStudio", name := "selectable", desc := "(I)LPictureStudio$Layer;" } : Jvm.MethodName)) ∈ ps_W := ps_in7 179 rfl rfl
theorem ps_w7_181 : (Jvm.Cond.instanceMethod ({ cls := "PictureStudio", name := "selectable", desc := "(I)LPictureStudio$Layer;" } : Jvm.MethodName)) ∈ ps_W := ps_in7 181 rfl rfl
theorem ps_w7_182 : (Jvm.Cond.code ({ cls := "PictureStudio", name := "selectable", desc := "(I)LPictureStudio$Layer;" } : Jvm.MethodName) prog_1_method_50_code (3 : Nat) (Option.some (Jvm.ClassFile.FieldType.object "PictureStudio$Layer"))) ∈ ps_W := ps_in7 182 rfl rfl
theorem ps_w7_184 : (Jvm.Cond.methodLink "PictureStudio" (480 : Nat) ({ cls := "PictureStudio$Area", name := "alphas", desc := "(LPictureStudio$Layer;)V" } : Jvm.MethodName)) ∈ ps_W := ps_in7 184 rfl rfl
theorem ps_w7_185 : (Jvm.Cond.instanceMethod ({ cls := "PictureStudio$Area", name := "alphas", desc := "(LPictureStudio$Layer;)V" } : Jvm.MethodName)) ∈ ps_W := ps_in7 185 rfl rfl
theorem ps_w7_186 : (Jvm.Cond.selects "PictureStudio$Area" ({ cls := "PictureStudio$Area", name := "alphas", desc := "(LPictureStudio$Layer;)V" } : Jvm.MethodName) ({ cls := "PictureStudio$Area", name := "alphas", desc := "(LPictureStudio$Layer;)V" } : Jvm.MethodName)) ∈ ps_W := ps_in7 186 rfl rfl
theorem ps_w7_187 : (Jvm.Cond.code ({ cls := "PictureStudio$Area", name := "alphas", desc := "(LPictureStudio$Layer;)V" } : Jvm.MethodName) prog_2_method_11_code (4 : Nat) (Option.none : Option Jvm.ClassFile.FieldType)) ∈ ps_W := ps_in7 187 rfl rfl
theorem ps_w7_188 : (Jvm.Cond.methodLink "PictureStudio$Area" (65 : Nat) ({ cls := "PictureStudio$Layer", name := "own", desc := "(IIII)I" } : Jvm.MethodName)) ∈ ps_W := ps_in7 188 rfl rfl
theorem ps_w7_189 : (Jvm.Cond.methodLink "PictureStudio" (483 : Nat) ({ cls := "PictureStudio$Area", name := "covered", desc := "([I)V" } : Jvm.MethodName)) ∈ ps_W := ps_in7 189 rfl rfl
theorem ps_w7_190 : (Jvm.Cond.instanceMethod ({ cls := "PictureStudio$Area", name := "covered", desc := "([I)V" } : Jvm.MethodName)) ∈ ps_W := ps_in7 190 rfl rfl
theorem ps_w7_191 : (Jvm.Cond.selects "PictureStudio$Area" ({ cls := "PictureStudio$Area", name := "covered", desc := "([I)V" } : Jvm.MethodName) ({ cls := "PictureStudio$Area", name := "covered", desc := "([I)V" } : Jvm.MethodName)) ∈ ps_W := ps_in7 191 rfl rfl
theorem ps_w7_192 : (Jvm.Cond.code ({ cls := "PictureStudio$Area", name := "covered", desc := "([I)V" } : Jvm.MethodName) prog_2_method_12_code (3 : Nat) (Option.none : Option Jvm.ClassFile.FieldType)) ∈ ps_W := ps_in7 192 rfl rfl
theorem ps_w7_193 : (Jvm.Cond.methodLink "PictureStudio" (487 : Nat) ({ cls := "PictureStudio$Area", name := "join", desc := "(I)V" } : Jvm.MethodName)) ∈ ps_W := ps_in7 193 rfl rfl
theorem ps_w7_194 : (Jvm.Cond.instanceMethod ({ cls := "PictureStudio$Area", name := "join", desc := "(I)V" } : Jvm.MethodName)) ∈ ps_W := ps_in7 194 rfl rfl
theorem ps_w7_195 : (Jvm.Cond.selects "PictureStudio$Area" ({ cls := "PictureStudio$Area", name := "join", desc := "(I)V" } : Jvm.MethodName) ({ cls := "PictureStudio$Area", name := "join", desc := "(I)V" } : Jvm.MethodName)) ∈ ps_W := ps_in7 195 rfl rfl
theorem ps_w7_196 : (Jvm.Cond.code ({ cls := "PictureStudio$Area", name := "join", desc := "(I)V" } : Jvm.MethodName) prog_2_method_5_code (5 : Nat) (Option.none : Option Jvm.ClassFile.FieldType)) ∈ ps_W := ps_in7 196 rfl rfl
theorem ps_w7_197 : (Jvm.Cond.methodLink "PictureStudio$Area" (38 : Nat) ({ cls := "java/lang/Math", name := "max", desc := "(II)I" } : Jvm.MethodName)) ∈ ps_W := ps_in7 197 rfl rfl
theorem ps_w7_198 : (Jvm.Cond.methodLink "PictureStudio$Area" (44 : Nat) ({ cls := "java/lang/Math", name := "min", desc := "(II)I" } : Jvm.MethodName)) ∈ ps_W := ps_in7 198 rfl rfl
theorem ps_w7_199 : (Jvm.Cond.methodLink "PictureStudio" (490 : Nat) ({ cls := "PictureStudio$Area", name := "above", desc := "()I" } : Jvm.MethodName)) ∈ ps_W := ps_in7 199 rfl rfl
theorem ps_w7_200 : (Jvm.Cond.instanceMethod ({ cls := "PictureStudio$Area", name := "above", desc := "()I" } : Jvm.MethodName)) ∈ ps_W := ps_in7 200 rfl rfl
theorem ps_w7_201 : (Jvm.Cond.selects "PictureStudio$Area" ({ cls := "PictureStudio$Area", name := "above", desc := "()I" } : Jvm.MethodName) ({ cls := "PictureStudio$Area", name := "above", desc := "()I" } : Jvm.MethodName)) ∈ ps_W := ps_in7 201 rfl rfl
theorem ps_w7_202 : (Jvm.Cond.code ({ cls := "PictureStudio$Area", name := "above", desc := "()I" } : Jvm.MethodName) prog_2_method_4_code (3 : Nat) (Option.some Jvm.ClassFile.FieldType.int)) ∈ ps_W := ps_in7 202 rfl rfl
theorem ps_w7_203 : (Jvm.Cond.methodLink "PictureStudioLaw" (262 : Nat) ({ cls := "PictureStudioLaw", name := "reselect", desc := "(LPictureStudio;II[J)I" } : Jvm.MethodName)) ∈ ps_W := ps_in7 203 rfl rfl
theorem ps_w7_204 : (Jvm.Cond.static ({ cls := "PictureStudioLaw", name := "reselect", desc := "(LPictureStudio;II[J)I" } : Jvm.MethodName)) ∈ ps_W := ps_in7 204 rfl rfl
theorem ps_w7_205 : (Jvm.Cond.codeWith ({ cls := "PictureStudioLaw", name := "reselect", desc := "(LPictureStudio;II[J)I" } : Jvm.MethodName) method_27_code (5 : Nat) (Option.some Jvm.ClassFile.FieldType.int) [((0 : Nat), (10 : Nat), (13 : Nat), (19 : Nat))]) ∈ ps_W := ps_in7 205 rfl rfl
theorem ps_w7_206 : (Jvm.Cond.methodLink "PictureStudioLaw" (103 : Nat) ({ cls := "PictureStudio", name := "reselect", desc := "(II)I" } : Jvm.MethodName)) ∈ ps_W := ps_in7 206 rfl rfl
theorem ps_w7_207 : (Jvm.Cond.instanceMethod ({ cls := "PictureStudio", name := "reselect", desc := "(II)I" } : Jvm.MethodName)) ∈ ps_W := ps_in7 207 rfl rfl
theorem ps_w7_208 : (Jvm.Cond.selects "PictureStudio" ({ cls := "PictureStudio", name := "reselect", desc := "(II)I" } : Jvm.MethodName) ({ cls := "PictureStudio", name := "reselect", desc := "(II)I" } : Jvm.MethodName)) ∈ ps_W := ps_in7 208 rfl rfl
theorem ps_w7_209 : (Jvm.Cond.code ({ cls := "PictureStudio", name := "reselect", desc := "(II)I" } : Jvm.MethodName) prog_1_method_51_code (3 : Nat) (Option.some Jvm.ClassFile.FieldType.int)) ∈ ps_W := ps_in7 209 rfl rfl
theorem ps_w7_210 : (Jvm.Cond.methodLink "PictureStudio" (495 : Nat) ({ cls := "PictureStudio$Area", name := "turnOver", desc := "()V" } : Jvm.MethodName)) ∈ ps_W := ps_in7 210 rfl rfl
theorem ps_w7_211 : (Jvm.Cond.instanceMethod ({ cls := "PictureStudio$Area", name := "turnOver", desc := "()V" } : Jvm.MethodName)) ∈ ps_W := ps_in7 211 rfl rfl
theorem ps_w7_212 : (Jvm.Cond.selects "PictureStudio$Area" ({ cls := "PictureStudio$Area", name := "turnOver", desc := "()V" } : Jvm.MethodName) ({ cls := "PictureStudio$Area", name := "turnOver", desc := "()V" } : Jvm.MethodName)) ∈ ps_W := ps_in7 212 rfl rfl
theorem ps_w7_213 : (Jvm.Cond.code ({ cls := "PictureStudio$Area", name := "turnOver", desc := "()V" } : Jvm.MethodName) prog_2_method_13_code (2 : Nat) (Option.none : Option Jvm.ClassFile.FieldType)) ∈ ps_W := ps_in7 213 rfl rfl
theorem ps_w7_214 : (Jvm.Cond.methodLink "PictureStudio" (498 : Nat) ({ cls := "PictureStudio$Area", name := "widen", desc := "(IZ)V" } : Jvm.MethodName)) ∈ ps_W := ps_in7 214 rfl rfl
theorem ps_w7_215 : (Jvm.Cond.instanceMethod ({ cls := "PictureStudio$Area", name := "widen", desc := "(IZ)V" } : Jvm.MethodName)) ∈ ps_W := ps_in7 215 rfl rfl
theorem ps_w7_216 : (Jvm.Cond.selects "PictureStudio$Area" ({ cls := "PictureStudio$Area", name := "widen", desc := "(IZ)V" } : Jvm.MethodName) ({ cls := "PictureStudio$Area", name := "widen", desc := "(IZ)V" } : Jvm.MethodName)) ∈ ps_W := ps_in7 216 rfl rfl
theorem ps_w7_217 : (Jvm.Cond.code ({ cls := "PictureStudio$Area", name := "widen", desc := "(IZ)V" } : Jvm.MethodName) prog_2_method_14_code (9 : Nat) (Option.none : Option Jvm.ClassFile.FieldType)) ∈ ps_W := ps_in7 217 rfl rfl
theorem ps_w7_218 : (Jvm.Cond.methodLink "PictureStudio$Area" (69 : Nat) ({ cls := "java/lang/System", name := "arraycopy", desc := "(Ljava/lang/Object;ILjava/lang/Object;II)V" } : Jvm.MethodName)) ∈ ps_W := ps_in7 218 rfl rfl
theorem ps_w7_219 : (Jvm.Cond.methodLink "PictureStudio" (502 : Nat) ({ cls := "PictureStudio$Area", name := "soften", desc := "(I)V" } : Jvm.MethodName)) ∈ ps_W := ps_in7 219 rfl rfl
theorem ps_w7_220 : (Jvm.Cond.instanceMethod ({ cls := "PictureStudio$Area", name := "soften", desc := "(I)V" } : Jvm.MethodName)) ∈ ps_W := ps_in7 220 rfl rfl
theorem ps_w7_221 : (Jvm.Cond.selects "PictureStudio$Area" ({ cls := "PictureStudio$Area", name := "soften", desc := "(I)V" } : Jvm.MethodName) ({ cls := "PictureStudio$Area", name := "soften", desc := "(I)V" } : Jvm.MethodName)) ∈ ps_W := ps_in7 221 rfl rfl
theorem ps_w7_222 : (Jvm.Cond.code ({ cls := "PictureStudio$Area", name := "soften", desc := "(I)V" } : Jvm.MethodName) prog_2_method_15_code (8 : Nat) (Option.none : Option Jvm.ClassFile.FieldType)) ∈ ps_W := ps_in7 222 rfl rfl
theorem ps_w7_223 : (Jvm.Cond.methodLink "PictureStudioLaw" (265 : Nat) ({ cls := "PictureStudioLaw", name := "selected", desc := "(LPictureStudio;II[J)I" } : Jvm.MethodName)) ∈ ps_W := ps_in7 223 rfl rfl
theorem ps_w7_224 : (Jvm.Cond.static ({ cls := "PictureStudioLaw", name := "selected", desc := "(LPictureStudio;II[J)I" } : Jvm.MethodName)) ∈ ps_W := ps_in7 224 rfl rfl
theorem ps_w7_225 : (Jvm.Cond.codeWith ({ cls := "PictureStudioLaw", name := "selected", desc := "(LPictureStudio;II[J)I" } : Jvm.MethodName) method_28_code (5 : Nat) (Option.some Jvm.ClassFile.FieldType.int) [((0 : Nat), (10 : Nat), (13 : Nat), (29 : Nat))]) ∈ ps_W := ps_in7 225 rfl rfl
theorem ps_w7_226 : (Jvm.Cond.methodLink "PictureStudioLaw" (106 : Nat) ({ cls := "PictureStudio", name := "selected", desc := "(II)I" } : Jvm.MethodName)) ∈ ps_W := ps_in7 226 rfl rfl
theorem ps_w7_227 : (Jvm.Cond.instanceMethod ({ cls := "PictureStudio", name := "selected", desc := "(II)I" } : Jvm.MethodName)) ∈ ps_W := ps_in7 227 rfl rfl
theorem ps_w7_228 : (Jvm.Cond.selects "PictureStudio" ({ cls := "PictureStudio", name := "selected", desc := "(II)I" } : Jvm.MethodName) ({ cls := "PictureStudio", name := "selected", desc := "(II)I" } : Jvm.MethodName)) ∈ ps_W := ps_in7 228 rfl rfl
theorem ps_w7_229 : (Jvm.Cond.code ({ cls := "PictureStudio", name := "selected", desc := "(II)I" } : Jvm.MethodName) prog_1_method_52_code (3 : Nat) (Option.some Jvm.ClassFile.FieldType.int)) ∈ ps_W := ps_in7 229 rfl rfl
theorem ps_w7_230 : (Jvm.Cond.methodLink "PictureStudio" (505 : Nat) ({ cls := "PictureStudio", name := "needPlace", desc := "(II)V" } : Jvm.MethodName)) ∈ ps_W := ps_in7 230 rfl rfl
theorem ps_w7_232 : (Jvm.Cond.instanceMethod ({ cls := "PictureStudio", name := "needPlace", desc := "(II)V" } : Jvm.MethodName)) ∈ ps_W := ps_in7 232 rfl rfl
theorem ps_w7_233 : (Jvm.Cond.code ({ cls := "PictureStudio", name := "needPlace", desc := "(II)V" } : Jvm.MethodName) prog_1_method_12_code (3 : Nat) (Option.none : Option Jvm.ClassFile.FieldType)) ∈ ps_W := ps_in7 233 rfl rfl
theorem ps_w7_235 : (Jvm.Cond.methodLink "PictureStudioLaw" (272 : Nat) ({ cls := "PictureStudioLaw", name := "brush", desc := "(LPictureStudio;IIIII)I" } : Jvm.MethodName)) ∈ ps_W := ps_in7 235 rfl rfl
theorem ps_w7_236 : (Jvm.Cond.static ({ cls := "PictureStudioLaw", name := "brush", desc := "(LPictureStudio;IIIII)I" } : Jvm.MethodName)) ∈ ps_W := ps_in7 236 rfl rfl
theorem ps_w7_237 : (Jvm.Cond.codeWith ({ cls := "PictureStudioLaw", name := "brush", desc := "(LPictureStudio;IIIII)I" } : Jvm.MethodName) method_29_code (7 : Nat) (Option.some Jvm.ClassFile.FieldType.int) [((0 : Nat), (11 : Nat), (14 : Nat), (19 : Nat))]) ∈ ps_W := ps_in7 237 rfl rfl
theorem ps_w7_238 : (Jvm.Cond.methodLink "PictureStudioLaw" (109 : Nat) ({ cls := "PictureStudio", name := "brush", desc := "(IIIII)V" } : Jvm.MethodName)) ∈ ps_W := ps_in7 238 rfl rfl
theorem ps_w7_239 : (Jvm.Cond.instanceMethod ({ cls := "PictureStudio", name := "brush", desc := "(IIIII)V" } : Jvm.MethodName)) ∈ ps_W := ps_in7 239 rfl rfl
theorem ps_w8_0 : (Jvm.Cond.selects "PictureStudio" ({ cls := "PictureStudio", name := "brush", desc := "(IIIII)V" } : Jvm.MethodName) ({ cls := "PictureStudio", name := "brush", desc := "(IIIII)V" } : Jvm.MethodName)) ∈ ps_W := ps_in8 0 rfl rfl
theorem ps_w8_1 : (Jvm.Cond.code ({ cls := "PictureStudio", name := "brush", desc := "(IIIII)V" } : Jvm.MethodName) prog_1_method_54_code (6 : Nat) (Option.none : Option Jvm.ClassFile.FieldType)) ∈ ps_W := ps_in8 1 rfl rfl
theorem ps_w8_2 : (Jvm.Cond.methodLink "PictureStudioLaw" (275 : Nat) ({ cls := "PictureStudioLaw", name := "source", desc := "(LPictureStudio;II)I" } : Jvm.MethodName)) ∈ ps_W := ps_in8 2 rfl rfl
theorem ps_w8_3 : (Jvm.Cond.static ({ cls := "PictureStudioLaw", name := "source", desc := "(LPictureStudio;II)I" } : Jvm.MethodName)) ∈ ps_W := ps_in8 3 rfl rfl
theorem ps_w8_4 : (Jvm.Cond.codeWith ({ cls := "PictureStudioLaw", name := "source", desc := "(LPictureStudio;II)I" } : Jvm.MethodName) method_30_code (4 : Nat) (Option.some Jvm.ClassFile.FieldType.int) [((0 : Nat), (6 : Nat), (9 : Nat), (19 : Nat))]) ∈ ps_W := ps_in8 4 rfl rfl
theorem ps_w8_5 : (Jvm.Cond.methodLink "PictureStudioLaw" (112 : Nat) ({ cls := "PictureStudio", name := "source", desc := "(II)V" } : Jvm.MethodName)) ∈ ps_W := ps_in8 5 rfl rfl
theorem ps_w8_6 : (Jvm.Cond.instanceMethod ({ cls := "PictureStudio", name := "source", desc := "(II)V" } : Jvm.MethodName)) ∈ ps_W := ps_in8 6 rfl rfl
theorem ps_w8_7 : (Jvm.Cond.selects "PictureStudio" ({ cls := "PictureStudio", name := "source", desc := "(II)V" } : Jvm.MethodName) ({ cls := "PictureStudio", name := "source", desc := "(II)V" } : Jvm.MethodName)) ∈ ps_W := ps_in8 7 rfl rfl
theorem ps_w8_8 : (Jvm.Cond.code ({ cls := "PictureStudio", name := "source", desc := "(II)V" } : Jvm.MethodName) prog_1_method_55_code (3 : Nat) (Option.none : Option Jvm.ClassFile.FieldType)) ∈ ps_W := ps_in8 8 rfl rfl
theorem ps_w8_9 : (Jvm.Cond.methodLink "PictureStudioLaw" (278 : Nat) ({ cls := "PictureStudioLaw", name := "point", desc := "(LPictureStudio;III[J)I" } : Jvm.MethodName)) ∈ ps_W := ps_in8 9 rfl rfl
theorem ps_w8_10 : (Jvm.Cond.static ({ cls := "PictureStudioLaw", name := "point", desc := "(LPictureStudio;III[J)I" } : Jvm.MethodName)) ∈ ps_W := ps_in8 10 rfl rfl
theorem ps_w8_11 : (Jvm.Cond.codeWith ({ cls := "PictureStudioLaw", name := "point", desc := "(LPictureStudio;III[J)I" } : Jvm.MethodName) method_31_code (6 : Nat) (Option.some Jvm.ClassFile.FieldType.int) [((0 : Nat), (12 : Nat), (15 : Nat), (19 : Nat)), ((0 : Nat), (12 : Nat), (19 : Nat), (13 : Nat))]) ∈ ps_W := ps_in8 11 rfl rfl
theorem ps_w8_12 : (Jvm.Cond.methodLink "PictureStudioLaw" (115 : Nat) ({ cls := "PictureStudio", name := "point", desc := "(III)I" } : Jvm.MethodName)) ∈ ps_W := ps_in8 12 rfl rfl
theorem ps_w8_13 : (Jvm.Cond.instanceMethod ({ cls := "PictureStudio", name := "point", desc := "(III)I" } : Jvm.MethodName)) ∈ ps_W := ps_in8 13 rfl rfl
theorem ps_w8_14 : (Jvm.Cond.selects "PictureStudio" ({ cls := "PictureStudio", name := "point", desc := "(III)I" } : Jvm.MethodName) ({ cls := "PictureStudio", name := "point", desc := "(III)I" } : Jvm.MethodName)) ∈ ps_W := ps_in8 14 rfl rfl
theorem ps_w8_15 : (Jvm.Cond.code ({ cls := "PictureStudio", name := "point", desc := "(III)I" } : Jvm.MethodName) prog_1_method_56_code (4 : Nat) (Option.some Jvm.ClassFile.FieldType.int)) ∈ ps_W := ps_in8 15 rfl rfl
theorem ps_w8_17 : (Jvm.Cond.methodLink "PictureStudio" (522 : Nat) ({ cls := "PictureStudio$Brush", name := "addPoint", desc := "(III)V" } : Jvm.MethodName)) ∈ ps_W := ps_in8 17 rfl rfl
theorem ps_w8_18 : (Jvm.Cond.instanceMethod ({ cls := "PictureStudio$Brush", name := "addPoint", desc := "(III)V" } : Jvm.MethodName)) ∈ ps_W := ps_in8 18 rfl rfl
theorem ps_w8_19 : (Jvm.Cond.selects "PictureStudio$Brush" ({ cls := "PictureStudio$Brush", name := "addPoint", desc := "(III)V" } : Jvm.MethodName) ({ cls := "PictureStudio$Brush", name := "addPoint", desc := "(III)V" } : Jvm.MethodName)) ∈ ps_W := ps_in8 19 rfl rfl
theorem ps_w8_20 : (Jvm.Cond.code ({ cls := "PictureStudio$Brush", name := "addPoint", desc := "(III)V" } : Jvm.MethodName) prog_3_method_2_code (4 : Nat) (Option.none : Option Jvm.ClassFile.FieldType)) ∈ ps_W := ps_in8 20 rfl rfl
theorem ps_w8_21 : (Jvm.Cond.methodLink "PictureStudioLaw" (281 : Nat) ({ cls := "PictureStudioLaw", name := "curve", desc := "(LPictureStudio;IIII[J)I" } : Jvm.MethodName)) ∈ ps_W := ps_in8 21 rfl rfl
theorem ps_w8_22 : (Jvm.Cond.static ({ cls := "PictureStudioLaw", name := "curve", desc := "(LPictureStudio;IIII[J)I" } : Jvm.MethodName)) ∈ ps_W := ps_in8 22 rfl rfl
theorem ps_w8_23 : (Jvm.Cond.codeWith ({ cls := "PictureStudioLaw", name := "curve", desc := "(LPictureStudio;IIII[J)I" } : Jvm.MethodName) method_32_code (7 : Nat) (Option.some Jvm.ClassFile.FieldType.int) [((0 : Nat), (14 : Nat), (17 : Nat), (19 : Nat)), ((0 : Nat), (14 : Nat), (21 : Nat), (13 : Nat))]) ∈ ps_W := ps_in8 23 rfl rfl
theorem ps_w8_24 : (Jvm.Cond.methodLink "PictureStudioLaw" (118 : Nat) ({ cls := "PictureStudio", name := "curve", desc := "(IIII)I" } : Jvm.MethodName)) ∈ ps_W := ps_in8 24 rfl rfl
theorem ps_w8_25 : (Jvm.Cond.instanceMethod ({ cls := "PictureStudio", name := "curve", desc := "(IIII)I" } : Jvm.MethodName)) ∈ ps_W := ps_in8 25 rfl rfl
theorem ps_w8_26 : (Jvm.Cond.selects "PictureStudio" ({ cls := "PictureStudio", name := "curve", desc := "(IIII)I" } : Jvm.MethodName) ({ cls := "PictureStudio", name := "curve", desc := "(IIII)I" } : Jvm.MethodName)) ∈ ps_W := ps_in8 26 rfl rfl
theorem ps_w8_27 : (Jvm.Cond.code ({ cls := "PictureStudio", name := "curve", desc := "(IIII)I" } : Jvm.MethodName) prog_1_method_57_code (6 : Nat) (Option.some Jvm.ClassFile.FieldType.int)) ∈ ps_W := ps_in8 27 rfl rfl
theorem ps_w8_28 : (Jvm.Cond.methodLink "PictureStudio" (525 : Nat) ({ cls := "PictureStudio$Looks", name := "clearCurve", desc := "(I)I" } : Jvm.MethodName)) ∈ ps_W := ps_in8 28 rfl rfl
theorem ps_w8_29 : (Jvm.Cond.instanceMethod ({ cls := "PictureStudio$Looks", name := "clearCurve", desc := "(I)I" } : Jvm.MethodName)) ∈ ps_W := ps_in8 29 rfl rfl
theorem ps_w8_30 : (Jvm.Cond.selects "PictureStudio$Looks" ({ cls := "PictureStudio$Looks", name := "clearCurve", desc := "(I)I" } : Jvm.MethodName) ({ cls := "PictureStudio$Looks", name := "clearCurve", desc := "(I)I" } : Jvm.MethodName)) ∈ ps_W := ps_in8 30 rfl rfl
theorem ps_w8_31 : (Jvm.Cond.code ({ cls := "PictureStudio$Looks", name := "clearCurve", desc := "(I)I" } : Jvm.MethodName) prog_7_method_5_code (2 : Nat) (Option.some Jvm.ClassFile.FieldType.int)) ∈ ps_W := ps_in8 31 rfl rfl
theorem ps_w8_32 : (Jvm.Cond.methodLink "PictureStudio" (528 : Nat) ({ cls := "PictureStudio$Looks", name := "bendCurve", desc := "(III)I" } : Jvm.MethodName)) ∈ ps_W := ps_in8 32 rfl rfl
theorem ps_w8_33 : (Jvm.Cond.instanceMethod ({ cls := "PictureStudio$Looks", name := "bendCurve", desc := "(III)I" } : Jvm.MethodName)) ∈ ps_W := ps_in8 33 rfl rfl
theorem ps_w8_34 : (Jvm.Cond.selects "PictureStudio$Looks" ({ cls := "PictureStudio$Looks", name := "bendCurve", desc := "(III)I" } : Jvm.MethodName) ({ cls := "PictureStudio$Looks", name := "bendCurve", desc := "(III)I" } : Jvm.MethodName)) ∈ ps_W := ps_in8 34 rfl rfl
theorem ps_w8_35 : (Jvm.Cond.code ({ cls := "PictureStudio$Looks", name := "bendCurve", desc := "(III)I" } : Jvm.MethodName) prog_7_method_6_code (8 : Nat) (Option.some Jvm.ClassFile.FieldType.int)) ∈ ps_W := ps_in8 35 rfl rfl
theorem ps_w8_37 : (Jvm.Cond.methodLink "PictureStudioLaw" (285 : Nat) ({ cls := "PictureStudioLaw", name := "kernel", desc := "(LPictureStudio;II)I" } : Jvm.MethodName)) ∈ ps_W := ps_in8 37 rfl rfl
theorem ps_w8_38 : (Jvm.Cond.static ({ cls := "PictureStudioLaw", name := "kernel", desc := "(LPictureStudio;II)I" } : Jvm.MethodName)) ∈ ps_W := ps_in8 38 rfl rfl
theorem ps_w8_39 : (Jvm.Cond.codeWith ({ cls := "PictureStudioLaw", name := "kernel", desc := "(LPictureStudio;II)I" } : Jvm.MethodName) method_33_code (4 : Nat) (Option.some Jvm.ClassFile.FieldType.int) [((0 : Nat), (6 : Nat), (9 : Nat), (19 : Nat))]) ∈ ps_W := ps_in8 39 rfl rfl
theorem ps_w8_40 : (Jvm.Cond.methodLink "PictureStudioLaw" (122 : Nat) ({ cls := "PictureStudio", name := "kernel", desc := "(II)V" } : Jvm.MethodName)) ∈ ps_W := ps_in8 40 rfl rfl
theorem ps_w8_41 : (Jvm.Cond.instanceMethod ({ cls := "PictureStudio", name := "kernel", desc := "(II)V" } : Jvm.MethodName)) ∈ ps_W := ps_in8 41 rfl rfl
theorem ps_w8_42 : (Jvm.Cond.selects "PictureStudio" ({ cls := "PictureStudio", name := "kernel", desc := "(II)V" } : Jvm.MethodName) ({ cls := "PictureStudio", name := "kernel", desc := "(II)V" } : Jvm.MethodName)) ∈ ps_W := ps_in8 42 rfl rfl
theorem ps_w8_43 : (Jvm.Cond.code ({ cls := "PictureStudio", name := "kernel", desc := "(II)V" } : Jvm.MethodName) prog_1_method_58_code (3 : Nat) (Option.none : Option Jvm.ClassFile.FieldType)) ∈ ps_W := ps_in8 43 rfl rfl
theorem ps_w8_44 : (Jvm.Cond.methodLink "PictureStudioLaw" (288 : Nat) ({ cls := "PictureStudioLaw", name := "profile", desc := "(LPictureStudio;III)I" } : Jvm.MethodName)) ∈ ps_W := ps_in8 44 rfl rfl
theorem ps_w8_45 : (Jvm.Cond.static ({ cls := "PictureStudioLaw", name := "profile", desc := "(LPictureStudio;III)I" } : Jvm.MethodName)) ∈ ps_W := ps_in8 45 rfl rfl
theorem ps_w8_46 : (Jvm.Cond.codeWith ({ cls := "PictureStudioLaw", name := "profile", desc := "(LPictureStudio;III)I" } : Jvm.MethodName) method_34_code (5 : Nat) (Option.some Jvm.ClassFile.FieldType.int) [((0 : Nat), (7 : Nat), (10 : Nat), (19 : Nat))]) ∈ ps_W := ps_in8 46 rfl rfl
theorem ps_w8_47 : (Jvm.Cond.methodLink "PictureStudioLaw" (125 : Nat) ({ cls := "PictureStudio", name := "profile", desc := "(III)V" } : Jvm.MethodName)) ∈ ps_W := ps_in8 47 rfl rfl
theorem ps_w8_48 : (Jvm.Cond.instanceMethod ({ cls := "PictureStudio", name := "profile", desc := "(III)V" } : Jvm.MethodName)) ∈ ps_W := ps_in8 48 rfl rfl
theorem ps_w8_49 : (Jvm.Cond.selects "PictureStudio" ({ cls := "PictureStudio", name := "profile", desc := "(III)V" } : Jvm.MethodName) ({ cls := "PictureStudio", name := "profile", desc := "(III)V" } : Jvm.MethodName)) ∈ ps_W := ps_in8 49 rfl rfl
theorem ps_w8_50 : (Jvm.Cond.code ({ cls := "PictureStudio", name := "profile", desc := "(III)V" } : Jvm.MethodName) prog_1_method_59_code (4 : Nat) (Option.none : Option Jvm.ClassFile.FieldType)) ∈ ps_W := ps_in8 50 rfl rfl
theorem ps_w8_51 : (Jvm.Cond.methodLink "PictureStudioLaw" (291 : Nat) ({ cls := "PictureStudioLaw", name := "develop", desc := "(LPictureStudio;II)I" } : Jvm.MethodName)) ∈ ps_W := ps_in8 51 rfl rfl
theorem ps_w8_52 : (Jvm.Cond.static ({ cls := "PictureStudioLaw", name := "develop", desc := "(LPictureStudio;II)I" } : Jvm.MethodName)) ∈ ps_W := ps_in8 52 rfl rfl
theorem ps_w8_53 : (Jvm.Cond.codeWith ({ cls := "PictureStudioLaw", name := "develop", desc := "(LPictureStudio;II)I" } : Jvm.MethodName) method_35_code (4 : Nat) (Option.some Jvm.ClassFile.FieldType.int) [((0 : Nat), (6 : Nat), (9 : Nat), (19 : Nat))]) ∈ ps_W := ps_in8 53 rfl rfl
theorem ps_w8_54 : (Jvm.Cond.methodLink "PictureStudioLaw" (128 : Nat) ({ cls := "PictureStudio", name := "develop", desc := "(II)V" } : Jvm.MethodName)) ∈ ps_W := ps_in8 54 rfl rfl
theorem ps_w8_55 : (Jvm.Cond.instanceMethod ({ cls := "PictureStudio", name := "develop", desc := "(II)V" } : Jvm.MethodName)) ∈ ps_W := ps_in8 55 rfl rfl
theorem ps_w8_56 : (Jvm.Cond.selects "PictureStudio" ({ cls := "PictureStudio", name := "develop", desc := "(II)V" } : Jvm.MethodName) ({ cls := "PictureStudio", name := "develop", desc := "(II)V" } : Jvm.MethodName)) ∈ ps_W := ps_in8 56 rfl rfl
theorem ps_w8_57 : (Jvm.Cond.code ({ cls := "PictureStudio", name := "develop", desc := "(II)V" } : Jvm.MethodName) prog_1_method_60_code (3 : Nat) (Option.none : Option Jvm.ClassFile.FieldType)) ∈ ps_W := ps_in8 57 rfl rfl
theorem ps_w8_58 : (Jvm.Cond.methodLink "PictureStudioLaw" (294 : Nat) ({ cls := "PictureStudioLaw", name := "step", desc := "(LPictureStudio;IIII[J)I" } : Jvm.MethodName)) ∈ ps_W := ps_in8 58 rfl rfl
theorem ps_w8_59 : (Jvm.Cond.static ({ cls := "PictureStudioLaw", name := "step", desc := "(LPictureStudio;IIII[J)I" } : Jvm.MethodName)) ∈ ps_W := ps_in8 59 rfl rfl
theorem ps_w8_60 : (Jvm.Cond.codeWith ({ cls := "PictureStudioLaw", name := "step", desc := "(LPictureStudio;IIII[J)I" } : Jvm.MethodName) method_36_code (7 : Nat) (Option.some Jvm.ClassFile.FieldType.int) [((0 : Nat), (14 : Nat), (17 : Nat), (19 : Nat)), ((0 : Nat), (14 : Nat), (21 : Nat), (39 : Nat)), ((0 : Nat), (14 : Nat), (25 : Nat), (13 : Nat))]) ∈ ps_W := ps_in8 60 rfl rfl
theorem ps_w8_61 : (Jvm.Cond.methodLink "PictureStudioLaw" (131 : Nat) ({ cls := "PictureStudio", name := "step", desc := "(IIII)I" } : Jvm.MethodName)) ∈ ps_W := ps_in8 61 rfl rfl
theorem ps_w8_62 : (Jvm.Cond.instanceMethod ({ cls := "PictureStudio", name := "step", desc := "(IIII)I" } : Jvm.MethodName)) ∈ ps_W := ps_in8 62 rfl rfl
theorem ps_w8_63 : (Jvm.Cond.selects "PictureStudio" ({ cls := "PictureStudio", name := "step", desc := "(IIII)I" } : Jvm.MethodName) ({ cls := "PictureStudio", name := "step", desc := "(IIII)I" } : Jvm.MethodName)) ∈ ps_W := ps_in8 63 rfl rfl
theorem ps_w8_64 : (Jvm.Cond.code ({ cls := "PictureStudio", name := "step", desc := "(IIII)I" } : Jvm.MethodName) prog_1_method_61_code (5 : Nat) (Option.some Jvm.ClassFile.FieldType.int)) ∈ ps_W := ps_in8 64 rfl rfl
theorem ps_w8_65 : (Jvm.Cond.methodLink "PictureStudio" (551 : Nat) ({ cls := "PictureStudio$Paths", name := "allows", desc := "(II)Z" } : Jvm.MethodName)) ∈ ps_W := ps_in8 65 rfl rfl
theorem ps_w8_66 : (Jvm.Cond.instanceMethod ({ cls := "PictureStudio$Paths", name := "allows", desc := "(II)Z" } : Jvm.MethodName)) ∈ ps_W := ps_in8 66 rfl rfl
theorem ps_w8_67 : (Jvm.Cond.selects "PictureStudio$Paths" ({ cls := "PictureStudio$Paths", name := "allows", desc := "(II)Z" } : Jvm.MethodName) ({ cls := "PictureStudio$Paths", name := "allows", desc := "(II)Z" } : Jvm.MethodName)) ∈ ps_W := ps_in8 67 rfl rfl
theorem ps_w8_68 : (Jvm.Cond.code ({ cls := "PictureStudio$Paths", name := "allows", desc := "(II)Z" } : Jvm.MethodName) prog_8_method_2_code (5 : Nat) (Option.some Jvm.ClassFile.FieldType.boolean)) ∈ ps_W := ps_in8 68 rfl rfl
theorem ps_w8_70 : (Jvm.Cond.methodLink "PictureStudio" (556 : Nat) ({ cls := "PictureStudio$Paths", name := "addStep", desc := "(IIII)V" } : Jvm.MethodName)) ∈ ps_W := ps_in8 70 rfl rfl
theorem ps_w8_71 : (Jvm.Cond.instanceMethod ({ cls := "PictureStudio$Paths", name := "addStep", desc := "(IIII)V" } : Jvm.MethodName)) ∈ ps_W := ps_in8 71 rfl rfl
theorem ps_w8_72 : (Jvm.Cond.selects "PictureStudio$Paths" ({ cls := "PictureStudio$Paths", name := "addStep", desc := "(IIII)V" } : Jvm.MethodName) ({ cls := "PictureStudio$Paths", name := "addStep", desc := "(IIII)V" } : Jvm.MethodName)) ∈ ps_W := ps_in8 72 rfl rfl
theorem ps_w8_73 : (Jvm.Cond.code ({ cls := "PictureStudio$Paths", name := "addStep", desc := "(IIII)V" } : Jvm.MethodName) prog_8_method_3_code (6 : Nat) (Option.none : Option Jvm.ClassFile.FieldType)) ∈ ps_W := ps_in8 73 rfl rfl
theorem ps_w8_74 : (Jvm.Cond.methodLink "PictureStudioLaw" (297 : Nat) ({ cls := "PictureStudioLaw", name := "glyph", desc := "(LPictureStudio;III)I" } : Jvm.MethodName)) ∈ ps_W := ps_in8 74 rfl rfl
theorem ps_w8_75 : (Jvm.Cond.static ({ cls := "PictureStudioLaw", name := "glyph", desc := "(LPictureStudio;III)I" } : Jvm.MethodName)) ∈ ps_W := ps_in8 75 rfl rfl
theorem ps_w8_76 : (Jvm.Cond.codeWith ({ cls := "PictureStudioLaw", name := "glyph", desc := "(LPictureStudio;III)I" } : Jvm.MethodName) method_37_code (5 : Nat) (Option.some Jvm.ClassFile.FieldType.int) [((0 : Nat), (7 : Nat), (10 : Nat), (19 : Nat))]) ∈ ps_W := ps_in8 76 rfl rfl
theorem ps_w8_77 : (Jvm.Cond.methodLink "PictureStudioLaw" (134 : Nat) ({ cls := "PictureStudio", name := "glyph", desc := "(III)V" } : Jvm.MethodName)) ∈ ps_W := ps_in8 77 rfl rfl
theorem ps_w8_78 : (Jvm.Cond.instanceMethod ({ cls := "PictureStudio", name := "glyph", desc := "(III)V" } : Jvm.MethodName)) ∈ ps_W := ps_in8 78 rfl rfl
theorem ps_w8_79 : (Jvm.Cond.selects "PictureStudio" ({ cls := "PictureStudio", name := "glyph", desc := "(III)V" } : Jvm.MethodName) ({ cls := "PictureStudio", name := "glyph", desc := "(III)V" } : Jvm.MethodName)) ∈ ps_W := ps_in8 79 rfl rfl
theorem ps_w8_80 : (Jvm.Cond.code ({ cls := "PictureStudio", name := "glyph", desc := "(III)V" } : Jvm.MethodName) prog_1_method_62_code (4 : Nat) (Option.none : Option Jvm.ClassFile.FieldType)) ∈ ps_W := ps_in8 80 rfl rfl
theorem ps_w8_81 : (Jvm.Cond.methodLink "PictureStudioLaw" (300 : Nat) ({ cls := "PictureStudioLaw", name := "see", desc := "(LPictureStudio;II[J)I" } : Jvm.MethodName)) ∈ ps_W := ps_in8 81 rfl rfl
theorem ps_w8_82 : (Jvm.Cond.static ({ cls := "PictureStudioLaw", name := "see", desc := "(LPictureStudio;II[J)I" } : Jvm.MethodName)) ∈ ps_W := ps_in8 82 rfl rfl
theorem ps_w8_83 : (Jvm.Cond.codeWith ({ cls := "PictureStudioLaw", name := "see", desc := "(LPictureStudio;II[J)I" } : Jvm.MethodName) method_38_code (5 : Nat) (Option.some Jvm.ClassFile.FieldType.int) [((0 : Nat), (10 : Nat), (13 : Nat), (29 : Nat))]) ∈ ps_W := ps_in8 83 rfl rfl
theorem ps_w8_84 : (Jvm.Cond.methodLink "PictureStudioLaw" (137 : Nat) ({ cls := "PictureStudio", name := "see", desc := "(II)I" } : Jvm.MethodName)) ∈ ps_W := ps_in8 84 rfl rfl
theorem ps_w8_85 : (Jvm.Cond.instanceMethod ({ cls := "PictureStudio", name := "see", desc := "(II)I" } : Jvm.MethodName)) ∈ ps_W := ps_in8 85 rfl rfl
theorem ps_w8_86 : (Jvm.Cond.selects "PictureStudio" ({ cls := "PictureStudio", name := "see", desc := "(II)I" } : Jvm.MethodName) ({ cls := "PictureStudio", name := "see", desc := "(II)I" } : Jvm.MethodName)) ∈ ps_W := ps_in8 86 rfl rfl
theorem ps_w8_87 : (Jvm.Cond.code ({ cls := "PictureStudio", name := "see", desc := "(II)I" } : Jvm.MethodName) prog_1_method_63_code (3 : Nat) (Option.some Jvm.ClassFile.FieldType.int)) ∈ ps_W := ps_in8 87 rfl rfl
theorem ps_w8_88 : (Jvm.Cond.methodLink "PictureStudio" (559 : Nat) ({ cls := "PictureStudio$Viewer", name := "keeps", desc := "(II)Z" } : Jvm.MethodName)) ∈ ps_W := ps_in8 88 rfl rfl
theorem ps_w8_89 : (Jvm.Cond.instanceMethod ({ cls := "PictureStudio$Viewer", name := "keeps", desc := "(II)Z" } : Jvm.MethodName)) ∈ ps_W := ps_in8 89 rfl rfl
theorem ps_w8_90 : (Jvm.Cond.selects "PictureStudio$Viewer" ({ cls := "PictureStudio$Viewer", name := "keeps", desc := "(II)Z" } : Jvm.MethodName) ({ cls := "PictureStudio$Viewer", name := "keeps", desc := "(II)Z" } : Jvm.MethodName)) ∈ ps_W := ps_in8 90 rfl rfl
theorem ps_w8_91 : (Jvm.Cond.code ({ cls := "PictureStudio$Viewer", name := "keeps", desc := "(II)Z" } : Jvm.MethodName) prog_12_method_5_code (3 : Nat) (Option.some Jvm.ClassFile.FieldType.boolean)) ∈ ps_W := ps_in8 91 rfl rfl
theorem ps_w8_92 : (Jvm.Cond.methodLink "PictureStudio$Viewer" (51 : Nat) ({ cls := "PictureStudio$Viewer", name := "tileOf", desc := "(II)I" } : Jvm.MethodName)) ∈ ps_W := ps_in8 92 rfl rfl
theorem ps_w8_93 : (Jvm.Cond.static ({ cls := "PictureStudio$Viewer", name := "tileOf", desc := "(II)I" } : Jvm.MethodName)) ∈ ps_W := ps_in8 93 rfl rfl
theorem ps_w8_94 : (Jvm.Cond.code ({ cls := "PictureStudio$Viewer", name := "tileOf", desc := "(II)I" } : Jvm.MethodName) prog_12_method_4_code (2 : Nat) (Option.some Jvm.ClassFile.FieldType.int)) ∈ ps_W := ps_in8 94 rfl rfl
theorem ps_w8_96 : (Jvm.Cond.methodLink "PictureStudio" (562 : Nat) ({ cls := "PictureStudio$Viewer", name := "keep", desc := "(IIII[I)V" } : Jvm.MethodName)) ∈ ps_W := ps_in8 96 rfl rfl
theorem ps_w8_97 : (Jvm.Cond.instanceMethod ({ cls := "PictureStudio$Viewer", name := "keep", desc := "(IIII[I)V" } : Jvm.MethodName)) ∈ ps_W := ps_in8 97 rfl rfl
theorem ps_w8_98 : (Jvm.Cond.selects "PictureStudio$Viewer" ({ cls := "PictureStudio$Viewer", name := "keep", desc := "(IIII[I)V" } : Jvm.MethodName) ({ cls := "PictureStudio$Viewer", name := "keep", desc := "(IIII[I)V" } : Jvm.MethodName)) ∈ ps_W := ps_in8 98 rfl rfl
theorem ps_w8_99 : (Jvm.Cond.code ({ cls := "PictureStudio$Viewer", name := "keep", desc := "(IIII[I)V" } : Jvm.MethodName) prog_12_method_6_code (11 : Nat) (Option.none : Option Jvm.ClassFile.FieldType)) ∈ ps_W := ps_in8 99 rfl rfl
theorem ps_w8_100 : (Jvm.Cond.methodLink "PictureStudio$Viewer" (55 : Nat) ({ cls := "java/lang/Math", name := "max", desc := "(II)I" } : Jvm.MethodName)) ∈ ps_W := ps_in8 100 rfl rfl
theorem ps_w8_101 : (Jvm.Cond.methodLink "PictureStudio" (566 : Nat) ({ cls := "PictureStudio$Viewer", name := "keptAt", desc := "(III)I" } : Jvm.MethodName)) ∈ ps_W := ps_in8 101 rfl rfl
theorem ps_w8_102 : (Jvm.Cond.instanceMethod ({ cls := "PictureStudio$Viewer", name := "keptAt", desc := "(III)I" } : Jvm.MethodName)) ∈ ps_W := ps_in8 102 rfl rfl
theorem ps_w8_103 : (Jvm.Cond.selects "PictureStudio$Viewer" ({ cls := "PictureStudio$Viewer", name := "keptAt", desc := "(III)I" } : Jvm.MethodName) ({ cls := "PictureStudio$Viewer", name := "keptAt", desc := "(III)I" } : Jvm.MethodName)) ∈ ps_W := ps_in8 103 rfl rfl
theorem ps_w8_104 : (Jvm.Cond.code ({ cls := "PictureStudio$Viewer", name := "keptAt", desc := "(III)I" } : Jvm.MethodName) prog_12_method_7_code (4 : Nat) (Option.some Jvm.ClassFile.FieldType.int)) ∈ ps_W := ps_in8 104 rfl rfl
theorem ps_w8_105 : (Jvm.Cond.methodLink "PictureStudioLaw" (303 : Nat) ({ cls := "PictureStudioLaw", name := "zoomed", desc := "(LPictureStudio;III[J)I" } : Jvm.MethodName)) ∈ ps_W := ps_in8 105 rfl rfl
theorem ps_w8_106 : (Jvm.Cond.static ({ cls := "PictureStudioLaw", name := "zoomed", desc := "(LPictureStudio;III[J)I" } : Jvm.MethodName)) ∈ ps_W := ps_in8 106 rfl rfl
theorem ps_w8_107 : (Jvm.Cond.codeWith ({ cls := "PictureStudioLaw", name := "zoomed", desc := "(LPictureStudio;III[J)I" } : Jvm.MethodName) method_39_code (6 : Nat) (Option.some Jvm.ClassFile.FieldType.int) [((0 : Nat), (12 : Nat), (15 : Nat), (19 : Nat)), ((0 : Nat), (12 : Nat), (19 : Nat), (29 : Nat))]) ∈ ps_W := ps_in8 107 rfl rfl
theorem ps_w8_108 : (Jvm.Cond.methodLink "PictureStudioLaw" (140 : Nat) ({ cls := "PictureStudio", name := "zoomed", desc := "(III)I" } : Jvm.MethodName)) ∈ ps_W := ps_in8 108 rfl rfl
theorem ps_w8_109 : (Jvm.Cond.instanceMethod ({ cls := "PictureStudio", name := "zoomed", desc := "(III)I" } : Jvm.MethodName)) ∈ ps_W := ps_in8 109 rfl rfl
theorem ps_w8_110 : (Jvm.Cond.selects "PictureStudio" ({ cls := "PictureStudio", name := "zoomed", desc := "(III)I" } : Jvm.MethodName) ({ cls := "PictureStudio", name := "zoomed", desc := "(III)I" } : Jvm.MethodName)) ∈ ps_W := ps_in8 110 rfl rfl
theorem ps_w8_111 : (Jvm.Cond.code ({ cls := "PictureStudio", name := "zoomed", desc := "(III)I" } : Jvm.MethodName) prog_1_method_64_code (4 : Nat) (Option.some Jvm.ClassFile.FieldType.int)) ∈ ps_W := ps_in8 111 rfl rfl
theorem ps_w8_113 : (Jvm.Cond.methodLink "PictureStudio" (571 : Nat) ({ cls := "PictureStudio$Viewer", name := "zoomedOf", desc := "([IIIIII)I" } : Jvm.MethodName)) ∈ ps_W := ps_in8 113 rfl rfl
theorem ps_w8_114 : (Jvm.Cond.instanceMethod ({ cls := "PictureStudio$Viewer", name := "zoomedOf", desc := "([IIIIII)I" } : Jvm.MethodName)) ∈ ps_W := ps_in8 114 rfl rfl
theorem ps_w8_115 : (Jvm.Cond.selects "PictureStudio$Viewer" ({ cls := "PictureStudio$Viewer", name := "zoomedOf", desc := "([IIIIII)I" } : Jvm.MethodName) ({ cls := "PictureStudio$Viewer", name := "zoomedOf", desc := "([IIIIII)I" } : Jvm.MethodName)) ∈ ps_W := ps_in8 115 rfl rfl
theorem ps_w8_116 : (Jvm.Cond.code ({ cls := "PictureStudio$Viewer", name := "zoomedOf", desc := "([IIIIII)I" } : Jvm.MethodName) prog_12_method_15_code (15 : Nat) (Option.some Jvm.ClassFile.FieldType.int)) ∈ ps_W := ps_in8 116 rfl rfl
theorem ps_w8_121 : (Jvm.Cond.methodLink "PictureStudioLaw" (310 : Nat) ({ cls := "PictureStudioLaw", name := "pixel", desc := "(LPictureStudio;III[J)I" } : Jvm.MethodName)) ∈ ps_W := ps_in8 121 rfl rfl
theorem ps_w8_122 : (Jvm.Cond.static ({ cls := "PictureStudioLaw", name := "pixel", desc := "(LPictureStudio;III[J)I" } : Jvm.MethodName)) ∈ ps_W := ps_in8 122 rfl rfl
theorem ps_w8_123 : (Jvm.Cond.codeWith ({ cls := "PictureStudioLaw", name := "pixel", desc := "(LPictureStudio;III[J)I" } : Jvm.MethodName) method_40_code (6 : Nat) (Option.some Jvm.ClassFile.FieldType.int) [((0 : Nat), (12 : Nat), (15 : Nat), (29 : Nat))]) ∈ ps_W := ps_in8 123 rfl rfl
theorem ps_w8_124 : (Jvm.Cond.methodLink "PictureStudioLaw" (143 : Nat) ({ cls := "PictureStudio", name := "pixel", desc := "(III)I" } : Jvm.MethodName)) ∈ ps_W := ps_in8 124 rfl rfl
theorem ps_w8_125 : (Jvm.Cond.instanceMethod ({ cls := "PictureStudio", name := "pixel", desc := "(III)I" } : Jvm.MethodName)) ∈ ps_W := ps_in8 125 rfl rfl
theorem ps_w8_126 : (Jvm.Cond.selects "PictureStudio" ({ cls := "PictureStudio", name := "pixel", desc := "(III)I" } : Jvm.MethodName) ({ cls := "PictureStudio", name := "pixel", desc := "(III)I" } : Jvm.MethodName)) ∈ ps_W := ps_in8 126 rfl rfl
theorem ps_w8_127 : (Jvm.Cond.code ({ cls := "PictureStudio", name := "pixel", desc := "(III)I" } : Jvm.MethodName) prog_1_method_66_code (5 : Nat) (Option.some Jvm.ClassFile.FieldType.int)) ∈ ps_W := ps_in8 127 rfl rfl
theorem ps_w8_128 : (Jvm.Cond.methodLink "PictureStudioLaw" (313 : Nat) ({ cls := "PictureStudioLaw", name := "masked", desc := "(LPictureStudio;III[J)I" } : Jvm.MethodName)) ∈ ps_W := ps_in8 128 rfl rfl
theorem ps_w8_129 : (Jvm.Cond.static ({ cls := "PictureStudioLaw", name := "masked", desc := "(LPictureStudio;III[J)I" } : Jvm.MethodName)) ∈ ps_W := ps_in8 129 rfl rfl
theorem ps_w8_130 : (Jvm.Cond.codeWith ({ cls := "PictureStudioLaw", name := "masked", desc := "(LPictureStudio;III[J)I" } : Jvm.MethodName) method_41_code (6 : Nat) (Option.some Jvm.ClassFile.FieldType.int) [((0 : Nat), (12 : Nat), (15 : Nat), (29 : Nat))]) ∈ ps_W := ps_in8 130 rfl rfl
theorem ps_w8_131 : (Jvm.Cond.methodLink "PictureStudioLaw" (146 : Nat) ({ cls := "PictureStudio", name := "masked", desc := "(III)I" } : Jvm.MethodName)) ∈ ps_W := ps_in8 131 rfl rfl
theorem ps_w8_132 : (Jvm.Cond.instanceMethod ({ cls := "PictureStudio", name := "masked", desc := "(III)I" } : Jvm.MethodName)) ∈ ps_W := ps_in8 132 rfl rfl
theorem ps_w8_133 : (Jvm.Cond.selects "PictureStudio" ({ cls := "PictureStudio", name := "masked", desc := "(III)I" } : Jvm.MethodName) ({ cls := "PictureStudio", name := "masked", desc := "(III)I" } : Jvm.MethodName)) ∈ ps_W := ps_in8 133 rfl rfl
theorem ps_w8_134 : (Jvm.Cond.code ({ cls := "PictureStudio", name := "masked", desc := "(III)I" } : Jvm.MethodName) prog_1_method_67_code (5 : Nat) (Option.some Jvm.ClassFile.FieldType.int)) ∈ ps_W := ps_in8 134 rfl rfl
theorem ps_w8_135 : (Jvm.Cond.methodLink "PictureStudioLaw" (316 : Nat) ({ cls := "PictureStudioLaw", name := "about", desc := "(LPictureStudio;II[J)I" } : Jvm.MethodName)) ∈ ps_W := ps_in8 135 rfl rfl
theorem ps_w8_136 : (Jvm.Cond.static ({ cls := "PictureStudioLaw", name := "about", desc := "(LPictureStudio;II[J)I" } : Jvm.MethodName)) ∈ ps_W := ps_in8 136 rfl rfl
theorem ps_w8_137 : (Jvm.Cond.codeWith ({ cls := "PictureStudioLaw", name := "about", desc := "(LPictureStudio;II[J)I" } : Jvm.MethodName) method_42_code (5 : Nat) (Option.some Jvm.ClassFile.FieldType.int) [((0 : Nat), (10 : Nat), (13 : Nat), (19 : Nat)), ((0 : Nat), (10 : Nat), (17 : Nat), (29 : Nat))]) ∈ ps_W := ps_in8 137 rfl rfl
theorem ps_w8_138 : (Jvm.Cond.methodLink "PictureStudioLaw" (149 : Nat) ({ cls := "PictureStudio", name := "about", desc := "(II)I" } : Jvm.MethodName)) ∈ ps_W := ps_in8 138 rfl rfl
theorem ps_w8_139 : (Jvm.Cond.instanceMethod ({ cls := "PictureStudio", name := "about", desc := "(II)I" } : Jvm.MethodName)) ∈ ps_W := ps_in8 139 rfl rfl
theorem ps_w8_140 : (Jvm.Cond.selects "PictureStudio" ({ cls := "PictureStudio", name := "about", desc := "(II)I" } : Jvm.MethodName) ({ cls := "PictureStudio", name := "about", desc := "(II)I" } : Jvm.MethodName)) ∈ ps_W := ps_in8 140 rfl rfl
theorem ps_w8_141 : (Jvm.Cond.code ({ cls := "PictureStudio", name := "about", desc := "(II)I" } : Jvm.MethodName) prog_1_method_68_code (4 : Nat) (Option.some Jvm.ClassFile.FieldType.int)) ∈ ps_W := ps_in8 141 rfl rfl
theorem ps_w8_142 : (Jvm.Cond.methodLink "PictureStudio" (575 : Nat) ({ cls := "PictureStudio$Layer", name := "setting", desc := "(I)I" } : Jvm.MethodName)) ∈ ps_W := ps_in8 142 rfl rfl
theorem ps_w8_143 : (Jvm.Cond.instanceMethod ({ cls := "PictureStudio$Layer", name := "setting", desc := "(I)I" } : Jvm.MethodName)) ∈ ps_W := ps_in8 143 rfl rfl
theorem ps_w8_144 : (Jvm.Cond.selects "PictureStudio$Layer" ({ cls := "PictureStudio$Layer", name := "setting", desc := "(I)I" } : Jvm.MethodName) ({ cls := "PictureStudio$Layer", name := "setting", desc := "(I)I" } : Jvm.MethodName)) ∈ ps_W := ps_in8 144 rfl rfl
theorem ps_w8_145 : (Jvm.Cond.code ({ cls := "PictureStudio$Layer", name := "setting", desc := "(I)I" } : Jvm.MethodName) prog_6_method_9_code (2 : Nat) (Option.some Jvm.ClassFile.FieldType.int)) ∈ ps_W := ps_in8 145 rfl rfl
theorem ps_w8_146 : (Jvm.Cond.methodLink "PictureStudio" (578 : Nat) ({ cls := "PictureStudio$Stand", name := "placeOf", desc := "(LPictureStudio$Layer;)I" } : Jvm.MethodName)) ∈ ps_W := ps_in8 146 rfl rfl
theorem ps_w8_147 : (Jvm.Cond.instanceMethod ({ cls := "PictureStudio$Stand", name := "placeOf", desc := "(LPictureStudio$Layer;)I" } : Jvm.MethodName)) ∈ ps_W := ps_in8 147 rfl rfl
theorem ps_w8_148 : (Jvm.Cond.selects "PictureStudio$Stand" ({ cls := "PictureStudio$Stand", name := "placeOf", desc := "(LPictureStudio$Layer;)I" } : Jvm.MethodName) ({ cls := "PictureStudio$Stand", name := "placeOf", desc := "(LPictureStudio$Layer;)I" } : Jvm.MethodName)) ∈ ps_W := ps_in8 148 rfl rfl
theorem ps_w8_149 : (Jvm.Cond.code ({ cls := "PictureStudio$Stand", name := "placeOf", desc := "(LPictureStudio$Layer;)I" } : Jvm.MethodName) prog_11_method_7_code (5 : Nat) (Option.some Jvm.ClassFile.FieldType.int)) ∈ ps_W := ps_in8 149 rfl rfl
theorem ps_w8_150 : (Jvm.Cond.methodLink "PictureStudioLaw" (319 : Nat) ({ cls := "PictureStudioLaw", name := "made", desc := "(LPictureStudio;I[J)I" } : Jvm.MethodName)) ∈ ps_W := ps_in8 150 rfl rfl
theorem ps_w8_151 : (Jvm.Cond.static ({ cls := "PictureStudioLaw", name := "made", desc := "(LPictureStudio;I[J)I" } : Jvm.MethodName)) ∈ ps_W := ps_in8 151 rfl rfl
theorem ps_w8_152 : (Jvm.Cond.codeWith ({ cls := "PictureStudioLaw", name := "made", desc := "(LPictureStudio;I[J)I" } : Jvm.MethodName) method_43_code (4 : Nat) (Option.some Jvm.ClassFile.FieldType.int) [((0 : Nat), (9 : Nat), (12 : Nat), (29 : Nat))]) ∈ ps_W := ps_in8 152 rfl rfl
theorem ps_w8_153 : (Jvm.Cond.methodLink "PictureStudioLaw" (152 : Nat) ({ cls := "PictureStudio", name := "made", desc := "(I)I" } : Jvm.MethodName)) ∈ ps_W := ps_in8 153 rfl rfl
theorem ps_w8_154 : (Jvm.Cond.instanceMethod ({ cls := "PictureStudio", name := "made", desc := "(I)I" } : Jvm.MethodName)) ∈ ps_W := ps_in8 154 rfl rfl
theorem ps_w8_155 : (Jvm.Cond.selects "PictureStudio" ({ cls := "PictureStudio", name := "made", desc := "(I)I" } : Jvm.MethodName) ({ cls := "PictureStudio", name := "made", desc := "(I)I" } : Jvm.MethodName)) ∈ ps_W := ps_in8 155 rfl rfl
theorem ps_w8_156 : (Jvm.Cond.code ({ cls := "PictureStudio", name := "made", desc := "(I)I" } : Jvm.MethodName) prog_1_method_69_code (3 : Nat) (Option.some Jvm.ClassFile.FieldType.int)) ∈ ps_W := ps_in8 156 rfl rfl
theorem ps_w8_157 : (Jvm.Cond.methodLink "PictureStudio" (582 : Nat) ({ cls := "PictureStudio$PngMaker", name := "write", desc := "([III)V" } : Jvm.MethodName)) ∈ ps_W := ps_in8 157 rfl rfl
theorem ps_w8_158 : (Jvm.Cond.instanceMethod ({ cls := "PictureStudio$PngMaker", name := "write", desc := "([III)V" } : Jvm.MethodName)) ∈ ps_W := ps_in8 158 rfl rfl
theorem ps_w8_159 : (Jvm.Cond.selects "PictureStudio$PngMaker" ({ cls := "PictureStudio$PngMaker", name := "write", desc := "([III)V" } : Jvm.MethodName) ({ cls := "PictureStudio$PngMaker", name := "write", desc := "([III)V" } : Jvm.MethodName)) ∈ ps_W := ps_in8 159 rfl rfl
theorem ps_w8_160 : (Jvm.Cond.code ({ cls := "PictureStudio$PngMaker", name := "write", desc := "([III)V" } : Jvm.MethodName) prog_9_method_2_code (5 : Nat) (Option.none : Option Jvm.ClassFile.FieldType)) ∈ ps_W := ps_in8 160 rfl rfl
theorem ps_w8_162 : (Jvm.Cond.methodLink "PictureStudio$PngMaker" (25 : Nat) ({ cls := "PictureStudio$PngMaker", name := "octet", desc := "(I)V" } : Jvm.MethodName)) ∈ ps_W := ps_in8 162 rfl rfl
theorem ps_w8_164 : (Jvm.Cond.instanceMethod ({ cls := "PictureStudio$PngMaker", name := "octet", desc := "(I)V" } : Jvm.MethodName)) ∈ ps_W := ps_in8 164 rfl rfl
theorem ps_w8_165 : (Jvm.Cond.code ({ cls := "PictureStudio$PngMaker", name := "octet", desc := "(I)V" } : Jvm.MethodName) prog_9_method_4_code (2 : Nat) (Option.none : Option Jvm.ClassFile.FieldType)) ∈ ps_W := ps_in8 165 rfl rfl
theorem ps_w8_166 : (Jvm.Cond.constant "PictureStudio$PngMaker" (29 : Nat) (1229472850 : Int32)) ∈ ps_W := ps_in8 166 rfl rfl
theorem ps_w8_167 : (Jvm.Cond.methodLink "PictureStudio$PngMaker" (30 : Nat) ({ cls := "PictureStudio$PngMaker", name := "beginChunk", desc := "(I)I" } : Jvm.MethodName)) ∈ ps_W := ps_in8 167 rfl rfl
theorem ps_w8_169 : (Jvm.Cond.instanceMethod ({ cls := "PictureStudio$PngMaker", name := "beginChunk", desc := "(I)I" } : Jvm.MethodName)) ∈ ps_W := ps_in8 169 rfl rfl
theorem ps_w8_170 : (Jvm.Cond.code ({ cls := "PictureStudio$PngMaker", name := "beginChunk", desc := "(I)I" } : Jvm.MethodName) prog_9_method_6_code (3 : Nat) (Option.some Jvm.ClassFile.FieldType.int)) ∈ ps_W := ps_in8 170 rfl rfl
theorem ps_w8_171 : (Jvm.Cond.methodLink "PictureStudio$PngMaker" (34 : Nat) ({ cls := "PictureStudio$PngMaker", name := "four", desc := "(I)V" } : Jvm.MethodName)) ∈ ps_W := ps_in8 171 rfl rfl
theorem ps_w8_173 : (Jvm.Cond.instanceMethod ({ cls := "PictureStudio$PngMaker", name := "four", desc := "(I)V" } : Jvm.MethodName)) ∈ ps_W := ps_in8 173 rfl rfl
theorem ps_w8_174 : (Jvm.Cond.code ({ cls := "PictureStudio$PngMaker", name := "four", desc := "(I)V" } : Jvm.MethodName) prog_9_method_5_code (2 : Nat) (Option.none : Option Jvm.ClassFile.FieldType)) ∈ ps_W := ps_in8 174 rfl rfl
theorem ps_w8_175 : (Jvm.Cond.methodLink "PictureStudio$PngMaker" (37 : Nat) ({ cls := "PictureStudio$PngMaker", name := "endChunk", desc := "(I)V" } : Jvm.MethodName)) ∈ ps_W := ps_in8 175 rfl rfl
theorem ps_w8_177 : (Jvm.Cond.instanceMethod ({ cls := "PictureStudio$PngMaker", name := "endChunk", desc := "(I)V" } : Jvm.MethodName)) ∈ ps_W := ps_in8 177 rfl rfl
theorem ps_w8_178 : (Jvm.Cond.code ({ cls := "PictureStudio$PngMaker", name := "endChunk", desc := "(I)V" } : Jvm.MethodName) prog_9_method_7_code (4 : Nat) (Option.none : Option Jvm.ClassFile.FieldType)) ∈ ps_W := ps_in8 178 rfl rfl
theorem ps_w8_180 : (Jvm.Cond.constant "PictureStudio$PngMaker" (40 : Nat) (1229209940 : Int32)) ∈ ps_W := ps_in8 180 rfl rfl
theorem ps_w8_181 : (Jvm.Cond.methodLink "PictureStudio$PngMaker" (41 : Nat) ({ cls := "PictureStudio$PngMaker", name := "filterRows", desc := "([III)V" } : Jvm.MethodName)) ∈ ps_W := ps_in8 181 rfl rfl
theorem ps_w8_183 : (Jvm.Cond.instanceMethod ({ cls := "PictureStudio$PngMaker", name := "filterRows", desc := "([III)V" } : Jvm.MethodName)) ∈ ps_W := ps_in8 183 rfl rfl
theorem ps_w8_184 : (Jvm.Cond.code ({ cls := "PictureStudio$PngMaker", name := "filterRows", desc := "([III)V" } : Jvm.MethodName) prog_9_method_10_code (11 : Nat) (Option.none : Option Jvm.ClassFile.FieldType)) ∈ ps_W := ps_in8 184 rfl rfl
theorem ps_w8_185 : (Jvm.Cond.constant "PictureStudio$PngMaker" (68 : Nat) (1073741824 : Int32)) ∈ ps_W := ps_in8 185 rfl rfl
theorem ps_w8_186 : (Jvm.Cond.methodLink "PictureStudio$PngMaker" (69 : Nat) ({ cls := "PictureStudio$PngMaker", name := "lessForetold", desc := "(I[IIII)I" } : Jvm.MethodName)) ∈ ps_W := ps_in8 186 rfl rfl
theorem ps_w8_187 : (Jvm.Cond.static ({ cls := "PictureStudio$PngMaker", name := "lessForetold", desc := "(I[IIII)I" } : Jvm.MethodName)) ∈ ps_W := ps_in8 187 rfl rfl
theorem ps_w8_188 : (Jvm.Cond.code ({ cls := "PictureStudio$PngMaker", name := "lessForetold", desc := "(I[IIII)I" } : Jvm.MethodName) prog_9_method_9_code (5 : Nat) (Option.some Jvm.ClassFile.FieldType.int)) ∈ ps_W := ps_in8 188 rfl rfl
theorem ps_w8_189 : (Jvm.Cond.methodLink "PictureStudio$PngMaker" (60 : Nat) ({ cls := "PictureStudio$PngMaker", name := "byteAt", desc := "([IIII)I" } : Jvm.MethodName)) ∈ ps_W := ps_in8 189 rfl rfl
theorem ps_w8_190 : (Jvm.Cond.static ({ cls := "PictureStudio$PngMaker", name := "byteAt", desc := "([IIII)I" } : Jvm.MethodName)) ∈ ps_W := ps_in8 190 rfl rfl
theorem ps_w8_191 : (Jvm.Cond.code ({ cls := "PictureStudio$PngMaker", name := "byteAt", desc := "([IIII)I" } : Jvm.MethodName) prog_9_method_8_code (6 : Nat) (Option.some Jvm.ClassFile.FieldType.int)) ∈ ps_W := ps_in8 191 rfl rfl
theorem ps_w8_193 : (Jvm.Cond.methodLink "PictureStudio$PngMaker" (73 : Nat) ({ cls := "PictureStudio$PngMaker", name := "rowByte", desc := "(I)V" } : Jvm.MethodName)) ∈ ps_W := ps_in8 193 rfl rfl
theorem ps_w8_195 : (Jvm.Cond.instanceMethod ({ cls := "PictureStudio$PngMaker", name := "rowByte", desc := "(I)V" } : Jvm.MethodName)) ∈ ps_W := ps_in8 195 rfl rfl
theorem ps_w8_196 : (Jvm.Cond.code ({ cls := "PictureStudio$PngMaker", name := "rowByte", desc := "(I)V" } : Jvm.MethodName) prog_9_method_11_code (2 : Nat) (Option.none : Option Jvm.ClassFile.FieldType)) ∈ ps_W := ps_in8 196 rfl rfl
theorem ps_w8_197 : (Jvm.Cond.methodLink "PictureStudio$PngMaker" (45 : Nat) ({ cls := "PictureStudio$PngMaker", name := "deflate", desc := "()V" } : Jvm.MethodName)) ∈ ps_W := ps_in8 197 rfl rfl
theorem ps_w8_199 : (Jvm.Cond.instanceMethod ({ cls := "PictureStudio$PngMaker", name := "deflate", desc := "()V" } : Jvm.MethodName)) ∈ ps_W := ps_in8 199 rfl rfl
theorem ps_w8_200 : (Jvm.Cond.code ({ cls := "PictureStudio$PngMaker", name := "deflate", desc := "()V" } : Jvm.MethodName) prog_9_method_12_code (5 : Nat) (Option.none : Option Jvm.ClassFile.FieldType)) ∈ ps_W := ps_in8 200 rfl rfl
theorem ps_w8_201 : (Jvm.Cond.methodLink "PictureStudio$PngMaker" (82 : Nat) ({ cls := "PictureStudio$PngMaker", name := "addBits", desc := "(II)V" } : Jvm.MethodName)) ∈ ps_W := ps_in8 201 rfl rfl
theorem ps_w8_203 : (Jvm.Cond.instanceMethod ({ cls := "PictureStudio$PngMaker", name := "addBits", desc := "(II)V" } : Jvm.MethodName)) ∈ ps_W := ps_in8 203 rfl rfl
theorem ps_w8_204 : (Jvm.Cond.code ({ cls := "PictureStudio$PngMaker", name := "addBits", desc := "(II)V" } : Jvm.MethodName) prog_9_method_18_code (4 : Nat) (Option.none : Option Jvm.ClassFile.FieldType)) ∈ ps_W := ps_in8 204 rfl rfl
theorem ps_w8_205 : (Jvm.Cond.methodLink "PictureStudio$PngMaker" (86 : Nat) ({ cls := "PictureStudio$PngMaker", name := "nearestLongest", desc := "(I)I" } : Jvm.MethodName)) ∈ ps_W := ps_in8 205 rfl rfl
theorem ps_w8_207 : (Jvm.Cond.instanceMethod ({ cls := "PictureStudio$PngMaker", name := "nearestLongest", desc := "(I)I" } : Jvm.MethodName)) ∈ ps_W := ps_in8 207 rfl rfl
theorem ps_w8_208 : (Jvm.Cond.code ({ cls := "PictureStudio$PngMaker", name := "nearestLongest", desc := "(I)I" } : Jvm.MethodName) prog_9_method_14_code (6 : Nat) (Option.some Jvm.ClassFile.FieldType.int)) ∈ ps_W := ps_in8 208 rfl rfl
theorem ps_w8_209 : (Jvm.Cond.methodLink "PictureStudio$PngMaker" (89 : Nat) ({ cls := "PictureStudio$PngMaker", name := "matchAt", desc := "(II)I" } : Jvm.MethodName)) ∈ ps_W := ps_in8 209 rfl rfl
theorem ps_w8_211 : (Jvm.Cond.instanceMethod ({ cls := "PictureStudio$PngMaker", name := "matchAt", desc := "(II)I" } : Jvm.MethodName)) ∈ ps_W := ps_in8 211 rfl rfl
theorem ps_w8_212 : (Jvm.Cond.code ({ cls := "PictureStudio$PngMaker", name := "matchAt", desc := "(II)I" } : Jvm.MethodName) prog_9_method_13_code (4 : Nat) (Option.some Jvm.ClassFile.FieldType.int)) ∈ ps_W := ps_in8 212 rfl rfl
theorem ps_w8_213 : (Jvm.Cond.methodLink "PictureStudio$PngMaker" (93 : Nat) ({ cls := "PictureStudio$PngMaker", name := "addMatch", desc := "(II)V" } : Jvm.MethodName)) ∈ ps_W := ps_in8 213 rfl rfl
theorem ps_w8_215 : (Jvm.Cond.instanceMethod ({ cls := "PictureStudio$PngMaker", name := "addMatch", desc := "(II)V" } : Jvm.MethodName)) ∈ ps_W := ps_in8 215 rfl rfl
theorem ps_w8_216 : (Jvm.Cond.code ({ cls := "PictureStudio$PngMaker", name := "addMatch", desc := "(II)V" } : Jvm.MethodName) prog_9_method_15_code (5 : Nat) (Option.none : Option Jvm.ClassFile.FieldType)) ∈ ps_W := ps_in8 216 rfl rfl
theorem ps_w8_218 : (Jvm.Cond.methodLink "PictureStudio$PngMaker" (96 : Nat) ({ cls := "PictureStudio$PngMaker", name := "addSymbol", desc := "(I)V" } : Jvm.MethodName)) ∈ ps_W := ps_in8 218 rfl rfl
theorem ps_w8_220 : (Jvm.Cond.instanceMethod ({ cls := "PictureStudio$PngMaker", name := "addSymbol", desc := "(I)V" } : Jvm.MethodName)) ∈ ps_W := ps_in8 220 rfl rfl
theorem ps_w8_221 : (Jvm.Cond.code ({ cls := "PictureStudio$PngMaker", name := "addSymbol", desc := "(I)V" } : Jvm.MethodName) prog_9_method_16_code (2 : Nat) (Option.none : Option Jvm.ClassFile.FieldType)) ∈ ps_W := ps_in8 221 rfl rfl
theorem ps_w8_222 : (Jvm.Cond.methodLink "PictureStudio$PngMaker" (108 : Nat) ({ cls := "PictureStudio$PngMaker", name := "addCode", desc := "(II)V" } : Jvm.MethodName)) ∈ ps_W := ps_in8 222 rfl rfl
theorem ps_w8_224 : (Jvm.Cond.instanceMethod ({ cls := "PictureStudio$PngMaker", name := "addCode", desc := "(II)V" } : Jvm.MethodName)) ∈ ps_W := ps_in8 224 rfl rfl
theorem ps_w8_225 : (Jvm.Cond.code ({ cls := "PictureStudio$PngMaker", name := "addCode", desc := "(II)V" } : Jvm.MethodName) prog_9_method_17_code (4 : Nat) (Option.none : Option Jvm.ClassFile.FieldType)) ∈ ps_W := ps_in8 225 rfl rfl
theorem ps_w8_230 : (Jvm.Cond.constant "PictureStudio$PngMaker" (55 : Nat) (1229278788 : Int32)) ∈ ps_W := ps_in8 230 rfl rfl
theorem ps_w8_231 : (Jvm.Cond.methodLink "PictureStudioLaw" (322 : Nat) ({ cls := "PictureStudioLaw", name := "octets", desc := "(LPictureStudio;I[J)I" } : Jvm.MethodName)) ∈ ps_W := ps_in8 231 rfl rfl
theorem ps_w8_232 : (Jvm.Cond.static ({ cls := "PictureStudioLaw", name := "octets", desc := "(LPictureStudio;I[J)I" } : Jvm.MethodName)) ∈ ps_W := ps_in8 232 rfl rfl
theorem ps_w8_233 : (Jvm.Cond.codeWith ({ cls := "PictureStudioLaw", name := "octets", desc := "(LPictureStudio;I[J)I" } : Jvm.MethodName) method_44_code (4 : Nat) (Option.some Jvm.ClassFile.FieldType.int) [((0 : Nat), (8 : Nat), (11 : Nat), (19 : Nat))]) ∈ ps_W := ps_in8 233 rfl rfl
theorem ps_w8_234 : (Jvm.Cond.methodLink "PictureStudioLaw" (155 : Nat) ({ cls := "PictureStudio", name := "octets", desc := "(I)J" } : Jvm.MethodName)) ∈ ps_W := ps_in8 234 rfl rfl
theorem ps_w8_235 : (Jvm.Cond.instanceMethod ({ cls := "PictureStudio", name := "octets", desc := "(I)J" } : Jvm.MethodName)) ∈ ps_W := ps_in8 235 rfl rfl
theorem ps_w8_236 : (Jvm.Cond.selects "PictureStudio" ({ cls := "PictureStudio", name := "octets", desc := "(I)J" } : Jvm.MethodName) ({ cls := "PictureStudio", name := "octets", desc := "(I)J" } : Jvm.MethodName)) ∈ ps_W := ps_in8 236 rfl rfl
theorem ps_w8_237 : (Jvm.Cond.code ({ cls := "PictureStudio", name := "octets", desc := "(I)J" } : Jvm.MethodName) prog_1_method_70_code (2 : Nat) (Option.some Jvm.ClassFile.FieldType.long)) ∈ ps_W := ps_in8 237 rfl rfl
theorem ps_w8_238 : (Jvm.Cond.methodLink "PictureStudio" (588 : Nat) ({ cls := "PictureStudio$PngMaker", name := "eight", desc := "(I)J" } : Jvm.MethodName)) ∈ ps_W := ps_in8 238 rfl rfl
theorem ps_w8_239 : (Jvm.Cond.instanceMethod ({ cls := "PictureStudio$PngMaker", name := "eight", desc := "(I)J" } : Jvm.MethodName)) ∈ ps_W := ps_in8 239 rfl rfl
theorem ps_w9_0 : (Jvm.Cond.selects "PictureStudio$PngMaker" ({ cls := "PictureStudio$PngMaker", name := "eight", desc := "(I)J" } : Jvm.MethodName) ({ cls := "PictureStudio$PngMaker", name := "eight", desc := "(I)J" } : Jvm.MethodName)) ∈ ps_W := ps_in9 0 rfl rfl
theorem ps_w9_1 : (Jvm.Cond.code ({ cls := "PictureStudio$PngMaker", name := "eight", desc := "(I)J" } : Jvm.MethodName) prog_9_method_3_code (5 : Nat) (Option.some Jvm.ClassFile.FieldType.long)) ∈ ps_W := ps_in9 1 rfl rfl
theorem ps_w9_2 : (Jvm.Cond.methodLink "PictureStudioLaw" (325 : Nat) ({ cls := "PictureStudioLaw", name := "undo", desc := "(LPictureStudio;[J)I" } : Jvm.MethodName)) ∈ ps_W := ps_in9 2 rfl rfl
theorem ps_w9_3 : (Jvm.Cond.static ({ cls := "PictureStudioLaw", name := "undo", desc := "(LPictureStudio;[J)I" } : Jvm.MethodName)) ∈ ps_W := ps_in9 3 rfl rfl
theorem ps_w9_4 : (Jvm.Cond.codeWith ({ cls := "PictureStudioLaw", name := "undo", desc := "(LPictureStudio;[J)I" } : Jvm.MethodName) method_45_code (3 : Nat) (Option.some Jvm.ClassFile.FieldType.int) [((0 : Nat), (8 : Nat), (11 : Nat), (39 : Nat))]) ∈ ps_W := ps_in9 4 rfl rfl
theorem ps_w9_5 : (Jvm.Cond.methodLink "PictureStudioLaw" (159 : Nat) ({ cls := "PictureStudio", name := "undo", desc := "()I" } : Jvm.MethodName)) ∈ ps_W := ps_in9 5 rfl rfl
theorem ps_w9_6 : (Jvm.Cond.instanceMethod ({ cls := "PictureStudio", name := "undo", desc := "()I" } : Jvm.MethodName)) ∈ ps_W := ps_in9 6 rfl rfl
theorem ps_w9_7 : (Jvm.Cond.selects "PictureStudio" ({ cls := "PictureStudio", name := "undo", desc := "()I" } : Jvm.MethodName) ({ cls := "PictureStudio", name := "undo", desc := "()I" } : Jvm.MethodName)) ∈ ps_W := ps_in9 7 rfl rfl
theorem ps_w9_8 : (Jvm.Cond.code ({ cls := "PictureStudio", name := "undo", desc := "()I" } : Jvm.MethodName) prog_1_method_20_code (2 : Nat) (Option.some Jvm.ClassFile.FieldType.int)) ∈ ps_W := ps_in9 8 rfl rfl
theorem ps_w9_10 : (Jvm.Cond.methodLink "PictureStudioLaw" (328 : Nat) ({ cls := "PictureStudioLaw", name := "redo", desc := "(LPictureStudio;[J)I" } : Jvm.MethodName)) ∈ ps_W := ps_in9 10 rfl rfl
theorem ps_w9_11 : (Jvm.Cond.static ({ cls := "PictureStudioLaw", name := "redo", desc := "(LPictureStudio;[J)I" } : Jvm.MethodName)) ∈ ps_W := ps_in9 11 rfl rfl
theorem ps_w9_12 : (Jvm.Cond.codeWith ({ cls := "PictureStudioLaw", name := "redo", desc := "(LPictureStudio;[J)I" } : Jvm.MethodName) method_46_code (3 : Nat) (Option.some Jvm.ClassFile.FieldType.int) [((0 : Nat), (8 : Nat), (11 : Nat), (39 : Nat))]) ∈ ps_W := ps_in9 12 rfl rfl
theorem ps_w9_13 : (Jvm.Cond.methodLink "PictureStudioLaw" (162 : Nat) ({ cls := "PictureStudio", name := "redo", desc := "()I" } : Jvm.MethodName)) ∈ ps_W := ps_in9 13 rfl rfl
theorem ps_w9_14 : (Jvm.Cond.instanceMethod ({ cls := "PictureStudio", name := "redo", desc := "()I" } : Jvm.MethodName)) ∈ ps_W := ps_in9 14 rfl rfl
theorem ps_w9_15 : (Jvm.Cond.selects "PictureStudio" ({ cls := "PictureStudio", name := "redo", desc := "()I" } : Jvm.MethodName) ({ cls := "PictureStudio", name := "redo", desc := "()I" } : Jvm.MethodName)) ∈ ps_W := ps_in9 15 rfl rfl
theorem ps_w9_16 : (Jvm.Cond.code ({ cls := "PictureStudio", name := "redo", desc := "()I" } : Jvm.MethodName) prog_1_method_21_code (2 : Nat) (Option.some Jvm.ClassFile.FieldType.int)) ∈ ps_W := ps_in9 16 rfl rfl
theorem ps_w9_18 : (Jvm.Cond.classLink "PictureStudioLaw" (166 : Nat) "PictureStudioModel") ∈ ps_W := ps_in9 18 rfl rfl
theorem ps_w9_19 : (Jvm.Cond.instantiable "PictureStudioModel" (94 : Nat)) ∈ ps_W := ps_in9 19 rfl rfl
theorem ps_w9_20 : (Jvm.Cond.methodLink "PictureStudioLaw" (168 : Nat) ({ cls := "PictureStudioModel", name := "<init>", desc := "()V" } : Jvm.MethodName)) ∈ ps_W := ps_in9 20 rfl rfl
theorem ps_w9_21 : (Jvm.Cond.instanceMethod ({ cls := "PictureStudioModel", name := "<init>", desc := "()V" } : Jvm.MethodName)) ∈ ps_W := ps_in9 21 rfl rfl
theorem ps_w9_22 : (Jvm.Cond.code ({ cls := "PictureStudioModel", name := "<init>", desc := "()V" } : Jvm.MethodName) prog_14_method_1_code (3 : Nat) (Option.none : Option Jvm.ClassFile.FieldType)) ∈ ps_W := ps_in9 22 rfl rfl
theorem ps_w9_23 : (Jvm.Cond.methodLink "PictureStudioModel" (1 : Nat) ({ cls := "java/lang/Object", name := "<init>", desc := "()V" } : Jvm.MethodName)) ∈ ps_W := ps_in9 23 rfl rfl
theorem ps_w9_24 : (Jvm.Cond.constant "PictureStudioModel" (16 : Nat) (35071 : Int32)) ∈ ps_W := ps_in9 24 rfl rfl
theorem ps_w9_25 : (Jvm.Cond.constant "PictureStudioModel" (20 : Nat) (876775 : Int32)) ∈ ps_W := ps_in9 25 rfl rfl
theorem ps_w9_26 : (Jvm.Cond.constant "PictureStudioModel" (71 : Nat) (-16777216 : Int32)) ∈ ps_W := ps_in9 26 rfl rfl
theorem ps_w9_27 : (Jvm.Cond.methodLink "PictureStudioModel" (198 : Nat) ({ cls := "PictureStudioModel", name := "fresh", desc := "(II)V" } : Jvm.MethodName)) ∈ ps_W := ps_in9 27 rfl rfl
theorem ps_w9_29 : (Jvm.Cond.instanceMethod ({ cls := "PictureStudioModel", name := "fresh", desc := "(II)V" } : Jvm.MethodName)) ∈ ps_W := ps_in9 29 rfl rfl
theorem ps_w9_30 : (Jvm.Cond.code ({ cls := "PictureStudioModel", name := "fresh", desc := "(II)V" } : Jvm.MethodName) prog_14_method_19_code (4 : Nat) (Option.none : Option Jvm.ClassFile.FieldType)) ∈ ps_W := ps_in9 30 rfl rfl
theorem ps_w9_31 : (Jvm.Cond.methodLink "PictureStudioModel" (245 : Nat) ({ cls := "PictureStudioModel", name := "keep", desc := "()V" } : Jvm.MethodName)) ∈ ps_W := ps_in9 31 rfl rfl
theorem ps_w9_33 : (Jvm.Cond.instanceMethod ({ cls := "PictureStudioModel", name := "keep", desc := "()V" } : Jvm.MethodName)) ∈ ps_W := ps_in9 33 rfl rfl
theorem ps_w9_34 : (Jvm.Cond.code ({ cls := "PictureStudioModel", name := "keep", desc := "()V" } : Jvm.MethodName) prog_14_method_20_code (2 : Nat) (Option.none : Option Jvm.ClassFile.FieldType)) ∈ ps_W := ps_in9 34 rfl rfl
theorem ps_w9_35 : (Jvm.Cond.methodLink "PictureStudioModel" (248 : Nat) ({ cls := "PictureStudioModel", name := "forget", desc := "()V" } : Jvm.MethodName)) ∈ ps_W := ps_in9 35 rfl rfl
theorem ps_w9_37 : (Jvm.Cond.instanceMethod ({ cls := "PictureStudioModel", name := "forget", desc := "()V" } : Jvm.MethodName)) ∈ ps_W := ps_in9 37 rfl rfl
theorem ps_w9_38 : (Jvm.Cond.code ({ cls := "PictureStudioModel", name := "forget", desc := "()V" } : Jvm.MethodName) prog_14_method_66_code (2 : Nat) (Option.none : Option Jvm.ClassFile.FieldType)) ∈ ps_W := ps_in9 38 rfl rfl
theorem ps_w9_39 : (Jvm.Cond.fieldLink "PictureStudioModel" (202 : Nat) "PictureStudioModel" "thrown" "I") ∈ ps_W := ps_in9 39 rfl rfl
theorem ps_w9_40 : (Jvm.Cond.fieldLink "PictureStudioModel" (7 : Nat) "PictureStudioModel" "input" "[I") ∈ ps_W := ps_in9 40 rfl rfl
theorem ps_w9_41 : (Jvm.Cond.fieldLink "PictureStudioModel" (210 : Nat) "PictureStudioModel" "length" "I") ∈ ps_W := ps_in9 41 rfl rfl
theorem ps_w9_42 : (Jvm.Cond.fieldLink "PictureStudioModel" (227 : Nat) "PictureStudioModel" "size" "I") ∈ ps_W := ps_in9 42 rfl rfl
theorem ps_w9_43 : (Jvm.Cond.fieldLink "PictureStudioModel" (221 : Nat) "PictureStudioModel" "fault" "I") ∈ ps_W := ps_in9 43 rfl rfl
theorem ps_w9_44 : (Jvm.Cond.fieldLink "PictureStudioModel" (224 : Nat) "PictureStudioModel" "faultAt" "I") ∈ ps_W := ps_in9 44 rfl rfl
theorem ps_w9_45 : (Jvm.Cond.fieldLink "PictureStudioModel" (13 : Nat) "PictureStudioModel" "out" "[I") ∈ ps_W := ps_in9 45 rfl rfl
theorem ps_w9_46 : (Jvm.Cond.fieldLink "PictureStudioModel" (592 : Nat) "PictureStudioModel" "bytes" "I") ∈ ps_W := ps_in9 46 rfl rfl
theorem ps_w9_47 : (Jvm.Cond.fieldLink "PictureStudioModel" (17 : Nat) "PictureStudioModel" "now" "[I") ∈ ps_W := ps_in9 47 rfl rfl
theorem ps_w9_48 : (Jvm.Cond.fieldLink "PictureStudioModel" (21 : Nat) "PictureStudioModel" "kept" "[I") ∈ ps_W := ps_in9 48 rfl rfl
theorem ps_w9_49 : (Jvm.Cond.fieldLink "PictureStudioModel" (236 : Nat) "PictureStudioModel" "start" "I") ∈ ps_W := ps_in9 49 rfl rfl
theorem ps_w9_50 : (Jvm.Cond.fieldLink "PictureStudioModel" (239 : Nat) "PictureStudioModel" "pos" "I") ∈ ps_W := ps_in9 50 rfl rfl
theorem ps_w9_51 : (Jvm.Cond.fieldLink "PictureStudioModel" (242 : Nat) "PictureStudioModel" "total" "I") ∈ ps_W := ps_in9 51 rfl rfl
theorem ps_w9_52 : (Jvm.Cond.fieldLink "PictureStudioModel" (230 : Nat) "PictureStudioModel" "wide" "I") ∈ ps_W := ps_in9 52 rfl rfl
theorem ps_w9_53 : (Jvm.Cond.fieldLink "PictureStudioModel" (233 : Nat) "PictureStudioModel" "high" "I") ∈ ps_W := ps_in9 53 rfl rfl
theorem ps_w9_54 : (Jvm.Cond.fieldLink "PictureStudioModel" (24 : Nat) "PictureStudioModel" "goes" "[Z") ∈ ps_W := ps_in9 54 rfl rfl
theorem ps_w9_55 : (Jvm.Cond.fieldLink "PictureStudioModel" (28 : Nat) "PictureStudioModel" "seen" "[I") ∈ ps_W := ps_in9 55 rfl rfl
theorem ps_w9_56 : (Jvm.Cond.fieldLink "PictureStudioModel" (31 : Nat) "PictureStudioModel" "edge" "[I") ∈ ps_W := ps_in9 56 rfl rfl
theorem ps_w9_57 : (Jvm.Cond.fieldLink "PictureStudioModel" (34 : Nat) "PictureStudioModel" "was" "[I") ∈ ps_W := ps_in9 57 rfl rfl
theorem ps_w9_58 : (Jvm.Cond.fieldLink "PictureStudioModel" (343 : Nat) "PictureStudioModel" "onlyA" "I") ∈ ps_W := ps_in9 58 rfl rfl
theorem ps_w9_59 : (Jvm.Cond.fieldLink "PictureStudioModel" (346 : Nat) "PictureStudioModel" "onlyB" "I") ∈ ps_W := ps_in9 59 rfl rfl
theorem ps_w9_60 : (Jvm.Cond.fieldLink "PictureStudioModel" (37 : Nat) "PictureStudioModel" "tileKept" "[Z") ∈ ps_W := ps_in9 60 rfl rfl
theorem ps_w9_61 : (Jvm.Cond.fieldLink "PictureStudioModel" (40 : Nat) "PictureStudioModel" "tilePixel" "[I") ∈ ps_W := ps_in9 61 rfl rfl
theorem ps_w9_62 : (Jvm.Cond.fieldLink "PictureStudioModel" (389 : Nat) "PictureStudioModel" "worked" "I") ∈ ps_W := ps_in9 62 rfl rfl
theorem ps_w9_63 : (Jvm.Cond.fieldLink "PictureStudioModel" (43 : Nat) "PictureStudioModel" "kernel" "[I") ∈ ps_W := ps_in9 63 rfl rfl
theorem ps_w9_64 : (Jvm.Cond.fieldLink "PictureStudioModel" (46 : Nat) "PictureStudioModel" "divisor" "I") ∈ ps_W := ps_in9 64 rfl rfl
theorem ps_w9_65 : (Jvm.Cond.fieldLink "PictureStudioModel" (411 : Nat) "PictureStudioModel" "offset" "I") ∈ ps_W := ps_in9 65 rfl rfl
theorem ps_w9_66 : (Jvm.Cond.fieldLink "PictureStudioModel" (50 : Nat) "PictureStudioModel" "nine" "[I") ∈ ps_W := ps_in9 66 rfl rfl
theorem ps_w9_67 : (Jvm.Cond.fieldLink "PictureStudioModel" (53 : Nat) "PictureStudioModel" "curveMany" "[I") ∈ ps_W := ps_in9 67 rfl rfl
theorem ps_w9_68 : (Jvm.Cond.fieldLink "PictureStudioModel" (56 : Nat) "PictureStudioModel" "curveX" "[I") ∈ ps_W := ps_in9 68 rfl rfl
theorem ps_w9_69 : (Jvm.Cond.fieldLink "PictureStudioModel" (59 : Nat) "PictureStudioModel" "curveY" "[I") ∈ ps_W := ps_in9 69 rfl rfl
theorem ps_w9_70 : (Jvm.Cond.fieldLink "PictureStudioModel" (62 : Nat) "PictureStudioModel" "chosen" "[I") ∈ ps_W := ps_in9 70 rfl rfl
theorem ps_w9_71 : (Jvm.Cond.fieldLink "PictureStudioModel" (65 : Nat) "PictureStudioModel" "shape" "[I") ∈ ps_W := ps_in9 71 rfl rfl
theorem ps_w9_72 : (Jvm.Cond.fieldLink "PictureStudioModel" (68 : Nat) "PictureStudioModel" "pile" "[I") ∈ ps_W := ps_in9 72 rfl rfl
theorem ps_w9_73 : (Jvm.Cond.fieldLink "PictureStudioModel" (72 : Nat) "PictureStudioModel" "front" "I") ∈ ps_W := ps_in9 73 rfl rfl
theorem ps_w9_74 : (Jvm.Cond.fieldLink "PictureStudioModel" (75 : Nat) "PictureStudioModel" "before" "[I") ∈ ps_W := ps_in9 74 rfl rfl
theorem ps_w9_75 : (Jvm.Cond.fieldLink "PictureStudioModel" (78 : Nat) "PictureStudioModel" "brushSize" "I") ∈ ps_W := ps_in9 75 rfl rfl
theorem ps_w9_76 : (Jvm.Cond.fieldLink "PictureStudioModel" (81 : Nat) "PictureStudioModel" "brushHard" "I") ∈ ps_W := ps_in9 76 rfl rfl
theorem ps_w9_77 : (Jvm.Cond.fieldLink "PictureStudioModel" (84 : Nat) "PictureStudioModel" "spacing" "I") ∈ ps_W := ps_in9 77 rfl rfl
theorem ps_w9_78 : (Jvm.Cond.fieldLink "PictureStudioModel" (87 : Nat) "PictureStudioModel" "flow" "I") ∈ ps_W := ps_in9 78 rfl rfl
theorem ps_w9_79 : (Jvm.Cond.fieldLink "PictureStudioModel" (90 : Nat) "PictureStudioModel" "strength" "I") ∈ ps_W := ps_in9 79 rfl rfl
theorem ps_w9_80 : (Jvm.Cond.fieldLink "PictureStudioModel" (492 : Nat) "PictureStudioModel" "cloneX" "I") ∈ ps_W := ps_in9 80 rfl rfl
theorem ps_w9_81 : (Jvm.Cond.fieldLink "PictureStudioModel" (495 : Nat) "PictureStudioModel" "cloneY" "I") ∈ ps_W := ps_in9 81 rfl rfl
theorem ps_w9_82 : (Jvm.Cond.fieldLink "PictureStudioModel" (395 : Nat) "PictureStudioModel" "points" "I") ∈ ps_W := ps_in9 82 rfl rfl
theorem ps_w9_83 : (Jvm.Cond.fieldLink "PictureStudioModel" (93 : Nat) "PictureStudioModel" "pointX" "[I") ∈ ps_W := ps_in9 83 rfl rfl
theorem ps_w9_84 : (Jvm.Cond.fieldLink "PictureStudioModel" (96 : Nat) "PictureStudioModel" "pointY" "[I") ∈ ps_W := ps_in9 84 rfl rfl
theorem ps_w9_85 : (Jvm.Cond.fieldLink "PictureStudioModel" (99 : Nat) "PictureStudioModel" "pressure" "[I") ∈ ps_W := ps_in9 85 rfl rfl
theorem ps_w9_86 : (Jvm.Cond.fieldLink "PictureStudioModel" (102 : Nat) "PictureStudioModel" "cover" "[I") ∈ ps_W := ps_in9 86 rfl rfl
theorem ps_w9_87 : (Jvm.Cond.fieldLink "PictureStudioModel" (105 : Nat) "PictureStudioModel" "stepMany" "[I") ∈ ps_W := ps_in9 87 rfl rfl
theorem ps_w9_88 : (Jvm.Cond.fieldLink "PictureStudioModel" (108 : Nat) "PictureStudioModel" "stepKind" "[I") ∈ ps_W := ps_in9 88 rfl rfl
theorem ps_w9_89 : (Jvm.Cond.fieldLink "PictureStudioModel" (111 : Nat) "PictureStudioModel" "stepX" "[I") ∈ ps_W := ps_in9 89 rfl rfl
theorem ps_w9_90 : (Jvm.Cond.fieldLink "PictureStudioModel" (114 : Nat) "PictureStudioModel" "stepY" "[I") ∈ ps_W := ps_in9 90 rfl rfl
theorem ps_w9_91 : (Jvm.Cond.fieldLink "PictureStudioModel" (516 : Nat) "PictureStudioModel" "lines" "I") ∈ ps_W := ps_in9 91 rfl rfl
theorem ps_w9_92 : (Jvm.Cond.fieldLink "PictureStudioModel" (117 : Nat) "PictureStudioModel" "lineX0" "[I") ∈ ps_W := ps_in9 92 rfl rfl
theorem ps_w9_93 : (Jvm.Cond.fieldLink "PictureStudioModel" (120 : Nat) "PictureStudioModel" "lineY0" "[I") ∈ ps_W := ps_in9 93 rfl rfl
theorem ps_w9_94 : (Jvm.Cond.fieldLink "PictureStudioModel" (123 : Nat) "PictureStudioModel" "lineX1" "[I") ∈ ps_W := ps_in9 94 rfl rfl
theorem ps_w9_95 : (Jvm.Cond.fieldLink "PictureStudioModel" (126 : Nat) "PictureStudioModel" "lineY1" "[I") ∈ ps_W := ps_in9 95 rfl rfl
theorem ps_w9_96 : (Jvm.Cond.fieldLink "PictureStudioModel" (129 : Nat) "PictureStudioModel" "glyphPath" "[I") ∈ ps_W := ps_in9 96 rfl rfl
theorem ps_w9_97 : (Jvm.Cond.fieldLink "PictureStudioModel" (132 : Nat) "PictureStudioModel" "advance" "[I") ∈ ps_W := ps_in9 97 rfl rfl
theorem ps_w9_98 : (Jvm.Cond.fieldLink "PictureStudioModel" (135 : Nat) "PictureStudioModel" "profile" "[I") ∈ ps_W := ps_in9 98 rfl rfl
theorem ps_w9_99 : (Jvm.Cond.fieldLink "PictureStudioModel" (138 : Nat) "PictureStudioModel" "lit" "[I") ∈ ps_W := ps_in9 99 rfl rfl
theorem ps_w9_100 : (Jvm.Cond.fieldLink "PictureStudioModel" (141 : Nat) "PictureStudioModel" "row" "[I") ∈ ps_W := ps_in9 100 rfl rfl
theorem ps_w9_101 : (Jvm.Cond.fieldLink "PictureStudioModel" (144 : Nat) "PictureStudioModel" "boxFrom" "[I") ∈ ps_W := ps_in9 101 rfl rfl
theorem ps_w9_102 : (Jvm.Cond.fieldLink "PictureStudioModel" (147 : Nat) "PictureStudioModel" "boxMany" "[I") ∈ ps_W := ps_in9 102 rfl rfl
theorem ps_w9_103 : (Jvm.Cond.fieldLink "PictureStudioModel" (150 : Nat) "PictureStudioModel" "boxColour" "[I") ∈ ps_W := ps_in9 103 rfl rfl
theorem ps_w9_104 : (Jvm.Cond.fieldLink "PictureStudioModel" (153 : Nat) "PictureStudioModel" "error" "[I") ∈ ps_W := ps_in9 104 rfl rfl
theorem ps_w9_105 : (Jvm.Cond.fieldLink "PictureStudioModel" (156 : Nat) "PictureStudioModel" "develop" "[I") ∈ ps_W := ps_in9 105 rfl rfl
theorem ps_w9_106 : (Jvm.Cond.fieldLink "PictureStudioModel" (159 : Nat) "PictureStudioModel" "rawValue" "[I") ∈ ps_W := ps_in9 106 rfl rfl
theorem ps_w9_107 : (Jvm.Cond.fieldLink "PictureStudioModel" (162 : Nat) "PictureStudioModel" "lengthBase" "[I") ∈ ps_W := ps_in9 107 rfl rfl
theorem ps_w9_108 : (Jvm.Cond.fieldLink "PictureStudioModel" (165 : Nat) "PictureStudioModel" "lengthMore" "[I") ∈ ps_W := ps_in9 108 rfl rfl
theorem ps_w9_109 : (Jvm.Cond.fieldLink "PictureStudioModel" (168 : Nat) "PictureStudioModel" "farBase" "[I") ∈ ps_W := ps_in9 109 rfl rfl
theorem ps_w9_110 : (Jvm.Cond.fieldLink "PictureStudioModel" (171 : Nat) "PictureStudioModel" "farMore" "[I") ∈ ps_W := ps_in9 110 rfl rfl
theorem ps_w9_111 : (Jvm.Cond.fieldLink "PictureStudioModel" (174 : Nat) "PictureStudioModel" "order" "[I") ∈ ps_W := ps_in9 111 rfl rfl
theorem ps_w9_112 : (Jvm.Cond.fieldLink "PictureStudioModel" (598 : Nat) "PictureStudioModel" "chunkAt" "I") ∈ ps_W := ps_in9 112 rfl rfl
theorem ps_w9_113 : (Jvm.Cond.fieldLink "PictureStudioModel" (177 : Nat) "PictureStudioModel" "flow8" "[I") ∈ ps_W := ps_in9 113 rfl rfl
theorem ps_w9_114 : (Jvm.Cond.fieldLink "PictureStudioModel" (616 : Nat) "PictureStudioModel" "flowLong" "I") ∈ ps_W := ps_in9 114 rfl rfl
theorem ps_w9_115 : (Jvm.Cond.fieldLink "PictureStudioModel" (622 : Nat) "PictureStudioModel" "bitsHeld" "I") ∈ ps_W := ps_in9 115 rfl rfl
theorem ps_w9_116 : (Jvm.Cond.fieldLink "PictureStudioModel" (625 : Nat) "PictureStudioModel" "bitsMany" "I") ∈ ps_W := ps_in9 116 rfl rfl
theorem ps_w9_117 : (Jvm.Cond.fieldLink "PictureStudioModel" (180 : Nat) "PictureStudioModel" "packed" "[I") ∈ ps_W := ps_in9 117 rfl rfl
theorem ps_w9_118 : (Jvm.Cond.fieldLink "PictureStudioModel" (667 : Nat) "PictureStudioModel" "packedLong" "I") ∈ ps_W := ps_in9 118 rfl rfl
theorem ps_w9_119 : (Jvm.Cond.fieldLink "PictureStudioModel" (183 : Nat) "PictureStudioModel" "palette" "[I") ∈ ps_W := ps_in9 119 rfl rfl
theorem ps_w9_120 : (Jvm.Cond.fieldLink "PictureStudioModel" (186 : Nat) "PictureStudioModel" "clear" "[I") ∈ ps_W := ps_in9 120 rfl rfl
theorem ps_w9_121 : (Jvm.Cond.fieldLink "PictureStudioModel" (670 : Nat) "PictureStudioModel" "paletteMany" "I") ∈ ps_W := ps_in9 121 rfl rfl
theorem ps_w9_122 : (Jvm.Cond.fieldLink "PictureStudioModel" (693 : Nat) "PictureStudioModel" "pngWide" "I") ∈ ps_W := ps_in9 122 rfl rfl
theorem ps_w9_123 : (Jvm.Cond.fieldLink "PictureStudioModel" (696 : Nat) "PictureStudioModel" "pngHigh" "I") ∈ ps_W := ps_in9 123 rfl rfl
theorem ps_w9_124 : (Jvm.Cond.fieldLink "PictureStudioModel" (690 : Nat) "PictureStudioModel" "pngSort" "I") ∈ ps_W := ps_in9 124 rfl rfl
theorem ps_w9_125 : (Jvm.Cond.fieldLink "PictureStudioModel" (673 : Nat) "PictureStudioModel" "idatAt" "I") ∈ ps_W := ps_in9 125 rfl rfl
theorem ps_w9_126 : (Jvm.Cond.fieldLink "PictureStudioModel" (702 : Nat) "PictureStudioModel" "ill" "Z") ∈ ps_W := ps_in9 126 rfl rfl
theorem ps_w9_127 : (Jvm.Cond.fieldLink "PictureStudioModel" (699 : Nat) "PictureStudioModel" "bitAt" "I") ∈ ps_W := ps_in9 127 rfl rfl
theorem ps_w9_128 : (Jvm.Cond.fieldLink "PictureStudioModel" (709 : Nat) "PictureStudioModel" "need" "I") ∈ ps_W := ps_in9 128 rfl rfl
theorem ps_w9_129 : (Jvm.Cond.fieldLink "PictureStudioModel" (189 : Nat) "PictureStudioModel" "codeMany" "[I") ∈ ps_W := ps_in9 129 rfl rfl
theorem ps_w9_130 : (Jvm.Cond.fieldLink "PictureStudioModel" (192 : Nat) "PictureStudioModel" "symbol" "[I") ∈ ps_W := ps_in9 130 rfl rfl
theorem ps_w9_131 : (Jvm.Cond.fieldLink "PictureStudioModel" (195 : Nat) "PictureStudioModel" "lens" "[I") ∈ ps_W := ps_in9 131 rfl rfl
theorem ps_w9_132 : (Jvm.Cond.fieldLink "PictureStudioModel" (737 : Nat) "PictureStudioModel" "unit" "I") ∈ ps_W := ps_in9 132 rfl rfl
theorem ps_w9_133 : (Jvm.Cond.lays "PictureStudioModel" "PictureStudioModel" "thrown" "I") ∈ ps_W := ps_in9 133 rfl rfl
theorem ps_w9_135 : (Jvm.Cond.laysFinal "PictureStudioModel" "PictureStudioModel" "input" "[I") ∈ ps_W := ps_in9 135 rfl rfl
theorem ps_w9_137 : (Jvm.Cond.lays "PictureStudioModel" "PictureStudioModel" "length" "I") ∈ ps_W := ps_in9 137 rfl rfl
theorem ps_w9_139 : (Jvm.Cond.lays "PictureStudioModel" "PictureStudioModel" "size" "I") ∈ ps_W := ps_in9 139 rfl rfl
theorem ps_w9_141 : (Jvm.Cond.lays "PictureStudioModel" "PictureStudioModel" "fault" "I") ∈ ps_W := ps_in9 141 rfl rfl
theorem ps_w9_143 : (Jvm.Cond.lays "PictureStudioModel" "PictureStudioModel" "faultAt" "I") ∈ ps_W := ps_in9 143 rfl rfl
theorem ps_w9_145 : (Jvm.Cond.laysFinal "PictureStudioModel" "PictureStudioModel" "out" "[I") ∈ ps_W := ps_in9 145 rfl rfl
theorem ps_w9_147 : (Jvm.Cond.lays "PictureStudioModel" "PictureStudioModel" "bytes" "I") ∈ ps_W := ps_in9 147 rfl rfl
theorem ps_w9_149 : (Jvm.Cond.laysFinal "PictureStudioModel" "PictureStudioModel" "now" "[I") ∈ ps_W := ps_in9 149 rfl rfl
theorem ps_w9_151 : (Jvm.Cond.laysFinal "PictureStudioModel" "PictureStudioModel" "kept" "[I") ∈ ps_W := ps_in9 151 rfl rfl
theorem ps_w9_153 : (Jvm.Cond.lays "PictureStudioModel" "PictureStudioModel" "start" "I") ∈ ps_W := ps_in9 153 rfl rfl
theorem ps_w9_155 : (Jvm.Cond.lays "PictureStudioModel" "PictureStudioModel" "pos" "I") ∈ ps_W := ps_in9 155 rfl rfl
theorem ps_w9_157 : (Jvm.Cond.lays "PictureStudioModel" "PictureStudioModel" "total" "I") ∈ ps_W := ps_in9 157 rfl rfl
theorem ps_w9_159 : (Jvm.Cond.lays "PictureStudioModel" "PictureStudioModel" "wide" "I") ∈ ps_W := ps_in9 159 rfl rfl
theorem ps_w9_161 : (Jvm.Cond.lays "PictureStudioModel" "PictureStudioModel" "high" "I") ∈ ps_W := ps_in9 161 rfl rfl
theorem ps_w9_163 : (Jvm.Cond.laysFinal "PictureStudioModel" "PictureStudioModel" "goes" "[Z") ∈ ps_W := ps_in9 163 rfl rfl
theorem ps_w9_165 : (Jvm.Cond.laysFinal "PictureStudioModel" "PictureStudioModel" "seen" "[I") ∈ ps_W := ps_in9 165 rfl rfl
theorem ps_w9_167 : (Jvm.Cond.laysFinal "PictureStudioModel" "PictureStudioModel" "edge" "[I") ∈ ps_W := ps_in9 167 rfl rfl
theorem ps_w9_169 : (Jvm.Cond.laysFinal "PictureStudioModel" "PictureStudioModel" "was" "[I") ∈ ps_W := ps_in9 169 rfl rfl
theorem ps_w9_171 : (Jvm.Cond.lays "PictureStudioModel" "PictureStudioModel" "onlyA" "I") ∈ ps_W := ps_in9 171 rfl rfl
theorem ps_w9_173 : (Jvm.Cond.lays "PictureStudioModel" "PictureStudioModel" "onlyB" "I") ∈ ps_W := ps_in9 173 rfl rfl
theorem ps_w9_175 : (Jvm.Cond.laysFinal "PictureStudioModel" "PictureStudioModel" "tileKept" "[Z") ∈ ps_W := ps_in9 175 rfl rfl
theorem ps_w9_177 : (Jvm.Cond.laysFinal "PictureStudioModel" "PictureStudioModel" "tilePixel" "[I") ∈ ps_W := ps_in9 177 rfl rfl
theorem ps_w9_179 : (Jvm.Cond.lays "PictureStudioModel" "PictureStudioModel" "worked" "I") ∈ ps_W := ps_in9 179 rfl rfl
theorem ps_w9_181 : (Jvm.Cond.laysFinal "PictureStudioModel" "PictureStudioModel" "kernel" "[I") ∈ ps_W := ps_in9 181 rfl rfl
theorem ps_w9_183 : (Jvm.Cond.lays "PictureStudioModel" "PictureStudioModel" "divisor" "I") ∈ ps_W := ps_in9 183 rfl rfl
theorem ps_w9_185 : (Jvm.Cond.lays "PictureStudioModel" "PictureStudioModel" "offset" "I") ∈ ps_W := ps_in9 185 rfl rfl
theorem ps_w9_187 : (Jvm.Cond.laysFinal "PictureStudioModel" "PictureStudioModel" "nine" "[I") ∈ ps_W := ps_in9 187 rfl rfl
theorem ps_w9_189 : (Jvm.Cond.laysFinal "PictureStudioModel" "PictureStudioModel" "curveMany" "[I") ∈ ps_W := ps_in9 189 rfl rfl
theorem ps_w9_191 : (Jvm.Cond.laysFinal "PictureStudioModel" "PictureStudioModel" "curveX" "[I") ∈ ps_W := ps_in9 191 rfl rfl
theorem ps_w9_193 : (Jvm.Cond.laysFinal "PictureStudioModel" "PictureStudioModel" "curveY" "[I") ∈ ps_W := ps_in9 193 rfl rfl
theorem ps_w9_195 : (Jvm.Cond.laysFinal "PictureStudioModel" "PictureStudioModel" "chosen" "[I") ∈ ps_W := ps_in9 195 rfl rfl
theorem ps_w9_197 : (Jvm.Cond.laysFinal "PictureStudioModel" "PictureStudioModel" "shape" "[I") ∈ ps_W := ps_in9 197 rfl rfl
theorem ps_w9_199 : (Jvm.Cond.laysFinal "PictureStudioModel" "PictureStudioModel" "pile" "[I") ∈ ps_W := ps_in9 199 rfl rfl
theorem ps_w9_201 : (Jvm.Cond.lays "PictureStudioModel" "PictureStudioModel" "front" "I") ∈ ps_W := ps_in9 201 rfl rfl
theorem ps_w9_203 : (Jvm.Cond.laysFinal "PictureStudioModel" "PictureStudioModel" "before" "[I") ∈ ps_W := ps_in9 203 rfl rfl
theorem ps_w9_205 : (Jvm.Cond.lays "PictureStudioModel" "PictureStudioModel" "brushSize" "I") ∈ ps_W := ps_in9 205 rfl rfl
theorem ps_w9_207 : (Jvm.Cond.lays "PictureStudioModel" "PictureStudioModel" "brushHard" "I") ∈ ps_W := ps_in9 207 rfl rfl
theorem ps_w9_209 : (Jvm.Cond.lays "PictureStudioModel" "PictureStudioModel" "spacing" "I") ∈ ps_W := ps_in9 209 rfl rfl
theorem ps_w9_211 : (Jvm.Cond.lays "PictureStudioModel" "PictureStudioModel" "flow" "I") ∈ ps_W := ps_in9 211 rfl rfl
theorem ps_w9_213 : (Jvm.Cond.lays "PictureStudioModel" "PictureStudioModel" "strength" "I") ∈ ps_W := ps_in9 213 rfl rfl
theorem ps_w9_215 : (Jvm.Cond.lays "PictureStudioModel" "PictureStudioModel" "cloneX" "I") ∈ ps_W := ps_in9 215 rfl rfl
theorem ps_w9_217 : (Jvm.Cond.lays "PictureStudioModel" "PictureStudioModel" "cloneY" "I") ∈ ps_W := ps_in9 217 rfl rfl
theorem ps_w9_219 : (Jvm.Cond.lays "PictureStudioModel" "PictureStudioModel" "points" "I") ∈ ps_W := ps_in9 219 rfl rfl
theorem ps_w9_221 : (Jvm.Cond.laysFinal "PictureStudioModel" "PictureStudioModel" "pointX" "[I") ∈ ps_W := ps_in9 221 rfl rfl
theorem ps_w9_223 : (Jvm.Cond.laysFinal "PictureStudioModel" "PictureStudioModel" "pointY" "[I") ∈ ps_W := ps_in9 223 rfl rfl
theorem ps_w9_225 : (Jvm.Cond.laysFinal "PictureStudioModel" "PictureStudioModel" "pressure" "[I") ∈ ps_W := ps_in9 225 rfl rfl
theorem ps_w9_227 : (Jvm.Cond.laysFinal "PictureStudioModel" "PictureStudioModel" "cover" "[I") ∈ ps_W := ps_in9 227 rfl rfl
theorem ps_w9_229 : (Jvm.Cond.laysFinal "PictureStudioModel" "PictureStudioModel" "stepMany" "[I") ∈ ps_W := ps_in9 229 rfl rfl
theorem ps_w9_231 : (Jvm.Cond.laysFinal "PictureStudioModel" "PictureStudioModel" "stepKind" "[I") ∈ ps_W := ps_in9 231 rfl rfl
theorem ps_w9_233 : (Jvm.Cond.laysFinal "PictureStudioModel" "PictureStudioModel" "stepX" "[I") ∈ ps_W := ps_in9 233 rfl rfl
theorem ps_w9_235 : (Jvm.Cond.laysFinal "PictureStudioModel" "PictureStudioModel" "stepY" "[I") ∈ ps_W := ps_in9 235 rfl rfl
theorem ps_w9_237 : (Jvm.Cond.lays "PictureStudioModel" "PictureStudioModel" "lines" "I") ∈ ps_W := ps_in9 237 rfl rfl
theorem ps_w9_239 : (Jvm.Cond.laysFinal "PictureStudioModel" "PictureStudioModel" "lineX0" "[I") ∈ ps_W := ps_in9 239 rfl rfl
theorem ps_w10_1 : (Jvm.Cond.laysFinal "PictureStudioModel" "PictureStudioModel" "lineY0" "[I") ∈ ps_W := ps_in10 1 rfl rfl
theorem ps_w10_3 : (Jvm.Cond.laysFinal "PictureStudioModel" "PictureStudioModel" "lineX1" "[I") ∈ ps_W := ps_in10 3 rfl rfl
theorem ps_w10_5 : (Jvm.Cond.laysFinal "PictureStudioModel" "PictureStudioModel" "lineY1" "[I") ∈ ps_W := ps_in10 5 rfl rfl
theorem ps_w10_7 : (Jvm.Cond.laysFinal "PictureStudioModel" "PictureStudioModel" "glyphPath" "[I") ∈ ps_W := ps_in10 7 rfl rfl
theorem ps_w10_9 : (Jvm.Cond.laysFinal "PictureStudioModel" "PictureStudioModel" "advance" "[I") ∈ ps_W := ps_in10 9 rfl rfl
theorem ps_w10_11 : (Jvm.Cond.laysFinal "PictureStudioModel" "PictureStudioModel" "profile" "[I") ∈ ps_W := ps_in10 11 rfl rfl
theorem ps_w10_13 : (Jvm.Cond.laysFinal "PictureStudioModel" "PictureStudioModel" "lit" "[I") ∈ ps_W := ps_in10 13 rfl rfl
theorem ps_w10_15 : (Jvm.Cond.laysFinal "PictureStudioModel" "PictureStudioModel" "row" "[I") ∈ ps_W := ps_in10 15 rfl rfl
theorem ps_w10_17 : (Jvm.Cond.laysFinal "PictureStudioModel" "PictureStudioModel" "boxFrom" "[I") ∈ ps_W := ps_in10 17 rfl rfl
theorem ps_w10_19 : (Jvm.Cond.laysFinal "PictureStudioModel" "PictureStudioModel" "boxMany" "[I") ∈ ps_W := ps_in10 19 rfl rfl
theorem ps_w10_21 : (Jvm.Cond.laysFinal "PictureStudioModel" "PictureStudioModel" "boxColour" "[I") ∈ ps_W := ps_in10 21 rfl rfl
theorem ps_w10_23 : (Jvm.Cond.laysFinal "PictureStudioModel" "PictureStudioModel" "error" "[I") ∈ ps_W := ps_in10 23 rfl rfl
theorem ps_w10_25 : (Jvm.Cond.laysFinal "PictureStudioModel" "PictureStudioModel" "develop" "[I") ∈ ps_W := ps_in10 25 rfl rfl
theorem ps_w10_27 : (Jvm.Cond.laysFinal "PictureStudioModel" "PictureStudioModel" "rawValue" "[I") ∈ ps_W := ps_in10 27 rfl rfl
theorem ps_w10_29 : (Jvm.Cond.laysFinal "PictureStudioModel" "PictureStudioModel" "lengthBase" "[I") ∈ ps_W := ps_in10 29 rfl rfl
theorem ps_w10_31 : (Jvm.Cond.laysFinal "PictureStudioModel" "PictureStudioModel" "lengthMore" "[I") ∈ ps_W := ps_in10 31 rfl rfl
theorem ps_w10_33 : (Jvm.Cond.laysFinal "PictureStudioModel" "PictureStudioModel" "farBase" "[I") ∈ ps_W := ps_in10 33 rfl rfl
theorem ps_w10_35 : (Jvm.Cond.laysFinal "PictureStudioModel" "PictureStudioModel" "farMore" "[I") ∈ ps_W := ps_in10 35 rfl rfl
theorem ps_w10_37 : (Jvm.Cond.laysFinal "PictureStudioModel" "PictureStudioModel" "order" "[I") ∈ ps_W := ps_in10 37 rfl rfl
theorem ps_w10_39 : (Jvm.Cond.lays "PictureStudioModel" "PictureStudioModel" "chunkAt" "I") ∈ ps_W := ps_in10 39 rfl rfl
theorem ps_w10_41 : (Jvm.Cond.laysFinal "PictureStudioModel" "PictureStudioModel" "flow8" "[I") ∈ ps_W := ps_in10 41 rfl rfl
theorem ps_w10_43 : (Jvm.Cond.lays "PictureStudioModel" "PictureStudioModel" "flowLong" "I") ∈ ps_W := ps_in10 43 rfl rfl
theorem ps_w10_45 : (Jvm.Cond.lays "PictureStudioModel" "PictureStudioModel" "bitsHeld" "I") ∈ ps_W := ps_in10 45 rfl rfl
theorem ps_w10_47 : (Jvm.Cond.lays "PictureStudioModel" "PictureStudioModel" "bitsMany" "I") ∈ ps_W := ps_in10 47 rfl rfl
theorem ps_w10_49 : (Jvm.Cond.laysFinal "PictureStudioModel" "PictureStudioModel" "packed" "[I") ∈ ps_W := ps_in10 49 rfl rfl
theorem ps_w10_51 : (Jvm.Cond.lays "PictureStudioModel" "PictureStudioModel" "packedLong" "I") ∈ ps_W := ps_in10 51 rfl rfl
theorem ps_w10_53 : (Jvm.Cond.laysFinal "PictureStudioModel" "PictureStudioModel" "palette" "[I") ∈ ps_W := ps_in10 53 rfl rfl
theorem ps_w10_55 : (Jvm.Cond.laysFinal "PictureStudioModel" "PictureStudioModel" "clear" "[I") ∈ ps_W := ps_in10 55 rfl rfl
theorem ps_w10_57 : (Jvm.Cond.lays "PictureStudioModel" "PictureStudioModel" "paletteMany" "I") ∈ ps_W := ps_in10 57 rfl rfl
theorem ps_w10_59 : (Jvm.Cond.lays "PictureStudioModel" "PictureStudioModel" "pngWide" "I") ∈ ps_W := ps_in10 59 rfl rfl
theorem ps_w10_61 : (Jvm.Cond.lays "PictureStudioModel" "PictureStudioModel" "pngHigh" "I") ∈ ps_W := ps_in10 61 rfl rfl
theorem ps_w10_63 : (Jvm.Cond.lays "PictureStudioModel" "PictureStudioModel" "pngSort" "I") ∈ ps_W := ps_in10 63 rfl rfl
theorem ps_w10_65 : (Jvm.Cond.lays "PictureStudioModel" "PictureStudioModel" "idatAt" "I") ∈ ps_W := ps_in10 65 rfl rfl
theorem ps_w10_67 : (Jvm.Cond.lays "PictureStudioModel" "PictureStudioModel" "ill" "Z") ∈ ps_W := ps_in10 67 rfl rfl
theorem ps_w10_69 : (Jvm.Cond.lays "PictureStudioModel" "PictureStudioModel" "bitAt" "I") ∈ ps_W := ps_in10 69 rfl rfl
theorem ps_w10_71 : (Jvm.Cond.lays "PictureStudioModel" "PictureStudioModel" "need" "I") ∈ ps_W := ps_in10 71 rfl rfl
theorem ps_w10_73 : (Jvm.Cond.laysFinal "PictureStudioModel" "PictureStudioModel" "codeMany" "[I") ∈ ps_W := ps_in10 73 rfl rfl
theorem ps_w10_75 : (Jvm.Cond.laysFinal "PictureStudioModel" "PictureStudioModel" "symbol" "[I") ∈ ps_W := ps_in10 75 rfl rfl
theorem ps_w10_77 : (Jvm.Cond.laysFinal "PictureStudioModel" "PictureStudioModel" "lens" "[I") ∈ ps_W := ps_in10 77 rfl rfl
theorem ps_w10_79 : (Jvm.Cond.lays "PictureStudioModel" "PictureStudioModel" "unit" "I") ∈ ps_W := ps_in10 79 rfl rfl
theorem ps_w10_82 : (Jvm.Cond.methodLink "PictureStudioLaw" (175 : Nat) ({ cls := "PictureStudioModel", name := "thrown", desc := "()I" } : Jvm.MethodName)) ∈ ps_W := ps_in10 82 rfl rfl
theorem ps_w10_83 : (Jvm.Cond.instanceMethod ({ cls := "PictureStudioModel", name := "thrown", desc := "()I" } : Jvm.MethodName)) ∈ ps_W := ps_in10 83 rfl rfl
theorem ps_w10_84 : (Jvm.Cond.selects "PictureStudioModel" ({ cls := "PictureStudioModel", name := "thrown", desc := "()I" } : Jvm.MethodName) ({ cls := "PictureStudioModel", name := "thrown", desc := "()I" } : Jvm.MethodName)) ∈ ps_W := ps_in10 84 rfl rfl
theorem ps_w10_85 : (Jvm.Cond.code ({ cls := "PictureStudioModel", name := "thrown", desc := "()I" } : Jvm.MethodName) prog_14_method_2_code (1 : Nat) (Option.some Jvm.ClassFile.FieldType.int)) ∈ ps_W := ps_in10 85 rfl rfl
theorem ps_w10_86 : (Jvm.Cond.methodLink "PictureStudioLaw" (174 : Nat) ({ cls := "PictureStudioModel", name := "feed", desc := "(IIIII)I" } : Jvm.MethodName)) ∈ ps_W := ps_in10 86 rfl rfl
theorem ps_w10_87 : (Jvm.Cond.instanceMethod ({ cls := "PictureStudioModel", name := "feed", desc := "(IIIII)I" } : Jvm.MethodName)) ∈ ps_W := ps_in10 87 rfl rfl
theorem ps_w10_88 : (Jvm.Cond.selects "PictureStudioModel" ({ cls := "PictureStudioModel", name := "feed", desc := "(IIIII)I" } : Jvm.MethodName) ({ cls := "PictureStudioModel", name := "feed", desc := "(IIIII)I" } : Jvm.MethodName)) ∈ ps_W := ps_in10 88 rfl rfl
theorem ps_w10_89 : (Jvm.Cond.code ({ cls := "PictureStudioModel", name := "feed", desc := "(IIIII)I" } : Jvm.MethodName) prog_14_method_14_code (6 : Nat) (Option.some Jvm.ClassFile.FieldType.int)) ∈ ps_W := ps_in10 89 rfl rfl
theorem ps_w10_90 : (Jvm.Cond.methodLink "PictureStudioModel" (213 : Nat) ({ cls := "PictureStudioModel", name := "tapeWord", desc := "(I)V" } : Jvm.MethodName)) ∈ ps_W := ps_in10 90 rfl rfl
theorem ps_w10_92 : (Jvm.Cond.instanceMethod ({ cls := "PictureStudioModel", name := "tapeWord", desc := "(I)V" } : Jvm.MethodName)) ∈ ps_W := ps_in10 92 rfl rfl
theorem ps_w10_93 : (Jvm.Cond.code ({ cls := "PictureStudioModel", name := "tapeWord", desc := "(I)V" } : Jvm.MethodName) prog_14_method_13_code (3 : Nat) (Option.none : Option Jvm.ClassFile.FieldType)) ∈ ps_W := ps_in10 93 rfl rfl
theorem ps_w10_94 : (Jvm.Cond.methodLink "PictureStudioLaw" (181 : Nat) ({ cls := "PictureStudioModel", name := "end", desc := "(I)I" } : Jvm.MethodName)) ∈ ps_W := ps_in10 94 rfl rfl
theorem ps_w10_95 : (Jvm.Cond.instanceMethod ({ cls := "PictureStudioModel", name := "end", desc := "(I)I" } : Jvm.MethodName)) ∈ ps_W := ps_in10 95 rfl rfl
theorem ps_w10_96 : (Jvm.Cond.selects "PictureStudioModel" ({ cls := "PictureStudioModel", name := "end", desc := "(I)I" } : Jvm.MethodName) ({ cls := "PictureStudioModel", name := "end", desc := "(I)I" } : Jvm.MethodName)) ∈ ps_W := ps_in10 96 rfl rfl
theorem ps_w10_97 : (Jvm.Cond.code ({ cls := "PictureStudioModel", name := "end", desc := "(I)I" } : Jvm.MethodName) prog_14_method_15_code (2 : Nat) (Option.some Jvm.ClassFile.FieldType.int)) ∈ ps_W := ps_in10 97 rfl rfl
theorem ps_w10_98 : (Jvm.Cond.methodLink "PictureStudioModel" (217 : Nat) ({ cls := "PictureStudioModel", name := "in", desc := "(III)Z" } : Jvm.MethodName)) ∈ ps_W := ps_in10 98 rfl rfl
theorem ps_w10_99 : (Jvm.Cond.static ({ cls := "PictureStudioModel", name := "in", desc := "(III)Z" } : Jvm.MethodName)) ∈ ps_W := ps_in10 99 rfl rfl
theorem ps_w10_100 : (Jvm.Cond.code ({ cls := "PictureStudioModel", name := "in", desc := "(III)Z" } : Jvm.MethodName) prog_14_method_3_code (3 : Nat) (Option.some Jvm.ClassFile.FieldType.boolean)) ∈ ps_W := ps_in10 100 rfl rfl
theorem ps_w10_101 : (Jvm.Cond.methodLink "PictureStudioLaw" (185 : Nat) ({ cls := "PictureStudioModel", name := "fault", desc := "(I)I" } : Jvm.MethodName)) ∈ ps_W := ps_in10 101 rfl rfl
theorem ps_w10_102 : (Jvm.Cond.instanceMethod ({ cls := "PictureStudioModel", name := "fault", desc := "(I)I" } : Jvm.MethodName)) ∈ ps_W := ps_in10 102 rfl rfl
theorem ps_w10_103 : (Jvm.Cond.selects "PictureStudioModel" ({ cls := "PictureStudioModel", name := "fault", desc := "(I)I" } : Jvm.MethodName) ({ cls := "PictureStudioModel", name := "fault", desc := "(I)I" } : Jvm.MethodName)) ∈ ps_W := ps_in10 103 rfl rfl
theorem ps_w10_104 : (Jvm.Cond.code ({ cls := "PictureStudioModel", name := "fault", desc := "(I)I" } : Jvm.MethodName) prog_14_method_16_code (2 : Nat) (Option.some Jvm.ClassFile.FieldType.int)) ∈ ps_W := ps_in10 104 rfl rfl
theorem ps_w10_105 : (Jvm.Cond.methodLink "PictureStudioLaw" (189 : Nat) ({ cls := "PictureStudioModel", name := "open", desc := "(II)V" } : Jvm.MethodName)) ∈ ps_W := ps_in10 105 rfl rfl
theorem ps_w10_106 : (Jvm.Cond.instanceMethod ({ cls := "PictureStudioModel", name := "open", desc := "(II)V" } : Jvm.MethodName)) ∈ ps_W := ps_in10 106 rfl rfl
theorem ps_w10_107 : (Jvm.Cond.selects "PictureStudioModel" ({ cls := "PictureStudioModel", name := "open", desc := "(II)V" } : Jvm.MethodName) ({ cls := "PictureStudioModel", name := "open", desc := "(II)V" } : Jvm.MethodName)) ∈ ps_W := ps_in10 107 rfl rfl
theorem ps_w10_108 : (Jvm.Cond.code ({ cls := "PictureStudioModel", name := "open", desc := "(II)V" } : Jvm.MethodName) prog_14_method_23_code (3 : Nat) (Option.none : Option Jvm.ClassFile.FieldType)) ∈ ps_W := ps_in10 108 rfl rfl
theorem ps_w10_109 : (Jvm.Cond.methodLink "PictureStudioLaw" (327 : Nat) ({ cls := "PictureStudioModel", name := "undo", desc := "()I" } : Jvm.MethodName)) ∈ ps_W := ps_in10 109 rfl rfl
theorem ps_w10_110 : (Jvm.Cond.instanceMethod ({ cls := "PictureStudioModel", name := "undo", desc := "()I" } : Jvm.MethodName)) ∈ ps_W := ps_in10 110 rfl rfl
theorem ps_w10_111 : (Jvm.Cond.selects "PictureStudioModel" ({ cls := "PictureStudioModel", name := "undo", desc := "()I" } : Jvm.MethodName) ({ cls := "PictureStudioModel", name := "undo", desc := "()I" } : Jvm.MethodName)) ∈ ps_W := ps_in10 111 rfl rfl
theorem ps_w10_112 : (Jvm.Cond.code ({ cls := "PictureStudioModel", name := "undo", desc := "()I" } : Jvm.MethodName) prog_14_method_24_code (1 : Nat) (Option.some Jvm.ClassFile.FieldType.int)) ∈ ps_W := ps_in10 112 rfl rfl
theorem ps_w10_113 : (Jvm.Cond.methodLink "PictureStudioModel" (251 : Nat) ({ cls := "PictureStudioModel", name := "bring", desc := "()V" } : Jvm.MethodName)) ∈ ps_W := ps_in10 113 rfl rfl
theorem ps_w10_115 : (Jvm.Cond.instanceMethod ({ cls := "PictureStudioModel", name := "bring", desc := "()V" } : Jvm.MethodName)) ∈ ps_W := ps_in10 115 rfl rfl
theorem ps_w10_116 : (Jvm.Cond.code ({ cls := "PictureStudioModel", name := "bring", desc := "()V" } : Jvm.MethodName) prog_14_method_21_code (2 : Nat) (Option.none : Option Jvm.ClassFile.FieldType)) ∈ ps_W := ps_in10 116 rfl rfl
theorem ps_w10_117 : (Jvm.Cond.methodLink "PictureStudioLaw" (330 : Nat) ({ cls := "PictureStudioModel", name := "redo", desc := "()I" } : Jvm.MethodName)) ∈ ps_W := ps_in10 117 rfl rfl
theorem ps_w10_118 : (Jvm.Cond.instanceMethod ({ cls := "PictureStudioModel", name := "redo", desc := "()I" } : Jvm.MethodName)) ∈ ps_W := ps_in10 118 rfl rfl
theorem ps_w10_119 : (Jvm.Cond.selects "PictureStudioModel" ({ cls := "PictureStudioModel", name := "redo", desc := "()I" } : Jvm.MethodName) ({ cls := "PictureStudioModel", name := "redo", desc := "()I" } : Jvm.MethodName)) ∈ ps_W := ps_in10 119 rfl rfl
theorem ps_w10_120 : (Jvm.Cond.code ({ cls := "PictureStudioModel", name := "redo", desc := "()I" } : Jvm.MethodName) prog_14_method_25_code (1 : Nat) (Option.some Jvm.ClassFile.FieldType.int)) ∈ ps_W := ps_in10 120 rfl rfl
theorem ps_w10_121 : (Jvm.Cond.methodLink "PictureStudioLaw" (193 : Nat) ({ cls := "PictureStudioModel", name := "layer", desc := "(III)I" } : Jvm.MethodName)) ∈ ps_W := ps_in10 121 rfl rfl
theorem ps_w10_122 : (Jvm.Cond.instanceMethod ({ cls := "PictureStudioModel", name := "layer", desc := "(III)I" } : Jvm.MethodName)) ∈ ps_W := ps_in10 122 rfl rfl
theorem ps_w10_123 : (Jvm.Cond.selects "PictureStudioModel" ({ cls := "PictureStudioModel", name := "layer", desc := "(III)I" } : Jvm.MethodName) ({ cls := "PictureStudioModel", name := "layer", desc := "(III)I" } : Jvm.MethodName)) ∈ ps_W := ps_in10 123 rfl rfl
theorem ps_w10_124 : (Jvm.Cond.code ({ cls := "PictureStudioModel", name := "layer", desc := "(III)I" } : Jvm.MethodName) prog_14_method_36_code (7 : Nat) (Option.some Jvm.ClassFile.FieldType.int)) ∈ ps_W := ps_in10 124 rfl rfl
theorem ps_w10_125 : (Jvm.Cond.methodLink "PictureStudioModel" (273 : Nat) ({ cls := "PictureStudioModel", name := "isParent", desc := "(I)Z" } : Jvm.MethodName)) ∈ ps_W := ps_in10 125 rfl rfl
theorem ps_w10_127 : (Jvm.Cond.instanceMethod ({ cls := "PictureStudioModel", name := "isParent", desc := "(I)Z" } : Jvm.MethodName)) ∈ ps_W := ps_in10 127 rfl rfl
theorem ps_w10_128 : (Jvm.Cond.code ({ cls := "PictureStudioModel", name := "isParent", desc := "(I)Z" } : Jvm.MethodName) prog_14_method_30_code (2 : Nat) (Option.some Jvm.ClassFile.FieldType.boolean)) ∈ ps_W := ps_in10 128 rfl rfl
theorem ps_w10_129 : (Jvm.Cond.methodLink "PictureStudioModel" (261 : Nat) ({ cls := "PictureStudioModel", name := "is", desc := "(II)Z" } : Jvm.MethodName)) ∈ ps_W := ps_in10 129 rfl rfl
theorem ps_w10_131 : (Jvm.Cond.instanceMethod ({ cls := "PictureStudioModel", name := "is", desc := "(II)Z" } : Jvm.MethodName)) ∈ ps_W := ps_in10 131 rfl rfl
theorem ps_w10_132 : (Jvm.Cond.code ({ cls := "PictureStudioModel", name := "is", desc := "(II)Z" } : Jvm.MethodName) prog_14_method_29_code (3 : Nat) (Option.some Jvm.ClassFile.FieldType.boolean)) ∈ ps_W := ps_in10 132 rfl rfl
theorem ps_w10_133 : (Jvm.Cond.methodLink "PictureStudioModel" (257 : Nat) ({ cls := "PictureStudioModel", name := "isLayer", desc := "(I)Z" } : Jvm.MethodName)) ∈ ps_W := ps_in10 133 rfl rfl
theorem ps_w10_135 : (Jvm.Cond.instanceMethod ({ cls := "PictureStudioModel", name := "isLayer", desc := "(I)Z" } : Jvm.MethodName)) ∈ ps_W := ps_in10 135 rfl rfl
theorem ps_w10_136 : (Jvm.Cond.code ({ cls := "PictureStudioModel", name := "isLayer", desc := "(I)Z" } : Jvm.MethodName) prog_14_method_28_code (2 : Nat) (Option.some Jvm.ClassFile.FieldType.boolean)) ∈ ps_W := ps_in10 136 rfl rfl
theorem ps_w10_137 : (Jvm.Cond.methodLink "PictureStudioModel" (254 : Nat) ({ cls := "PictureStudioModel", name := "get", desc := "(II)I" } : Jvm.MethodName)) ∈ ps_W := ps_in10 137 rfl rfl
theorem ps_w10_139 : (Jvm.Cond.instanceMethod ({ cls := "PictureStudioModel", name := "get", desc := "(II)I" } : Jvm.MethodName)) ∈ ps_W := ps_in10 139 rfl rfl
theorem ps_w10_140 : (Jvm.Cond.code ({ cls := "PictureStudioModel", name := "get", desc := "(II)I" } : Jvm.MethodName) prog_14_method_26_code (3 : Nat) (Option.some Jvm.ClassFile.FieldType.int)) ∈ ps_W := ps_in10 140 rfl rfl
theorem ps_w10_141 : (Jvm.Cond.methodLink "PictureStudioModel" (276 : Nat) ({ cls := "PictureStudioModel", name := "many", desc := "(I)I" } : Jvm.MethodName)) ∈ ps_W := ps_in10 141 rfl rfl
theorem ps_w10_143 : (Jvm.Cond.instanceMethod ({ cls := "PictureStudioModel", name := "many", desc := "(I)I" } : Jvm.MethodName)) ∈ ps_W := ps_in10 143 rfl rfl
theorem ps_w10_144 : (Jvm.Cond.code ({ cls := "PictureStudioModel", name := "many", desc := "(I)I" } : Jvm.MethodName) prog_14_method_31_code (4 : Nat) (Option.some Jvm.ClassFile.FieldType.int)) ∈ ps_W := ps_in10 144 rfl rfl
theorem ps_w10_145 : (Jvm.Cond.constant "PictureStudioModel" (269 : Nat) (35070 : Int32)) ∈ ps_W := ps_in10 145 rfl rfl
theorem ps_w10_146 : (Jvm.Cond.methodLink "PictureStudioModel" (280 : Nat) ({ cls := "PictureStudioModel", name := "newLayer", desc := "(III)I" } : Jvm.MethodName)) ∈ ps_W := ps_in10 146 rfl rfl
theorem ps_w10_148 : (Jvm.Cond.instanceMethod ({ cls := "PictureStudioModel", name := "newLayer", desc := "(III)I" } : Jvm.MethodName)) ∈ ps_W := ps_in10 148 rfl rfl
theorem ps_w10_149 : (Jvm.Cond.code ({ cls := "PictureStudioModel", name := "newLayer", desc := "(III)I" } : Jvm.MethodName) prog_14_method_35_code (6 : Nat) (Option.some Jvm.ClassFile.FieldType.int)) ∈ ps_W := ps_in10 149 rfl rfl
theorem ps_w10_150 : (Jvm.Cond.methodLink "PictureStudioModel" (270 : Nat) ({ cls := "PictureStudioModel", name := "shift", desc := "(III)V" } : Jvm.MethodName)) ∈ ps_W := ps_in10 150 rfl rfl
theorem ps_w10_152 : (Jvm.Cond.instanceMethod ({ cls := "PictureStudioModel", name := "shift", desc := "(III)V" } : Jvm.MethodName)) ∈ ps_W := ps_in10 152 rfl rfl
theorem ps_w10_153 : (Jvm.Cond.code ({ cls := "PictureStudioModel", name := "shift", desc := "(III)V" } : Jvm.MethodName) prog_14_method_34_code (5 : Nat) (Option.none : Option Jvm.ClassFile.FieldType)) ∈ ps_W := ps_in10 153 rfl rfl
theorem ps_w10_154 : (Jvm.Cond.methodLink "PictureStudioModel" (265 : Nat) ({ cls := "PictureStudioModel", name := "put", desc := "(III)V" } : Jvm.MethodName)) ∈ ps_W := ps_in10 154 rfl rfl
theorem ps_w10_156 : (Jvm.Cond.instanceMethod ({ cls := "PictureStudioModel", name := "put", desc := "(III)V" } : Jvm.MethodName)) ∈ ps_W := ps_in10 156 rfl rfl
theorem ps_w10_157 : (Jvm.Cond.code ({ cls := "PictureStudioModel", name := "put", desc := "(III)V" } : Jvm.MethodName) prog_14_method_27_code (4 : Nat) (Option.none : Option Jvm.ClassFile.FieldType)) ∈ ps_W := ps_in10 157 rfl rfl
theorem ps_w10_158 : (Jvm.Cond.methodLink "PictureStudioModel" (284 : Nat) ({ cls := "PictureStudioModel", name := "edited", desc := "()V" } : Jvm.MethodName)) ∈ ps_W := ps_in10 158 rfl rfl
theorem ps_w10_160 : (Jvm.Cond.instanceMethod ({ cls := "PictureStudioModel", name := "edited", desc := "()V" } : Jvm.MethodName)) ∈ ps_W := ps_in10 160 rfl rfl
theorem ps_w10_161 : (Jvm.Cond.code ({ cls := "PictureStudioModel", name := "edited", desc := "()V" } : Jvm.MethodName) prog_14_method_22_code (1 : Nat) (Option.none : Option Jvm.ClassFile.FieldType)) ∈ ps_W := ps_in10 161 rfl rfl
theorem ps_w10_162 : (Jvm.Cond.methodLink "PictureStudioLaw" (197 : Nat) ({ cls := "PictureStudioModel", name := "drop", desc := "(I)V" } : Jvm.MethodName)) ∈ ps_W := ps_in10 162 rfl rfl
theorem ps_w10_163 : (Jvm.Cond.instanceMethod ({ cls := "PictureStudioModel", name := "drop", desc := "(I)V" } : Jvm.MethodName)) ∈ ps_W := ps_in10 163 rfl rfl
theorem ps_w10_164 : (Jvm.Cond.selects "PictureStudioModel" ({ cls := "PictureStudioModel", name := "drop", desc := "(I)V" } : Jvm.MethodName) ({ cls := "PictureStudioModel", name := "drop", desc := "(I)V" } : Jvm.MethodName)) ∈ ps_W := ps_in10 164 rfl rfl
theorem ps_w10_165 : (Jvm.Cond.code ({ cls := "PictureStudioModel", name := "drop", desc := "(I)V" } : Jvm.MethodName) prog_14_method_38_code (2 : Nat) (Option.none : Option Jvm.ClassFile.FieldType)) ∈ ps_W := ps_in10 165 rfl rfl
theorem ps_w10_166 : (Jvm.Cond.methodLink "PictureStudioModel" (290 : Nat) ({ cls := "PictureStudioModel", name := "takeAway", desc := "(I)V" } : Jvm.MethodName)) ∈ ps_W := ps_in10 166 rfl rfl
theorem ps_w10_168 : (Jvm.Cond.instanceMethod ({ cls := "PictureStudioModel", name := "takeAway", desc := "(I)V" } : Jvm.MethodName)) ∈ ps_W := ps_in10 168 rfl rfl
theorem ps_w10_169 : (Jvm.Cond.code ({ cls := "PictureStudioModel", name := "takeAway", desc := "(I)V" } : Jvm.MethodName) prog_14_method_37_code (5 : Nat) (Option.none : Option Jvm.ClassFile.FieldType)) ∈ ps_W := ps_in10 169 rfl rfl
theorem ps_w10_170 : (Jvm.Cond.methodLink "PictureStudioModel" (287 : Nat) ({ cls := "PictureStudioModel", name := "isIn", desc := "(II)Z" } : Jvm.MethodName)) ∈ ps_W := ps_in10 170 rfl rfl
theorem ps_w10_172 : (Jvm.Cond.instanceMethod ({ cls := "PictureStudioModel", name := "isIn", desc := "(II)Z" } : Jvm.MethodName)) ∈ ps_W := ps_in10 172 rfl rfl
theorem ps_w10_173 : (Jvm.Cond.code ({ cls := "PictureStudioModel", name := "isIn", desc := "(II)Z" } : Jvm.MethodName) prog_14_method_33_code (4 : Nat) (Option.some Jvm.ClassFile.FieldType.boolean)) ∈ ps_W := ps_in10 173 rfl rfl
theorem ps_w10_174 : (Jvm.Cond.methodLink "PictureStudioLaw" (201 : Nat) ({ cls := "PictureStudioModel", name := "move", desc := "(III)V" } : Jvm.MethodName)) ∈ ps_W := ps_in10 174 rfl rfl
theorem ps_w10_175 : (Jvm.Cond.instanceMethod ({ cls := "PictureStudioModel", name := "move", desc := "(III)V" } : Jvm.MethodName)) ∈ ps_W := ps_in10 175 rfl rfl
theorem ps_w10_176 : (Jvm.Cond.selects "PictureStudioModel" ({ cls := "PictureStudioModel", name := "move", desc := "(III)V" } : Jvm.MethodName) ({ cls := "PictureStudioModel", name := "move", desc := "(III)V" } : Jvm.MethodName)) ∈ ps_W := ps_in10 176 rfl rfl
theorem ps_w10_177 : (Jvm.Cond.code ({ cls := "PictureStudioModel", name := "move", desc := "(III)V" } : Jvm.MethodName) prog_14_method_39_code (8 : Nat) (Option.none : Option Jvm.ClassFile.FieldType)) ∈ ps_W := ps_in10 177 rfl rfl
theorem ps_w10_178 : (Jvm.Cond.methodLink "PictureStudioLaw" (204 : Nat) ({ cls := "PictureStudioModel", name := "set", desc := "(III)V" } : Jvm.MethodName)) ∈ ps_W := ps_in10 178 rfl rfl
theorem ps_w10_179 : (Jvm.Cond.instanceMethod ({ cls := "PictureStudioModel", name := "set", desc := "(III)V" } : Jvm.MethodName)) ∈ ps_W := ps_in10 179 rfl rfl
theorem ps_w10_180 : (Jvm.Cond.selects "PictureStudioModel" ({ cls := "PictureStudioModel", name := "set", desc := "(III)V" } : Jvm.MethodName) ({ cls := "PictureStudioModel", name := "set", desc := "(III)V" } : Jvm.MethodName)) ∈ ps_W := ps_in10 180 rfl rfl
theorem ps_w10_181 : (Jvm.Cond.code ({ cls := "PictureStudioModel", name := "set", desc := "(III)V" } : Jvm.MethodName) prog_14_method_40_code (5 : Nat) (Option.none : Option Jvm.ClassFile.FieldType)) ∈ ps_W := ps_in10 181 rfl rfl
theorem ps_w10_182 : (Jvm.Cond.methodLink "PictureStudioLaw" (207 : Nat) ({ cls := "PictureStudioModel", name := "mask", desc := "(II)V" } : Jvm.MethodName)) ∈ ps_W := ps_in10 182 rfl rfl
theorem ps_w10_183 : (Jvm.Cond.instanceMethod ({ cls := "PictureStudioModel", name := "mask", desc := "(II)V" } : Jvm.MethodName)) ∈ ps_W := ps_in10 183 rfl rfl
theorem ps_w10_184 : (Jvm.Cond.selects "PictureStudioModel" ({ cls := "PictureStudioModel", name := "mask", desc := "(II)V" } : Jvm.MethodName) ({ cls := "PictureStudioModel", name := "mask", desc := "(II)V" } : Jvm.MethodName)) ∈ ps_W := ps_in10 184 rfl rfl
theorem ps_w10_185 : (Jvm.Cond.code ({ cls := "PictureStudioModel", name := "mask", desc := "(II)V" } : Jvm.MethodName) prog_14_method_41_code (4 : Nat) (Option.none : Option Jvm.ClassFile.FieldType)) ∈ ps_W := ps_in10 185 rfl rfl
theorem ps_w10_186 : (Jvm.Cond.methodLink "PictureStudioLaw" (210 : Nat) ({ cls := "PictureStudioModel", name := "colours", desc := "(III)V" } : Jvm.MethodName)) ∈ ps_W := ps_in10 186 rfl rfl
theorem ps_w10_187 : (Jvm.Cond.instanceMethod ({ cls := "PictureStudioModel", name := "colours", desc := "(III)V" } : Jvm.MethodName)) ∈ ps_W := ps_in10 187 rfl rfl
theorem ps_w10_188 : (Jvm.Cond.selects "PictureStudioModel" ({ cls := "PictureStudioModel", name := "colours", desc := "(III)V" } : Jvm.MethodName) ({ cls := "PictureStudioModel", name := "colours", desc := "(III)V" } : Jvm.MethodName)) ∈ ps_W := ps_in10 188 rfl rfl
theorem ps_w10_189 : (Jvm.Cond.code ({ cls := "PictureStudioModel", name := "colours", desc := "(III)V" } : Jvm.MethodName) prog_14_method_43_code (6 : Nat) (Option.none : Option Jvm.ClassFile.FieldType)) ∈ ps_W := ps_in10 189 rfl rfl
theorem ps_w10_190 : (Jvm.Cond.methodLink "PictureStudioModel" (293 : Nat) ({ cls := "PictureStudioModel", name := "isFilter", desc := "(II)Z" } : Jvm.MethodName)) ∈ ps_W := ps_in10 190 rfl rfl
theorem ps_w10_191 : (Jvm.Cond.static ({ cls := "PictureStudioModel", name := "isFilter", desc := "(II)Z" } : Jvm.MethodName)) ∈ ps_W := ps_in10 191 rfl rfl
theorem ps_w10_192 : (Jvm.Cond.code ({ cls := "PictureStudioModel", name := "isFilter", desc := "(II)Z" } : Jvm.MethodName) prog_14_method_42_code (2 : Nat) (Option.some Jvm.ClassFile.FieldType.boolean)) ∈ ps_W := ps_in10 192 rfl rfl
theorem ps_w10_193 : (Jvm.Cond.methodLink "PictureStudioLaw" (214 : Nat) ({ cls := "PictureStudioModel", name := "ramp", desc := "(IIIII)V" } : Jvm.MethodName)) ∈ ps_W := ps_in10 193 rfl rfl
theorem ps_w10_194 : (Jvm.Cond.instanceMethod ({ cls := "PictureStudioModel", name := "ramp", desc := "(IIIII)V" } : Jvm.MethodName)) ∈ ps_W := ps_in10 194 rfl rfl
theorem ps_w10_195 : (Jvm.Cond.selects "PictureStudioModel" ({ cls := "PictureStudioModel", name := "ramp", desc := "(IIIII)V" } : Jvm.MethodName) ({ cls := "PictureStudioModel", name := "ramp", desc := "(IIIII)V" } : Jvm.MethodName)) ∈ ps_W := ps_in10 195 rfl rfl
theorem ps_w10_196 : (Jvm.Cond.code ({ cls := "PictureStudioModel", name := "ramp", desc := "(IIIII)V" } : Jvm.MethodName) prog_14_method_44_code (7 : Nat) (Option.none : Option Jvm.ClassFile.FieldType)) ∈ ps_W := ps_in10 196 rfl rfl
theorem ps_w10_197 : (Jvm.Cond.methodLink "PictureStudioLaw" (318 : Nat) ({ cls := "PictureStudioModel", name := "about", desc := "(II)I" } : Jvm.MethodName)) ∈ ps_W := ps_in10 197 rfl rfl
theorem ps_w10_198 : (Jvm.Cond.instanceMethod ({ cls := "PictureStudioModel", name := "about", desc := "(II)I" } : Jvm.MethodName)) ∈ ps_W := ps_in10 198 rfl rfl
theorem ps_w10_199 : (Jvm.Cond.selects "PictureStudioModel" ({ cls := "PictureStudioModel", name := "about", desc := "(II)I" } : Jvm.MethodName) ({ cls := "PictureStudioModel", name := "about", desc := "(II)I" } : Jvm.MethodName)) ∈ ps_W := ps_in10 199 rfl rfl
theorem ps_w10_200 : (Jvm.Cond.code ({ cls := "PictureStudioModel", name := "about", desc := "(II)I" } : Jvm.MethodName) prog_14_method_45_code (3 : Nat) (Option.some Jvm.ClassFile.FieldType.int)) ∈ ps_W := ps_in10 200 rfl rfl
theorem ps_w10_201 : (Jvm.Cond.methodLink "PictureStudioLaw" (312 : Nat) ({ cls := "PictureStudioModel", name := "pixel", desc := "(III)I" } : Jvm.MethodName)) ∈ ps_W := ps_in10 201 rfl rfl
theorem ps_w10_202 : (Jvm.Cond.instanceMethod ({ cls := "PictureStudioModel", name := "pixel", desc := "(III)I" } : Jvm.MethodName)) ∈ ps_W := ps_in10 202 rfl rfl
theorem ps_w10_203 : (Jvm.Cond.selects "PictureStudioModel" ({ cls := "PictureStudioModel", name := "pixel", desc := "(III)I" } : Jvm.MethodName) ({ cls := "PictureStudioModel", name := "pixel", desc := "(III)I" } : Jvm.MethodName)) ∈ ps_W := ps_in10 203 rfl rfl
theorem ps_w10_204 : (Jvm.Cond.code ({ cls := "PictureStudioModel", name := "pixel", desc := "(III)I" } : Jvm.MethodName) prog_14_method_46_code (4 : Nat) (Option.some Jvm.ClassFile.FieldType.int)) ∈ ps_W := ps_in10 204 rfl rfl
theorem ps_w10_205 : (Jvm.Cond.methodLink "PictureStudioModel" (296 : Nat) ({ cls := "PictureStudioModel", name := "isPlace", desc := "(II)Z" } : Jvm.MethodName)) ∈ ps_W := ps_in10 205 rfl rfl
theorem ps_w10_207 : (Jvm.Cond.instanceMethod ({ cls := "PictureStudioModel", name := "isPlace", desc := "(II)Z" } : Jvm.MethodName)) ∈ ps_W := ps_in10 207 rfl rfl
theorem ps_w10_208 : (Jvm.Cond.code ({ cls := "PictureStudioModel", name := "isPlace", desc := "(II)Z" } : Jvm.MethodName) prog_14_method_48_code (3 : Nat) (Option.some Jvm.ClassFile.FieldType.boolean)) ∈ ps_W := ps_in10 208 rfl rfl
theorem ps_w10_209 : (Jvm.Cond.methodLink "PictureStudioModel" (299 : Nat) ({ cls := "PictureStudioModel", name := "at", desc := "(II)I" } : Jvm.MethodName)) ∈ ps_W := ps_in10 209 rfl rfl
theorem ps_w10_211 : (Jvm.Cond.instanceMethod ({ cls := "PictureStudioModel", name := "at", desc := "(II)I" } : Jvm.MethodName)) ∈ ps_W := ps_in10 211 rfl rfl
theorem ps_w10_212 : (Jvm.Cond.code ({ cls := "PictureStudioModel", name := "at", desc := "(II)I" } : Jvm.MethodName) prog_14_method_49_code (3 : Nat) (Option.some Jvm.ClassFile.FieldType.int)) ∈ ps_W := ps_in10 212 rfl rfl
theorem ps_w10_213 : (Jvm.Cond.methodLink "PictureStudioLaw" (315 : Nat) ({ cls := "PictureStudioModel", name := "masked", desc := "(III)I" } : Jvm.MethodName)) ∈ ps_W := ps_in10 213 rfl rfl
theorem ps_w10_214 : (Jvm.Cond.instanceMethod ({ cls := "PictureStudioModel", name := "masked", desc := "(III)I" } : Jvm.MethodName)) ∈ ps_W := ps_in10 214 rfl rfl
theorem ps_w10_215 : (Jvm.Cond.selects "PictureStudioModel" ({ cls := "PictureStudioModel", name := "masked", desc := "(III)I" } : Jvm.MethodName) ({ cls := "PictureStudioModel", name := "masked", desc := "(III)I" } : Jvm.MethodName)) ∈ ps_W := ps_in10 215 rfl rfl
theorem ps_w10_216 : (Jvm.Cond.code ({ cls := "PictureStudioModel", name := "masked", desc := "(III)I" } : Jvm.MethodName) prog_14_method_47_code (4 : Nat) (Option.some Jvm.ClassFile.FieldType.int)) ∈ ps_W := ps_in10 216 rfl rfl
theorem ps_w10_217 : (Jvm.Cond.methodLink "PictureStudioLaw" (302 : Nat) ({ cls := "PictureStudioModel", name := "see", desc := "(II)I" } : Jvm.MethodName)) ∈ ps_W := ps_in10 217 rfl rfl
theorem ps_w10_218 : (Jvm.Cond.instanceMethod ({ cls := "PictureStudioModel", name := "see", desc := "(II)I" } : Jvm.MethodName)) ∈ ps_W := ps_in10 218 rfl rfl
theorem ps_w10_219 : (Jvm.Cond.selects "PictureStudioModel" ({ cls := "PictureStudioModel", name := "see", desc := "(II)I" } : Jvm.MethodName) ({ cls := "PictureStudioModel", name := "see", desc := "(II)I" } : Jvm.MethodName)) ∈ ps_W := ps_in10 219 rfl rfl
theorem ps_w10_220 : (Jvm.Cond.code ({ cls := "PictureStudioModel", name := "see", desc := "(II)I" } : Jvm.MethodName) prog_14_method_68_code (5 : Nat) (Option.some Jvm.ClassFile.FieldType.int)) ∈ ps_W := ps_in10 220 rfl rfl
theorem ps_w10_221 : (Jvm.Cond.methodLink "PictureStudioModel" (382 : Nat) ({ cls := "PictureStudioModel", name := "across", desc := "()I" } : Jvm.MethodName)) ∈ ps_W := ps_in10 221 rfl rfl
theorem ps_w10_223 : (Jvm.Cond.instanceMethod ({ cls := "PictureStudioModel", name := "across", desc := "()I" } : Jvm.MethodName)) ∈ ps_W := ps_in10 223 rfl rfl
theorem ps_w10_224 : (Jvm.Cond.code ({ cls := "PictureStudioModel", name := "across", desc := "()I" } : Jvm.MethodName) prog_14_method_67_code (1 : Nat) (Option.some Jvm.ClassFile.FieldType.int)) ∈ ps_W := ps_in10 224 rfl rfl
theorem ps_w10_225 : (Jvm.Cond.methodLink "PictureStudioModel" (386 : Nat) ({ cls := "PictureStudioModel", name := "composeAll", desc := "()V" } : Jvm.MethodName)) ∈ ps_W := ps_in10 225 rfl rfl
theorem ps_w10_227 : (Jvm.Cond.instanceMethod ({ cls := "PictureStudioModel", name := "composeAll", desc := "()V" } : Jvm.MethodName)) ∈ ps_W := ps_in10 227 rfl rfl
theorem ps_w10_228 : (Jvm.Cond.code ({ cls := "PictureStudioModel", name := "composeAll", desc := "()V" } : Jvm.MethodName) prog_14_method_58_code (1 : Nat) (Option.none : Option Jvm.ClassFile.FieldType)) ∈ ps_W := ps_in10 228 rfl rfl
theorem ps_w10_229 : (Jvm.Cond.methodLink "PictureStudioModel" (337 : Nat) ({ cls := "PictureStudioModel", name := "composeGroups", desc := "()V" } : Jvm.MethodName)) ∈ ps_W := ps_in10 229 rfl rfl
theorem ps_w10_231 : (Jvm.Cond.instanceMethod ({ cls := "PictureStudioModel", name := "composeGroups", desc := "()V" } : Jvm.MethodName)) ∈ ps_W := ps_in10 231 rfl rfl
theorem ps_w10_232 : (Jvm.Cond.code ({ cls := "PictureStudioModel", name := "composeGroups", desc := "()V" } : Jvm.MethodName) prog_14_method_57_code (3 : Nat) (Option.none : Option Jvm.ClassFile.FieldType)) ∈ ps_W := ps_in10 232 rfl rfl
theorem ps_w10_233 : (Jvm.Cond.methodLink "PictureStudioModel" (330 : Nat) ({ cls := "PictureStudioModel", name := "depthOf", desc := "(I)I" } : Jvm.MethodName)) ∈ ps_W := ps_in10 233 rfl rfl
theorem ps_w10_235 : (Jvm.Cond.instanceMethod ({ cls := "PictureStudioModel", name := "depthOf", desc := "(I)I" } : Jvm.MethodName)) ∈ ps_W := ps_in10 235 rfl rfl
theorem ps_w10_236 : (Jvm.Cond.code ({ cls := "PictureStudioModel", name := "depthOf", desc := "(I)I" } : Jvm.MethodName) prog_14_method_56_code (4 : Nat) (Option.some Jvm.ClassFile.FieldType.int)) ∈ ps_W := ps_in10 236 rfl rfl
theorem ps_w10_237 : (Jvm.Cond.methodLink "PictureStudioModel" (333 : Nat) ({ cls := "PictureStudioModel", name := "compose", desc := "(IZZ)V" } : Jvm.MethodName)) ∈ ps_W := ps_in10 237 rfl rfl
theorem ps_w10_239 : (Jvm.Cond.instanceMethod ({ cls := "PictureStudioModel", name := "compose", desc := "(IZZ)V" } : Jvm.MethodName)) ∈ ps_W := ps_in10 239 rfl rfl
theorem ps_w11_0 : (Jvm.Cond.code ({ cls := "PictureStudioModel", name := "compose", desc := "(IZZ)V" } : Jvm.MethodName) prog_14_method_59_code (12 : Nat) (Option.none : Option Jvm.ClassFile.FieldType)) ∈ ps_W := ps_in11 0 rfl rfl
theorem ps_w11_1 : (Jvm.Cond.methodLink "PictureStudioModel" (340 : Nat) ({ cls := "PictureStudioModel", name := "child", desc := "(II)I" } : Jvm.MethodName)) ∈ ps_W := ps_in11 1 rfl rfl
theorem ps_w11_3 : (Jvm.Cond.instanceMethod ({ cls := "PictureStudioModel", name := "child", desc := "(II)I" } : Jvm.MethodName)) ∈ ps_W := ps_in11 3 rfl rfl
theorem ps_w11_4 : (Jvm.Cond.code ({ cls := "PictureStudioModel", name := "child", desc := "(II)I" } : Jvm.MethodName) prog_14_method_32_code (4 : Nat) (Option.some Jvm.ClassFile.FieldType.int)) ∈ ps_W := ps_in11 4 rfl rfl
theorem ps_w11_5 : (Jvm.Cond.methodLink "PictureStudioModel" (349 : Nat) ({ cls := "PictureStudioModel", name := "lay", desc := "(IIIZZ)V" } : Jvm.MethodName)) ∈ ps_W := ps_in11 5 rfl rfl
theorem ps_w11_7 : (Jvm.Cond.instanceMethod ({ cls := "PictureStudioModel", name := "lay", desc := "(IIIZZ)V" } : Jvm.MethodName)) ∈ ps_W := ps_in11 7 rfl rfl
theorem ps_w11_8 : (Jvm.Cond.code ({ cls := "PictureStudioModel", name := "lay", desc := "(IIIZZ)V" } : Jvm.MethodName) prog_14_method_61_code (9 : Nat) (Option.none : Option Jvm.ClassFile.FieldType)) ∈ ps_W := ps_in11 8 rfl rfl
theorem ps_w11_9 : (Jvm.Cond.methodLink "PictureStudioModel" (357 : Nat) ({ cls := "PictureStudioModel", name := "curved", desc := "(II)I" } : Jvm.MethodName)) ∈ ps_W := ps_in11 9 rfl rfl
theorem ps_w11_11 : (Jvm.Cond.instanceMethod ({ cls := "PictureStudioModel", name := "curved", desc := "(II)I" } : Jvm.MethodName)) ∈ ps_W := ps_in11 11 rfl rfl
theorem ps_w11_12 : (Jvm.Cond.code ({ cls := "PictureStudioModel", name := "curved", desc := "(II)I" } : Jvm.MethodName) prog_14_method_85_code (5 : Nat) (Option.some Jvm.ClassFile.FieldType.int)) ∈ ps_W := ps_in11 12 rfl rfl
theorem ps_w11_13 : (Jvm.Cond.methodLink "PictureStudioModel" (317 : Nat) ({ cls := "PictureStudioModel", name := "alpha", desc := "(I)I" } : Jvm.MethodName)) ∈ ps_W := ps_in11 13 rfl rfl
theorem ps_w11_14 : (Jvm.Cond.static ({ cls := "PictureStudioModel", name := "alpha", desc := "(I)I" } : Jvm.MethodName)) ∈ ps_W := ps_in11 14 rfl rfl
theorem ps_w11_15 : (Jvm.Cond.code ({ cls := "PictureStudioModel", name := "alpha", desc := "(I)I" } : Jvm.MethodName) prog_14_method_10_code (1 : Nat) (Option.some Jvm.ClassFile.FieldType.int)) ∈ ps_W := ps_in11 15 rfl rfl
theorem ps_w11_16 : (Jvm.Cond.methodLink "PictureStudioModel" (206 : Nat) ({ cls := "PictureStudioModel", name := "part", desc := "(II)I" } : Jvm.MethodName)) ∈ ps_W := ps_in11 16 rfl rfl
theorem ps_w11_17 : (Jvm.Cond.static ({ cls := "PictureStudioModel", name := "part", desc := "(II)I" } : Jvm.MethodName)) ∈ ps_W := ps_in11 17 rfl rfl
theorem ps_w11_18 : (Jvm.Cond.code ({ cls := "PictureStudioModel", name := "part", desc := "(II)I" } : Jvm.MethodName) prog_14_method_11_code (2 : Nat) (Option.some Jvm.ClassFile.FieldType.int)) ∈ ps_W := ps_in11 18 rfl rfl
theorem ps_w11_19 : (Jvm.Cond.methodLink "PictureStudioModel" (436 : Nat) ({ cls := "PictureStudioModel", name := "curveAt", desc := "(II)I" } : Jvm.MethodName)) ∈ ps_W := ps_in11 19 rfl rfl
theorem ps_w11_21 : (Jvm.Cond.instanceMethod ({ cls := "PictureStudioModel", name := "curveAt", desc := "(II)I" } : Jvm.MethodName)) ∈ ps_W := ps_in11 21 rfl rfl
theorem ps_w11_22 : (Jvm.Cond.code ({ cls := "PictureStudioModel", name := "curveAt", desc := "(II)I" } : Jvm.MethodName) prog_14_method_84_code (8 : Nat) (Option.some Jvm.ClassFile.FieldType.int)) ∈ ps_W := ps_in11 22 rfl rfl
theorem ps_w11_23 : (Jvm.Cond.methodLink "PictureStudioModel" (360 : Nat) ({ cls := "PictureStudioModel", name := "filtered", desc := "(IIII)I" } : Jvm.MethodName)) ∈ ps_W := ps_in11 23 rfl rfl
theorem ps_w11_25 : (Jvm.Cond.instanceMethod ({ cls := "PictureStudioModel", name := "filtered", desc := "(IIII)I" } : Jvm.MethodName)) ∈ ps_W := ps_in11 25 rfl rfl
theorem ps_w11_26 : (Jvm.Cond.code ({ cls := "PictureStudioModel", name := "filtered", desc := "(IIII)I" } : Jvm.MethodName) prog_14_method_80_code (11 : Nat) (Option.some Jvm.ClassFile.FieldType.int)) ∈ ps_W := ps_in11 26 rfl rfl
theorem ps_w11_27 : (Jvm.Cond.methodLink "PictureStudioModel" (401 : Nat) ({ cls := "PictureStudioModel", name := "near", desc := "(II)I" } : Jvm.MethodName)) ∈ ps_W := ps_in11 27 rfl rfl
theorem ps_w11_29 : (Jvm.Cond.instanceMethod ({ cls := "PictureStudioModel", name := "near", desc := "(II)I" } : Jvm.MethodName)) ∈ ps_W := ps_in11 29 rfl rfl
theorem ps_w11_30 : (Jvm.Cond.code ({ cls := "PictureStudioModel", name := "near", desc := "(II)I" } : Jvm.MethodName) prog_14_method_72_code (5 : Nat) (Option.some Jvm.ClassFile.FieldType.int)) ∈ ps_W := ps_in11 30 rfl rfl
theorem ps_w11_31 : (Jvm.Cond.methodLink "PictureStudioModel" (414 : Nat) ({ cls := "PictureStudioModel", name := "soft", desc := "(III)I" } : Jvm.MethodName)) ∈ ps_W := ps_in11 31 rfl rfl
theorem ps_w11_33 : (Jvm.Cond.instanceMethod ({ cls := "PictureStudioModel", name := "soft", desc := "(III)I" } : Jvm.MethodName)) ∈ ps_W := ps_in11 33 rfl rfl
theorem ps_w11_34 : (Jvm.Cond.code ({ cls := "PictureStudioModel", name := "soft", desc := "(III)I" } : Jvm.MethodName) prog_14_method_73_code (11 : Nat) (Option.some Jvm.ClassFile.FieldType.int)) ∈ ps_W := ps_in11 34 rfl rfl
theorem ps_w11_35 : (Jvm.Cond.methodLink "PictureStudioModel" (392 : Nat) ({ cls := "PictureStudioModel", name := "colour", desc := "(IIII)I" } : Jvm.MethodName)) ∈ ps_W := ps_in11 35 rfl rfl
theorem ps_w11_36 : (Jvm.Cond.static ({ cls := "PictureStudioModel", name := "colour", desc := "(IIII)I" } : Jvm.MethodName)) ∈ ps_W := ps_in11 36 rfl rfl
theorem ps_w11_37 : (Jvm.Cond.code ({ cls := "PictureStudioModel", name := "colour", desc := "(IIII)I" } : Jvm.MethodName) prog_14_method_9_code (4 : Nat) (Option.some Jvm.ClassFile.FieldType.int)) ∈ ps_W := ps_in11 37 rfl rfl
theorem ps_w11_38 : (Jvm.Cond.methodLink "PictureStudioModel" (417 : Nat) ({ cls := "PictureStudioModel", name := "middle", desc := "(III)I" } : Jvm.MethodName)) ∈ ps_W := ps_in11 38 rfl rfl
theorem ps_w11_40 : (Jvm.Cond.instanceMethod ({ cls := "PictureStudioModel", name := "middle", desc := "(III)I" } : Jvm.MethodName)) ∈ ps_W := ps_in11 40 rfl rfl
theorem ps_w11_41 : (Jvm.Cond.code ({ cls := "PictureStudioModel", name := "middle", desc := "(III)I" } : Jvm.MethodName) prog_14_method_74_code (9 : Nat) (Option.some Jvm.ClassFile.FieldType.int)) ∈ ps_W := ps_in11 41 rfl rfl
theorem ps_w11_42 : (Jvm.Cond.methodLink "PictureStudioModel" (420 : Nat) ({ cls := "PictureStudioModel", name := "edges", desc := "(II)I" } : Jvm.MethodName)) ∈ ps_W := ps_in11 42 rfl rfl
theorem ps_w11_44 : (Jvm.Cond.instanceMethod ({ cls := "PictureStudioModel", name := "edges", desc := "(II)I" } : Jvm.MethodName)) ∈ ps_W := ps_in11 44 rfl rfl
theorem ps_w11_45 : (Jvm.Cond.code ({ cls := "PictureStudioModel", name := "edges", desc := "(II)I" } : Jvm.MethodName) prog_14_method_76_code (5 : Nat) (Option.some Jvm.ClassFile.FieldType.int)) ∈ ps_W := ps_in11 45 rfl rfl
theorem ps_w11_46 : (Jvm.Cond.methodLink "PictureStudioModel" (404 : Nat) ({ cls := "PictureStudioModel", name := "brightAt", desc := "(II)I" } : Jvm.MethodName)) ∈ ps_W := ps_in11 46 rfl rfl
theorem ps_w11_48 : (Jvm.Cond.instanceMethod ({ cls := "PictureStudioModel", name := "brightAt", desc := "(II)I" } : Jvm.MethodName)) ∈ ps_W := ps_in11 48 rfl rfl
theorem ps_w11_49 : (Jvm.Cond.code ({ cls := "PictureStudioModel", name := "brightAt", desc := "(II)I" } : Jvm.MethodName) prog_14_method_75_code (3 : Nat) (Option.some Jvm.ClassFile.FieldType.int)) ∈ ps_W := ps_in11 49 rfl rfl
theorem ps_w11_50 : (Jvm.Cond.methodLink "PictureStudioModel" (320 : Nat) ({ cls := "PictureStudioModel", name := "bright", desc := "(I)I" } : Jvm.MethodName)) ∈ ps_W := ps_in11 50 rfl rfl
theorem ps_w11_51 : (Jvm.Cond.static ({ cls := "PictureStudioModel", name := "bright", desc := "(I)I" } : Jvm.MethodName)) ∈ ps_W := ps_in11 51 rfl rfl
theorem ps_w11_52 : (Jvm.Cond.code ({ cls := "PictureStudioModel", name := "bright", desc := "(I)I" } : Jvm.MethodName) prog_14_method_12_code (1 : Nat) (Option.some Jvm.ClassFile.FieldType.int)) ∈ ps_W := ps_in11 52 rfl rfl
theorem ps_w11_53 : (Jvm.Cond.methodLink "PictureStudioModel" (311 : Nat) ({ cls := "PictureStudioModel", name := "abs", desc := "(I)I" } : Jvm.MethodName)) ∈ ps_W := ps_in11 53 rfl rfl
theorem ps_w11_54 : (Jvm.Cond.static ({ cls := "PictureStudioModel", name := "abs", desc := "(I)I" } : Jvm.MethodName)) ∈ ps_W := ps_in11 54 rfl rfl
theorem ps_w11_55 : (Jvm.Cond.code ({ cls := "PictureStudioModel", name := "abs", desc := "(I)I" } : Jvm.MethodName) prog_14_method_7_code (1 : Nat) (Option.some Jvm.ClassFile.FieldType.int)) ∈ ps_W := ps_in11 55 rfl rfl
theorem ps_w11_56 : (Jvm.Cond.methodLink "PictureStudioModel" (308 : Nat) ({ cls := "PictureStudioModel", name := "least", desc := "(II)I" } : Jvm.MethodName)) ∈ ps_W := ps_in11 56 rfl rfl
theorem ps_w11_57 : (Jvm.Cond.static ({ cls := "PictureStudioModel", name := "least", desc := "(II)I" } : Jvm.MethodName)) ∈ ps_W := ps_in11 57 rfl rfl
theorem ps_w11_58 : (Jvm.Cond.code ({ cls := "PictureStudioModel", name := "least", desc := "(II)I" } : Jvm.MethodName) prog_14_method_52_code (2 : Nat) (Option.some Jvm.ClassFile.FieldType.int)) ∈ ps_W := ps_in11 58 rfl rfl
theorem ps_w11_59 : (Jvm.Cond.methodLink "PictureStudioModel" (423 : Nat) ({ cls := "PictureStudioModel", name := "hue", desc := "(II)I" } : Jvm.MethodName)) ∈ ps_W := ps_in11 59 rfl rfl
theorem ps_w11_61 : (Jvm.Cond.instanceMethod ({ cls := "PictureStudioModel", name := "hue", desc := "(II)I" } : Jvm.MethodName)) ∈ ps_W := ps_in11 61 rfl rfl
theorem ps_w11_62 : (Jvm.Cond.code ({ cls := "PictureStudioModel", name := "hue", desc := "(II)I" } : Jvm.MethodName) prog_14_method_77_code (14 : Nat) (Option.some Jvm.ClassFile.FieldType.int)) ∈ ps_W := ps_in11 62 rfl rfl
theorem ps_w11_63 : (Jvm.Cond.methodLink "PictureStudioModel" (426 : Nat) ({ cls := "PictureStudioModel", name := "grain", desc := "(III)I" } : Jvm.MethodName)) ∈ ps_W := ps_in11 63 rfl rfl
theorem ps_w11_65 : (Jvm.Cond.instanceMethod ({ cls := "PictureStudioModel", name := "grain", desc := "(III)I" } : Jvm.MethodName)) ∈ ps_W := ps_in11 65 rfl rfl
theorem ps_w11_66 : (Jvm.Cond.code ({ cls := "PictureStudioModel", name := "grain", desc := "(III)I" } : Jvm.MethodName) prog_14_method_78_code (5 : Nat) (Option.some Jvm.ClassFile.FieldType.int)) ∈ ps_W := ps_in11 66 rfl rfl
theorem ps_w11_67 : (Jvm.Cond.constant "PictureStudioModel" (407 : Nat) (374761393 : Int32)) ∈ ps_W := ps_in11 67 rfl rfl
theorem ps_w11_68 : (Jvm.Cond.constant "PictureStudioModel" (408 : Nat) (668265263 : Int32)) ∈ ps_W := ps_in11 68 rfl rfl
theorem ps_w11_69 : (Jvm.Cond.constant "PictureStudioModel" (409 : Nat) (1274126177 : Int32)) ∈ ps_W := ps_in11 69 rfl rfl
theorem ps_w11_70 : (Jvm.Cond.constant "PictureStudioModel" (410 : Nat) (1103515245 : Int32)) ∈ ps_W := ps_in11 70 rfl rfl
theorem ps_w11_71 : (Jvm.Cond.methodLink "PictureStudioModel" (429 : Nat) ({ cls := "PictureStudioModel", name := "sampled", desc := "(IIIIIIII)I" } : Jvm.MethodName)) ∈ ps_W := ps_in11 71 rfl rfl
theorem ps_w11_73 : (Jvm.Cond.instanceMethod ({ cls := "PictureStudioModel", name := "sampled", desc := "(IIIIIIII)I" } : Jvm.MethodName)) ∈ ps_W := ps_in11 73 rfl rfl
theorem ps_w11_74 : (Jvm.Cond.code ({ cls := "PictureStudioModel", name := "sampled", desc := "(IIIIIIII)I" } : Jvm.MethodName) prog_14_method_81_code (10 : Nat) (Option.some Jvm.ClassFile.FieldType.int)) ∈ ps_W := ps_in11 74 rfl rfl
theorem ps_w11_75 : (Jvm.Cond.methodLink "PictureStudioModel" (314 : Nat) ({ cls := "PictureStudioModel", name := "clip", desc := "(I)I" } : Jvm.MethodName)) ∈ ps_W := ps_in11 75 rfl rfl
theorem ps_w11_76 : (Jvm.Cond.static ({ cls := "PictureStudioModel", name := "clip", desc := "(I)I" } : Jvm.MethodName)) ∈ ps_W := ps_in11 76 rfl rfl
theorem ps_w11_77 : (Jvm.Cond.code ({ cls := "PictureStudioModel", name := "clip", desc := "(I)I" } : Jvm.MethodName) prog_14_method_4_code (1 : Nat) (Option.some Jvm.ClassFile.FieldType.int)) ∈ ps_W := ps_in11 77 rfl rfl
theorem ps_w11_78 : (Jvm.Cond.methodLink "PictureStudioModel" (433 : Nat) ({ cls := "PictureStudioModel", name := "products", desc := "(III)I" } : Jvm.MethodName)) ∈ ps_W := ps_in11 78 rfl rfl
theorem ps_w11_80 : (Jvm.Cond.instanceMethod ({ cls := "PictureStudioModel", name := "products", desc := "(III)I" } : Jvm.MethodName)) ∈ ps_W := ps_in11 80 rfl rfl
theorem ps_w11_81 : (Jvm.Cond.code ({ cls := "PictureStudioModel", name := "products", desc := "(III)I" } : Jvm.MethodName) prog_14_method_79_code (6 : Nat) (Option.some Jvm.ClassFile.FieldType.int)) ∈ ps_W := ps_in11 81 rfl rfl
theorem ps_w11_82 : (Jvm.Cond.methodLink "PictureStudioModel" (364 : Nat) ({ cls := "PictureStudioModel", name := "maskOf", desc := "(II)I" } : Jvm.MethodName)) ∈ ps_W := ps_in11 82 rfl rfl
theorem ps_w11_84 : (Jvm.Cond.instanceMethod ({ cls := "PictureStudioModel", name := "maskOf", desc := "(II)I" } : Jvm.MethodName)) ∈ ps_W := ps_in11 84 rfl rfl
theorem ps_w11_85 : (Jvm.Cond.code ({ cls := "PictureStudioModel", name := "maskOf", desc := "(II)I" } : Jvm.MethodName) prog_14_method_60_code (3 : Nat) (Option.some Jvm.ClassFile.FieldType.int)) ∈ ps_W := ps_in11 85 rfl rfl
theorem ps_w11_86 : (Jvm.Cond.methodLink "PictureStudioModel" (302 : Nat) ({ cls := "PictureStudioModel", name := "mul", desc := "(II)I" } : Jvm.MethodName)) ∈ ps_W := ps_in11 86 rfl rfl
theorem ps_w11_87 : (Jvm.Cond.static ({ cls := "PictureStudioModel", name := "mul", desc := "(II)I" } : Jvm.MethodName)) ∈ ps_W := ps_in11 87 rfl rfl
theorem ps_w11_88 : (Jvm.Cond.code ({ cls := "PictureStudioModel", name := "mul", desc := "(II)I" } : Jvm.MethodName) prog_14_method_5_code (2 : Nat) (Option.some Jvm.ClassFile.FieldType.int)) ∈ ps_W := ps_in11 88 rfl rfl
theorem ps_w11_89 : (Jvm.Cond.methodLink "PictureStudioModel" (367 : Nat) ({ cls := "PictureStudioModel", name := "mixed", desc := "(III)I" } : Jvm.MethodName)) ∈ ps_W := ps_in11 89 rfl rfl
theorem ps_w11_90 : (Jvm.Cond.static ({ cls := "PictureStudioModel", name := "mixed", desc := "(III)I" } : Jvm.MethodName)) ∈ ps_W := ps_in11 90 rfl rfl
theorem ps_w11_91 : (Jvm.Cond.code ({ cls := "PictureStudioModel", name := "mixed", desc := "(III)I" } : Jvm.MethodName) prog_14_method_55_code (5 : Nat) (Option.some Jvm.ClassFile.FieldType.int)) ∈ ps_W := ps_in11 91 rfl rfl
theorem ps_w11_92 : (Jvm.Cond.methodLink "PictureStudioModel" (327 : Nat) ({ cls := "PictureStudioModel", name := "mix", desc := "(III)I" } : Jvm.MethodName)) ∈ ps_W := ps_in11 92 rfl rfl
theorem ps_w11_93 : (Jvm.Cond.static ({ cls := "PictureStudioModel", name := "mix", desc := "(III)I" } : Jvm.MethodName)) ∈ ps_W := ps_in11 93 rfl rfl
theorem ps_w11_94 : (Jvm.Cond.code ({ cls := "PictureStudioModel", name := "mix", desc := "(III)I" } : Jvm.MethodName) prog_14_method_6_code (3 : Nat) (Option.some Jvm.ClassFile.FieldType.int)) ∈ ps_W := ps_in11 94 rfl rfl
theorem ps_w11_95 : (Jvm.Cond.methodLink "PictureStudioModel" (353 : Nat) ({ cls := "PictureStudioModel", name := "layOver", desc := "(IIZZZ)V" } : Jvm.MethodName)) ∈ ps_W := ps_in11 95 rfl rfl
theorem ps_w11_97 : (Jvm.Cond.instanceMethod ({ cls := "PictureStudioModel", name := "layOver", desc := "(IIZZZ)V" } : Jvm.MethodName)) ∈ ps_W := ps_in11 97 rfl rfl
theorem ps_w11_98 : (Jvm.Cond.code ({ cls := "PictureStudioModel", name := "layOver", desc := "(IIZZZ)V" } : Jvm.MethodName) prog_14_method_62_code (14 : Nat) (Option.none : Option Jvm.ClassFile.FieldType)) ∈ ps_W := ps_in11 98 rfl rfl
theorem ps_w11_99 : (Jvm.Cond.methodLink "PictureStudioModel" (370 : Nat) ({ cls := "PictureStudioModel", name := "own", desc := "(III)I" } : Jvm.MethodName)) ∈ ps_W := ps_in11 99 rfl rfl
theorem ps_w11_101 : (Jvm.Cond.instanceMethod ({ cls := "PictureStudioModel", name := "own", desc := "(III)I" } : Jvm.MethodName)) ∈ ps_W := ps_in11 101 rfl rfl
theorem ps_w11_102 : (Jvm.Cond.code ({ cls := "PictureStudioModel", name := "own", desc := "(III)I" } : Jvm.MethodName) prog_14_method_50_code (4 : Nat) (Option.some Jvm.ClassFile.FieldType.int)) ∈ ps_W := ps_in11 102 rfl rfl
theorem ps_w11_103 : (Jvm.Cond.methodLink "PictureStudioModel" (373 : Nat) ({ cls := "PictureStudioModel", name := "ramped", desc := "(III)I" } : Jvm.MethodName)) ∈ ps_W := ps_in11 103 rfl rfl
theorem ps_w11_105 : (Jvm.Cond.instanceMethod ({ cls := "PictureStudioModel", name := "ramped", desc := "(III)I" } : Jvm.MethodName)) ∈ ps_W := ps_in11 105 rfl rfl
theorem ps_w11_106 : (Jvm.Cond.code ({ cls := "PictureStudioModel", name := "ramped", desc := "(III)I" } : Jvm.MethodName) prog_14_method_63_code (10 : Nat) (Option.some Jvm.ClassFile.FieldType.int)) ∈ ps_W := ps_in11 106 rfl rfl
theorem ps_w11_107 : (Jvm.Cond.methodLink "PictureStudioModel" (376 : Nat) ({ cls := "PictureStudioModel", name := "over", desc := "(IIII)I" } : Jvm.MethodName)) ∈ ps_W := ps_in11 107 rfl rfl
theorem ps_w11_108 : (Jvm.Cond.static ({ cls := "PictureStudioModel", name := "over", desc := "(IIII)I" } : Jvm.MethodName)) ∈ ps_W := ps_in11 108 rfl rfl
theorem ps_w11_109 : (Jvm.Cond.code ({ cls := "PictureStudioModel", name := "over", desc := "(IIII)I" } : Jvm.MethodName) prog_14_method_54_code (14 : Nat) (Option.some Jvm.ClassFile.FieldType.int)) ∈ ps_W := ps_in11 109 rfl rfl
theorem ps_w11_110 : (Jvm.Cond.methodLink "PictureStudioModel" (323 : Nat) ({ cls := "PictureStudioModel", name := "blend", desc := "(IIIII)I" } : Jvm.MethodName)) ∈ ps_W := ps_in11 110 rfl rfl
theorem ps_w11_111 : (Jvm.Cond.static ({ cls := "PictureStudioModel", name := "blend", desc := "(IIIII)I" } : Jvm.MethodName)) ∈ ps_W := ps_in11 111 rfl rfl
theorem ps_w11_112 : (Jvm.Cond.code ({ cls := "PictureStudioModel", name := "blend", desc := "(IIIII)I" } : Jvm.MethodName) prog_14_method_53_code (5 : Nat) (Option.some Jvm.ClassFile.FieldType.int)) ∈ ps_W := ps_in11 112 rfl rfl
theorem ps_w11_113 : (Jvm.Cond.methodLink "PictureStudioModel" (305 : Nat) ({ cls := "PictureStudioModel", name := "hard", desc := "(II)I" } : Jvm.MethodName)) ∈ ps_W := ps_in11 113 rfl rfl
theorem ps_w11_114 : (Jvm.Cond.static ({ cls := "PictureStudioModel", name := "hard", desc := "(II)I" } : Jvm.MethodName)) ∈ ps_W := ps_in11 114 rfl rfl
theorem ps_w11_115 : (Jvm.Cond.code ({ cls := "PictureStudioModel", name := "hard", desc := "(II)I" } : Jvm.MethodName) prog_14_method_51_code (3 : Nat) (Option.some Jvm.ClassFile.FieldType.int)) ∈ ps_W := ps_in11 115 rfl rfl
theorem ps_w11_116 : (Jvm.Cond.methodLink "PictureStudioLaw" (305 : Nat) ({ cls := "PictureStudioModel", name := "zoomed", desc := "(III)I" } : Jvm.MethodName)) ∈ ps_W := ps_in11 116 rfl rfl
theorem ps_w11_117 : (Jvm.Cond.instanceMethod ({ cls := "PictureStudioModel", name := "zoomed", desc := "(III)I" } : Jvm.MethodName)) ∈ ps_W := ps_in11 117 rfl rfl
theorem ps_w11_118 : (Jvm.Cond.selects "PictureStudioModel" ({ cls := "PictureStudioModel", name := "zoomed", desc := "(III)I" } : Jvm.MethodName) ({ cls := "PictureStudioModel", name := "zoomed", desc := "(III)I" } : Jvm.MethodName)) ∈ ps_W := ps_in11 118 rfl rfl
theorem ps_w11_119 : (Jvm.Cond.code ({ cls := "PictureStudioModel", name := "zoomed", desc := "(III)I" } : Jvm.MethodName) prog_14_method_69_code (15 : Nat) (Option.some Jvm.ClassFile.FieldType.int)) ∈ ps_W := ps_in11 119 rfl rfl
theorem ps_w11_120 : (Jvm.Cond.methodLink "PictureStudioLaw" (309 : Nat) ({ cls := "PictureStudioModel", name := "hash", desc := "()I" } : Jvm.MethodName)) ∈ ps_W := ps_in11 120 rfl rfl
theorem ps_w11_121 : (Jvm.Cond.instanceMethod ({ cls := "PictureStudioModel", name := "hash", desc := "()I" } : Jvm.MethodName)) ∈ ps_W := ps_in11 121 rfl rfl
theorem ps_w11_122 : (Jvm.Cond.selects "PictureStudioModel" ({ cls := "PictureStudioModel", name := "hash", desc := "()I" } : Jvm.MethodName) ({ cls := "PictureStudioModel", name := "hash", desc := "()I" } : Jvm.MethodName)) ∈ ps_W := ps_in11 122 rfl rfl
theorem ps_w11_123 : (Jvm.Cond.code ({ cls := "PictureStudioModel", name := "hash", desc := "()I" } : Jvm.MethodName) prog_14_method_70_code (3 : Nat) (Option.some Jvm.ClassFile.FieldType.int)) ∈ ps_W := ps_in11 123 rfl rfl
theorem ps_w11_124 : (Jvm.Cond.methodLink "PictureStudioLaw" (334 : Nat) ({ cls := "PictureStudioModel", name := "count", desc := "(I)I" } : Jvm.MethodName)) ∈ ps_W := ps_in11 124 rfl rfl
theorem ps_w11_125 : (Jvm.Cond.instanceMethod ({ cls := "PictureStudioModel", name := "count", desc := "(I)I" } : Jvm.MethodName)) ∈ ps_W := ps_in11 125 rfl rfl
theorem ps_w11_126 : (Jvm.Cond.selects "PictureStudioModel" ({ cls := "PictureStudioModel", name := "count", desc := "(I)I" } : Jvm.MethodName) ({ cls := "PictureStudioModel", name := "count", desc := "(I)I" } : Jvm.MethodName)) ∈ ps_W := ps_in11 126 rfl rfl
theorem ps_w11_127 : (Jvm.Cond.code ({ cls := "PictureStudioModel", name := "count", desc := "(I)I" } : Jvm.MethodName) prog_14_method_71_code (4 : Nat) (Option.some Jvm.ClassFile.FieldType.int)) ∈ ps_W := ps_in11 127 rfl rfl
theorem ps_w11_128 : (Jvm.Cond.methodLink "PictureStudioModel" (398 : Nat) ({ cls := "PictureStudioModel", name := "reach", desc := "()I" } : Jvm.MethodName)) ∈ ps_W := ps_in11 128 rfl rfl
theorem ps_w11_130 : (Jvm.Cond.instanceMethod ({ cls := "PictureStudioModel", name := "reach", desc := "()I" } : Jvm.MethodName)) ∈ ps_W := ps_in11 130 rfl rfl
theorem ps_w11_131 : (Jvm.Cond.code ({ cls := "PictureStudioModel", name := "reach", desc := "()I" } : Jvm.MethodName) prog_14_method_64_code (3 : Nat) (Option.some Jvm.ClassFile.FieldType.int)) ∈ ps_W := ps_in11 131 rfl rfl
theorem ps_w11_132 : (Jvm.Cond.methodLink "PictureStudioModel" (379 : Nat) ({ cls := "PictureStudioModel", name := "reachOf", desc := "(II)I" } : Jvm.MethodName)) ∈ ps_W := ps_in11 132 rfl rfl
theorem ps_w11_133 : (Jvm.Cond.static ({ cls := "PictureStudioModel", name := "reachOf", desc := "(II)I" } : Jvm.MethodName)) ∈ ps_W := ps_in11 133 rfl rfl
theorem ps_w11_134 : (Jvm.Cond.code ({ cls := "PictureStudioModel", name := "reachOf", desc := "(II)I" } : Jvm.MethodName) prog_14_method_65_code (2 : Nat) (Option.some Jvm.ClassFile.FieldType.int)) ∈ ps_W := ps_in11 134 rfl rfl
theorem ps_w11_135 : (Jvm.Cond.methodLink "PictureStudioLaw" (287 : Nat) ({ cls := "PictureStudioModel", name := "kernel", desc := "(II)V" } : Jvm.MethodName)) ∈ ps_W := ps_in11 135 rfl rfl
theorem ps_w11_136 : (Jvm.Cond.instanceMethod ({ cls := "PictureStudioModel", name := "kernel", desc := "(II)V" } : Jvm.MethodName)) ∈ ps_W := ps_in11 136 rfl rfl
theorem ps_w11_137 : (Jvm.Cond.selects "PictureStudioModel" ({ cls := "PictureStudioModel", name := "kernel", desc := "(II)V" } : Jvm.MethodName) ({ cls := "PictureStudioModel", name := "kernel", desc := "(II)V" } : Jvm.MethodName)) ∈ ps_W := ps_in11 137 rfl rfl
theorem ps_w11_138 : (Jvm.Cond.code ({ cls := "PictureStudioModel", name := "kernel", desc := "(II)V" } : Jvm.MethodName) prog_14_method_82_code (4 : Nat) (Option.none : Option Jvm.ClassFile.FieldType)) ∈ ps_W := ps_in11 138 rfl rfl
theorem ps_w11_139 : (Jvm.Cond.methodLink "PictureStudioLaw" (284 : Nat) ({ cls := "PictureStudioModel", name := "curve", desc := "(IIII)I" } : Jvm.MethodName)) ∈ ps_W := ps_in11 139 rfl rfl
theorem ps_w11_140 : (Jvm.Cond.instanceMethod ({ cls := "PictureStudioModel", name := "curve", desc := "(IIII)I" } : Jvm.MethodName)) ∈ ps_W := ps_in11 140 rfl rfl
theorem ps_w11_141 : (Jvm.Cond.selects "PictureStudioModel" ({ cls := "PictureStudioModel", name := "curve", desc := "(IIII)I" } : Jvm.MethodName) ({ cls := "PictureStudioModel", name := "curve", desc := "(IIII)I" } : Jvm.MethodName)) ∈ ps_W := ps_in11 141 rfl rfl
theorem ps_w11_142 : (Jvm.Cond.code ({ cls := "PictureStudioModel", name := "curve", desc := "(IIII)I" } : Jvm.MethodName) prog_14_method_83_code (10 : Nat) (Option.some Jvm.ClassFile.FieldType.int)) ∈ ps_W := ps_in11 142 rfl rfl
theorem ps_w11_143 : (Jvm.Cond.methodLink "PictureStudioLaw" (261 : Nat) ({ cls := "PictureStudioModel", name := "select", desc := "(IIIIII)I" } : Jvm.MethodName)) ∈ ps_W := ps_in11 143 rfl rfl
theorem ps_w11_144 : (Jvm.Cond.instanceMethod ({ cls := "PictureStudioModel", name := "select", desc := "(IIIIII)I" } : Jvm.MethodName)) ∈ ps_W := ps_in11 144 rfl rfl
theorem ps_w11_145 : (Jvm.Cond.selects "PictureStudioModel" ({ cls := "PictureStudioModel", name := "select", desc := "(IIIIII)I" } : Jvm.MethodName) ({ cls := "PictureStudioModel", name := "select", desc := "(IIIIII)I" } : Jvm.MethodName)) ∈ ps_W := ps_in11 145 rfl rfl
theorem ps_w11_146 : (Jvm.Cond.code ({ cls := "PictureStudioModel", name := "select", desc := "(IIIIII)I" } : Jvm.MethodName) prog_14_method_89_code (13 : Nat) (Option.some Jvm.ClassFile.FieldType.int)) ∈ ps_W := ps_in11 146 rfl rfl
theorem ps_w11_147 : (Jvm.Cond.methodLink "PictureStudioModel" (439 : Nat) ({ cls := "PictureStudioModel", name := "isRight", desc := "(IIIII)Z" } : Jvm.MethodName)) ∈ ps_W := ps_in11 147 rfl rfl
theorem ps_w11_149 : (Jvm.Cond.instanceMethod ({ cls := "PictureStudioModel", name := "isRight", desc := "(IIIII)Z" } : Jvm.MethodName)) ∈ ps_W := ps_in11 149 rfl rfl
theorem ps_w11_150 : (Jvm.Cond.code ({ cls := "PictureStudioModel", name := "isRight", desc := "(IIIII)Z" } : Jvm.MethodName) prog_14_method_88_code (7 : Nat) (Option.some Jvm.ClassFile.FieldType.boolean)) ∈ ps_W := ps_in11 150 rfl rfl
theorem ps_w11_151 : (Jvm.Cond.methodLink "PictureStudioModel" (443 : Nat) ({ cls := "PictureStudioModel", name := "wand", desc := "(IIIZ)V" } : Jvm.MethodName)) ∈ ps_W := ps_in11 151 rfl rfl
theorem ps_w11_153 : (Jvm.Cond.instanceMethod ({ cls := "PictureStudioModel", name := "wand", desc := "(IIIZ)V" } : Jvm.MethodName)) ∈ ps_W := ps_in11 153 rfl rfl
theorem ps_w11_154 : (Jvm.Cond.code ({ cls := "PictureStudioModel", name := "wand", desc := "(IIIZ)V" } : Jvm.MethodName) prog_14_method_91_code (13 : Nat) (Option.none : Option Jvm.ClassFile.FieldType)) ∈ ps_W := ps_in11 154 rfl rfl
theorem ps_w11_155 : (Jvm.Cond.methodLink "PictureStudioModel" (460 : Nat) ({ cls := "PictureStudioModel", name := "alike", desc := "(III)Z" } : Jvm.MethodName)) ∈ ps_W := ps_in11 155 rfl rfl
theorem ps_w11_156 : (Jvm.Cond.static ({ cls := "PictureStudioModel", name := "alike", desc := "(III)Z" } : Jvm.MethodName)) ∈ ps_W := ps_in11 156 rfl rfl
theorem ps_w11_157 : (Jvm.Cond.code ({ cls := "PictureStudioModel", name := "alike", desc := "(III)Z" } : Jvm.MethodName) prog_14_method_92_code (4 : Nat) (Option.some Jvm.ClassFile.FieldType.boolean)) ∈ ps_W := ps_in11 157 rfl rfl
theorem ps_w11_158 : (Jvm.Cond.methodLink "PictureStudioModel" (447 : Nat) ({ cls := "PictureStudioModel", name := "shapeOfPath", desc := "(IIII)V" } : Jvm.MethodName)) ∈ ps_W := ps_in11 158 rfl rfl
theorem ps_w11_160 : (Jvm.Cond.instanceMethod ({ cls := "PictureStudioModel", name := "shapeOfPath", desc := "(IIII)V" } : Jvm.MethodName)) ∈ ps_W := ps_in11 160 rfl rfl
theorem ps_w11_161 : (Jvm.Cond.code ({ cls := "PictureStudioModel", name := "shapeOfPath", desc := "(IIII)V" } : Jvm.MethodName) prog_14_method_122_code (10 : Nat) (Option.none : Option Jvm.ClassFile.FieldType)) ∈ ps_W := ps_in11 161 rfl rfl
theorem ps_w11_162 : (Jvm.Cond.methodLink "PictureStudioModel" (522 : Nat) ({ cls := "PictureStudioModel", name := "linesOf", desc := "(III)V" } : Jvm.MethodName)) ∈ ps_W := ps_in11 162 rfl rfl
theorem ps_w11_164 : (Jvm.Cond.instanceMethod ({ cls := "PictureStudioModel", name := "linesOf", desc := "(III)V" } : Jvm.MethodName)) ∈ ps_W := ps_in11 164 rfl rfl
theorem ps_w11_165 : (Jvm.Cond.code ({ cls := "PictureStudioModel", name := "linesOf", desc := "(III)V" } : Jvm.MethodName) prog_14_method_121_code (20 : Nat) (Option.none : Option Jvm.ClassFile.FieldType)) ∈ ps_W := ps_in11 165 rfl rfl
theorem ps_w11_166 : (Jvm.Cond.methodLink "PictureStudioModel" (519 : Nat) ({ cls := "PictureStudioModel", name := "line", desc := "(IIII)V" } : Jvm.MethodName)) ∈ ps_W := ps_in11 166 rfl rfl
theorem ps_w11_168 : (Jvm.Cond.instanceMethod ({ cls := "PictureStudioModel", name := "line", desc := "(IIII)V" } : Jvm.MethodName)) ∈ ps_W := ps_in11 168 rfl rfl
theorem ps_w11_169 : (Jvm.Cond.code ({ cls := "PictureStudioModel", name := "line", desc := "(IIII)V" } : Jvm.MethodName) prog_14_method_120_code (5 : Nat) (Option.none : Option Jvm.ClassFile.FieldType)) ∈ ps_W := ps_in11 169 rfl rfl
theorem ps_w11_170 : (Jvm.Cond.methodLink "PictureStudioModel" (525 : Nat) ({ cls := "PictureStudioModel", name := "turnsAt", desc := "(II)I" } : Jvm.MethodName)) ∈ ps_W := ps_in11 170 rfl rfl
theorem ps_w11_172 : (Jvm.Cond.instanceMethod ({ cls := "PictureStudioModel", name := "turnsAt", desc := "(II)I" } : Jvm.MethodName)) ∈ ps_W := ps_in11 172 rfl rfl
theorem ps_w11_173 : (Jvm.Cond.code ({ cls := "PictureStudioModel", name := "turnsAt", desc := "(II)I" } : Jvm.MethodName) prog_14_method_123_code (11 : Nat) (Option.some Jvm.ClassFile.FieldType.int)) ∈ ps_W := ps_in11 173 rfl rfl
theorem ps_w11_174 : (Jvm.Cond.methodLink "PictureStudioModel" (451 : Nat) ({ cls := "PictureStudioModel", name := "ellipse", desc := "(IIIIII)I" } : Jvm.MethodName)) ∈ ps_W := ps_in11 174 rfl rfl
theorem ps_w11_175 : (Jvm.Cond.static ({ cls := "PictureStudioModel", name := "ellipse", desc := "(IIIIII)I" } : Jvm.MethodName)) ∈ ps_W := ps_in11 175 rfl rfl
theorem ps_w11_176 : (Jvm.Cond.code ({ cls := "PictureStudioModel", name := "ellipse", desc := "(IIIIII)I" } : Jvm.MethodName) prog_14_method_90_code (17 : Nat) (Option.some Jvm.ClassFile.FieldType.int)) ∈ ps_W := ps_in11 176 rfl rfl
theorem ps_w11_177 : (Jvm.Cond.constantLong "PictureStudioModel" (458 : Nat) (4 : Int64)) ∈ ps_W := ps_in11 177 rfl rfl
theorem ps_w11_178 : (Jvm.Cond.methodLink "PictureStudioModel" (455 : Nat) ({ cls := "PictureStudioModel", name := "above", desc := "()I" } : Jvm.MethodName)) ∈ ps_W := ps_in11 178 rfl rfl
theorem ps_w11_180 : (Jvm.Cond.instanceMethod ({ cls := "PictureStudioModel", name := "above", desc := "()I" } : Jvm.MethodName)) ∈ ps_W := ps_in11 180 rfl rfl
theorem ps_w11_181 : (Jvm.Cond.code ({ cls := "PictureStudioModel", name := "above", desc := "()I" } : Jvm.MethodName) prog_14_method_87_code (3 : Nat) (Option.some Jvm.ClassFile.FieldType.int)) ∈ ps_W := ps_in11 181 rfl rfl
theorem ps_w11_182 : (Jvm.Cond.methodLink "PictureStudioLaw" (264 : Nat) ({ cls := "PictureStudioModel", name := "reselect", desc := "(II)I" } : Jvm.MethodName)) ∈ ps_W := ps_in11 182 rfl rfl
theorem ps_w11_183 : (Jvm.Cond.instanceMethod ({ cls := "PictureStudioModel", name := "reselect", desc := "(II)I" } : Jvm.MethodName)) ∈ ps_W := ps_in11 183 rfl rfl
theorem ps_w11_184 : (Jvm.Cond.selects "PictureStudioModel" ({ cls := "PictureStudioModel", name := "reselect", desc := "(II)I" } : Jvm.MethodName) ({ cls := "PictureStudioModel", name := "reselect", desc := "(II)I" } : Jvm.MethodName)) ∈ ps_W := ps_in11 184 rfl rfl
theorem ps_w11_185 : (Jvm.Cond.code ({ cls := "PictureStudioModel", name := "reselect", desc := "(II)I" } : Jvm.MethodName) prog_14_method_93_code (6 : Nat) (Option.some Jvm.ClassFile.FieldType.int)) ∈ ps_W := ps_in11 185 rfl rfl
theorem ps_w11_186 : (Jvm.Cond.methodLink "PictureStudioModel" (463 : Nat) ({ cls := "PictureStudioModel", name := "around", desc := "(IIII)I" } : Jvm.MethodName)) ∈ ps_W := ps_in11 186 rfl rfl
theorem ps_w11_188 : (Jvm.Cond.instanceMethod ({ cls := "PictureStudioModel", name := "around", desc := "(IIII)I" } : Jvm.MethodName)) ∈ ps_W := ps_in11 188 rfl rfl
theorem ps_w11_189 : (Jvm.Cond.code ({ cls := "PictureStudioModel", name := "around", desc := "(IIII)I" } : Jvm.MethodName) prog_14_method_94_code (13 : Nat) (Option.some Jvm.ClassFile.FieldType.int)) ∈ ps_W := ps_in11 189 rfl rfl
theorem ps_w11_190 : (Jvm.Cond.methodLink "PictureStudioLaw" (267 : Nat) ({ cls := "PictureStudioModel", name := "selected", desc := "(II)I" } : Jvm.MethodName)) ∈ ps_W := ps_in11 190 rfl rfl
theorem ps_w11_191 : (Jvm.Cond.instanceMethod ({ cls := "PictureStudioModel", name := "selected", desc := "(II)I" } : Jvm.MethodName)) ∈ ps_W := ps_in11 191 rfl rfl
theorem ps_w11_192 : (Jvm.Cond.selects "PictureStudioModel" ({ cls := "PictureStudioModel", name := "selected", desc := "(II)I" } : Jvm.MethodName) ({ cls := "PictureStudioModel", name := "selected", desc := "(II)I" } : Jvm.MethodName)) ∈ ps_W := ps_in11 192 rfl rfl
theorem ps_w11_193 : (Jvm.Cond.code ({ cls := "PictureStudioModel", name := "selected", desc := "(II)I" } : Jvm.MethodName) prog_14_method_95_code (3 : Nat) (Option.some Jvm.ClassFile.FieldType.int)) ∈ ps_W := ps_in11 193 rfl rfl
theorem ps_w11_194 : (Jvm.Cond.methodLink "PictureStudioLaw" (271 : Nat) ({ cls := "PictureStudioModel", name := "front", desc := "(I)V" } : Jvm.MethodName)) ∈ ps_W := ps_in11 194 rfl rfl
theorem ps_w11_195 : (Jvm.Cond.instanceMethod ({ cls := "PictureStudioModel", name := "front", desc := "(I)V" } : Jvm.MethodName)) ∈ ps_W := ps_in11 195 rfl rfl
theorem ps_w11_196 : (Jvm.Cond.selects "PictureStudioModel" ({ cls := "PictureStudioModel", name := "front", desc := "(I)V" } : Jvm.MethodName) ({ cls := "PictureStudioModel", name := "front", desc := "(I)V" } : Jvm.MethodName)) ∈ ps_W := ps_in11 196 rfl rfl
theorem ps_w11_197 : (Jvm.Cond.code ({ cls := "PictureStudioModel", name := "front", desc := "(I)V" } : Jvm.MethodName) prog_14_method_96_code (2 : Nat) (Option.none : Option Jvm.ClassFile.FieldType)) ∈ ps_W := ps_in11 197 rfl rfl
theorem ps_w11_198 : (Jvm.Cond.methodLink "PictureStudioLaw" (228 : Nat) ({ cls := "PictureStudioModel", name := "fill", desc := "(II)I" } : Jvm.MethodName)) ∈ ps_W := ps_in11 198 rfl rfl
theorem ps_w11_199 : (Jvm.Cond.instanceMethod ({ cls := "PictureStudioModel", name := "fill", desc := "(II)I" } : Jvm.MethodName)) ∈ ps_W := ps_in11 199 rfl rfl
theorem ps_w11_200 : (Jvm.Cond.selects "PictureStudioModel" ({ cls := "PictureStudioModel", name := "fill", desc := "(II)I" } : Jvm.MethodName) ({ cls := "PictureStudioModel", name := "fill", desc := "(II)I" } : Jvm.MethodName)) ∈ ps_W := ps_in11 200 rfl rfl
theorem ps_w11_201 : (Jvm.Cond.code ({ cls := "PictureStudioModel", name := "fill", desc := "(II)I" } : Jvm.MethodName) prog_14_method_104_code (7 : Nat) (Option.some Jvm.ClassFile.FieldType.int)) ∈ ps_W := ps_in11 201 rfl rfl
theorem ps_w11_202 : (Jvm.Cond.methodLink "PictureStudioModel" (473 : Nat) ({ cls := "PictureStudioModel", name := "why", desc := "(IZ)I" } : Jvm.MethodName)) ∈ ps_W := ps_in11 202 rfl rfl
theorem ps_w11_204 : (Jvm.Cond.instanceMethod ({ cls := "PictureStudioModel", name := "why", desc := "(IZ)I" } : Jvm.MethodName)) ∈ ps_W := ps_in11 204 rfl rfl
theorem ps_w11_205 : (Jvm.Cond.code ({ cls := "PictureStudioModel", name := "why", desc := "(IZ)I" } : Jvm.MethodName) prog_14_method_102_code (3 : Nat) (Option.some Jvm.ClassFile.FieldType.int)) ∈ ps_W := ps_in11 205 rfl rfl
theorem ps_w11_206 : (Jvm.Cond.methodLink "PictureStudioModel" (477 : Nat) ({ cls := "PictureStudioModel", name := "begin", desc := "(I)V" } : Jvm.MethodName)) ∈ ps_W := ps_in11 206 rfl rfl
theorem ps_w11_208 : (Jvm.Cond.instanceMethod ({ cls := "PictureStudioModel", name := "begin", desc := "(I)V" } : Jvm.MethodName)) ∈ ps_W := ps_in11 208 rfl rfl
theorem ps_w11_209 : (Jvm.Cond.code ({ cls := "PictureStudioModel", name := "begin", desc := "(I)V" } : Jvm.MethodName) prog_14_method_97_code (3 : Nat) (Option.none : Option Jvm.ClassFile.FieldType)) ∈ ps_W := ps_in11 209 rfl rfl
theorem ps_w11_210 : (Jvm.Cond.methodLink "PictureStudioModel" (480 : Nat) ({ cls := "PictureStudioModel", name := "shiftedChoice", desc := "(III)I" } : Jvm.MethodName)) ∈ ps_W := ps_in11 210 rfl rfl
theorem ps_w11_212 : (Jvm.Cond.instanceMethod ({ cls := "PictureStudioModel", name := "shiftedChoice", desc := "(III)I" } : Jvm.MethodName)) ∈ ps_W := ps_in11 212 rfl rfl
theorem ps_w11_213 : (Jvm.Cond.code ({ cls := "PictureStudioModel", name := "shiftedChoice", desc := "(III)I" } : Jvm.MethodName) prog_14_method_103_code (4 : Nat) (Option.some Jvm.ClassFile.FieldType.int)) ∈ ps_W := ps_in11 213 rfl rfl
theorem ps_w11_214 : (Jvm.Cond.methodLink "PictureStudioModel" (470 : Nat) ({ cls := "PictureStudioModel", name := "chosenAt", desc := "(II)I" } : Jvm.MethodName)) ∈ ps_W := ps_in11 214 rfl rfl
theorem ps_w11_216 : (Jvm.Cond.instanceMethod ({ cls := "PictureStudioModel", name := "chosenAt", desc := "(II)I" } : Jvm.MethodName)) ∈ ps_W := ps_in11 216 rfl rfl
theorem ps_w11_217 : (Jvm.Cond.code ({ cls := "PictureStudioModel", name := "chosenAt", desc := "(II)I" } : Jvm.MethodName) prog_14_method_86_code (3 : Nat) (Option.some Jvm.ClassFile.FieldType.int)) ∈ ps_W := ps_in11 217 rfl rfl
theorem ps_w11_218 : (Jvm.Cond.methodLink "PictureStudioModel" (483 : Nat) ({ cls := "PictureStudioModel", name := "putOver", desc := "(IIII)V" } : Jvm.MethodName)) ∈ ps_W := ps_in11 218 rfl rfl
theorem ps_w11_220 : (Jvm.Cond.instanceMethod ({ cls := "PictureStudioModel", name := "putOver", desc := "(IIII)V" } : Jvm.MethodName)) ∈ ps_W := ps_in11 220 rfl rfl
theorem ps_w11_221 : (Jvm.Cond.code ({ cls := "PictureStudioModel", name := "putOver", desc := "(IIII)V" } : Jvm.MethodName) prog_14_method_100_code (5 : Nat) (Option.none : Option Jvm.ClassFile.FieldType)) ∈ ps_W := ps_in11 221 rfl rfl
theorem ps_w11_222 : (Jvm.Cond.methodLink "PictureStudioModel" (486 : Nat) ({ cls := "PictureStudioModel", name := "erase", desc := "(IIII)V" } : Jvm.MethodName)) ∈ ps_W := ps_in11 222 rfl rfl
theorem ps_w11_224 : (Jvm.Cond.instanceMethod ({ cls := "PictureStudioModel", name := "erase", desc := "(IIII)V" } : Jvm.MethodName)) ∈ ps_W := ps_in11 224 rfl rfl
theorem ps_w11_225 : (Jvm.Cond.code ({ cls := "PictureStudioModel", name := "erase", desc := "(IIII)V" } : Jvm.MethodName) prog_14_method_101_code (6 : Nat) (Option.none : Option Jvm.ClassFile.FieldType)) ∈ ps_W := ps_in11 225 rfl rfl
theorem ps_w11_226 : (Jvm.Cond.constant "PictureStudioModel" (469 : Nat) (16777215 : Int32)) ∈ ps_W := ps_in11 226 rfl rfl
theorem ps_w11_227 : (Jvm.Cond.methodLink "PictureStudioModel" (489 : Nat) ({ cls := "PictureStudioModel", name := "changed", desc := "(I)I" } : Jvm.MethodName)) ∈ ps_W := ps_in11 227 rfl rfl
theorem ps_w11_229 : (Jvm.Cond.instanceMethod ({ cls := "PictureStudioModel", name := "changed", desc := "(I)I" } : Jvm.MethodName)) ∈ ps_W := ps_in11 229 rfl rfl
theorem ps_w11_230 : (Jvm.Cond.code ({ cls := "PictureStudioModel", name := "changed", desc := "(I)I" } : Jvm.MethodName) prog_14_method_98_code (9 : Nat) (Option.some Jvm.ClassFile.FieldType.int)) ∈ ps_W := ps_in11 230 rfl rfl
theorem ps_w11_231 : (Jvm.Cond.methodLink "PictureStudioModel" (466 : Nat) ({ cls := "PictureStudioModel", name := "forgetBox", desc := "(IIII)V" } : Jvm.MethodName)) ∈ ps_W := ps_in11 231 rfl rfl
theorem ps_w11_233 : (Jvm.Cond.instanceMethod ({ cls := "PictureStudioModel", name := "forgetBox", desc := "(IIII)V" } : Jvm.MethodName)) ∈ ps_W := ps_in11 233 rfl rfl
theorem ps_w11_234 : (Jvm.Cond.code ({ cls := "PictureStudioModel", name := "forgetBox", desc := "(IIII)V" } : Jvm.MethodName) prog_14_method_99_code (9 : Nat) (Option.none : Option Jvm.ClassFile.FieldType)) ∈ ps_W := ps_in11 234 rfl rfl
theorem ps_w11_235 : (Jvm.Cond.methodLink "PictureStudioLaw" (274 : Nat) ({ cls := "PictureStudioModel", name := "brush", desc := "(IIIII)V" } : Jvm.MethodName)) ∈ ps_W := ps_in11 235 rfl rfl
theorem ps_w11_236 : (Jvm.Cond.instanceMethod ({ cls := "PictureStudioModel", name := "brush", desc := "(IIIII)V" } : Jvm.MethodName)) ∈ ps_W := ps_in11 236 rfl rfl
theorem ps_w11_237 : (Jvm.Cond.selects "PictureStudioModel" ({ cls := "PictureStudioModel", name := "brush", desc := "(IIIII)V" } : Jvm.MethodName) ({ cls := "PictureStudioModel", name := "brush", desc := "(IIIII)V" } : Jvm.MethodName)) ∈ ps_W := ps_in11 237 rfl rfl
theorem ps_w11_238 : (Jvm.Cond.code ({ cls := "PictureStudioModel", name := "brush", desc := "(IIIII)V" } : Jvm.MethodName) prog_14_method_105_code (6 : Nat) (Option.none : Option Jvm.ClassFile.FieldType)) ∈ ps_W := ps_in11 238 rfl rfl
theorem ps_w11_239 : (Jvm.Cond.methodLink "PictureStudioLaw" (277 : Nat) ({ cls := "PictureStudioModel", name := "source", desc := "(II)V" } : Jvm.MethodName)) ∈ ps_W := ps_in11 239 rfl rfl
theorem ps_w12_0 : (Jvm.Cond.instanceMethod ({ cls := "PictureStudioModel", name := "source", desc := "(II)V" } : Jvm.MethodName)) ∈ ps_W := ps_in12 0 rfl rfl
theorem ps_w12_1 : (Jvm.Cond.selects "PictureStudioModel" ({ cls := "PictureStudioModel", name := "source", desc := "(II)V" } : Jvm.MethodName) ({ cls := "PictureStudioModel", name := "source", desc := "(II)V" } : Jvm.MethodName)) ∈ ps_W := ps_in12 1 rfl rfl
theorem ps_w12_2 : (Jvm.Cond.code ({ cls := "PictureStudioModel", name := "source", desc := "(II)V" } : Jvm.MethodName) prog_14_method_106_code (3 : Nat) (Option.none : Option Jvm.ClassFile.FieldType)) ∈ ps_W := ps_in12 2 rfl rfl
theorem ps_w12_3 : (Jvm.Cond.methodLink "PictureStudioLaw" (280 : Nat) ({ cls := "PictureStudioModel", name := "point", desc := "(III)I" } : Jvm.MethodName)) ∈ ps_W := ps_in12 3 rfl rfl
theorem ps_w12_4 : (Jvm.Cond.instanceMethod ({ cls := "PictureStudioModel", name := "point", desc := "(III)I" } : Jvm.MethodName)) ∈ ps_W := ps_in12 4 rfl rfl
theorem ps_w12_5 : (Jvm.Cond.selects "PictureStudioModel" ({ cls := "PictureStudioModel", name := "point", desc := "(III)I" } : Jvm.MethodName) ({ cls := "PictureStudioModel", name := "point", desc := "(III)I" } : Jvm.MethodName)) ∈ ps_W := ps_in12 5 rfl rfl
theorem ps_w12_6 : (Jvm.Cond.code ({ cls := "PictureStudioModel", name := "point", desc := "(III)I" } : Jvm.MethodName) prog_14_method_107_code (5 : Nat) (Option.some Jvm.ClassFile.FieldType.int)) ∈ ps_W := ps_in12 6 rfl rfl
theorem ps_w12_7 : (Jvm.Cond.methodLink "PictureStudioLaw" (234 : Nat) ({ cls := "PictureStudioModel", name := "stroke", desc := "(II)I" } : Jvm.MethodName)) ∈ ps_W := ps_in12 7 rfl rfl
theorem ps_w12_8 : (Jvm.Cond.instanceMethod ({ cls := "PictureStudioModel", name := "stroke", desc := "(II)I" } : Jvm.MethodName)) ∈ ps_W := ps_in12 8 rfl rfl
theorem ps_w12_9 : (Jvm.Cond.selects "PictureStudioModel" ({ cls := "PictureStudioModel", name := "stroke", desc := "(II)I" } : Jvm.MethodName) ({ cls := "PictureStudioModel", name := "stroke", desc := "(II)I" } : Jvm.MethodName)) ∈ ps_W := ps_in12 9 rfl rfl
theorem ps_w12_10 : (Jvm.Cond.code ({ cls := "PictureStudioModel", name := "stroke", desc := "(II)I" } : Jvm.MethodName) prog_14_method_110_code (7 : Nat) (Option.some Jvm.ClassFile.FieldType.int)) ∈ ps_W := ps_in12 10 rfl rfl
theorem ps_w12_11 : (Jvm.Cond.methodLink "PictureStudioModel" (504 : Nat) ({ cls := "PictureStudioModel", name := "dabs", desc := "()V" } : Jvm.MethodName)) ∈ ps_W := ps_in12 11 rfl rfl
theorem ps_w12_13 : (Jvm.Cond.instanceMethod ({ cls := "PictureStudioModel", name := "dabs", desc := "()V" } : Jvm.MethodName)) ∈ ps_W := ps_in12 13 rfl rfl
theorem ps_w12_14 : (Jvm.Cond.code ({ cls := "PictureStudioModel", name := "dabs", desc := "()V" } : Jvm.MethodName) prog_14_method_109_code (8 : Nat) (Option.none : Option Jvm.ClassFile.FieldType)) ∈ ps_W := ps_in12 14 rfl rfl
theorem ps_w12_15 : (Jvm.Cond.methodLink "PictureStudioModel" (501 : Nat) ({ cls := "PictureStudioModel", name := "dab", desc := "(III)V" } : Jvm.MethodName)) ∈ ps_W := ps_in12 15 rfl rfl
theorem ps_w12_17 : (Jvm.Cond.instanceMethod ({ cls := "PictureStudioModel", name := "dab", desc := "(III)V" } : Jvm.MethodName)) ∈ ps_W := ps_in12 17 rfl rfl
theorem ps_w12_18 : (Jvm.Cond.code ({ cls := "PictureStudioModel", name := "dab", desc := "(III)V" } : Jvm.MethodName) prog_14_method_108_code (14 : Nat) (Option.none : Option Jvm.ClassFile.FieldType)) ∈ ps_W := ps_in12 18 rfl rfl
theorem ps_w12_19 : (Jvm.Cond.methodLink "PictureStudioModel" (498 : Nat) ({ cls := "PictureStudioModel", name := "root", desc := "(I)I" } : Jvm.MethodName)) ∈ ps_W := ps_in12 19 rfl rfl
theorem ps_w12_20 : (Jvm.Cond.static ({ cls := "PictureStudioModel", name := "root", desc := "(I)I" } : Jvm.MethodName)) ∈ ps_W := ps_in12 20 rfl rfl
theorem ps_w12_21 : (Jvm.Cond.code ({ cls := "PictureStudioModel", name := "root", desc := "(I)I" } : Jvm.MethodName) prog_14_method_8_code (5 : Nat) (Option.some Jvm.ClassFile.FieldType.int)) ∈ ps_W := ps_in12 21 rfl rfl
theorem ps_w12_22 : (Jvm.Cond.constant "PictureStudioModel" (205 : Nat) (32768 : Int32)) ∈ ps_W := ps_in12 22 rfl rfl
theorem ps_w12_23 : (Jvm.Cond.methodLink "PictureStudioLaw" (237 : Nat) ({ cls := "PictureStudioModel", name := "filter", desc := "(III)I" } : Jvm.MethodName)) ∈ ps_W := ps_in12 23 rfl rfl
theorem ps_w12_24 : (Jvm.Cond.instanceMethod ({ cls := "PictureStudioModel", name := "filter", desc := "(III)I" } : Jvm.MethodName)) ∈ ps_W := ps_in12 24 rfl rfl
theorem ps_w12_25 : (Jvm.Cond.selects "PictureStudioModel" ({ cls := "PictureStudioModel", name := "filter", desc := "(III)I" } : Jvm.MethodName) ({ cls := "PictureStudioModel", name := "filter", desc := "(III)I" } : Jvm.MethodName)) ∈ ps_W := ps_in12 25 rfl rfl
theorem ps_w12_26 : (Jvm.Cond.code ({ cls := "PictureStudioModel", name := "filter", desc := "(III)I" } : Jvm.MethodName) prog_14_method_111_code (6 : Nat) (Option.some Jvm.ClassFile.FieldType.int)) ∈ ps_W := ps_in12 26 rfl rfl
theorem ps_w12_27 : (Jvm.Cond.methodLink "PictureStudioLaw" (217 : Nat) ({ cls := "PictureStudioModel", name := "turn", desc := "(II)V" } : Jvm.MethodName)) ∈ ps_W := ps_in12 27 rfl rfl
theorem ps_w12_28 : (Jvm.Cond.instanceMethod ({ cls := "PictureStudioModel", name := "turn", desc := "(II)V" } : Jvm.MethodName)) ∈ ps_W := ps_in12 28 rfl rfl
theorem ps_w12_29 : (Jvm.Cond.selects "PictureStudioModel" ({ cls := "PictureStudioModel", name := "turn", desc := "(II)V" } : Jvm.MethodName) ({ cls := "PictureStudioModel", name := "turn", desc := "(II)V" } : Jvm.MethodName)) ∈ ps_W := ps_in12 29 rfl rfl
theorem ps_w12_30 : (Jvm.Cond.code ({ cls := "PictureStudioModel", name := "turn", desc := "(II)V" } : Jvm.MethodName) prog_14_method_112_code (5 : Nat) (Option.none : Option Jvm.ClassFile.FieldType)) ∈ ps_W := ps_in12 30 rfl rfl
theorem ps_w12_31 : (Jvm.Cond.methodLink "PictureStudioLaw" (221 : Nat) ({ cls := "PictureStudioModel", name := "scale", desc := "(IIIZ)V" } : Jvm.MethodName)) ∈ ps_W := ps_in12 31 rfl rfl
theorem ps_w12_32 : (Jvm.Cond.instanceMethod ({ cls := "PictureStudioModel", name := "scale", desc := "(IIIZ)V" } : Jvm.MethodName)) ∈ ps_W := ps_in12 32 rfl rfl
theorem ps_w12_33 : (Jvm.Cond.selects "PictureStudioModel" ({ cls := "PictureStudioModel", name := "scale", desc := "(IIIZ)V" } : Jvm.MethodName) ({ cls := "PictureStudioModel", name := "scale", desc := "(IIIZ)V" } : Jvm.MethodName)) ∈ ps_W := ps_in12 33 rfl rfl
theorem ps_w12_34 : (Jvm.Cond.code ({ cls := "PictureStudioModel", name := "scale", desc := "(IIIZ)V" } : Jvm.MethodName) prog_14_method_114_code (8 : Nat) (Option.none : Option Jvm.ClassFile.FieldType)) ∈ ps_W := ps_in12 34 rfl rfl
theorem ps_w12_35 : (Jvm.Cond.methodLink "PictureStudioModel" (507 : Nat) ({ cls := "PictureStudioModel", name := "four", desc := "(II)I" } : Jvm.MethodName)) ∈ ps_W := ps_in12 35 rfl rfl
theorem ps_w12_37 : (Jvm.Cond.instanceMethod ({ cls := "PictureStudioModel", name := "four", desc := "(II)I" } : Jvm.MethodName)) ∈ ps_W := ps_in12 37 rfl rfl
theorem ps_w12_38 : (Jvm.Cond.code ({ cls := "PictureStudioModel", name := "four", desc := "(II)I" } : Jvm.MethodName) prog_14_method_115_code (12 : Nat) (Option.some Jvm.ClassFile.FieldType.int)) ∈ ps_W := ps_in12 38 rfl rfl
theorem ps_w12_39 : (Jvm.Cond.methodLink "PictureStudioModel" (510 : Nat) ({ cls := "PictureStudioModel", name := "beforeAt", desc := "(II)I" } : Jvm.MethodName)) ∈ ps_W := ps_in12 39 rfl rfl
theorem ps_w12_41 : (Jvm.Cond.instanceMethod ({ cls := "PictureStudioModel", name := "beforeAt", desc := "(II)I" } : Jvm.MethodName)) ∈ ps_W := ps_in12 41 rfl rfl
theorem ps_w12_42 : (Jvm.Cond.code ({ cls := "PictureStudioModel", name := "beforeAt", desc := "(II)I" } : Jvm.MethodName) prog_14_method_113_code (3 : Nat) (Option.some Jvm.ClassFile.FieldType.int)) ∈ ps_W := ps_in12 42 rfl rfl
theorem ps_w12_43 : (Jvm.Cond.methodLink "PictureStudioLaw" (224 : Nat) ({ cls := "PictureStudioModel", name := "flat", desc := "(I)V" } : Jvm.MethodName)) ∈ ps_W := ps_in12 43 rfl rfl
theorem ps_w12_44 : (Jvm.Cond.instanceMethod ({ cls := "PictureStudioModel", name := "flat", desc := "(I)V" } : Jvm.MethodName)) ∈ ps_W := ps_in12 44 rfl rfl
theorem ps_w12_45 : (Jvm.Cond.selects "PictureStudioModel" ({ cls := "PictureStudioModel", name := "flat", desc := "(I)V" } : Jvm.MethodName) ({ cls := "PictureStudioModel", name := "flat", desc := "(I)V" } : Jvm.MethodName)) ∈ ps_W := ps_in12 45 rfl rfl
theorem ps_w12_46 : (Jvm.Cond.code ({ cls := "PictureStudioModel", name := "flat", desc := "(I)V" } : Jvm.MethodName) prog_14_method_117_code (2 : Nat) (Option.none : Option Jvm.ClassFile.FieldType)) ∈ ps_W := ps_in12 46 rfl rfl
theorem ps_w12_47 : (Jvm.Cond.methodLink "PictureStudioModel" (513 : Nat) ({ cls := "PictureStudioModel", name := "becomePixels", desc := "(I)V" } : Jvm.MethodName)) ∈ ps_W := ps_in12 47 rfl rfl
theorem ps_w12_49 : (Jvm.Cond.instanceMethod ({ cls := "PictureStudioModel", name := "becomePixels", desc := "(I)V" } : Jvm.MethodName)) ∈ ps_W := ps_in12 49 rfl rfl
theorem ps_w12_50 : (Jvm.Cond.code ({ cls := "PictureStudioModel", name := "becomePixels", desc := "(I)V" } : Jvm.MethodName) prog_14_method_116_code (3 : Nat) (Option.none : Option Jvm.ClassFile.FieldType)) ∈ ps_W := ps_in12 50 rfl rfl
theorem ps_w12_51 : (Jvm.Cond.methodLink "PictureStudioLaw" (231 : Nat) ({ cls := "PictureStudioModel", name := "merge", desc := "(I)V" } : Jvm.MethodName)) ∈ ps_W := ps_in12 51 rfl rfl
theorem ps_w12_52 : (Jvm.Cond.instanceMethod ({ cls := "PictureStudioModel", name := "merge", desc := "(I)V" } : Jvm.MethodName)) ∈ ps_W := ps_in12 52 rfl rfl
theorem ps_w12_53 : (Jvm.Cond.selects "PictureStudioModel" ({ cls := "PictureStudioModel", name := "merge", desc := "(I)V" } : Jvm.MethodName) ({ cls := "PictureStudioModel", name := "merge", desc := "(I)V" } : Jvm.MethodName)) ∈ ps_W := ps_in12 53 rfl rfl
theorem ps_w12_54 : (Jvm.Cond.code ({ cls := "PictureStudioModel", name := "merge", desc := "(I)V" } : Jvm.MethodName) prog_14_method_118_code (3 : Nat) (Option.none : Option Jvm.ClassFile.FieldType)) ∈ ps_W := ps_in12 54 rfl rfl
theorem ps_w12_55 : (Jvm.Cond.methodLink "PictureStudioLaw" (296 : Nat) ({ cls := "PictureStudioModel", name := "step", desc := "(IIII)I" } : Jvm.MethodName)) ∈ ps_W := ps_in12 55 rfl rfl
theorem ps_w12_56 : (Jvm.Cond.instanceMethod ({ cls := "PictureStudioModel", name := "step", desc := "(IIII)I" } : Jvm.MethodName)) ∈ ps_W := ps_in12 56 rfl rfl
theorem ps_w12_57 : (Jvm.Cond.selects "PictureStudioModel" ({ cls := "PictureStudioModel", name := "step", desc := "(IIII)I" } : Jvm.MethodName) ({ cls := "PictureStudioModel", name := "step", desc := "(IIII)I" } : Jvm.MethodName)) ∈ ps_W := ps_in12 57 rfl rfl
theorem ps_w12_58 : (Jvm.Cond.code ({ cls := "PictureStudioModel", name := "step", desc := "(IIII)I" } : Jvm.MethodName) prog_14_method_119_code (9 : Nat) (Option.some Jvm.ClassFile.FieldType.int)) ∈ ps_W := ps_in12 58 rfl rfl
theorem ps_w12_59 : (Jvm.Cond.methodLink "PictureStudioLaw" (240 : Nat) ({ cls := "PictureStudioModel", name := "path", desc := "(III)I" } : Jvm.MethodName)) ∈ ps_W := ps_in12 59 rfl rfl
theorem ps_w12_60 : (Jvm.Cond.instanceMethod ({ cls := "PictureStudioModel", name := "path", desc := "(III)I" } : Jvm.MethodName)) ∈ ps_W := ps_in12 60 rfl rfl
theorem ps_w12_61 : (Jvm.Cond.selects "PictureStudioModel" ({ cls := "PictureStudioModel", name := "path", desc := "(III)I" } : Jvm.MethodName) ({ cls := "PictureStudioModel", name := "path", desc := "(III)I" } : Jvm.MethodName)) ∈ ps_W := ps_in12 61 rfl rfl
theorem ps_w12_62 : (Jvm.Cond.code ({ cls := "PictureStudioModel", name := "path", desc := "(III)I" } : Jvm.MethodName) prog_14_method_125_code (4 : Nat) (Option.some Jvm.ClassFile.FieldType.int)) ∈ ps_W := ps_in12 62 rfl rfl
theorem ps_w12_63 : (Jvm.Cond.methodLink "PictureStudioModel" (528 : Nat) ({ cls := "PictureStudioModel", name := "fillShape", desc := "(I)V" } : Jvm.MethodName)) ∈ ps_W := ps_in12 63 rfl rfl
theorem ps_w12_65 : (Jvm.Cond.instanceMethod ({ cls := "PictureStudioModel", name := "fillShape", desc := "(I)V" } : Jvm.MethodName)) ∈ ps_W := ps_in12 65 rfl rfl
theorem ps_w12_66 : (Jvm.Cond.code ({ cls := "PictureStudioModel", name := "fillShape", desc := "(I)V" } : Jvm.MethodName) prog_14_method_124_code (4 : Nat) (Option.none : Option Jvm.ClassFile.FieldType)) ∈ ps_W := ps_in12 66 rfl rfl
theorem ps_w12_67 : (Jvm.Cond.methodLink "PictureStudioLaw" (299 : Nat) ({ cls := "PictureStudioModel", name := "glyph", desc := "(III)V" } : Jvm.MethodName)) ∈ ps_W := ps_in12 67 rfl rfl
theorem ps_w12_68 : (Jvm.Cond.instanceMethod ({ cls := "PictureStudioModel", name := "glyph", desc := "(III)V" } : Jvm.MethodName)) ∈ ps_W := ps_in12 68 rfl rfl
theorem ps_w12_69 : (Jvm.Cond.selects "PictureStudioModel" ({ cls := "PictureStudioModel", name := "glyph", desc := "(III)V" } : Jvm.MethodName) ({ cls := "PictureStudioModel", name := "glyph", desc := "(III)V" } : Jvm.MethodName)) ∈ ps_W := ps_in12 69 rfl rfl
theorem ps_w12_70 : (Jvm.Cond.code ({ cls := "PictureStudioModel", name := "glyph", desc := "(III)V" } : Jvm.MethodName) prog_14_method_126_code (4 : Nat) (Option.none : Option Jvm.ClassFile.FieldType)) ∈ ps_W := ps_in12 70 rfl rfl
theorem ps_w12_71 : (Jvm.Cond.methodLink "PictureStudioLaw" (243 : Nat) ({ cls := "PictureStudioModel", name := "text", desc := "(III)I" } : Jvm.MethodName)) ∈ ps_W := ps_in12 71 rfl rfl
theorem ps_w12_72 : (Jvm.Cond.instanceMethod ({ cls := "PictureStudioModel", name := "text", desc := "(III)I" } : Jvm.MethodName)) ∈ ps_W := ps_in12 72 rfl rfl
theorem ps_w12_73 : (Jvm.Cond.selects "PictureStudioModel" ({ cls := "PictureStudioModel", name := "text", desc := "(III)I" } : Jvm.MethodName) ({ cls := "PictureStudioModel", name := "text", desc := "(III)I" } : Jvm.MethodName)) ∈ ps_W := ps_in12 73 rfl rfl
theorem ps_w12_74 : (Jvm.Cond.code ({ cls := "PictureStudioModel", name := "text", desc := "(III)I" } : Jvm.MethodName) prog_14_method_127_code (7 : Nat) (Option.some Jvm.ClassFile.FieldType.int)) ∈ ps_W := ps_in12 74 rfl rfl
theorem ps_w12_75 : (Jvm.Cond.methodLink "PictureStudioModel" (531 : Nat) ({ cls := "PictureStudioModel", name := "takeInput", desc := "()V" } : Jvm.MethodName)) ∈ ps_W := ps_in12 75 rfl rfl
theorem ps_w12_77 : (Jvm.Cond.instanceMethod ({ cls := "PictureStudioModel", name := "takeInput", desc := "()V" } : Jvm.MethodName)) ∈ ps_W := ps_in12 77 rfl rfl
theorem ps_w12_78 : (Jvm.Cond.code ({ cls := "PictureStudioModel", name := "takeInput", desc := "()V" } : Jvm.MethodName) prog_14_method_17_code (1 : Nat) (Option.none : Option Jvm.ClassFile.FieldType)) ∈ ps_W := ps_in12 78 rfl rfl
theorem ps_w12_79 : (Jvm.Cond.methodLink "PictureStudioLaw" (290 : Nat) ({ cls := "PictureStudioModel", name := "profile", desc := "(III)V" } : Jvm.MethodName)) ∈ ps_W := ps_in12 79 rfl rfl
theorem ps_w12_80 : (Jvm.Cond.instanceMethod ({ cls := "PictureStudioModel", name := "profile", desc := "(III)V" } : Jvm.MethodName)) ∈ ps_W := ps_in12 80 rfl rfl
theorem ps_w12_81 : (Jvm.Cond.selects "PictureStudioModel" ({ cls := "PictureStudioModel", name := "profile", desc := "(III)V" } : Jvm.MethodName) ({ cls := "PictureStudioModel", name := "profile", desc := "(III)V" } : Jvm.MethodName)) ∈ ps_W := ps_in12 81 rfl rfl
theorem ps_w12_82 : (Jvm.Cond.code ({ cls := "PictureStudioModel", name := "profile", desc := "(III)V" } : Jvm.MethodName) prog_14_method_128_code (5 : Nat) (Option.none : Option Jvm.ClassFile.FieldType)) ∈ ps_W := ps_in12 82 rfl rfl
theorem ps_w12_83 : (Jvm.Cond.methodLink "PictureStudioLaw" (246 : Nat) ({ cls := "PictureStudioModel", name := "convert", desc := "(III)V" } : Jvm.MethodName)) ∈ ps_W := ps_in12 83 rfl rfl
theorem ps_w12_84 : (Jvm.Cond.instanceMethod ({ cls := "PictureStudioModel", name := "convert", desc := "(III)V" } : Jvm.MethodName)) ∈ ps_W := ps_in12 84 rfl rfl
theorem ps_w12_85 : (Jvm.Cond.selects "PictureStudioModel" ({ cls := "PictureStudioModel", name := "convert", desc := "(III)V" } : Jvm.MethodName) ({ cls := "PictureStudioModel", name := "convert", desc := "(III)V" } : Jvm.MethodName)) ∈ ps_W := ps_in12 85 rfl rfl
theorem ps_w12_86 : (Jvm.Cond.code ({ cls := "PictureStudioModel", name := "convert", desc := "(III)V" } : Jvm.MethodName) prog_14_method_132_code (13 : Nat) (Option.none : Option Jvm.ClassFile.FieldType)) ∈ ps_W := ps_in12 86 rfl rfl
theorem ps_w12_87 : (Jvm.Cond.methodLink "PictureStudioModel" (540 : Nat) ({ cls := "PictureStudioModel", name := "cofactor", desc := "(III)J" } : Jvm.MethodName)) ∈ ps_W := ps_in12 87 rfl rfl
theorem ps_w12_89 : (Jvm.Cond.instanceMethod ({ cls := "PictureStudioModel", name := "cofactor", desc := "(III)J" } : Jvm.MethodName)) ∈ ps_W := ps_in12 89 rfl rfl
theorem ps_w12_90 : (Jvm.Cond.code ({ cls := "PictureStudioModel", name := "cofactor", desc := "(III)J" } : Jvm.MethodName) prog_14_method_130_code (9 : Nat) (Option.some Jvm.ClassFile.FieldType.long)) ∈ ps_W := ps_in12 90 rfl rfl
theorem ps_w12_91 : (Jvm.Cond.methodLink "PictureStudioModel" (537 : Nat) ({ cls := "PictureStudioModel", name := "light", desc := "(II)I" } : Jvm.MethodName)) ∈ ps_W := ps_in12 91 rfl rfl
theorem ps_w12_92 : (Jvm.Cond.static ({ cls := "PictureStudioModel", name := "light", desc := "(II)I" } : Jvm.MethodName)) ∈ ps_W := ps_in12 92 rfl rfl
theorem ps_w12_93 : (Jvm.Cond.code ({ cls := "PictureStudioModel", name := "light", desc := "(II)I" } : Jvm.MethodName) prog_14_method_129_code (4 : Nat) (Option.some Jvm.ClassFile.FieldType.int)) ∈ ps_W := ps_in12 93 rfl rfl
theorem ps_w12_94 : (Jvm.Cond.constant "PictureStudioModel" (534 : Nat) (65025 : Int32)) ∈ ps_W := ps_in12 94 rfl rfl
theorem ps_w12_95 : (Jvm.Cond.constantLong "PictureStudioModel" (544 : Nat) (1024 : Int64)) ∈ ps_W := ps_in12 95 rfl rfl
theorem ps_w12_96 : (Jvm.Cond.constantLong "PictureStudioModel" (546 : Nat) (4095 : Int64)) ∈ ps_W := ps_in12 96 rfl rfl
theorem ps_w12_97 : (Jvm.Cond.methodLink "PictureStudioModel" (548 : Nat) ({ cls := "PictureStudioModel", name := "nearestLight", desc := "(IJ)I" } : Jvm.MethodName)) ∈ ps_W := ps_in12 97 rfl rfl
theorem ps_w12_99 : (Jvm.Cond.instanceMethod ({ cls := "PictureStudioModel", name := "nearestLight", desc := "(IJ)I" } : Jvm.MethodName)) ∈ ps_W := ps_in12 99 rfl rfl
theorem ps_w12_100 : (Jvm.Cond.code ({ cls := "PictureStudioModel", name := "nearestLight", desc := "(IJ)I" } : Jvm.MethodName) prog_14_method_131_code (10 : Nat) (Option.some Jvm.ClassFile.FieldType.int)) ∈ ps_W := ps_in12 100 rfl rfl
theorem ps_w12_101 : (Jvm.Cond.constantLong "PictureStudioModel" (535 : Nat) (-1 : Int64)) ∈ ps_W := ps_in12 101 rfl rfl
theorem ps_w12_102 : (Jvm.Cond.methodLink "PictureStudioLaw" (250 : Nat) ({ cls := "PictureStudioModel", name := "few", desc := "(IIZ)I" } : Jvm.MethodName)) ∈ ps_W := ps_in12 102 rfl rfl
theorem ps_w12_103 : (Jvm.Cond.instanceMethod ({ cls := "PictureStudioModel", name := "few", desc := "(IIZ)I" } : Jvm.MethodName)) ∈ ps_W := ps_in12 103 rfl rfl
theorem ps_w12_104 : (Jvm.Cond.selects "PictureStudioModel" ({ cls := "PictureStudioModel", name := "few", desc := "(IIZ)I" } : Jvm.MethodName) ({ cls := "PictureStudioModel", name := "few", desc := "(IIZ)I" } : Jvm.MethodName)) ∈ ps_W := ps_in12 104 rfl rfl
theorem ps_w12_105 : (Jvm.Cond.code ({ cls := "PictureStudioModel", name := "few", desc := "(IIZ)I" } : Jvm.MethodName) prog_14_method_138_code (8 : Nat) (Option.some Jvm.ClassFile.FieldType.int)) ∈ ps_W := ps_in12 105 rfl rfl
theorem ps_w12_106 : (Jvm.Cond.methodLink "PictureStudioModel" (561 : Nat) ({ cls := "PictureStudioModel", name := "cutBox", desc := "(I)Z" } : Jvm.MethodName)) ∈ ps_W := ps_in12 106 rfl rfl
theorem ps_w12_108 : (Jvm.Cond.instanceMethod ({ cls := "PictureStudioModel", name := "cutBox", desc := "(I)Z" } : Jvm.MethodName)) ∈ ps_W := ps_in12 108 rfl rfl
theorem ps_w12_109 : (Jvm.Cond.code ({ cls := "PictureStudioModel", name := "cutBox", desc := "(I)Z" } : Jvm.MethodName) prog_14_method_136_code (8 : Nat) (Option.some Jvm.ClassFile.FieldType.boolean)) ∈ ps_W := ps_in12 109 rfl rfl
theorem ps_w12_110 : (Jvm.Cond.methodLink "PictureStudioModel" (555 : Nat) ({ cls := "PictureStudioModel", name := "side", desc := "(II)I" } : Jvm.MethodName)) ∈ ps_W := ps_in12 110 rfl rfl
theorem ps_w12_112 : (Jvm.Cond.instanceMethod ({ cls := "PictureStudioModel", name := "side", desc := "(II)I" } : Jvm.MethodName)) ∈ ps_W := ps_in12 112 rfl rfl
theorem ps_w12_113 : (Jvm.Cond.code ({ cls := "PictureStudioModel", name := "side", desc := "(II)I" } : Jvm.MethodName) prog_14_method_133_code (7 : Nat) (Option.some Jvm.ClassFile.FieldType.int)) ∈ ps_W := ps_in12 113 rfl rfl
theorem ps_w12_114 : (Jvm.Cond.methodLink "PictureStudioModel" (558 : Nat) ({ cls := "PictureStudioModel", name := "sortBox", desc := "(II)V" } : Jvm.MethodName)) ∈ ps_W := ps_in12 114 rfl rfl
theorem ps_w12_116 : (Jvm.Cond.instanceMethod ({ cls := "PictureStudioModel", name := "sortBox", desc := "(II)V" } : Jvm.MethodName)) ∈ ps_W := ps_in12 116 rfl rfl
theorem ps_w12_117 : (Jvm.Cond.code ({ cls := "PictureStudioModel", name := "sortBox", desc := "(II)V" } : Jvm.MethodName) prog_14_method_134_code (7 : Nat) (Option.none : Option Jvm.ClassFile.FieldType)) ∈ ps_W := ps_in12 117 rfl rfl
theorem ps_w12_118 : (Jvm.Cond.methodLink "PictureStudioModel" (552 : Nat) ({ cls := "PictureStudioModel", name := "less", desc := "(III)Z" } : Jvm.MethodName)) ∈ ps_W := ps_in12 118 rfl rfl
theorem ps_w12_119 : (Jvm.Cond.static ({ cls := "PictureStudioModel", name := "less", desc := "(III)Z" } : Jvm.MethodName)) ∈ ps_W := ps_in12 119 rfl rfl
theorem ps_w12_120 : (Jvm.Cond.code ({ cls := "PictureStudioModel", name := "less", desc := "(III)Z" } : Jvm.MethodName) prog_14_method_135_code (5 : Nat) (Option.some Jvm.ClassFile.FieldType.boolean)) ∈ ps_W := ps_in12 120 rfl rfl
theorem ps_w12_121 : (Jvm.Cond.methodLink "PictureStudioModel" (564 : Nat) ({ cls := "PictureStudioModel", name := "meanOfBox", desc := "(I)V" } : Jvm.MethodName)) ∈ ps_W := ps_in12 121 rfl rfl
theorem ps_w12_123 : (Jvm.Cond.instanceMethod ({ cls := "PictureStudioModel", name := "meanOfBox", desc := "(I)V" } : Jvm.MethodName)) ∈ ps_W := ps_in12 123 rfl rfl
theorem ps_w12_124 : (Jvm.Cond.code ({ cls := "PictureStudioModel", name := "meanOfBox", desc := "(I)V" } : Jvm.MethodName) prog_14_method_137_code (7 : Nat) (Option.none : Option Jvm.ClassFile.FieldType)) ∈ ps_W := ps_in12 124 rfl rfl
theorem ps_w12_125 : (Jvm.Cond.methodLink "PictureStudioModel" (567 : Nat) ({ cls := "PictureStudioModel", name := "fewAt", desc := "(IIIIZ)I" } : Jvm.MethodName)) ∈ ps_W := ps_in12 125 rfl rfl
theorem ps_w12_127 : (Jvm.Cond.instanceMethod ({ cls := "PictureStudioModel", name := "fewAt", desc := "(IIIIZ)I" } : Jvm.MethodName)) ∈ ps_W := ps_in12 127 rfl rfl
theorem ps_w12_128 : (Jvm.Cond.code ({ cls := "PictureStudioModel", name := "fewAt", desc := "(IIIIZ)I" } : Jvm.MethodName) prog_14_method_139_code (16 : Nat) (Option.some Jvm.ClassFile.FieldType.int)) ∈ ps_W := ps_in12 128 rfl rfl
theorem ps_w12_129 : (Jvm.Cond.methodLink "PictureStudioModel" (571 : Nat) ({ cls := "PictureStudioModel", name := "spread", desc := "(IIII)V" } : Jvm.MethodName)) ∈ ps_W := ps_in12 129 rfl rfl
theorem ps_w12_131 : (Jvm.Cond.instanceMethod ({ cls := "PictureStudioModel", name := "spread", desc := "(IIII)V" } : Jvm.MethodName)) ∈ ps_W := ps_in12 131 rfl rfl
theorem ps_w12_132 : (Jvm.Cond.code ({ cls := "PictureStudioModel", name := "spread", desc := "(IIII)V" } : Jvm.MethodName) prog_14_method_140_code (7 : Nat) (Option.none : Option Jvm.ClassFile.FieldType)) ∈ ps_W := ps_in12 132 rfl rfl
theorem ps_w12_133 : (Jvm.Cond.methodLink "PictureStudioModel" (574 : Nat) ({ cls := "PictureStudioModel", name := "give", desc := "(IIIII)V" } : Jvm.MethodName)) ∈ ps_W := ps_in12 133 rfl rfl
theorem ps_w12_135 : (Jvm.Cond.instanceMethod ({ cls := "PictureStudioModel", name := "give", desc := "(IIIII)V" } : Jvm.MethodName)) ∈ ps_W := ps_in12 135 rfl rfl
theorem ps_w12_136 : (Jvm.Cond.code ({ cls := "PictureStudioModel", name := "give", desc := "(IIIII)V" } : Jvm.MethodName) prog_14_method_141_code (6 : Nat) (Option.none : Option Jvm.ClassFile.FieldType)) ∈ ps_W := ps_in12 136 rfl rfl
theorem ps_w12_137 : (Jvm.Cond.methodLink "PictureStudioLaw" (293 : Nat) ({ cls := "PictureStudioModel", name := "develop", desc := "(II)V" } : Jvm.MethodName)) ∈ ps_W := ps_in12 137 rfl rfl
theorem ps_w12_138 : (Jvm.Cond.instanceMethod ({ cls := "PictureStudioModel", name := "develop", desc := "(II)V" } : Jvm.MethodName)) ∈ ps_W := ps_in12 138 rfl rfl
theorem ps_w12_139 : (Jvm.Cond.selects "PictureStudioModel" ({ cls := "PictureStudioModel", name := "develop", desc := "(II)V" } : Jvm.MethodName) ({ cls := "PictureStudioModel", name := "develop", desc := "(II)V" } : Jvm.MethodName)) ∈ ps_W := ps_in12 139 rfl rfl
theorem ps_w12_140 : (Jvm.Cond.code ({ cls := "PictureStudioModel", name := "develop", desc := "(II)V" } : Jvm.MethodName) prog_14_method_142_code (3 : Nat) (Option.none : Option Jvm.ClassFile.FieldType)) ∈ ps_W := ps_in12 140 rfl rfl
theorem ps_w12_141 : (Jvm.Cond.methodLink "PictureStudioLaw" (254 : Nat) ({ cls := "PictureStudioModel", name := "raw", desc := "()I" } : Jvm.MethodName)) ∈ ps_W := ps_in12 141 rfl rfl
theorem ps_w12_142 : (Jvm.Cond.instanceMethod ({ cls := "PictureStudioModel", name := "raw", desc := "()I" } : Jvm.MethodName)) ∈ ps_W := ps_in12 142 rfl rfl
theorem ps_w12_143 : (Jvm.Cond.selects "PictureStudioModel" ({ cls := "PictureStudioModel", name := "raw", desc := "()I" } : Jvm.MethodName) ({ cls := "PictureStudioModel", name := "raw", desc := "()I" } : Jvm.MethodName)) ∈ ps_W := ps_in12 143 rfl rfl
theorem ps_w12_144 : (Jvm.Cond.code ({ cls := "PictureStudioModel", name := "raw", desc := "()I" } : Jvm.MethodName) prog_14_method_144_code (6 : Nat) (Option.some Jvm.ClassFile.FieldType.int)) ∈ ps_W := ps_in12 144 rfl rfl
theorem ps_w12_145 : (Jvm.Cond.methodLink "PictureStudioModel" (578 : Nat) ({ cls := "PictureStudioModel", name := "wrong", desc := "(II)V" } : Jvm.MethodName)) ∈ ps_W := ps_in12 145 rfl rfl
theorem ps_w12_147 : (Jvm.Cond.instanceMethod ({ cls := "PictureStudioModel", name := "wrong", desc := "(II)V" } : Jvm.MethodName)) ∈ ps_W := ps_in12 147 rfl rfl
theorem ps_w12_148 : (Jvm.Cond.code ({ cls := "PictureStudioModel", name := "wrong", desc := "(II)V" } : Jvm.MethodName) prog_14_method_18_code (3 : Nat) (Option.none : Option Jvm.ClassFile.FieldType)) ∈ ps_W := ps_in12 148 rfl rfl
theorem ps_w12_149 : (Jvm.Cond.methodLink "PictureStudioModel" (581 : Nat) ({ cls := "PictureStudioModel", name := "rawPart", desc := "(II)I" } : Jvm.MethodName)) ∈ ps_W := ps_in12 149 rfl rfl
theorem ps_w12_150 : (Jvm.Cond.static ({ cls := "PictureStudioModel", name := "rawPart", desc := "(II)I" } : Jvm.MethodName)) ∈ ps_W := ps_in12 150 rfl rfl
theorem ps_w12_151 : (Jvm.Cond.code ({ cls := "PictureStudioModel", name := "rawPart", desc := "(II)I" } : Jvm.MethodName) prog_14_method_143_code (2 : Nat) (Option.some Jvm.ClassFile.FieldType.int)) ∈ ps_W := ps_in12 151 rfl rfl
theorem ps_w12_152 : (Jvm.Cond.methodLink "PictureStudioModel" (584 : Nat) ({ cls := "PictureStudioModel", name := "full", desc := "()Z" } : Jvm.MethodName)) ∈ ps_W := ps_in12 152 rfl rfl
theorem ps_w12_154 : (Jvm.Cond.instanceMethod ({ cls := "PictureStudioModel", name := "full", desc := "()Z" } : Jvm.MethodName)) ∈ ps_W := ps_in12 154 rfl rfl
theorem ps_w12_155 : (Jvm.Cond.code ({ cls := "PictureStudioModel", name := "full", desc := "()Z" } : Jvm.MethodName) prog_14_method_145_code (1 : Nat) (Option.some Jvm.ClassFile.FieldType.boolean)) ∈ ps_W := ps_in12 155 rfl rfl
theorem ps_w12_156 : (Jvm.Cond.methodLink "PictureStudioModel" (588 : Nat) ({ cls := "PictureStudioModel", name := "rawAt", desc := "(II)I" } : Jvm.MethodName)) ∈ ps_W := ps_in12 156 rfl rfl
theorem ps_w12_158 : (Jvm.Cond.instanceMethod ({ cls := "PictureStudioModel", name := "rawAt", desc := "(II)I" } : Jvm.MethodName)) ∈ ps_W := ps_in12 158 rfl rfl
theorem ps_w12_159 : (Jvm.Cond.code ({ cls := "PictureStudioModel", name := "rawAt", desc := "(II)I" } : Jvm.MethodName) prog_14_method_146_code (9 : Nat) (Option.some Jvm.ClassFile.FieldType.int)) ∈ ps_W := ps_in12 159 rfl rfl
theorem ps_w12_160 : (Jvm.Cond.methodLink "PictureStudioLaw" (321 : Nat) ({ cls := "PictureStudioModel", name := "made", desc := "(I)I" } : Jvm.MethodName)) ∈ ps_W := ps_in12 160 rfl rfl
theorem ps_w12_161 : (Jvm.Cond.instanceMethod ({ cls := "PictureStudioModel", name := "made", desc := "(I)I" } : Jvm.MethodName)) ∈ ps_W := ps_in12 161 rfl rfl
theorem ps_w12_162 : (Jvm.Cond.selects "PictureStudioModel" ({ cls := "PictureStudioModel", name := "made", desc := "(I)I" } : Jvm.MethodName) ({ cls := "PictureStudioModel", name := "made", desc := "(I)I" } : Jvm.MethodName)) ∈ ps_W := ps_in12 162 rfl rfl
theorem ps_w12_163 : (Jvm.Cond.code ({ cls := "PictureStudioModel", name := "made", desc := "(I)I" } : Jvm.MethodName) prog_14_method_164_code (3 : Nat) (Option.some Jvm.ClassFile.FieldType.int)) ∈ ps_W := ps_in12 163 rfl rfl
theorem ps_w12_164 : (Jvm.Cond.constant "PictureStudioModel" (644 : Nat) (-1991225785 : Int32)) ∈ ps_W := ps_in12 164 rfl rfl
theorem ps_w12_165 : (Jvm.Cond.methodLink "PictureStudioModel" (601 : Nat) ({ cls := "PictureStudioModel", name := "outWord", desc := "(I)V" } : Jvm.MethodName)) ∈ ps_W := ps_in12 165 rfl rfl
theorem ps_w12_167 : (Jvm.Cond.instanceMethod ({ cls := "PictureStudioModel", name := "outWord", desc := "(I)V" } : Jvm.MethodName)) ∈ ps_W := ps_in12 167 rfl rfl
theorem ps_w12_168 : (Jvm.Cond.code ({ cls := "PictureStudioModel", name := "outWord", desc := "(I)V" } : Jvm.MethodName) prog_14_method_149_code (3 : Nat) (Option.none : Option Jvm.ClassFile.FieldType)) ∈ ps_W := ps_in12 168 rfl rfl
theorem ps_w12_169 : (Jvm.Cond.methodLink "PictureStudioModel" (595 : Nat) ({ cls := "PictureStudioModel", name := "outByte", desc := "(I)V" } : Jvm.MethodName)) ∈ ps_W := ps_in12 169 rfl rfl
theorem ps_w12_171 : (Jvm.Cond.instanceMethod ({ cls := "PictureStudioModel", name := "outByte", desc := "(I)V" } : Jvm.MethodName)) ∈ ps_W := ps_in12 171 rfl rfl
theorem ps_w12_172 : (Jvm.Cond.code ({ cls := "PictureStudioModel", name := "outByte", desc := "(I)V" } : Jvm.MethodName) prog_14_method_148_code (2 : Nat) (Option.none : Option Jvm.ClassFile.FieldType)) ∈ ps_W := ps_in12 172 rfl rfl
theorem ps_w12_173 : (Jvm.Cond.constant "PictureStudioModel" (645 : Nat) (218765834 : Int32)) ∈ ps_W := ps_in12 173 rfl rfl
theorem ps_w12_174 : (Jvm.Cond.constant "PictureStudioModel" (646 : Nat) (1229472850 : Int32)) ∈ ps_W := ps_in12 174 rfl rfl
theorem ps_w12_175 : (Jvm.Cond.methodLink "PictureStudioModel" (647 : Nat) ({ cls := "PictureStudioModel", name := "openChunk", desc := "(I)V" } : Jvm.MethodName)) ∈ ps_W := ps_in12 175 rfl rfl
theorem ps_w12_177 : (Jvm.Cond.instanceMethod ({ cls := "PictureStudioModel", name := "openChunk", desc := "(I)V" } : Jvm.MethodName)) ∈ ps_W := ps_in12 177 rfl rfl
theorem ps_w12_178 : (Jvm.Cond.code ({ cls := "PictureStudioModel", name := "openChunk", desc := "(I)V" } : Jvm.MethodName) prog_14_method_150_code (2 : Nat) (Option.none : Option Jvm.ClassFile.FieldType)) ∈ ps_W := ps_in12 178 rfl rfl
theorem ps_w12_179 : (Jvm.Cond.methodLink "PictureStudioModel" (650 : Nat) ({ cls := "PictureStudioModel", name := "closeChunk", desc := "()V" } : Jvm.MethodName)) ∈ ps_W := ps_in12 179 rfl rfl
theorem ps_w12_181 : (Jvm.Cond.instanceMethod ({ cls := "PictureStudioModel", name := "closeChunk", desc := "()V" } : Jvm.MethodName)) ∈ ps_W := ps_in12 181 rfl rfl
theorem ps_w12_182 : (Jvm.Cond.code ({ cls := "PictureStudioModel", name := "closeChunk", desc := "()V" } : Jvm.MethodName) prog_14_method_151_code (4 : Nat) (Option.none : Option Jvm.ClassFile.FieldType)) ∈ ps_W := ps_in12 182 rfl rfl
theorem ps_w12_183 : (Jvm.Cond.methodLink "PictureStudioModel" (604 : Nat) ({ cls := "PictureStudioModel", name := "checked", desc := "(II)I" } : Jvm.MethodName)) ∈ ps_W := ps_in12 183 rfl rfl
theorem ps_w12_184 : (Jvm.Cond.static ({ cls := "PictureStudioModel", name := "checked", desc := "(II)I" } : Jvm.MethodName)) ∈ ps_W := ps_in12 184 rfl rfl
theorem ps_w12_185 : (Jvm.Cond.code ({ cls := "PictureStudioModel", name := "checked", desc := "(II)I" } : Jvm.MethodName) prog_14_method_147_code (4 : Nat) (Option.some Jvm.ClassFile.FieldType.int)) ∈ ps_W := ps_in12 185 rfl rfl
theorem ps_w12_186 : (Jvm.Cond.constant "PictureStudioModel" (591 : Nat) (-306674912 : Int32)) ∈ ps_W := ps_in12 186 rfl rfl
theorem ps_w12_187 : (Jvm.Cond.constant "PictureStudioModel" (653 : Nat) (1229209940 : Int32)) ∈ ps_W := ps_in12 187 rfl rfl
theorem ps_w12_188 : (Jvm.Cond.methodLink "PictureStudioModel" (654 : Nat) ({ cls := "PictureStudioModel", name := "makeRows", desc := "()V" } : Jvm.MethodName)) ∈ ps_W := ps_in12 188 rfl rfl
theorem ps_w12_190 : (Jvm.Cond.instanceMethod ({ cls := "PictureStudioModel", name := "makeRows", desc := "()V" } : Jvm.MethodName)) ∈ ps_W := ps_in12 190 rfl rfl
theorem ps_w12_191 : (Jvm.Cond.code ({ cls := "PictureStudioModel", name := "makeRows", desc := "()V" } : Jvm.MethodName) prog_14_method_156_code (8 : Nat) (Option.none : Option Jvm.ClassFile.FieldType)) ∈ ps_W := ps_in12 191 rfl rfl
theorem ps_w12_192 : (Jvm.Cond.methodLink "PictureStudioModel" (619 : Nat) ({ cls := "PictureStudioModel", name := "rest", desc := "(III)I" } : Jvm.MethodName)) ∈ ps_W := ps_in12 192 rfl rfl
theorem ps_w12_194 : (Jvm.Cond.instanceMethod ({ cls := "PictureStudioModel", name := "rest", desc := "(III)I" } : Jvm.MethodName)) ∈ ps_W := ps_in12 194 rfl rfl
theorem ps_w12_195 : (Jvm.Cond.code ({ cls := "PictureStudioModel", name := "rest", desc := "(III)I" } : Jvm.MethodName) prog_14_method_155_code (7 : Nat) (Option.some Jvm.ClassFile.FieldType.int)) ∈ ps_W := ps_in12 195 rfl rfl
theorem ps_w12_196 : (Jvm.Cond.methodLink "PictureStudioModel" (610 : Nat) ({ cls := "PictureStudioModel", name := "pixelByte", desc := "(II)I" } : Jvm.MethodName)) ∈ ps_W := ps_in12 196 rfl rfl
theorem ps_w12_198 : (Jvm.Cond.instanceMethod ({ cls := "PictureStudioModel", name := "pixelByte", desc := "(II)I" } : Jvm.MethodName)) ∈ ps_W := ps_in12 198 rfl rfl
theorem ps_w12_199 : (Jvm.Cond.code ({ cls := "PictureStudioModel", name := "pixelByte", desc := "(II)I" } : Jvm.MethodName) prog_14_method_154_code (3 : Nat) (Option.some Jvm.ClassFile.FieldType.int)) ∈ ps_W := ps_in12 199 rfl rfl
theorem ps_w12_200 : (Jvm.Cond.methodLink "PictureStudioModel" (607 : Nat) ({ cls := "PictureStudioModel", name := "byteOf", desc := "(II)I" } : Jvm.MethodName)) ∈ ps_W := ps_in12 200 rfl rfl
theorem ps_w12_201 : (Jvm.Cond.static ({ cls := "PictureStudioModel", name := "byteOf", desc := "(II)I" } : Jvm.MethodName)) ∈ ps_W := ps_in12 201 rfl rfl
theorem ps_w12_202 : (Jvm.Cond.code ({ cls := "PictureStudioModel", name := "byteOf", desc := "(II)I" } : Jvm.MethodName) prog_14_method_153_code (2 : Nat) (Option.some Jvm.ClassFile.FieldType.int)) ∈ ps_W := ps_in12 202 rfl rfl
theorem ps_w12_203 : (Jvm.Cond.methodLink "PictureStudioModel" (613 : Nat) ({ cls := "PictureStudioModel", name := "foretold", desc := "(IIII)I" } : Jvm.MethodName)) ∈ ps_W := ps_in12 203 rfl rfl
theorem ps_w12_204 : (Jvm.Cond.static ({ cls := "PictureStudioModel", name := "foretold", desc := "(IIII)I" } : Jvm.MethodName)) ∈ ps_W := ps_in12 204 rfl rfl
theorem ps_w12_205 : (Jvm.Cond.code ({ cls := "PictureStudioModel", name := "foretold", desc := "(IIII)I" } : Jvm.MethodName) prog_14_method_152_code (8 : Nat) (Option.some Jvm.ClassFile.FieldType.int)) ∈ ps_W := ps_in12 205 rfl rfl
theorem ps_w12_206 : (Jvm.Cond.methodLink "PictureStudioModel" (657 : Nat) ({ cls := "PictureStudioModel", name := "deflate", desc := "()V" } : Jvm.MethodName)) ∈ ps_W := ps_in12 206 rfl rfl
theorem ps_w12_208 : (Jvm.Cond.instanceMethod ({ cls := "PictureStudioModel", name := "deflate", desc := "()V" } : Jvm.MethodName)) ∈ ps_W := ps_in12 208 rfl rfl
theorem ps_w12_209 : (Jvm.Cond.code ({ cls := "PictureStudioModel", name := "deflate", desc := "()V" } : Jvm.MethodName) prog_14_method_161_code (6 : Nat) (Option.none : Option Jvm.ClassFile.FieldType)) ∈ ps_W := ps_in12 209 rfl rfl
theorem ps_w12_210 : (Jvm.Cond.methodLink "PictureStudioModel" (634 : Nat) ({ cls := "PictureStudioModel", name := "outLow", desc := "(II)V" } : Jvm.MethodName)) ∈ ps_W := ps_in12 210 rfl rfl
theorem ps_w12_212 : (Jvm.Cond.instanceMethod ({ cls := "PictureStudioModel", name := "outLow", desc := "(II)V" } : Jvm.MethodName)) ∈ ps_W := ps_in12 212 rfl rfl
theorem ps_w12_213 : (Jvm.Cond.code ({ cls := "PictureStudioModel", name := "outLow", desc := "(II)V" } : Jvm.MethodName) prog_14_method_158_code (4 : Nat) (Option.none : Option Jvm.ClassFile.FieldType)) ∈ ps_W := ps_in12 213 rfl rfl
theorem ps_w12_214 : (Jvm.Cond.methodLink "PictureStudioModel" (628 : Nat) ({ cls := "PictureStudioModel", name := "outBit", desc := "(I)V" } : Jvm.MethodName)) ∈ ps_W := ps_in12 214 rfl rfl
theorem ps_w12_216 : (Jvm.Cond.instanceMethod ({ cls := "PictureStudioModel", name := "outBit", desc := "(I)V" } : Jvm.MethodName)) ∈ ps_W := ps_in12 216 rfl rfl
theorem ps_w12_217 : (Jvm.Cond.code ({ cls := "PictureStudioModel", name := "outBit", desc := "(I)V" } : Jvm.MethodName) prog_14_method_157_code (2 : Nat) (Option.none : Option Jvm.ClassFile.FieldType)) ∈ ps_W := ps_in12 217 rfl rfl
theorem ps_w12_218 : (Jvm.Cond.methodLink "PictureStudioModel" (637 : Nat) ({ cls := "PictureStudioModel", name := "outSymbol", desc := "(I)V" } : Jvm.MethodName)) ∈ ps_W := ps_in12 218 rfl rfl
theorem ps_w12_220 : (Jvm.Cond.instanceMethod ({ cls := "PictureStudioModel", name := "outSymbol", desc := "(I)V" } : Jvm.MethodName)) ∈ ps_W := ps_in12 220 rfl rfl
theorem ps_w12_221 : (Jvm.Cond.code ({ cls := "PictureStudioModel", name := "outSymbol", desc := "(I)V" } : Jvm.MethodName) prog_14_method_160_code (2 : Nat) (Option.none : Option Jvm.ClassFile.FieldType)) ∈ ps_W := ps_in12 221 rfl rfl
theorem ps_w12_222 : (Jvm.Cond.methodLink "PictureStudioModel" (631 : Nat) ({ cls := "PictureStudioModel", name := "outCode", desc := "(II)V" } : Jvm.MethodName)) ∈ ps_W := ps_in12 222 rfl rfl
theorem ps_w12_224 : (Jvm.Cond.instanceMethod ({ cls := "PictureStudioModel", name := "outCode", desc := "(II)V" } : Jvm.MethodName)) ∈ ps_W := ps_in12 224 rfl rfl
theorem ps_w12_225 : (Jvm.Cond.code ({ cls := "PictureStudioModel", name := "outCode", desc := "(II)V" } : Jvm.MethodName) prog_14_method_159_code (4 : Nat) (Option.none : Option Jvm.ClassFile.FieldType)) ∈ ps_W := ps_in12 225 rfl rfl
theorem ps_w12_226 : (Jvm.Cond.methodLink "PictureStudioModel" (660 : Nat) ({ cls := "PictureStudioModel", name := "sumOfRows", desc := "()I" } : Jvm.MethodName)) ∈ ps_W := ps_in12 226 rfl rfl
theorem ps_w12_228 : (Jvm.Cond.instanceMethod ({ cls := "PictureStudioModel", name := "sumOfRows", desc := "()I" } : Jvm.MethodName)) ∈ ps_W := ps_in12 228 rfl rfl
theorem ps_w12_229 : (Jvm.Cond.code ({ cls := "PictureStudioModel", name := "sumOfRows", desc := "()I" } : Jvm.MethodName) prog_14_method_163_code (4 : Nat) (Option.some Jvm.ClassFile.FieldType.int)) ∈ ps_W := ps_in12 229 rfl rfl
theorem ps_w12_230 : (Jvm.Cond.constant "PictureStudioModel" (640 : Nat) (65521 : Int32)) ∈ ps_W := ps_in12 230 rfl rfl
theorem ps_w12_231 : (Jvm.Cond.methodLink "PictureStudioModel" (641 : Nat) ({ cls := "PictureStudioModel", name := "adler", desc := "(II)I" } : Jvm.MethodName)) ∈ ps_W := ps_in12 231 rfl rfl
theorem ps_w12_232 : (Jvm.Cond.static ({ cls := "PictureStudioModel", name := "adler", desc := "(II)I" } : Jvm.MethodName)) ∈ ps_W := ps_in12 232 rfl rfl
theorem ps_w12_233 : (Jvm.Cond.code ({ cls := "PictureStudioModel", name := "adler", desc := "(II)I" } : Jvm.MethodName) prog_14_method_162_code (2 : Nat) (Option.some Jvm.ClassFile.FieldType.int)) ∈ ps_W := ps_in12 233 rfl rfl
theorem ps_w12_234 : (Jvm.Cond.constant "PictureStudioModel" (663 : Nat) (1229278788 : Int32)) ∈ ps_W := ps_in12 234 rfl rfl
theorem ps_w12_235 : (Jvm.Cond.methodLink "PictureStudioLaw" (324 : Nat) ({ cls := "PictureStudioModel", name := "octets", desc := "(I)J" } : Jvm.MethodName)) ∈ ps_W := ps_in12 235 rfl rfl
theorem ps_w12_236 : (Jvm.Cond.instanceMethod ({ cls := "PictureStudioModel", name := "octets", desc := "(I)J" } : Jvm.MethodName)) ∈ ps_W := ps_in12 236 rfl rfl
theorem ps_w12_237 : (Jvm.Cond.selects "PictureStudioModel" ({ cls := "PictureStudioModel", name := "octets", desc := "(I)J" } : Jvm.MethodName) ({ cls := "PictureStudioModel", name := "octets", desc := "(I)J" } : Jvm.MethodName)) ∈ ps_W := ps_in12 237 rfl rfl
theorem ps_w12_238 : (Jvm.Cond.code ({ cls := "PictureStudioModel", name := "octets", desc := "(I)J" } : Jvm.MethodName) prog_14_method_165_code (5 : Nat) (Option.some Jvm.ClassFile.FieldType.long)) ∈ ps_W := ps_in12 238 rfl rfl
theorem ps_w12_239 : (Jvm.Cond.methodLink "PictureStudioLaw" (257 : Nat) ({ cls := "PictureStudioModel", name := "png", desc := "()I" } : Jvm.MethodName)) ∈ ps_W := ps_in12 239 rfl rfl
theorem ps_w13_0 : (Jvm.Cond.instanceMethod ({ cls := "PictureStudioModel", name := "png", desc := "()I" } : Jvm.MethodName)) ∈ ps_W := ps_in13 0 rfl rfl
theorem ps_w13_1 : (Jvm.Cond.selects "PictureStudioModel" ({ cls := "PictureStudioModel", name := "png", desc := "()I" } : Jvm.MethodName) ({ cls := "PictureStudioModel", name := "png", desc := "()I" } : Jvm.MethodName)) ∈ ps_W := ps_in13 1 rfl rfl
theorem ps_w13_2 : (Jvm.Cond.code ({ cls := "PictureStudioModel", name := "png", desc := "()I" } : Jvm.MethodName) prog_14_method_186_code (4 : Nat) (Option.some Jvm.ClassFile.FieldType.int)) ∈ ps_W := ps_in13 2 rfl rfl
theorem ps_w13_3 : (Jvm.Cond.methodLink "PictureStudioModel" (749 : Nat) ({ cls := "PictureStudioModel", name := "readChunks", desc := "()V" } : Jvm.MethodName)) ∈ ps_W := ps_in13 3 rfl rfl
theorem ps_w13_5 : (Jvm.Cond.instanceMethod ({ cls := "PictureStudioModel", name := "readChunks", desc := "()V" } : Jvm.MethodName)) ∈ ps_W := ps_in13 5 rfl rfl
theorem ps_w13_6 : (Jvm.Cond.code ({ cls := "PictureStudioModel", name := "readChunks", desc := "()V" } : Jvm.MethodName) prog_14_method_167_code (7 : Nat) (Option.none : Option Jvm.ClassFile.FieldType)) ∈ ps_W := ps_in13 6 rfl rfl
theorem ps_w13_7 : (Jvm.Cond.methodLink "PictureStudioModel" (664 : Nat) ({ cls := "PictureStudioModel", name := "word", desc := "(I)I" } : Jvm.MethodName)) ∈ ps_W := ps_in13 7 rfl rfl
theorem ps_w13_9 : (Jvm.Cond.instanceMethod ({ cls := "PictureStudioModel", name := "word", desc := "(I)I" } : Jvm.MethodName)) ∈ ps_W := ps_in13 9 rfl rfl
theorem ps_w13_10 : (Jvm.Cond.code ({ cls := "PictureStudioModel", name := "word", desc := "(I)I" } : Jvm.MethodName) prog_14_method_166_code (2 : Nat) (Option.some Jvm.ClassFile.FieldType.int)) ∈ ps_W := ps_in13 10 rfl rfl
theorem ps_w13_11 : (Jvm.Cond.methodLink "PictureStudioModel" (676 : Nat) ({ cls := "PictureStudioModel", name := "header", desc := "(IIIZ)V" } : Jvm.MethodName)) ∈ ps_W := ps_in13 11 rfl rfl
theorem ps_w13_13 : (Jvm.Cond.instanceMethod ({ cls := "PictureStudioModel", name := "header", desc := "(IIIZ)V" } : Jvm.MethodName)) ∈ ps_W := ps_in13 13 rfl rfl
theorem ps_w13_14 : (Jvm.Cond.code ({ cls := "PictureStudioModel", name := "header", desc := "(IIIZ)V" } : Jvm.MethodName) prog_14_method_168_code (6 : Nat) (Option.none : Option Jvm.ClassFile.FieldType)) ∈ ps_W := ps_in13 14 rfl rfl
theorem ps_w13_15 : (Jvm.Cond.constant "PictureStudioModel" (679 : Nat) (1347179589 : Int32)) ∈ ps_W := ps_in13 15 rfl rfl
theorem ps_w13_16 : (Jvm.Cond.methodLink "PictureStudioModel" (680 : Nat) ({ cls := "PictureStudioModel", name := "readColours", desc := "(II)V" } : Jvm.MethodName)) ∈ ps_W := ps_in13 16 rfl rfl
theorem ps_w13_18 : (Jvm.Cond.instanceMethod ({ cls := "PictureStudioModel", name := "readColours", desc := "(II)V" } : Jvm.MethodName)) ∈ ps_W := ps_in13 18 rfl rfl
theorem ps_w13_19 : (Jvm.Cond.code ({ cls := "PictureStudioModel", name := "readColours", desc := "(II)V" } : Jvm.MethodName) prog_14_method_169_code (4 : Nat) (Option.none : Option Jvm.ClassFile.FieldType)) ∈ ps_W := ps_in13 19 rfl rfl
theorem ps_w13_20 : (Jvm.Cond.constant "PictureStudioModel" (683 : Nat) (1951551059 : Int32)) ∈ ps_W := ps_in13 20 rfl rfl
theorem ps_w13_21 : (Jvm.Cond.methodLink "PictureStudioModel" (684 : Nat) ({ cls := "PictureStudioModel", name := "readClear", desc := "(II)V" } : Jvm.MethodName)) ∈ ps_W := ps_in13 21 rfl rfl
theorem ps_w13_23 : (Jvm.Cond.instanceMethod ({ cls := "PictureStudioModel", name := "readClear", desc := "(II)V" } : Jvm.MethodName)) ∈ ps_W := ps_in13 23 rfl rfl
theorem ps_w13_24 : (Jvm.Cond.code ({ cls := "PictureStudioModel", name := "readClear", desc := "(II)V" } : Jvm.MethodName) prog_14_method_170_code (4 : Nat) (Option.none : Option Jvm.ClassFile.FieldType)) ∈ ps_W := ps_in13 24 rfl rfl
theorem ps_w13_25 : (Jvm.Cond.methodLink "PictureStudioModel" (687 : Nat) ({ cls := "PictureStudioModel", name := "readPacked", desc := "(II)V" } : Jvm.MethodName)) ∈ ps_W := ps_in13 25 rfl rfl
theorem ps_w13_27 : (Jvm.Cond.instanceMethod ({ cls := "PictureStudioModel", name := "readPacked", desc := "(II)V" } : Jvm.MethodName)) ∈ ps_W := ps_in13 27 rfl rfl
theorem ps_w13_28 : (Jvm.Cond.code ({ cls := "PictureStudioModel", name := "readPacked", desc := "(II)V" } : Jvm.MethodName) prog_14_method_171_code (4 : Nat) (Option.none : Option Jvm.ClassFile.FieldType)) ∈ ps_W := ps_in13 28 rfl rfl
theorem ps_w13_29 : (Jvm.Cond.methodLink "PictureStudioModel" (752 : Nat) ({ cls := "PictureStudioModel", name := "readRows", desc := "()V" } : Jvm.MethodName)) ∈ ps_W := ps_in13 29 rfl rfl
theorem ps_w13_31 : (Jvm.Cond.instanceMethod ({ cls := "PictureStudioModel", name := "readRows", desc := "()V" } : Jvm.MethodName)) ∈ ps_W := ps_in13 31 rfl rfl
theorem ps_w13_32 : (Jvm.Cond.code ({ cls := "PictureStudioModel", name := "readRows", desc := "()V" } : Jvm.MethodName) prog_14_method_185_code (3 : Nat) (Option.none : Option Jvm.ClassFile.FieldType)) ∈ ps_W := ps_in13 32 rfl rfl
theorem ps_w13_33 : (Jvm.Cond.methodLink "PictureStudioModel" (743 : Nat) ({ cls := "PictureStudioModel", name := "inflate", desc := "()V" } : Jvm.MethodName)) ∈ ps_W := ps_in13 33 rfl rfl
theorem ps_w13_35 : (Jvm.Cond.instanceMethod ({ cls := "PictureStudioModel", name := "inflate", desc := "()V" } : Jvm.MethodName)) ∈ ps_W := ps_in13 35 rfl rfl
theorem ps_w13_36 : (Jvm.Cond.code ({ cls := "PictureStudioModel", name := "inflate", desc := "()V" } : Jvm.MethodName) prog_14_method_181_code (4 : Nat) (Option.none : Option Jvm.ClassFile.FieldType)) ∈ ps_W := ps_in13 36 rfl rfl
theorem ps_w13_37 : (Jvm.Cond.methodLink "PictureStudioModel" (706 : Nat) ({ cls := "PictureStudioModel", name := "bit", desc := "()I" } : Jvm.MethodName)) ∈ ps_W := ps_in13 37 rfl rfl
theorem ps_w13_39 : (Jvm.Cond.instanceMethod ({ cls := "PictureStudioModel", name := "bit", desc := "()I" } : Jvm.MethodName)) ∈ ps_W := ps_in13 39 rfl rfl
theorem ps_w13_40 : (Jvm.Cond.code ({ cls := "PictureStudioModel", name := "bit", desc := "()I" } : Jvm.MethodName) prog_14_method_172_code (2 : Nat) (Option.some Jvm.ClassFile.FieldType.int)) ∈ ps_W := ps_in13 40 rfl rfl
theorem ps_w13_41 : (Jvm.Cond.methodLink "PictureStudioModel" (712 : Nat) ({ cls := "PictureStudioModel", name := "low", desc := "(I)I" } : Jvm.MethodName)) ∈ ps_W := ps_in13 41 rfl rfl
theorem ps_w13_43 : (Jvm.Cond.instanceMethod ({ cls := "PictureStudioModel", name := "low", desc := "(I)I" } : Jvm.MethodName)) ∈ ps_W := ps_in13 43 rfl rfl
theorem ps_w13_44 : (Jvm.Cond.code ({ cls := "PictureStudioModel", name := "low", desc := "(I)I" } : Jvm.MethodName) prog_14_method_173_code (4 : Nat) (Option.some Jvm.ClassFile.FieldType.int)) ∈ ps_W := ps_in13 44 rfl rfl
theorem ps_w13_45 : (Jvm.Cond.methodLink "PictureStudioModel" (725 : Nat) ({ cls := "PictureStudioModel", name := "stored", desc := "()V" } : Jvm.MethodName)) ∈ ps_W := ps_in13 45 rfl rfl
theorem ps_w13_47 : (Jvm.Cond.instanceMethod ({ cls := "PictureStudioModel", name := "stored", desc := "()V" } : Jvm.MethodName)) ∈ ps_W := ps_in13 47 rfl rfl
theorem ps_w13_48 : (Jvm.Cond.code ({ cls := "PictureStudioModel", name := "stored", desc := "()V" } : Jvm.MethodName) prog_14_method_177_code (4 : Nat) (Option.none : Option Jvm.ClassFile.FieldType)) ∈ ps_W := ps_in13 48 rfl rfl
theorem ps_w13_49 : (Jvm.Cond.constant "PictureStudioModel" (715 : Nat) (65535 : Int32)) ∈ ps_W := ps_in13 49 rfl rfl
theorem ps_w13_50 : (Jvm.Cond.methodLink "PictureStudioModel" (716 : Nat) ({ cls := "PictureStudioModel", name := "putRow", desc := "(I)V" } : Jvm.MethodName)) ∈ ps_W := ps_in13 50 rfl rfl
theorem ps_w13_52 : (Jvm.Cond.instanceMethod ({ cls := "PictureStudioModel", name := "putRow", desc := "(I)V" } : Jvm.MethodName)) ∈ ps_W := ps_in13 52 rfl rfl
theorem ps_w13_53 : (Jvm.Cond.code ({ cls := "PictureStudioModel", name := "putRow", desc := "(I)V" } : Jvm.MethodName) prog_14_method_174_code (2 : Nat) (Option.none : Option Jvm.ClassFile.FieldType)) ∈ ps_W := ps_in13 53 rfl rfl
theorem ps_w13_54 : (Jvm.Cond.methodLink "PictureStudioModel" (728 : Nat) ({ cls := "PictureStudioModel", name := "fixedCodes", desc := "()V" } : Jvm.MethodName)) ∈ ps_W := ps_in13 54 rfl rfl
theorem ps_w13_56 : (Jvm.Cond.instanceMethod ({ cls := "PictureStudioModel", name := "fixedCodes", desc := "()V" } : Jvm.MethodName)) ∈ ps_W := ps_in13 56 rfl rfl
theorem ps_w13_57 : (Jvm.Cond.code ({ cls := "PictureStudioModel", name := "fixedCodes", desc := "()V" } : Jvm.MethodName) prog_14_method_178_code (2 : Nat) (Option.none : Option Jvm.ClassFile.FieldType)) ∈ ps_W := ps_in13 57 rfl rfl
theorem ps_w13_58 : (Jvm.Cond.methodLink "PictureStudioModel" (719 : Nat) ({ cls := "PictureStudioModel", name := "makeCodes", desc := "(III)V" } : Jvm.MethodName)) ∈ ps_W := ps_in13 58 rfl rfl
theorem ps_w13_60 : (Jvm.Cond.instanceMethod ({ cls := "PictureStudioModel", name := "makeCodes", desc := "(III)V" } : Jvm.MethodName)) ∈ ps_W := ps_in13 60 rfl rfl
theorem ps_w13_61 : (Jvm.Cond.code ({ cls := "PictureStudioModel", name := "makeCodes", desc := "(III)V" } : Jvm.MethodName) prog_14_method_175_code (10 : Nat) (Option.none : Option Jvm.ClassFile.FieldType)) ∈ ps_W := ps_in13 61 rfl rfl
theorem ps_w13_62 : (Jvm.Cond.methodLink "PictureStudioModel" (731 : Nat) ({ cls := "PictureStudioModel", name := "ownCodes", desc := "()V" } : Jvm.MethodName)) ∈ ps_W := ps_in13 62 rfl rfl
theorem ps_w13_64 : (Jvm.Cond.instanceMethod ({ cls := "PictureStudioModel", name := "ownCodes", desc := "()V" } : Jvm.MethodName)) ∈ ps_W := ps_in13 64 rfl rfl
theorem ps_w13_65 : (Jvm.Cond.code ({ cls := "PictureStudioModel", name := "ownCodes", desc := "()V" } : Jvm.MethodName) prog_14_method_179_code (10 : Nat) (Option.none : Option Jvm.ClassFile.FieldType)) ∈ ps_W := ps_in13 65 rfl rfl
theorem ps_w13_66 : (Jvm.Cond.methodLink "PictureStudioModel" (722 : Nat) ({ cls := "PictureStudioModel", name := "decoded", desc := "(I)I" } : Jvm.MethodName)) ∈ ps_W := ps_in13 66 rfl rfl
theorem ps_w13_68 : (Jvm.Cond.instanceMethod ({ cls := "PictureStudioModel", name := "decoded", desc := "(I)I" } : Jvm.MethodName)) ∈ ps_W := ps_in13 68 rfl rfl
theorem ps_w13_69 : (Jvm.Cond.code ({ cls := "PictureStudioModel", name := "decoded", desc := "(I)I" } : Jvm.MethodName) prog_14_method_176_code (7 : Nat) (Option.some Jvm.ClassFile.FieldType.int)) ∈ ps_W := ps_in13 69 rfl rfl
theorem ps_w13_70 : (Jvm.Cond.methodLink "PictureStudioModel" (734 : Nat) ({ cls := "PictureStudioModel", name := "letters", desc := "()V" } : Jvm.MethodName)) ∈ ps_W := ps_in13 70 rfl rfl
theorem ps_w13_72 : (Jvm.Cond.instanceMethod ({ cls := "PictureStudioModel", name := "letters", desc := "()V" } : Jvm.MethodName)) ∈ ps_W := ps_in13 72 rfl rfl
theorem ps_w13_73 : (Jvm.Cond.code ({ cls := "PictureStudioModel", name := "letters", desc := "()V" } : Jvm.MethodName) prog_14_method_180_code (6 : Nat) (Option.none : Option Jvm.ClassFile.FieldType)) ∈ ps_W := ps_in13 73 rfl rfl
theorem ps_w13_74 : (Jvm.Cond.methodLink "PictureStudioModel" (746 : Nat) ({ cls := "PictureStudioModel", name := "refill", desc := "()V" } : Jvm.MethodName)) ∈ ps_W := ps_in13 74 rfl rfl
theorem ps_w13_76 : (Jvm.Cond.instanceMethod ({ cls := "PictureStudioModel", name := "refill", desc := "()V" } : Jvm.MethodName)) ∈ ps_W := ps_in13 76 rfl rfl
theorem ps_w13_77 : (Jvm.Cond.code ({ cls := "PictureStudioModel", name := "refill", desc := "()V" } : Jvm.MethodName) prog_14_method_183_code (6 : Nat) (Option.none : Option Jvm.ClassFile.FieldType)) ∈ ps_W := ps_in13 77 rfl rfl
theorem ps_w13_78 : (Jvm.Cond.methodLink "PictureStudioModel" (740 : Nat) ({ cls := "PictureStudioModel", name := "rowByte", desc := "(II)I" } : Jvm.MethodName)) ∈ ps_W := ps_in13 78 rfl rfl
theorem ps_w13_80 : (Jvm.Cond.instanceMethod ({ cls := "PictureStudioModel", name := "rowByte", desc := "(II)I" } : Jvm.MethodName)) ∈ ps_W := ps_in13 80 rfl rfl
theorem ps_w13_81 : (Jvm.Cond.code ({ cls := "PictureStudioModel", name := "rowByte", desc := "(II)I" } : Jvm.MethodName) prog_14_method_182_code (3 : Nat) (Option.some Jvm.ClassFile.FieldType.int)) ∈ ps_W := ps_in13 81 rfl rfl
theorem ps_w13_82 : (Jvm.Cond.methodLink "PictureStudioModel" (755 : Nat) ({ cls := "PictureStudioModel", name := "pngPixel", desc := "(II)I" } : Jvm.MethodName)) ∈ ps_W := ps_in13 82 rfl rfl
theorem ps_w13_84 : (Jvm.Cond.instanceMethod ({ cls := "PictureStudioModel", name := "pngPixel", desc := "(II)I" } : Jvm.MethodName)) ∈ ps_W := ps_in13 84 rfl rfl
theorem ps_w13_85 : (Jvm.Cond.code ({ cls := "PictureStudioModel", name := "pngPixel", desc := "(II)I" } : Jvm.MethodName) prog_14_method_184_code (5 : Nat) (Option.some Jvm.ClassFile.FieldType.int)) ∈ ps_W := ps_in13 85 rfl rfl
theorem ps_w13_86 : (Jvm.Cond.sameMethod "java/lang/Throwable" "java/lang/Throwable" "fillInStackTrace" "(I)Ljava/lang/Throwable;") ∈ ps_W := ps_in13 86 rfl rfl
theorem ps_wA_int : Cond.arrayClass .int ∈ ps_W := ps_w1_67
theorem ps_wA_long : Cond.arrayClass .long ∈ ps_W := ps_w2_101
theorem ps_wA_boolean : Cond.arrayClass .boolean ∈ ps_W := ps_w1_148
