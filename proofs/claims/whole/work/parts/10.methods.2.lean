theorem ps_n1_75 : (Jvm.Cond.fieldLinkNest "PictureStudio$Looks" (31 : Nat) "PictureStudio" "NONE" "[I" "PictureStudio") ∈ ps_N := List.mem_filter.mpr ⟨by unfold tables_1; exact List.mem_append_left _ (List.mem_of_getElem? (i := 75) rfl), rfl⟩
theorem ps_n1_177 : (Jvm.Cond.methodLinkNest "PictureStudio" (50 : Nat) ({ cls := "PictureStudio$Brush", name := "<init>", desc := "()V" } : Jvm.MethodName) "PictureStudio") ∈ ps_N := List.mem_filter.mpr ⟨by unfold tables_1; exact List.mem_append_left _ (List.mem_of_getElem? (i := 177) rfl), rfl⟩
theorem ps_n2_104 : (Jvm.Cond.methodLinkNest "PictureStudio" (71 : Nat) ({ cls := "PictureStudio$PngMaker", name := "<init>", desc := "()V" } : Jvm.MethodName) "PictureStudio") ∈ ps_N := List.mem_filter.mpr ⟨by unfold tables_1; exact List.mem_append_right _ (List.mem_append_left _ (List.mem_of_getElem? (i := 104) rfl)), rfl⟩
theorem ps_n2_130 : (Jvm.Cond.methodLinkNest "PictureStudio" (78 : Nat) ({ cls := "PictureStudio$PngReader", name := "<init>", desc := "()V" } : Jvm.MethodName) "PictureStudio") ∈ ps_N := List.mem_filter.mpr ⟨by unfold tables_1; exact List.mem_append_right _ (List.mem_append_left _ (List.mem_of_getElem? (i := 130) rfl)), rfl⟩
theorem ps_n2_134 : (Jvm.Cond.fieldLinkNest "PictureStudio$PngReader" (9 : Nat) "PictureStudio" "NONE" "[I" "PictureStudio") ∈ ps_N := List.mem_filter.mpr ⟨by unfold tables_1; exact List.mem_append_right _ (List.mem_append_left _ (List.mem_of_getElem? (i := 134) rfl)), rfl⟩
theorem ps_n2_137 : (Jvm.Cond.methodLinkNest "PictureStudio$PngReader" (26 : Nat) ({ cls := "PictureStudio$Inflater", name := "<init>", desc := "()V" } : Jvm.MethodName) "PictureStudio") ∈ ps_N := List.mem_filter.mpr ⟨by unfold tables_1; exact List.mem_append_right _ (List.mem_append_left _ (List.mem_of_getElem? (i := 137) rfl)), rfl⟩
theorem ps_n3_80 : (Jvm.Cond.methodLinkNest "PictureStudio$Looks" (43 : Nat) ({ cls := "PictureStudio", name := "within", desc := "(III)I" } : Jvm.MethodName) "PictureStudio") ∈ ps_N := List.mem_filter.mpr ⟨by unfold tables_1; exact List.mem_append_right _ (List.mem_append_right _ (List.mem_append_left _ (List.mem_of_getElem? (i := 80) rfl))), rfl⟩
theorem ps_n3_91 : (Jvm.Cond.methodLinkNest "PictureStudio$Looks" (98 : Nat) ({ cls := "PictureStudio", name := "mean", desc := "(IIIII)I" } : Jvm.MethodName) "PictureStudio") ∈ ps_N := List.mem_filter.mpr ⟨by unfold tables_1; exact List.mem_append_right _ (List.mem_append_right _ (List.mem_append_left _ (List.mem_of_getElem? (i := 91) rfl))), rfl⟩
theorem ps_n3_98 : (Jvm.Cond.methodLinkNest "PictureStudio$Looks" (103 : Nat) ({ cls := "PictureStudio", name := "clip", desc := "(I)I" } : Jvm.MethodName) "PictureStudio") ∈ ps_N := List.mem_filter.mpr ⟨by unfold tables_1; exact List.mem_append_right _ (List.mem_append_right _ (List.mem_append_left _ (List.mem_of_getElem? (i := 98) rfl))), rfl⟩
theorem ps_n3_109 : (Jvm.Cond.methodLinkNest "PictureStudio$Looks" (106 : Nat) ({ cls := "PictureStudio", name := "luma", desc := "(I)I" } : Jvm.MethodName) "PictureStudio") ∈ ps_N := List.mem_filter.mpr ⟨by unfold tables_1; exact List.mem_append_right _ (List.mem_append_right _ (List.mem_append_left _ (List.mem_of_getElem? (i := 109) rfl))), rfl⟩
theorem ps_n3_118 : (Jvm.Cond.methodLinkNest "PictureStudio$Looks" (61 : Nat) ({ cls := "PictureStudio", name := "pack", desc := "(IIII)I" } : Jvm.MethodName) "PictureStudio") ∈ ps_N := List.mem_filter.mpr ⟨by unfold tables_1; exact List.mem_append_right _ (List.mem_append_right _ (List.mem_append_left _ (List.mem_of_getElem? (i := 118) rfl))), rfl⟩
theorem ps_n3_125 : (Jvm.Cond.methodLinkNest "PictureStudio$Looks" (47 : Nat) ({ cls := "PictureStudio", name := "red", desc := "(I)I" } : Jvm.MethodName) "PictureStudio") ∈ ps_N := List.mem_filter.mpr ⟨by unfold tables_1; exact List.mem_append_right _ (List.mem_append_right _ (List.mem_append_left _ (List.mem_of_getElem? (i := 125) rfl))), rfl⟩
theorem ps_n3_128 : (Jvm.Cond.methodLinkNest "PictureStudio$Looks" (55 : Nat) ({ cls := "PictureStudio", name := "green", desc := "(I)I" } : Jvm.MethodName) "PictureStudio") ∈ ps_N := List.mem_filter.mpr ⟨by unfold tables_1; exact List.mem_append_right _ (List.mem_append_right _ (List.mem_append_left _ (List.mem_of_getElem? (i := 128) rfl))), rfl⟩
theorem ps_n3_131 : (Jvm.Cond.methodLinkNest "PictureStudio$Looks" (58 : Nat) ({ cls := "PictureStudio", name := "blue", desc := "(I)I" } : Jvm.MethodName) "PictureStudio") ∈ ps_N := List.mem_filter.mpr ⟨by unfold tables_1; exact List.mem_append_right _ (List.mem_append_right _ (List.mem_append_left _ (List.mem_of_getElem? (i := 131) rfl))), rfl⟩
theorem ps_n3_172 : (Jvm.Cond.methodLinkNest "PictureStudio$Viewer" (137 : Nat) ({ cls := "PictureStudio", name := "mul", desc := "(II)I" } : Jvm.MethodName) "PictureStudio") ∈ ps_N := List.mem_filter.mpr ⟨by unfold tables_1; exact List.mem_append_right _ (List.mem_append_right _ (List.mem_append_left _ (List.mem_of_getElem? (i := 172) rfl))), rfl⟩
theorem ps_n3_175 : (Jvm.Cond.methodLinkNest "PictureStudio$Viewer" (140 : Nat) ({ cls := "PictureStudio", name := "mixColours", desc := "(III)I" } : Jvm.MethodName) "PictureStudio") ∈ ps_N := List.mem_filter.mpr ⟨by unfold tables_1; exact List.mem_append_right _ (List.mem_append_right _ (List.mem_append_left _ (List.mem_of_getElem? (i := 175) rfl))), rfl⟩
theorem ps_n3_197 : (Jvm.Cond.methodLinkNest "PictureStudio$Layer" (89 : Nat) ({ cls := "PictureStudio", name := "clip", desc := "(I)I" } : Jvm.MethodName) "PictureStudio") ∈ ps_N := List.mem_filter.mpr ⟨by unfold tables_1; exact List.mem_append_right _ (List.mem_append_right _ (List.mem_append_left _ (List.mem_of_getElem? (i := 197) rfl))), rfl⟩
theorem ps_n3_198 : (Jvm.Cond.methodLinkNest "PictureStudio$Layer" (92 : Nat) ({ cls := "PictureStudio", name := "mixColours", desc := "(III)I" } : Jvm.MethodName) "PictureStudio") ∈ ps_N := List.mem_filter.mpr ⟨by unfold tables_1; exact List.mem_append_right _ (List.mem_append_right _ (List.mem_append_left _ (List.mem_of_getElem? (i := 198) rfl))), rfl⟩
theorem ps_n3_199 : (Jvm.Cond.methodLinkNest "PictureStudio$Viewer" (162 : Nat) ({ cls := "PictureStudio", name := "blend", desc := "(IIII)I" } : Jvm.MethodName) "PictureStudio") ∈ ps_N := List.mem_filter.mpr ⟨by unfold tables_1; exact List.mem_append_right _ (List.mem_append_right _ (List.mem_append_left _ (List.mem_of_getElem? (i := 199) rfl))), rfl⟩
theorem ps_n3_239 : (Jvm.Cond.castable "java/lang/IndexOutOfBoundsException" "java/lang/IndexOutOfBoundsException") ∈ ps_N := List.mem_filter.mpr ⟨by unfold tables_1; exact List.mem_append_right _ (List.mem_append_right _ (List.mem_append_left _ (List.mem_of_getElem? (i := 239) rfl))), rfl⟩
theorem ps_n4_84 : (Jvm.Cond.castable "java/lang/IllegalArgumentException" "java/lang/IllegalArgumentException") ∈ ps_N := List.mem_filter.mpr ⟨by unfold tables_1; exact List.mem_append_right _ (List.mem_append_right _ (List.mem_append_right _ (List.mem_append_left _ (List.mem_of_getElem? (i := 84) rfl)))), rfl⟩
theorem ps_n4_109 : (Jvm.Cond.methodLinkNest "PictureStudio$Area" (34 : Nat) ({ cls := "PictureStudio", name := "within", desc := "(III)I" } : Jvm.MethodName) "PictureStudio") ∈ ps_N := List.mem_filter.mpr ⟨by unfold tables_1; exact List.mem_append_right _ (List.mem_append_right _ (List.mem_append_right _ (List.mem_append_left _ (List.mem_of_getElem? (i := 109) rfl)))), rfl⟩
theorem ps_n4_132 : (Jvm.Cond.castable "java/util/NoSuchElementException" "java/util/NoSuchElementException") ∈ ps_N := List.mem_filter.mpr ⟨by unfold tables_1; exact List.mem_append_right _ (List.mem_append_right _ (List.mem_append_right _ (List.mem_append_left _ (List.mem_of_getElem? (i := 132) rfl)))), rfl⟩
theorem ps_n4_162 : (Jvm.Cond.fieldLinkNest "PictureStudio$Layer" (19 : Nat) "PictureStudio" "NONE" "[I" "PictureStudio") ∈ ps_N := List.mem_filter.mpr ⟨by unfold tables_1; exact List.mem_append_right _ (List.mem_append_right _ (List.mem_append_right _ (List.mem_append_left _ (List.mem_of_getElem? (i := 162) rfl)))), rfl⟩
theorem ps_n5_75 : (Jvm.Cond.castable "java/lang/IllegalStateException" "java/lang/IllegalStateException") ∈ ps_N := List.mem_filter.mpr ⟨by unfold tables_1; exact List.mem_append_right _ (List.mem_append_right _ (List.mem_append_right _ (List.mem_append_right _ (List.mem_append_left _ (List.mem_of_getElem? (i := 75) rfl))))), rfl⟩
theorem ps_n5_169 : (Jvm.Cond.methodLinkNest "PictureStudio$Layer" (75 : Nat) ({ cls := "PictureStudio", name := "red", desc := "(I)I" } : Jvm.MethodName) "PictureStudio") ∈ ps_N := List.mem_filter.mpr ⟨by unfold tables_1; exact List.mem_append_right _ (List.mem_append_right _ (List.mem_append_right _ (List.mem_append_right _ (List.mem_append_left _ (List.mem_of_getElem? (i := 169) rfl))))), rfl⟩
theorem ps_n5_170 : (Jvm.Cond.methodLinkNest "PictureStudio$Layer" (79 : Nat) ({ cls := "PictureStudio", name := "green", desc := "(I)I" } : Jvm.MethodName) "PictureStudio") ∈ ps_N := List.mem_filter.mpr ⟨by unfold tables_1; exact List.mem_append_right _ (List.mem_append_right _ (List.mem_append_right _ (List.mem_append_right _ (List.mem_append_left _ (List.mem_of_getElem? (i := 170) rfl))))), rfl⟩
theorem ps_n5_171 : (Jvm.Cond.methodLinkNest "PictureStudio$Layer" (82 : Nat) ({ cls := "PictureStudio", name := "blue", desc := "(I)I" } : Jvm.MethodName) "PictureStudio") ∈ ps_N := List.mem_filter.mpr ⟨by unfold tables_1; exact List.mem_append_right _ (List.mem_append_right _ (List.mem_append_right _ (List.mem_append_right _ (List.mem_append_left _ (List.mem_of_getElem? (i := 171) rfl))))), rfl⟩
theorem ps_n5_172 : (Jvm.Cond.methodLinkNest "PictureStudio$Layer" (85 : Nat) ({ cls := "PictureStudio", name := "mean", desc := "(IIIII)I" } : Jvm.MethodName) "PictureStudio") ∈ ps_N := List.mem_filter.mpr ⟨by unfold tables_1; exact List.mem_append_right _ (List.mem_append_right _ (List.mem_append_right _ (List.mem_append_right _ (List.mem_append_left _ (List.mem_of_getElem? (i := 172) rfl))))), rfl⟩
theorem ps_n5_189 : (Jvm.Cond.castable "[I" "java/lang/Cloneable") ∈ ps_N := List.mem_filter.mpr ⟨by unfold tables_1; exact List.mem_append_right _ (List.mem_append_right _ (List.mem_append_right _ (List.mem_append_right _ (List.mem_append_left _ (List.mem_of_getElem? (i := 189) rfl))))), rfl⟩
theorem ps_n6_7 : (Jvm.Cond.methodLinkNest "PictureStudio$Brush" (47 : Nat) ({ cls := "PictureStudio", name := "within", desc := "(III)I" } : Jvm.MethodName) "PictureStudio") ∈ ps_N := List.mem_filter.mpr ⟨by unfold tables_1; exact List.mem_append_right _ (List.mem_append_right _ (List.mem_append_right _ (List.mem_append_right _ (List.mem_append_right _ (List.mem_append_left _ (List.mem_of_getElem? (i := 7) rfl)))))), rfl⟩
theorem ps_n6_13 : (Jvm.Cond.methodLinkNest "PictureStudio$Brush" (80 : Nat) ({ cls := "PictureStudio", name := "mul", desc := "(II)I" } : Jvm.MethodName) "PictureStudio") ∈ ps_N := List.mem_filter.mpr ⟨by unfold tables_1; exact List.mem_append_right _ (List.mem_append_right _ (List.mem_append_right _ (List.mem_append_right _ (List.mem_append_right _ (List.mem_append_left _ (List.mem_of_getElem? (i := 13) rfl)))))), rfl⟩
theorem ps_n6_16 : (Jvm.Cond.methodLinkNest "PictureStudio$Brush" (71 : Nat) ({ cls := "PictureStudio", name := "root", desc := "(I)I" } : Jvm.MethodName) "PictureStudio") ∈ ps_N := List.mem_filter.mpr ⟨by unfold tables_1; exact List.mem_append_right _ (List.mem_append_right _ (List.mem_append_right _ (List.mem_append_right _ (List.mem_append_right _ (List.mem_append_left _ (List.mem_of_getElem? (i := 16) rfl)))))), rfl⟩
theorem ps_n6_45 : (Jvm.Cond.methodLinkNest "PictureStudio$Paths" (68 : Nat) ({ cls := "PictureStudio", name := "within", desc := "(III)I" } : Jvm.MethodName) "PictureStudio") ∈ ps_N := List.mem_filter.mpr ⟨by unfold tables_1; exact List.mem_append_right _ (List.mem_append_right _ (List.mem_append_right _ (List.mem_append_right _ (List.mem_append_right _ (List.mem_append_left _ (List.mem_of_getElem? (i := 45) rfl)))))), rfl⟩
theorem ps_n6_102 : (Jvm.Cond.methodLinkNest "PictureStudio$Lab" (56 : Nat) ({ cls := "PictureStudio", name := "red", desc := "(I)I" } : Jvm.MethodName) "PictureStudio") ∈ ps_N := List.mem_filter.mpr ⟨by unfold tables_1; exact List.mem_append_right _ (List.mem_append_right _ (List.mem_append_right _ (List.mem_append_right _ (List.mem_append_right _ (List.mem_append_left _ (List.mem_of_getElem? (i := 102) rfl)))))), rfl⟩
theorem ps_n6_103 : (Jvm.Cond.methodLinkNest "PictureStudio$Lab" (60 : Nat) ({ cls := "PictureStudio", name := "green", desc := "(I)I" } : Jvm.MethodName) "PictureStudio") ∈ ps_N := List.mem_filter.mpr ⟨by unfold tables_1; exact List.mem_append_right _ (List.mem_append_right _ (List.mem_append_right _ (List.mem_append_right _ (List.mem_append_right _ (List.mem_append_left _ (List.mem_of_getElem? (i := 103) rfl)))))), rfl⟩
theorem ps_n6_104 : (Jvm.Cond.methodLinkNest "PictureStudio$Lab" (63 : Nat) ({ cls := "PictureStudio", name := "blue", desc := "(I)I" } : Jvm.MethodName) "PictureStudio") ∈ ps_N := List.mem_filter.mpr ⟨by unfold tables_1; exact List.mem_append_right _ (List.mem_append_right _ (List.mem_append_right _ (List.mem_append_right _ (List.mem_append_right _ (List.mem_append_left _ (List.mem_of_getElem? (i := 104) rfl)))))), rfl⟩
theorem ps_n6_157 : (Jvm.Cond.methodLinkNest "PictureStudio$Lab" (112 : Nat) ({ cls := "PictureStudio", name := "pack", desc := "(IIII)I" } : Jvm.MethodName) "PictureStudio") ∈ ps_N := List.mem_filter.mpr ⟨by unfold tables_1; exact List.mem_append_right _ (List.mem_append_right _ (List.mem_append_right _ (List.mem_append_right _ (List.mem_append_right _ (List.mem_append_left _ (List.mem_of_getElem? (i := 157) rfl)))))), rfl⟩
theorem ps_n6_163 : (Jvm.Cond.methodLinkNest "PictureStudio$Lab" (133 : Nat) ({ cls := "PictureStudio", name := "clip", desc := "(I)I" } : Jvm.MethodName) "PictureStudio") ∈ ps_N := List.mem_filter.mpr ⟨by unfold tables_1; exact List.mem_append_right _ (List.mem_append_right _ (List.mem_append_right _ (List.mem_append_right _ (List.mem_append_right _ (List.mem_append_left _ (List.mem_of_getElem? (i := 163) rfl)))))), rfl⟩
theorem ps_n6_187 : (Jvm.Cond.castable "java/lang/UnsupportedOperationException" "java/lang/UnsupportedOperationException") ∈ ps_N := List.mem_filter.mpr ⟨by unfold tables_1; exact List.mem_append_right _ (List.mem_append_right _ (List.mem_append_right _ (List.mem_append_right _ (List.mem_append_right _ (List.mem_append_left _ (List.mem_of_getElem? (i := 187) rfl)))))), rfl⟩
theorem ps_n6_208 : (Jvm.Cond.methodLinkNest "PictureStudio$Lab" (148 : Nat) ({ cls := "PictureStudio", name := "within", desc := "(III)I" } : Jvm.MethodName) "PictureStudio") ∈ ps_N := List.mem_filter.mpr ⟨by unfold tables_1; exact List.mem_append_right _ (List.mem_append_right _ (List.mem_append_right _ (List.mem_append_right _ (List.mem_append_right _ (List.mem_append_left _ (List.mem_of_getElem? (i := 208) rfl)))))), rfl⟩
theorem ps_n6_237 : (Jvm.Cond.fieldLinkNest "PictureStudio$PngReader" (70 : Nat) "PictureStudio" "SIGNATURE" "[I" "PictureStudio") ∈ ps_N := List.mem_filter.mpr ⟨by unfold tables_1; exact List.mem_append_right _ (List.mem_append_right _ (List.mem_append_right _ (List.mem_append_right _ (List.mem_append_right _ (List.mem_append_left _ (List.mem_of_getElem? (i := 237) rfl)))))), rfl⟩
theorem ps_n7_15 : (Jvm.Cond.methodLinkNest "PictureStudio$PngReader" (107 : Nat) ({ cls := "PictureStudio", name := "crc", desc := "([III)I" } : Jvm.MethodName) "PictureStudio") ∈ ps_N := List.mem_filter.mpr ⟨by unfold tables_1; exact List.mem_append_right _ (List.mem_append_right _ (List.mem_append_right _ (List.mem_append_right _ (List.mem_append_right _ (List.mem_append_right _ (List.mem_append_left _ (List.mem_of_getElem? (i := 15) rfl))))))), rfl⟩
theorem ps_n7_33 : (Jvm.Cond.methodLinkNest "PictureStudio$PngReader" (128 : Nat) ({ cls := "PictureStudio", name := "pack", desc := "(IIII)I" } : Jvm.MethodName) "PictureStudio") ∈ ps_N := List.mem_filter.mpr ⟨by unfold tables_1; exact List.mem_append_right _ (List.mem_append_right _ (List.mem_append_right _ (List.mem_append_right _ (List.mem_append_right _ (List.mem_append_right _ (List.mem_append_left _ (List.mem_of_getElem? (i := 33) rfl))))))), rfl⟩
theorem ps_n7_93 : (Jvm.Cond.fieldLinkNest "PictureStudio$Inflater" (115 : Nat) "PictureStudio" "LENGTH_BASE" "[I" "PictureStudio") ∈ ps_N := List.mem_filter.mpr ⟨by unfold tables_1; exact List.mem_append_right _ (List.mem_append_right _ (List.mem_append_right _ (List.mem_append_right _ (List.mem_append_right _ (List.mem_append_right _ (List.mem_append_left _ (List.mem_of_getElem? (i := 93) rfl))))))), rfl⟩
theorem ps_n7_95 : (Jvm.Cond.fieldLinkNest "PictureStudio$Inflater" (118 : Nat) "PictureStudio" "LENGTH_EXTRA" "[I" "PictureStudio") ∈ ps_N := List.mem_filter.mpr ⟨by unfold tables_1; exact List.mem_append_right _ (List.mem_append_right _ (List.mem_append_right _ (List.mem_append_right _ (List.mem_append_right _ (List.mem_append_right _ (List.mem_append_left _ (List.mem_of_getElem? (i := 95) rfl))))))), rfl⟩
theorem ps_n7_97 : (Jvm.Cond.fieldLinkNest "PictureStudio$Inflater" (121 : Nat) "PictureStudio" "DISTANCE_BASE" "[I" "PictureStudio") ∈ ps_N := List.mem_filter.mpr ⟨by unfold tables_1; exact List.mem_append_right _ (List.mem_append_right _ (List.mem_append_right _ (List.mem_append_right _ (List.mem_append_right _ (List.mem_append_right _ (List.mem_append_left _ (List.mem_of_getElem? (i := 97) rfl))))))), rfl⟩
theorem ps_n7_99 : (Jvm.Cond.fieldLinkNest "PictureStudio$Inflater" (124 : Nat) "PictureStudio" "DISTANCE_EXTRA" "[I" "PictureStudio") ∈ ps_N := List.mem_filter.mpr ⟨by unfold tables_1; exact List.mem_append_right _ (List.mem_append_right _ (List.mem_append_right _ (List.mem_append_right _ (List.mem_append_right _ (List.mem_append_right _ (List.mem_append_left _ (List.mem_of_getElem? (i := 99) rfl))))))), rfl⟩
theorem ps_n7_109 : (Jvm.Cond.fieldLinkNest "PictureStudio$Inflater" (98 : Nat) "PictureStudio" "LENGTH_ORDER" "[I" "PictureStudio") ∈ ps_N := List.mem_filter.mpr ⟨by unfold tables_1; exact List.mem_append_right _ (List.mem_append_right _ (List.mem_append_right _ (List.mem_append_right _ (List.mem_append_right _ (List.mem_append_right _ (List.mem_append_left _ (List.mem_of_getElem? (i := 109) rfl))))))), rfl⟩
theorem ps_n7_118 : (Jvm.Cond.methodLinkNest "PictureStudio$Inflater" (79 : Nat) ({ cls := "PictureStudio", name := "adler", desc := "([II)I" } : Jvm.MethodName) "PictureStudio") ∈ ps_N := List.mem_filter.mpr ⟨by unfold tables_1; exact List.mem_append_right _ (List.mem_append_right _ (List.mem_append_right _ (List.mem_append_right _ (List.mem_append_right _ (List.mem_append_right _ (List.mem_append_left _ (List.mem_of_getElem? (i := 118) rfl))))))), rfl⟩
theorem ps_n7_128 : (Jvm.Cond.methodLinkNest "PictureStudio$PngReader" (135 : Nat) ({ cls := "PictureStudio", name := "foretold", desc := "(IIII)I" } : Jvm.MethodName) "PictureStudio") ∈ ps_N := List.mem_filter.mpr ⟨by unfold tables_1; exact List.mem_append_right _ (List.mem_append_right _ (List.mem_append_right _ (List.mem_append_right _ (List.mem_append_right _ (List.mem_append_right _ (List.mem_append_left _ (List.mem_of_getElem? (i := 128) rfl))))))), rfl⟩
theorem ps_n8_95 : (Jvm.Cond.methodLinkNest "PictureStudio$Viewer" (47 : Nat) ({ cls := "PictureStudio", name := "within", desc := "(III)I" } : Jvm.MethodName) "PictureStudio") ∈ ps_N := List.mem_filter.mpr ⟨by unfold tables_1; exact List.mem_append_right _ (List.mem_append_right _ (List.mem_append_right _ (List.mem_append_right _ (List.mem_append_right _ (List.mem_append_right _ (List.mem_append_right _ (List.mem_append_left _ (List.mem_of_getElem? (i := 95) rfl)))))))), rfl⟩
theorem ps_n8_117 : (Jvm.Cond.methodLinkNest "PictureStudio$Viewer" (165 : Nat) ({ cls := "PictureStudio", name := "red", desc := "(I)I" } : Jvm.MethodName) "PictureStudio") ∈ ps_N := List.mem_filter.mpr ⟨by unfold tables_1; exact List.mem_append_right _ (List.mem_append_right _ (List.mem_append_right _ (List.mem_append_right _ (List.mem_append_right _ (List.mem_append_right _ (List.mem_append_right _ (List.mem_append_left _ (List.mem_of_getElem? (i := 117) rfl)))))))), rfl⟩
theorem ps_n8_118 : (Jvm.Cond.methodLinkNest "PictureStudio$Viewer" (168 : Nat) ({ cls := "PictureStudio", name := "green", desc := "(I)I" } : Jvm.MethodName) "PictureStudio") ∈ ps_N := List.mem_filter.mpr ⟨by unfold tables_1; exact List.mem_append_right _ (List.mem_append_right _ (List.mem_append_right _ (List.mem_append_right _ (List.mem_append_right _ (List.mem_append_right _ (List.mem_append_right _ (List.mem_append_left _ (List.mem_of_getElem? (i := 118) rfl)))))))), rfl⟩
theorem ps_n8_119 : (Jvm.Cond.methodLinkNest "PictureStudio$Viewer" (171 : Nat) ({ cls := "PictureStudio", name := "blue", desc := "(I)I" } : Jvm.MethodName) "PictureStudio") ∈ ps_N := List.mem_filter.mpr ⟨by unfold tables_1; exact List.mem_append_right _ (List.mem_append_right _ (List.mem_append_right _ (List.mem_append_right _ (List.mem_append_right _ (List.mem_append_right _ (List.mem_append_right _ (List.mem_append_left _ (List.mem_of_getElem? (i := 119) rfl)))))))), rfl⟩
theorem ps_n8_120 : (Jvm.Cond.methodLinkNest "PictureStudio$Viewer" (174 : Nat) ({ cls := "PictureStudio", name := "mean", desc := "(IIIII)I" } : Jvm.MethodName) "PictureStudio") ∈ ps_N := List.mem_filter.mpr ⟨by unfold tables_1; exact List.mem_append_right _ (List.mem_append_right _ (List.mem_append_right _ (List.mem_append_right _ (List.mem_append_right _ (List.mem_append_right _ (List.mem_append_right _ (List.mem_append_left _ (List.mem_of_getElem? (i := 120) rfl)))))))), rfl⟩
theorem ps_n8_161 : (Jvm.Cond.fieldLinkNest "PictureStudio$PngMaker" (22 : Nat) "PictureStudio" "SIGNATURE" "[I" "PictureStudio") ∈ ps_N := List.mem_filter.mpr ⟨by unfold tables_1; exact List.mem_append_right _ (List.mem_append_right _ (List.mem_append_right _ (List.mem_append_right _ (List.mem_append_right _ (List.mem_append_right _ (List.mem_append_right _ (List.mem_append_left _ (List.mem_of_getElem? (i := 161) rfl)))))))), rfl⟩
theorem ps_n8_179 : (Jvm.Cond.methodLinkNest "PictureStudio$PngMaker" (56 : Nat) ({ cls := "PictureStudio", name := "crc", desc := "([III)I" } : Jvm.MethodName) "PictureStudio") ∈ ps_N := List.mem_filter.mpr ⟨by unfold tables_1; exact List.mem_append_right _ (List.mem_append_right _ (List.mem_append_right _ (List.mem_append_right _ (List.mem_append_right _ (List.mem_append_right _ (List.mem_append_right _ (List.mem_append_left _ (List.mem_of_getElem? (i := 179) rfl)))))))), rfl⟩
theorem ps_n8_192 : (Jvm.Cond.methodLinkNest "PictureStudio$PngMaker" (64 : Nat) ({ cls := "PictureStudio", name := "foretold", desc := "(IIII)I" } : Jvm.MethodName) "PictureStudio") ∈ ps_N := List.mem_filter.mpr ⟨by unfold tables_1; exact List.mem_append_right _ (List.mem_append_right _ (List.mem_append_right _ (List.mem_append_right _ (List.mem_append_right _ (List.mem_append_right _ (List.mem_append_right _ (List.mem_append_left _ (List.mem_of_getElem? (i := 192) rfl)))))))), rfl⟩
theorem ps_n8_217 : (Jvm.Cond.fieldLinkNest "PictureStudio$PngMaker" (99 : Nat) "PictureStudio" "LENGTH_BASE" "[I" "PictureStudio") ∈ ps_N := List.mem_filter.mpr ⟨by unfold tables_1; exact List.mem_append_right _ (List.mem_append_right _ (List.mem_append_right _ (List.mem_append_right _ (List.mem_append_right _ (List.mem_append_right _ (List.mem_append_right _ (List.mem_append_left _ (List.mem_of_getElem? (i := 217) rfl)))))))), rfl⟩
theorem ps_n8_226 : (Jvm.Cond.fieldLinkNest "PictureStudio$PngMaker" (102 : Nat) "PictureStudio" "LENGTH_EXTRA" "[I" "PictureStudio") ∈ ps_N := List.mem_filter.mpr ⟨by unfold tables_1; exact List.mem_append_right _ (List.mem_append_right _ (List.mem_append_right _ (List.mem_append_right _ (List.mem_append_right _ (List.mem_append_right _ (List.mem_append_right _ (List.mem_append_left _ (List.mem_of_getElem? (i := 226) rfl)))))))), rfl⟩
theorem ps_n8_227 : (Jvm.Cond.fieldLinkNest "PictureStudio$PngMaker" (105 : Nat) "PictureStudio" "DISTANCE_BASE" "[I" "PictureStudio") ∈ ps_N := List.mem_filter.mpr ⟨by unfold tables_1; exact List.mem_append_right _ (List.mem_append_right _ (List.mem_append_right _ (List.mem_append_right _ (List.mem_append_right _ (List.mem_append_right _ (List.mem_append_right _ (List.mem_append_left _ (List.mem_of_getElem? (i := 227) rfl)))))))), rfl⟩
theorem ps_n8_228 : (Jvm.Cond.fieldLinkNest "PictureStudio$PngMaker" (111 : Nat) "PictureStudio" "DISTANCE_EXTRA" "[I" "PictureStudio") ∈ ps_N := List.mem_filter.mpr ⟨by unfold tables_1; exact List.mem_append_right _ (List.mem_append_right _ (List.mem_append_right _ (List.mem_append_right _ (List.mem_append_right _ (List.mem_append_right _ (List.mem_append_right _ (List.mem_append_left _ (List.mem_of_getElem? (i := 228) rfl)))))))), rfl⟩
theorem ps_n8_229 : (Jvm.Cond.methodLinkNest "PictureStudio$PngMaker" (51 : Nat) ({ cls := "PictureStudio", name := "adler", desc := "([II)I" } : Jvm.MethodName) "PictureStudio") ∈ ps_N := List.mem_filter.mpr ⟨by unfold tables_1; exact List.mem_append_right _ (List.mem_append_right _ (List.mem_append_right _ (List.mem_append_right _ (List.mem_append_right _ (List.mem_append_right _ (List.mem_append_right _ (List.mem_append_left _ (List.mem_of_getElem? (i := 229) rfl)))))))), rfl⟩
theorem kc_RX11_1 : Cond.methodLink RX11 1 Lib.objectInit ∈ ps_W ∧ Cond.instanceMethod Lib.objectInit ∈ ps_W ∧ Cond.code Lib.objectInit ⟨#[0xb1]⟩ 1 none ∈ ps_W := ⟨ps_w1_30, ps_w1_31, ps_w1_32⟩
theorem kf_RX11_12 : ps_Lf RX11 12 11 0 := ⟨_, _, _, rfl, by decide, Or.inl ps_w2_224⟩
theorem kq_11_0 {a b : String} : ps_Lq a b 11 0 := fun C T N h => by cases h; exact Or.inl rfl
theorem kf_RX11_18 : ps_Lf RX11 18 11 1 := ⟨_, _, _, rfl, by decide, Or.inl ps_w2_225⟩
theorem kq_11_1_i : ps_Lq "<init>" RX11 11 1 := fun C T N h => by cases h; exact Or.inr ⟨rfl, rfl, rfl⟩
theorem kf_RX11_22 : ps_Lf RX11 22 11 3 := ⟨_, _, _, rfl, by decide, Or.inl ps_w2_227⟩
theorem kq_11_3_i : ps_Lq "<init>" RX11 11 3 := fun C T N h => by cases h; exact Or.inr ⟨rfl, rfl, rfl⟩
theorem kf_RX11_28 : ps_Lf RX11 28 11 5 := ⟨_, _, _, rfl, by decide, Or.inl ps_w2_229⟩
theorem kq_11_5_i : ps_Lq "<init>" RX11 11 5 := fun C T N h => by cases h; exact Or.inr ⟨rfl, rfl, rfl⟩
theorem kf_RX11_37 : ps_Lf RX11 37 11 6 := ⟨_, _, _, rfl, by decide, Or.inl ps_w2_230⟩
theorem kq_11_6_i : ps_Lq "<init>" RX11 11 6 := fun C T N h => by cases h; exact Or.inr ⟨rfl, rfl, rfl⟩
theorem kf_RX11_44 : ps_Lf RX11 44 11 7 := ⟨_, _, _, rfl, by decide, Or.inl ps_w2_231⟩
theorem kq_11_7_i : ps_Lq "<init>" RX11 11 7 := fun C T N h => by cases h; exact Or.inr ⟨rfl, rfl, rfl⟩
theorem kf_RX11_51 : ps_Lf RX11 51 11 8 := ⟨_, _, _, rfl, by decide, Or.inl ps_w2_232⟩
theorem kq_11_8_i : ps_Lq "<init>" RX11 11 8 := fun C T N h => by cases h; exact Or.inr ⟨rfl, rfl, rfl⟩
theorem kf_RX11_58 : ps_Lf RX11 58 11 9 := ⟨_, _, _, rfl, by decide, Or.inl ps_w2_233⟩
theorem kq_11_9_i : ps_Lq "<init>" RX11 11 9 := fun C T N h => by cases h; exact Or.inr ⟨rfl, rfl, rfl⟩
theorem kf_RX11_65 : ps_Lf RX11 65 11 10 := ⟨_, _, _, rfl, by decide, Or.inl ps_w2_234⟩
theorem kq_11_10_i : ps_Lq "<init>" RX11 11 10 := fun C T N h => by cases h; exact Or.inr ⟨rfl, rfl, rfl⟩
theorem kf_RX11_72 : ps_Lf RX11 72 11 11 := ⟨_, _, _, rfl, by decide, Or.inl ps_w2_235⟩
theorem kq_11_11_i : ps_Lq "<init>" RX11 11 11 := fun C T N h => by cases h; exact Or.inr ⟨rfl, rfl, rfl⟩
theorem kf_RX11_79 : ps_Lf RX11 79 11 12 := ⟨_, _, _, rfl, by decide, Or.inl ps_w2_236⟩
theorem kq_11_12_i : ps_Lq "<init>" RX11 11 12 := fun C T N h => by cases h; exact Or.inr ⟨rfl, rfl, rfl⟩
theorem kf_RX11_83 : ps_Lf RX11 83 11 13 := ⟨_, _, _, rfl, by decide, Or.inl ps_w2_237⟩
theorem kq_11_13_i : ps_Lq "<init>" RX11 11 13 := fun C T N h => by cases h; exact Or.inr ⟨rfl, rfl, rfl⟩
theorem kf_RX11_87 : ps_Lf RX11 87 11 17 := ⟨_, _, _, rfl, by decide, Or.inl ps_w3_1⟩
theorem kq_11_17_i : ps_Lq "<init>" RX11 11 17 := fun C T N h => by cases h; exact Or.inr ⟨rfl, rfl, rfl⟩
theorem kf_RX11_109 : ps_Lf RX11 109 11 15 := ⟨_, _, _, rfl, by decide, Or.inl ps_w2_239⟩
theorem kf_RX11_112 : ps_Lf RX11 112 11 16 := ⟨_, _, _, rfl, by decide, Or.inl ps_w3_0⟩
theorem kf_RX11_352 : ps_Lf RX11 352 1 0 := ⟨_, _, _, rfl, by decide, Or.inl ps_w1_183⟩
theorem kq_1_0 {a b : String} : ps_Lq a b 1 0 := fun C T N h => by cases h; exact Or.inl rfl
theorem kf_RX11_153 : ps_Lf RX11 153 9 0 := ⟨_, _, _, rfl, by decide, Or.inl ps_w1_42⟩
theorem kf_RX11_156 : ps_Lf RX11 156 9 1 := ⟨_, _, _, rfl, by decide, Or.inl ps_w1_45⟩
theorem kf_RX11_591 : ps_Lf RX11 591 9 4 := ⟨_, _, _, rfl, by decide, Or.inl ps_w1_51⟩
theorem kf_RX11_171 : ps_Lf RX11 171 11 2 := ⟨_, _, _, rfl, by decide, Or.inl ps_w2_226⟩
theorem kf_RX11_174 : ps_Lf RX11 174 11 4 := ⟨_, _, _, rfl, by decide, Or.inl ps_w2_228⟩
theorem kf_RX11_592 : ps_Lf RX11 592 10 8 := ⟨_, _, _, rfl, by decide, Or.inl ps_w1_128⟩
theorem kf_RX11_365 : ps_Lf RX11 365 1 8 := ⟨_, _, _, rfl, by decide, Or.inl ps_w1_197⟩
theorem kf_RX11_90 : ps_Lf RX11 90 11 14 := ⟨_, _, _, rfl, by decide, Or.inl ps_w2_238⟩
theorem kx_IndexOutOfBoundsException : ps_xc "java/lang/IndexOutOfBoundsException" 94 98 := ⟨by decide +kernel, ps_w3_237, ps_w1_17, List.all_eq_true.mp (by decide +kernel : (vx_atS "PictureStudio" 98 "java/lang/IndexOutOfBoundsException" ps_nm).all (fun w => decide (w ∈ tables_1)) = true) |> fun h w hw => of_decide_eq_true (h w hw), by decide +kernel⟩
theorem kq_11_14 {a b : String} : ps_Lq a b 11 14 := fun C T N h => by cases h; exact Or.inl rfl
theorem kx_IllegalArgumentException : ps_xc "java/lang/IllegalArgumentException" 120 124 := ⟨by decide +kernel, ps_w4_82, ps_w1_18, List.all_eq_true.mp (by decide +kernel : (vx_atS "PictureStudio" 124 "java/lang/IllegalArgumentException" ps_nm).all (fun w => decide (w ∈ tables_1)) = true) |> fun h w hw => of_decide_eq_true (h w hw), by decide +kernel⟩
theorem kq_11_2 {a b : String} : ps_Lq a b 11 2 := fun C T N h => by cases h; exact Or.inl rfl
theorem kq_11_4 {a b : String} : ps_Lq a b 11 4 := fun C T N h => by cases h; exact Or.inl rfl
theorem kf_RX11_161 : ps_Lf RX11 161 9 5 := ⟨_, _, _, rfl, by decide, Or.inl ps_w1_53⟩
theorem kx_NoSuchElementException : ps_xcN "java/util/NoSuchElementException" 129 133 := ⟨by decide +kernel, ps_w4_130, ps_w1_19, List.all_eq_true.mp (by decide +kernel : (ps_atN "PictureStudio" 133 "java/util/NoSuchElementException" ps_nm).all (fun w => decide (w ∈ tables_1)) = true) |> fun h w hw => of_decide_eq_true (h w hw), by decide +kernel⟩
theorem kq_9_5 {a b : String} : ps_Lq a b 9 5 := fun C T N h => by cases h; exact Or.inl rfl
theorem kf_RX11_251 : ps_Lf RX11 251 4 0 := ⟨_, _, _, rfl, by decide, Or.inl ps_w4_166⟩
theorem kf_RX11_260 : ps_Lf RX11 260 4 2 := ⟨_, _, _, rfl, by decide, Or.inl ps_w4_173⟩
theorem kq_4_2 {a b : String} : ps_Lq a b 4 2 := fun C T N h => by cases h; exact Or.inl rfl
theorem kx_IllegalStateException : ps_xc "java/lang/IllegalStateException" 166 170 := ⟨by decide +kernel, ps_w5_73, ps_w1_21, List.all_eq_true.mp (by decide +kernel : (vx_atS "PictureStudio" 170 "java/lang/IllegalStateException" ps_nm).all (fun w => decide (w ∈ tables_1)) = true) |> fun h w hw => of_decide_eq_true (h w hw), by decide +kernel⟩
theorem kf_RX11_271 : ps_Lf RX11 271 4 3 := ⟨_, _, _, rfl, by decide, Or.inl ps_w4_176⟩
theorem kq_4_3 {a b : String} : ps_Lq a b 4 3 := fun C T N h => by cases h; exact Or.inl rfl
theorem kf_RX11_274 : ps_Lf RX11 274 4 4 := ⟨_, _, _, rfl, by decide, Or.inl ps_w4_179⟩
theorem kq_4_4 {a b : String} : ps_Lq a b 4 4 := fun C T N h => by cases h; exact Or.inl rfl
theorem kf_RX11_277 : ps_Lf RX11 277 4 5 := ⟨_, _, _, rfl, by decide, Or.inl ps_w4_182⟩
theorem kq_4_5 {a b : String} : ps_Lq a b 4 5 := fun C T N h => by cases h; exact Or.inl rfl
theorem kf_RX11_281 : ps_Lf RX11 281 4 6 := ⟨_, _, _, rfl, by decide, Or.inl ps_w4_185⟩
theorem kq_4_6 {a b : String} : ps_Lq a b 4 6 := fun C T N h => by cases h; exact Or.inl rfl
theorem kf_RX11_214 : ps_Lf RX11 214 4 7 := ⟨_, _, _, rfl, by decide, Or.inl ps_w4_189⟩
theorem kq_4_7 {a b : String} : ps_Lq a b 4 7 := fun C T N h => by cases h; exact Or.inl rfl
theorem kf_RX11_217 : ps_Lf RX11 217 4 8 := ⟨_, _, _, rfl, by decide, Or.inl ps_w4_193⟩
theorem kq_4_8 {a b : String} : ps_Lq a b 4 8 := fun C T N h => by cases h; exact Or.inl rfl
theorem kf_RX11_284 : ps_Lf RX11 284 4 16 := ⟨_, _, _, rfl, by decide, Or.inl ps_w4_213⟩
theorem kf_RX11_287 : ps_Ls RX11 287 0 := ⟨by decide, Or.inl ps_w5_116⟩
theorem kq_4_16 {a b : String} : ps_Lq a b 4 16 := fun C T N h => by cases h; exact Or.inl rfl
theorem kf_RX11_290 : ps_Lf RX11 290 0 2 := ⟨_, _, _, rfl, by decide, Or.inl ps_w1_161⟩
theorem kf_RX11_137 : ps_Lf RX11 137 4 1 := ⟨_, _, _, rfl, by decide, Or.inl ps_w4_169⟩
theorem kf_RX11_296 : ps_Lf RX11 296 4 9 := ⟨_, _, _, rfl, by decide, Or.inl ps_w4_197⟩
theorem kq_4_9 {a b : String} : ps_Lq a b 4 9 := fun C T N h => by cases h; exact Or.inl rfl
theorem kf_RX11_299 : ps_Lf RX11 299 4 10 := ⟨_, _, _, rfl, by decide, Or.inl ps_w4_201⟩
theorem kq_4_10 {a b : String} : ps_Lq a b 4 10 := fun C T N h => by cases h; exact Or.inl rfl
theorem kf_RX11_308 : ps_Lf RX11 308 4 11 := ⟨_, _, _, rfl, by decide, Or.inl ps_w4_203⟩
theorem kq_4_11 {a b : String} : ps_Lq a b 4 11 := fun C T N h => by cases h; exact Or.inl rfl
theorem kf_RX11_311 : ps_Lf RX11 311 4 12 := ⟨_, _, _, rfl, by decide, Or.inl ps_w4_205⟩
theorem kq_4_12 {a b : String} : ps_Lq a b 4 12 := fun C T N h => by cases h; exact Or.inl rfl
theorem kf_RX11_314 : ps_Lf RX11 314 4 13 := ⟨_, _, _, rfl, by decide, Or.inl ps_w4_207⟩
theorem kq_4_13 {a b : String} : ps_Lq a b 4 13 := fun C T N h => by cases h; exact Or.inl rfl
theorem kf_RX11_317 : ps_Lf RX11 317 4 14 := ⟨_, _, _, rfl, by decide, Or.inl ps_w4_209⟩
theorem kq_4_14 {a b : String} : ps_Lq a b 4 14 := fun C T N h => by cases h; exact Or.inl rfl
theorem kf_RX11_142 : ps_Lf RX11 142 4 15 := ⟨_, _, _, rfl, by decide, Or.inl ps_w4_211⟩
theorem kq_4_15 {a b : String} : ps_Lq a b 4 15 := fun C T N h => by cases h; exact Or.inl rfl
theorem kf_RX11_375 : ps_Lf RX11 375 1 12 := ⟨_, _, _, rfl, by decide, Or.inl ps_w1_202⟩
theorem kf_RX11_378 : ps_Lf RX11 378 1 5 := ⟨_, _, _, rfl, by decide, Or.inl ps_w1_193⟩
theorem kf_RX11_382 : ps_Lf RX11 382 1 6 := ⟨_, _, _, rfl, by decide, Or.inl ps_w1_194⟩
theorem kf_RX11_385 : ps_Lf RX11 385 1 7 := ⟨_, _, _, rfl, by decide, Or.inl ps_w1_195⟩
theorem kq_1_8 {a b : String} : ps_Lq a b 1 8 := fun C T N h => by cases h; exact Or.inl rfl
theorem kc_RX11_392 : ps_Lz RX11 392 := ⟨ps_w6_39, ps_w5_185, ps_w5_186, ps_w5_187, ps_w5_188, ps_n5_189⟩
theorem kf_RX11_407 : ps_Lf RX11 407 6 14 := ⟨_, _, _, rfl, by decide, Or.inl ps_w2_21⟩
theorem kf_RX11_411 : ps_Lf RX11 411 6 4 := ⟨_, _, _, rfl, by decide, Or.inl ps_w2_9⟩
theorem kf_RX11_414 : ps_Lf RX11 414 6 5 := ⟨_, _, _, rfl, by decide, Or.inl ps_w2_11⟩
theorem kq_11_15 {a b : String} : ps_Lq a b 11 15 := fun C T N h => by cases h; exact Or.inl rfl
theorem kq_11_16 {a b : String} : ps_Lq a b 11 16 := fun C T N h => by cases h; exact Or.inl rfl
theorem kx_UnsupportedOperationException : ps_xc "java/lang/UnsupportedOperationException" 115 119 := ⟨by decide +kernel, ps_w6_185, ps_w1_23, List.all_eq_true.mp (by decide +kernel : (vx_atS "PictureStudio" 119 "java/lang/UnsupportedOperationException" ps_nm).all (fun w => decide (w ∈ tables_1)) = true) |> fun h w hw => of_decide_eq_true (h w hw), by decide +kernel⟩
theorem kf_RX11_451 : ps_Lf RX11 451 8 0 := ⟨_, _, _, rfl, by decide, Or.inl ps_w2_183⟩
theorem kf_RX11_452 : ps_Lf RX11 452 8 1 := ⟨_, _, _, rfl, by decide, Or.inl ps_w2_185⟩
theorem kf_RX11_508 : ps_Lf RX11 508 1 1 := ⟨_, _, _, rfl, by decide, Or.inl ps_w1_185⟩
theorem kq_1_1 {a b : String} : ps_Lq a b 1 1 := fun C T N h => by cases h; exact Or.inl rfl
theorem kf_RX11_511 : ps_Lf RX11 511 1 2 := ⟨_, _, _, rfl, by decide, Or.inl ps_w1_187⟩
theorem kq_1_2 {a b : String} : ps_Lq a b 1 2 := fun C T N h => by cases h; exact Or.inl rfl
theorem kf_RX11_514 : ps_Lf RX11 514 1 3 := ⟨_, _, _, rfl, by decide, Or.inl ps_w1_189⟩
theorem kq_1_3 {a b : String} : ps_Lq a b 1 3 := fun C T N h => by cases h; exact Or.inl rfl
theorem kf_RX11_517 : ps_Lf RX11 517 1 4 := ⟨_, _, _, rfl, by decide, Or.inl ps_w1_191⟩
theorem kq_1_4 {a b : String} : ps_Lq a b 1 4 := fun C T N h => by cases h; exact Or.inl rfl
theorem kq_1_5 {a b : String} : ps_Lq a b 1 5 := fun C T N h => by cases h; exact Or.inl rfl
theorem kq_1_6 {a b : String} : ps_Lq a b 1 6 := fun C T N h => by cases h; exact Or.inl rfl
theorem kq_1_7 {a b : String} : ps_Lq a b 1 7 := fun C T N h => by cases h; exact Or.inl rfl
theorem kf_RX11_533 : ps_Lf RX11 533 5 4 := ⟨_, _, _, rfl, by decide, Or.inl ps_w1_83⟩
theorem kq_5_4 {a b : String} : ps_Lq a b 5 4 := fun C T N h => by cases h; exact Or.inl rfl
theorem kf_RX11_536 : ps_Lf RX11 536 5 5 := ⟨_, _, _, rfl, by decide, Or.inl ps_w1_85⟩
theorem kq_5_5 {a b : String} : ps_Lq a b 5 5 := fun C T N h => by cases h; exact Or.inl rfl
theorem kf_RX11_539 : ps_Lf RX11 539 5 3 := ⟨_, _, _, rfl, by decide, Or.inl ps_w1_81⟩
theorem kf_RX11_542 : ps_Lf RX11 542 3 0 := ⟨_, _, _, rfl, by decide, Or.inl ps_w2_60⟩
theorem kf_RX11_545 : ps_Lf RX11 545 3 1 := ⟨_, _, _, rfl, by decide, Or.inl ps_w2_62⟩
theorem kf_RX11_548 : ps_Lf RX11 548 6 0 := ⟨_, _, _, rfl, by decide, Or.inl ps_w2_4⟩
theorem kf_RX11_585 : ps_Lf RX11 585 7 1 := ⟨_, _, _, rfl, by decide, Or.inl ps_w2_110⟩
theorem kc_RX9_3 : Cond.methodLink RX9 3 Lib.objectInit ∈ ps_W ∧ Cond.instanceMethod Lib.objectInit ∈ ps_W ∧ Cond.code Lib.objectInit ⟨#[0xb1]⟩ 1 none ∈ ps_W := ⟨ps_w1_38, ps_w1_31, ps_w1_32⟩
theorem kf_RX9_11 : ps_Lf RX9 11 9 2 := ⟨_, _, _, rfl, by decide, Or.inl ps_w1_47⟩
theorem kq_9_2_i : ps_Lq "<init>" RX9 9 2 := fun C T N h => by cases h; exact Or.inr ⟨rfl, rfl, rfl⟩
theorem kf_RX9_17 : ps_Lf RX9 17 9 3 := ⟨_, _, _, rfl, by decide, Or.inl ps_w1_48⟩
theorem kq_9_3_i : ps_Lq "<init>" RX9 9 3 := fun C T N h => by cases h; exact Or.inr ⟨rfl, rfl, rfl⟩
theorem kf_RX9_21 : ps_Lf RX9 21 9 0 := ⟨_, _, _, rfl, by decide, Or.inl ps_w1_41⟩
theorem kq_9_0_i : ps_Lq "<init>" RX9 9 0 := fun C T N h => by cases h; exact Or.inr ⟨rfl, rfl, rfl⟩
theorem kf_RX9_25 : ps_Lf RX9 25 9 1 := ⟨_, _, _, rfl, by decide, Or.inl ps_w1_44⟩
theorem kq_9_1_i : ps_Lq "<init>" RX9 9 1 := fun C T N h => by cases h; exact Or.inr ⟨rfl, rfl, rfl⟩
theorem kf_RX9_31 : ps_Lf RX9 31 9 4 := ⟨_, _, _, rfl, by decide, Or.inl ps_w1_49⟩
theorem kf_RX9_41 : ps_Lf RX9 41 4 2 := ⟨_, _, _, rfl, by decide, Or.inl ps_w4_172⟩
theorem kf_RX9_44 : ps_Lf RX9 44 4 1 := ⟨_, _, _, rfl, by decide, Or.inl ps_w4_168⟩
theorem kf_RX9_66 : ps_Lf RX9 66 4 9 := ⟨_, _, _, rfl, by decide, Or.inl ps_w4_196⟩
theorem kf_RX9_69 : ps_Lf RX9 69 4 10 := ⟨_, _, _, rfl, by decide, Or.inl ps_w4_200⟩
theorem kq_9_4 {a b : String} : ps_Lq a b 9 4 := fun C T N h => by cases h; exact Or.inl rfl
theorem kf_RX9_34 : ps_Lf RX9 34 9 5 := ⟨_, _, _, rfl, by decide, Or.inl ps_w1_52⟩
theorem kf_RX9_51 : ps_Lf RX9 51 4 0 := ⟨_, _, _, rfl, by decide, Or.inl ps_w4_164⟩
theorem kc_RX5_3 : Cond.methodLink RX5 3 Lib.objectInit ∈ ps_W ∧ Cond.instanceMethod Lib.objectInit ∈ ps_W ∧ Cond.code Lib.objectInit ⟨#[0xb1]⟩ 1 none ∈ ps_W := ⟨ps_w1_74, ps_w1_31, ps_w1_32⟩
theorem kf_RX5_11 : ps_Lf RX5 11 5 0 := ⟨_, _, _, rfl, by decide, Or.inl ps_w1_77⟩
theorem kq_5_0_i : ps_Lq "<init>" RX5 5 0 := fun C T N h => by cases h; exact Or.inr ⟨rfl, rfl, rfl⟩
theorem kf_RX5_15 : ps_Lf RX5 15 5 1 := ⟨_, _, _, rfl, by decide, Or.inl ps_w1_78⟩
theorem kq_5_1_i : ps_Lq "<init>" RX5 5 1 := fun C T N h => by cases h; exact Or.inr ⟨rfl, rfl, rfl⟩
theorem kf_RX5_18 : ps_Lf RX5 18 5 2 := ⟨_, _, _, rfl, by decide, Or.inl ps_w1_79⟩
theorem kq_5_2_i : ps_Lq "<init>" RX5 5 2 := fun C T N h => by cases h; exact Or.inr ⟨rfl, rfl, rfl⟩
theorem kf_RX5_21 : ps_Lf RX5 21 5 3 := ⟨_, _, _, rfl, by decide, Or.inl ps_w1_80⟩
theorem kq_5_3_i : ps_Lq "<init>" RX5 5 3 := fun C T N h => by cases h; exact Or.inr ⟨rfl, rfl, rfl⟩
theorem kf_RX5_24 : ps_Lf RX5 24 5 4 := ⟨_, _, _, rfl, by decide, Or.inl ps_w1_82⟩
theorem kf_RX5_28 : ps_Lf RX5 28 5 6 := ⟨_, _, _, rfl, by decide, Or.inl ps_w1_86⟩
theorem kq_5_6_i : ps_Lq "<init>" RX5 5 6 := fun C T N h => by cases h; exact Or.inr ⟨rfl, rfl, rfl⟩
theorem kf_RX5_31 : ps_Ls RX5 31 0 := ⟨by decide, Or.inr ⟨_, ps_n1_75⟩⟩
theorem kf_RX5_34 : ps_Lf RX5 34 5 7 := ⟨_, _, _, rfl, by decide, Or.inl ps_w1_87⟩
theorem kq_5_7 {a b : String} : ps_Lq a b 5 7 := fun C T N h => by cases h; exact Or.inl rfl
theorem kf_RX5_37 : ps_Lf RX5 37 5 8 := ⟨_, _, _, rfl, by decide, Or.inl ps_w1_88⟩
theorem kq_5_8 {a b : String} : ps_Lq a b 5 8 := fun C T N h => by cases h; exact Or.inl rfl
theorem kf_RX5_40 : ps_Lf RX5 40 5 9 := ⟨_, _, _, rfl, by decide, Or.inl ps_w1_89⟩
theorem kq_5_9 {a b : String} : ps_Lq a b 5 9 := fun C T N h => by cases h; exact Or.inl rfl
theorem kf_RX5_117 : ps_Lf RX5 117 5 5 := ⟨_, _, _, rfl, by decide, Or.inl ps_w1_84⟩
theorem kc_RX10_3 : Cond.methodLink RX10 3 Lib.objectInit ∈ ps_W ∧ Cond.instanceMethod Lib.objectInit ∈ ps_W ∧ Cond.code Lib.objectInit ⟨#[0xb1]⟩ 1 none ∈ ps_W := ⟨ps_w1_116, ps_w1_31, ps_w1_32⟩
theorem kf_RX10_13 : ps_Lf RX10 13 10 1 := ⟨_, _, _, rfl, by decide, Or.inl ps_w1_120⟩
theorem kq_10_1_i : ps_Lq "<init>" RX10 10 1 := fun C T N h => by cases h; exact Or.inr ⟨rfl, rfl, rfl⟩
theorem kf_RX10_16 : ps_Lf RX10 16 10 2 := ⟨_, _, _, rfl, by decide, Or.inl ps_w1_121⟩
theorem kq_10_2_i : ps_Lq "<init>" RX10 10 2 := fun C T N h => by cases h; exact Or.inr ⟨rfl, rfl, rfl⟩
theorem kf_RX10_19 : ps_Lf RX10 19 10 3 := ⟨_, _, _, rfl, by decide, Or.inl ps_w1_122⟩
theorem kq_10_3_i : ps_Lq "<init>" RX10 10 3 := fun C T N h => by cases h; exact Or.inr ⟨rfl, rfl, rfl⟩
theorem kf_RX10_23 : ps_Lf RX10 23 10 4 := ⟨_, _, _, rfl, by decide, Or.inl ps_w1_123⟩
theorem kq_10_4_i : ps_Lq "<init>" RX10 10 4 := fun C T N h => by cases h; exact Or.inr ⟨rfl, rfl, rfl⟩
theorem kf_RX10_26 : ps_Lf RX10 26 10 6 := ⟨_, _, _, rfl, by decide, Or.inl ps_w1_125⟩
theorem kq_10_6_i : ps_Lq "<init>" RX10 10 6 := fun C T N h => by cases h; exact Or.inr ⟨rfl, rfl, rfl⟩
theorem kf_RX10_29 : ps_Lf RX10 29 10 7 := ⟨_, _, _, rfl, by decide, Or.inl ps_w1_126⟩
theorem kq_10_7_i : ps_Lq "<init>" RX10 10 7 := fun C T N h => by cases h; exact Or.inr ⟨rfl, rfl, rfl⟩
theorem kf_RX10_33 : ps_Lf RX10 33 10 0 := ⟨_, _, _, rfl, by decide, Or.inl ps_w1_119⟩
theorem kq_10_0_i : ps_Lq "<init>" RX10 10 0 := fun C T N h => by cases h; exact Or.inr ⟨rfl, rfl, rfl⟩
theorem kf_RX10_37 : ps_Lf RX10 37 10 5 := ⟨_, _, _, rfl, by decide, Or.inl ps_w1_124⟩
theorem kc_RX10_68 : ps_Ly RX10 68 := ⟨ps_w3_211, ps_w3_213, ps_w3_212, ps_w1_24⟩
theorem kq_10_5 {a b : String} : ps_Lq a b 10 5 := fun C T N h => by cases h; exact Or.inl rfl
theorem kf_RX10_83 : ps_Lf RX10 83 9 4 := ⟨_, _, _, rfl, by decide, Or.inl ps_w1_50⟩
theorem kf_RX10_92 : ps_Lf RX10 92 4 1 := ⟨_, _, _, rfl, by decide, Or.inl ps_w4_170⟩
theorem kf_RX10_97 : ps_Lf RX10 97 4 6 := ⟨_, _, _, rfl, by decide, Or.inl ps_w4_184⟩
theorem kf_RX10_100 : ps_Lf RX10 100 4 5 := ⟨_, _, _, rfl, by decide, Or.inl ps_w4_181⟩
theorem kf_RX10_109 : ps_Lf RX10 109 9 0 := ⟨_, _, _, rfl, by decide, Or.inl ps_w1_43⟩
theorem kf_RX10_112 : ps_Lf RX10 112 9 1 := ⟨_, _, _, rfl, by decide, Or.inl ps_w1_46⟩
theorem kf_RX10_115 : ps_Lf RX10 115 4 9 := ⟨_, _, _, rfl, by decide, Or.inl ps_w4_195⟩
theorem kf_RX10_118 : ps_Lf RX10 118 4 10 := ⟨_, _, _, rfl, by decide, Or.inl ps_w4_199⟩
theorem kf_RX10_130 : ps_Lf RX10 130 4 3 := ⟨_, _, _, rfl, by decide, Or.inl ps_w4_175⟩
theorem kf_RX10_143 : ps_Lf RX10 143 4 0 := ⟨_, _, _, rfl, by decide, Or.inl ps_w4_165⟩
theorem kf_RX10_146 : ps_Lf RX10 146 4 7 := ⟨_, _, _, rfl, by decide, Or.inl ps_w4_188⟩
theorem kf_RX10_149 : ps_Lf RX10 149 4 8 := ⟨_, _, _, rfl, by decide, Or.inl ps_w4_192⟩
theorem kf_RX10_159 : ps_Lf RX10 159 4 4 := ⟨_, _, _, rfl, by decide, Or.inl ps_w4_178⟩
theorem kc_RX10_78 : ps_Lz RX10 78 := ⟨ps_w5_184, ps_w5_185, ps_w5_186, ps_w5_187, ps_w5_188, ps_n5_189⟩
theorem kf_RX10_60 : ps_Lf RX10 60 10 8 := ⟨_, _, _, rfl, by decide, Or.inl ps_w1_127⟩
theorem kq_10_8 {a b : String} : ps_Lq a b 10 8 := fun C T N h => by cases h; exact Or.inl rfl
theorem kc_RX0_3 : Cond.methodLink RX0 3 Lib.objectInit ∈ ps_W ∧ Cond.instanceMethod Lib.objectInit ∈ ps_W ∧ Cond.code Lib.objectInit ⟨#[0xb1]⟩ 1 none ∈ ps_W := ⟨ps_w1_154, ps_w1_31, ps_w1_32⟩
theorem kf_RX0_9 : ps_Lf RX0 9 0 0 := ⟨_, _, _, rfl, by decide, Or.inl ps_w1_158⟩
theorem kq_0_0 {a b : String} : ps_Lq a b 0 0 := fun C T N h => by cases h; exact Or.inl rfl
theorem kf_RX0_15 : ps_Lf RX0 15 0 1 := ⟨_, _, _, rfl, by decide, Or.inl ps_w1_159⟩
theorem kq_0_1 {a b : String} : ps_Lq a b 0 1 := fun C T N h => by cases h; exact Or.inl rfl
theorem kf_RX0_18 : ps_Lf RX0 18 0 2 := ⟨_, _, _, rfl, by decide, Or.inl ps_w1_160⟩
theorem kq_0_2_i : ps_Lq "<init>" RX0 0 2 := fun C T N h => by cases h; exact Or.inr ⟨rfl, rfl, rfl⟩
theorem kf_RX0_22 : ps_Lf RX0 22 0 3 := ⟨_, _, _, rfl, by decide, Or.inl ps_w1_162⟩
theorem kq_0_3_i : ps_Lq "<init>" RX0 0 3 := fun C T N h => by cases h; exact Or.inr ⟨rfl, rfl, rfl⟩
theorem kf_RX0_25 : ps_Lf RX0 25 0 4 := ⟨_, _, _, rfl, by decide, Or.inl ps_w1_163⟩
theorem kq_0_4_i : ps_Lq "<init>" RX0 0 4 := fun C T N h => by cases h; exact Or.inr ⟨rfl, rfl, rfl⟩
theorem kf_RX0_57 : ps_Lf RX0 57 4 7 := ⟨_, _, _, rfl, by decide, Or.inl ps_w4_187⟩
theorem kf_RX0_62 : ps_Lf RX0 62 4 8 := ⟨_, _, _, rfl, by decide, Or.inl ps_w4_191⟩
theorem kc_RX0_69 : ps_Ly RX0 69 := ⟨ps_w7_218, ps_w3_213, ps_w3_212, ps_w1_24⟩
theorem kc_RX1_3 : Cond.methodLink RX1 3 Lib.objectInit ∈ ps_W ∧ Cond.instanceMethod Lib.objectInit ∈ ps_W ∧ Cond.code Lib.objectInit ⟨#[0xb1]⟩ 1 none ∈ ps_W := ⟨ps_w1_180, ps_w1_31, ps_w1_32⟩
theorem kf_RX1_10 : ps_Lf RX1 10 1 0 := ⟨_, _, _, rfl, by decide, Or.inl ps_w1_182⟩
theorem kf_RX1_16 : ps_Lf RX1 16 1 1 := ⟨_, _, _, rfl, by decide, Or.inl ps_w1_184⟩
theorem kf_RX1_19 : ps_Lf RX1 19 1 2 := ⟨_, _, _, rfl, by decide, Or.inl ps_w1_186⟩
theorem kf_RX1_22 : ps_Lf RX1 22 1 3 := ⟨_, _, _, rfl, by decide, Or.inl ps_w1_188⟩
theorem kf_RX1_25 : ps_Lf RX1 25 1 4 := ⟨_, _, _, rfl, by decide, Or.inl ps_w1_190⟩
theorem kf_RX1_28 : ps_Lf RX1 28 1 5 := ⟨_, _, _, rfl, by decide, Or.inl ps_w1_192⟩
theorem kf_RX1_31 : ps_Lf RX1 31 1 9 := ⟨_, _, _, rfl, by decide, Or.inl ps_w1_198⟩
theorem kq_1_9_i : ps_Lq "<init>" RX1 1 9 := fun C T N h => by cases h; exact Or.inr ⟨rfl, rfl, rfl⟩
theorem kf_RX1_35 : ps_Lf RX1 35 1 10 := ⟨_, _, _, rfl, by decide, Or.inl ps_w1_199⟩
theorem kq_1_10_i : ps_Lq "<init>" RX1 1 10 := fun C T N h => by cases h; exact Or.inr ⟨rfl, rfl, rfl⟩
theorem kf_RX1_38 : ps_Lf RX1 38 1 11 := ⟨_, _, _, rfl, by decide, Or.inl ps_w1_200⟩
theorem kq_1_11_i : ps_Lq "<init>" RX1 1 11 := fun C T N h => by cases h; exact Or.inr ⟨rfl, rfl, rfl⟩
theorem kf_RX1_41 : ps_Lf RX1 41 1 12 := ⟨_, _, _, rfl, by decide, Or.inl ps_w1_201⟩
theorem kq_1_12_i : ps_Lq "<init>" RX1 1 12 := fun C T N h => by cases h; exact Or.inr ⟨rfl, rfl, rfl⟩
theorem kf_RX1_51 : ps_Lf RX1 51 1 13 := ⟨_, _, _, rfl, by decide, Or.inl ps_w1_203⟩
theorem kq_1_13 {a b : String} : ps_Lq a b 1 13 := fun C T N h => by cases h; exact Or.inl rfl
theorem kf_RX1_54 : ps_Lf RX1 54 1 14 := ⟨_, _, _, rfl, by decide, Or.inl ps_w1_204⟩
theorem kq_1_14 {a b : String} : ps_Lq a b 1 14 := fun C T N h => by cases h; exact Or.inl rfl
theorem kf_RX1_44 : ps_Lf RX1 44 1 8 := ⟨_, _, _, rfl, by decide, Or.inl ps_w1_196⟩
theorem kc_RX6_3 : Cond.methodLink RX6 3 Lib.objectInit ∈ ps_W ∧ Cond.instanceMethod Lib.objectInit ∈ ps_W ∧ Cond.code Lib.objectInit ⟨#[0xb1]⟩ 1 none ∈ ps_W := ⟨ps_w2_1, ps_w1_31, ps_w1_32⟩
theorem kf_RX6_11 : ps_Lf RX6 11 6 0 := ⟨_, _, _, rfl, by decide, Or.inl ps_w2_3⟩
theorem kq_6_0_i : ps_Lq "<init>" RX6 6 0 := fun C T N h => by cases h; exact Or.inr ⟨rfl, rfl, rfl⟩
theorem kf_RX6_15 : ps_Lf RX6 15 6 1 := ⟨_, _, _, rfl, by decide, Or.inl ps_w2_5⟩
theorem kq_6_1_i : ps_Lq "<init>" RX6 6 1 := fun C T N h => by cases h; exact Or.inr ⟨rfl, rfl, rfl⟩
theorem kf_RX6_18 : ps_Lf RX6 18 6 2 := ⟨_, _, _, rfl, by decide, Or.inl ps_w2_6⟩
theorem kq_6_2_i : ps_Lq "<init>" RX6 6 2 := fun C T N h => by cases h; exact Or.inr ⟨rfl, rfl, rfl⟩
theorem kf_RX6_21 : ps_Lf RX6 21 6 3 := ⟨_, _, _, rfl, by decide, Or.inl ps_w2_7⟩
theorem kq_6_3_i : ps_Lq "<init>" RX6 6 3 := fun C T N h => by cases h; exact Or.inr ⟨rfl, rfl, rfl⟩
theorem kf_RX6_24 : ps_Lf RX6 24 6 4 := ⟨_, _, _, rfl, by decide, Or.inl ps_w2_8⟩
theorem kq_6_4_i : ps_Lq "<init>" RX6 6 4 := fun C T N h => by cases h; exact Or.inr ⟨rfl, rfl, rfl⟩
theorem kf_RX6_27 : ps_Lf RX6 27 6 5 := ⟨_, _, _, rfl, by decide, Or.inl ps_w2_10⟩
theorem kq_6_5_i : ps_Lq "<init>" RX6 6 5 := fun C T N h => by cases h; exact Or.inr ⟨rfl, rfl, rfl⟩
theorem kf_RX6_30 : ps_Lf RX6 30 6 6 := ⟨_, _, _, rfl, by decide, Or.inl ps_w2_12⟩
theorem kq_6_6_i : ps_Lq "<init>" RX6 6 6 := fun C T N h => by cases h; exact Or.inr ⟨rfl, rfl, rfl⟩
theorem kf_RX6_33 : ps_Lf RX6 33 6 7 := ⟨_, _, _, rfl, by decide, Or.inl ps_w2_13⟩
theorem kq_6_7_i : ps_Lq "<init>" RX6 6 7 := fun C T N h => by cases h; exact Or.inr ⟨rfl, rfl, rfl⟩
theorem kf_RX6_36 : ps_Lf RX6 36 6 8 := ⟨_, _, _, rfl, by decide, Or.inl ps_w2_14⟩
theorem kq_6_8_i : ps_Lq "<init>" RX6 6 8 := fun C T N h => by cases h; exact Or.inr ⟨rfl, rfl, rfl⟩
theorem kf_RX6_39 : ps_Lf RX6 39 6 9 := ⟨_, _, _, rfl, by decide, Or.inl ps_w2_15⟩
theorem kq_6_9_i : ps_Lq "<init>" RX6 6 9 := fun C T N h => by cases h; exact Or.inr ⟨rfl, rfl, rfl⟩
theorem kf_RX6_42 : ps_Lf RX6 42 6 13 := ⟨_, _, _, rfl, by decide, Or.inl ps_w2_19⟩
theorem kq_6_13_i : ps_Lq "<init>" RX6 6 13 := fun C T N h => by cases h; exact Or.inr ⟨rfl, rfl, rfl⟩
theorem kf_RX6_45 : ps_Lf RX6 45 6 14 := ⟨_, _, _, rfl, by decide, Or.inl ps_w2_20⟩
theorem kq_6_14_i : ps_Lq "<init>" RX6 6 14 := fun C T N h => by cases h; exact Or.inr ⟨rfl, rfl, rfl⟩
theorem kf_RX6_54 : ps_Lf RX6 54 6 10 := ⟨_, _, _, rfl, by decide, Or.inl ps_w2_16⟩
theorem kq_6_10 {a b : String} : ps_Lq a b 6 10 := fun C T N h => by cases h; exact Or.inl rfl
theorem kf_RX6_58 : ps_Lf RX6 58 6 11 := ⟨_, _, _, rfl, by decide, Or.inl ps_w2_17⟩
theorem kq_6_11 {a b : String} : ps_Lq a b 6 11 := fun C T N h => by cases h; exact Or.inl rfl
theorem kf_RX6_61 : ps_Lf RX6 61 6 12 := ⟨_, _, _, rfl, by decide, Or.inl ps_w2_18⟩
theorem kq_6_12 {a b : String} : ps_Lq a b 6 12 := fun C T N h => by cases h; exact Or.inl rfl
theorem kc_RX3_3 : Cond.methodLink RX3 3 Lib.objectInit ∈ ps_W ∧ Cond.instanceMethod Lib.objectInit ∈ ps_W ∧ Cond.code Lib.objectInit ⟨#[0xb1]⟩ 1 none ∈ ps_W := ⟨ps_w2_58, ps_w1_31, ps_w1_32⟩
theorem kf_RX3_9 : ps_Lf RX3 9 3 0 := ⟨_, _, _, rfl, by decide, Or.inl ps_w2_59⟩
theorem kq_3_0_i : ps_Lq "<init>" RX3 3 0 := fun C T N h => by cases h; exact Or.inr ⟨rfl, rfl, rfl⟩
theorem kf_RX3_15 : ps_Lf RX3 15 3 1 := ⟨_, _, _, rfl, by decide, Or.inl ps_w2_61⟩
theorem kq_3_1_i : ps_Lq "<init>" RX3 3 1 := fun C T N h => by cases h; exact Or.inr ⟨rfl, rfl, rfl⟩
theorem kf_RX3_18 : ps_Lf RX3 18 3 2 := ⟨_, _, _, rfl, by decide, Or.inl ps_w2_63⟩
theorem kq_3_2_i : ps_Lq "<init>" RX3 3 2 := fun C T N h => by cases h; exact Or.inr ⟨rfl, rfl, rfl⟩
theorem kf_RX3_21 : ps_Lf RX3 21 3 3 := ⟨_, _, _, rfl, by decide, Or.inl ps_w2_64⟩
theorem kq_3_3_i : ps_Lq "<init>" RX3 3 3 := fun C T N h => by cases h; exact Or.inr ⟨rfl, rfl, rfl⟩
theorem kf_RX3_25 : ps_Lf RX3 25 3 4 := ⟨_, _, _, rfl, by decide, Or.inl ps_w2_65⟩
theorem kq_3_4_i : ps_Lq "<init>" RX3 3 4 := fun C T N h => by cases h; exact Or.inr ⟨rfl, rfl, rfl⟩
theorem kf_RX3_28 : ps_Lf RX3 28 3 5 := ⟨_, _, _, rfl, by decide, Or.inl ps_w2_66⟩
theorem kq_3_5_i : ps_Lq "<init>" RX3 3 5 := fun C T N h => by cases h; exact Or.inr ⟨rfl, rfl, rfl⟩
theorem kf_RX3_31 : ps_Lf RX3 31 3 6 := ⟨_, _, _, rfl, by decide, Or.inl ps_w2_67⟩
theorem kq_3_6_i : ps_Lq "<init>" RX3 3 6 := fun C T N h => by cases h; exact Or.inr ⟨rfl, rfl, rfl⟩
theorem kf_RX3_34 : ps_Lf RX3 34 3 7 := ⟨_, _, _, rfl, by decide, Or.inl ps_w2_68⟩
theorem kq_3_7_i : ps_Lq "<init>" RX3 3 7 := fun C T N h => by cases h; exact Or.inr ⟨rfl, rfl, rfl⟩
theorem kf_RX3_37 : ps_Lf RX3 37 3 11 := ⟨_, _, _, rfl, by decide, Or.inl ps_w2_72⟩
theorem kq_3_11_i : ps_Lq "<init>" RX3 3 11 := fun C T N h => by cases h; exact Or.inr ⟨rfl, rfl, rfl⟩
theorem kf_RX3_40 : ps_Lf RX3 40 3 12 := ⟨_, _, _, rfl, by decide, Or.inl ps_w2_73⟩
theorem kq_3_12_i : ps_Lq "<init>" RX3 3 12 := fun C T N h => by cases h; exact Or.inr ⟨rfl, rfl, rfl⟩
theorem kf_RX3_91 : ps_Lf RX3 91 3 8 := ⟨_, _, _, rfl, by decide, Or.inl ps_w2_69⟩
theorem kq_3_8 {a b : String} : ps_Lq a b 3 8 := fun C T N h => by cases h; exact Or.inl rfl
theorem kf_RX3_99 : ps_Lf RX3 99 3 9 := ⟨_, _, _, rfl, by decide, Or.inl ps_w2_70⟩
theorem kf_RX3_102 : ps_Lf RX3 102 3 10 := ⟨_, _, _, rfl, by decide, Or.inl ps_w2_71⟩
theorem kq_3_9 {a b : String} : ps_Lq a b 3 9 := fun C T N h => by cases h; exact Or.inl rfl
theorem kq_3_10 {a b : String} : ps_Lq a b 3 10 := fun C T N h => by cases h; exact Or.inl rfl
theorem kc_RX7_3 : Cond.methodLink RX7 3 Lib.objectInit ∈ ps_W ∧ Cond.instanceMethod Lib.objectInit ∈ ps_W ∧ Cond.code Lib.objectInit ⟨#[0xb1]⟩ 1 none ∈ ps_W := ⟨ps_w2_107, ps_w1_31, ps_w1_32⟩
theorem kf_RX7_11 : ps_Lf RX7 11 7 0 := ⟨_, _, _, rfl, by decide, Or.inl ps_w2_108⟩
theorem kq_7_0_i : ps_Lq "<init>" RX7 7 0 := fun C T N h => by cases h; exact Or.inr ⟨rfl, rfl, rfl⟩
theorem kf_RX7_15 : ps_Lf RX7 15 7 2 := ⟨_, _, _, rfl, by decide, Or.inl ps_w2_111⟩
theorem kq_7_2_i : ps_Lq "<init>" RX7 7 2 := fun C T N h => by cases h; exact Or.inr ⟨rfl, rfl, rfl⟩
theorem kf_RX7_18 : ps_Lf RX7 18 7 1 := ⟨_, _, _, rfl, by decide, Or.inl ps_w2_109⟩
theorem kq_7_1 {a b : String} : ps_Lq a b 7 1 := fun C T N h => by cases h; exact Or.inl rfl
theorem kf_RX7_22 : ps_Ls RX7 22 1 := ⟨by decide, Or.inr ⟨_, ps_n8_161⟩⟩
theorem kf_RX7_48 : ps_Lf RX7 48 7 3 := ⟨_, _, _, rfl, by decide, Or.inl ps_w2_112⟩
theorem kq_7_3 {a b : String} : ps_Lq a b 7 3 := fun C T N h => by cases h; exact Or.inl rfl
theorem kf_RX7_76 : ps_Lf RX7 76 7 4 := ⟨_, _, _, rfl, by decide, Or.inl ps_w2_113⟩
theorem kq_7_4 {a b : String} : ps_Lq a b 7 4 := fun C T N h => by cases h; exact Or.inl rfl
theorem kf_RX7_79 : ps_Lf RX7 79 7 5 := ⟨_, _, _, rfl, by decide, Or.inl ps_w2_114⟩
theorem kq_7_5 {a b : String} : ps_Lq a b 7 5 := fun C T N h => by cases h; exact Or.inl rfl
theorem kf_RX7_99 : ps_Ls RX7 99 2 := ⟨by decide, Or.inr ⟨_, ps_n8_217⟩⟩
theorem kf_RX7_102 : ps_Ls RX7 102 3 := ⟨by decide, Or.inr ⟨_, ps_n8_226⟩⟩
theorem kf_RX7_105 : ps_Ls RX7 105 4 := ⟨by decide, Or.inr ⟨_, ps_n8_227⟩⟩
theorem kf_RX7_111 : ps_Ls RX7 111 5 := ⟨by decide, Or.inr ⟨_, ps_n8_228⟩⟩
theorem kc_RX8_3 : Cond.methodLink RX8 3 Lib.objectInit ∈ ps_W ∧ Cond.instanceMethod Lib.objectInit ∈ ps_W ∧ Cond.code Lib.objectInit ⟨#[0xb1]⟩ 1 none ∈ ps_W := ⟨ps_w2_133, ps_w1_31, ps_w1_32⟩
theorem kf_RX8_9 : ps_Ls RX8 9 0 := ⟨by decide, Or.inr ⟨_, ps_n2_134⟩⟩
theorem kf_RX8_13 : ps_Lf RX8 13 8 2 := ⟨_, _, _, rfl, by decide, Or.inl ps_w2_186⟩
theorem kq_8_2 {a b : String} : ps_Lq a b 8 2 := fun C T N h => by cases h; exact Or.inl rfl
theorem kf_RX8_18 : ps_Lf RX8 18 8 7 := ⟨_, _, _, rfl, by decide, Or.inl ps_w2_191⟩
theorem kq_8_7_i : ps_Lq "<init>" RX8 8 7 := fun C T N h => by cases h; exact Or.inr ⟨rfl, rfl, rfl⟩
theorem kf_RX8_21 : ps_Lf RX8 21 8 9 := ⟨_, _, _, rfl, by decide, Or.inl ps_w2_193⟩
theorem kq_8_9_i : ps_Lq "<init>" RX8 8 9 := fun C T N h => by cases h; exact Or.inr ⟨rfl, rfl, rfl⟩
theorem kf_RX8_27 : ps_Lf RX8 27 8 12 := ⟨_, _, _, rfl, by decide, Or.inl ps_w2_196⟩
theorem kq_8_12_i : ps_Lq "<init>" RX8 8 12 := fun C T N h => by cases h; exact Or.inr ⟨rfl, rfl, rfl⟩
theorem kf_RX8_44 : ps_Lf RX8 44 8 3 := ⟨_, _, _, rfl, by decide, Or.inl ps_w2_187⟩
theorem kq_8_3 {a b : String} : ps_Lq a b 8 3 := fun C T N h => by cases h; exact Or.inl rfl
theorem kf_RX8_47 : ps_Lf RX8 47 8 6 := ⟨_, _, _, rfl, by decide, Or.inl ps_w2_190⟩
theorem kq_8_6 {a b : String} : ps_Lq a b 8 6 := fun C T N h => by cases h; exact Or.inl rfl
theorem kf_RX8_50 : ps_Lf RX8 50 8 8 := ⟨_, _, _, rfl, by decide, Or.inl ps_w2_192⟩
theorem kq_8_8 {a b : String} : ps_Lq a b 8 8 := fun C T N h => by cases h; exact Or.inl rfl
theorem kf_RX8_53 : ps_Lf RX8 53 8 10 := ⟨_, _, _, rfl, by decide, Or.inl ps_w2_194⟩
theorem kq_8_10 {a b : String} : ps_Lq a b 8 10 := fun C T N h => by cases h; exact Or.inl rfl
theorem kf_RX8_56 : ps_Lf RX8 56 8 11 := ⟨_, _, _, rfl, by decide, Or.inl ps_w2_195⟩
theorem kq_8_11 {a b : String} : ps_Lq a b 8 11 := fun C T N h => by cases h; exact Or.inl rfl
theorem kf_RX8_59 : ps_Lf RX8 59 2 1 := ⟨_, _, _, rfl, by decide, Or.inl ps_w2_143⟩
theorem kq_2_1 {a b : String} : ps_Lq a b 2 1 := fun C T N h => by cases h; exact Or.inl rfl
theorem kf_RX8_70 : ps_Ls RX8 70 1 := ⟨by decide, Or.inr ⟨_, ps_n6_237⟩⟩
theorem kf_RX8_85 : ps_Lf RX8 85 8 5 := ⟨_, _, _, rfl, by decide, Or.inl ps_w2_189⟩
theorem kf_RX8_88 : ps_Lf RX8 88 8 4 := ⟨_, _, _, rfl, by decide, Or.inl ps_w2_188⟩
theorem kf_RX8_31 : ps_Lf RX8 31 8 0 := ⟨_, _, _, rfl, by decide, Or.inl ps_w2_182⟩
theorem kq_8_0 {a b : String} : ps_Lq a b 8 0 := fun C T N h => by cases h; exact Or.inl rfl
theorem kf_RX8_35 : ps_Lf RX8 35 8 1 := ⟨_, _, _, rfl, by decide, Or.inl ps_w2_184⟩
theorem kq_8_1 {a b : String} : ps_Lq a b 8 1 := fun C T N h => by cases h; exact Or.inl rfl
theorem kq_8_4 {a b : String} : ps_Lq a b 8 4 := fun C T N h => by cases h; exact Or.inl rfl
theorem kq_8_5 {a b : String} : ps_Lq a b 8 5 := fun C T N h => by cases h; exact Or.inl rfl
theorem kc_RX2_3 : Cond.methodLink RX2 3 Lib.objectInit ∈ ps_W ∧ Cond.instanceMethod Lib.objectInit ∈ ps_W ∧ Cond.code Lib.objectInit ⟨#[0xb1]⟩ 1 none ∈ ps_W := ⟨ps_w2_140, ps_w1_31, ps_w1_32⟩
theorem kf_RX2_9 : ps_Lf RX2 9 2 0 := ⟨_, _, _, rfl, by decide, Or.inl ps_w2_141⟩
theorem kq_2_0_i : ps_Lq "<init>" RX2 2 0 := fun C T N h => by cases h; exact Or.inr ⟨rfl, rfl, rfl⟩
theorem kf_RX2_15 : ps_Lf RX2 15 2 4 := ⟨_, _, _, rfl, by decide, Or.inl ps_w2_146⟩
theorem kq_2_4_i : ps_Lq "<init>" RX2 2 4 := fun C T N h => by cases h; exact Or.inr ⟨rfl, rfl, rfl⟩
theorem kf_RX2_18 : ps_Lf RX2 18 2 7 := ⟨_, _, _, rfl, by decide, Or.inl ps_w2_149⟩
theorem kq_2_7_i : ps_Lq "<init>" RX2 2 7 := fun C T N h => by cases h; exact Or.inr ⟨rfl, rfl, rfl⟩
theorem kf_RX2_21 : ps_Lf RX2 21 2 8 := ⟨_, _, _, rfl, by decide, Or.inl ps_w2_150⟩
theorem kq_2_8_i : ps_Lq "<init>" RX2 2 8 := fun C T N h => by cases h; exact Or.inr ⟨rfl, rfl, rfl⟩
theorem kf_RX2_24 : ps_Lf RX2 24 2 9 := ⟨_, _, _, rfl, by decide, Or.inl ps_w2_151⟩
theorem kq_2_9_i : ps_Lq "<init>" RX2 2 9 := fun C T N h => by cases h; exact Or.inr ⟨rfl, rfl, rfl⟩
theorem kf_RX2_27 : ps_Lf RX2 27 2 10 := ⟨_, _, _, rfl, by decide, Or.inl ps_w2_152⟩
theorem kq_2_10_i : ps_Lq "<init>" RX2 2 10 := fun C T N h => by cases h; exact Or.inr ⟨rfl, rfl, rfl⟩
theorem kf_RX2_30 : ps_Lf RX2 30 2 11 := ⟨_, _, _, rfl, by decide, Or.inl ps_w2_153⟩
theorem kq_2_11_i : ps_Lq "<init>" RX2 2 11 := fun C T N h => by cases h; exact Or.inr ⟨rfl, rfl, rfl⟩
theorem kf_RX2_33 : ps_Lf RX2 33 2 12 := ⟨_, _, _, rfl, by decide, Or.inl ps_w2_154⟩
theorem kq_2_12_i : ps_Lq "<init>" RX2 2 12 := fun C T N h => by cases h; exact Or.inr ⟨rfl, rfl, rfl⟩
theorem kf_RX2_36 : ps_Lf RX2 36 2 1 := ⟨_, _, _, rfl, by decide, Or.inl ps_w2_142⟩
theorem kf_RX2_43 : ps_Lf RX2 43 2 2 := ⟨_, _, _, rfl, by decide, Or.inl ps_w2_144⟩
theorem kq_2_2 {a b : String} : ps_Lq a b 2 2 := fun C T N h => by cases h; exact Or.inl rfl
theorem kf_RX2_40 : ps_Lf RX2 40 2 5 := ⟨_, _, _, rfl, by decide, Or.inl ps_w2_147⟩
theorem kq_2_5 {a b : String} : ps_Lq a b 2 5 := fun C T N h => by cases h; exact Or.inl rfl
theorem kf_RX2_46 : ps_Lf RX2 46 2 3 := ⟨_, _, _, rfl, by decide, Or.inl ps_w2_145⟩
theorem kq_2_3 {a b : String} : ps_Lq a b 2 3 := fun C T N h => by cases h; exact Or.inl rfl
theorem kf_RX2_56 : ps_Lf RX2 56 2 6 := ⟨_, _, _, rfl, by decide, Or.inl ps_w2_148⟩
theorem kq_2_6 {a b : String} : ps_Lq a b 2 6 := fun C T N h => by cases h; exact Or.inl rfl
theorem kf_RX2_115 : ps_Ls RX2 115 2 := ⟨by decide, Or.inr ⟨_, ps_n7_93⟩⟩
theorem kf_RX2_118 : ps_Ls RX2 118 3 := ⟨by decide, Or.inr ⟨_, ps_n7_95⟩⟩
theorem kf_RX2_121 : ps_Ls RX2 121 4 := ⟨by decide, Or.inr ⟨_, ps_n7_97⟩⟩
theorem kf_RX2_124 : ps_Ls RX2 124 5 := ⟨by decide, Or.inr ⟨_, ps_n7_99⟩⟩
theorem kf_RX2_98 : ps_Ls RX2 98 6 := ⟨by decide, Or.inr ⟨_, ps_n7_109⟩⟩
theorem kf_RX4_23 : ps_Lf RX4 23 4 16 := ⟨_, _, _, rfl, by decide, Or.inl ps_w4_212⟩
theorem kf_RX4_38 : ps_Lf RX4 38 4 15 := ⟨_, _, _, rfl, by decide, Or.inl ps_w4_210⟩
theorem kf_RX4_62 : ps_Lf RX4 62 4 13 := ⟨_, _, _, rfl, by decide, Or.inl ps_w4_206⟩
theorem kf_RX4_56 : ps_Lf RX4 56 4 11 := ⟨_, _, _, rfl, by decide, Or.inl ps_w4_202⟩
theorem kf_RX4_65 : ps_Lf RX4 65 4 14 := ⟨_, _, _, rfl, by decide, Or.inl ps_w4_208⟩
theorem kf_RX4_59 : ps_Lf RX4 59 4 12 := ⟨_, _, _, rfl, by decide, Or.inl ps_w4_204⟩
theorem kf_RX4_29 : ps_Lf RX4 29 4 1 := ⟨_, _, _, rfl, by decide, Or.inl ps_w4_167⟩
theorem kf_RX4_35 : ps_Lf RX4 35 4 9 := ⟨_, _, _, rfl, by decide, Or.inl ps_w4_194⟩
theorem kf_RX4_53 : ps_Lf RX4 53 4 10 := ⟨_, _, _, rfl, by decide, Or.inl ps_w4_198⟩
theorem kc_RX4_3 : Cond.methodLink RX4 3 Lib.objectInit ∈ ps_W ∧ Cond.instanceMethod Lib.objectInit ∈ ps_W ∧ Cond.code Lib.objectInit ⟨#[0xb1]⟩ 1 none ∈ ps_W := ⟨ps_w4_161, ps_w1_31, ps_w1_32⟩
theorem kf_RX4_9 : ps_Lf RX4 9 4 3 := ⟨_, _, _, rfl, by decide, Or.inl ps_w4_174⟩
theorem kf_RX4_15 : ps_Lf RX4 15 4 5 := ⟨_, _, _, rfl, by decide, Or.inl ps_w4_180⟩
theorem kf_RX4_19 : ps_Ls RX4 19 0 := ⟨by decide, Or.inr ⟨_, ps_n4_162⟩⟩
theorem kf_RX4_26 : ps_Lf RX4 26 4 0 := ⟨_, _, _, rfl, by decide, Or.inl ps_w4_163⟩
theorem kq_4_0_i : ps_Lq "<init>" RX4 4 0 := fun C T N h => by cases h; exact Or.inr ⟨rfl, rfl, rfl⟩
theorem kq_4_1 {a b : String} : ps_Lq a b 4 1 := fun C T N h => by cases h; exact Or.inl rfl
theorem kf_RX4_32 : ps_Lf RX4 32 4 2 := ⟨_, _, _, rfl, by decide, Or.inl ps_w4_171⟩
theorem kf_RX4_41 : ps_Lf RX4 41 4 4 := ⟨_, _, _, rfl, by decide, Or.inl ps_w4_177⟩
theorem kf_RX4_44 : ps_Lf RX4 44 4 6 := ⟨_, _, _, rfl, by decide, Or.inl ps_w4_183⟩
theorem kf_RX4_47 : ps_Lf RX4 47 4 7 := ⟨_, _, _, rfl, by decide, Or.inl ps_w4_186⟩
theorem kf_RX4_50 : ps_Lf RX4 50 4 8 := ⟨_, _, _, rfl, by decide, Or.inl ps_w4_190⟩
theorem kc_RX12_1 : Cond.methodLink RX12 1 Lib.objectInit ∈ ps_W ∧ Cond.instanceMethod Lib.objectInit ∈ ps_W ∧ Cond.code Lib.objectInit ⟨#[0xb1]⟩ 1 none ∈ ps_W := ⟨ps_w9_23, ps_w1_31, ps_w1_32⟩
theorem kf_RX12_7 : ps_Lf RX12 7 12 1 := ⟨_, _, _, rfl, by decide, Or.inl ps_w9_40⟩
theorem kq_12_1_i : ps_Lq "<init>" RX12 12 1 := fun C T N h => by cases h; exact Or.inr ⟨rfl, rfl, rfl⟩
theorem kf_RX12_13 : ps_Lf RX12 13 12 6 := ⟨_, _, _, rfl, by decide, Or.inl ps_w9_45⟩
theorem kq_12_6_i : ps_Lq "<init>" RX12 12 6 := fun C T N h => by cases h; exact Or.inr ⟨rfl, rfl, rfl⟩
theorem kf_RX12_17 : ps_Lf RX12 17 12 8 := ⟨_, _, _, rfl, by decide, Or.inl ps_w9_47⟩
theorem kq_12_8_i : ps_Lq "<init>" RX12 12 8 := fun C T N h => by cases h; exact Or.inr ⟨rfl, rfl, rfl⟩
theorem kf_RX12_21 : ps_Lf RX12 21 12 9 := ⟨_, _, _, rfl, by decide, Or.inl ps_w9_48⟩
theorem kq_12_9_i : ps_Lq "<init>" RX12 12 9 := fun C T N h => by cases h; exact Or.inr ⟨rfl, rfl, rfl⟩
theorem kf_RX12_24 : ps_Lf RX12 24 12 15 := ⟨_, _, _, rfl, by decide, Or.inl ps_w9_54⟩
theorem kq_12_15_i : ps_Lq "<init>" RX12 12 15 := fun C T N h => by cases h; exact Or.inr ⟨rfl, rfl, rfl⟩
theorem kf_RX12_28 : ps_Lf RX12 28 12 16 := ⟨_, _, _, rfl, by decide, Or.inl ps_w9_55⟩
theorem kq_12_16_i : ps_Lq "<init>" RX12 12 16 := fun C T N h => by cases h; exact Or.inr ⟨rfl, rfl, rfl⟩
theorem kf_RX12_31 : ps_Lf RX12 31 12 17 := ⟨_, _, _, rfl, by decide, Or.inl ps_w9_56⟩
theorem kq_12_17_i : ps_Lq "<init>" RX12 12 17 := fun C T N h => by cases h; exact Or.inr ⟨rfl, rfl, rfl⟩
theorem kf_RX12_34 : ps_Lf RX12 34 12 18 := ⟨_, _, _, rfl, by decide, Or.inl ps_w9_57⟩
theorem kq_12_18_i : ps_Lq "<init>" RX12 12 18 := fun C T N h => by cases h; exact Or.inr ⟨rfl, rfl, rfl⟩
theorem kf_RX12_37 : ps_Lf RX12 37 12 21 := ⟨_, _, _, rfl, by decide, Or.inl ps_w9_60⟩
theorem kq_12_21_i : ps_Lq "<init>" RX12 12 21 := fun C T N h => by cases h; exact Or.inr ⟨rfl, rfl, rfl⟩
theorem kf_RX12_40 : ps_Lf RX12 40 12 22 := ⟨_, _, _, rfl, by decide, Or.inl ps_w9_61⟩
theorem kq_12_22_i : ps_Lq "<init>" RX12 12 22 := fun C T N h => by cases h; exact Or.inr ⟨rfl, rfl, rfl⟩
theorem kf_RX12_43 : ps_Lf RX12 43 12 24 := ⟨_, _, _, rfl, by decide, Or.inl ps_w9_63⟩
theorem kq_12_24_i : ps_Lq "<init>" RX12 12 24 := fun C T N h => by cases h; exact Or.inr ⟨rfl, rfl, rfl⟩
theorem kf_RX12_46 : ps_Lf RX12 46 12 25 := ⟨_, _, _, rfl, by decide, Or.inl ps_w9_64⟩
theorem kq_12_25 {a b : String} : ps_Lq a b 12 25 := fun C T N h => by cases h; exact Or.inl rfl
theorem kf_RX12_50 : ps_Lf RX12 50 12 27 := ⟨_, _, _, rfl, by decide, Or.inl ps_w9_66⟩
theorem kq_12_27_i : ps_Lq "<init>" RX12 12 27 := fun C T N h => by cases h; exact Or.inr ⟨rfl, rfl, rfl⟩
theorem kf_RX12_53 : ps_Lf RX12 53 12 28 := ⟨_, _, _, rfl, by decide, Or.inl ps_w9_67⟩
theorem kq_12_28_i : ps_Lq "<init>" RX12 12 28 := fun C T N h => by cases h; exact Or.inr ⟨rfl, rfl, rfl⟩
theorem kf_RX12_56 : ps_Lf RX12 56 12 29 := ⟨_, _, _, rfl, by decide, Or.inl ps_w9_68⟩
theorem kq_12_29_i : ps_Lq "<init>" RX12 12 29 := fun C T N h => by cases h; exact Or.inr ⟨rfl, rfl, rfl⟩
theorem kf_RX12_59 : ps_Lf RX12 59 12 30 := ⟨_, _, _, rfl, by decide, Or.inl ps_w9_69⟩
theorem kq_12_30_i : ps_Lq "<init>" RX12 12 30 := fun C T N h => by cases h; exact Or.inr ⟨rfl, rfl, rfl⟩
theorem kf_RX12_62 : ps_Lf RX12 62 12 31 := ⟨_, _, _, rfl, by decide, Or.inl ps_w9_70⟩
theorem kq_12_31_i : ps_Lq "<init>" RX12 12 31 := fun C T N h => by cases h; exact Or.inr ⟨rfl, rfl, rfl⟩
theorem kf_RX12_65 : ps_Lf RX12 65 12 32 := ⟨_, _, _, rfl, by decide, Or.inl ps_w9_71⟩
theorem kq_12_32_i : ps_Lq "<init>" RX12 12 32 := fun C T N h => by cases h; exact Or.inr ⟨rfl, rfl, rfl⟩
theorem kf_RX12_68 : ps_Lf RX12 68 12 33 := ⟨_, _, _, rfl, by decide, Or.inl ps_w9_72⟩
theorem kq_12_33_i : ps_Lq "<init>" RX12 12 33 := fun C T N h => by cases h; exact Or.inr ⟨rfl, rfl, rfl⟩
theorem kf_RX12_72 : ps_Lf RX12 72 12 34 := ⟨_, _, _, rfl, by decide, Or.inl ps_w9_73⟩
theorem kq_12_34 {a b : String} : ps_Lq a b 12 34 := fun C T N h => by cases h; exact Or.inl rfl
theorem kf_RX12_75 : ps_Lf RX12 75 12 35 := ⟨_, _, _, rfl, by decide, Or.inl ps_w9_74⟩
theorem kq_12_35_i : ps_Lq "<init>" RX12 12 35 := fun C T N h => by cases h; exact Or.inr ⟨rfl, rfl, rfl⟩
theorem kf_RX12_78 : ps_Lf RX12 78 12 36 := ⟨_, _, _, rfl, by decide, Or.inl ps_w9_75⟩
theorem kq_12_36 {a b : String} : ps_Lq a b 12 36 := fun C T N h => by cases h; exact Or.inl rfl
theorem kf_RX12_81 : ps_Lf RX12 81 12 37 := ⟨_, _, _, rfl, by decide, Or.inl ps_w9_76⟩
theorem kq_12_37 {a b : String} : ps_Lq a b 12 37 := fun C T N h => by cases h; exact Or.inl rfl
theorem kf_RX12_84 : ps_Lf RX12 84 12 38 := ⟨_, _, _, rfl, by decide, Or.inl ps_w9_77⟩
theorem kq_12_38 {a b : String} : ps_Lq a b 12 38 := fun C T N h => by cases h; exact Or.inl rfl
theorem kf_RX12_87 : ps_Lf RX12 87 12 39 := ⟨_, _, _, rfl, by decide, Or.inl ps_w9_78⟩
theorem kq_12_39 {a b : String} : ps_Lq a b 12 39 := fun C T N h => by cases h; exact Or.inl rfl
theorem kf_RX12_90 : ps_Lf RX12 90 12 40 := ⟨_, _, _, rfl, by decide, Or.inl ps_w9_79⟩
theorem kq_12_40 {a b : String} : ps_Lq a b 12 40 := fun C T N h => by cases h; exact Or.inl rfl
theorem kf_RX12_93 : ps_Lf RX12 93 12 44 := ⟨_, _, _, rfl, by decide, Or.inl ps_w9_83⟩
theorem kq_12_44_i : ps_Lq "<init>" RX12 12 44 := fun C T N h => by cases h; exact Or.inr ⟨rfl, rfl, rfl⟩
theorem kf_RX12_96 : ps_Lf RX12 96 12 45 := ⟨_, _, _, rfl, by decide, Or.inl ps_w9_84⟩
theorem kq_12_45_i : ps_Lq "<init>" RX12 12 45 := fun C T N h => by cases h; exact Or.inr ⟨rfl, rfl, rfl⟩
theorem kf_RX12_99 : ps_Lf RX12 99 12 46 := ⟨_, _, _, rfl, by decide, Or.inl ps_w9_85⟩
theorem kq_12_46_i : ps_Lq "<init>" RX12 12 46 := fun C T N h => by cases h; exact Or.inr ⟨rfl, rfl, rfl⟩
theorem kf_RX12_102 : ps_Lf RX12 102 12 47 := ⟨_, _, _, rfl, by decide, Or.inl ps_w9_86⟩
theorem kq_12_47_i : ps_Lq "<init>" RX12 12 47 := fun C T N h => by cases h; exact Or.inr ⟨rfl, rfl, rfl⟩
theorem kf_RX12_105 : ps_Lf RX12 105 12 48 := ⟨_, _, _, rfl, by decide, Or.inl ps_w9_87⟩
theorem kq_12_48_i : ps_Lq "<init>" RX12 12 48 := fun C T N h => by cases h; exact Or.inr ⟨rfl, rfl, rfl⟩
theorem kf_RX12_108 : ps_Lf RX12 108 12 49 := ⟨_, _, _, rfl, by decide, Or.inl ps_w9_88⟩
theorem kq_12_49_i : ps_Lq "<init>" RX12 12 49 := fun C T N h => by cases h; exact Or.inr ⟨rfl, rfl, rfl⟩
theorem kf_RX12_111 : ps_Lf RX12 111 12 50 := ⟨_, _, _, rfl, by decide, Or.inl ps_w9_89⟩
theorem kq_12_50_i : ps_Lq "<init>" RX12 12 50 := fun C T N h => by cases h; exact Or.inr ⟨rfl, rfl, rfl⟩
theorem kf_RX12_114 : ps_Lf RX12 114 12 51 := ⟨_, _, _, rfl, by decide, Or.inl ps_w9_90⟩
theorem kq_12_51_i : ps_Lq "<init>" RX12 12 51 := fun C T N h => by cases h; exact Or.inr ⟨rfl, rfl, rfl⟩
theorem kf_RX12_117 : ps_Lf RX12 117 12 53 := ⟨_, _, _, rfl, by decide, Or.inl ps_w9_92⟩
theorem kq_12_53_i : ps_Lq "<init>" RX12 12 53 := fun C T N h => by cases h; exact Or.inr ⟨rfl, rfl, rfl⟩
theorem kf_RX12_120 : ps_Lf RX12 120 12 54 := ⟨_, _, _, rfl, by decide, Or.inl ps_w9_93⟩
theorem kq_12_54_i : ps_Lq "<init>" RX12 12 54 := fun C T N h => by cases h; exact Or.inr ⟨rfl, rfl, rfl⟩
theorem kf_RX12_123 : ps_Lf RX12 123 12 55 := ⟨_, _, _, rfl, by decide, Or.inl ps_w9_94⟩
theorem kq_12_55_i : ps_Lq "<init>" RX12 12 55 := fun C T N h => by cases h; exact Or.inr ⟨rfl, rfl, rfl⟩
theorem kf_RX12_126 : ps_Lf RX12 126 12 56 := ⟨_, _, _, rfl, by decide, Or.inl ps_w9_95⟩
theorem kq_12_56_i : ps_Lq "<init>" RX12 12 56 := fun C T N h => by cases h; exact Or.inr ⟨rfl, rfl, rfl⟩
theorem kf_RX12_129 : ps_Lf RX12 129 12 57 := ⟨_, _, _, rfl, by decide, Or.inl ps_w9_96⟩
theorem kq_12_57_i : ps_Lq "<init>" RX12 12 57 := fun C T N h => by cases h; exact Or.inr ⟨rfl, rfl, rfl⟩
theorem kf_RX12_132 : ps_Lf RX12 132 12 58 := ⟨_, _, _, rfl, by decide, Or.inl ps_w9_97⟩
theorem kq_12_58_i : ps_Lq "<init>" RX12 12 58 := fun C T N h => by cases h; exact Or.inr ⟨rfl, rfl, rfl⟩
theorem kf_RX12_135 : ps_Lf RX12 135 12 59 := ⟨_, _, _, rfl, by decide, Or.inl ps_w9_98⟩
theorem kq_12_59_i : ps_Lq "<init>" RX12 12 59 := fun C T N h => by cases h; exact Or.inr ⟨rfl, rfl, rfl⟩
theorem kf_RX12_138 : ps_Lf RX12 138 12 60 := ⟨_, _, _, rfl, by decide, Or.inl ps_w9_99⟩
theorem kq_12_60_i : ps_Lq "<init>" RX12 12 60 := fun C T N h => by cases h; exact Or.inr ⟨rfl, rfl, rfl⟩
theorem kf_RX12_141 : ps_Lf RX12 141 12 61 := ⟨_, _, _, rfl, by decide, Or.inl ps_w9_100⟩
theorem kq_12_61_i : ps_Lq "<init>" RX12 12 61 := fun C T N h => by cases h; exact Or.inr ⟨rfl, rfl, rfl⟩
theorem kf_RX12_144 : ps_Lf RX12 144 12 62 := ⟨_, _, _, rfl, by decide, Or.inl ps_w9_101⟩
theorem kq_12_62_i : ps_Lq "<init>" RX12 12 62 := fun C T N h => by cases h; exact Or.inr ⟨rfl, rfl, rfl⟩
theorem kf_RX12_147 : ps_Lf RX12 147 12 63 := ⟨_, _, _, rfl, by decide, Or.inl ps_w9_102⟩
theorem kq_12_63_i : ps_Lq "<init>" RX12 12 63 := fun C T N h => by cases h; exact Or.inr ⟨rfl, rfl, rfl⟩
theorem kf_RX12_150 : ps_Lf RX12 150 12 64 := ⟨_, _, _, rfl, by decide, Or.inl ps_w9_103⟩
theorem kq_12_64_i : ps_Lq "<init>" RX12 12 64 := fun C T N h => by cases h; exact Or.inr ⟨rfl, rfl, rfl⟩
theorem kf_RX12_153 : ps_Lf RX12 153 12 65 := ⟨_, _, _, rfl, by decide, Or.inl ps_w9_104⟩
theorem kq_12_65_i : ps_Lq "<init>" RX12 12 65 := fun C T N h => by cases h; exact Or.inr ⟨rfl, rfl, rfl⟩
theorem kf_RX12_156 : ps_Lf RX12 156 12 66 := ⟨_, _, _, rfl, by decide, Or.inl ps_w9_105⟩
theorem kq_12_66_i : ps_Lq "<init>" RX12 12 66 := fun C T N h => by cases h; exact Or.inr ⟨rfl, rfl, rfl⟩
theorem kf_RX12_159 : ps_Lf RX12 159 12 67 := ⟨_, _, _, rfl, by decide, Or.inl ps_w9_106⟩
theorem kq_12_67_i : ps_Lq "<init>" RX12 12 67 := fun C T N h => by cases h; exact Or.inr ⟨rfl, rfl, rfl⟩
theorem kf_RX12_162 : ps_Lf RX12 162 12 68 := ⟨_, _, _, rfl, by decide, Or.inl ps_w9_107⟩
theorem kq_12_68_i : ps_Lq "<init>" RX12 12 68 := fun C T N h => by cases h; exact Or.inr ⟨rfl, rfl, rfl⟩
theorem kf_RX12_165 : ps_Lf RX12 165 12 69 := ⟨_, _, _, rfl, by decide, Or.inl ps_w9_108⟩
theorem kq_12_69_i : ps_Lq "<init>" RX12 12 69 := fun C T N h => by cases h; exact Or.inr ⟨rfl, rfl, rfl⟩
theorem kf_RX12_168 : ps_Lf RX12 168 12 70 := ⟨_, _, _, rfl, by decide, Or.inl ps_w9_109⟩
theorem kq_12_70_i : ps_Lq "<init>" RX12 12 70 := fun C T N h => by cases h; exact Or.inr ⟨rfl, rfl, rfl⟩
theorem kf_RX12_171 : ps_Lf RX12 171 12 71 := ⟨_, _, _, rfl, by decide, Or.inl ps_w9_110⟩
theorem kq_12_71_i : ps_Lq "<init>" RX12 12 71 := fun C T N h => by cases h; exact Or.inr ⟨rfl, rfl, rfl⟩
theorem kf_RX12_174 : ps_Lf RX12 174 12 72 := ⟨_, _, _, rfl, by decide, Or.inl ps_w9_111⟩
theorem kq_12_72_i : ps_Lq "<init>" RX12 12 72 := fun C T N h => by cases h; exact Or.inr ⟨rfl, rfl, rfl⟩
theorem kf_RX12_177 : ps_Lf RX12 177 12 74 := ⟨_, _, _, rfl, by decide, Or.inl ps_w9_113⟩
theorem kq_12_74_i : ps_Lq "<init>" RX12 12 74 := fun C T N h => by cases h; exact Or.inr ⟨rfl, rfl, rfl⟩
theorem kf_RX12_180 : ps_Lf RX12 180 12 78 := ⟨_, _, _, rfl, by decide, Or.inl ps_w9_117⟩
theorem kq_12_78_i : ps_Lq "<init>" RX12 12 78 := fun C T N h => by cases h; exact Or.inr ⟨rfl, rfl, rfl⟩
theorem kf_RX12_183 : ps_Lf RX12 183 12 80 := ⟨_, _, _, rfl, by decide, Or.inl ps_w9_119⟩
theorem kq_12_80_i : ps_Lq "<init>" RX12 12 80 := fun C T N h => by cases h; exact Or.inr ⟨rfl, rfl, rfl⟩
theorem kf_RX12_186 : ps_Lf RX12 186 12 81 := ⟨_, _, _, rfl, by decide, Or.inl ps_w9_120⟩
theorem kq_12_81_i : ps_Lq "<init>" RX12 12 81 := fun C T N h => by cases h; exact Or.inr ⟨rfl, rfl, rfl⟩
theorem kf_RX12_189 : ps_Lf RX12 189 12 90 := ⟨_, _, _, rfl, by decide, Or.inl ps_w9_129⟩
theorem kq_12_90_i : ps_Lq "<init>" RX12 12 90 := fun C T N h => by cases h; exact Or.inr ⟨rfl, rfl, rfl⟩
theorem kf_RX12_192 : ps_Lf RX12 192 12 91 := ⟨_, _, _, rfl, by decide, Or.inl ps_w9_130⟩
theorem kq_12_91_i : ps_Lq "<init>" RX12 12 91 := fun C T N h => by cases h; exact Or.inr ⟨rfl, rfl, rfl⟩
theorem kf_RX12_195 : ps_Lf RX12 195 12 92 := ⟨_, _, _, rfl, by decide, Or.inl ps_w9_131⟩
theorem kq_12_92_i : ps_Lq "<init>" RX12 12 92 := fun C T N h => by cases h; exact Or.inr ⟨rfl, rfl, rfl⟩
theorem kf_RX12_230 : ps_Lf RX12 230 12 13 := ⟨_, _, _, rfl, by decide, Or.inl ps_w9_52⟩
theorem kq_12_13 {a b : String} : ps_Lq a b 12 13 := fun C T N h => by cases h; exact Or.inl rfl
theorem kf_RX12_233 : ps_Lf RX12 233 12 14 := ⟨_, _, _, rfl, by decide, Or.inl ps_w9_53⟩
theorem kq_12_14 {a b : String} : ps_Lq a b 12 14 := fun C T N h => by cases h; exact Or.inl rfl
theorem kf_RX12_236 : ps_Lf RX12 236 12 10 := ⟨_, _, _, rfl, by decide, Or.inl ps_w9_49⟩
theorem kq_12_10 {a b : String} : ps_Lq a b 12 10 := fun C T N h => by cases h; exact Or.inl rfl
theorem kf_RX12_239 : ps_Lf RX12 239 12 11 := ⟨_, _, _, rfl, by decide, Or.inl ps_w9_50⟩
theorem kq_12_11 {a b : String} : ps_Lq a b 12 11 := fun C T N h => by cases h; exact Or.inl rfl
theorem kf_RX12_242 : ps_Lf RX12 242 12 12 := ⟨_, _, _, rfl, by decide, Or.inl ps_w9_51⟩
theorem kq_12_12 {a b : String} : ps_Lq a b 12 12 := fun C T N h => by cases h; exact Or.inl rfl
theorem kf_RX12_202 : ps_Lf RX12 202 12 0 := ⟨_, _, _, rfl, by decide, Or.inl ps_w9_39⟩
theorem kf_RX12_210 : ps_Lf RX12 210 12 2 := ⟨_, _, _, rfl, by decide, Or.inl ps_w9_41⟩
theorem kq_12_0 {a b : String} : ps_Lq a b 12 0 := fun C T N h => by cases h; exact Or.inl rfl
theorem kq_12_2 {a b : String} : ps_Lq a b 12 2 := fun C T N h => by cases h; exact Or.inl rfl
theorem kf_RX12_221 : ps_Lf RX12 221 12 4 := ⟨_, _, _, rfl, by decide, Or.inl ps_w9_43⟩
theorem kf_RX12_224 : ps_Lf RX12 224 12 5 := ⟨_, _, _, rfl, by decide, Or.inl ps_w9_44⟩
theorem kf_RX12_389 : ps_Lf RX12 389 12 23 := ⟨_, _, _, rfl, by decide, Or.inl ps_w9_62⟩
theorem kq_12_23 {a b : String} : ps_Lq a b 12 23 := fun C T N h => by cases h; exact Or.inl rfl
theorem kf_RX12_343 : ps_Lf RX12 343 12 19 := ⟨_, _, _, rfl, by decide, Or.inl ps_w9_58⟩
theorem kf_RX12_346 : ps_Lf RX12 346 12 20 := ⟨_, _, _, rfl, by decide, Or.inl ps_w9_59⟩
theorem kf_RX12_411 : ps_Lf RX12 411 12 26 := ⟨_, _, _, rfl, by decide, Or.inl ps_w9_65⟩
theorem kf_RX12_395 : ps_Lf RX12 395 12 43 := ⟨_, _, _, rfl, by decide, Or.inl ps_w9_82⟩
theorem kq_12_26 {a b : String} : ps_Lq a b 12 26 := fun C T N h => by cases h; exact Or.inl rfl
theorem kf_RX12_516 : ps_Lf RX12 516 12 52 := ⟨_, _, _, rfl, by decide, Or.inl ps_w9_91⟩
theorem kq_12_52 {a b : String} : ps_Lq a b 12 52 := fun C T N h => by cases h; exact Or.inl rfl
theorem kf_RX12_492 : ps_Lf RX12 492 12 41 := ⟨_, _, _, rfl, by decide, Or.inl ps_w9_80⟩
theorem kq_12_41 {a b : String} : ps_Lq a b 12 41 := fun C T N h => by cases h; exact Or.inl rfl
theorem kf_RX12_495 : ps_Lf RX12 495 12 42 := ⟨_, _, _, rfl, by decide, Or.inl ps_w9_81⟩
theorem kq_12_42 {a b : String} : ps_Lq a b 12 42 := fun C T N h => by cases h; exact Or.inl rfl
theorem kq_12_43 {a b : String} : ps_Lq a b 12 43 := fun C T N h => by cases h; exact Or.inl rfl
theorem kq_12_19 {a b : String} : ps_Lq a b 12 19 := fun C T N h => by cases h; exact Or.inl rfl
theorem kq_12_20 {a b : String} : ps_Lq a b 12 20 := fun C T N h => by cases h; exact Or.inl rfl
theorem kf_RX12_227 : ps_Lf RX12 227 12 3 := ⟨_, _, _, rfl, by decide, Or.inl ps_w9_42⟩
theorem kq_12_3 {a b : String} : ps_Lq a b 12 3 := fun C T N h => by cases h; exact Or.inl rfl
theorem kq_12_4 {a b : String} : ps_Lq a b 12 4 := fun C T N h => by cases h; exact Or.inl rfl
theorem kq_12_5 {a b : String} : ps_Lq a b 12 5 := fun C T N h => by cases h; exact Or.inl rfl
theorem kf_RX12_592 : ps_Lf RX12 592 12 7 := ⟨_, _, _, rfl, by decide, Or.inl ps_w9_46⟩
theorem kq_12_7 {a b : String} : ps_Lq a b 12 7 := fun C T N h => by cases h; exact Or.inl rfl
theorem kf_RX12_598 : ps_Lf RX12 598 12 73 := ⟨_, _, _, rfl, by decide, Or.inl ps_w9_112⟩
theorem kq_12_73 {a b : String} : ps_Lq a b 12 73 := fun C T N h => by cases h; exact Or.inl rfl
theorem kf_RX12_616 : ps_Lf RX12 616 12 75 := ⟨_, _, _, rfl, by decide, Or.inl ps_w9_114⟩
theorem kq_12_75 {a b : String} : ps_Lq a b 12 75 := fun C T N h => by cases h; exact Or.inl rfl
theorem kf_RX12_622 : ps_Lf RX12 622 12 76 := ⟨_, _, _, rfl, by decide, Or.inl ps_w9_115⟩
theorem kq_12_76 {a b : String} : ps_Lq a b 12 76 := fun C T N h => by cases h; exact Or.inl rfl
theorem kf_RX12_625 : ps_Lf RX12 625 12 77 := ⟨_, _, _, rfl, by decide, Or.inl ps_w9_116⟩
theorem kq_12_77 {a b : String} : ps_Lq a b 12 77 := fun C T N h => by cases h; exact Or.inl rfl
theorem kf_RX12_696 : ps_Lf RX12 696 12 84 := ⟨_, _, _, rfl, by decide, Or.inl ps_w9_123⟩
theorem kf_RX12_693 : ps_Lf RX12 693 12 83 := ⟨_, _, _, rfl, by decide, Or.inl ps_w9_122⟩
theorem kf_RX12_667 : ps_Lf RX12 667 12 79 := ⟨_, _, _, rfl, by decide, Or.inl ps_w9_118⟩
theorem kq_12_79 {a b : String} : ps_Lq a b 12 79 := fun C T N h => by cases h; exact Or.inl rfl
theorem kf_RX12_670 : ps_Lf RX12 670 12 82 := ⟨_, _, _, rfl, by decide, Or.inl ps_w9_121⟩
theorem kq_12_82 {a b : String} : ps_Lq a b 12 82 := fun C T N h => by cases h; exact Or.inl rfl
theorem kf_RX12_673 : ps_Lf RX12 673 12 86 := ⟨_, _, _, rfl, by decide, Or.inl ps_w9_125⟩
theorem kq_12_86 {a b : String} : ps_Lq a b 12 86 := fun C T N h => by cases h; exact Or.inl rfl
theorem kf_RX12_690 : ps_Lf RX12 690 12 85 := ⟨_, _, _, rfl, by decide, Or.inl ps_w9_124⟩
theorem kq_12_83 {a b : String} : ps_Lq a b 12 83 := fun C T N h => by cases h; exact Or.inl rfl
theorem kq_12_84 {a b : String} : ps_Lq a b 12 84 := fun C T N h => by cases h; exact Or.inl rfl
theorem kq_12_85 {a b : String} : ps_Lq a b 12 85 := fun C T N h => by cases h; exact Or.inl rfl
theorem kf_RX12_737 : ps_Lf RX12 737 12 93 := ⟨_, _, _, rfl, by decide, Or.inl ps_w9_132⟩
theorem kq_12_93 {a b : String} : ps_Lq a b 12 93 := fun C T N h => by cases h; exact Or.inl rfl
theorem kf_RX12_709 : ps_Lf RX12 709 12 89 := ⟨_, _, _, rfl, by decide, Or.inl ps_w9_128⟩
theorem kq_12_89 {a b : String} : ps_Lq a b 12 89 := fun C T N h => by cases h; exact Or.inl rfl
theorem kf_RX12_702 : ps_Lf RX12 702 12 87 := ⟨_, _, _, rfl, by decide, Or.inl ps_w9_126⟩
theorem kq_12_87 {a b : String} : ps_Lq a b 12 87 := fun C T N h => by cases h; exact Or.inl rfl
theorem kf_RX12_699 : ps_Lf RX12 699 12 88 := ⟨_, _, _, rfl, by decide, Or.inl ps_w9_127⟩
theorem kq_12_88 {a b : String} : ps_Lq a b 12 88 := fun C T N h => by cases h; exact Or.inl rfl
