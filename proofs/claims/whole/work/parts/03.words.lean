theorem s_OS_slotOf : Cond.selects R_OS y_OS_slotOf y_OS_slotOf ∈ zW := zin_0 (List.mem_of_getElem? (i := 0) rfl) rfl
theorem s_OS_countStaged : Cond.selects R_OS y_OS_countStaged y_OS_countStaged ∈ zW := zin_0 (List.mem_of_getElem? (i := 1) rfl) rfl
theorem s_OS_isRefused : Cond.selects R_OS y_OS_isRefused y_OS_isRefused ∈ zW := zin_0 (List.mem_of_getElem? (i := 2) rfl) rfl
theorem s_OS_isOutputOfAnother : Cond.selects R_OS y_OS_isOutputOfAnother y_OS_isOutputOfAnother ∈ zW := zin_0 (List.mem_of_getElem? (i := 3) rfl) rfl
theorem s_OS_targetAt : Cond.selects R_OS y_OS_targetAt y_OS_targetAt ∈ zW := zin_0 (List.mem_of_getElem? (i := 4) rfl) rfl
theorem s_OS_isStagedAgainst : Cond.selects R_OS y_OS_isStagedAgainst y_OS_isStagedAgainst ∈ zW := zin_0 (List.mem_of_getElem? (i := 5) rfl) rfl
theorem s_OS_replaceOutputs : Cond.selects R_OS y_OS_replaceOutputs y_OS_replaceOutputs ∈ zW := zin_0 (List.mem_of_getElem? (i := 6) rfl) rfl
theorem s_OS_dropStaged : Cond.selects R_OS y_OS_dropStaged y_OS_dropStaged ∈ zW := zin_0 (List.mem_of_getElem? (i := 7) rfl) rfl
theorem s_OS_storedAt : Cond.selects R_OS y_OS_storedAt y_OS_storedAt ∈ zW := zin_0 (List.mem_of_getElem? (i := 8) rfl) rfl
theorem s_MO_isPath : Cond.selects R_MO y_MO_isPath y_MO_isPath ∈ zW := zin_0 (List.mem_of_getElem? (i := 9) rfl) rfl
theorem s_MO_isOpenStep : Cond.selects R_MO y_MO_isOpenStep y_MO_isOpenStep ∈ zW := zin_0 (List.mem_of_getElem? (i := 10) rfl) rfl
theorem s_MO_placeOf : Cond.selects R_MO y_MO_placeOf y_MO_placeOf ∈ zW := zin_0 (List.mem_of_getElem? (i := 11) rfl) rfl
theorem s_MO_meetsOutput : Cond.selects R_MO y_MO_meetsOutput y_MO_meetsOutput ∈ zW := zin_0 (List.mem_of_getElem? (i := 12) rfl) rfl
theorem s_MO_meet : Cond.selects R_MO y_MO_meet y_MO_meet ∈ zW := zin_0 (List.mem_of_getElem? (i := 13) rfl) rfl
theorem s_MO_isWithin : Cond.selects R_MO y_MO_isWithin y_MO_isWithin ∈ zW := zin_0 (List.mem_of_getElem? (i := 14) rfl) rfl
theorem s_MO_meetsStaged : Cond.selects R_MO y_MO_meetsStaged y_MO_meetsStaged ∈ zW := zin_0 (List.mem_of_getElem? (i := 15) rfl) rfl
theorem s_MO_isCached : Cond.selects R_MO y_MO_isCached y_MO_isCached ∈ zW := zin_0 (List.mem_of_getElem? (i := 16) rfl) rfl
theorem s_MO_goOld : Cond.selects R_MO y_MO_goOld y_MO_goOld ∈ zW := zin_0 (List.mem_of_getElem? (i := 17) rfl) rfl
theorem s_MO_isOutput : Cond.selects R_MO y_MO_isOutput y_MO_isOutput ∈ zW := zin_0 (List.mem_of_getElem? (i := 18) rfl) rfl
theorem s_MO_gather : Cond.selects R_MO y_MO_gather y_MO_gather ∈ zW := zin_0 (List.mem_of_getElem? (i := 19) rfl) rfl
theorem s_MO_meets : Cond.selects R_MO y_MO_meets y_MO_meets ∈ zW := zin_0 (List.mem_of_getElem? (i := 20) rfl) rfl
theorem in_PT : ∀ w ∈ u_ws R_PT F_PT 2, w ∈ zW := by decide +kernel
theorem in_SB : ∀ w ∈ u_ws R_SB F_SB 5, w ∈ zW := by decide +kernel
theorem in_LT : ∀ w ∈ u_ws R_LT F_LT 4, w ∈ zW := by decide +kernel
theorem in_CS : ∀ w ∈ u_ws R_CS F_CS 2, w ∈ zW := by decide +kernel
theorem in_HB : ∀ w ∈ u_ws R_HB F_HB 2, w ∈ zW := by decide +kernel
theorem in_DM : ∀ w ∈ u_ws R_DM F_DM 1, w ∈ zW := by decide +kernel
theorem in_OS : ∀ w ∈ u_ws R_OS F_OS 8, w ∈ zW := by decide +kernel
theorem in_MO : ∀ w ∈ u_ws R_MO F_MO 24, w ∈ zW := by decide +kernel
theorem k_1_1 : Cond.initialized "OutputStore" ∈ zW := zin_1 (List.mem_of_getElem? (i := 1) rfl) rfl
theorem k_1_2 : Cond.initialized "OutputStore$PathTree" ∈ zW := zin_1 (List.mem_of_getElem? (i := 2) rfl) rfl
theorem k_1_3 : Cond.initialized "OutputStore$StepBook" ∈ zW := zin_1 (List.mem_of_getElem? (i := 3) rfl) rfl
theorem k_1_4 : Cond.initialized "OutputStore$LinkTable" ∈ zW := zin_1 (List.mem_of_getElem? (i := 4) rfl) rfl
theorem k_1_5 : Cond.initialized "OutputStore$CachedSet" ∈ zW := zin_1 (List.mem_of_getElem? (i := 5) rfl) rfl
theorem k_1_6 : Cond.initialized "OutputStore$HoldBook" ∈ zW := zin_1 (List.mem_of_getElem? (i := 6) rfl) rfl
theorem k_1_7 : Cond.initialized "OutputStore$DirtyMarks" ∈ zW := zin_1 (List.mem_of_getElem? (i := 7) rfl) rfl
theorem k_1_8 : Cond.initialized "OutputStoreModel" ∈ zW := zin_1 (List.mem_of_getElem? (i := 8) rfl) rfl
theorem k_1_14 : Cond.methodLink "OutputStore" 3 (⟨"java/lang/Object", "<init>", "()V"⟩ : MethodName) ∈ zW := zin_1 (List.mem_of_getElem? (i := 14) rfl) rfl
theorem k_1_15 : Cond.instanceMethod (⟨"java/lang/Object", "<init>", "()V"⟩ : MethodName) ∈ zW := zin_1 (List.mem_of_getElem? (i := 15) rfl) rfl
theorem k_1_16 : Cond.code (⟨"java/lang/Object", "<init>", "()V"⟩ : MethodName) object_method_1_code 1 (Option.none : Option Jvm.ClassFile.FieldType) ∈ zW := zin_1 (List.mem_of_getElem? (i := 16) rfl) rfl
theorem k_1_17 : Cond.classLink "OutputStore" 9 "OutputStore$PathTree" ∈ zW := zin_1 (List.mem_of_getElem? (i := 17) rfl) rfl
theorem k_1_18 : Cond.instantiable "OutputStore$PathTree" 2 ∈ zW := zin_1 (List.mem_of_getElem? (i := 18) rfl) rfl
theorem k_1_20 : Cond.instanceMethod (⟨"OutputStore$PathTree", "<init>", "()V"⟩ : MethodName) ∈ zW := zin_1 (List.mem_of_getElem? (i := 20) rfl) rfl
theorem k_1_22 : Cond.methodLink "OutputStore$PathTree" 3 (⟨"java/lang/Object", "<init>", "()V"⟩ : MethodName) ∈ zW := zin_1 (List.mem_of_getElem? (i := 22) rfl) rfl
theorem k_1_23 : Cond.fieldLink "OutputStore$PathTree" 9 "OutputStore$PathTree" "outer" "[I" ∈ zW := zin_1 (List.mem_of_getElem? (i := 23) rfl) rfl
theorem k_1_24 : Cond.fieldLink "OutputStore$PathTree" 15 "OutputStore$PathTree" "count" "I" ∈ zW := zin_1 (List.mem_of_getElem? (i := 24) rfl) rfl
theorem k_1_30 : Cond.arrayClass Jvm.ClassFile.FieldType.int ∈ zW := zin_1 (List.mem_of_getElem? (i := 30) rfl) rfl
theorem k_1_31 : Cond.classLink "OutputStore" 16 "OutputStore$StepBook" ∈ zW := zin_1 (List.mem_of_getElem? (i := 31) rfl) rfl
theorem k_1_32 : Cond.instantiable "OutputStore$StepBook" 5 ∈ zW := zin_1 (List.mem_of_getElem? (i := 32) rfl) rfl
theorem k_1_34 : Cond.instanceMethod (⟨"OutputStore$StepBook", "<init>", "()V"⟩ : MethodName) ∈ zW := zin_1 (List.mem_of_getElem? (i := 34) rfl) rfl
theorem k_1_36 : Cond.methodLink "OutputStore$StepBook" 3 (⟨"java/lang/Object", "<init>", "()V"⟩ : MethodName) ∈ zW := zin_1 (List.mem_of_getElem? (i := 36) rfl) rfl
theorem k_1_37 : Cond.fieldLink "OutputStore$StepBook" 9 "OutputStore$StepBook" "targets" "[I" ∈ zW := zin_1 (List.mem_of_getElem? (i := 37) rfl) rfl
theorem k_1_38 : Cond.fieldLink "OutputStore$StepBook" 15 "OutputStore$StepBook" "configurations" "[I" ∈ zW := zin_1 (List.mem_of_getElem? (i := 38) rfl) rfl
theorem k_1_39 : Cond.fieldLink "OutputStore$StepBook" 18 "OutputStore$StepBook" "runs" "[I" ∈ zW := zin_1 (List.mem_of_getElem? (i := 39) rfl) rfl
theorem k_1_40 : Cond.fieldLink "OutputStore$StepBook" 21 "OutputStore$StepBook" "opened" "[Z" ∈ zW := zin_1 (List.mem_of_getElem? (i := 40) rfl) rfl
theorem k_1_41 : Cond.fieldLink "OutputStore$StepBook" 25 "OutputStore$StepBook" "count" "I" ∈ zW := zin_1 (List.mem_of_getElem? (i := 41) rfl) rfl
theorem k_1_53 : Cond.arrayClass Jvm.ClassFile.FieldType.boolean ∈ zW := zin_1 (List.mem_of_getElem? (i := 53) rfl) rfl
theorem k_1_54 : Cond.classLink "OutputStore" 23 "OutputStore$LinkTable" ∈ zW := zin_1 (List.mem_of_getElem? (i := 54) rfl) rfl
theorem k_1_55 : Cond.instantiable "OutputStore$LinkTable" 4 ∈ zW := zin_1 (List.mem_of_getElem? (i := 55) rfl) rfl
theorem k_1_57 : Cond.instanceMethod (⟨"OutputStore$LinkTable", "<init>", "()V"⟩ : MethodName) ∈ zW := zin_1 (List.mem_of_getElem? (i := 57) rfl) rfl
theorem k_1_59 : Cond.methodLink "OutputStore$LinkTable" 3 (⟨"java/lang/Object", "<init>", "()V"⟩ : MethodName) ∈ zW := zin_1 (List.mem_of_getElem? (i := 59) rfl) rfl
theorem k_1_60 : Cond.fieldLink "OutputStore$LinkTable" 9 "OutputStore$LinkTable" "contents" "[J" ∈ zW := zin_1 (List.mem_of_getElem? (i := 60) rfl) rfl
theorem k_1_61 : Cond.fieldLink "OutputStore$LinkTable" 15 "OutputStore$LinkTable" "makers" "[I" ∈ zW := zin_1 (List.mem_of_getElem? (i := 61) rfl) rfl
theorem k_1_62 : Cond.fieldLink "OutputStore$LinkTable" 19 "OutputStore$LinkTable" "executables" "[Z" ∈ zW := zin_1 (List.mem_of_getElem? (i := 62) rfl) rfl
theorem k_1_63 : Cond.fieldLink "OutputStore$LinkTable" 23 "OutputStore$LinkTable" "lazies" "[Z" ∈ zW := zin_1 (List.mem_of_getElem? (i := 63) rfl) rfl
theorem k_1_73 : Cond.arrayClass Jvm.ClassFile.FieldType.long ∈ zW := zin_1 (List.mem_of_getElem? (i := 73) rfl) rfl
theorem k_1_74 : Cond.classLink "OutputStore" 33 "OutputStore$CachedSet" ∈ zW := zin_1 (List.mem_of_getElem? (i := 74) rfl) rfl
theorem k_1_75 : Cond.instantiable "OutputStore$CachedSet" 2 ∈ zW := zin_1 (List.mem_of_getElem? (i := 75) rfl) rfl
theorem k_1_77 : Cond.instanceMethod (⟨"OutputStore$CachedSet", "<init>", "()V"⟩ : MethodName) ∈ zW := zin_1 (List.mem_of_getElem? (i := 77) rfl) rfl
theorem k_1_79 : Cond.methodLink "OutputStore$CachedSet" 3 (⟨"java/lang/Object", "<init>", "()V"⟩ : MethodName) ∈ zW := zin_1 (List.mem_of_getElem? (i := 79) rfl) rfl
theorem k_1_80 : Cond.fieldLink "OutputStore$CachedSet" 9 "OutputStore$CachedSet" "contents" "[J" ∈ zW := zin_1 (List.mem_of_getElem? (i := 80) rfl) rfl
theorem k_1_81 : Cond.fieldLink "OutputStore$CachedSet" 15 "OutputStore$CachedSet" "count" "I" ∈ zW := zin_1 (List.mem_of_getElem? (i := 81) rfl) rfl
theorem k_1_87 : Cond.classLink "OutputStore" 40 "OutputStore$HoldBook" ∈ zW := zin_1 (List.mem_of_getElem? (i := 87) rfl) rfl
theorem k_1_88 : Cond.instantiable "OutputStore$HoldBook" 2 ∈ zW := zin_1 (List.mem_of_getElem? (i := 88) rfl) rfl
theorem k_1_90 : Cond.instanceMethod (⟨"OutputStore$HoldBook", "<init>", "()V"⟩ : MethodName) ∈ zW := zin_1 (List.mem_of_getElem? (i := 90) rfl) rfl
theorem k_1_92 : Cond.methodLink "OutputStore$HoldBook" 3 (⟨"java/lang/Object", "<init>", "()V"⟩ : MethodName) ∈ zW := zin_1 (List.mem_of_getElem? (i := 92) rfl) rfl
theorem k_1_93 : Cond.fieldLink "OutputStore$HoldBook" 9 "OutputStore$HoldBook" "contents" "[J" ∈ zW := zin_1 (List.mem_of_getElem? (i := 93) rfl) rfl
theorem k_1_94 : Cond.fieldLink "OutputStore$HoldBook" 15 "OutputStore$HoldBook" "count" "I" ∈ zW := zin_1 (List.mem_of_getElem? (i := 94) rfl) rfl
theorem k_1_100 : Cond.classLink "OutputStore" 47 "OutputStore$DirtyMarks" ∈ zW := zin_1 (List.mem_of_getElem? (i := 100) rfl) rfl
theorem k_1_101 : Cond.instantiable "OutputStore$DirtyMarks" 1 ∈ zW := zin_1 (List.mem_of_getElem? (i := 101) rfl) rfl
theorem k_1_103 : Cond.instanceMethod (⟨"OutputStore$DirtyMarks", "<init>", "()V"⟩ : MethodName) ∈ zW := zin_1 (List.mem_of_getElem? (i := 103) rfl) rfl
theorem k_1_105 : Cond.methodLink "OutputStore$DirtyMarks" 3 (⟨"java/lang/Object", "<init>", "()V"⟩ : MethodName) ∈ zW := zin_1 (List.mem_of_getElem? (i := 105) rfl) rfl
theorem k_1_106 : Cond.fieldLink "OutputStore$DirtyMarks" 9 "OutputStore$DirtyMarks" "marks" "[Z" ∈ zW := zin_1 (List.mem_of_getElem? (i := 106) rfl) rfl
theorem k_1_110 : Cond.fieldLink "OutputStore" 12 "OutputStore" "paths" "LOutputStore$PathTree;" ∈ zW := zin_1 (List.mem_of_getElem? (i := 110) rfl) rfl
theorem k_1_111 : Cond.fieldLink "OutputStore" 19 "OutputStore" "steps" "LOutputStore$StepBook;" ∈ zW := zin_1 (List.mem_of_getElem? (i := 111) rfl) rfl
theorem k_1_112 : Cond.fieldLink "OutputStore" 26 "OutputStore" "outputs" "LOutputStore$LinkTable;" ∈ zW := zin_1 (List.mem_of_getElem? (i := 112) rfl) rfl
theorem k_1_113 : Cond.fieldLink "OutputStore" 30 "OutputStore" "staged" "LOutputStore$LinkTable;" ∈ zW := zin_1 (List.mem_of_getElem? (i := 113) rfl) rfl
theorem k_1_114 : Cond.fieldLink "OutputStore" 36 "OutputStore" "cached" "LOutputStore$CachedSet;" ∈ zW := zin_1 (List.mem_of_getElem? (i := 114) rfl) rfl
theorem k_1_115 : Cond.fieldLink "OutputStore" 43 "OutputStore" "holds" "LOutputStore$HoldBook;" ∈ zW := zin_1 (List.mem_of_getElem? (i := 115) rfl) rfl
theorem k_1_116 : Cond.fieldLink "OutputStore" 50 "OutputStore" "dirtyMarks" "LOutputStore$DirtyMarks;" ∈ zW := zin_1 (List.mem_of_getElem? (i := 116) rfl) rfl
theorem k_1_117 : Cond.fieldLink "OutputStore" 54 "OutputStore" "different" "[J" ∈ zW := zin_1 (List.mem_of_getElem? (i := 117) rfl) rfl
theorem k_1_139 : Cond.methodLink "OutputStore" 58 (⟨"OutputStore$PathTree", "grow", "(I)I"⟩ : MethodName) ∈ zW := zin_1 (List.mem_of_getElem? (i := 139) rfl) rfl
theorem k_1_140 : Cond.instanceMethod (⟨"OutputStore$PathTree", "grow", "(I)I"⟩ : MethodName) ∈ zW := zin_1 (List.mem_of_getElem? (i := 140) rfl) rfl
theorem k_1_141 : Cond.selects "OutputStore$PathTree" (⟨"OutputStore$PathTree", "grow", "(I)I"⟩ : MethodName) (⟨"OutputStore$PathTree", "grow", "(I)I"⟩ : MethodName) ∈ zW := zin_1 (List.mem_of_getElem? (i := 141) rfl) rfl
theorem k_1_143 : Cond.methodLink "OutputStore$PathTree" 19 (⟨"OutputStore$PathTree", "has", "(I)Z"⟩ : MethodName) ∈ zW := zin_1 (List.mem_of_getElem? (i := 143) rfl) rfl
theorem k_1_144 : Cond.instanceMethod (⟨"OutputStore$PathTree", "has", "(I)Z"⟩ : MethodName) ∈ zW := zin_1 (List.mem_of_getElem? (i := 144) rfl) rfl
theorem k_1_145 : Cond.selects "OutputStore$PathTree" (⟨"OutputStore$PathTree", "has", "(I)Z"⟩ : MethodName) (⟨"OutputStore$PathTree", "has", "(I)Z"⟩ : MethodName) ∈ zW := zin_1 (List.mem_of_getElem? (i := 145) rfl) rfl
theorem k_1_151 : Cond.methodLink "OutputStore" 62 (⟨"OutputStore", "isTarget", "(I)Z"⟩ : MethodName) ∈ zW := zin_1 (List.mem_of_getElem? (i := 151) rfl) rfl
theorem k_1_152 : Cond.static (⟨"OutputStore", "isTarget", "(I)Z"⟩ : MethodName) ∈ zW := zin_1 (List.mem_of_getElem? (i := 152) rfl) rfl
theorem k_1_154 : Cond.methodLink "OutputStore" 66 (⟨"OutputStore", "isConfiguration", "(I)Z"⟩ : MethodName) ∈ zW := zin_1 (List.mem_of_getElem? (i := 154) rfl) rfl
theorem k_1_155 : Cond.static (⟨"OutputStore", "isConfiguration", "(I)Z"⟩ : MethodName) ∈ zW := zin_1 (List.mem_of_getElem? (i := 155) rfl) rfl
theorem k_1_157 : Cond.methodLink "OutputStore" 69 (⟨"OutputStore", "isRun", "(I)Z"⟩ : MethodName) ∈ zW := zin_1 (List.mem_of_getElem? (i := 157) rfl) rfl
theorem k_1_158 : Cond.static (⟨"OutputStore", "isRun", "(I)Z"⟩ : MethodName) ∈ zW := zin_1 (List.mem_of_getElem? (i := 158) rfl) rfl
theorem k_1_160 : Cond.methodLink "OutputStore" 72 (⟨"OutputStore$StepBook", "isFull", "()Z"⟩ : MethodName) ∈ zW := zin_1 (List.mem_of_getElem? (i := 160) rfl) rfl
theorem k_1_161 : Cond.instanceMethod (⟨"OutputStore$StepBook", "isFull", "()Z"⟩ : MethodName) ∈ zW := zin_1 (List.mem_of_getElem? (i := 161) rfl) rfl
theorem k_1_162 : Cond.selects "OutputStore$StepBook" (⟨"OutputStore$StepBook", "isFull", "()Z"⟩ : MethodName) (⟨"OutputStore$StepBook", "isFull", "()Z"⟩ : MethodName) ∈ zW := zin_1 (List.mem_of_getElem? (i := 162) rfl) rfl
theorem k_1_164 : Cond.methodLink "OutputStore" 76 (⟨"OutputStore$StepBook", "hasOpenOne", "(II)Z"⟩ : MethodName) ∈ zW := zin_1 (List.mem_of_getElem? (i := 164) rfl) rfl
theorem k_1_165 : Cond.instanceMethod (⟨"OutputStore$StepBook", "hasOpenOne", "(II)Z"⟩ : MethodName) ∈ zW := zin_1 (List.mem_of_getElem? (i := 165) rfl) rfl
theorem k_1_166 : Cond.selects "OutputStore$StepBook" (⟨"OutputStore$StepBook", "hasOpenOne", "(II)Z"⟩ : MethodName) (⟨"OutputStore$StepBook", "hasOpenOne", "(II)Z"⟩ : MethodName) ∈ zW := zin_1 (List.mem_of_getElem? (i := 166) rfl) rfl
theorem k_1_168 : Cond.methodLink "OutputStore$StepBook" 37 (⟨"OutputStore$StepBook", "isOpen", "(I)Z"⟩ : MethodName) ∈ zW := zin_1 (List.mem_of_getElem? (i := 168) rfl) rfl
theorem k_1_169 : Cond.instanceMethod (⟨"OutputStore$StepBook", "isOpen", "(I)Z"⟩ : MethodName) ∈ zW := zin_1 (List.mem_of_getElem? (i := 169) rfl) rfl
theorem k_1_170 : Cond.selects "OutputStore$StepBook" (⟨"OutputStore$StepBook", "isOpen", "(I)Z"⟩ : MethodName) (⟨"OutputStore$StepBook", "isOpen", "(I)Z"⟩ : MethodName) ∈ zW := zin_1 (List.mem_of_getElem? (i := 170) rfl) rfl
theorem k_1_172 : Cond.methodLink "OutputStore$StepBook" 29 (⟨"OutputStore$StepBook", "has", "(I)Z"⟩ : MethodName) ∈ zW := zin_1 (List.mem_of_getElem? (i := 172) rfl) rfl
theorem k_1_173 : Cond.instanceMethod (⟨"OutputStore$StepBook", "has", "(I)Z"⟩ : MethodName) ∈ zW := zin_1 (List.mem_of_getElem? (i := 173) rfl) rfl
theorem k_1_174 : Cond.selects "OutputStore$StepBook" (⟨"OutputStore$StepBook", "has", "(I)Z"⟩ : MethodName) (⟨"OutputStore$StepBook", "has", "(I)Z"⟩ : MethodName) ∈ zW := zin_1 (List.mem_of_getElem? (i := 174) rfl) rfl
theorem k_1_176 : Cond.methodLink "OutputStore" 80 (⟨"OutputStore$StepBook", "open", "(III)I"⟩ : MethodName) ∈ zW := zin_1 (List.mem_of_getElem? (i := 176) rfl) rfl
theorem k_1_177 : Cond.instanceMethod (⟨"OutputStore$StepBook", "open", "(III)I"⟩ : MethodName) ∈ zW := zin_1 (List.mem_of_getElem? (i := 177) rfl) rfl
theorem k_1_178 : Cond.selects "OutputStore$StepBook" (⟨"OutputStore$StepBook", "open", "(III)I"⟩ : MethodName) (⟨"OutputStore$StepBook", "open", "(III)I"⟩ : MethodName) ∈ zW := zin_1 (List.mem_of_getElem? (i := 178) rfl) rfl
theorem k_1_180 : Cond.methodLink "OutputStore$StepBook" 33 (⟨"OutputStore$StepBook", "isFull", "()Z"⟩ : MethodName) ∈ zW := zin_1 (List.mem_of_getElem? (i := 180) rfl) rfl
theorem k_1_185 : Cond.methodLink "OutputStore" 84 (⟨"OutputStore$StepBook", "isOpen", "(I)Z"⟩ : MethodName) ∈ zW := zin_1 (List.mem_of_getElem? (i := 185) rfl) rfl
theorem k_1_186 : Cond.methodLink "OutputStore" 87 (⟨"OutputStore$PathTree", "has", "(I)Z"⟩ : MethodName) ∈ zW := zin_1 (List.mem_of_getElem? (i := 186) rfl) rfl
theorem k_1_187 : Cond.methodLink "OutputStore" 90 (⟨"OutputStore$StepBook", "configurationOf", "(I)I"⟩ : MethodName) ∈ zW := zin_1 (List.mem_of_getElem? (i := 187) rfl) rfl
theorem k_1_188 : Cond.instanceMethod (⟨"OutputStore$StepBook", "configurationOf", "(I)I"⟩ : MethodName) ∈ zW := zin_1 (List.mem_of_getElem? (i := 188) rfl) rfl
theorem k_1_189 : Cond.selects "OutputStore$StepBook" (⟨"OutputStore$StepBook", "configurationOf", "(I)I"⟩ : MethodName) (⟨"OutputStore$StepBook", "configurationOf", "(I)I"⟩ : MethodName) ∈ zW := zin_1 (List.mem_of_getElem? (i := 189) rfl) rfl
theorem k_1_191 : Cond.methodLink "OutputStore" 93 (⟨"OutputStore", "slotOf", "(II)I"⟩ : MethodName) ∈ zW := zin_1 (List.mem_of_getElem? (i := 191) rfl) rfl
theorem k_1_193 : Cond.instanceMethod (⟨"OutputStore", "slotOf", "(II)I"⟩ : MethodName) ∈ zW := zin_1 (List.mem_of_getElem? (i := 193) rfl) rfl
theorem k_1_195 : Cond.methodLink "OutputStore" 97 (⟨"OutputStore$LinkTable", "isOfStep", "(II)Z"⟩ : MethodName) ∈ zW := zin_1 (List.mem_of_getElem? (i := 195) rfl) rfl
theorem k_1_196 : Cond.instanceMethod (⟨"OutputStore$LinkTable", "isOfStep", "(II)Z"⟩ : MethodName) ∈ zW := zin_1 (List.mem_of_getElem? (i := 196) rfl) rfl
theorem k_1_197 : Cond.selects "OutputStore$LinkTable" (⟨"OutputStore$LinkTable", "isOfStep", "(II)Z"⟩ : MethodName) (⟨"OutputStore$LinkTable", "isOfStep", "(II)Z"⟩ : MethodName) ∈ zW := zin_1 (List.mem_of_getElem? (i := 197) rfl) rfl
theorem k_1_199 : Cond.methodLink "OutputStore$LinkTable" 26 (⟨"OutputStore$LinkTable", "has", "(I)Z"⟩ : MethodName) ∈ zW := zin_1 (List.mem_of_getElem? (i := 199) rfl) rfl
theorem k_1_200 : Cond.instanceMethod (⟨"OutputStore$LinkTable", "has", "(I)Z"⟩ : MethodName) ∈ zW := zin_1 (List.mem_of_getElem? (i := 200) rfl) rfl
theorem k_1_201 : Cond.selects "OutputStore$LinkTable" (⟨"OutputStore$LinkTable", "has", "(I)Z"⟩ : MethodName) (⟨"OutputStore$LinkTable", "has", "(I)Z"⟩ : MethodName) ∈ zW := zin_1 (List.mem_of_getElem? (i := 201) rfl) rfl
theorem k_1_203 : Cond.methodLink "OutputStore" 100 (⟨"OutputStore", "countStaged", "(I)I"⟩ : MethodName) ∈ zW := zin_1 (List.mem_of_getElem? (i := 203) rfl) rfl
theorem k_1_205 : Cond.instanceMethod (⟨"OutputStore", "countStaged", "(I)I"⟩ : MethodName) ∈ zW := zin_1 (List.mem_of_getElem? (i := 205) rfl) rfl
theorem k_1_207 : Cond.methodLink "OutputStore" 103 (⟨"OutputStore", "isRefused", "(II)Z"⟩ : MethodName) ∈ zW := zin_1 (List.mem_of_getElem? (i := 207) rfl) rfl
theorem k_1_209 : Cond.instanceMethod (⟨"OutputStore", "isRefused", "(II)Z"⟩ : MethodName) ∈ zW := zin_1 (List.mem_of_getElem? (i := 209) rfl) rfl
theorem k_1_211 : Cond.methodLink "OutputStore" 190 (⟨"OutputStore", "isOutputOfAnother", "(II)Z"⟩ : MethodName) ∈ zW := zin_1 (List.mem_of_getElem? (i := 211) rfl) rfl
theorem k_1_213 : Cond.instanceMethod (⟨"OutputStore", "isOutputOfAnother", "(II)Z"⟩ : MethodName) ∈ zW := zin_1 (List.mem_of_getElem? (i := 213) rfl) rfl
theorem k_1_215 : Cond.methodLink "OutputStore" 134 (⟨"OutputStore$LinkTable", "has", "(I)Z"⟩ : MethodName) ∈ zW := zin_1 (List.mem_of_getElem? (i := 215) rfl) rfl
theorem k_1_216 : Cond.methodLink "OutputStore" 142 (⟨"OutputStore", "targetAt", "(I)I"⟩ : MethodName) ∈ zW := zin_1 (List.mem_of_getElem? (i := 216) rfl) rfl
theorem k_1_218 : Cond.instanceMethod (⟨"OutputStore", "targetAt", "(I)I"⟩ : MethodName) ∈ zW := zin_1 (List.mem_of_getElem? (i := 218) rfl) rfl
theorem k_1_220 : Cond.methodLink "OutputStore" 168 (⟨"OutputStore$LinkTable", "stepAt", "(I)I"⟩ : MethodName) ∈ zW := zin_1 (List.mem_of_getElem? (i := 220) rfl) rfl
theorem k_1_221 : Cond.instanceMethod (⟨"OutputStore$LinkTable", "stepAt", "(I)I"⟩ : MethodName) ∈ zW := zin_1 (List.mem_of_getElem? (i := 221) rfl) rfl
theorem k_1_222 : Cond.selects "OutputStore$LinkTable" (⟨"OutputStore$LinkTable", "stepAt", "(I)I"⟩ : MethodName) (⟨"OutputStore$LinkTable", "stepAt", "(I)I"⟩ : MethodName) ∈ zW := zin_1 (List.mem_of_getElem? (i := 222) rfl) rfl
theorem k_1_224 : Cond.methodLink "OutputStore" 200 (⟨"OutputStore$StepBook", "targetOf", "(I)I"⟩ : MethodName) ∈ zW := zin_1 (List.mem_of_getElem? (i := 224) rfl) rfl
theorem k_1_225 : Cond.instanceMethod (⟨"OutputStore$StepBook", "targetOf", "(I)I"⟩ : MethodName) ∈ zW := zin_1 (List.mem_of_getElem? (i := 225) rfl) rfl
theorem k_1_226 : Cond.selects "OutputStore$StepBook" (⟨"OutputStore$StepBook", "targetOf", "(I)I"⟩ : MethodName) (⟨"OutputStore$StepBook", "targetOf", "(I)I"⟩ : MethodName) ∈ zW := zin_1 (List.mem_of_getElem? (i := 226) rfl) rfl
theorem k_1_228 : Cond.methodLink "OutputStore" 193 (⟨"OutputStore", "isStagedAgainst", "(IIZ)Z"⟩ : MethodName) ∈ zW := zin_1 (List.mem_of_getElem? (i := 228) rfl) rfl
theorem k_1_230 : Cond.instanceMethod (⟨"OutputStore", "isStagedAgainst", "(IIZ)Z"⟩ : MethodName) ∈ zW := zin_1 (List.mem_of_getElem? (i := 230) rfl) rfl
theorem k_1_232 : Cond.methodLink "OutputStore" 197 (⟨"OutputStore$PathTree", "meet", "(II)Z"⟩ : MethodName) ∈ zW := zin_1 (List.mem_of_getElem? (i := 232) rfl) rfl
theorem k_1_233 : Cond.instanceMethod (⟨"OutputStore$PathTree", "meet", "(II)Z"⟩ : MethodName) ∈ zW := zin_1 (List.mem_of_getElem? (i := 233) rfl) rfl
theorem k_1_234 : Cond.selects "OutputStore$PathTree" (⟨"OutputStore$PathTree", "meet", "(II)Z"⟩ : MethodName) (⟨"OutputStore$PathTree", "meet", "(II)Z"⟩ : MethodName) ∈ zW := zin_1 (List.mem_of_getElem? (i := 234) rfl) rfl
theorem k_1_236 : Cond.methodLink "OutputStore$PathTree" 23 (⟨"OutputStore$PathTree", "isAtOrWithin", "(II)Z"⟩ : MethodName) ∈ zW := zin_1 (List.mem_of_getElem? (i := 236) rfl) rfl
theorem k_1_237 : Cond.instanceMethod (⟨"OutputStore$PathTree", "isAtOrWithin", "(II)Z"⟩ : MethodName) ∈ zW := zin_1 (List.mem_of_getElem? (i := 237) rfl) rfl
theorem k_1_238 : Cond.selects "OutputStore$PathTree" (⟨"OutputStore$PathTree", "isAtOrWithin", "(II)Z"⟩ : MethodName) (⟨"OutputStore$PathTree", "isAtOrWithin", "(II)Z"⟩ : MethodName) ∈ zW := zin_1 (List.mem_of_getElem? (i := 238) rfl) rfl
theorem k_2_0 : Cond.methodLink "OutputStore" 106 (⟨"OutputStore$CachedSet", "has", "(J)Z"⟩ : MethodName) ∈ zW := zin_2 (List.mem_of_getElem? (i := 0) rfl) rfl
theorem k_2_1 : Cond.instanceMethod (⟨"OutputStore$CachedSet", "has", "(J)Z"⟩ : MethodName) ∈ zW := zin_2 (List.mem_of_getElem? (i := 1) rfl) rfl
theorem k_2_2 : Cond.selects "OutputStore$CachedSet" (⟨"OutputStore$CachedSet", "has", "(J)Z"⟩ : MethodName) (⟨"OutputStore$CachedSet", "has", "(J)Z"⟩ : MethodName) ∈ zW := zin_2 (List.mem_of_getElem? (i := 2) rfl) rfl
theorem k_2_5 : Cond.static (⟨"OutputStore", "find", "([JIJ)I"⟩ : MethodName) ∈ zW := zin_2 (List.mem_of_getElem? (i := 5) rfl) rfl
theorem k_2_7 : Cond.methodLink "OutputStore" 109 (⟨"OutputStore$LinkTable", "put", "(IIJZZ)V"⟩ : MethodName) ∈ zW := zin_2 (List.mem_of_getElem? (i := 7) rfl) rfl
theorem k_2_8 : Cond.instanceMethod (⟨"OutputStore$LinkTable", "put", "(IIJZZ)V"⟩ : MethodName) ∈ zW := zin_2 (List.mem_of_getElem? (i := 8) rfl) rfl
theorem k_2_9 : Cond.selects "OutputStore$LinkTable" (⟨"OutputStore$LinkTable", "put", "(IIJZZ)V"⟩ : MethodName) (⟨"OutputStore$LinkTable", "put", "(IIJZZ)V"⟩ : MethodName) ∈ zW := zin_2 (List.mem_of_getElem? (i := 9) rfl) rfl
theorem k_2_15 : Cond.methodLink "OutputStore" 113 (⟨"OutputStore", "replaceOutputs", "(I)I"⟩ : MethodName) ∈ zW := zin_2 (List.mem_of_getElem? (i := 15) rfl) rfl
theorem k_2_17 : Cond.instanceMethod (⟨"OutputStore", "replaceOutputs", "(I)I"⟩ : MethodName) ∈ zW := zin_2 (List.mem_of_getElem? (i := 17) rfl) rfl
theorem k_2_19 : Cond.methodLink "OutputStore" 135 (⟨"OutputStore$LinkTable", "contentAt", "(I)J"⟩ : MethodName) ∈ zW := zin_2 (List.mem_of_getElem? (i := 19) rfl) rfl
theorem k_2_20 : Cond.instanceMethod (⟨"OutputStore$LinkTable", "contentAt", "(I)J"⟩ : MethodName) ∈ zW := zin_2 (List.mem_of_getElem? (i := 20) rfl) rfl
theorem k_2_21 : Cond.selects "OutputStore$LinkTable" (⟨"OutputStore$LinkTable", "contentAt", "(I)J"⟩ : MethodName) (⟨"OutputStore$LinkTable", "contentAt", "(I)J"⟩ : MethodName) ∈ zW := zin_2 (List.mem_of_getElem? (i := 21) rfl) rfl
theorem k_2_23 : Cond.methodLink "OutputStore" 165 (⟨"OutputStore$LinkTable", "isExecutable", "(I)Z"⟩ : MethodName) ∈ zW := zin_2 (List.mem_of_getElem? (i := 23) rfl) rfl
theorem k_2_24 : Cond.instanceMethod (⟨"OutputStore$LinkTable", "isExecutable", "(I)Z"⟩ : MethodName) ∈ zW := zin_2 (List.mem_of_getElem? (i := 24) rfl) rfl
theorem k_2_25 : Cond.selects "OutputStore$LinkTable" (⟨"OutputStore$LinkTable", "isExecutable", "(I)Z"⟩ : MethodName) (⟨"OutputStore$LinkTable", "isExecutable", "(I)Z"⟩ : MethodName) ∈ zW := zin_2 (List.mem_of_getElem? (i := 25) rfl) rfl
theorem k_2_27 : Cond.methodLink "OutputStore" 139 (⟨"OutputStore$LinkTable", "isLazy", "(I)Z"⟩ : MethodName) ∈ zW := zin_2 (List.mem_of_getElem? (i := 27) rfl) rfl
theorem k_2_28 : Cond.instanceMethod (⟨"OutputStore$LinkTable", "isLazy", "(I)Z"⟩ : MethodName) ∈ zW := zin_2 (List.mem_of_getElem? (i := 28) rfl) rfl
theorem k_2_29 : Cond.selects "OutputStore$LinkTable" (⟨"OutputStore$LinkTable", "isLazy", "(I)Z"⟩ : MethodName) (⟨"OutputStore$LinkTable", "isLazy", "(I)Z"⟩ : MethodName) ∈ zW := zin_2 (List.mem_of_getElem? (i := 29) rfl) rfl
theorem k_2_31 : Cond.methodLink "OutputStore" 149 (⟨"OutputStore$LinkTable", "drop", "(I)V"⟩ : MethodName) ∈ zW := zin_2 (List.mem_of_getElem? (i := 31) rfl) rfl
theorem k_2_32 : Cond.instanceMethod (⟨"OutputStore$LinkTable", "drop", "(I)V"⟩ : MethodName) ∈ zW := zin_2 (List.mem_of_getElem? (i := 32) rfl) rfl
theorem k_2_33 : Cond.selects "OutputStore$LinkTable" (⟨"OutputStore$LinkTable", "drop", "(I)V"⟩ : MethodName) (⟨"OutputStore$LinkTable", "drop", "(I)V"⟩ : MethodName) ∈ zW := zin_2 (List.mem_of_getElem? (i := 33) rfl) rfl
theorem k_2_35 : Cond.methodLink "OutputStore" 145 (⟨"OutputStore$DirtyMarks", "set", "(IIZ)V"⟩ : MethodName) ∈ zW := zin_2 (List.mem_of_getElem? (i := 35) rfl) rfl
theorem k_2_36 : Cond.instanceMethod (⟨"OutputStore$DirtyMarks", "set", "(IIZ)V"⟩ : MethodName) ∈ zW := zin_2 (List.mem_of_getElem? (i := 36) rfl) rfl
theorem k_2_37 : Cond.selects "OutputStore$DirtyMarks" (⟨"OutputStore$DirtyMarks", "set", "(IIZ)V"⟩ : MethodName) (⟨"OutputStore$DirtyMarks", "set", "(IIZ)V"⟩ : MethodName) ∈ zW := zin_2 (List.mem_of_getElem? (i := 37) rfl) rfl
theorem k_2_41 : Cond.methodLink "OutputStore" 116 (⟨"OutputStore", "dropStaged", "(I)V"⟩ : MethodName) ∈ zW := zin_2 (List.mem_of_getElem? (i := 41) rfl) rfl
theorem k_2_43 : Cond.instanceMethod (⟨"OutputStore", "dropStaged", "(I)V"⟩ : MethodName) ∈ zW := zin_2 (List.mem_of_getElem? (i := 43) rfl) rfl
theorem k_2_45 : Cond.methodLink "OutputStore" 120 (⟨"OutputStore$StepBook", "close", "(I)V"⟩ : MethodName) ∈ zW := zin_2 (List.mem_of_getElem? (i := 45) rfl) rfl
theorem k_2_46 : Cond.instanceMethod (⟨"OutputStore$StepBook", "close", "(I)V"⟩ : MethodName) ∈ zW := zin_2 (List.mem_of_getElem? (i := 46) rfl) rfl
theorem k_2_47 : Cond.selects "OutputStore$StepBook" (⟨"OutputStore$StepBook", "close", "(I)V"⟩ : MethodName) (⟨"OutputStore$StepBook", "close", "(I)V"⟩ : MethodName) ∈ zW := zin_2 (List.mem_of_getElem? (i := 47) rfl) rfl
theorem k_2_53 : Cond.methodLink "OutputStore" 123 (⟨"OutputStore$StepBook", "runOf", "(I)I"⟩ : MethodName) ∈ zW := zin_2 (List.mem_of_getElem? (i := 53) rfl) rfl
theorem k_2_54 : Cond.instanceMethod (⟨"OutputStore$StepBook", "runOf", "(I)I"⟩ : MethodName) ∈ zW := zin_2 (List.mem_of_getElem? (i := 54) rfl) rfl
theorem k_2_55 : Cond.selects "OutputStore$StepBook" (⟨"OutputStore$StepBook", "runOf", "(I)I"⟩ : MethodName) (⟨"OutputStore$StepBook", "runOf", "(I)I"⟩ : MethodName) ∈ zW := zin_2 (List.mem_of_getElem? (i := 55) rfl) rfl
theorem k_2_61 : Cond.methodLink "OutputStore" 126 (⟨"OutputStore$CachedSet", "include", "(J)Z"⟩ : MethodName) ∈ zW := zin_2 (List.mem_of_getElem? (i := 61) rfl) rfl
theorem k_2_62 : Cond.instanceMethod (⟨"OutputStore$CachedSet", "include", "(J)Z"⟩ : MethodName) ∈ zW := zin_2 (List.mem_of_getElem? (i := 62) rfl) rfl
theorem k_2_63 : Cond.selects "OutputStore$CachedSet" (⟨"OutputStore$CachedSet", "include", "(J)Z"⟩ : MethodName) (⟨"OutputStore$CachedSet", "include", "(J)Z"⟩ : MethodName) ∈ zW := zin_2 (List.mem_of_getElem? (i := 63) rfl) rfl
theorem k_2_65 : Cond.methodLink "OutputStore$CachedSet" 23 (⟨"OutputStore$CachedSet", "has", "(J)Z"⟩ : MethodName) ∈ zW := zin_2 (List.mem_of_getElem? (i := 65) rfl) rfl
theorem k_2_66 : Cond.methodLink "OutputStore" 129 (⟨"OutputStore$CachedSet", "exclude", "(J)V"⟩ : MethodName) ∈ zW := zin_2 (List.mem_of_getElem? (i := 66) rfl) rfl
theorem k_2_67 : Cond.instanceMethod (⟨"OutputStore$CachedSet", "exclude", "(J)V"⟩ : MethodName) ∈ zW := zin_2 (List.mem_of_getElem? (i := 67) rfl) rfl
theorem k_2_68 : Cond.selects "OutputStore$CachedSet" (⟨"OutputStore$CachedSet", "exclude", "(J)V"⟩ : MethodName) (⟨"OutputStore$CachedSet", "exclude", "(J)V"⟩ : MethodName) ∈ zW := zin_2 (List.mem_of_getElem? (i := 68) rfl) rfl
theorem k_2_74 : Cond.methodLink "OutputStore" 133 (⟨"OutputStore$HoldBook", "isFull", "()Z"⟩ : MethodName) ∈ zW := zin_2 (List.mem_of_getElem? (i := 74) rfl) rfl
theorem k_2_75 : Cond.instanceMethod (⟨"OutputStore$HoldBook", "isFull", "()Z"⟩ : MethodName) ∈ zW := zin_2 (List.mem_of_getElem? (i := 75) rfl) rfl
theorem k_2_76 : Cond.selects "OutputStore$HoldBook" (⟨"OutputStore$HoldBook", "isFull", "()Z"⟩ : MethodName) (⟨"OutputStore$HoldBook", "isFull", "()Z"⟩ : MethodName) ∈ zW := zin_2 (List.mem_of_getElem? (i := 76) rfl) rfl
theorem k_2_78 : Cond.methodLink "OutputStore" 152 (⟨"OutputStore$LinkTable", "makeThere", "(I)V"⟩ : MethodName) ∈ zW := zin_2 (List.mem_of_getElem? (i := 78) rfl) rfl
theorem k_2_79 : Cond.instanceMethod (⟨"OutputStore$LinkTable", "makeThere", "(I)V"⟩ : MethodName) ∈ zW := zin_2 (List.mem_of_getElem? (i := 79) rfl) rfl
theorem k_2_80 : Cond.selects "OutputStore$LinkTable" (⟨"OutputStore$LinkTable", "makeThere", "(I)V"⟩ : MethodName) (⟨"OutputStore$LinkTable", "makeThere", "(I)V"⟩ : MethodName) ∈ zW := zin_2 (List.mem_of_getElem? (i := 80) rfl) rfl
theorem k_2_82 : Cond.methodLink "OutputStore" 155 (⟨"OutputStore$HoldBook", "take", "(J)I"⟩ : MethodName) ∈ zW := zin_2 (List.mem_of_getElem? (i := 82) rfl) rfl
theorem k_2_83 : Cond.instanceMethod (⟨"OutputStore$HoldBook", "take", "(J)I"⟩ : MethodName) ∈ zW := zin_2 (List.mem_of_getElem? (i := 83) rfl) rfl
theorem k_2_84 : Cond.selects "OutputStore$HoldBook" (⟨"OutputStore$HoldBook", "take", "(J)I"⟩ : MethodName) (⟨"OutputStore$HoldBook", "take", "(J)I"⟩ : MethodName) ∈ zW := zin_2 (List.mem_of_getElem? (i := 84) rfl) rfl
theorem k_2_86 : Cond.methodLink "OutputStore$HoldBook" 19 (⟨"OutputStore$HoldBook", "isFull", "()Z"⟩ : MethodName) ∈ zW := zin_2 (List.mem_of_getElem? (i := 86) rfl) rfl
theorem k_2_91 : Cond.methodLink "OutputStore" 159 (⟨"OutputStore$HoldBook", "contentOf", "(I)J"⟩ : MethodName) ∈ zW := zin_2 (List.mem_of_getElem? (i := 91) rfl) rfl
theorem k_2_92 : Cond.instanceMethod (⟨"OutputStore$HoldBook", "contentOf", "(I)J"⟩ : MethodName) ∈ zW := zin_2 (List.mem_of_getElem? (i := 92) rfl) rfl
theorem k_2_93 : Cond.selects "OutputStore$HoldBook" (⟨"OutputStore$HoldBook", "contentOf", "(I)J"⟩ : MethodName) (⟨"OutputStore$HoldBook", "contentOf", "(I)J"⟩ : MethodName) ∈ zW := zin_2 (List.mem_of_getElem? (i := 93) rfl) rfl
theorem k_2_95 : Cond.methodLink "OutputStore$HoldBook" 23 (⟨"OutputStore$HoldBook", "has", "(I)Z"⟩ : MethodName) ∈ zW := zin_2 (List.mem_of_getElem? (i := 95) rfl) rfl
theorem k_2_96 : Cond.instanceMethod (⟨"OutputStore$HoldBook", "has", "(I)Z"⟩ : MethodName) ∈ zW := zin_2 (List.mem_of_getElem? (i := 96) rfl) rfl
theorem k_2_97 : Cond.selects "OutputStore$HoldBook" (⟨"OutputStore$HoldBook", "has", "(I)Z"⟩ : MethodName) (⟨"OutputStore$HoldBook", "has", "(I)Z"⟩ : MethodName) ∈ zW := zin_2 (List.mem_of_getElem? (i := 97) rfl) rfl
theorem k_2_103 : Cond.methodLink "OutputStore" 162 (⟨"OutputStore$HoldBook", "release", "(I)Z"⟩ : MethodName) ∈ zW := zin_2 (List.mem_of_getElem? (i := 103) rfl) rfl
theorem k_2_104 : Cond.instanceMethod (⟨"OutputStore$HoldBook", "release", "(I)Z"⟩ : MethodName) ∈ zW := zin_2 (List.mem_of_getElem? (i := 104) rfl) rfl
theorem k_2_105 : Cond.selects "OutputStore$HoldBook" (⟨"OutputStore$HoldBook", "release", "(I)Z"⟩ : MethodName) (⟨"OutputStore$HoldBook", "release", "(I)Z"⟩ : MethodName) ∈ zW := zin_2 (List.mem_of_getElem? (i := 105) rfl) rfl
theorem k_2_119 : Cond.methodLink "OutputStore" 171 (⟨"OutputStore$PathTree", "isAtOrWithin", "(II)Z"⟩ : MethodName) ∈ zW := zin_2 (List.mem_of_getElem? (i := 119) rfl) rfl
theorem k_2_124 : Cond.methodLink "OutputStore" 174 (⟨"OutputStore$DirtyMarks", "get", "(II)Z"⟩ : MethodName) ∈ zW := zin_2 (List.mem_of_getElem? (i := 124) rfl) rfl
theorem k_2_125 : Cond.instanceMethod (⟨"OutputStore$DirtyMarks", "get", "(II)Z"⟩ : MethodName) ∈ zW := zin_2 (List.mem_of_getElem? (i := 125) rfl) rfl
theorem k_2_126 : Cond.selects "OutputStore$DirtyMarks" (⟨"OutputStore$DirtyMarks", "get", "(II)Z"⟩ : MethodName) (⟨"OutputStore$DirtyMarks", "get", "(II)Z"⟩ : MethodName) ∈ zW := zin_2 (List.mem_of_getElem? (i := 126) rfl) rfl
theorem k_2_132 : Cond.methodLink "OutputStore" 177 (⟨"OutputStore$StepBook", "hasOpenOneIn", "(I)Z"⟩ : MethodName) ∈ zW := zin_2 (List.mem_of_getElem? (i := 132) rfl) rfl
theorem k_2_133 : Cond.instanceMethod (⟨"OutputStore$StepBook", "hasOpenOneIn", "(I)Z"⟩ : MethodName) ∈ zW := zin_2 (List.mem_of_getElem? (i := 133) rfl) rfl
theorem k_2_134 : Cond.selects "OutputStore$StepBook" (⟨"OutputStore$StepBook", "hasOpenOneIn", "(I)Z"⟩ : MethodName) (⟨"OutputStore$StepBook", "hasOpenOneIn", "(I)Z"⟩ : MethodName) ∈ zW := zin_2 (List.mem_of_getElem? (i := 134) rfl) rfl
theorem k_2_140 : Cond.methodLink "OutputStore" 180 (⟨"OutputStore", "storedAt", "(I)J"⟩ : MethodName) ∈ zW := zin_2 (List.mem_of_getElem? (i := 140) rfl) rfl
theorem k_2_142 : Cond.instanceMethod (⟨"OutputStore", "storedAt", "(I)J"⟩ : MethodName) ∈ zW := zin_2 (List.mem_of_getElem? (i := 142) rfl) rfl
theorem k_2_144 : Cond.methodLink "OutputStore" 187 (⟨"OutputStore$LinkTable", "storedIn", "(I)J"⟩ : MethodName) ∈ zW := zin_2 (List.mem_of_getElem? (i := 144) rfl) rfl
theorem k_2_145 : Cond.instanceMethod (⟨"OutputStore$LinkTable", "storedIn", "(I)J"⟩ : MethodName) ∈ zW := zin_2 (List.mem_of_getElem? (i := 145) rfl) rfl
theorem k_2_146 : Cond.selects "OutputStore$LinkTable" (⟨"OutputStore$LinkTable", "storedIn", "(I)J"⟩ : MethodName) (⟨"OutputStore$LinkTable", "storedIn", "(I)J"⟩ : MethodName) ∈ zW := zin_2 (List.mem_of_getElem? (i := 146) rfl) rfl
theorem k_2_148 : Cond.methodLink "OutputStore$LinkTable" 30 (⟨"OutputStore$LinkTable", "isLazy", "(I)Z"⟩ : MethodName) ∈ zW := zin_2 (List.mem_of_getElem? (i := 148) rfl) rfl
theorem k_2_149 : Cond.methodLink "OutputStore$LinkTable" 33 (⟨"OutputStore$LinkTable", "contentAt", "(I)J"⟩ : MethodName) ∈ zW := zin_2 (List.mem_of_getElem? (i := 149) rfl) rfl
theorem k_2_154 : Cond.methodLink "OutputStore" 183 (⟨"OutputStore", "find", "([JIJ)I"⟩ : MethodName) ∈ zW := zin_2 (List.mem_of_getElem? (i := 154) rfl) rfl
theorem k_2_160 : Cond.methodLink "OutputStoreModel" 1 (⟨"java/lang/Object", "<init>", "()V"⟩ : MethodName) ∈ zW := zin_2 (List.mem_of_getElem? (i := 160) rfl) rfl
theorem k_2_161 : Cond.fieldLink "OutputStoreModel" 69 "OutputStoreModel" "paths" "I" ∈ zW := zin_2 (List.mem_of_getElem? (i := 161) rfl) rfl
theorem k_2_162 : Cond.fieldLink "OutputStoreModel" 73 "OutputStoreModel" "steps" "I" ∈ zW := zin_2 (List.mem_of_getElem? (i := 162) rfl) rfl
theorem k_2_163 : Cond.fieldLink "OutputStoreModel" 90 "OutputStoreModel" "cached" "I" ∈ zW := zin_2 (List.mem_of_getElem? (i := 163) rfl) rfl
theorem k_2_164 : Cond.fieldLink "OutputStoreModel" 114 "OutputStoreModel" "holds" "I" ∈ zW := zin_2 (List.mem_of_getElem? (i := 164) rfl) rfl
theorem k_2_165 : Cond.fieldLink "OutputStoreModel" 7 "OutputStoreModel" "inside" "[I" ∈ zW := zin_2 (List.mem_of_getElem? (i := 165) rfl) rfl
theorem k_2_166 : Cond.fieldLink "OutputStoreModel" 13 "OutputStoreModel" "owner" "[I" ∈ zW := zin_2 (List.mem_of_getElem? (i := 166) rfl) rfl
theorem k_2_167 : Cond.fieldLink "OutputStoreModel" 16 "OutputStoreModel" "maker" "[I" ∈ zW := zin_2 (List.mem_of_getElem? (i := 167) rfl) rfl
theorem k_2_168 : Cond.fieldLink "OutputStoreModel" 19 "OutputStoreModel" "content" "[J" ∈ zW := zin_2 (List.mem_of_getElem? (i := 168) rfl) rfl
theorem k_2_169 : Cond.fieldLink "OutputStoreModel" 23 "OutputStoreModel" "runs" "[Z" ∈ zW := zin_2 (List.mem_of_getElem? (i := 169) rfl) rfl
theorem k_2_170 : Cond.fieldLink "OutputStoreModel" 27 "OutputStoreModel" "isThere" "[Z" ∈ zW := zin_2 (List.mem_of_getElem? (i := 170) rfl) rfl
theorem k_2_171 : Cond.fieldLink "OutputStoreModel" 30 "OutputStoreModel" "target" "[I" ∈ zW := zin_2 (List.mem_of_getElem? (i := 171) rfl) rfl
theorem k_2_172 : Cond.fieldLink "OutputStoreModel" 33 "OutputStoreModel" "place" "[I" ∈ zW := zin_2 (List.mem_of_getElem? (i := 172) rfl) rfl
theorem k_2_173 : Cond.fieldLink "OutputStoreModel" 36 "OutputStoreModel" "run" "[I" ∈ zW := zin_2 (List.mem_of_getElem? (i := 173) rfl) rfl
theorem k_2_174 : Cond.fieldLink "OutputStoreModel" 39 "OutputStoreModel" "staged" "[I" ∈ zW := zin_2 (List.mem_of_getElem? (i := 174) rfl) rfl
theorem k_2_175 : Cond.fieldLink "OutputStoreModel" 42 "OutputStoreModel" "isOpen" "[Z" ∈ zW := zin_2 (List.mem_of_getElem? (i := 175) rfl) rfl
theorem k_2_176 : Cond.fieldLink "OutputStoreModel" 45 "OutputStoreModel" "stagedAt" "[I" ∈ zW := zin_2 (List.mem_of_getElem? (i := 176) rfl) rfl
theorem k_2_177 : Cond.fieldLink "OutputStoreModel" 48 "OutputStoreModel" "stagedContent" "[J" ∈ zW := zin_2 (List.mem_of_getElem? (i := 177) rfl) rfl
theorem k_2_178 : Cond.fieldLink "OutputStoreModel" 51 "OutputStoreModel" "stagedRuns" "[Z" ∈ zW := zin_2 (List.mem_of_getElem? (i := 178) rfl) rfl
theorem k_2_179 : Cond.fieldLink "OutputStoreModel" 54 "OutputStoreModel" "stagedLazy" "[Z" ∈ zW := zin_2 (List.mem_of_getElem? (i := 179) rfl) rfl
theorem k_2_180 : Cond.fieldLink "OutputStoreModel" 57 "OutputStoreModel" "isDirty" "[Z" ∈ zW := zin_2 (List.mem_of_getElem? (i := 180) rfl) rfl
theorem k_2_181 : Cond.fieldLink "OutputStoreModel" 60 "OutputStoreModel" "cache" "[J" ∈ zW := zin_2 (List.mem_of_getElem? (i := 181) rfl) rfl
theorem k_2_182 : Cond.fieldLink "OutputStoreModel" 63 "OutputStoreModel" "hold" "[J" ∈ zW := zin_2 (List.mem_of_getElem? (i := 182) rfl) rfl
theorem k_2_183 : Cond.fieldLink "OutputStoreModel" 120 "OutputStoreModel" "met" "I" ∈ zW := zin_2 (List.mem_of_getElem? (i := 183) rfl) rfl
theorem k_2_184 : Cond.fieldLink "OutputStoreModel" 66 "OutputStoreModel" "row" "[J" ∈ zW := zin_2 (List.mem_of_getElem? (i := 184) rfl) rfl
theorem k_2_238 : Cond.methodLink "OutputStoreModel" 76 (⟨"OutputStoreModel", "isPath", "(I)Z"⟩ : MethodName) ∈ zW := zin_2 (List.mem_of_getElem? (i := 238) rfl) rfl
theorem k_3_0 : Cond.instanceMethod (⟨"OutputStoreModel", "isPath", "(I)Z"⟩ : MethodName) ∈ zW := zin_3 (List.mem_of_getElem? (i := 0) rfl) rfl
theorem k_3_6 : Cond.methodLink "OutputStoreModel" 84 (⟨"OutputStoreModel", "within", "(II)Z"⟩ : MethodName) ∈ zW := zin_3 (List.mem_of_getElem? (i := 6) rfl) rfl
theorem k_3_7 : Cond.static (⟨"OutputStoreModel", "within", "(II)Z"⟩ : MethodName) ∈ zW := zin_3 (List.mem_of_getElem? (i := 7) rfl) rfl
theorem k_3_13 : Cond.methodLink "OutputStoreModel" 93 (⟨"OutputStoreModel", "isOpenStep", "(I)Z"⟩ : MethodName) ∈ zW := zin_3 (List.mem_of_getElem? (i := 13) rfl) rfl
theorem k_3_15 : Cond.instanceMethod (⟨"OutputStoreModel", "isOpenStep", "(I)Z"⟩ : MethodName) ∈ zW := zin_3 (List.mem_of_getElem? (i := 15) rfl) rfl
theorem k_3_17 : Cond.methodLink "OutputStoreModel" 96 (⟨"OutputStoreModel", "placeOf", "(II)I"⟩ : MethodName) ∈ zW := zin_3 (List.mem_of_getElem? (i := 17) rfl) rfl
theorem k_3_19 : Cond.instanceMethod (⟨"OutputStoreModel", "placeOf", "(II)I"⟩ : MethodName) ∈ zW := zin_3 (List.mem_of_getElem? (i := 19) rfl) rfl
theorem k_3_21 : Cond.methodLink "OutputStoreModel" 100 (⟨"OutputStoreModel", "meetsOutput", "(II)Z"⟩ : MethodName) ∈ zW := zin_3 (List.mem_of_getElem? (i := 21) rfl) rfl
theorem k_3_23 : Cond.instanceMethod (⟨"OutputStoreModel", "meetsOutput", "(II)Z"⟩ : MethodName) ∈ zW := zin_3 (List.mem_of_getElem? (i := 23) rfl) rfl
theorem k_3_25 : Cond.methodLink "OutputStoreModel" 87 (⟨"OutputStoreModel", "meet", "(II)Z"⟩ : MethodName) ∈ zW := zin_3 (List.mem_of_getElem? (i := 25) rfl) rfl
theorem k_3_27 : Cond.instanceMethod (⟨"OutputStoreModel", "meet", "(II)Z"⟩ : MethodName) ∈ zW := zin_3 (List.mem_of_getElem? (i := 27) rfl) rfl
theorem k_3_29 : Cond.methodLink "OutputStoreModel" 80 (⟨"OutputStoreModel", "isWithin", "(II)Z"⟩ : MethodName) ∈ zW := zin_3 (List.mem_of_getElem? (i := 29) rfl) rfl
theorem k_3_31 : Cond.instanceMethod (⟨"OutputStoreModel", "isWithin", "(II)Z"⟩ : MethodName) ∈ zW := zin_3 (List.mem_of_getElem? (i := 31) rfl) rfl
theorem k_3_33 : Cond.methodLink "OutputStoreModel" 103 (⟨"OutputStoreModel", "meetsStaged", "(II)Z"⟩ : MethodName) ∈ zW := zin_3 (List.mem_of_getElem? (i := 33) rfl) rfl
theorem k_3_35 : Cond.instanceMethod (⟨"OutputStoreModel", "meetsStaged", "(II)Z"⟩ : MethodName) ∈ zW := zin_3 (List.mem_of_getElem? (i := 35) rfl) rfl
theorem k_3_37 : Cond.methodLink "OutputStoreModel" 106 (⟨"OutputStoreModel", "isCached", "(J)Z"⟩ : MethodName) ∈ zW := zin_3 (List.mem_of_getElem? (i := 37) rfl) rfl
theorem k_3_39 : Cond.instanceMethod (⟨"OutputStoreModel", "isCached", "(J)Z"⟩ : MethodName) ∈ zW := zin_3 (List.mem_of_getElem? (i := 39) rfl) rfl
theorem k_3_45 : Cond.methodLink "OutputStoreModel" 110 (⟨"OutputStoreModel", "goOld", "(I)I"⟩ : MethodName) ∈ zW := zin_3 (List.mem_of_getElem? (i := 45) rfl) rfl
theorem k_3_47 : Cond.instanceMethod (⟨"OutputStoreModel", "goOld", "(I)I"⟩ : MethodName) ∈ zW := zin_3 (List.mem_of_getElem? (i := 47) rfl) rfl
theorem k_3_61 : Cond.methodLink "OutputStoreModel" 117 (⟨"OutputStoreModel", "isOutput", "(II)Z"⟩ : MethodName) ∈ zW := zin_3 (List.mem_of_getElem? (i := 61) rfl) rfl
theorem k_3_63 : Cond.instanceMethod (⟨"OutputStoreModel", "isOutput", "(II)Z"⟩ : MethodName) ∈ zW := zin_3 (List.mem_of_getElem? (i := 63) rfl) rfl
theorem k_3_97 : Cond.methodLink "OutputStoreModel" 127 (⟨"OutputStoreModel", "gather", "()V"⟩ : MethodName) ∈ zW := zin_3 (List.mem_of_getElem? (i := 97) rfl) rfl
theorem k_3_99 : Cond.instanceMethod (⟨"OutputStoreModel", "gather", "()V"⟩ : MethodName) ∈ zW := zin_3 (List.mem_of_getElem? (i := 99) rfl) rfl
theorem k_3_101 : Cond.methodLink "OutputStoreModel" 123 (⟨"OutputStoreModel", "meets", "(J)V"⟩ : MethodName) ∈ zW := zin_3 (List.mem_of_getElem? (i := 101) rfl) rfl
theorem k_3_103 : Cond.instanceMethod (⟨"OutputStoreModel", "meets", "(J)V"⟩ : MethodName) ∈ zW := zin_3 (List.mem_of_getElem? (i := 103) rfl) rfl
