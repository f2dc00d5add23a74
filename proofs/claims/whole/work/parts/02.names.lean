def R_PT : String := "OutputStore$PathTree"
def F_PT : u_T := fun k => match k with
  | 0 => ("OutputStore$PathTree", "outer", "[I", true)
  | _ => ("OutputStore$PathTree", "count", "I", false)
def ty_PT : Nat → FieldType := fun k => match k with
  | 0 => .array .int
  | _ => .int
theorem nm_PT : ∀ a, a < 2 → ∀ b, b < 2 → a ≠ b → (F_PT a).2.1 ≠ (F_PT b).2.1 := by decide +kernel
theorem ty_PT_ok : ∀ k, k < 2 → parseFieldDescriptor (F_PT k).2.2.1 = some (ty_PT k) := by decide +kernel
theorem df_PT : ∀ j, j < 2 → defaultValue (ty_PT j) = vp_V [.null, .int 0] j := by decide +kernel
def R_SB : String := "OutputStore$StepBook"
def F_SB : u_T := fun k => match k with
  | 0 => ("OutputStore$StepBook", "targets", "[I", true)
  | 1 => ("OutputStore$StepBook", "configurations", "[I", true)
  | 2 => ("OutputStore$StepBook", "runs", "[I", true)
  | 3 => ("OutputStore$StepBook", "opened", "[Z", true)
  | _ => ("OutputStore$StepBook", "count", "I", false)
def ty_SB : Nat → FieldType := fun k => match k with
  | 0 => .array .int
  | 1 => .array .int
  | 2 => .array .int
  | 3 => .array .boolean
  | _ => .int
theorem nm_SB : ∀ a, a < 5 → ∀ b, b < 5 → a ≠ b → (F_SB a).2.1 ≠ (F_SB b).2.1 := by decide +kernel
theorem ty_SB_ok : ∀ k, k < 5 → parseFieldDescriptor (F_SB k).2.2.1 = some (ty_SB k) := by decide +kernel
theorem df_SB : ∀ j, j < 5 → defaultValue (ty_SB j) = vp_V [.null, .null, .null, .null, .int 0] j := by decide +kernel
def R_LT : String := "OutputStore$LinkTable"
def F_LT : u_T := fun k => match k with
  | 0 => ("OutputStore$LinkTable", "contents", "[J", true)
  | 1 => ("OutputStore$LinkTable", "makers", "[I", true)
  | 2 => ("OutputStore$LinkTable", "executables", "[Z", true)
  | _ => ("OutputStore$LinkTable", "lazies", "[Z", true)
def ty_LT : Nat → FieldType := fun k => match k with
  | 0 => .array .long
  | 1 => .array .int
  | 2 => .array .boolean
  | _ => .array .boolean
theorem nm_LT : ∀ a, a < 4 → ∀ b, b < 4 → a ≠ b → (F_LT a).2.1 ≠ (F_LT b).2.1 := by decide +kernel
theorem ty_LT_ok : ∀ k, k < 4 → parseFieldDescriptor (F_LT k).2.2.1 = some (ty_LT k) := by decide +kernel
theorem df_LT : ∀ j, j < 4 → defaultValue (ty_LT j) = vp_V [.null, .null, .null, .null] j := by decide +kernel
def R_CS : String := "OutputStore$CachedSet"
def F_CS : u_T := fun k => match k with
  | 0 => ("OutputStore$CachedSet", "contents", "[J", true)
  | _ => ("OutputStore$CachedSet", "count", "I", false)
def ty_CS : Nat → FieldType := fun k => match k with
  | 0 => .array .long
  | _ => .int
theorem nm_CS : ∀ a, a < 2 → ∀ b, b < 2 → a ≠ b → (F_CS a).2.1 ≠ (F_CS b).2.1 := by decide +kernel
theorem ty_CS_ok : ∀ k, k < 2 → parseFieldDescriptor (F_CS k).2.2.1 = some (ty_CS k) := by decide +kernel
theorem df_CS : ∀ j, j < 2 → defaultValue (ty_CS j) = vp_V [.null, .int 0] j := by decide +kernel
def R_HB : String := "OutputStore$HoldBook"
def F_HB : u_T := fun k => match k with
  | 0 => ("OutputStore$HoldBook", "contents", "[J", true)
  | _ => ("OutputStore$HoldBook", "count", "I", false)
def ty_HB : Nat → FieldType := fun k => match k with
  | 0 => .array .long
  | _ => .int
theorem nm_HB : ∀ a, a < 2 → ∀ b, b < 2 → a ≠ b → (F_HB a).2.1 ≠ (F_HB b).2.1 := by decide +kernel
theorem ty_HB_ok : ∀ k, k < 2 → parseFieldDescriptor (F_HB k).2.2.1 = some (ty_HB k) := by decide +kernel
theorem df_HB : ∀ j, j < 2 → defaultValue (ty_HB j) = vp_V [.null, .int 0] j := by decide +kernel
def R_DM : String := "OutputStore$DirtyMarks"
def F_DM : u_T := fun k => match k with
  | _ => ("OutputStore$DirtyMarks", "marks", "[Z", true)
def ty_DM : Nat → FieldType := fun k => match k with
  | _ => .array .boolean
theorem nm_DM : ∀ a, a < 1 → ∀ b, b < 1 → a ≠ b → (F_DM a).2.1 ≠ (F_DM b).2.1 := by decide +kernel
theorem ty_DM_ok : ∀ k, k < 1 → parseFieldDescriptor (F_DM k).2.2.1 = some (ty_DM k) := by decide +kernel
theorem df_DM : ∀ j, j < 1 → defaultValue (ty_DM j) = vp_V [.null] j := by decide +kernel
def R_OS : String := "OutputStore"
def F_OS : u_T := fun k => match k with
  | 0 => ("OutputStore", "paths", "LOutputStore$PathTree;", true)
  | 1 => ("OutputStore", "steps", "LOutputStore$StepBook;", true)
  | 2 => ("OutputStore", "outputs", "LOutputStore$LinkTable;", true)
  | 3 => ("OutputStore", "staged", "LOutputStore$LinkTable;", true)
  | 4 => ("OutputStore", "cached", "LOutputStore$CachedSet;", true)
  | 5 => ("OutputStore", "holds", "LOutputStore$HoldBook;", true)
  | 6 => ("OutputStore", "dirtyMarks", "LOutputStore$DirtyMarks;", true)
  | _ => ("OutputStore", "different", "[J", true)
def ty_OS : Nat → FieldType := fun k => match k with
  | 0 => .object "OutputStore$PathTree"
  | 1 => .object "OutputStore$StepBook"
  | 2 => .object "OutputStore$LinkTable"
  | 3 => .object "OutputStore$LinkTable"
  | 4 => .object "OutputStore$CachedSet"
  | 5 => .object "OutputStore$HoldBook"
  | 6 => .object "OutputStore$DirtyMarks"
  | _ => .array .long
theorem nm_OS : ∀ a, a < 8 → ∀ b, b < 8 → a ≠ b → (F_OS a).2.1 ≠ (F_OS b).2.1 := by decide +kernel
theorem ty_OS_ok : ∀ k, k < 8 → parseFieldDescriptor (F_OS k).2.2.1 = some (ty_OS k) := by decide +kernel
theorem df_OS : ∀ j, j < 8 → defaultValue (ty_OS j) = vp_V [.null, .null, .null, .null, .null, .null, .null, .null] j := by decide +kernel
def R_MO : String := "OutputStoreModel"
def F_MO : u_T := fun k => match k with
  | 0 => ("OutputStoreModel", "paths", "I", false)
  | 1 => ("OutputStoreModel", "steps", "I", false)
  | 2 => ("OutputStoreModel", "cached", "I", false)
  | 3 => ("OutputStoreModel", "holds", "I", false)
  | 4 => ("OutputStoreModel", "inside", "[I", true)
  | 5 => ("OutputStoreModel", "owner", "[I", true)
  | 6 => ("OutputStoreModel", "maker", "[I", true)
  | 7 => ("OutputStoreModel", "content", "[J", true)
  | 8 => ("OutputStoreModel", "runs", "[Z", true)
  | 9 => ("OutputStoreModel", "isThere", "[Z", true)
  | 10 => ("OutputStoreModel", "target", "[I", true)
  | 11 => ("OutputStoreModel", "place", "[I", true)
  | 12 => ("OutputStoreModel", "run", "[I", true)
  | 13 => ("OutputStoreModel", "staged", "[I", true)
  | 14 => ("OutputStoreModel", "isOpen", "[Z", true)
  | 15 => ("OutputStoreModel", "stagedAt", "[I", true)
  | 16 => ("OutputStoreModel", "stagedContent", "[J", true)
  | 17 => ("OutputStoreModel", "stagedRuns", "[Z", true)
  | 18 => ("OutputStoreModel", "stagedLazy", "[Z", true)
  | 19 => ("OutputStoreModel", "isDirty", "[Z", true)
  | 20 => ("OutputStoreModel", "cache", "[J", true)
  | 21 => ("OutputStoreModel", "hold", "[J", true)
  | 22 => ("OutputStoreModel", "met", "I", false)
  | _ => ("OutputStoreModel", "row", "[J", true)
def ty_MO : Nat → FieldType := fun k => match k with
  | 0 => .int
  | 1 => .int
  | 2 => .int
  | 3 => .int
  | 4 => .array .int
  | 5 => .array .int
  | 6 => .array .int
  | 7 => .array .long
  | 8 => .array .boolean
  | 9 => .array .boolean
  | 10 => .array .int
  | 11 => .array .int
  | 12 => .array .int
  | 13 => .array .int
  | 14 => .array .boolean
  | 15 => .array .int
  | 16 => .array .long
  | 17 => .array .boolean
  | 18 => .array .boolean
  | 19 => .array .boolean
  | 20 => .array .long
  | 21 => .array .long
  | 22 => .int
  | _ => .array .long
theorem nm_MO : ∀ a, a < 24 → ∀ b, b < 24 → a ≠ b → (F_MO a).2.1 ≠ (F_MO b).2.1 := by decide +kernel
theorem ty_MO_ok : ∀ k, k < 24 → parseFieldDescriptor (F_MO k).2.2.1 = some (ty_MO k) := by decide +kernel
theorem df_MO : ∀ j, j < 24 → defaultValue (ty_MO j) = vp_V [.int 0, .int 0, .int 0, .int 0, .null, .null, .null, .null, .null, .null, .null, .null, .null, .null, .null, .null, .null, .null, .null, .null, .null, .null, .int 0, .null] j := by decide +kernel
abbrev zCl : List vw_C := [(R_PT, F_PT, 2), (R_SB, F_SB, 5), (R_LT, F_LT, 4), (R_CS, F_CS, 2), (R_HB, F_HB, 2), (R_DM, F_DM, 1), (R_OS, F_OS, 8), (R_MO, F_MO, 24)]
/-- the words that every method may use: those of the tables that stay -/
def zW : List Cond := lw_tbl.filter goodWord
theorem zW_in {w : Cond} (h : w ∈ zW) : w ∈ lw_tbl := (List.mem_filter.mp h).1
theorem zW_good {w : Cond} (h : w ∈ zW) : goodWord w = true := (List.mem_filter.mp h).2
theorem zin_1 {w : Cond} (h : w ∈ tables_1_1) (g : goodWord w = true) : w ∈ zW := List.mem_filter.mpr ⟨List.mem_append_right _ (show w ∈ tables_1 from List.mem_append_left _ h), g⟩
theorem zin_2 {w : Cond} (h : w ∈ tables_1_2) (g : goodWord w = true) : w ∈ zW := List.mem_filter.mpr ⟨List.mem_append_right _ (show w ∈ tables_1 from List.mem_append_right _ (List.mem_append_left _ h)), g⟩
theorem zin_3 {w : Cond} (h : w ∈ tables_1_3) (g : goodWord w = true) : w ∈ zW := List.mem_filter.mpr ⟨List.mem_append_right _ (show w ∈ tables_1 from List.mem_append_right _ (List.mem_append_right _ h)), g⟩
theorem zin_0 {w : Cond} (h : w ∈ k2_sels lw_privs) (g : goodWord w = true) : w ∈ zW := List.mem_filter.mpr ⟨List.mem_append_left _ h, g⟩
theorem zsub_c {h : Cond} : ∀ w ∈ zW, w ∈ h :: zW := fun _ h => List.mem_cons_of_mem _ h
theorem zsub_l : ∀ w ∈ zW, w ∈ lw_tbl := fun _ h => zW_in h
theorem zG {big xs : List Cond} (hs : ∀ w ∈ zW, w ∈ big) (h : ∀ w ∈ xs, w ∈ zW) : GoodIn big xs := fun w hw => ⟨hs w (h w hw), good_of_word (zW_good (h w hw))⟩
theorem zGN {big : List Cond} {c : Cond} (hs : ∀ w ∈ zW, w ∈ big) (hc : c ∈ zW) : GoodIn big (c :: zW) := zG hs (fun w hw => by
  rcases List.mem_cons.mp hw with rfl | h
  · exact hc
  · exact h)
theorem zGV {big : List Cond} {own C : String} {idx : Nat} {y : MethodName} {c : Cond} (hs : ∀ w ∈ zW, w ∈ big) (h1 : Cond.methodLink own idx y ∈ zW) (h2 : Cond.instanceMethod y ∈ zW) (h3 : Cond.selects C y y ∈ zW) (h4 : Cond.initialized C ∈ zW) (hc : c ∈ zW) : GoodIn big (wsV own idx C y (c :: zW)) := zG hs (fun w hw => by
  rcases List.mem_append.mp hw with h | h
  · simp only [List.mem_cons, List.not_mem_nil, or_false] at h
    rcases h with rfl | rfl | rfl | rfl <;> assumption
  · rcases List.mem_cons.mp h with rfl | h
    · exact hc
    · exact h)
theorem zGS {big : List Cond} {own : String} {idx : Nat} {y : MethodName} {c : Cond} (hs : ∀ w ∈ zW, w ∈ big) (h1 : Cond.methodLink own idx y ∈ zW) (h2 : Cond.static y ∈ zW) (h3 : Cond.initialized own ∈ zW) (hc : c ∈ zW) : GoodIn big (wsS own idx y (c :: zW)) := zG hs (fun w hw => by
  rcases List.mem_append.mp hw with h | h
  · simp only [List.mem_cons, List.not_mem_nil, or_false] at h
    rcases h with rfl | rfl | rfl <;> assumption
  · rcases List.mem_cons.mp h with rfl | h
    · exact hc
    · exact h)
def zNests : List (String × Nat × MethodName × String) := [("OutputStore", 11, ⟨"OutputStore$PathTree", "<init>", "()V"⟩, "OutputStore"), ("OutputStore", 18, ⟨"OutputStore$StepBook", "<init>", "()V"⟩, "OutputStore"), ("OutputStore", 25, ⟨"OutputStore$LinkTable", "<init>", "()V"⟩, "OutputStore"), ("OutputStore", 35, ⟨"OutputStore$CachedSet", "<init>", "()V"⟩, "OutputStore"), ("OutputStore", 42, ⟨"OutputStore$HoldBook", "<init>", "()V"⟩, "OutputStore"), ("OutputStore", 49, ⟨"OutputStore$DirtyMarks", "<init>", "()V"⟩, "OutputStore"), ("OutputStore$CachedSet", 19, ⟨"OutputStore", "find", "([JIJ)I"⟩, "OutputStore"), ("OutputStore$DirtyMarks", 15, ⟨"OutputStore", "isTarget", "(I)Z"⟩, "OutputStore"), ("OutputStore$DirtyMarks", 19, ⟨"OutputStore", "isConfiguration", "(I)Z"⟩, "OutputStore")]
abbrev b_PT_init : ByteArray := prog_6_method_1_code
def y_PT_init : MethodName := ⟨R_PT, "<init>", "()V"⟩
def ww_PT_init : List Cond := .code y_PT_init b_PT_init 1 none :: zW
theorem kc_PT_init : Cond.code y_PT_init b_PT_init 1 none ∈ zW := zin_1 (List.mem_of_getElem? (i := 21) rfl) rfl
abbrev b_SB_init : ByteArray := prog_7_method_1_code
def y_SB_init : MethodName := ⟨R_SB, "<init>", "()V"⟩
def ww_SB_init : List Cond := .code y_SB_init b_SB_init 1 none :: zW
theorem kc_SB_init : Cond.code y_SB_init b_SB_init 1 none ∈ zW := zin_1 (List.mem_of_getElem? (i := 35) rfl) rfl
abbrev b_LT_init : ByteArray := prog_5_method_1_code
def y_LT_init : MethodName := ⟨R_LT, "<init>", "()V"⟩
def ww_LT_init : List Cond := .code y_LT_init b_LT_init 1 none :: zW
theorem kc_LT_init : Cond.code y_LT_init b_LT_init 1 none ∈ zW := zin_1 (List.mem_of_getElem? (i := 58) rfl) rfl
abbrev b_CS_init : ByteArray := prog_2_method_1_code
def y_CS_init : MethodName := ⟨R_CS, "<init>", "()V"⟩
def ww_CS_init : List Cond := .code y_CS_init b_CS_init 1 none :: zW
theorem kc_CS_init : Cond.code y_CS_init b_CS_init 1 none ∈ zW := zin_1 (List.mem_of_getElem? (i := 78) rfl) rfl
abbrev b_HB_init : ByteArray := prog_4_method_1_code
def y_HB_init : MethodName := ⟨R_HB, "<init>", "()V"⟩
def ww_HB_init : List Cond := .code y_HB_init b_HB_init 1 none :: zW
theorem kc_HB_init : Cond.code y_HB_init b_HB_init 1 none ∈ zW := zin_1 (List.mem_of_getElem? (i := 91) rfl) rfl
abbrev b_DM_init : ByteArray := prog_3_method_1_code
def y_DM_init : MethodName := ⟨R_DM, "<init>", "()V"⟩
def ww_DM_init : List Cond := .code y_DM_init b_DM_init 1 none :: zW
theorem kc_DM_init : Cond.code y_DM_init b_DM_init 1 none ∈ zW := zin_1 (List.mem_of_getElem? (i := 104) rfl) rfl
abbrev b_OS_init : ByteArray := prog_1_method_1_code
def y_OS_init : MethodName := ⟨R_OS, "<init>", "()V"⟩
def ww_OS_init : List Cond := .code y_OS_init b_OS_init 1 none :: zW
theorem kc_OS_init : Cond.code y_OS_init b_OS_init 1 none ∈ zW := zin_1 (List.mem_of_getElem? (i := 13) rfl) rfl
abbrev b_MO_init : ByteArray := prog_9_method_1_code
def y_MO_init : MethodName := ⟨R_MO, "<init>", "()V"⟩
def ww_MO_init : List Cond := .code y_MO_init b_MO_init 1 none :: zW
theorem kc_MO_init : Cond.code y_MO_init b_MO_init 1 none ∈ zW := zin_2 (List.mem_of_getElem? (i := 159) rfl) rfl
abbrev b_PT_has : ByteArray := prog_6_method_2_code
def y_PT_has : MethodName := ⟨R_PT, "has", "(I)Z"⟩
def ww_PT_has : List Cond := .code y_PT_has b_PT_has 2 (some .boolean) :: zW
theorem kc_PT_has : Cond.code y_PT_has b_PT_has 2 (some .boolean) ∈ zW := zin_1 (List.mem_of_getElem? (i := 146) rfl) rfl
abbrev b_PT_grow : ByteArray := prog_6_method_3_code
def y_PT_grow : MethodName := ⟨R_PT, "grow", "(I)I"⟩
def ww_PT_grow : List Cond := .code y_PT_grow b_PT_grow 2 (some .int) :: zW
theorem kc_PT_grow : Cond.code y_PT_grow b_PT_grow 2 (some .int) ∈ zW := zin_1 (List.mem_of_getElem? (i := 142) rfl) rfl
abbrev b_PT_isAtOrWithin : ByteArray := prog_6_method_5_code
def y_PT_isAtOrWithin : MethodName := ⟨R_PT, "isAtOrWithin", "(II)Z"⟩
def ww_PT_isAtOrWithin : List Cond := .code y_PT_isAtOrWithin b_PT_isAtOrWithin 5 (some .boolean) :: zW
theorem kc_PT_isAtOrWithin : Cond.code y_PT_isAtOrWithin b_PT_isAtOrWithin 5 (some .boolean) ∈ zW := zin_1 (List.mem_of_getElem? (i := 239) rfl) rfl
abbrev b_PT_meet : ByteArray := prog_6_method_4_code
def y_PT_meet : MethodName := ⟨R_PT, "meet", "(II)Z"⟩
def ww_PT_meet : List Cond := .code y_PT_meet b_PT_meet 3 (some .boolean) :: zW
theorem kc_PT_meet : Cond.code y_PT_meet b_PT_meet 3 (some .boolean) ∈ zW := zin_1 (List.mem_of_getElem? (i := 235) rfl) rfl
abbrev b_SB_isFull : ByteArray := prog_7_method_2_code
def y_SB_isFull : MethodName := ⟨R_SB, "isFull", "()Z"⟩
def ww_SB_isFull : List Cond := .code y_SB_isFull b_SB_isFull 1 (some .boolean) :: zW
theorem kc_SB_isFull : Cond.code y_SB_isFull b_SB_isFull 1 (some .boolean) ∈ zW := zin_1 (List.mem_of_getElem? (i := 163) rfl) rfl
abbrev b_SB_has : ByteArray := prog_7_method_3_code
def y_SB_has : MethodName := ⟨R_SB, "has", "(I)Z"⟩
def ww_SB_has : List Cond := .code y_SB_has b_SB_has 2 (some .boolean) :: zW
theorem kc_SB_has : Cond.code y_SB_has b_SB_has 2 (some .boolean) ∈ zW := zin_1 (List.mem_of_getElem? (i := 175) rfl) rfl
abbrev b_SB_isOpen : ByteArray := prog_7_method_4_code
def y_SB_isOpen : MethodName := ⟨R_SB, "isOpen", "(I)Z"⟩
def ww_SB_isOpen : List Cond := .code y_SB_isOpen b_SB_isOpen 2 (some .boolean) :: zW
theorem kc_SB_isOpen : Cond.code y_SB_isOpen b_SB_isOpen 2 (some .boolean) ∈ zW := zin_1 (List.mem_of_getElem? (i := 171) rfl) rfl
abbrev b_SB_open : ByteArray := prog_7_method_5_code
def y_SB_open : MethodName := ⟨R_SB, "open", "(III)I"⟩
def ww_SB_open : List Cond := .code y_SB_open b_SB_open 4 (some .int) :: zW
theorem kc_SB_open : Cond.code y_SB_open b_SB_open 4 (some .int) ∈ zW := zin_1 (List.mem_of_getElem? (i := 179) rfl) rfl
abbrev b_SB_close : ByteArray := prog_7_method_6_code
def y_SB_close : MethodName := ⟨R_SB, "close", "(I)V"⟩
def ww_SB_close : List Cond := .code y_SB_close b_SB_close 2 none :: zW
theorem kc_SB_close : Cond.code y_SB_close b_SB_close 2 none ∈ zW := zin_2 (List.mem_of_getElem? (i := 48) rfl) rfl
abbrev b_SB_targetOf : ByteArray := prog_7_method_7_code
def y_SB_targetOf : MethodName := ⟨R_SB, "targetOf", "(I)I"⟩
def ww_SB_targetOf : List Cond := .code y_SB_targetOf b_SB_targetOf 2 (some .int) :: zW
theorem kc_SB_targetOf : Cond.code y_SB_targetOf b_SB_targetOf 2 (some .int) ∈ zW := zin_1 (List.mem_of_getElem? (i := 227) rfl) rfl
abbrev b_SB_configurationOf : ByteArray := prog_7_method_8_code
def y_SB_configurationOf : MethodName := ⟨R_SB, "configurationOf", "(I)I"⟩
def ww_SB_configurationOf : List Cond := .code y_SB_configurationOf b_SB_configurationOf 2 (some .int) :: zW
theorem kc_SB_configurationOf : Cond.code y_SB_configurationOf b_SB_configurationOf 2 (some .int) ∈ zW := zin_1 (List.mem_of_getElem? (i := 190) rfl) rfl
abbrev b_SB_runOf : ByteArray := prog_7_method_9_code
def y_SB_runOf : MethodName := ⟨R_SB, "runOf", "(I)I"⟩
def ww_SB_runOf : List Cond := .code y_SB_runOf b_SB_runOf 2 (some .int) :: zW
theorem kc_SB_runOf : Cond.code y_SB_runOf b_SB_runOf 2 (some .int) ∈ zW := zin_2 (List.mem_of_getElem? (i := 56) rfl) rfl
abbrev b_SB_hasOpenOne : ByteArray := prog_7_method_10_code
def y_SB_hasOpenOne : MethodName := ⟨R_SB, "hasOpenOne", "(II)Z"⟩
def ww_SB_hasOpenOne : List Cond := .code y_SB_hasOpenOne b_SB_hasOpenOne 4 (some .boolean) :: zW
theorem kc_SB_hasOpenOne : Cond.code y_SB_hasOpenOne b_SB_hasOpenOne 4 (some .boolean) ∈ zW := zin_1 (List.mem_of_getElem? (i := 167) rfl) rfl
abbrev b_SB_hasOpenOneIn : ByteArray := prog_7_method_11_code
def y_SB_hasOpenOneIn : MethodName := ⟨R_SB, "hasOpenOneIn", "(I)Z"⟩
def ww_SB_hasOpenOneIn : List Cond := .code y_SB_hasOpenOneIn b_SB_hasOpenOneIn 3 (some .boolean) :: zW
theorem kc_SB_hasOpenOneIn : Cond.code y_SB_hasOpenOneIn b_SB_hasOpenOneIn 3 (some .boolean) ∈ zW := zin_2 (List.mem_of_getElem? (i := 135) rfl) rfl
abbrev b_LT_has : ByteArray := prog_5_method_2_code
def y_LT_has : MethodName := ⟨R_LT, "has", "(I)Z"⟩
def ww_LT_has : List Cond := .code y_LT_has b_LT_has 2 (some .boolean) :: zW
theorem kc_LT_has : Cond.code y_LT_has b_LT_has 2 (some .boolean) ∈ zW := zin_1 (List.mem_of_getElem? (i := 202) rfl) rfl
abbrev b_LT_put : ByteArray := prog_5_method_3_code
def y_LT_put : MethodName := ⟨R_LT, "put", "(IIJZZ)V"⟩
def ww_LT_put : List Cond := .code y_LT_put b_LT_put 7 none :: zW
theorem kc_LT_put : Cond.code y_LT_put b_LT_put 7 none ∈ zW := zin_2 (List.mem_of_getElem? (i := 10) rfl) rfl
abbrev b_LT_drop : ByteArray := prog_5_method_4_code
def y_LT_drop : MethodName := ⟨R_LT, "drop", "(I)V"⟩
def ww_LT_drop : List Cond := .code y_LT_drop b_LT_drop 2 none :: zW
theorem kc_LT_drop : Cond.code y_LT_drop b_LT_drop 2 none ∈ zW := zin_2 (List.mem_of_getElem? (i := 34) rfl) rfl
abbrev b_LT_makeThere : ByteArray := prog_5_method_5_code
def y_LT_makeThere : MethodName := ⟨R_LT, "makeThere", "(I)V"⟩
def ww_LT_makeThere : List Cond := .code y_LT_makeThere b_LT_makeThere 2 none :: zW
theorem kc_LT_makeThere : Cond.code y_LT_makeThere b_LT_makeThere 2 none ∈ zW := zin_2 (List.mem_of_getElem? (i := 81) rfl) rfl
abbrev b_LT_contentAt : ByteArray := prog_5_method_6_code
def y_LT_contentAt : MethodName := ⟨R_LT, "contentAt", "(I)J"⟩
def ww_LT_contentAt : List Cond := .code y_LT_contentAt b_LT_contentAt 2 (some .long) :: zW
theorem kc_LT_contentAt : Cond.code y_LT_contentAt b_LT_contentAt 2 (some .long) ∈ zW := zin_2 (List.mem_of_getElem? (i := 22) rfl) rfl
abbrev b_LT_isLazy : ByteArray := prog_5_method_11_code
def y_LT_isLazy : MethodName := ⟨R_LT, "isLazy", "(I)Z"⟩
def ww_LT_isLazy : List Cond := .code y_LT_isLazy b_LT_isLazy 2 (some .boolean) :: zW
theorem kc_LT_isLazy : Cond.code y_LT_isLazy b_LT_isLazy 2 (some .boolean) ∈ zW := zin_2 (List.mem_of_getElem? (i := 30) rfl) rfl
abbrev b_LT_storedIn : ByteArray := prog_5_method_7_code
def y_LT_storedIn : MethodName := ⟨R_LT, "storedIn", "(I)J"⟩
def ww_LT_storedIn : List Cond := .code y_LT_storedIn b_LT_storedIn 2 (some .long) :: zW
theorem kc_LT_storedIn : Cond.code y_LT_storedIn b_LT_storedIn 2 (some .long) ∈ zW := zin_2 (List.mem_of_getElem? (i := 147) rfl) rfl
abbrev b_LT_stepAt : ByteArray := prog_5_method_8_code
def y_LT_stepAt : MethodName := ⟨R_LT, "stepAt", "(I)I"⟩
def ww_LT_stepAt : List Cond := .code y_LT_stepAt b_LT_stepAt 2 (some .int) :: zW
theorem kc_LT_stepAt : Cond.code y_LT_stepAt b_LT_stepAt 2 (some .int) ∈ zW := zin_1 (List.mem_of_getElem? (i := 223) rfl) rfl
abbrev b_LT_isOfStep : ByteArray := prog_5_method_9_code
def y_LT_isOfStep : MethodName := ⟨R_LT, "isOfStep", "(II)Z"⟩
def ww_LT_isOfStep : List Cond := .code y_LT_isOfStep b_LT_isOfStep 3 (some .boolean) :: zW
theorem kc_LT_isOfStep : Cond.code y_LT_isOfStep b_LT_isOfStep 3 (some .boolean) ∈ zW := zin_1 (List.mem_of_getElem? (i := 198) rfl) rfl
abbrev b_LT_isExecutable : ByteArray := prog_5_method_10_code
def y_LT_isExecutable : MethodName := ⟨R_LT, "isExecutable", "(I)Z"⟩
def ww_LT_isExecutable : List Cond := .code y_LT_isExecutable b_LT_isExecutable 2 (some .boolean) :: zW
theorem kc_LT_isExecutable : Cond.code y_LT_isExecutable b_LT_isExecutable 2 (some .boolean) ∈ zW := zin_2 (List.mem_of_getElem? (i := 26) rfl) rfl
abbrev b_OS_isTarget : ByteArray := prog_1_method_27_code
def y_OS_isTarget : MethodName := ⟨R_OS, "isTarget", "(I)Z"⟩
def ww_OS_isTarget : List Cond := .code y_OS_isTarget b_OS_isTarget 1 (some .boolean) :: zW
theorem kc_OS_isTarget : Cond.code y_OS_isTarget b_OS_isTarget 1 (some .boolean) ∈ zW := zin_1 (List.mem_of_getElem? (i := 153) rfl) rfl
abbrev b_OS_isConfiguration : ByteArray := prog_1_method_28_code
def y_OS_isConfiguration : MethodName := ⟨R_OS, "isConfiguration", "(I)Z"⟩
def ww_OS_isConfiguration : List Cond := .code y_OS_isConfiguration b_OS_isConfiguration 1 (some .boolean) :: zW
theorem kc_OS_isConfiguration : Cond.code y_OS_isConfiguration b_OS_isConfiguration 1 (some .boolean) ∈ zW := zin_1 (List.mem_of_getElem? (i := 156) rfl) rfl
abbrev b_OS_isRun : ByteArray := prog_1_method_29_code
def y_OS_isRun : MethodName := ⟨R_OS, "isRun", "(I)Z"⟩
def ww_OS_isRun : List Cond := .code y_OS_isRun b_OS_isRun 1 (some .boolean) :: zW
theorem kc_OS_isRun : Cond.code y_OS_isRun b_OS_isRun 1 (some .boolean) ∈ zW := zin_1 (List.mem_of_getElem? (i := 159) rfl) rfl
abbrev b_OS_find : ByteArray := prog_1_method_30_code
def y_OS_find : MethodName := ⟨R_OS, "find", "([JIJ)I"⟩
def ww_OS_find : List Cond := .code y_OS_find b_OS_find 5 (some .int) :: zW
theorem kc_OS_find : Cond.code y_OS_find b_OS_find 5 (some .int) ∈ zW := zin_2 (List.mem_of_getElem? (i := 6) rfl) rfl
abbrev b_CS_has : ByteArray := prog_2_method_2_code
def y_CS_has : MethodName := ⟨R_CS, "has", "(J)Z"⟩
def ww_CS_has : List Cond := .code y_CS_has b_CS_has 3 (some .boolean) :: zW
theorem kc_CS_has : Cond.code y_CS_has b_CS_has 3 (some .boolean) ∈ zW := zin_2 (List.mem_of_getElem? (i := 3) rfl) rfl
abbrev b_CS_include : ByteArray := prog_2_method_3_code
def y_CS_include : MethodName := ⟨R_CS, "include", "(J)Z"⟩
def ww_CS_include : List Cond := .code y_CS_include b_CS_include 3 (some .boolean) :: zW
theorem kc_CS_include : Cond.code y_CS_include b_CS_include 3 (some .boolean) ∈ zW := zin_2 (List.mem_of_getElem? (i := 64) rfl) rfl
abbrev b_CS_exclude : ByteArray := prog_2_method_4_code
def y_CS_exclude : MethodName := ⟨R_CS, "exclude", "(J)V"⟩
def ww_CS_exclude : List Cond := .code y_CS_exclude b_CS_exclude 4 none :: zW
theorem kc_CS_exclude : Cond.code y_CS_exclude b_CS_exclude 4 none ∈ zW := zin_2 (List.mem_of_getElem? (i := 69) rfl) rfl
abbrev b_HB_isFull : ByteArray := prog_4_method_2_code
def y_HB_isFull : MethodName := ⟨R_HB, "isFull", "()Z"⟩
def ww_HB_isFull : List Cond := .code y_HB_isFull b_HB_isFull 1 (some .boolean) :: zW
theorem kc_HB_isFull : Cond.code y_HB_isFull b_HB_isFull 1 (some .boolean) ∈ zW := zin_2 (List.mem_of_getElem? (i := 77) rfl) rfl
abbrev b_HB_take : ByteArray := prog_4_method_3_code
def y_HB_take : MethodName := ⟨R_HB, "take", "(J)I"⟩
def ww_HB_take : List Cond := .code y_HB_take b_HB_take 3 (some .int) :: zW
theorem kc_HB_take : Cond.code y_HB_take b_HB_take 3 (some .int) ∈ zW := zin_2 (List.mem_of_getElem? (i := 85) rfl) rfl
abbrev b_HB_has : ByteArray := prog_4_method_4_code
def y_HB_has : MethodName := ⟨R_HB, "has", "(I)Z"⟩
def ww_HB_has : List Cond := .code y_HB_has b_HB_has 2 (some .boolean) :: zW
theorem kc_HB_has : Cond.code y_HB_has b_HB_has 2 (some .boolean) ∈ zW := zin_2 (List.mem_of_getElem? (i := 98) rfl) rfl
abbrev b_HB_contentOf : ByteArray := prog_4_method_5_code
def y_HB_contentOf : MethodName := ⟨R_HB, "contentOf", "(I)J"⟩
def ww_HB_contentOf : List Cond := .code y_HB_contentOf b_HB_contentOf 2 (some .long) :: zW
theorem kc_HB_contentOf : Cond.code y_HB_contentOf b_HB_contentOf 2 (some .long) ∈ zW := zin_2 (List.mem_of_getElem? (i := 94) rfl) rfl
abbrev b_HB_release : ByteArray := prog_4_method_6_code
def y_HB_release : MethodName := ⟨R_HB, "release", "(I)Z"⟩
def ww_HB_release : List Cond := .code y_HB_release b_HB_release 2 (some .boolean) :: zW
theorem kc_HB_release : Cond.code y_HB_release b_HB_release 2 (some .boolean) ∈ zW := zin_2 (List.mem_of_getElem? (i := 106) rfl) rfl
abbrev b_DM_get : ByteArray := prog_3_method_2_code
def y_DM_get : MethodName := ⟨R_DM, "get", "(II)Z"⟩
def ww_DM_get : List Cond := .code y_DM_get b_DM_get 3 (some .boolean) :: zW
theorem kc_DM_get : Cond.code y_DM_get b_DM_get 3 (some .boolean) ∈ zW := zin_2 (List.mem_of_getElem? (i := 127) rfl) rfl
abbrev b_DM_set : ByteArray := prog_3_method_3_code
def y_DM_set : MethodName := ⟨R_DM, "set", "(IIZ)V"⟩
def ww_DM_set : List Cond := .code y_DM_set b_DM_set 4 none :: zW
theorem kc_DM_set : Cond.code y_DM_set b_DM_set 4 none ∈ zW := zin_2 (List.mem_of_getElem? (i := 38) rfl) rfl
abbrev b_OS_slotOf : ByteArray := prog_1_method_26_code
def y_OS_slotOf : MethodName := ⟨R_OS, "slotOf", "(II)I"⟩
def ww_OS_slotOf : List Cond := .code y_OS_slotOf b_OS_slotOf 3 (some .int) :: zW
theorem kc_OS_slotOf : Cond.code y_OS_slotOf b_OS_slotOf 3 (some .int) ∈ zW := zin_1 (List.mem_of_getElem? (i := 194) rfl) rfl
abbrev b_OS_targetAt : ByteArray := prog_1_method_25_code
def y_OS_targetAt : MethodName := ⟨R_OS, "targetAt", "(I)I"⟩
def ww_OS_targetAt : List Cond := .code y_OS_targetAt b_OS_targetAt 2 (some .int) :: zW
theorem kc_OS_targetAt : Cond.code y_OS_targetAt b_OS_targetAt 2 (some .int) ∈ zW := zin_1 (List.mem_of_getElem? (i := 219) rfl) rfl
abbrev b_OS_dropStaged : ByteArray := prog_1_method_24_code
def y_OS_dropStaged : MethodName := ⟨R_OS, "dropStaged", "(I)V"⟩
def ww_OS_dropStaged : List Cond := .code y_OS_dropStaged b_OS_dropStaged 5 none :: zW
theorem kc_OS_dropStaged : Cond.code y_OS_dropStaged b_OS_dropStaged 5 none ∈ zW := zin_2 (List.mem_of_getElem? (i := 44) rfl) rfl
abbrev b_OS_replaceOutputs : ByteArray := prog_1_method_23_code
def y_OS_replaceOutputs : MethodName := ⟨R_OS, "replaceOutputs", "(I)I"⟩
def ww_OS_replaceOutputs : List Cond := .code y_OS_replaceOutputs b_OS_replaceOutputs 7 (some .int) :: zW
theorem kc_OS_replaceOutputs : Cond.code y_OS_replaceOutputs b_OS_replaceOutputs 7 (some .int) ∈ zW := zin_2 (List.mem_of_getElem? (i := 18) rfl) rfl
abbrev b_OS_countStaged : ByteArray := prog_1_method_22_code
def y_OS_countStaged : MethodName := ⟨R_OS, "countStaged", "(I)I"⟩
def ww_OS_countStaged : List Cond := .code y_OS_countStaged b_OS_countStaged 5 (some .int) :: zW
theorem kc_OS_countStaged : Cond.code y_OS_countStaged b_OS_countStaged 5 (some .int) ∈ zW := zin_1 (List.mem_of_getElem? (i := 206) rfl) rfl
abbrev b_OS_isStagedAgainst : ByteArray := prog_1_method_21_code
def y_OS_isStagedAgainst : MethodName := ⟨R_OS, "isStagedAgainst", "(IIZ)Z"⟩
def ww_OS_isStagedAgainst : List Cond := .code y_OS_isStagedAgainst b_OS_isStagedAgainst 4 (some .boolean) :: zW
theorem kc_OS_isStagedAgainst : Cond.code y_OS_isStagedAgainst b_OS_isStagedAgainst 4 (some .boolean) ∈ zW := zin_1 (List.mem_of_getElem? (i := 231) rfl) rfl
abbrev b_OS_isOutputOfAnother : ByteArray := prog_1_method_20_code
def y_OS_isOutputOfAnother : MethodName := ⟨R_OS, "isOutputOfAnother", "(II)Z"⟩
def ww_OS_isOutputOfAnother : List Cond := .code y_OS_isOutputOfAnother b_OS_isOutputOfAnother 3 (some .boolean) :: zW
theorem kc_OS_isOutputOfAnother : Cond.code y_OS_isOutputOfAnother b_OS_isOutputOfAnother 3 (some .boolean) ∈ zW := zin_1 (List.mem_of_getElem? (i := 214) rfl) rfl
abbrev b_OS_isRefused : ByteArray := prog_1_method_19_code
def y_OS_isRefused : MethodName := ⟨R_OS, "isRefused", "(II)Z"⟩
def ww_OS_isRefused : List Cond := .code y_OS_isRefused b_OS_isRefused 7 (some .boolean) :: zW
theorem kc_OS_isRefused : Cond.code y_OS_isRefused b_OS_isRefused 7 (some .boolean) ∈ zW := zin_1 (List.mem_of_getElem? (i := 210) rfl) rfl
abbrev b_OS_storedAt : ByteArray := prog_1_method_18_code
def y_OS_storedAt : MethodName := ⟨R_OS, "storedAt", "(I)J"⟩
def ww_OS_storedAt : List Cond := .code y_OS_storedAt b_OS_storedAt 2 (some .long) :: zW
theorem kc_OS_storedAt : Cond.code y_OS_storedAt b_OS_storedAt 2 (some .long) ∈ zW := zin_2 (List.mem_of_getElem? (i := 143) rfl) rfl
abbrev b_OS_path : ByteArray := prog_1_method_2_code
def y_OS_path : MethodName := ⟨R_OS, "path", "(I)I"⟩
def ww_OS_path : List Cond := .code y_OS_path b_OS_path 2 (some .int) :: zW
theorem kc_OS_path : Cond.code y_OS_path b_OS_path 2 (some .int) ∈ zW := zin_1 (List.mem_of_getElem? (i := 138) rfl) rfl
abbrev b_OS_begin : ByteArray := prog_1_method_3_code
def y_OS_begin : MethodName := ⟨R_OS, "begin", "(III)I"⟩
def ww_OS_begin : List Cond := .code y_OS_begin b_OS_begin 4 (some .int) :: zW
theorem kc_OS_begin : Cond.code y_OS_begin b_OS_begin 4 (some .int) ∈ zW := zin_1 (List.mem_of_getElem? (i := 150) rfl) rfl
abbrev b_OS_stage : ByteArray := prog_1_method_4_code
def y_OS_stage : MethodName := ⟨R_OS, "stage", "(IIJZZ)I"⟩
def ww_OS_stage : List Cond := .code y_OS_stage b_OS_stage 8 (some .int) :: zW
theorem kc_OS_stage : Cond.code y_OS_stage b_OS_stage 8 (some .int) ∈ zW := zin_1 (List.mem_of_getElem? (i := 184) rfl) rfl
abbrev b_OS_end : ByteArray := prog_1_method_5_code
def y_OS_end : MethodName := ⟨R_OS, "end", "(IZ)I"⟩
def ww_OS_end : List Cond := .code y_OS_end b_OS_end 4 (some .int) :: zW
theorem kc_OS_end : Cond.code y_OS_end b_OS_end 4 (some .int) ∈ zW := zin_2 (List.mem_of_getElem? (i := 14) rfl) rfl
abbrev b_OS_abandon : ByteArray := prog_1_method_6_code
def y_OS_abandon : MethodName := ⟨R_OS, "abandon", "(I)I"⟩
def ww_OS_abandon : List Cond := .code y_OS_abandon b_OS_abandon 4 (some .int) :: zW
theorem kc_OS_abandon : Cond.code y_OS_abandon b_OS_abandon 4 (some .int) ∈ zW := zin_2 (List.mem_of_getElem? (i := 52) rfl) rfl
abbrev b_OS_cache : ByteArray := prog_1_method_7_code
def y_OS_cache : MethodName := ⟨R_OS, "cache", "(JZ)Z"⟩
def ww_OS_cache : List Cond := .code y_OS_cache b_OS_cache 4 (some .boolean) :: zW
theorem kc_OS_cache : Cond.code y_OS_cache b_OS_cache 4 (some .boolean) ∈ zW := zin_2 (List.mem_of_getElem? (i := 60) rfl) rfl
abbrev b_OS_read : ByteArray := prog_1_method_8_code
def y_OS_read : MethodName := ⟨R_OS, "read", "(II)I"⟩
def ww_OS_read : List Cond := .code y_OS_read b_OS_read 6 (some .int) :: zW
theorem kc_OS_read : Cond.code y_OS_read b_OS_read 6 (some .int) ∈ zW := zin_2 (List.mem_of_getElem? (i := 73) rfl) rfl
abbrev b_OS_held : ByteArray := prog_1_method_9_code
def y_OS_held : MethodName := ⟨R_OS, "held", "(I)J"⟩
def ww_OS_held : List Cond := .code y_OS_held b_OS_held 2 (some .long) :: zW
theorem kc_OS_held : Cond.code y_OS_held b_OS_held 2 (some .long) ∈ zW := zin_2 (List.mem_of_getElem? (i := 90) rfl) rfl
abbrev b_OS_letGo : ByteArray := prog_1_method_10_code
def y_OS_letGo : MethodName := ⟨R_OS, "letGo", "(I)Z"⟩
def ww_OS_letGo : List Cond := .code y_OS_letGo b_OS_letGo 2 (some .boolean) :: zW
theorem kc_OS_letGo : Cond.code y_OS_letGo b_OS_letGo 2 (some .boolean) ∈ zW := zin_2 (List.mem_of_getElem? (i := 102) rfl) rfl
abbrev b_OS_content : ByteArray := prog_1_method_11_code
def y_OS_content : MethodName := ⟨R_OS, "content", "(II)J"⟩
def ww_OS_content : List Cond := .code y_OS_content b_OS_content 3 (some .long) :: zW
theorem kc_OS_content : Cond.code y_OS_content b_OS_content 3 (some .long) ∈ zW := zin_2 (List.mem_of_getElem? (i := 110) rfl) rfl
abbrev b_OS_about : ByteArray := prog_1_method_12_code
def y_OS_about : MethodName := ⟨R_OS, "about", "(III)I"⟩
def ww_OS_about : List Cond := .code y_OS_about b_OS_about 5 (some .int) :: zW
theorem kc_OS_about : Cond.code y_OS_about b_OS_about 5 (some .int) ∈ zW := zin_2 (List.mem_of_getElem? (i := 114) rfl) rfl
abbrev b_OS_list : ByteArray := prog_1_method_13_code
def y_OS_list : MethodName := ⟨R_OS, "list", "(III)I"⟩
def ww_OS_list : List Cond := .code y_OS_list b_OS_list 6 (some .int) :: zW
theorem kc_OS_list : Cond.code y_OS_list b_OS_list 6 (some .int) ∈ zW := zin_2 (List.mem_of_getElem? (i := 118) rfl) rfl
abbrev b_OS_dirty : ByteArray := prog_1_method_14_code
def y_OS_dirty : MethodName := ⟨R_OS, "dirty", "(II)Z"⟩
def ww_OS_dirty : List Cond := .code y_OS_dirty b_OS_dirty 3 (some .boolean) :: zW
theorem kc_OS_dirty : Cond.code y_OS_dirty b_OS_dirty 3 (some .boolean) ∈ zW := zin_2 (List.mem_of_getElem? (i := 123) rfl) rfl
abbrev b_OS_clear : ByteArray := prog_1_method_15_code
def y_OS_clear : MethodName := ⟨R_OS, "clear", "(I)I"⟩
def ww_OS_clear : List Cond := .code y_OS_clear b_OS_clear 5 (some .int) :: zW
theorem kc_OS_clear : Cond.code y_OS_clear b_OS_clear 5 (some .int) ∈ zW := zin_2 (List.mem_of_getElem? (i := 131) rfl) rfl
abbrev b_OS_copies : ByteArray := prog_1_method_16_code
def y_OS_copies : MethodName := ⟨R_OS, "copies", "(J)I"⟩
def ww_OS_copies : List Cond := .code y_OS_copies b_OS_copies 5 (some .int) :: zW
theorem kc_OS_copies : Cond.code y_OS_copies b_OS_copies 5 (some .int) ∈ zW := zin_2 (List.mem_of_getElem? (i := 139) rfl) rfl
abbrev b_OS_stored : ByteArray := prog_1_method_17_code
def y_OS_stored : MethodName := ⟨R_OS, "stored", "()I"⟩
def ww_OS_stored : List Cond := .code y_OS_stored b_OS_stored 5 (some .int) :: zW
theorem kc_OS_stored : Cond.code y_OS_stored b_OS_stored 5 (some .int) ∈ zW := zin_2 (List.mem_of_getElem? (i := 153) rfl) rfl
abbrev b_MO_within : ByteArray := prog_9_method_3_code
def y_MO_within : MethodName := ⟨R_MO, "within", "(II)Z"⟩
def ww_MO_within : List Cond := .code y_MO_within b_MO_within 2 (some .boolean) :: zW
theorem kc_MO_within : Cond.code y_MO_within b_MO_within 2 (some .boolean) ∈ zW := zin_3 (List.mem_of_getElem? (i := 8) rfl) rfl
abbrev b_MO_isPath : ByteArray := prog_9_method_4_code
def y_MO_isPath : MethodName := ⟨R_MO, "isPath", "(I)Z"⟩
def ww_MO_isPath : List Cond := .code y_MO_isPath b_MO_isPath 2 (some .boolean) :: zW
theorem kc_MO_isPath : Cond.code y_MO_isPath b_MO_isPath 2 (some .boolean) ∈ zW := zin_3 (List.mem_of_getElem? (i := 1) rfl) rfl
abbrev b_MO_isOpenStep : ByteArray := prog_9_method_5_code
def y_MO_isOpenStep : MethodName := ⟨R_MO, "isOpenStep", "(I)Z"⟩
def ww_MO_isOpenStep : List Cond := .code y_MO_isOpenStep b_MO_isOpenStep 2 (some .boolean) :: zW
theorem kc_MO_isOpenStep : Cond.code y_MO_isOpenStep b_MO_isOpenStep 2 (some .boolean) ∈ zW := zin_3 (List.mem_of_getElem? (i := 16) rfl) rfl
abbrev b_MO_path : ByteArray := prog_9_method_6_code
def y_MO_path : MethodName := ⟨R_MO, "path", "(I)I"⟩
def ww_MO_path : List Cond := .code y_MO_path b_MO_path 2 (some .int) :: zW
theorem kc_MO_path : Cond.code y_MO_path b_MO_path 2 (some .int) ∈ zW := zin_2 (List.mem_of_getElem? (i := 237) rfl) rfl
abbrev b_MO_isWithin : ByteArray := prog_9_method_7_code
def y_MO_isWithin : MethodName := ⟨R_MO, "isWithin", "(II)Z"⟩
def ww_MO_isWithin : List Cond := .code y_MO_isWithin b_MO_isWithin 4 (some .boolean) :: zW
theorem kc_MO_isWithin : Cond.code y_MO_isWithin b_MO_isWithin 4 (some .boolean) ∈ zW := zin_3 (List.mem_of_getElem? (i := 32) rfl) rfl
abbrev b_MO_meet : ByteArray := prog_9_method_8_code
def y_MO_meet : MethodName := ⟨R_MO, "meet", "(II)Z"⟩
def ww_MO_meet : List Cond := .code y_MO_meet b_MO_meet 3 (some .boolean) :: zW
theorem kc_MO_meet : Cond.code y_MO_meet b_MO_meet 3 (some .boolean) ∈ zW := zin_3 (List.mem_of_getElem? (i := 28) rfl) rfl
abbrev b_MO_begin : ByteArray := prog_9_method_9_code
def y_MO_begin : MethodName := ⟨R_MO, "begin", "(III)I"⟩
def ww_MO_begin : List Cond := .code y_MO_begin b_MO_begin 5 (some .int) :: zW
theorem kc_MO_begin : Cond.code y_MO_begin b_MO_begin 5 (some .int) ∈ zW := zin_3 (List.mem_of_getElem? (i := 5) rfl) rfl
abbrev b_MO_placeOf : ByteArray := prog_9_method_10_code
def y_MO_placeOf : MethodName := ⟨R_MO, "placeOf", "(II)I"⟩
def ww_MO_placeOf : List Cond := .code y_MO_placeOf b_MO_placeOf 5 (some .int) :: zW
theorem kc_MO_placeOf : Cond.code y_MO_placeOf b_MO_placeOf 5 (some .int) ∈ zW := zin_3 (List.mem_of_getElem? (i := 20) rfl) rfl
abbrev b_MO_meetsOutput : ByteArray := prog_9_method_11_code
def y_MO_meetsOutput : MethodName := ⟨R_MO, "meetsOutput", "(II)Z"⟩
def ww_MO_meetsOutput : List Cond := .code y_MO_meetsOutput b_MO_meetsOutput 5 (some .boolean) :: zW
theorem kc_MO_meetsOutput : Cond.code y_MO_meetsOutput b_MO_meetsOutput 5 (some .boolean) ∈ zW := zin_3 (List.mem_of_getElem? (i := 24) rfl) rfl
abbrev b_MO_meetsStaged : ByteArray := prog_9_method_12_code
def y_MO_meetsStaged : MethodName := ⟨R_MO, "meetsStaged", "(II)Z"⟩
def ww_MO_meetsStaged : List Cond := .code y_MO_meetsStaged b_MO_meetsStaged 6 (some .boolean) :: zW
theorem kc_MO_meetsStaged : Cond.code y_MO_meetsStaged b_MO_meetsStaged 6 (some .boolean) ∈ zW := zin_3 (List.mem_of_getElem? (i := 36) rfl) rfl
abbrev b_MO_isCached : ByteArray := prog_9_method_13_code
def y_MO_isCached : MethodName := ⟨R_MO, "isCached", "(J)Z"⟩
def ww_MO_isCached : List Cond := .code y_MO_isCached b_MO_isCached 5 (some .boolean) :: zW
theorem kc_MO_isCached : Cond.code y_MO_isCached b_MO_isCached 5 (some .boolean) ∈ zW := zin_3 (List.mem_of_getElem? (i := 40) rfl) rfl
abbrev b_MO_stage : ByteArray := prog_9_method_14_code
def y_MO_stage : MethodName := ⟨R_MO, "stage", "(IIJZZ)I"⟩
def ww_MO_stage : List Cond := .code y_MO_stage b_MO_stage 8 (some .int) :: zW
theorem kc_MO_stage : Cond.code y_MO_stage b_MO_stage 8 (some .int) ∈ zW := zin_3 (List.mem_of_getElem? (i := 12) rfl) rfl
abbrev b_MO_goOld : ByteArray := prog_9_method_15_code
def y_MO_goOld : MethodName := ⟨R_MO, "goOld", "(I)I"⟩
def ww_MO_goOld : List Cond := .code y_MO_goOld b_MO_goOld 5 (some .int) :: zW
theorem kc_MO_goOld : Cond.code y_MO_goOld b_MO_goOld 5 (some .int) ∈ zW := zin_3 (List.mem_of_getElem? (i := 48) rfl) rfl
abbrev b_MO_end : ByteArray := prog_9_method_16_code
def y_MO_end : MethodName := ⟨R_MO, "end", "(IZ)I"⟩
def ww_MO_end : List Cond := .code y_MO_end b_MO_end 6 (some .int) :: zW
theorem kc_MO_end : Cond.code y_MO_end b_MO_end 6 (some .int) ∈ zW := zin_3 (List.mem_of_getElem? (i := 44) rfl) rfl
abbrev b_MO_abandon : ByteArray := prog_9_method_17_code
def y_MO_abandon : MethodName := ⟨R_MO, "abandon", "(I)I"⟩
def ww_MO_abandon : List Cond := .code y_MO_abandon b_MO_abandon 4 (some .int) :: zW
theorem kc_MO_abandon : Cond.code y_MO_abandon b_MO_abandon 4 (some .int) ∈ zW := zin_3 (List.mem_of_getElem? (i := 52) rfl) rfl
abbrev b_MO_cache : ByteArray := prog_9_method_18_code
def y_MO_cache : MethodName := ⟨R_MO, "cache", "(JZ)Z"⟩
def ww_MO_cache : List Cond := .code y_MO_cache b_MO_cache 5 (some .boolean) :: zW
theorem kc_MO_cache : Cond.code y_MO_cache b_MO_cache 5 (some .boolean) ∈ zW := zin_3 (List.mem_of_getElem? (i := 56) rfl) rfl
abbrev b_MO_isOutput : ByteArray := prog_9_method_19_code
def y_MO_isOutput : MethodName := ⟨R_MO, "isOutput", "(II)Z"⟩
def ww_MO_isOutput : List Cond := .code y_MO_isOutput b_MO_isOutput 3 (some .boolean) :: zW
theorem kc_MO_isOutput : Cond.code y_MO_isOutput b_MO_isOutput 3 (some .boolean) ∈ zW := zin_3 (List.mem_of_getElem? (i := 64) rfl) rfl
abbrev b_MO_read : ByteArray := prog_9_method_20_code
def y_MO_read : MethodName := ⟨R_MO, "read", "(II)I"⟩
def ww_MO_read : List Cond := .code y_MO_read b_MO_read 4 (some .int) :: zW
theorem kc_MO_read : Cond.code y_MO_read b_MO_read 4 (some .int) ∈ zW := zin_3 (List.mem_of_getElem? (i := 60) rfl) rfl
abbrev b_MO_held : ByteArray := prog_9_method_21_code
def y_MO_held : MethodName := ⟨R_MO, "held", "(I)J"⟩
def ww_MO_held : List Cond := .code y_MO_held b_MO_held 2 (some .long) :: zW
theorem kc_MO_held : Cond.code y_MO_held b_MO_held 2 (some .long) ∈ zW := zin_3 (List.mem_of_getElem? (i := 68) rfl) rfl
abbrev b_MO_letGo : ByteArray := prog_9_method_22_code
def y_MO_letGo : MethodName := ⟨R_MO, "letGo", "(I)Z"⟩
def ww_MO_letGo : List Cond := .code y_MO_letGo b_MO_letGo 2 (some .boolean) :: zW
theorem kc_MO_letGo : Cond.code y_MO_letGo b_MO_letGo 2 (some .boolean) ∈ zW := zin_3 (List.mem_of_getElem? (i := 72) rfl) rfl
abbrev b_MO_content : ByteArray := prog_9_method_23_code
def y_MO_content : MethodName := ⟨R_MO, "content", "(II)J"⟩
def ww_MO_content : List Cond := .code y_MO_content b_MO_content 3 (some .long) :: zW
theorem kc_MO_content : Cond.code y_MO_content b_MO_content 3 (some .long) ∈ zW := zin_3 (List.mem_of_getElem? (i := 76) rfl) rfl
abbrev b_MO_about : ByteArray := prog_9_method_24_code
def y_MO_about : MethodName := ⟨R_MO, "about", "(III)I"⟩
def ww_MO_about : List Cond := .code y_MO_about b_MO_about 5 (some .int) :: zW
theorem kc_MO_about : Cond.code y_MO_about b_MO_about 5 (some .int) ∈ zW := zin_3 (List.mem_of_getElem? (i := 80) rfl) rfl
abbrev b_MO_list : ByteArray := prog_9_method_25_code
def y_MO_list : MethodName := ⟨R_MO, "list", "(III)I"⟩
def ww_MO_list : List Cond := .code y_MO_list b_MO_list 6 (some .int) :: zW
theorem kc_MO_list : Cond.code y_MO_list b_MO_list 6 (some .int) ∈ zW := zin_3 (List.mem_of_getElem? (i := 84) rfl) rfl
abbrev b_MO_dirty : ByteArray := prog_9_method_26_code
def y_MO_dirty : MethodName := ⟨R_MO, "dirty", "(II)Z"⟩
def ww_MO_dirty : List Cond := .code y_MO_dirty b_MO_dirty 3 (some .boolean) :: zW
theorem kc_MO_dirty : Cond.code y_MO_dirty b_MO_dirty 3 (some .boolean) ∈ zW := zin_3 (List.mem_of_getElem? (i := 88) rfl) rfl
abbrev b_MO_clear : ByteArray := prog_9_method_27_code
def y_MO_clear : MethodName := ⟨R_MO, "clear", "(I)I"⟩
def ww_MO_clear : List Cond := .code y_MO_clear b_MO_clear 4 (some .int) :: zW
theorem kc_MO_clear : Cond.code y_MO_clear b_MO_clear 4 (some .int) ∈ zW := zin_3 (List.mem_of_getElem? (i := 92) rfl) rfl
abbrev b_MO_meets : ByteArray := prog_9_method_28_code
def y_MO_meets : MethodName := ⟨R_MO, "meets", "(J)V"⟩
def ww_MO_meets : List Cond := .code y_MO_meets b_MO_meets 3 none :: zW
theorem kc_MO_meets : Cond.code y_MO_meets b_MO_meets 3 none ∈ zW := zin_3 (List.mem_of_getElem? (i := 104) rfl) rfl
abbrev b_MO_gather : ByteArray := prog_9_method_29_code
def y_MO_gather : MethodName := ⟨R_MO, "gather", "()V"⟩
def ww_MO_gather : List Cond := .code y_MO_gather b_MO_gather 3 none :: zW
theorem kc_MO_gather : Cond.code y_MO_gather b_MO_gather 3 none ∈ zW := zin_3 (List.mem_of_getElem? (i := 100) rfl) rfl
abbrev b_MO_copies : ByteArray := prog_9_method_30_code
def y_MO_copies : MethodName := ⟨R_MO, "copies", "(J)I"⟩
def ww_MO_copies : List Cond := .code y_MO_copies b_MO_copies 5 (some .int) :: zW
theorem kc_MO_copies : Cond.code y_MO_copies b_MO_copies 5 (some .int) ∈ zW := zin_3 (List.mem_of_getElem? (i := 96) rfl) rfl
abbrev b_MO_stored : ByteArray := prog_9_method_31_code
def y_MO_stored : MethodName := ⟨R_MO, "stored", "()I"⟩
def ww_MO_stored : List Cond := .code y_MO_stored b_MO_stored 5 (some .int) :: zW
theorem kc_MO_stored : Cond.code y_MO_stored b_MO_stored 5 (some .int) ∈ zW := zin_3 (List.mem_of_getElem? (i := 108) rfl) rfl
