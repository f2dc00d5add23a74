section
-- ===== PART A: goes FIRST, ahead of the names: the tables' words, and 'selects' of the private methods out of them =====
/-- a private method of a class that the tables say can be made, by its rows of tables_1 -/
def lw_okq (q : MethodName × Nat) : Prop := (q.1.cls ≠ "java/lang/invoke/MethodHandle" ∧ q.1.cls ≠ "java/lang/invoke/VarHandle") ∧ Cond.instantiable q.1.cls q.2 ∈ tables_1 ∧ Cond.privateMethod q.1 ∈ tables_1 ∧ Cond.instanceMethod q.1 ∈ tables_1
theorem lw_p0 : lw_okq (⟨"OutputStore", "slotOf", "(II)I"⟩, 8) := ⟨⟨by decide +kernel, by decide +kernel⟩, List.mem_of_getElem? (i := 10) (by decide +kernel), List.mem_of_getElem? (i := 192) (by decide +kernel), List.mem_of_getElem? (i := 193) (by decide +kernel)⟩
theorem lw_p1 : lw_okq (⟨"OutputStore", "countStaged", "(I)I"⟩, 8) := ⟨⟨by decide +kernel, by decide +kernel⟩, List.mem_of_getElem? (i := 10) (by decide +kernel), List.mem_of_getElem? (i := 204) (by decide +kernel), List.mem_of_getElem? (i := 205) (by decide +kernel)⟩
theorem lw_p2 : lw_okq (⟨"OutputStore", "isRefused", "(II)Z"⟩, 8) := ⟨⟨by decide +kernel, by decide +kernel⟩, List.mem_of_getElem? (i := 10) (by decide +kernel), List.mem_of_getElem? (i := 208) (by decide +kernel), List.mem_of_getElem? (i := 209) (by decide +kernel)⟩
theorem lw_p3 : lw_okq (⟨"OutputStore", "isOutputOfAnother", "(II)Z"⟩, 8) := ⟨⟨by decide +kernel, by decide +kernel⟩, List.mem_of_getElem? (i := 10) (by decide +kernel), List.mem_of_getElem? (i := 212) (by decide +kernel), List.mem_of_getElem? (i := 213) (by decide +kernel)⟩
theorem lw_p4 : lw_okq (⟨"OutputStore", "targetAt", "(I)I"⟩, 8) := ⟨⟨by decide +kernel, by decide +kernel⟩, List.mem_of_getElem? (i := 10) (by decide +kernel), List.mem_of_getElem? (i := 217) (by decide +kernel), List.mem_of_getElem? (i := 218) (by decide +kernel)⟩
theorem lw_p5 : lw_okq (⟨"OutputStore", "isStagedAgainst", "(IIZ)Z"⟩, 8) := ⟨⟨by decide +kernel, by decide +kernel⟩, List.mem_of_getElem? (i := 10) (by decide +kernel), List.mem_of_getElem? (i := 229) (by decide +kernel), List.mem_of_getElem? (i := 230) (by decide +kernel)⟩
theorem lw_p6 : lw_okq (⟨"OutputStore", "replaceOutputs", "(I)I"⟩, 8) := ⟨⟨by decide +kernel, by decide +kernel⟩, List.mem_of_getElem? (i := 10) (by decide +kernel), List.mem_of_getElem? (i := 256) (by decide +kernel), List.mem_of_getElem? (i := 257) (by decide +kernel)⟩
theorem lw_p7 : lw_okq (⟨"OutputStore", "dropStaged", "(I)V"⟩, 8) := ⟨⟨by decide +kernel, by decide +kernel⟩, List.mem_of_getElem? (i := 10) (by decide +kernel), List.mem_of_getElem? (i := 282) (by decide +kernel), List.mem_of_getElem? (i := 283) (by decide +kernel)⟩
theorem lw_p8 : lw_okq (⟨"OutputStore", "storedAt", "(I)J"⟩, 8) := ⟨⟨by decide +kernel, by decide +kernel⟩, List.mem_of_getElem? (i := 10) (by decide +kernel), List.mem_of_getElem? (i := 381) (by decide +kernel), List.mem_of_getElem? (i := 382) (by decide +kernel)⟩
theorem lw_p9 : lw_okq (⟨"OutputStoreModel", "isPath", "(I)Z"⟩, 24) := ⟨⟨by decide +kernel, by decide +kernel⟩, List.mem_of_getElem? (i := 396) (by decide +kernel), List.mem_of_getElem? (i := 479) (by decide +kernel), List.mem_of_getElem? (i := 480) (by decide +kernel)⟩
theorem lw_p10 : lw_okq (⟨"OutputStoreModel", "isOpenStep", "(I)Z"⟩, 24) := ⟨⟨by decide +kernel, by decide +kernel⟩, List.mem_of_getElem? (i := 396) (by decide +kernel), List.mem_of_getElem? (i := 494) (by decide +kernel), List.mem_of_getElem? (i := 495) (by decide +kernel)⟩
theorem lw_p11 : lw_okq (⟨"OutputStoreModel", "placeOf", "(II)I"⟩, 24) := ⟨⟨by decide +kernel, by decide +kernel⟩, List.mem_of_getElem? (i := 396) (by decide +kernel), List.mem_of_getElem? (i := 498) (by decide +kernel), List.mem_of_getElem? (i := 499) (by decide +kernel)⟩
theorem lw_p12 : lw_okq (⟨"OutputStoreModel", "meetsOutput", "(II)Z"⟩, 24) := ⟨⟨by decide +kernel, by decide +kernel⟩, List.mem_of_getElem? (i := 396) (by decide +kernel), List.mem_of_getElem? (i := 502) (by decide +kernel), List.mem_of_getElem? (i := 503) (by decide +kernel)⟩
theorem lw_p13 : lw_okq (⟨"OutputStoreModel", "meet", "(II)Z"⟩, 24) := ⟨⟨by decide +kernel, by decide +kernel⟩, List.mem_of_getElem? (i := 396) (by decide +kernel), List.mem_of_getElem? (i := 506) (by decide +kernel), List.mem_of_getElem? (i := 507) (by decide +kernel)⟩
theorem lw_p14 : lw_okq (⟨"OutputStoreModel", "isWithin", "(II)Z"⟩, 24) := ⟨⟨by decide +kernel, by decide +kernel⟩, List.mem_of_getElem? (i := 396) (by decide +kernel), List.mem_of_getElem? (i := 510) (by decide +kernel), List.mem_of_getElem? (i := 511) (by decide +kernel)⟩
theorem lw_p15 : lw_okq (⟨"OutputStoreModel", "meetsStaged", "(II)Z"⟩, 24) := ⟨⟨by decide +kernel, by decide +kernel⟩, List.mem_of_getElem? (i := 396) (by decide +kernel), List.mem_of_getElem? (i := 514) (by decide +kernel), List.mem_of_getElem? (i := 515) (by decide +kernel)⟩
def lw_privs_1 : List (MethodName × Nat) := [(⟨"OutputStore", "slotOf", "(II)I"⟩, 8), (⟨"OutputStore", "countStaged", "(I)I"⟩, 8), (⟨"OutputStore", "isRefused", "(II)Z"⟩, 8), (⟨"OutputStore", "isOutputOfAnother", "(II)Z"⟩, 8), (⟨"OutputStore", "targetAt", "(I)I"⟩, 8), (⟨"OutputStore", "isStagedAgainst", "(IIZ)Z"⟩, 8), (⟨"OutputStore", "replaceOutputs", "(I)I"⟩, 8), (⟨"OutputStore", "dropStaged", "(I)V"⟩, 8), (⟨"OutputStore", "storedAt", "(I)J"⟩, 8), (⟨"OutputStoreModel", "isPath", "(I)Z"⟩, 24), (⟨"OutputStoreModel", "isOpenStep", "(I)Z"⟩, 24), (⟨"OutputStoreModel", "placeOf", "(II)I"⟩, 24), (⟨"OutputStoreModel", "meetsOutput", "(II)Z"⟩, 24), (⟨"OutputStoreModel", "meet", "(II)Z"⟩, 24), (⟨"OutputStoreModel", "isWithin", "(II)Z"⟩, 24), (⟨"OutputStoreModel", "meetsStaged", "(II)Z"⟩, 24)]
theorem lw_r1 : ∀ q ∈ lw_privs_1, lw_okq q := List.forall_mem_cons.mpr ⟨lw_p0, List.forall_mem_cons.mpr ⟨lw_p1, List.forall_mem_cons.mpr ⟨lw_p2, List.forall_mem_cons.mpr ⟨lw_p3, List.forall_mem_cons.mpr ⟨lw_p4, List.forall_mem_cons.mpr ⟨lw_p5, List.forall_mem_cons.mpr ⟨lw_p6, List.forall_mem_cons.mpr ⟨lw_p7, List.forall_mem_cons.mpr ⟨lw_p8, List.forall_mem_cons.mpr ⟨lw_p9, List.forall_mem_cons.mpr ⟨lw_p10, List.forall_mem_cons.mpr ⟨lw_p11, List.forall_mem_cons.mpr ⟨lw_p12, List.forall_mem_cons.mpr ⟨lw_p13, List.forall_mem_cons.mpr ⟨lw_p14, List.forall_mem_cons.mpr ⟨lw_p15, fun _ h => absurd h List.not_mem_nil⟩⟩⟩⟩⟩⟩⟩⟩⟩⟩⟩⟩⟩⟩⟩⟩
theorem lw_p16 : lw_okq (⟨"OutputStoreModel", "isCached", "(J)Z"⟩, 24) := ⟨⟨by decide +kernel, by decide +kernel⟩, List.mem_of_getElem? (i := 396) (by decide +kernel), List.mem_of_getElem? (i := 518) (by decide +kernel), List.mem_of_getElem? (i := 519) (by decide +kernel)⟩
theorem lw_p17 : lw_okq (⟨"OutputStoreModel", "goOld", "(I)I"⟩, 24) := ⟨⟨by decide +kernel, by decide +kernel⟩, List.mem_of_getElem? (i := 396) (by decide +kernel), List.mem_of_getElem? (i := 526) (by decide +kernel), List.mem_of_getElem? (i := 527) (by decide +kernel)⟩
theorem lw_p18 : lw_okq (⟨"OutputStoreModel", "isOutput", "(II)Z"⟩, 24) := ⟨⟨by decide +kernel, by decide +kernel⟩, List.mem_of_getElem? (i := 396) (by decide +kernel), List.mem_of_getElem? (i := 542) (by decide +kernel), List.mem_of_getElem? (i := 543) (by decide +kernel)⟩
theorem lw_p19 : lw_okq (⟨"OutputStoreModel", "gather", "()V"⟩, 24) := ⟨⟨by decide +kernel, by decide +kernel⟩, List.mem_of_getElem? (i := 396) (by decide +kernel), List.mem_of_getElem? (i := 578) (by decide +kernel), List.mem_of_getElem? (i := 579) (by decide +kernel)⟩
theorem lw_p20 : lw_okq (⟨"OutputStoreModel", "meets", "(J)V"⟩, 24) := ⟨⟨by decide +kernel, by decide +kernel⟩, List.mem_of_getElem? (i := 396) (by decide +kernel), List.mem_of_getElem? (i := 582) (by decide +kernel), List.mem_of_getElem? (i := 583) (by decide +kernel)⟩
def lw_privs_2 : List (MethodName × Nat) := [(⟨"OutputStoreModel", "isCached", "(J)Z"⟩, 24), (⟨"OutputStoreModel", "goOld", "(I)I"⟩, 24), (⟨"OutputStoreModel", "isOutput", "(II)Z"⟩, 24), (⟨"OutputStoreModel", "gather", "()V"⟩, 24), (⟨"OutputStoreModel", "meets", "(J)V"⟩, 24)]
theorem lw_r2 : ∀ q ∈ lw_privs_2, lw_okq q := List.forall_mem_cons.mpr ⟨lw_p16, List.forall_mem_cons.mpr ⟨lw_p17, List.forall_mem_cons.mpr ⟨lw_p18, List.forall_mem_cons.mpr ⟨lw_p19, List.forall_mem_cons.mpr ⟨lw_p20, fun _ h => absurd h List.not_mem_nil⟩⟩⟩⟩⟩
def lw_privs : List (MethodName × Nat) := lw_privs_1 ++ (lw_privs_2)
def lw_tbl : List Cond := k2_sels lw_privs ++ tables_1
theorem lw_privs_ok : ∀ q ∈ lw_privs, lw_okq q := by
  show ∀ q ∈ lw_privs_1 ++ (lw_privs_2), lw_okq q
  exact List.forall_mem_append.mpr ⟨lw_r1, lw_r2⟩
end
section
def R_PT : String := "OutputStore$PathTree"
def F_PT : u_T := fun k => match k with
  | 0 => ("OutputStore$PathTree", "outer", "[I", true)
  | _ => ("OutputStore$PathTree", "count", "I", false)
def ty_PT : Nat → FieldType := fun k => match k with
  | 0 => .array .int
  | _ => .int
theorem nm_PT : ∀ a, a < 2 → ∀ b, b < 2 → a ≠ b → (F_PT a).2.1 ≠ (F_PT b).2.1 := by decide +kernel
theorem ty_PT_ok : ∀ k, k < 2 → parseFieldDescriptor (F_PT k).2.2.1 = some (ty_PT k) := by decide +kernel
theorem df_PT : ∀ j, j < 2 → defaultValue (ty_PT j) = vp_V [.null, .int 0] j := by decide +kernel
def R_SB : String := "OutputStore$StepBook"
def F_SB : u_T := fun k => match k with
  | 0 => ("OutputStore$StepBook", "targets", "[I", true)
  | 1 => ("OutputStore$StepBook", "configurations", "[I", true)
  | 2 => ("OutputStore$StepBook", "runs", "[I", true)
  | 3 => ("OutputStore$StepBook", "opened", "[Z", true)
  | _ => ("OutputStore$StepBook", "count", "I", false)
def ty_SB : Nat → FieldType := fun k => match k with
  | 0 => .array .int
  | 1 => .array .int
  | 2 => .array .int
  | 3 => .array .boolean
  | _ => .int
theorem nm_SB : ∀ a, a < 5 → ∀ b, b < 5 → a ≠ b → (F_SB a).2.1 ≠ (F_SB b).2.1 := by decide +kernel
theorem ty_SB_ok : ∀ k, k < 5 → parseFieldDescriptor (F_SB k).2.2.1 = some (ty_SB k) := by decide +kernel
theorem df_SB : ∀ j, j < 5 → defaultValue (ty_SB j) = vp_V [.null, .null, .null, .null, .int 0] j := by decide +kernel
def R_LT : String := "OutputStore$LinkTable"
def F_LT : u_T := fun k => match k with
  | 0 => ("OutputStore$LinkTable", "contents", "[J", true)
  | 1 => ("OutputStore$LinkTable", "makers", "[I", true)
  | 2 => ("OutputStore$LinkTable", "executables", "[Z", true)
  | _ => ("OutputStore$LinkTable", "lazies", "[Z", true)
def ty_LT : Nat → FieldType := fun k => match k with
  | 0 => .array .long
  | 1 => .array .int
  | 2 => .array .boolean
  | _ => .array .boolean
theorem nm_LT : ∀ a, a < 4 → ∀ b, b < 4 → a ≠ b → (F_LT a).2.1 ≠ (F_LT b).2.1 := by decide +kernel
theorem ty_LT_ok : ∀ k, k < 4 → parseFieldDescriptor (F_LT k).2.2.1 = some (ty_LT k) := by decide +kernel
theorem df_LT : ∀ j, j < 4 → defaultValue (ty_LT j) = vp_V [.null, .null, .null, .null] j := by decide +kernel
def R_CS : String := "OutputStore$CachedSet"
def F_CS : u_T := fun k => match k with
  | 0 => ("OutputStore$CachedSet", "contents", "[J", true)
  | _ => ("OutputStore$CachedSet", "count", "I", false)
def ty_CS : Nat → FieldType := fun k => match k with
  | 0 => .array .long
  | _ => .int
theorem nm_CS : ∀ a, a < 2 → ∀ b, b < 2 → a ≠ b → (F_CS a).2.1 ≠ (F_CS b).2.1 := by decide +kernel
theorem ty_CS_ok : ∀ k, k < 2 → parseFieldDescriptor (F_CS k).2.2.1 = some (ty_CS k) := by decide +kernel
theorem df_CS : ∀ j, j < 2 → defaultValue (ty_CS j) = vp_V [.null, .int 0] j := by decide +kernel
def R_HB : String := "OutputStore$HoldBook"
def F_HB : u_T := fun k => match k with
  | 0 => ("OutputStore$HoldBook", "contents", "[J", true)
  | _ => ("OutputStore$HoldBook", "count", "I", false)
def ty_HB : Nat → FieldType := fun k => match k with
  | 0 => .array .long
  | _ => .int
theorem nm_HB : ∀ a, a < 2 → ∀ b, b < 2 → a ≠ b → (F_HB a).2.1 ≠ (F_HB b).2.1 := by decide +kernel
theorem ty_HB_ok : ∀ k, k < 2 → parseFieldDescriptor (F_HB k).2.2.1 = some (ty_HB k) := by decide +kernel
theorem df_HB : ∀ j, j < 2 → defaultValue (ty_HB j) = vp_V [.null, .int 0] j := by decide +kernel
def R_DM : String := "OutputStore$DirtyMarks"
def F_DM : u_T := fun k => match k with
  | _ => ("OutputStore$DirtyMarks", "marks", "[Z", true)
def ty_DM : Nat → FieldType := fun k => match k with
  | _ => .array .boolean
theorem nm_DM : ∀ a, a < 1 → ∀ b, b < 1 → a ≠ b → (F_DM a).2.1 ≠ (F_DM b).2.1 := by decide +kernel
theorem ty_DM_ok : ∀ k, k < 1 → parseFieldDescriptor (F_DM k).2.2.1 = some (ty_DM k) := by decide +kernel
theorem df_DM : ∀ j, j < 1 → defaultValue (ty_DM j) = vp_V [.null] j := by decide +kernel
def R_OS : String := "OutputStore"
def F_OS : u_T := fun k => match k with
  | 0 => ("OutputStore", "paths", "LOutputStore$PathTree;", true)
  | 1 => ("OutputStore", "steps", "LOutputStore$StepBook;", true)
  | 2 => ("OutputStore", "outputs", "LOutputStore$LinkTable;", true)
  | 3 => ("OutputStore", "staged", "LOutputStore$LinkTable;", true)
  | 4 => ("OutputStore", "cached", "LOutputStore$CachedSet;", true)
  | 5 => ("OutputStore", "holds", "LOutputStore$HoldBook;", true)
  | 6 => ("OutputStore", "dirtyMarks", "LOutputStore$DirtyMarks;", true)
  | _ => ("OutputStore", "different", "[J", true)
def ty_OS : Nat → FieldType := fun k => match k with
  | 0 => .object "OutputStore$PathTree"
  | 1 => .object "OutputStore$StepBook"
  | 2 => .object "OutputStore$LinkTable"
  | 3 => .object "OutputStore$LinkTable"
  | 4 => .object "OutputStore$CachedSet"
  | 5 => .object "OutputStore$HoldBook"
  | 6 => .object "OutputStore$DirtyMarks"
  | _ => .array .long
theorem nm_OS : ∀ a, a < 8 → ∀ b, b < 8 → a ≠ b → (F_OS a).2.1 ≠ (F_OS b).2.1 := by decide +kernel
theorem ty_OS_ok : ∀ k, k < 8 → parseFieldDescriptor (F_OS k).2.2.1 = some (ty_OS k) := by decide +kernel
theorem df_OS : ∀ j, j < 8 → defaultValue (ty_OS j) = vp_V [.null, .null, .null, .null, .null, .null, .null, .null] j := by decide +kernel
def R_MO : String := "OutputStoreModel"
def F_MO : u_T := fun k => match k with
  | 0 => ("OutputStoreModel", "paths", "I", false)
  | 1 => ("OutputStoreModel", "steps", "I", false)
  | 2 => ("OutputStoreModel", "cached", "I", false)
  | 3 => ("OutputStoreModel", "holds", "I", false)
  | 4 => ("OutputStoreModel", "inside", "[I", true)
  | 5 => ("OutputStoreModel", "owner", "[I", true)
  | 6 => ("OutputStoreModel", "maker", "[I", true)
  | 7 => ("OutputStoreModel", "content", "[J", true)
  | 8 => ("OutputStoreModel", "runs", "[Z", true)
  | 9 => ("OutputStoreModel", "isThere", "[Z", true)
  | 10 => ("OutputStoreModel", "target", "[I", true)
  | 11 => ("OutputStoreModel", "place", "[I", true)
  | 12 => ("OutputStoreModel", "run", "[I", true)
  | 13 => ("OutputStoreModel", "staged", "[I", true)
  | 14 => ("OutputStoreModel", "isOpen", "[Z", true)
  | 15 => ("OutputStoreModel", "stagedAt", "[I", true)
  | 16 => ("OutputStoreModel", "stagedContent", "[J", true)
  | 17 => ("OutputStoreModel", "stagedRuns", "[Z", true)
  | 18 => ("OutputStoreModel", "stagedLazy", "[Z", true)
  | 19 => ("OutputStoreModel", "isDirty", "[Z", true)
  | 20 => ("OutputStoreModel", "cache", "[J", true)
  | 21 => ("OutputStoreModel", "hold", "[J", true)
  | 22 => ("OutputStoreModel", "met", "I", false)
  | _ => ("OutputStoreModel", "row", "[J", true)
def ty_MO : Nat → FieldType := fun k => match k with
  | 0 => .int
  | 1 => .int
  | 2 => .int
  | 3 => .int
  | 4 => .array .int
  | 5 => .array .int
  | 6 => .array .int
  | 7 => .array .long
  | 8 => .array .boolean
  | 9 => .array .boolean
  | 10 => .array .int
  | 11 => .array .int
  | 12 => .array .int
  | 13 => .array .int
  | 14 => .array .boolean
  | 15 => .array .int
  | 16 => .array .long
  | 17 => .array .boolean
  | 18 => .array .boolean
  | 19 => .array .boolean
  | 20 => .array .long
  | 21 => .array .long
  | 22 => .int
  | _ => .array .long
theorem nm_MO : ∀ a, a < 24 → ∀ b, b < 24 → a ≠ b → (F_MO a).2.1 ≠ (F_MO b).2.1 := by decide +kernel
theorem ty_MO_ok : ∀ k, k < 24 → parseFieldDescriptor (F_MO k).2.2.1 = some (ty_MO k) := by decide +kernel
theorem df_MO : ∀ j, j < 24 → defaultValue (ty_MO j) = vp_V [.int 0, .int 0, .int 0, .int 0, .null, .null, .null, .null, .null, .null, .null, .null, .null, .null, .null, .null, .null, .null, .null, .null, .null, .null, .int 0, .null] j := by decide +kernel
abbrev zCl : List vw_C := [(R_PT, F_PT, 2), (R_SB, F_SB, 5), (R_LT, F_LT, 4), (R_CS, F_CS, 2), (R_HB, F_HB, 2), (R_DM, F_DM, 1), (R_OS, F_OS, 8), (R_MO, F_MO, 24)]
/-- the words that every method may use: those of the tables that stay -/
def zW : List Cond := lw_tbl.filter goodWord
theorem zW_in {w : Cond} (h : w ∈ zW) : w ∈ lw_tbl := (List.mem_filter.mp h).1
theorem zW_good {w : Cond} (h : w ∈ zW) : goodWord w = true := (List.mem_filter.mp h).2
theorem zin_1 {w : Cond} (h : w ∈ tables_1_1) (g : goodWord w = true) : w ∈ zW := List.mem_filter.mpr ⟨List.mem_append_right _ (show w ∈ tables_1 from List.mem_append_left _ h), g⟩
theorem zin_2 {w : Cond} (h : w ∈ tables_1_2) (g : goodWord w = true) : w ∈ zW := List.mem_filter.mpr ⟨List.mem_append_right _ (show w ∈ tables_1 from List.mem_append_right _ (List.mem_append_left _ h)), g⟩
theorem zin_3 {w : Cond} (h : w ∈ tables_1_3) (g : goodWord w = true) : w ∈ zW := List.mem_filter.mpr ⟨List.mem_append_right _ (show w ∈ tables_1 from List.mem_append_right _ (List.mem_append_right _ h)), g⟩
theorem zin_0 {w : Cond} (h : w ∈ k2_sels lw_privs) (g : goodWord w = true) : w ∈ zW := List.mem_filter.mpr ⟨List.mem_append_left _ h, g⟩
theorem zsub_c {h : Cond} : ∀ w ∈ zW, w ∈ h :: zW := fun _ h => List.mem_cons_of_mem _ h
theorem zsub_l : ∀ w ∈ zW, w ∈ lw_tbl := fun _ h => zW_in h
theorem zG {big xs : List Cond} (hs : ∀ w ∈ zW, w ∈ big) (h : ∀ w ∈ xs, w ∈ zW) : GoodIn big xs := fun w hw => ⟨hs w (h w hw), good_of_word (zW_good (h w hw))⟩
theorem zGN {big : List Cond} {c : Cond} (hs : ∀ w ∈ zW, w ∈ big) (hc : c ∈ zW) : GoodIn big (c :: zW) := zG hs (fun w hw => by
  rcases List.mem_cons.mp hw with rfl | h
  · exact hc
  · exact h)
theorem zGV {big : List Cond} {own C : String} {idx : Nat} {y : MethodName} {c : Cond} (hs : ∀ w ∈ zW, w ∈ big) (h1 : Cond.methodLink own idx y ∈ zW) (h2 : Cond.instanceMethod y ∈ zW) (h3 : Cond.selects C y y ∈ zW) (h4 : Cond.initialized C ∈ zW) (hc : c ∈ zW) : GoodIn big (wsV own idx C y (c :: zW)) := zG hs (fun w hw => by
  rcases List.mem_append.mp hw with h | h
  · simp only [List.mem_cons, List.not_mem_nil, or_false] at h
    rcases h with rfl | rfl | rfl | rfl <;> assumption
  · rcases List.mem_cons.mp h with rfl | h
    · exact hc
    · exact h)
theorem zGS {big : List Cond} {own : String} {idx : Nat} {y : MethodName} {c : Cond} (hs : ∀ w ∈ zW, w ∈ big) (h1 : Cond.methodLink own idx y ∈ zW) (h2 : Cond.static y ∈ zW) (h3 : Cond.initialized own ∈ zW) (hc : c ∈ zW) : GoodIn big (wsS own idx y (c :: zW)) := zG hs (fun w hw => by
  rcases List.mem_append.mp hw with h | h
  · simp only [List.mem_cons, List.not_mem_nil, or_false] at h
    rcases h with rfl | rfl | rfl <;> assumption
  · rcases List.mem_cons.mp h with rfl | h
    · exact hc
    · exact h)
def zNests : List (String × Nat × MethodName × String) := [("OutputStore", 11, ⟨"OutputStore$PathTree", "<init>", "()V"⟩, "OutputStore"), ("OutputStore", 18, ⟨"OutputStore$StepBook", "<init>", "()V"⟩, "OutputStore"), ("OutputStore", 25, ⟨"OutputStore$LinkTable", "<init>", "()V"⟩, "OutputStore"), ("OutputStore", 35, ⟨"OutputStore$CachedSet", "<init>", "()V"⟩, "OutputStore"), ("OutputStore", 42, ⟨"OutputStore$HoldBook", "<init>", "()V"⟩, "OutputStore"), ("OutputStore", 49, ⟨"OutputStore$DirtyMarks", "<init>", "()V"⟩, "OutputStore"), ("OutputStore$CachedSet", 19, ⟨"OutputStore", "find", "([JIJ)I"⟩, "OutputStore"), ("OutputStore$DirtyMarks", 15, ⟨"OutputStore", "isTarget", "(I)Z"⟩, "OutputStore"), ("OutputStore$DirtyMarks", 19, ⟨"OutputStore", "isConfiguration", "(I)Z"⟩, "OutputStore")]
abbrev b_PT_init : ByteArray := prog_6_method_1_code
def y_PT_init : MethodName := ⟨R_PT, "<init>", "()V"⟩
def ww_PT_init : List Cond := .code y_PT_init b_PT_init 1 none :: zW
theorem kc_PT_init : Cond.code y_PT_init b_PT_init 1 none ∈ zW := zin_1 (List.mem_of_getElem? (i := 21) rfl) rfl
abbrev b_SB_init : ByteArray := prog_7_method_1_code
def y_SB_init : MethodName := ⟨R_SB, "<init>", "()V"⟩
def ww_SB_init : List Cond := .code y_SB_init b_SB_init 1 none :: zW
theorem kc_SB_init : Cond.code y_SB_init b_SB_init 1 none ∈ zW := zin_1 (List.mem_of_getElem? (i := 35) rfl) rfl
abbrev b_LT_init : ByteArray := prog_5_method_1_code
def y_LT_init : MethodName := ⟨R_LT, "<init>", "()V"⟩
def ww_LT_init : List Cond := .code y_LT_init b_LT_init 1 none :: zW
theorem kc_LT_init : Cond.code y_LT_init b_LT_init 1 none ∈ zW := zin_1 (List.mem_of_getElem? (i := 58) rfl) rfl
abbrev b_CS_init : ByteArray := prog_2_method_1_code
def y_CS_init : MethodName := ⟨R_CS, "<init>", "()V"⟩
def ww_CS_init : List Cond := .code y_CS_init b_CS_init 1 none :: zW
theorem kc_CS_init : Cond.code y_CS_init b_CS_init 1 none ∈ zW := zin_1 (List.mem_of_getElem? (i := 78) rfl) rfl
abbrev b_HB_init : ByteArray := prog_4_method_1_code
def y_HB_init : MethodName := ⟨R_HB, "<init>", "()V"⟩
def ww_HB_init : List Cond := .code y_HB_init b_HB_init 1 none :: zW
theorem kc_HB_init : Cond.code y_HB_init b_HB_init 1 none ∈ zW := zin_1 (List.mem_of_getElem? (i := 91) rfl) rfl
abbrev b_DM_init : ByteArray := prog_3_method_1_code
def y_DM_init : MethodName := ⟨R_DM, "<init>", "()V"⟩
def ww_DM_init : List Cond := .code y_DM_init b_DM_init 1 none :: zW
theorem kc_DM_init : Cond.code y_DM_init b_DM_init 1 none ∈ zW := zin_1 (List.mem_of_getElem? (i := 104) rfl) rfl
abbrev b_OS_init : ByteArray := prog_1_method_1_code
def y_OS_init : MethodName := ⟨R_OS, "<init>", "()V"⟩
def ww_OS_init : List Cond := .code y_OS_init b_OS_init 1 none :: zW
theorem kc_OS_init : Cond.code y_OS_init b_OS_init 1 none ∈ zW := zin_1 (List.mem_of_getElem? (i := 13) rfl) rfl
abbrev b_MO_init : ByteArray := prog_9_method_1_code
def y_MO_init : MethodName := ⟨R_MO, "<init>", "()V"⟩
def ww_MO_init : List Cond := .code y_MO_init b_MO_init 1 none :: zW
theorem kc_MO_init : Cond.code y_MO_init b_MO_init 1 none ∈ zW := zin_2 (List.mem_of_getElem? (i := 159) rfl) rfl
abbrev b_PT_has : ByteArray := prog_6_method_2_code
def y_PT_has : MethodName := ⟨R_PT, "has", "(I)Z"⟩
def ww_PT_has : List Cond := .code y_PT_has b_PT_has 2 (some .boolean) :: zW
theorem kc_PT_has : Cond.code y_PT_has b_PT_has 2 (some .boolean) ∈ zW := zin_1 (List.mem_of_getElem? (i := 146) rfl) rfl
abbrev b_PT_grow : ByteArray := prog_6_method_3_code
def y_PT_grow : MethodName := ⟨R_PT, "grow", "(I)I"⟩
def ww_PT_grow : List Cond := .code y_PT_grow b_PT_grow 2 (some .int) :: zW
theorem kc_PT_grow : Cond.code y_PT_grow b_PT_grow 2 (some .int) ∈ zW := zin_1 (List.mem_of_getElem? (i := 142) rfl) rfl
abbrev b_PT_isAtOrWithin : ByteArray := prog_6_method_5_code
def y_PT_isAtOrWithin : MethodName := ⟨R_PT, "isAtOrWithin", "(II)Z"⟩
def ww_PT_isAtOrWithin : List Cond := .code y_PT_isAtOrWithin b_PT_isAtOrWithin 5 (some .boolean) :: zW
theorem kc_PT_isAtOrWithin : Cond.code y_PT_isAtOrWithin b_PT_isAtOrWithin 5 (some .boolean) ∈ zW := zin_1 (List.mem_of_getElem? (i := 239) rfl) rfl
abbrev b_PT_meet : ByteArray := prog_6_method_4_code
def y_PT_meet : MethodName := ⟨R_PT, "meet", "(II)Z"⟩
def ww_PT_meet : List Cond := .code y_PT_meet b_PT_meet 3 (some .boolean) :: zW
theorem kc_PT_meet : Cond.code y_PT_meet b_PT_meet 3 (some .boolean) ∈ zW := zin_1 (List.mem_of_getElem? (i := 235) rfl) rfl
abbrev b_SB_isFull : ByteArray := prog_7_method_2_code
def y_SB_isFull : MethodName := ⟨R_SB, "isFull", "()Z"⟩
def ww_SB_isFull : List Cond := .code y_SB_isFull b_SB_isFull 1 (some .boolean) :: zW
theorem kc_SB_isFull : Cond.code y_SB_isFull b_SB_isFull 1 (some .boolean) ∈ zW := zin_1 (List.mem_of_getElem? (i := 163) rfl) rfl
abbrev b_SB_has : ByteArray := prog_7_method_3_code
def y_SB_has : MethodName := ⟨R_SB, "has", "(I)Z"⟩
def ww_SB_has : List Cond := .code y_SB_has b_SB_has 2 (some .boolean) :: zW
theorem kc_SB_has : Cond.code y_SB_has b_SB_has 2 (some .boolean) ∈ zW := zin_1 (List.mem_of_getElem? (i := 175) rfl) rfl
abbrev b_SB_isOpen : ByteArray := prog_7_method_4_code
def y_SB_isOpen : MethodName := ⟨R_SB, "isOpen", "(I)Z"⟩
def ww_SB_isOpen : List Cond := .code y_SB_isOpen b_SB_isOpen 2 (some .boolean) :: zW
theorem kc_SB_isOpen : Cond.code y_SB_isOpen b_SB_isOpen 2 (some .boolean) ∈ zW := zin_1 (List.mem_of_getElem? (i := 171) rfl) rfl
abbrev b_SB_open : ByteArray := prog_7_method_5_code
def y_SB_open : MethodName := ⟨R_SB, "open", "(III)I"⟩
def ww_SB_open : List Cond := .code y_SB_open b_SB_open 4 (some .int) :: zW
theorem kc_SB_open : Cond.code y_SB_open b_SB_open 4 (some .int) ∈ zW := zin_1 (List.mem_of_getElem? (i := 179) rfl) rfl
abbrev b_SB_close : ByteArray := prog_7_method_6_code
def y_SB_close : MethodName := ⟨R_SB, "close", "(I)V"⟩
def ww_SB_close : List Cond := .code y_SB_close b_SB_close 2 none :: zW
theorem kc_SB_close : Cond.code y_SB_close b_SB_close 2 none ∈ zW := zin_2 (List.mem_of_getElem? (i := 48) rfl) rfl
abbrev b_SB_targetOf : ByteArray := prog_7_method_7_code
def y_SB_targetOf : MethodName := ⟨R_SB, "targetOf", "(I)I"⟩
def ww_SB_targetOf : List Cond := .code y_SB_targetOf b_SB_targetOf 2 (some .int) :: zW
theorem kc_SB_targetOf : Cond.code y_SB_targetOf b_SB_targetOf 2 (some .int) ∈ zW := zin_1 (List.mem_of_getElem? (i := 227) rfl) rfl
abbrev b_SB_configurationOf : ByteArray := prog_7_method_8_code
def y_SB_configurationOf : MethodName := ⟨R_SB, "configurationOf", "(I)I"⟩
def ww_SB_configurationOf : List Cond := .code y_SB_configurationOf b_SB_configurationOf 2 (some .int) :: zW
theorem kc_SB_configurationOf : Cond.code y_SB_configurationOf b_SB_configurationOf 2 (some .int) ∈ zW := zin_1 (List.mem_of_getElem? (i := 190) rfl) rfl
abbrev b_SB_runOf : ByteArray := prog_7_method_9_code
def y_SB_runOf : MethodName := ⟨R_SB, "runOf", "(I)I"⟩
def ww_SB_runOf : List Cond := .code y_SB_runOf b_SB_runOf 2 (some .int) :: zW
theorem kc_SB_runOf : Cond.code y_SB_runOf b_SB_runOf 2 (some .int) ∈ zW := zin_2 (List.mem_of_getElem? (i := 56) rfl) rfl
abbrev b_SB_hasOpenOne : ByteArray := prog_7_method_10_code
def y_SB_hasOpenOne : MethodName := ⟨R_SB, "hasOpenOne", "(II)Z"⟩
def ww_SB_hasOpenOne : List Cond := .code y_SB_hasOpenOne b_SB_hasOpenOne 4 (some .boolean) :: zW
theorem kc_SB_hasOpenOne : Cond.code y_SB_hasOpenOne b_SB_hasOpenOne 4 (some .boolean) ∈ zW := zin_1 (List.mem_of_getElem? (i := 167) rfl) rfl
abbrev b_SB_hasOpenOneIn : ByteArray := prog_7_method_11_code
def y_SB_hasOpenOneIn : MethodName := ⟨R_SB, "hasOpenOneIn", "(I)Z"⟩
def ww_SB_hasOpenOneIn : List Cond := .code y_SB_hasOpenOneIn b_SB_hasOpenOneIn 3 (some .boolean) :: zW
theorem kc_SB_hasOpenOneIn : Cond.code y_SB_hasOpenOneIn b_SB_hasOpenOneIn 3 (some .boolean) ∈ zW := zin_2 (List.mem_of_getElem? (i := 135) rfl) rfl
abbrev b_LT_has : ByteArray := prog_5_method_2_code
def y_LT_has : MethodName := ⟨R_LT, "has", "(I)Z"⟩
def ww_LT_has : List Cond := .code y_LT_has b_LT_has 2 (some .boolean) :: zW
theorem kc_LT_has : Cond.code y_LT_has b_LT_has 2 (some .boolean) ∈ zW := zin_1 (List.mem_of_getElem? (i := 202) rfl) rfl
abbrev b_LT_put : ByteArray := prog_5_method_3_code
def y_LT_put : MethodName := ⟨R_LT, "put", "(IIJZZ)V"⟩
def ww_LT_put : List Cond := .code y_LT_put b_LT_put 7 none :: zW
theorem kc_LT_put : Cond.code y_LT_put b_LT_put 7 none ∈ zW := zin_2 (List.mem_of_getElem? (i := 10) rfl) rfl
abbrev b_LT_drop : ByteArray := prog_5_method_4_code
def y_LT_drop : MethodName := ⟨R_LT, "drop", "(I)V"⟩
def ww_LT_drop : List Cond := .code y_LT_drop b_LT_drop 2 none :: zW
theorem kc_LT_drop : Cond.code y_LT_drop b_LT_drop 2 none ∈ zW := zin_2 (List.mem_of_getElem? (i := 34) rfl) rfl
abbrev b_LT_makeThere : ByteArray := prog_5_method_5_code
def y_LT_makeThere : MethodName := ⟨R_LT, "makeThere", "(I)V"⟩
def ww_LT_makeThere : List Cond := .code y_LT_makeThere b_LT_makeThere 2 none :: zW
theorem kc_LT_makeThere : Cond.code y_LT_makeThere b_LT_makeThere 2 none ∈ zW := zin_2 (List.mem_of_getElem? (i := 81) rfl) rfl
abbrev b_LT_contentAt : ByteArray := prog_5_method_6_code
def y_LT_contentAt : MethodName := ⟨R_LT, "contentAt", "(I)J"⟩
def ww_LT_contentAt : List Cond := .code y_LT_contentAt b_LT_contentAt 2 (some .long) :: zW
theorem kc_LT_contentAt : Cond.code y_LT_contentAt b_LT_contentAt 2 (some .long) ∈ zW := zin_2 (List.mem_of_getElem? (i := 22) rfl) rfl
abbrev b_LT_isLazy : ByteArray := prog_5_method_11_code
def y_LT_isLazy : MethodName := ⟨R_LT, "isLazy", "(I)Z"⟩
def ww_LT_isLazy : List Cond := .code y_LT_isLazy b_LT_isLazy 2 (some .boolean) :: zW
theorem kc_LT_isLazy : Cond.code y_LT_isLazy b_LT_isLazy 2 (some .boolean) ∈ zW := zin_2 (List.mem_of_getElem? (i := 30) rfl) rfl
abbrev b_LT_storedIn : ByteArray := prog_5_method_7_code
def y_LT_storedIn : MethodName := ⟨R_LT, "storedIn", "(I)J"⟩
def ww_LT_storedIn : List Cond := .code y_LT_storedIn b_LT_storedIn 2 (some .long) :: zW
theorem kc_LT_storedIn : Cond.code y_LT_storedIn b_LT_storedIn 2 (some .long) ∈ zW := zin_2 (List.mem_of_getElem? (i := 147) rfl) rfl
abbrev b_LT_stepAt : ByteArray := prog_5_method_8_code
def y_LT_stepAt : MethodName := ⟨R_LT, "stepAt", "(I)I"⟩
def ww_LT_stepAt : List Cond := .code y_LT_stepAt b_LT_stepAt 2 (some .int) :: zW
theorem kc_LT_stepAt : Cond.code y_LT_stepAt b_LT_stepAt 2 (some .int) ∈ zW := zin_1 (List.mem_of_getElem? (i := 223) rfl) rfl
abbrev b_LT_isOfStep : ByteArray := prog_5_method_9_code
def y_LT_isOfStep : MethodName := ⟨R_LT, "isOfStep", "(II)Z"⟩
def ww_LT_isOfStep : List Cond := .code y_LT_isOfStep b_LT_isOfStep 3 (some .boolean) :: zW
theorem kc_LT_isOfStep : Cond.code y_LT_isOfStep b_LT_isOfStep 3 (some .boolean) ∈ zW := zin_1 (List.mem_of_getElem? (i := 198) rfl) rfl
abbrev b_LT_isExecutable : ByteArray := prog_5_method_10_code
def y_LT_isExecutable : MethodName := ⟨R_LT, "isExecutable", "(I)Z"⟩
def ww_LT_isExecutable : List Cond := .code y_LT_isExecutable b_LT_isExecutable 2 (some .boolean) :: zW
theorem kc_LT_isExecutable : Cond.code y_LT_isExecutable b_LT_isExecutable 2 (some .boolean) ∈ zW := zin_2 (List.mem_of_getElem? (i := 26) rfl) rfl
abbrev b_OS_isTarget : ByteArray := prog_1_method_27_code
def y_OS_isTarget : MethodName := ⟨R_OS, "isTarget", "(I)Z"⟩
def ww_OS_isTarget : List Cond := .code y_OS_isTarget b_OS_isTarget 1 (some .boolean) :: zW
theorem kc_OS_isTarget : Cond.code y_OS_isTarget b_OS_isTarget 1 (some .boolean) ∈ zW := zin_1 (List.mem_of_getElem? (i := 153) rfl) rfl
abbrev b_OS_isConfiguration : ByteArray := prog_1_method_28_code
def y_OS_isConfiguration : MethodName := ⟨R_OS, "isConfiguration", "(I)Z"⟩
def ww_OS_isConfiguration : List Cond := .code y_OS_isConfiguration b_OS_isConfiguration 1 (some .boolean) :: zW
theorem kc_OS_isConfiguration : Cond.code y_OS_isConfiguration b_OS_isConfiguration 1 (some .boolean) ∈ zW := zin_1 (List.mem_of_getElem? (i := 156) rfl) rfl
abbrev b_OS_isRun : ByteArray := prog_1_method_29_code
def y_OS_isRun : MethodName := ⟨R_OS, "isRun", "(I)Z"⟩
def ww_OS_isRun : List Cond := .code y_OS_isRun b_OS_isRun 1 (some .boolean) :: zW
theorem kc_OS_isRun : Cond.code y_OS_isRun b_OS_isRun 1 (some .boolean) ∈ zW := zin_1 (List.mem_of_getElem? (i := 159) rfl) rfl
abbrev b_OS_find : ByteArray := prog_1_method_30_code
def y_OS_find : MethodName := ⟨R_OS, "find", "([JIJ)I"⟩
def ww_OS_find : List Cond := .code y_OS_find b_OS_find 5 (some .int) :: zW
theorem kc_OS_find : Cond.code y_OS_find b_OS_find 5 (some .int) ∈ zW := zin_2 (List.mem_of_getElem? (i := 6) rfl) rfl
abbrev b_CS_has : ByteArray := prog_2_method_2_code
def y_CS_has : MethodName := ⟨R_CS, "has", "(J)Z"⟩
def ww_CS_has : List Cond := .code y_CS_has b_CS_has 3 (some .boolean) :: zW
theorem kc_CS_has : Cond.code y_CS_has b_CS_has 3 (some .boolean) ∈ zW := zin_2 (List.mem_of_getElem? (i := 3) rfl) rfl
abbrev b_CS_include : ByteArray := prog_2_method_3_code
def y_CS_include : MethodName := ⟨R_CS, "include", "(J)Z"⟩
def ww_CS_include : List Cond := .code y_CS_include b_CS_include 3 (some .boolean) :: zW
theorem kc_CS_include : Cond.code y_CS_include b_CS_include 3 (some .boolean) ∈ zW := zin_2 (List.mem_of_getElem? (i := 64) rfl) rfl
abbrev b_CS_exclude : ByteArray := prog_2_method_4_code
def y_CS_exclude : MethodName := ⟨R_CS, "exclude", "(J)V"⟩
def ww_CS_exclude : List Cond := .code y_CS_exclude b_CS_exclude 4 none :: zW
theorem kc_CS_exclude : Cond.code y_CS_exclude b_CS_exclude 4 none ∈ zW := zin_2 (List.mem_of_getElem? (i := 69) rfl) rfl
abbrev b_HB_isFull : ByteArray := prog_4_method_2_code
def y_HB_isFull : MethodName := ⟨R_HB, "isFull", "()Z"⟩
def ww_HB_isFull : List Cond := .code y_HB_isFull b_HB_isFull 1 (some .boolean) :: zW
theorem kc_HB_isFull : Cond.code y_HB_isFull b_HB_isFull 1 (some .boolean) ∈ zW := zin_2 (List.mem_of_getElem? (i := 77) rfl) rfl
abbrev b_HB_take : ByteArray := prog_4_method_3_code
def y_HB_take : MethodName := ⟨R_HB, "take", "(J)I"⟩
def ww_HB_take : List Cond := .code y_HB_take b_HB_take 3 (some .int) :: zW
theorem kc_HB_take : Cond.code y_HB_take b_HB_take 3 (some .int) ∈ zW := zin_2 (List.mem_of_getElem? (i := 85) rfl) rfl
abbrev b_HB_has : ByteArray := prog_4_method_4_code
def y_HB_has : MethodName := ⟨R_HB, "has", "(I)Z"⟩
def ww_HB_has : List Cond := .code y_HB_has b_HB_has 2 (some .boolean) :: zW
theorem kc_HB_has : Cond.code y_HB_has b_HB_has 2 (some .boolean) ∈ zW := zin_2 (List.mem_of_getElem? (i := 98) rfl) rfl
abbrev b_HB_contentOf : ByteArray := prog_4_method_5_code
def y_HB_contentOf : MethodName := ⟨R_HB, "contentOf", "(I)J"⟩
def ww_HB_contentOf : List Cond := .code y_HB_contentOf b_HB_contentOf 2 (some .long) :: zW
theorem kc_HB_contentOf : Cond.code y_HB_contentOf b_HB_contentOf 2 (some .long) ∈ zW := zin_2 (List.mem_of_getElem? (i := 94) rfl) rfl
abbrev b_HB_release : ByteArray := prog_4_method_6_code
def y_HB_release : MethodName := ⟨R_HB, "release", "(I)Z"⟩
def ww_HB_release : List Cond := .code y_HB_release b_HB_release 2 (some .boolean) :: zW
theorem kc_HB_release : Cond.code y_HB_release b_HB_release 2 (some .boolean) ∈ zW := zin_2 (List.mem_of_getElem? (i := 106) rfl) rfl
abbrev b_DM_get : ByteArray := prog_3_method_2_code
def y_DM_get : MethodName := ⟨R_DM, "get", "(II)Z"⟩
def ww_DM_get : List Cond := .code y_DM_get b_DM_get 3 (some .boolean) :: zW
theorem kc_DM_get : Cond.code y_DM_get b_DM_get 3 (some .boolean) ∈ zW := zin_2 (List.mem_of_getElem? (i := 127) rfl) rfl
abbrev b_DM_set : ByteArray := prog_3_method_3_code
def y_DM_set : MethodName := ⟨R_DM, "set", "(IIZ)V"⟩
def ww_DM_set : List Cond := .code y_DM_set b_DM_set 4 none :: zW
theorem kc_DM_set : Cond.code y_DM_set b_DM_set 4 none ∈ zW := zin_2 (List.mem_of_getElem? (i := 38) rfl) rfl
abbrev b_OS_slotOf : ByteArray := prog_1_method_26_code
def y_OS_slotOf : MethodName := ⟨R_OS, "slotOf", "(II)I"⟩
def ww_OS_slotOf : List Cond := .code y_OS_slotOf b_OS_slotOf 3 (some .int) :: zW
theorem kc_OS_slotOf : Cond.code y_OS_slotOf b_OS_slotOf 3 (some .int) ∈ zW := zin_1 (List.mem_of_getElem? (i := 194) rfl) rfl
abbrev b_OS_targetAt : ByteArray := prog_1_method_25_code
def y_OS_targetAt : MethodName := ⟨R_OS, "targetAt", "(I)I"⟩
def ww_OS_targetAt : List Cond := .code y_OS_targetAt b_OS_targetAt 2 (some .int) :: zW
theorem kc_OS_targetAt : Cond.code y_OS_targetAt b_OS_targetAt 2 (some .int) ∈ zW := zin_1 (List.mem_of_getElem? (i := 219) rfl) rfl
abbrev b_OS_dropStaged : ByteArray := prog_1_method_24_code
def y_OS_dropStaged : MethodName := ⟨R_OS, "dropStaged", "(I)V"⟩
def ww_OS_dropStaged : List Cond := .code y_OS_dropStaged b_OS_dropStaged 5 none :: zW
theorem kc_OS_dropStaged : Cond.code y_OS_dropStaged b_OS_dropStaged 5 none ∈ zW := zin_2 (List.mem_of_getElem? (i := 44) rfl) rfl
abbrev b_OS_replaceOutputs : ByteArray := prog_1_method_23_code
def y_OS_replaceOutputs : MethodName := ⟨R_OS, "replaceOutputs", "(I)I"⟩
def ww_OS_replaceOutputs : List Cond := .code y_OS_replaceOutputs b_OS_replaceOutputs 7 (some .int) :: zW
theorem kc_OS_replaceOutputs : Cond.code y_OS_replaceOutputs b_OS_replaceOutputs 7 (some .int) ∈ zW := zin_2 (List.mem_of_getElem? (i := 18) rfl) rfl
abbrev b_OS_countStaged : ByteArray := prog_1_method_22_code
def y_OS_countStaged : MethodName := ⟨R_OS, "countStaged", "(I)I"⟩
def ww_OS_countStaged : List Cond := .code y_OS_countStaged b_OS_countStaged 5 (some .int) :: zW
theorem kc_OS_countStaged : Cond.code y_OS_countStaged b_OS_countStaged 5 (some .int) ∈ zW := zin_1 (List.mem_of_getElem? (i := 206) rfl) rfl
abbrev b_OS_isStagedAgainst : ByteArray := prog_1_method_21_code
def y_OS_isStagedAgainst : MethodName := ⟨R_OS, "isStagedAgainst", "(IIZ)Z"⟩
def ww_OS_isStagedAgainst : List Cond := .code y_OS_isStagedAgainst b_OS_isStagedAgainst 4 (some .boolean) :: zW
theorem kc_OS_isStagedAgainst : Cond.code y_OS_isStagedAgainst b_OS_isStagedAgainst 4 (some .boolean) ∈ zW := zin_1 (List.mem_of_getElem? (i := 231) rfl) rfl
abbrev b_OS_isOutputOfAnother : ByteArray := prog_1_method_20_code
def y_OS_isOutputOfAnother : MethodName := ⟨R_OS, "isOutputOfAnother", "(II)Z"⟩
def ww_OS_isOutputOfAnother : List Cond := .code y_OS_isOutputOfAnother b_OS_isOutputOfAnother 3 (some .boolean) :: zW
theorem kc_OS_isOutputOfAnother : Cond.code y_OS_isOutputOfAnother b_OS_isOutputOfAnother 3 (some .boolean) ∈ zW := zin_1 (List.mem_of_getElem? (i := 214) rfl) rfl
abbrev b_OS_isRefused : ByteArray := prog_1_method_19_code
def y_OS_isRefused : MethodName := ⟨R_OS, "isRefused", "(II)Z"⟩
def ww_OS_isRefused : List Cond := .code y_OS_isRefused b_OS_isRefused 7 (some .boolean) :: zW
theorem kc_OS_isRefused : Cond.code y_OS_isRefused b_OS_isRefused 7 (some .boolean) ∈ zW := zin_1 (List.mem_of_getElem? (i := 210) rfl) rfl
abbrev b_OS_storedAt : ByteArray := prog_1_method_18_code
def y_OS_storedAt : MethodName := ⟨R_OS, "storedAt", "(I)J"⟩
def ww_OS_storedAt : List Cond := .code y_OS_storedAt b_OS_storedAt 2 (some .long) :: zW
theorem kc_OS_storedAt : Cond.code y_OS_storedAt b_OS_storedAt 2 (some .long) ∈ zW := zin_2 (List.mem_of_getElem? (i := 143) rfl) rfl
abbrev b_OS_path : ByteArray := prog_1_method_2_code
def y_OS_path : MethodName := ⟨R_OS, "path", "(I)I"⟩
def ww_OS_path : List Cond := .code y_OS_path b_OS_path 2 (some .int) :: zW
theorem kc_OS_path : Cond.code y_OS_path b_OS_path 2 (some .int) ∈ zW := zin_1 (List.mem_of_getElem? (i := 138) rfl) rfl
abbrev b_OS_begin : ByteArray := prog_1_method_3_code
def y_OS_begin : MethodName := ⟨R_OS, "begin", "(III)I"⟩
def ww_OS_begin : List Cond := .code y_OS_begin b_OS_begin 4 (some .int) :: zW
theorem kc_OS_begin : Cond.code y_OS_begin b_OS_begin 4 (some .int) ∈ zW := zin_1 (List.mem_of_getElem? (i := 150) rfl) rfl
abbrev b_OS_stage : ByteArray := prog_1_method_4_code
def y_OS_stage : MethodName := ⟨R_OS, "stage", "(IIJZZ)I"⟩
def ww_OS_stage : List Cond := .code y_OS_stage b_OS_stage 8 (some .int) :: zW
theorem kc_OS_stage : Cond.code y_OS_stage b_OS_stage 8 (some .int) ∈ zW := zin_1 (List.mem_of_getElem? (i := 184) rfl) rfl
abbrev b_OS_end : ByteArray := prog_1_method_5_code
def y_OS_end : MethodName := ⟨R_OS, "end", "(IZ)I"⟩
def ww_OS_end : List Cond := .code y_OS_end b_OS_end 4 (some .int) :: zW
theorem kc_OS_end : Cond.code y_OS_end b_OS_end 4 (some .int) ∈ zW := zin_2 (List.mem_of_getElem? (i := 14) rfl) rfl
abbrev b_OS_abandon : ByteArray := prog_1_method_6_code
def y_OS_abandon : MethodName := ⟨R_OS, "abandon", "(I)I"⟩
def ww_OS_abandon : List Cond := .code y_OS_abandon b_OS_abandon 4 (some .int) :: zW
theorem kc_OS_abandon : Cond.code y_OS_abandon b_OS_abandon 4 (some .int) ∈ zW := zin_2 (List.mem_of_getElem? (i := 52) rfl) rfl
abbrev b_OS_cache : ByteArray := prog_1_method_7_code
def y_OS_cache : MethodName := ⟨R_OS, "cache", "(JZ)Z"⟩
def ww_OS_cache : List Cond := .code y_OS_cache b_OS_cache 4 (some .boolean) :: zW
theorem kc_OS_cache : Cond.code y_OS_cache b_OS_cache 4 (some .boolean) ∈ zW := zin_2 (List.mem_of_getElem? (i := 60) rfl) rfl
abbrev b_OS_read : ByteArray := prog_1_method_8_code
def y_OS_read : MethodName := ⟨R_OS, "read", "(II)I"⟩
def ww_OS_read : List Cond := .code y_OS_read b_OS_read 6 (some .int) :: zW
theorem kc_OS_read : Cond.code y_OS_read b_OS_read 6 (some .int) ∈ zW := zin_2 (List.mem_of_getElem? (i := 73) rfl) rfl
abbrev b_OS_held : ByteArray := prog_1_method_9_code
def y_OS_held : MethodName := ⟨R_OS, "held", "(I)J"⟩
def ww_OS_held : List Cond := .code y_OS_held b_OS_held 2 (some .long) :: zW
theorem kc_OS_held : Cond.code y_OS_held b_OS_held 2 (some .long) ∈ zW := zin_2 (List.mem_of_getElem? (i := 90) rfl) rfl
abbrev b_OS_letGo : ByteArray := prog_1_method_10_code
def y_OS_letGo : MethodName := ⟨R_OS, "letGo", "(I)Z"⟩
def ww_OS_letGo : List Cond := .code y_OS_letGo b_OS_letGo 2 (some .boolean) :: zW
theorem kc_OS_letGo : Cond.code y_OS_letGo b_OS_letGo 2 (some .boolean) ∈ zW := zin_2 (List.mem_of_getElem? (i := 102) rfl) rfl
abbrev b_OS_content : ByteArray := prog_1_method_11_code
def y_OS_content : MethodName := ⟨R_OS, "content", "(II)J"⟩
def ww_OS_content : List Cond := .code y_OS_content b_OS_content 3 (some .long) :: zW
theorem kc_OS_content : Cond.code y_OS_content b_OS_content 3 (some .long) ∈ zW := zin_2 (List.mem_of_getElem? (i := 110) rfl) rfl
abbrev b_OS_about : ByteArray := prog_1_method_12_code
def y_OS_about : MethodName := ⟨R_OS, "about", "(III)I"⟩
def ww_OS_about : List Cond := .code y_OS_about b_OS_about 5 (some .int) :: zW
theorem kc_OS_about : Cond.code y_OS_about b_OS_about 5 (some .int) ∈ zW := zin_2 (List.mem_of_getElem? (i := 114) rfl) rfl
abbrev b_OS_list : ByteArray := prog_1_method_13_code
def y_OS_list : MethodName := ⟨R_OS, "list", "(III)I"⟩
def ww_OS_list : List Cond := .code y_OS_list b_OS_list 6 (some .int) :: zW
theorem kc_OS_list : Cond.code y_OS_list b_OS_list 6 (some .int) ∈ zW := zin_2 (List.mem_of_getElem? (i := 118) rfl) rfl
abbrev b_OS_dirty : ByteArray := prog_1_method_14_code
def y_OS_dirty : MethodName := ⟨R_OS, "dirty", "(II)Z"⟩
def ww_OS_dirty : List Cond := .code y_OS_dirty b_OS_dirty 3 (some .boolean) :: zW
theorem kc_OS_dirty : Cond.code y_OS_dirty b_OS_dirty 3 (some .boolean) ∈ zW := zin_2 (List.mem_of_getElem? (i := 123) rfl) rfl
abbrev b_OS_clear : ByteArray := prog_1_method_15_code
def y_OS_clear : MethodName := ⟨R_OS, "clear", "(I)I"⟩
def ww_OS_clear : List Cond := .code y_OS_clear b_OS_clear 5 (some .int) :: zW
theorem kc_OS_clear : Cond.code y_OS_clear b_OS_clear 5 (some .int) ∈ zW := zin_2 (List.mem_of_getElem? (i := 131) rfl) rfl
abbrev b_OS_copies : ByteArray := prog_1_method_16_code
def y_OS_copies : MethodName := ⟨R_OS, "copies", "(J)I"⟩
def ww_OS_copies : List Cond := .code y_OS_copies b_OS_copies 5 (some .int) :: zW
theorem kc_OS_copies : Cond.code y_OS_copies b_OS_copies 5 (some .int) ∈ zW := zin_2 (List.mem_of_getElem? (i := 139) rfl) rfl
abbrev b_OS_stored : ByteArray := prog_1_method_17_code
def y_OS_stored : MethodName := ⟨R_OS, "stored", "()I"⟩
def ww_OS_stored : List Cond := .code y_OS_stored b_OS_stored 5 (some .int) :: zW
theorem kc_OS_stored : Cond.code y_OS_stored b_OS_stored 5 (some .int) ∈ zW := zin_2 (List.mem_of_getElem? (i := 153) rfl) rfl
abbrev b_MO_within : ByteArray := prog_9_method_3_code
def y_MO_within : MethodName := ⟨R_MO, "within", "(II)Z"⟩
def ww_MO_within : List Cond := .code y_MO_within b_MO_within 2 (some .boolean) :: zW
theorem kc_MO_within : Cond.code y_MO_within b_MO_within 2 (some .boolean) ∈ zW := zin_3 (List.mem_of_getElem? (i := 8) rfl) rfl
abbrev b_MO_isPath : ByteArray := prog_9_method_4_code
def y_MO_isPath : MethodName := ⟨R_MO, "isPath", "(I)Z"⟩
def ww_MO_isPath : List Cond := .code y_MO_isPath b_MO_isPath 2 (some .boolean) :: zW
theorem kc_MO_isPath : Cond.code y_MO_isPath b_MO_isPath 2 (some .boolean) ∈ zW := zin_3 (List.mem_of_getElem? (i := 1) rfl) rfl
abbrev b_MO_isOpenStep : ByteArray := prog_9_method_5_code
def y_MO_isOpenStep : MethodName := ⟨R_MO, "isOpenStep", "(I)Z"⟩
def ww_MO_isOpenStep : List Cond := .code y_MO_isOpenStep b_MO_isOpenStep 2 (some .boolean) :: zW
theorem kc_MO_isOpenStep : Cond.code y_MO_isOpenStep b_MO_isOpenStep 2 (some .boolean) ∈ zW := zin_3 (List.mem_of_getElem? (i := 16) rfl) rfl
abbrev b_MO_path : ByteArray := prog_9_method_6_code
def y_MO_path : MethodName := ⟨R_MO, "path", "(I)I"⟩
def ww_MO_path : List Cond := .code y_MO_path b_MO_path 2 (some .int) :: zW
theorem kc_MO_path : Cond.code y_MO_path b_MO_path 2 (some .int) ∈ zW := zin_2 (List.mem_of_getElem? (i := 237) rfl) rfl
abbrev b_MO_isWithin : ByteArray := prog_9_method_7_code
def y_MO_isWithin : MethodName := ⟨R_MO, "isWithin", "(II)Z"⟩
def ww_MO_isWithin : List Cond := .code y_MO_isWithin b_MO_isWithin 4 (some .boolean) :: zW
theorem kc_MO_isWithin : Cond.code y_MO_isWithin b_MO_isWithin 4 (some .boolean) ∈ zW := zin_3 (List.mem_of_getElem? (i := 32) rfl) rfl
abbrev b_MO_meet : ByteArray := prog_9_method_8_code
def y_MO_meet : MethodName := ⟨R_MO, "meet", "(II)Z"⟩
def ww_MO_meet : List Cond := .code y_MO_meet b_MO_meet 3 (some .boolean) :: zW
theorem kc_MO_meet : Cond.code y_MO_meet b_MO_meet 3 (some .boolean) ∈ zW := zin_3 (List.mem_of_getElem? (i := 28) rfl) rfl
abbrev b_MO_begin : ByteArray := prog_9_method_9_code
def y_MO_begin : MethodName := ⟨R_MO, "begin", "(III)I"⟩
def ww_MO_begin : List Cond := .code y_MO_begin b_MO_begin 5 (some .int) :: zW
theorem kc_MO_begin : Cond.code y_MO_begin b_MO_begin 5 (some .int) ∈ zW := zin_3 (List.mem_of_getElem? (i := 5) rfl) rfl
abbrev b_MO_placeOf : ByteArray := prog_9_method_10_code
def y_MO_placeOf : MethodName := ⟨R_MO, "placeOf", "(II)I"⟩
def ww_MO_placeOf : List Cond := .code y_MO_placeOf b_MO_placeOf 5 (some .int) :: zW
theorem kc_MO_placeOf : Cond.code y_MO_placeOf b_MO_placeOf 5 (some .int) ∈ zW := zin_3 (List.mem_of_getElem? (i := 20) rfl) rfl
abbrev b_MO_meetsOutput : ByteArray := prog_9_method_11_code
def y_MO_meetsOutput : MethodName := ⟨R_MO, "meetsOutput", "(II)Z"⟩
def ww_MO_meetsOutput : List Cond := .code y_MO_meetsOutput b_MO_meetsOutput 5 (some .boolean) :: zW
theorem kc_MO_meetsOutput : Cond.code y_MO_meetsOutput b_MO_meetsOutput 5 (some .boolean) ∈ zW := zin_3 (List.mem_of_getElem? (i := 24) rfl) rfl
abbrev b_MO_meetsStaged : ByteArray := prog_9_method_12_code
def y_MO_meetsStaged : MethodName := ⟨R_MO, "meetsStaged", "(II)Z"⟩
def ww_MO_meetsStaged : List Cond := .code y_MO_meetsStaged b_MO_meetsStaged 6 (some .boolean) :: zW
theorem kc_MO_meetsStaged : Cond.code y_MO_meetsStaged b_MO_meetsStaged 6 (some .boolean) ∈ zW := zin_3 (List.mem_of_getElem? (i := 36) rfl) rfl
abbrev b_MO_isCached : ByteArray := prog_9_method_13_code
def y_MO_isCached : MethodName := ⟨R_MO, "isCached", "(J)Z"⟩
def ww_MO_isCached : List Cond := .code y_MO_isCached b_MO_isCached 5 (some .boolean) :: zW
theorem kc_MO_isCached : Cond.code y_MO_isCached b_MO_isCached 5 (some .boolean) ∈ zW := zin_3 (List.mem_of_getElem? (i := 40) rfl) rfl
abbrev b_MO_stage : ByteArray := prog_9_method_14_code
def y_MO_stage : MethodName := ⟨R_MO, "stage", "(IIJZZ)I"⟩
def ww_MO_stage : List Cond := .code y_MO_stage b_MO_stage 8 (some .int) :: zW
theorem kc_MO_stage : Cond.code y_MO_stage b_MO_stage 8 (some .int) ∈ zW := zin_3 (List.mem_of_getElem? (i := 12) rfl) rfl
abbrev b_MO_goOld : ByteArray := prog_9_method_15_code
def y_MO_goOld : MethodName := ⟨R_MO, "goOld", "(I)I"⟩
def ww_MO_goOld : List Cond := .code y_MO_goOld b_MO_goOld 5 (some .int) :: zW
theorem kc_MO_goOld : Cond.code y_MO_goOld b_MO_goOld 5 (some .int) ∈ zW := zin_3 (List.mem_of_getElem? (i := 48) rfl) rfl
abbrev b_MO_end : ByteArray := prog_9_method_16_code
def y_MO_end : MethodName := ⟨R_MO, "end", "(IZ)I"⟩
def ww_MO_end : List Cond := .code y_MO_end b_MO_end 6 (some .int) :: zW
theorem kc_MO_end : Cond.code y_MO_end b_MO_end 6 (some .int) ∈ zW := zin_3 (List.mem_of_getElem? (i := 44) rfl) rfl
abbrev b_MO_abandon : ByteArray := prog_9_method_17_code
def y_MO_abandon : MethodName := ⟨R_MO, "abandon", "(I)I"⟩
def ww_MO_abandon : List Cond := .code y_MO_abandon b_MO_abandon 4 (some .int) :: zW
theorem kc_MO_abandon : Cond.code y_MO_abandon b_MO_abandon 4 (some .int) ∈ zW := zin_3 (List.mem_of_getElem? (i := 52) rfl) rfl
abbrev b_MO_cache : ByteArray := prog_9_method_18_code
def y_MO_cache : MethodName := ⟨R_MO, "cache", "(JZ)Z"⟩
def ww_MO_cache : List Cond := .code y_MO_cache b_MO_cache 5 (some .boolean) :: zW
theorem kc_MO_cache : Cond.code y_MO_cache b_MO_cache 5 (some .boolean) ∈ zW := zin_3 (List.mem_of_getElem? (i := 56) rfl) rfl
abbrev b_MO_isOutput : ByteArray := prog_9_method_19_code
def y_MO_isOutput : MethodName := ⟨R_MO, "isOutput", "(II)Z"⟩
def ww_MO_isOutput : List Cond := .code y_MO_isOutput b_MO_isOutput 3 (some .boolean) :: zW
theorem kc_MO_isOutput : Cond.code y_MO_isOutput b_MO_isOutput 3 (some .boolean) ∈ zW := zin_3 (List.mem_of_getElem? (i := 64) rfl) rfl
abbrev b_MO_read : ByteArray := prog_9_method_20_code
def y_MO_read : MethodName := ⟨R_MO, "read", "(II)I"⟩
def ww_MO_read : List Cond := .code y_MO_read b_MO_read 4 (some .int) :: zW
theorem kc_MO_read : Cond.code y_MO_read b_MO_read 4 (some .int) ∈ zW := zin_3 (List.mem_of_getElem? (i := 60) rfl) rfl
abbrev b_MO_held : ByteArray := prog_9_method_21_code
def y_MO_held : MethodName := ⟨R_MO, "held", "(I)J"⟩
def ww_MO_held : List Cond := .code y_MO_held b_MO_held 2 (some .long) :: zW
theorem kc_MO_held : Cond.code y_MO_held b_MO_held 2 (some .long) ∈ zW := zin_3 (List.mem_of_getElem? (i := 68) rfl) rfl
abbrev b_MO_letGo : ByteArray := prog_9_method_22_code
def y_MO_letGo : MethodName := ⟨R_MO, "letGo", "(I)Z"⟩
def ww_MO_letGo : List Cond := .code y_MO_letGo b_MO_letGo 2 (some .boolean) :: zW
theorem kc_MO_letGo : Cond.code y_MO_letGo b_MO_letGo 2 (some .boolean) ∈ zW := zin_3 (List.mem_of_getElem? (i := 72) rfl) rfl
abbrev b_MO_content : ByteArray := prog_9_method_23_code
def y_MO_content : MethodName := ⟨R_MO, "content", "(II)J"⟩
def ww_MO_content : List Cond := .code y_MO_content b_MO_content 3 (some .long) :: zW
theorem kc_MO_content : Cond.code y_MO_content b_MO_content 3 (some .long) ∈ zW := zin_3 (List.mem_of_getElem? (i := 76) rfl) rfl
abbrev b_MO_about : ByteArray := prog_9_method_24_code
def y_MO_about : MethodName := ⟨R_MO, "about", "(III)I"⟩
def ww_MO_about : List Cond := .code y_MO_about b_MO_about 5 (some .int) :: zW
theorem kc_MO_about : Cond.code y_MO_about b_MO_about 5 (some .int) ∈ zW := zin_3 (List.mem_of_getElem? (i := 80) rfl) rfl
abbrev b_MO_list : ByteArray := prog_9_method_25_code
def y_MO_list : MethodName := ⟨R_MO, "list", "(III)I"⟩
def ww_MO_list : List Cond := .code y_MO_list b_MO_list 6 (some .int) :: zW
theorem kc_MO_list : Cond.code y_MO_list b_MO_list 6 (some .int) ∈ zW := zin_3 (List.mem_of_getElem? (i := 84) rfl) rfl
abbrev b_MO_dirty : ByteArray := prog_9_method_26_code
def y_MO_dirty : MethodName := ⟨R_MO, "dirty", "(II)Z"⟩
def ww_MO_dirty : List Cond := .code y_MO_dirty b_MO_dirty 3 (some .boolean) :: zW
theorem kc_MO_dirty : Cond.code y_MO_dirty b_MO_dirty 3 (some .boolean) ∈ zW := zin_3 (List.mem_of_getElem? (i := 88) rfl) rfl
abbrev b_MO_clear : ByteArray := prog_9_method_27_code
def y_MO_clear : MethodName := ⟨R_MO, "clear", "(I)I"⟩
def ww_MO_clear : List Cond := .code y_MO_clear b_MO_clear 4 (some .int) :: zW
theorem kc_MO_clear : Cond.code y_MO_clear b_MO_clear 4 (some .int) ∈ zW := zin_3 (List.mem_of_getElem? (i := 92) rfl) rfl
abbrev b_MO_meets : ByteArray := prog_9_method_28_code
def y_MO_meets : MethodName := ⟨R_MO, "meets", "(J)V"⟩
def ww_MO_meets : List Cond := .code y_MO_meets b_MO_meets 3 none :: zW
theorem kc_MO_meets : Cond.code y_MO_meets b_MO_meets 3 none ∈ zW := zin_3 (List.mem_of_getElem? (i := 104) rfl) rfl
abbrev b_MO_gather : ByteArray := prog_9_method_29_code
def y_MO_gather : MethodName := ⟨R_MO, "gather", "()V"⟩
def ww_MO_gather : List Cond := .code y_MO_gather b_MO_gather 3 none :: zW
theorem kc_MO_gather : Cond.code y_MO_gather b_MO_gather 3 none ∈ zW := zin_3 (List.mem_of_getElem? (i := 100) rfl) rfl
abbrev b_MO_copies : ByteArray := prog_9_method_30_code
def y_MO_copies : MethodName := ⟨R_MO, "copies", "(J)I"⟩
def ww_MO_copies : List Cond := .code y_MO_copies b_MO_copies 5 (some .int) :: zW
theorem kc_MO_copies : Cond.code y_MO_copies b_MO_copies 5 (some .int) ∈ zW := zin_3 (List.mem_of_getElem? (i := 96) rfl) rfl
abbrev b_MO_stored : ByteArray := prog_9_method_31_code
def y_MO_stored : MethodName := ⟨R_MO, "stored", "()I"⟩
def ww_MO_stored : List Cond := .code y_MO_stored b_MO_stored 5 (some .int) :: zW
theorem kc_MO_stored : Cond.code y_MO_stored b_MO_stored 5 (some .int) ∈ zW := zin_3 (List.mem_of_getElem? (i := 108) rfl) rfl
end
section
theorem s_OS_slotOf : Cond.selects R_OS y_OS_slotOf y_OS_slotOf ∈ zW := zin_0 (List.mem_of_getElem? (i := 0) rfl) rfl
theorem s_OS_countStaged : Cond.selects R_OS y_OS_countStaged y_OS_countStaged ∈ zW := zin_0 (List.mem_of_getElem? (i := 1) rfl) rfl
theorem s_OS_isRefused : Cond.selects R_OS y_OS_isRefused y_OS_isRefused ∈ zW := zin_0 (List.mem_of_getElem? (i := 2) rfl) rfl
theorem s_OS_isOutputOfAnother : Cond.selects R_OS y_OS_isOutputOfAnother y_OS_isOutputOfAnother ∈ zW := zin_0 (List.mem_of_getElem? (i := 3) rfl) rfl
theorem s_OS_targetAt : Cond.selects R_OS y_OS_targetAt y_OS_targetAt ∈ zW := zin_0 (List.mem_of_getElem? (i := 4) rfl) rfl
theorem s_OS_isStagedAgainst : Cond.selects R_OS y_OS_isStagedAgainst y_OS_isStagedAgainst ∈ zW := zin_0 (List.mem_of_getElem? (i := 5) rfl) rfl
theorem s_OS_replaceOutputs : Cond.selects R_OS y_OS_replaceOutputs y_OS_replaceOutputs ∈ zW := zin_0 (List.mem_of_getElem? (i := 6) rfl) rfl
theorem s_OS_dropStaged : Cond.selects R_OS y_OS_dropStaged y_OS_dropStaged ∈ zW := zin_0 (List.mem_of_getElem? (i := 7) rfl) rfl
theorem s_OS_storedAt : Cond.selects R_OS y_OS_storedAt y_OS_storedAt ∈ zW := zin_0 (List.mem_of_getElem? (i := 8) rfl) rfl
theorem s_MO_isPath : Cond.selects R_MO y_MO_isPath y_MO_isPath ∈ zW := zin_0 (List.mem_of_getElem? (i := 9) rfl) rfl
theorem s_MO_isOpenStep : Cond.selects R_MO y_MO_isOpenStep y_MO_isOpenStep ∈ zW := zin_0 (List.mem_of_getElem? (i := 10) rfl) rfl
theorem s_MO_placeOf : Cond.selects R_MO y_MO_placeOf y_MO_placeOf ∈ zW := zin_0 (List.mem_of_getElem? (i := 11) rfl) rfl
theorem s_MO_meetsOutput : Cond.selects R_MO y_MO_meetsOutput y_MO_meetsOutput ∈ zW := zin_0 (List.mem_of_getElem? (i := 12) rfl) rfl
theorem s_MO_meet : Cond.selects R_MO y_MO_meet y_MO_meet ∈ zW := zin_0 (List.mem_of_getElem? (i := 13) rfl) rfl
theorem s_MO_isWithin : Cond.selects R_MO y_MO_isWithin y_MO_isWithin ∈ zW := zin_0 (List.mem_of_getElem? (i := 14) rfl) rfl
theorem s_MO_meetsStaged : Cond.selects R_MO y_MO_meetsStaged y_MO_meetsStaged ∈ zW := zin_0 (List.mem_of_getElem? (i := 15) rfl) rfl
theorem s_MO_isCached : Cond.selects R_MO y_MO_isCached y_MO_isCached ∈ zW := zin_0 (List.mem_of_getElem? (i := 16) rfl) rfl
theorem s_MO_goOld : Cond.selects R_MO y_MO_goOld y_MO_goOld ∈ zW := zin_0 (List.mem_of_getElem? (i := 17) rfl) rfl
theorem s_MO_isOutput : Cond.selects R_MO y_MO_isOutput y_MO_isOutput ∈ zW := zin_0 (List.mem_of_getElem? (i := 18) rfl) rfl
theorem s_MO_gather : Cond.selects R_MO y_MO_gather y_MO_gather ∈ zW := zin_0 (List.mem_of_getElem? (i := 19) rfl) rfl
theorem s_MO_meets : Cond.selects R_MO y_MO_meets y_MO_meets ∈ zW := zin_0 (List.mem_of_getElem? (i := 20) rfl) rfl
theorem in_PT : ∀ w ∈ u_ws R_PT F_PT 2, w ∈ zW := by decide +kernel
theorem in_SB : ∀ w ∈ u_ws R_SB F_SB 5, w ∈ zW := by decide +kernel
theorem in_LT : ∀ w ∈ u_ws R_LT F_LT 4, w ∈ zW := by decide +kernel
theorem in_CS : ∀ w ∈ u_ws R_CS F_CS 2, w ∈ zW := by decide +kernel
theorem in_HB : ∀ w ∈ u_ws R_HB F_HB 2, w ∈ zW := by decide +kernel
theorem in_DM : ∀ w ∈ u_ws R_DM F_DM 1, w ∈ zW := by decide +kernel
theorem in_OS : ∀ w ∈ u_ws R_OS F_OS 8, w ∈ zW := by decide +kernel
theorem in_MO : ∀ w ∈ u_ws R_MO F_MO 24, w ∈ zW := by decide +kernel
theorem k_1_1 : Cond.initialized "OutputStore" ∈ zW := zin_1 (List.mem_of_getElem? (i := 1) rfl) rfl
theorem k_1_2 : Cond.initialized "OutputStore$PathTree" ∈ zW := zin_1 (List.mem_of_getElem? (i := 2) rfl) rfl
theorem k_1_3 : Cond.initialized "OutputStore$StepBook" ∈ zW := zin_1 (List.mem_of_getElem? (i := 3) rfl) rfl
theorem k_1_4 : Cond.initialized "OutputStore$LinkTable" ∈ zW := zin_1 (List.mem_of_getElem? (i := 4) rfl) rfl
theorem k_1_5 : Cond.initialized "OutputStore$CachedSet" ∈ zW := zin_1 (List.mem_of_getElem? (i := 5) rfl) rfl
theorem k_1_6 : Cond.initialized "OutputStore$HoldBook" ∈ zW := zin_1 (List.mem_of_getElem? (i := 6) rfl) rfl
theorem k_1_7 : Cond.initialized "OutputStore$DirtyMarks" ∈ zW := zin_1 (List.mem_of_getElem? (i := 7) rfl) rfl
theorem k_1_8 : Cond.initialized "OutputStoreModel" ∈ zW := zin_1 (List.mem_of_getElem? (i := 8) rfl) rfl
theorem k_1_14 : Cond.methodLink "OutputStore" 3 (⟨"java/lang/Object", "<init>", "()V"⟩ : MethodName) ∈ zW := zin_1 (List.mem_of_getElem? (i := 14) rfl) rfl
theorem k_1_15 : Cond.instanceMethod (⟨"java/lang/Object", "<init>", "()V"⟩ : MethodName) ∈ zW := zin_1 (List.mem_of_getElem? (i := 15) rfl) rfl
theorem k_1_16 : Cond.code (⟨"java/lang/Object", "<init>", "()V"⟩ : MethodName) object_method_1_code 1 (Option.none : Option Jvm.ClassFile.FieldType) ∈ zW := zin_1 (List.mem_of_getElem? (i := 16) rfl) rfl
theorem k_1_17 : Cond.classLink "OutputStore" 9 "OutputStore$PathTree" ∈ zW := zin_1 (List.mem_of_getElem? (i := 17) rfl) rfl
theorem k_1_18 : Cond.instantiable "OutputStore$PathTree" 2 ∈ zW := zin_1 (List.mem_of_getElem? (i := 18) rfl) rfl
theorem k_1_20 : Cond.instanceMethod (⟨"OutputStore$PathTree", "<init>", "()V"⟩ : MethodName) ∈ zW := zin_1 (List.mem_of_getElem? (i := 20) rfl) rfl
theorem k_1_22 : Cond.methodLink "OutputStore$PathTree" 3 (⟨"java/lang/Object", "<init>", "()V"⟩ : MethodName) ∈ zW := zin_1 (List.mem_of_getElem? (i := 22) rfl) rfl
theorem k_1_23 : Cond.fieldLink "OutputStore$PathTree" 9 "OutputStore$PathTree" "outer" "[I" ∈ zW := zin_1 (List.mem_of_getElem? (i := 23) rfl) rfl
theorem k_1_24 : Cond.fieldLink "OutputStore$PathTree" 15 "OutputStore$PathTree" "count" "I" ∈ zW := zin_1 (List.mem_of_getElem? (i := 24) rfl) rfl
theorem k_1_30 : Cond.arrayClass Jvm.ClassFile.FieldType.int ∈ zW := zin_1 (List.mem_of_getElem? (i := 30) rfl) rfl
theorem k_1_31 : Cond.classLink "OutputStore" 16 "OutputStore$StepBook" ∈ zW := zin_1 (List.mem_of_getElem? (i := 31) rfl) rfl
theorem k_1_32 : Cond.instantiable "OutputStore$StepBook" 5 ∈ zW := zin_1 (List.mem_of_getElem? (i := 32) rfl) rfl
theorem k_1_34 : Cond.instanceMethod (⟨"OutputStore$StepBook", "<init>", "()V"⟩ : MethodName) ∈ zW := zin_1 (List.mem_of_getElem? (i := 34) rfl) rfl
theorem k_1_36 : Cond.methodLink "OutputStore$StepBook" 3 (⟨"java/lang/Object", "<init>", "()V"⟩ : MethodName) ∈ zW := zin_1 (List.mem_of_getElem? (i := 36) rfl) rfl
theorem k_1_37 : Cond.fieldLink "OutputStore$StepBook" 9 "OutputStore$StepBook" "targets" "[I" ∈ zW := zin_1 (List.mem_of_getElem? (i := 37) rfl) rfl
theorem k_1_38 : Cond.fieldLink "OutputStore$StepBook" 15 "OutputStore$StepBook" "configurations" "[I" ∈ zW := zin_1 (List.mem_of_getElem? (i := 38) rfl) rfl
theorem k_1_39 : Cond.fieldLink "OutputStore$StepBook" 18 "OutputStore$StepBook" "runs" "[I" ∈ zW := zin_1 (List.mem_of_getElem? (i := 39) rfl) rfl
theorem k_1_40 : Cond.fieldLink "OutputStore$StepBook" 21 "OutputStore$StepBook" "opened" "[Z" ∈ zW := zin_1 (List.mem_of_getElem? (i := 40) rfl) rfl
theorem k_1_41 : Cond.fieldLink "OutputStore$StepBook" 25 "OutputStore$StepBook" "count" "I" ∈ zW := zin_1 (List.mem_of_getElem? (i := 41) rfl) rfl
theorem k_1_53 : Cond.arrayClass Jvm.ClassFile.FieldType.boolean ∈ zW := zin_1 (List.mem_of_getElem? (i := 53) rfl) rfl
theorem k_1_54 : Cond.classLink "OutputStore" 23 "OutputStore$LinkTable" ∈ zW := zin_1 (List.mem_of_getElem? (i := 54) rfl) rfl
theorem k_1_55 : Cond.instantiable "OutputStore$LinkTable" 4 ∈ zW := zin_1 (List.mem_of_getElem? (i := 55) rfl) rfl
theorem k_1_57 : Cond.instanceMethod (⟨"OutputStore$LinkTable", "<init>", "()V"⟩ : MethodName) ∈ zW := zin_1 (List.mem_of_getElem? (i := 57) rfl) rfl
theorem k_1_59 : Cond.methodLink "OutputStore$LinkTable" 3 (⟨"java/lang/Object", "<init>", "()V"⟩ : MethodName) ∈ zW := zin_1 (List.mem_of_getElem? (i := 59) rfl) rfl
theorem k_1_60 : Cond.fieldLink "OutputStore$LinkTable" 9 "OutputStore$LinkTable" "contents" "[J" ∈ zW := zin_1 (List.mem_of_getElem? (i := 60) rfl) rfl
theorem k_1_61 : Cond.fieldLink "OutputStore$LinkTable" 15 "OutputStore$LinkTable" "makers" "[I" ∈ zW := zin_1 (List.mem_of_getElem? (i := 61) rfl) rfl
theorem k_1_62 : Cond.fieldLink "OutputStore$LinkTable" 19 "OutputStore$LinkTable" "executables" "[Z" ∈ zW := zin_1 (List.mem_of_getElem? (i := 62) rfl) rfl
theorem k_1_63 : Cond.fieldLink "OutputStore$LinkTable" 23 "OutputStore$LinkTable" "lazies" "[Z" ∈ zW := zin_1 (List.mem_of_getElem? (i := 63) rfl) rfl
theorem k_1_73 : Cond.arrayClass Jvm.ClassFile.FieldType.long ∈ zW := zin_1 (List.mem_of_getElem? (i := 73) rfl) rfl
theorem k_1_74 : Cond.classLink "OutputStore" 33 "OutputStore$CachedSet" ∈ zW := zin_1 (List.mem_of_getElem? (i := 74) rfl) rfl
theorem k_1_75 : Cond.instantiable "OutputStore$CachedSet" 2 ∈ zW := zin_1 (List.mem_of_getElem? (i := 75) rfl) rfl
theorem k_1_77 : Cond.instanceMethod (⟨"OutputStore$CachedSet", "<init>", "()V"⟩ : MethodName) ∈ zW := zin_1 (List.mem_of_getElem? (i := 77) rfl) rfl
theorem k_1_79 : Cond.methodLink "OutputStore$CachedSet" 3 (⟨"java/lang/Object", "<init>", "()V"⟩ : MethodName) ∈ zW := zin_1 (List.mem_of_getElem? (i := 79) rfl) rfl
theorem k_1_80 : Cond.fieldLink "OutputStore$CachedSet" 9 "OutputStore$CachedSet" "contents" "[J" ∈ zW := zin_1 (List.mem_of_getElem? (i := 80) rfl) rfl
theorem k_1_81 : Cond.fieldLink "OutputStore$CachedSet" 15 "OutputStore$CachedSet" "count" "I" ∈ zW := zin_1 (List.mem_of_getElem? (i := 81) rfl) rfl
theorem k_1_87 : Cond.classLink "OutputStore" 40 "OutputStore$HoldBook" ∈ zW := zin_1 (List.mem_of_getElem? (i := 87) rfl) rfl
theorem k_1_88 : Cond.instantiable "OutputStore$HoldBook" 2 ∈ zW := zin_1 (List.mem_of_getElem? (i := 88) rfl) rfl
theorem k_1_90 : Cond.instanceMethod (⟨"OutputStore$HoldBook", "<init>", "()V"⟩ : MethodName) ∈ zW := zin_1 (List.mem_of_getElem? (i := 90) rfl) rfl
theorem k_1_92 : Cond.methodLink "OutputStore$HoldBook" 3 (⟨"java/lang/Object", "<init>", "()V"⟩ : MethodName) ∈ zW := zin_1 (List.mem_of_getElem? (i := 92) rfl) rfl
theorem k_1_93 : Cond.fieldLink "OutputStore$HoldBook" 9 "OutputStore$HoldBook" "contents" "[J" ∈ zW := zin_1 (List.mem_of_getElem? (i := 93) rfl) rfl
theorem k_1_94 : Cond.fieldLink "OutputStore$HoldBook" 15 "OutputStore$HoldBook" "count" "I" ∈ zW := zin_1 (List.mem_of_getElem? (i := 94) rfl) rfl
theorem k_1_100 : Cond.classLink "OutputStore" 47 "OutputStore$DirtyMarks" ∈ zW := zin_1 (List.mem_of_getElem? (i := 100) rfl) rfl
theorem k_1_101 : Cond.instantiable "OutputStore$DirtyMarks" 1 ∈ zW := zin_1 (List.mem_of_getElem? (i := 101) rfl) rfl
theorem k_1_103 : Cond.instanceMethod (⟨"OutputStore$DirtyMarks", "<init>", "()V"⟩ : MethodName) ∈ zW := zin_1 (List.mem_of_getElem? (i := 103) rfl) rfl
theorem k_1_105 : Cond.methodLink "OutputStore$DirtyMarks" 3 (⟨"java/lang/Object", "<init>", "()V"⟩ : MethodName) ∈ zW := zin_1 (List.mem_of_getElem? (i := 105) rfl) rfl
theorem k_1_106 : Cond.fieldLink "OutputStore$DirtyMarks" 9 "OutputStore$DirtyMarks" "marks" "[Z" ∈ zW := zin_1 (List.mem_of_getElem? (i := 106) rfl) rfl
theorem k_1_110 : Cond.fieldLink "OutputStore" 12 "OutputStore" "paths" "LOutputStore$PathTree;" ∈ zW := zin_1 (List.mem_of_getElem? (i := 110) rfl) rfl
theorem k_1_111 : Cond.fieldLink "OutputStore" 19 "OutputStore" "steps" "LOutputStore$StepBook;" ∈ zW := zin_1 (List.mem_of_getElem? (i := 111) rfl) rfl
theorem k_1_112 : Cond.fieldLink "OutputStore" 26 "OutputStore" "outputs" "LOutputStore$LinkTable;" ∈ zW := zin_1 (List.mem_of_getElem? (i := 112) rfl) rfl
theorem k_1_113 : Cond.fieldLink "OutputStore" 30 "OutputStore" "staged" "LOutputStore$LinkTable;" ∈ zW := zin_1 (List.mem_of_getElem? (i := 113) rfl) rfl
theorem k_1_114 : Cond.fieldLink "OutputStore" 36 "OutputStore" "cached" "LOutputStore$CachedSet;" ∈ zW := zin_1 (List.mem_of_getElem? (i := 114) rfl) rfl
theorem k_1_115 : Cond.fieldLink "OutputStore" 43 "OutputStore" "holds" "LOutputStore$HoldBook;" ∈ zW := zin_1 (List.mem_of_getElem? (i := 115) rfl) rfl
theorem k_1_116 : Cond.fieldLink "OutputStore" 50 "OutputStore" "dirtyMarks" "LOutputStore$DirtyMarks;" ∈ zW := zin_1 (List.mem_of_getElem? (i := 116) rfl) rfl
theorem k_1_117 : Cond.fieldLink "OutputStore" 54 "OutputStore" "different" "[J" ∈ zW := zin_1 (List.mem_of_getElem? (i := 117) rfl) rfl
theorem k_1_139 : Cond.methodLink "OutputStore" 58 (⟨"OutputStore$PathTree", "grow", "(I)I"⟩ : MethodName) ∈ zW := zin_1 (List.mem_of_getElem? (i := 139) rfl) rfl
theorem k_1_140 : Cond.instanceMethod (⟨"OutputStore$PathTree", "grow", "(I)I"⟩ : MethodName) ∈ zW := zin_1 (List.mem_of_getElem? (i := 140) rfl) rfl
theorem k_1_141 : Cond.selects "OutputStore$PathTree" (⟨"OutputStore$PathTree", "grow", "(I)I"⟩ : MethodName) (⟨"OutputStore$PathTree", "grow", "(I)I"⟩ : MethodName) ∈ zW := zin_1 (List.mem_of_getElem? (i := 141) rfl) rfl
theorem k_1_143 : Cond.methodLink "OutputStore$PathTree" 19 (⟨"OutputStore$PathTree", "has", "(I)Z"⟩ : MethodName) ∈ zW := zin_1 (List.mem_of_getElem? (i := 143) rfl) rfl
theorem k_1_144 : Cond.instanceMethod (⟨"OutputStore$PathTree", "has", "(I)Z"⟩ : MethodName) ∈ zW := zin_1 (List.mem_of_getElem? (i := 144) rfl) rfl
theorem k_1_145 : Cond.selects "OutputStore$PathTree" (⟨"OutputStore$PathTree", "has", "(I)Z"⟩ : MethodName) (⟨"OutputStore$PathTree", "has", "(I)Z"⟩ : MethodName) ∈ zW := zin_1 (List.mem_of_getElem? (i := 145) rfl) rfl
theorem k_1_151 : Cond.methodLink "OutputStore" 62 (⟨"OutputStore", "isTarget", "(I)Z"⟩ : MethodName) ∈ zW := zin_1 (List.mem_of_getElem? (i := 151) rfl) rfl
theorem k_1_152 : Cond.static (⟨"OutputStore", "isTarget", "(I)Z"⟩ : MethodName) ∈ zW := zin_1 (List.mem_of_getElem? (i := 152) rfl) rfl
theorem k_1_154 : Cond.methodLink "OutputStore" 66 (⟨"OutputStore", "isConfiguration", "(I)Z"⟩ : MethodName) ∈ zW := zin_1 (List.mem_of_getElem? (i := 154) rfl) rfl
theorem k_1_155 : Cond.static (⟨"OutputStore", "isConfiguration", "(I)Z"⟩ : MethodName) ∈ zW := zin_1 (List.mem_of_getElem? (i := 155) rfl) rfl
theorem k_1_157 : Cond.methodLink "OutputStore" 69 (⟨"OutputStore", "isRun", "(I)Z"⟩ : MethodName) ∈ zW := zin_1 (List.mem_of_getElem? (i := 157) rfl) rfl
theorem k_1_158 : Cond.static (⟨"OutputStore", "isRun", "(I)Z"⟩ : MethodName) ∈ zW := zin_1 (List.mem_of_getElem? (i := 158) rfl) rfl
theorem k_1_160 : Cond.methodLink "OutputStore" 72 (⟨"OutputStore$StepBook", "isFull", "()Z"⟩ : MethodName) ∈ zW := zin_1 (List.mem_of_getElem? (i := 160) rfl) rfl
theorem k_1_161 : Cond.instanceMethod (⟨"OutputStore$StepBook", "isFull", "()Z"⟩ : MethodName) ∈ zW := zin_1 (List.mem_of_getElem? (i := 161) rfl) rfl
theorem k_1_162 : Cond.selects "OutputStore$StepBook" (⟨"OutputStore$StepBook", "isFull", "()Z"⟩ : MethodName) (⟨"OutputStore$StepBook", "isFull", "()Z"⟩ : MethodName) ∈ zW := zin_1 (List.mem_of_getElem? (i := 162) rfl) rfl
theorem k_1_164 : Cond.methodLink "OutputStore" 76 (⟨"OutputStore$StepBook", "hasOpenOne", "(II)Z"⟩ : MethodName) ∈ zW := zin_1 (List.mem_of_getElem? (i := 164) rfl) rfl
theorem k_1_165 : Cond.instanceMethod (⟨"OutputStore$StepBook", "hasOpenOne", "(II)Z"⟩ : MethodName) ∈ zW := zin_1 (List.mem_of_getElem? (i := 165) rfl) rfl
theorem k_1_166 : Cond.selects "OutputStore$StepBook" (⟨"OutputStore$StepBook", "hasOpenOne", "(II)Z"⟩ : MethodName) (⟨"OutputStore$StepBook", "hasOpenOne", "(II)Z"⟩ : MethodName) ∈ zW := zin_1 (List.mem_of_getElem? (i := 166) rfl) rfl
theorem k_1_168 : Cond.methodLink "OutputStore$StepBook" 37 (⟨"OutputStore$StepBook", "isOpen", "(I)Z"⟩ : MethodName) ∈ zW := zin_1 (List.mem_of_getElem? (i := 168) rfl) rfl
theorem k_1_169 : Cond.instanceMethod (⟨"OutputStore$StepBook", "isOpen", "(I)Z"⟩ : MethodName) ∈ zW := zin_1 (List.mem_of_getElem? (i := 169) rfl) rfl
theorem k_1_170 : Cond.selects "OutputStore$StepBook" (⟨"OutputStore$StepBook", "isOpen", "(I)Z"⟩ : MethodName) (⟨"OutputStore$StepBook", "isOpen", "(I)Z"⟩ : MethodName) ∈ zW := zin_1 (List.mem_of_getElem? (i := 170) rfl) rfl
theorem k_1_172 : Cond.methodLink "OutputStore$StepBook" 29 (⟨"OutputStore$StepBook", "has", "(I)Z"⟩ : MethodName) ∈ zW := zin_1 (List.mem_of_getElem? (i := 172) rfl) rfl
theorem k_1_173 : Cond.instanceMethod (⟨"OutputStore$StepBook", "has", "(I)Z"⟩ : MethodName) ∈ zW := zin_1 (List.mem_of_getElem? (i := 173) rfl) rfl
theorem k_1_174 : Cond.selects "OutputStore$StepBook" (⟨"OutputStore$StepBook", "has", "(I)Z"⟩ : MethodName) (⟨"OutputStore$StepBook", "has", "(I)Z"⟩ : MethodName) ∈ zW := zin_1 (List.mem_of_getElem? (i := 174) rfl) rfl
theorem k_1_176 : Cond.methodLink "OutputStore" 80 (⟨"OutputStore$StepBook", "open", "(III)I"⟩ : MethodName) ∈ zW := zin_1 (List.mem_of_getElem? (i := 176) rfl) rfl
theorem k_1_177 : Cond.instanceMethod (⟨"OutputStore$StepBook", "open", "(III)I"⟩ : MethodName) ∈ zW := zin_1 (List.mem_of_getElem? (i := 177) rfl) rfl
theorem k_1_178 : Cond.selects "OutputStore$StepBook" (⟨"OutputStore$StepBook", "open", "(III)I"⟩ : MethodName) (⟨"OutputStore$StepBook", "open", "(III)I"⟩ : MethodName) ∈ zW := zin_1 (List.mem_of_getElem? (i := 178) rfl) rfl
theorem k_1_180 : Cond.methodLink "OutputStore$StepBook" 33 (⟨"OutputStore$StepBook", "isFull", "()Z"⟩ : MethodName) ∈ zW := zin_1 (List.mem_of_getElem? (i := 180) rfl) rfl
theorem k_1_185 : Cond.methodLink "OutputStore" 84 (⟨"OutputStore$StepBook", "isOpen", "(I)Z"⟩ : MethodName) ∈ zW := zin_1 (List.mem_of_getElem? (i := 185) rfl) rfl
theorem k_1_186 : Cond.methodLink "OutputStore" 87 (⟨"OutputStore$PathTree", "has", "(I)Z"⟩ : MethodName) ∈ zW := zin_1 (List.mem_of_getElem? (i := 186) rfl) rfl
theorem k_1_187 : Cond.methodLink "OutputStore" 90 (⟨"OutputStore$StepBook", "configurationOf", "(I)I"⟩ : MethodName) ∈ zW := zin_1 (List.mem_of_getElem? (i := 187) rfl) rfl
theorem k_1_188 : Cond.instanceMethod (⟨"OutputStore$StepBook", "configurationOf", "(I)I"⟩ : MethodName) ∈ zW := zin_1 (List.mem_of_getElem? (i := 188) rfl) rfl
theorem k_1_189 : Cond.selects "OutputStore$StepBook" (⟨"OutputStore$StepBook", "configurationOf", "(I)I"⟩ : MethodName) (⟨"OutputStore$StepBook", "configurationOf", "(I)I"⟩ : MethodName) ∈ zW := zin_1 (List.mem_of_getElem? (i := 189) rfl) rfl
theorem k_1_191 : Cond.methodLink "OutputStore" 93 (⟨"OutputStore", "slotOf", "(II)I"⟩ : MethodName) ∈ zW := zin_1 (List.mem_of_getElem? (i := 191) rfl) rfl
theorem k_1_193 : Cond.instanceMethod (⟨"OutputStore", "slotOf", "(II)I"⟩ : MethodName) ∈ zW := zin_1 (List.mem_of_getElem? (i := 193) rfl) rfl
theorem k_1_195 : Cond.methodLink "OutputStore" 97 (⟨"OutputStore$LinkTable", "isOfStep", "(II)Z"⟩ : MethodName) ∈ zW := zin_1 (List.mem_of_getElem? (i := 195) rfl) rfl
theorem k_1_196 : Cond.instanceMethod (⟨"OutputStore$LinkTable", "isOfStep", "(II)Z"⟩ : MethodName) ∈ zW := zin_1 (List.mem_of_getElem? (i := 196) rfl) rfl
theorem k_1_197 : Cond.selects "OutputStore$LinkTable" (⟨"OutputStore$LinkTable", "isOfStep", "(II)Z"⟩ : MethodName) (⟨"OutputStore$LinkTable", "isOfStep", "(II)Z"⟩ : MethodName) ∈ zW := zin_1 (List.mem_of_getElem? (i := 197) rfl) rfl
theorem k_1_199 : Cond.methodLink "OutputStore$LinkTable" 26 (⟨"OutputStore$LinkTable", "has", "(I)Z"⟩ : MethodName) ∈ zW := zin_1 (List.mem_of_getElem? (i := 199) rfl) rfl
theorem k_1_200 : Cond.instanceMethod (⟨"OutputStore$LinkTable", "has", "(I)Z"⟩ : MethodName) ∈ zW := zin_1 (List.mem_of_getElem? (i := 200) rfl) rfl
theorem k_1_201 : Cond.selects "OutputStore$LinkTable" (⟨"OutputStore$LinkTable", "has", "(I)Z"⟩ : MethodName) (⟨"OutputStore$LinkTable", "has", "(I)Z"⟩ : MethodName) ∈ zW := zin_1 (List.mem_of_getElem? (i := 201) rfl) rfl
theorem k_1_203 : Cond.methodLink "OutputStore" 100 (⟨"OutputStore", "countStaged", "(I)I"⟩ : MethodName) ∈ zW := zin_1 (List.mem_of_getElem? (i := 203) rfl) rfl
theorem k_1_205 : Cond.instanceMethod (⟨"OutputStore", "countStaged", "(I)I"⟩ : MethodName) ∈ zW := zin_1 (List.mem_of_getElem? (i := 205) rfl) rfl
theorem k_1_207 : Cond.methodLink "OutputStore" 103 (⟨"OutputStore", "isRefused", "(II)Z"⟩ : MethodName) ∈ zW := zin_1 (List.mem_of_getElem? (i := 207) rfl) rfl
theorem k_1_209 : Cond.instanceMethod (⟨"OutputStore", "isRefused", "(II)Z"⟩ : MethodName) ∈ zW := zin_1 (List.mem_of_getElem? (i := 209) rfl) rfl
theorem k_1_211 : Cond.methodLink "OutputStore" 190 (⟨"OutputStore", "isOutputOfAnother", "(II)Z"⟩ : MethodName) ∈ zW := zin_1 (List.mem_of_getElem? (i := 211) rfl) rfl
theorem k_1_213 : Cond.instanceMethod (⟨"OutputStore", "isOutputOfAnother", "(II)Z"⟩ : MethodName) ∈ zW := zin_1 (List.mem_of_getElem? (i := 213) rfl) rfl
theorem k_1_215 : Cond.methodLink "OutputStore" 134 (⟨"OutputStore$LinkTable", "has", "(I)Z"⟩ : MethodName) ∈ zW := zin_1 (List.mem_of_getElem? (i := 215) rfl) rfl
theorem k_1_216 : Cond.methodLink "OutputStore" 142 (⟨"OutputStore", "targetAt", "(I)I"⟩ : MethodName) ∈ zW := zin_1 (List.mem_of_getElem? (i := 216) rfl) rfl
theorem k_1_218 : Cond.instanceMethod (⟨"OutputStore", "targetAt", "(I)I"⟩ : MethodName) ∈ zW := zin_1 (List.mem_of_getElem? (i := 218) rfl) rfl
theorem k_1_220 : Cond.methodLink "OutputStore" 168 (⟨"OutputStore$LinkTable", "stepAt", "(I)I"⟩ : MethodName) ∈ zW := zin_1 (List.mem_of_getElem? (i := 220) rfl) rfl
theorem k_1_221 : Cond.instanceMethod (⟨"OutputStore$LinkTable", "stepAt", "(I)I"⟩ : MethodName) ∈ zW := zin_1 (List.mem_of_getElem? (i := 221) rfl) rfl
theorem k_1_222 : Cond.selects "OutputStore$LinkTable" (⟨"OutputStore$LinkTable", "stepAt", "(I)I"⟩ : MethodName) (⟨"OutputStore$LinkTable", "stepAt", "(I)I"⟩ : MethodName) ∈ zW := zin_1 (List.mem_of_getElem? (i := 222) rfl) rfl
theorem k_1_224 : Cond.methodLink "OutputStore" 200 (⟨"OutputStore$StepBook", "targetOf", "(I)I"⟩ : MethodName) ∈ zW := zin_1 (List.mem_of_getElem? (i := 224) rfl) rfl
theorem k_1_225 : Cond.instanceMethod (⟨"OutputStore$StepBook", "targetOf", "(I)I"⟩ : MethodName) ∈ zW := zin_1 (List.mem_of_getElem? (i := 225) rfl) rfl
theorem k_1_226 : Cond.selects "OutputStore$StepBook" (⟨"OutputStore$StepBook", "targetOf", "(I)I"⟩ : MethodName) (⟨"OutputStore$StepBook", "targetOf", "(I)I"⟩ : MethodName) ∈ zW := zin_1 (List.mem_of_getElem? (i := 226) rfl) rfl
theorem k_1_228 : Cond.methodLink "OutputStore" 193 (⟨"OutputStore", "isStagedAgainst", "(IIZ)Z"⟩ : MethodName) ∈ zW := zin_1 (List.mem_of_getElem? (i := 228) rfl) rfl
theorem k_1_230 : Cond.instanceMethod (⟨"OutputStore", "isStagedAgainst", "(IIZ)Z"⟩ : MethodName) ∈ zW := zin_1 (List.mem_of_getElem? (i := 230) rfl) rfl
theorem k_1_232 : Cond.methodLink "OutputStore" 197 (⟨"OutputStore$PathTree", "meet", "(II)Z"⟩ : MethodName) ∈ zW := zin_1 (List.mem_of_getElem? (i := 232) rfl) rfl
theorem k_1_233 : Cond.instanceMethod (⟨"OutputStore$PathTree", "meet", "(II)Z"⟩ : MethodName) ∈ zW := zin_1 (List.mem_of_getElem? (i := 233) rfl) rfl
theorem k_1_234 : Cond.selects "OutputStore$PathTree" (⟨"OutputStore$PathTree", "meet", "(II)Z"⟩ : MethodName) (⟨"OutputStore$PathTree", "meet", "(II)Z"⟩ : MethodName) ∈ zW := zin_1 (List.mem_of_getElem? (i := 234) rfl) rfl
theorem k_1_236 : Cond.methodLink "OutputStore$PathTree" 23 (⟨"OutputStore$PathTree", "isAtOrWithin", "(II)Z"⟩ : MethodName) ∈ zW := zin_1 (List.mem_of_getElem? (i := 236) rfl) rfl
theorem k_1_237 : Cond.instanceMethod (⟨"OutputStore$PathTree", "isAtOrWithin", "(II)Z"⟩ : MethodName) ∈ zW := zin_1 (List.mem_of_getElem? (i := 237) rfl) rfl
theorem k_1_238 : Cond.selects "OutputStore$PathTree" (⟨"OutputStore$PathTree", "isAtOrWithin", "(II)Z"⟩ : MethodName) (⟨"OutputStore$PathTree", "isAtOrWithin", "(II)Z"⟩ : MethodName) ∈ zW := zin_1 (List.mem_of_getElem? (i := 238) rfl) rfl
theorem k_2_0 : Cond.methodLink "OutputStore" 106 (⟨"OutputStore$CachedSet", "has", "(J)Z"⟩ : MethodName) ∈ zW := zin_2 (List.mem_of_getElem? (i := 0) rfl) rfl
theorem k_2_1 : Cond.instanceMethod (⟨"OutputStore$CachedSet", "has", "(J)Z"⟩ : MethodName) ∈ zW := zin_2 (List.mem_of_getElem? (i := 1) rfl) rfl
theorem k_2_2 : Cond.selects "OutputStore$CachedSet" (⟨"OutputStore$CachedSet", "has", "(J)Z"⟩ : MethodName) (⟨"OutputStore$CachedSet", "has", "(J)Z"⟩ : MethodName) ∈ zW := zin_2 (List.mem_of_getElem? (i := 2) rfl) rfl
theorem k_2_5 : Cond.static (⟨"OutputStore", "find", "([JIJ)I"⟩ : MethodName) ∈ zW := zin_2 (List.mem_of_getElem? (i := 5) rfl) rfl
theorem k_2_7 : Cond.methodLink "OutputStore" 109 (⟨"OutputStore$LinkTable", "put", "(IIJZZ)V"⟩ : MethodName) ∈ zW := zin_2 (List.mem_of_getElem? (i := 7) rfl) rfl
theorem k_2_8 : Cond.instanceMethod (⟨"OutputStore$LinkTable", "put", "(IIJZZ)V"⟩ : MethodName) ∈ zW := zin_2 (List.mem_of_getElem? (i := 8) rfl) rfl
theorem k_2_9 : Cond.selects "OutputStore$LinkTable" (⟨"OutputStore$LinkTable", "put", "(IIJZZ)V"⟩ : MethodName) (⟨"OutputStore$LinkTable", "put", "(IIJZZ)V"⟩ : MethodName) ∈ zW := zin_2 (List.mem_of_getElem? (i := 9) rfl) rfl
theorem k_2_15 : Cond.methodLink "OutputStore" 113 (⟨"OutputStore", "replaceOutputs", "(I)I"⟩ : MethodName) ∈ zW := zin_2 (List.mem_of_getElem? (i := 15) rfl) rfl
theorem k_2_17 : Cond.instanceMethod (⟨"OutputStore", "replaceOutputs", "(I)I"⟩ : MethodName) ∈ zW := zin_2 (List.mem_of_getElem? (i := 17) rfl) rfl
theorem k_2_19 : Cond.methodLink "OutputStore" 135 (⟨"OutputStore$LinkTable", "contentAt", "(I)J"⟩ : MethodName) ∈ zW := zin_2 (List.mem_of_getElem? (i := 19) rfl) rfl
theorem k_2_20 : Cond.instanceMethod (⟨"OutputStore$LinkTable", "contentAt", "(I)J"⟩ : MethodName) ∈ zW := zin_2 (List.mem_of_getElem? (i := 20) rfl) rfl
theorem k_2_21 : Cond.selects "OutputStore$LinkTable" (⟨"OutputStore$LinkTable", "contentAt", "(I)J"⟩ : MethodName) (⟨"OutputStore$LinkTable", "contentAt", "(I)J"⟩ : MethodName) ∈ zW := zin_2 (List.mem_of_getElem? (i := 21) rfl) rfl
theorem k_2_23 : Cond.methodLink "OutputStore" 165 (⟨"OutputStore$LinkTable", "isExecutable", "(I)Z"⟩ : MethodName) ∈ zW := zin_2 (List.mem_of_getElem? (i := 23) rfl) rfl
theorem k_2_24 : Cond.instanceMethod (⟨"OutputStore$LinkTable", "isExecutable", "(I)Z"⟩ : MethodName) ∈ zW := zin_2 (List.mem_of_getElem? (i := 24) rfl) rfl
theorem k_2_25 : Cond.selects "OutputStore$LinkTable" (⟨"OutputStore$LinkTable", "isExecutable", "(I)Z"⟩ : MethodName) (⟨"OutputStore$LinkTable", "isExecutable", "(I)Z"⟩ : MethodName) ∈ zW := zin_2 (List.mem_of_getElem? (i := 25) rfl) rfl
theorem k_2_27 : Cond.methodLink "OutputStore" 139 (⟨"OutputStore$LinkTable", "isLazy", "(I)Z"⟩ : MethodName) ∈ zW := zin_2 (List.mem_of_getElem? (i := 27) rfl) rfl
theorem k_2_28 : Cond.instanceMethod (⟨"OutputStore$LinkTable", "isLazy", "(I)Z"⟩ : MethodName) ∈ zW := zin_2 (List.mem_of_getElem? (i := 28) rfl) rfl
theorem k_2_29 : Cond.selects "OutputStore$LinkTable" (⟨"OutputStore$LinkTable", "isLazy", "(I)Z"⟩ : MethodName) (⟨"OutputStore$LinkTable", "isLazy", "(I)Z"⟩ : MethodName) ∈ zW := zin_2 (List.mem_of_getElem? (i := 29) rfl) rfl
theorem k_2_31 : Cond.methodLink "OutputStore" 149 (⟨"OutputStore$LinkTable", "drop", "(I)V"⟩ : MethodName) ∈ zW := zin_2 (List.mem_of_getElem? (i := 31) rfl) rfl
theorem k_2_32 : Cond.instanceMethod (⟨"OutputStore$LinkTable", "drop", "(I)V"⟩ : MethodName) ∈ zW := zin_2 (List.mem_of_getElem? (i := 32) rfl) rfl
theorem k_2_33 : Cond.selects "OutputStore$LinkTable" (⟨"OutputStore$LinkTable", "drop", "(I)V"⟩ : MethodName) (⟨"OutputStore$LinkTable", "drop", "(I)V"⟩ : MethodName) ∈ zW := zin_2 (List.mem_of_getElem? (i := 33) rfl) rfl
theorem k_2_35 : Cond.methodLink "OutputStore" 145 (⟨"OutputStore$DirtyMarks", "set", "(IIZ)V"⟩ : MethodName) ∈ zW := zin_2 (List.mem_of_getElem? (i := 35) rfl) rfl
theorem k_2_36 : Cond.instanceMethod (⟨"OutputStore$DirtyMarks", "set", "(IIZ)V"⟩ : MethodName) ∈ zW := zin_2 (List.mem_of_getElem? (i := 36) rfl) rfl
theorem k_2_37 : Cond.selects "OutputStore$DirtyMarks" (⟨"OutputStore$DirtyMarks", "set", "(IIZ)V"⟩ : MethodName) (⟨"OutputStore$DirtyMarks", "set", "(IIZ)V"⟩ : MethodName) ∈ zW := zin_2 (List.mem_of_getElem? (i := 37) rfl) rfl
theorem k_2_41 : Cond.methodLink "OutputStore" 116 (⟨"OutputStore", "dropStaged", "(I)V"⟩ : MethodName) ∈ zW := zin_2 (List.mem_of_getElem? (i := 41) rfl) rfl
theorem k_2_43 : Cond.instanceMethod (⟨"OutputStore", "dropStaged", "(I)V"⟩ : MethodName) ∈ zW := zin_2 (List.mem_of_getElem? (i := 43) rfl) rfl
theorem k_2_45 : Cond.methodLink "OutputStore" 120 (⟨"OutputStore$StepBook", "close", "(I)V"⟩ : MethodName) ∈ zW := zin_2 (List.mem_of_getElem? (i := 45) rfl) rfl
theorem k_2_46 : Cond.instanceMethod (⟨"OutputStore$StepBook", "close", "(I)V"⟩ : MethodName) ∈ zW := zin_2 (List.mem_of_getElem? (i := 46) rfl) rfl
theorem k_2_47 : Cond.selects "OutputStore$StepBook" (⟨"OutputStore$StepBook", "close", "(I)V"⟩ : MethodName) (⟨"OutputStore$StepBook", "close", "(I)V"⟩ : MethodName) ∈ zW := zin_2 (List.mem_of_getElem? (i := 47) rfl) rfl
theorem k_2_53 : Cond.methodLink "OutputStore" 123 (⟨"OutputStore$StepBook", "runOf", "(I)I"⟩ : MethodName) ∈ zW := zin_2 (List.mem_of_getElem? (i := 53) rfl) rfl
theorem k_2_54 : Cond.instanceMethod (⟨"OutputStore$StepBook", "runOf", "(I)I"⟩ : MethodName) ∈ zW := zin_2 (List.mem_of_getElem? (i := 54) rfl) rfl
theorem k_2_55 : Cond.selects "OutputStore$StepBook" (⟨"OutputStore$StepBook", "runOf", "(I)I"⟩ : MethodName) (⟨"OutputStore$StepBook", "runOf", "(I)I"⟩ : MethodName) ∈ zW := zin_2 (List.mem_of_getElem? (i := 55) rfl) rfl
theorem k_2_61 : Cond.methodLink "OutputStore" 126 (⟨"OutputStore$CachedSet", "include", "(J)Z"⟩ : MethodName) ∈ zW := zin_2 (List.mem_of_getElem? (i := 61) rfl) rfl
theorem k_2_62 : Cond.instanceMethod (⟨"OutputStore$CachedSet", "include", "(J)Z"⟩ : MethodName) ∈ zW := zin_2 (List.mem_of_getElem? (i := 62) rfl) rfl
theorem k_2_63 : Cond.selects "OutputStore$CachedSet" (⟨"OutputStore$CachedSet", "include", "(J)Z"⟩ : MethodName) (⟨"OutputStore$CachedSet", "include", "(J)Z"⟩ : MethodName) ∈ zW := zin_2 (List.mem_of_getElem? (i := 63) rfl) rfl
theorem k_2_65 : Cond.methodLink "OutputStore$CachedSet" 23 (⟨"OutputStore$CachedSet", "has", "(J)Z"⟩ : MethodName) ∈ zW := zin_2 (List.mem_of_getElem? (i := 65) rfl) rfl
theorem k_2_66 : Cond.methodLink "OutputStore" 129 (⟨"OutputStore$CachedSet", "exclude", "(J)V"⟩ : MethodName) ∈ zW := zin_2 (List.mem_of_getElem? (i := 66) rfl) rfl
theorem k_2_67 : Cond.instanceMethod (⟨"OutputStore$CachedSet", "exclude", "(J)V"⟩ : MethodName) ∈ zW := zin_2 (List.mem_of_getElem? (i := 67) rfl) rfl
theorem k_2_68 : Cond.selects "OutputStore$CachedSet" (⟨"OutputStore$CachedSet", "exclude", "(J)V"⟩ : MethodName) (⟨"OutputStore$CachedSet", "exclude", "(J)V"⟩ : MethodName) ∈ zW := zin_2 (List.mem_of_getElem? (i := 68) rfl) rfl
theorem k_2_74 : Cond.methodLink "OutputStore" 133 (⟨"OutputStore$HoldBook", "isFull", "()Z"⟩ : MethodName) ∈ zW := zin_2 (List.mem_of_getElem? (i := 74) rfl) rfl
theorem k_2_75 : Cond.instanceMethod (⟨"OutputStore$HoldBook", "isFull", "()Z"⟩ : MethodName) ∈ zW := zin_2 (List.mem_of_getElem? (i := 75) rfl) rfl
theorem k_2_76 : Cond.selects "OutputStore$HoldBook" (⟨"OutputStore$HoldBook", "isFull", "()Z"⟩ : MethodName) (⟨"OutputStore$HoldBook", "isFull", "()Z"⟩ : MethodName) ∈ zW := zin_2 (List.mem_of_getElem? (i := 76) rfl) rfl
theorem k_2_78 : Cond.methodLink "OutputStore" 152 (⟨"OutputStore$LinkTable", "makeThere", "(I)V"⟩ : MethodName) ∈ zW := zin_2 (List.mem_of_getElem? (i := 78) rfl) rfl
theorem k_2_79 : Cond.instanceMethod (⟨"OutputStore$LinkTable", "makeThere", "(I)V"⟩ : MethodName) ∈ zW := zin_2 (List.mem_of_getElem? (i := 79) rfl) rfl
theorem k_2_80 : Cond.selects "OutputStore$LinkTable" (⟨"OutputStore$LinkTable", "makeThere", "(I)V"⟩ : MethodName) (⟨"OutputStore$LinkTable", "makeThere", "(I)V"⟩ : MethodName) ∈ zW := zin_2 (List.mem_of_getElem? (i := 80) rfl) rfl
theorem k_2_82 : Cond.methodLink "OutputStore" 155 (⟨"OutputStore$HoldBook", "take", "(J)I"⟩ : MethodName) ∈ zW := zin_2 (List.mem_of_getElem? (i := 82) rfl) rfl
theorem k_2_83 : Cond.instanceMethod (⟨"OutputStore$HoldBook", "take", "(J)I"⟩ : MethodName) ∈ zW := zin_2 (List.mem_of_getElem? (i := 83) rfl) rfl
theorem k_2_84 : Cond.selects "OutputStore$HoldBook" (⟨"OutputStore$HoldBook", "take", "(J)I"⟩ : MethodName) (⟨"OutputStore$HoldBook", "take", "(J)I"⟩ : MethodName) ∈ zW := zin_2 (List.mem_of_getElem? (i := 84) rfl) rfl
theorem k_2_86 : Cond.methodLink "OutputStore$HoldBook" 19 (⟨"OutputStore$HoldBook", "isFull", "()Z"⟩ : MethodName) ∈ zW := zin_2 (List.mem_of_getElem? (i := 86) rfl) rfl
theorem k_2_91 : Cond.methodLink "OutputStore" 159 (⟨"OutputStore$HoldBook", "contentOf", "(I)J"⟩ : MethodName) ∈ zW := zin_2 (List.mem_of_getElem? (i := 91) rfl) rfl
theorem k_2_92 : Cond.instanceMethod (⟨"OutputStore$HoldBook", "contentOf", "(I)J"⟩ : MethodName) ∈ zW := zin_2 (List.mem_of_getElem? (i := 92) rfl) rfl
theorem k_2_93 : Cond.selects "OutputStore$HoldBook" (⟨"OutputStore$HoldBook", "contentOf", "(I)J"⟩ : MethodName) (⟨"OutputStore$HoldBook", "contentOf", "(I)J"⟩ : MethodName) ∈ zW := zin_2 (List.mem_of_getElem? (i := 93) rfl) rfl
theorem k_2_95 : Cond.methodLink "OutputStore$HoldBook" 23 (⟨"OutputStore$HoldBook", "has", "(I)Z"⟩ : MethodName) ∈ zW := zin_2 (List.mem_of_getElem? (i := 95) rfl) rfl
theorem k_2_96 : Cond.instanceMethod (⟨"OutputStore$HoldBook", "has", "(I)Z"⟩ : MethodName) ∈ zW := zin_2 (List.mem_of_getElem? (i := 96) rfl) rfl
theorem k_2_97 : Cond.selects "OutputStore$HoldBook" (⟨"OutputStore$HoldBook", "has", "(I)Z"⟩ : MethodName) (⟨"OutputStore$HoldBook", "has", "(I)Z"⟩ : MethodName) ∈ zW := zin_2 (List.mem_of_getElem? (i := 97) rfl) rfl
theorem k_2_103 : Cond.methodLink "OutputStore" 162 (⟨"OutputStore$HoldBook", "release", "(I)Z"⟩ : MethodName) ∈ zW := zin_2 (List.mem_of_getElem? (i := 103) rfl) rfl
theorem k_2_104 : Cond.instanceMethod (⟨"OutputStore$HoldBook", "release", "(I)Z"⟩ : MethodName) ∈ zW := zin_2 (List.mem_of_getElem? (i := 104) rfl) rfl
theorem k_2_105 : Cond.selects "OutputStore$HoldBook" (⟨"OutputStore$HoldBook", "release", "(I)Z"⟩ : MethodName) (⟨"OutputStore$HoldBook", "release", "(I)Z"⟩ : MethodName) ∈ zW := zin_2 (List.mem_of_getElem? (i := 105) rfl) rfl
theorem k_2_119 : Cond.methodLink "OutputStore" 171 (⟨"OutputStore$PathTree", "isAtOrWithin", "(II)Z"⟩ : MethodName) ∈ zW := zin_2 (List.mem_of_getElem? (i := 119) rfl) rfl
theorem k_2_124 : Cond.methodLink "OutputStore" 174 (⟨"OutputStore$DirtyMarks", "get", "(II)Z"⟩ : MethodName) ∈ zW := zin_2 (List.mem_of_getElem? (i := 124) rfl) rfl
theorem k_2_125 : Cond.instanceMethod (⟨"OutputStore$DirtyMarks", "get", "(II)Z"⟩ : MethodName) ∈ zW := zin_2 (List.mem_of_getElem? (i := 125) rfl) rfl
theorem k_2_126 : Cond.selects "OutputStore$DirtyMarks" (⟨"OutputStore$DirtyMarks", "get", "(II)Z"⟩ : MethodName) (⟨"OutputStore$DirtyMarks", "get", "(II)Z"⟩ : MethodName) ∈ zW := zin_2 (List.mem_of_getElem? (i := 126) rfl) rfl
theorem k_2_132 : Cond.methodLink "OutputStore" 177 (⟨"OutputStore$StepBook", "hasOpenOneIn", "(I)Z"⟩ : MethodName) ∈ zW := zin_2 (List.mem_of_getElem? (i := 132) rfl) rfl
theorem k_2_133 : Cond.instanceMethod (⟨"OutputStore$StepBook", "hasOpenOneIn", "(I)Z"⟩ : MethodName) ∈ zW := zin_2 (List.mem_of_getElem? (i := 133) rfl) rfl
theorem k_2_134 : Cond.selects "OutputStore$StepBook" (⟨"OutputStore$StepBook", "hasOpenOneIn", "(I)Z"⟩ : MethodName) (⟨"OutputStore$StepBook", "hasOpenOneIn", "(I)Z"⟩ : MethodName) ∈ zW := zin_2 (List.mem_of_getElem? (i := 134) rfl) rfl
theorem k_2_140 : Cond.methodLink "OutputStore" 180 (⟨"OutputStore", "storedAt", "(I)J"⟩ : MethodName) ∈ zW := zin_2 (List.mem_of_getElem? (i := 140) rfl) rfl
theorem k_2_142 : Cond.instanceMethod (⟨"OutputStore", "storedAt", "(I)J"⟩ : MethodName) ∈ zW := zin_2 (List.mem_of_getElem? (i := 142) rfl) rfl
theorem k_2_144 : Cond.methodLink "OutputStore" 187 (⟨"OutputStore$LinkTable", "storedIn", "(I)J"⟩ : MethodName) ∈ zW := zin_2 (List.mem_of_getElem? (i := 144) rfl) rfl
theorem k_2_145 : Cond.instanceMethod (⟨"OutputStore$LinkTable", "storedIn", "(I)J"⟩ : MethodName) ∈ zW := zin_2 (List.mem_of_getElem? (i := 145) rfl) rfl
theorem k_2_146 : Cond.selects "OutputStore$LinkTable" (⟨"OutputStore$LinkTable", "storedIn", "(I)J"⟩ : MethodName) (⟨"OutputStore$LinkTable", "storedIn", "(I)J"⟩ : MethodName) ∈ zW := zin_2 (List.mem_of_getElem? (i := 146) rfl) rfl
theorem k_2_148 : Cond.methodLink "OutputStore$LinkTable" 30 (⟨"OutputStore$LinkTable", "isLazy", "(I)Z"⟩ : MethodName) ∈ zW := zin_2 (List.mem_of_getElem? (i := 148) rfl) rfl
theorem k_2_149 : Cond.methodLink "OutputStore$LinkTable" 33 (⟨"OutputStore$LinkTable", "contentAt", "(I)J"⟩ : MethodName) ∈ zW := zin_2 (List.mem_of_getElem? (i := 149) rfl) rfl
theorem k_2_154 : Cond.methodLink "OutputStore" 183 (⟨"OutputStore", "find", "([JIJ)I"⟩ : MethodName) ∈ zW := zin_2 (List.mem_of_getElem? (i := 154) rfl) rfl
theorem k_2_160 : Cond.methodLink "OutputStoreModel" 1 (⟨"java/lang/Object", "<init>", "()V"⟩ : MethodName) ∈ zW := zin_2 (List.mem_of_getElem? (i := 160) rfl) rfl
theorem k_2_161 : Cond.fieldLink "OutputStoreModel" 69 "OutputStoreModel" "paths" "I" ∈ zW := zin_2 (List.mem_of_getElem? (i := 161) rfl) rfl
theorem k_2_162 : Cond.fieldLink "OutputStoreModel" 73 "OutputStoreModel" "steps" "I" ∈ zW := zin_2 (List.mem_of_getElem? (i := 162) rfl) rfl
theorem k_2_163 : Cond.fieldLink "OutputStoreModel" 90 "OutputStoreModel" "cached" "I" ∈ zW := zin_2 (List.mem_of_getElem? (i := 163) rfl) rfl
theorem k_2_164 : Cond.fieldLink "OutputStoreModel" 114 "OutputStoreModel" "holds" "I" ∈ zW := zin_2 (List.mem_of_getElem? (i := 164) rfl) rfl
theorem k_2_165 : Cond.fieldLink "OutputStoreModel" 7 "OutputStoreModel" "inside" "[I" ∈ zW := zin_2 (List.mem_of_getElem? (i := 165) rfl) rfl
theorem k_2_166 : Cond.fieldLink "OutputStoreModel" 13 "OutputStoreModel" "owner" "[I" ∈ zW := zin_2 (List.mem_of_getElem? (i := 166) rfl) rfl
theorem k_2_167 : Cond.fieldLink "OutputStoreModel" 16 "OutputStoreModel" "maker" "[I" ∈ zW := zin_2 (List.mem_of_getElem? (i := 167) rfl) rfl
theorem k_2_168 : Cond.fieldLink "OutputStoreModel" 19 "OutputStoreModel" "content" "[J" ∈ zW := zin_2 (List.mem_of_getElem? (i := 168) rfl) rfl
theorem k_2_169 : Cond.fieldLink "OutputStoreModel" 23 "OutputStoreModel" "runs" "[Z" ∈ zW := zin_2 (List.mem_of_getElem? (i := 169) rfl) rfl
theorem k_2_170 : Cond.fieldLink "OutputStoreModel" 27 "OutputStoreModel" "isThere" "[Z" ∈ zW := zin_2 (List.mem_of_getElem? (i := 170) rfl) rfl
theorem k_2_171 : Cond.fieldLink "OutputStoreModel" 30 "OutputStoreModel" "target" "[I" ∈ zW := zin_2 (List.mem_of_getElem? (i := 171) rfl) rfl
theorem k_2_172 : Cond.fieldLink "OutputStoreModel" 33 "OutputStoreModel" "place" "[I" ∈ zW := zin_2 (List.mem_of_getElem? (i := 172) rfl) rfl
theorem k_2_173 : Cond.fieldLink "OutputStoreModel" 36 "OutputStoreModel" "run" "[I" ∈ zW := zin_2 (List.mem_of_getElem? (i := 173) rfl) rfl
theorem k_2_174 : Cond.fieldLink "OutputStoreModel" 39 "OutputStoreModel" "staged" "[I" ∈ zW := zin_2 (List.mem_of_getElem? (i := 174) rfl) rfl
theorem k_2_175 : Cond.fieldLink "OutputStoreModel" 42 "OutputStoreModel" "isOpen" "[Z" ∈ zW := zin_2 (List.mem_of_getElem? (i := 175) rfl) rfl
theorem k_2_176 : Cond.fieldLink "OutputStoreModel" 45 "OutputStoreModel" "stagedAt" "[I" ∈ zW := zin_2 (List.mem_of_getElem? (i := 176) rfl) rfl
theorem k_2_177 : Cond.fieldLink "OutputStoreModel" 48 "OutputStoreModel" "stagedContent" "[J" ∈ zW := zin_2 (List.mem_of_getElem? (i := 177) rfl) rfl
theorem k_2_178 : Cond.fieldLink "OutputStoreModel" 51 "OutputStoreModel" "stagedRuns" "[Z" ∈ zW := zin_2 (List.mem_of_getElem? (i := 178) rfl) rfl
theorem k_2_179 : Cond.fieldLink "OutputStoreModel" 54 "OutputStoreModel" "stagedLazy" "[Z" ∈ zW := zin_2 (List.mem_of_getElem? (i := 179) rfl) rfl
theorem k_2_180 : Cond.fieldLink "OutputStoreModel" 57 "OutputStoreModel" "isDirty" "[Z" ∈ zW := zin_2 (List.mem_of_getElem? (i := 180) rfl) rfl
theorem k_2_181 : Cond.fieldLink "OutputStoreModel" 60 "OutputStoreModel" "cache" "[J" ∈ zW := zin_2 (List.mem_of_getElem? (i := 181) rfl) rfl
theorem k_2_182 : Cond.fieldLink "OutputStoreModel" 63 "OutputStoreModel" "hold" "[J" ∈ zW := zin_2 (List.mem_of_getElem? (i := 182) rfl) rfl
theorem k_2_183 : Cond.fieldLink "OutputStoreModel" 120 "OutputStoreModel" "met" "I" ∈ zW := zin_2 (List.mem_of_getElem? (i := 183) rfl) rfl
theorem k_2_184 : Cond.fieldLink "OutputStoreModel" 66 "OutputStoreModel" "row" "[J" ∈ zW := zin_2 (List.mem_of_getElem? (i := 184) rfl) rfl
theorem k_2_238 : Cond.methodLink "OutputStoreModel" 76 (⟨"OutputStoreModel", "isPath", "(I)Z"⟩ : MethodName) ∈ zW := zin_2 (List.mem_of_getElem? (i := 238) rfl) rfl
theorem k_3_0 : Cond.instanceMethod (⟨"OutputStoreModel", "isPath", "(I)Z"⟩ : MethodName) ∈ zW := zin_3 (List.mem_of_getElem? (i := 0) rfl) rfl
theorem k_3_6 : Cond.methodLink "OutputStoreModel" 84 (⟨"OutputStoreModel", "within", "(II)Z"⟩ : MethodName) ∈ zW := zin_3 (List.mem_of_getElem? (i := 6) rfl) rfl
theorem k_3_7 : Cond.static (⟨"OutputStoreModel", "within", "(II)Z"⟩ : MethodName) ∈ zW := zin_3 (List.mem_of_getElem? (i := 7) rfl) rfl
theorem k_3_13 : Cond.methodLink "OutputStoreModel" 93 (⟨"OutputStoreModel", "isOpenStep", "(I)Z"⟩ : MethodName) ∈ zW := zin_3 (List.mem_of_getElem? (i := 13) rfl) rfl
theorem k_3_15 : Cond.instanceMethod (⟨"OutputStoreModel", "isOpenStep", "(I)Z"⟩ : MethodName) ∈ zW := zin_3 (List.mem_of_getElem? (i := 15) rfl) rfl
theorem k_3_17 : Cond.methodLink "OutputStoreModel" 96 (⟨"OutputStoreModel", "placeOf", "(II)I"⟩ : MethodName) ∈ zW := zin_3 (List.mem_of_getElem? (i := 17) rfl) rfl
theorem k_3_19 : Cond.instanceMethod (⟨"OutputStoreModel", "placeOf", "(II)I"⟩ : MethodName) ∈ zW := zin_3 (List.mem_of_getElem? (i := 19) rfl) rfl
theorem k_3_21 : Cond.methodLink "OutputStoreModel" 100 (⟨"OutputStoreModel", "meetsOutput", "(II)Z"⟩ : MethodName) ∈ zW := zin_3 (List.mem_of_getElem? (i := 21) rfl) rfl
theorem k_3_23 : Cond.instanceMethod (⟨"OutputStoreModel", "meetsOutput", "(II)Z"⟩ : MethodName) ∈ zW := zin_3 (List.mem_of_getElem? (i := 23) rfl) rfl
theorem k_3_25 : Cond.methodLink "OutputStoreModel" 87 (⟨"OutputStoreModel", "meet", "(II)Z"⟩ : MethodName) ∈ zW := zin_3 (List.mem_of_getElem? (i := 25) rfl) rfl
theorem k_3_27 : Cond.instanceMethod (⟨"OutputStoreModel", "meet", "(II)Z"⟩ : MethodName) ∈ zW := zin_3 (List.mem_of_getElem? (i := 27) rfl) rfl
theorem k_3_29 : Cond.methodLink "OutputStoreModel" 80 (⟨"OutputStoreModel", "isWithin", "(II)Z"⟩ : MethodName) ∈ zW := zin_3 (List.mem_of_getElem? (i := 29) rfl) rfl
theorem k_3_31 : Cond.instanceMethod (⟨"OutputStoreModel", "isWithin", "(II)Z"⟩ : MethodName) ∈ zW := zin_3 (List.mem_of_getElem? (i := 31) rfl) rfl
theorem k_3_33 : Cond.methodLink "OutputStoreModel" 103 (⟨"OutputStoreModel", "meetsStaged", "(II)Z"⟩ : MethodName) ∈ zW := zin_3 (List.mem_of_getElem? (i := 33) rfl) rfl
theorem k_3_35 : Cond.instanceMethod (⟨"OutputStoreModel", "meetsStaged", "(II)Z"⟩ : MethodName) ∈ zW := zin_3 (List.mem_of_getElem? (i := 35) rfl) rfl
theorem k_3_37 : Cond.methodLink "OutputStoreModel" 106 (⟨"OutputStoreModel", "isCached", "(J)Z"⟩ : MethodName) ∈ zW := zin_3 (List.mem_of_getElem? (i := 37) rfl) rfl
theorem k_3_39 : Cond.instanceMethod (⟨"OutputStoreModel", "isCached", "(J)Z"⟩ : MethodName) ∈ zW := zin_3 (List.mem_of_getElem? (i := 39) rfl) rfl
theorem k_3_45 : Cond.methodLink "OutputStoreModel" 110 (⟨"OutputStoreModel", "goOld", "(I)I"⟩ : MethodName) ∈ zW := zin_3 (List.mem_of_getElem? (i := 45) rfl) rfl
theorem k_3_47 : Cond.instanceMethod (⟨"OutputStoreModel", "goOld", "(I)I"⟩ : MethodName) ∈ zW := zin_3 (List.mem_of_getElem? (i := 47) rfl) rfl
theorem k_3_61 : Cond.methodLink "OutputStoreModel" 117 (⟨"OutputStoreModel", "isOutput", "(II)Z"⟩ : MethodName) ∈ zW := zin_3 (List.mem_of_getElem? (i := 61) rfl) rfl
theorem k_3_63 : Cond.instanceMethod (⟨"OutputStoreModel", "isOutput", "(II)Z"⟩ : MethodName) ∈ zW := zin_3 (List.mem_of_getElem? (i := 63) rfl) rfl
theorem k_3_97 : Cond.methodLink "OutputStoreModel" 127 (⟨"OutputStoreModel", "gather", "()V"⟩ : MethodName) ∈ zW := zin_3 (List.mem_of_getElem? (i := 97) rfl) rfl
theorem k_3_99 : Cond.instanceMethod (⟨"OutputStoreModel", "gather", "()V"⟩ : MethodName) ∈ zW := zin_3 (List.mem_of_getElem? (i := 99) rfl) rfl
theorem k_3_101 : Cond.methodLink "OutputStoreModel" 123 (⟨"OutputStoreModel", "meets", "(J)V"⟩ : MethodName) ∈ zW := zin_3 (List.mem_of_getElem? (i := 101) rfl) rfl
theorem k_3_103 : Cond.instanceMethod (⟨"OutputStoreModel", "meets", "(J)V"⟩ : MethodName) ∈ zW := zin_3 (List.mem_of_getElem? (i := 103) rfl) rfl
end
section
-- ===== the roads of a method as a pure function: guards, branches, calls =====
/-- an index that is looked at: the road goes on only inside the row -/
def gz {α : Type} (i : Int32) (n : Nat) (x : Option α) : Option α := if 0 ≤ i.toInt ∧ i.toInt < (n : Int) then x else none
/-- an answer that is a boolean -/
def zb {α : Type} (v : Int32) (x : Option α) : Option α := if v = 0 ∨ v = 1 then x else none
theorem z_gz {α : Type} {i : Int32} {n : Nat} {x : Option α} {y : α} (h : gz i n x = some y) : vp_in i n ∧ x = some y := by
  unfold gz at h
  by_cases c : 0 ≤ i.toInt ∧ i.toInt < (n : Int)
  · rw [if_pos c] at h
    exact ⟨vp_in_iff.mpr c, h⟩
  · rw [if_neg c] at h
    cases h
theorem z_zb {α : Type} {v : Int32} {x : Option α} {y : α} (h : zb v x = some y) : (v = 0 ∨ v = 1) ∧ x = some y := by
  unfold zb at h
  by_cases c : v = 0 ∨ v = 1
  · rw [if_pos c] at h
    exact ⟨c, h⟩
  · rw [if_neg c] at h
    cases h
theorem z_t {α : Type} {c : Prop} [Decidable c] {a b : Option α} {y : α} (h : c) (hf : (if c then a else b) = some y) : a = some y := by
  rw [if_pos h] at hf
  exact hf
theorem z_f {α : Type} {c : Prop} [Decidable c] {a b : Option α} {y : α} (h : ¬ c) (hf : (if c then a else b) = some y) : b = some y := by
  rw [if_neg h] at hf
  exact hf
theorem z_fn {α : Type} {c : Prop} [Decidable c] {a b : Option α} {y : α} (h : c) (hf : (if ¬ c then a else b) = some y) : b = some y := by
  rw [if_neg (fun q => q h)] at hf
  exact hf
theorem z_b {α β : Type} {x : Option α} {f : α → Option β} {y : β} (h : x.bind f = some y) : ∃ u, x = some u ∧ f u = some y := by
  cases x with
  | none => cases h
  | some u => exact ⟨u, rfl, h⟩
theorem z_ne {x : Int32} {k : Nat} (h : ¬ x = nI k) (hk : k < 2 ^ 31) : ¬ x.toInt = (k : Int) := fun q => h (Int32.toInt_inj.mp (by rw [nI_toInt hk]; exact q))
theorem z_sw4 {x : Int32} (h0 : ¬ x = 0) (h1 : ¬ x = 1) (h2 : ¬ x = 2) (h3 : ¬ x = 3) : x.toInt < 0 ∨ 3 < x.toInt := by
  have a0 := z_ne (k := 0) h0 (by decide)
  have a1 := z_ne (k := 1) h1 (by decide)
  have a2 := z_ne (k := 2) h2 (by decide)
  have a3 := z_ne (k := 3) h3 (by decide)
  omega
-- ===== worlds by their members =====
theorem zP_iff {D : va_G} {cl : List vw_C} {ws : va_W} {H : Heap} : va_P D cl ws H ↔ ∀ q ∈ ws, va_at D cl q H :=
  ⟨fun h q hq => by obtain ⟨k, hk⟩ := List.mem_iff_getElem?.mp hq; exact h k q hk, fun h k q hk => h q (List.mem_of_getElem? hk)⟩
theorem zD_iff {A : Nat → Prop} {ws : va_W} : va_D A ws ↔ ws.Pairwise (fun p q => p.1 ≠ q.1) ∧ ∀ q ∈ ws, A q.1 := by
  constructor
  · intro h
    refine ⟨List.pairwise_iff_getElem.mpr ?_, fun q hq => by obtain ⟨k, hk⟩ := List.mem_iff_getElem?.mp hq; exact h.2 k q hk⟩
    intro i j hi hj hij e
    have := h.1 i j _ _ (List.getElem?_eq_getElem hi) (List.getElem?_eq_getElem hj) e
    omega
  · intro h
    refine ⟨?_, fun k q hk => h.2 q (List.mem_of_getElem? hk)⟩
    intro i j p q hp hq e
    obtain ⟨hi, ei⟩ := List.getElem?_eq_some_iff.mp hp
    obtain ⟨hj, ej⟩ := List.getElem?_eq_some_iff.mp hq
    have hpw := List.pairwise_iff_getElem.mp h.1
    rcases Nat.lt_trichotomy i j with c | c | c
    · exact absurd (by rw [ei, ej]; exact e) (hpw i j hi hj c)
    · exact c
    · exact absurd (by rw [ei, ej]; exact e.symm) (hpw j i hj hi c)
theorem zP_mid {D : va_G} {cl : List vw_C} {x y z : va_W} {H : Heap} (h : va_P D cl (x ++ (y ++ z)) H) : va_P D cl y H := zP_iff.mpr fun q hq => zP_iff.mp h q (by simp [hq])
theorem zD_mid {A : Nat → Prop} {x y z : va_W} (h : va_D A (x ++ (y ++ z))) : va_D A y := by
  obtain ⟨h1, h2⟩ := zD_iff.mp h
  exact zD_iff.mpr ⟨(List.pairwise_append.mp (List.pairwise_append.mp h1).2.1).1, fun q hq => h2 q (by simp [hq])⟩
theorem zP_cut {D : va_G} {cl : List vw_C} {ws wc : va_W} {H : Heap} (i j : Nat) (h : va_P D cl ws H) (e : ws = ws.take i ++ (wc ++ ws.drop j)) : va_P D cl wc H := by
  rw [e] at h
  exact zP_mid h
theorem zD_cut {A : Nat → Prop} {ws wc : va_W} (i j : Nat) (h : va_D A ws) (e : ws = ws.take i ++ (wc ++ ws.drop j)) : va_D A wc := by
  rw [e] at h
  exact zD_mid h
theorem zA_iff {w : va_W} {sz q : Nat} : va_A w sz q ↔ (∃ e : va_E, (q, e) ∈ w) ∨ sz ≤ q := by
  constructor
  · rintro (⟨k, e, h⟩ | h)
    · exact Or.inl ⟨e, List.mem_of_getElem? h⟩
    · exact Or.inr h
  · rintro (⟨e, h⟩ | h)
    · obtain ⟨k, hk⟩ := List.mem_iff_getElem?.mp h
      exact Or.inl ⟨k, e, hk⟩
    · exact Or.inr h
/-- the frame rule: the middle cells come back as w1, the rest is unchanged -/
theorem z_frame {A : Nat → Prop} {D : va_G} {cl : List vw_C} {x wc z w1 : va_W} {H H1 : Heap} (hP : va_P D cl (x ++ (wc ++ z)) H) (hD : va_D A (x ++ (wc ++ z)))
    (hk : ∀ q : Nat, q < H.size → ¬ va_A wc H.size q → H1[q]? = H[q]?) (hF : ∀ q, va_A wc H.size q → A q) (hP1 : va_P D cl w1 H1) (hD1 : va_D (va_A wc H.size) w1) :
    va_P D cl (x ++ (w1 ++ z)) H1 ∧ va_D A (x ++ (w1 ++ z)) := by
  have hP' := zP_iff.mp hP
  obtain ⟨hp, hA⟩ := zD_iff.mp hD
  obtain ⟨hpx, hpr, hxr⟩ := List.pairwise_append.mp hp
  obtain ⟨hpc, hpz, hcz⟩ := List.pairwise_append.mp hpr
  obtain ⟨h1p, h1A⟩ := zD_iff.mp hD1
  have hP1' := zP_iff.mp hP1
  have ax : ∀ q ∈ x, q.1 < H.size ∧ ¬ va_A wc H.size q.1 := by
    intro q hq
    have hl := (hP' q (by simp [hq])).lt
    refine ⟨hl, fun h => ?_⟩
    rcases zA_iff.mp h with ⟨e, he⟩ | h
    · exact hxr q hq (q.1, e) (by simp [he]) rfl
    · omega
  have az : ∀ q ∈ z, q.1 < H.size ∧ ¬ va_A wc H.size q.1 := by
    intro q hq
    have hl := (hP' q (by simp [hq])).lt
    refine ⟨hl, fun h => ?_⟩
    rcases zA_iff.mp h with ⟨e, he⟩ | h
    · exact hcz (q.1, e) he q hq rfl
    · omega
  refine ⟨zP_iff.mpr fun q hq => ?_, zD_iff.mpr ⟨List.pairwise_append.mpr ⟨hpx, List.pairwise_append.mpr ⟨h1p, hpz, fun p hp q hq e => ?_⟩, fun p hp q hq e => ?_⟩, fun q hq => ?_⟩⟩
  · rcases List.mem_append.mp hq with h | h
    · exact (hP' q (by simp [h])).kept (hk q.1 (ax q h).1 (ax q h).2)
    · rcases List.mem_append.mp h with h | h
      · exact hP1' q h
      · exact (hP' q (by simp [h])).kept (hk q.1 (az q h).1 (az q h).2)
  · exact (az q hq).2 (by rw [← e]; exact h1A p hp)
  · rcases List.mem_append.mp hq with h | h
    · exact (ax p hp).2 (by rw [e]; exact h1A q h)
    · exact hxr p hp q (by simp [h]) e
  · rcases List.mem_append.mp hq with h | h
    · exact hA q (by simp [h])
    · rcases List.mem_append.mp h with h | h
      · exact hF q.1 (h1A q h)
      · exact hA q (by simp [h])
-- ===== a contract's start and end =====
/-- the words of calls between nest mates -/
def zN (U : State) : Prop := ∀ q ∈ zNests, va_Nw (.methodLinkNest q.1 q.2.1 q.2.2.1 q.2.2.2) U
def zB (D : va_G) (cl : List vw_C) (tys : List (ClassId × FieldType)) (w : va_W) (sz : Nat) : State → Prop := fun U => U.heap.size = sz ∧ va_P D cl w U.heap ∧ va_K D cl tys U ∧ va_D (fun _ => True) w ∧ zN U
def zQi (D : va_G) (cl : List vw_C) (w : va_W) (sz : Nat) (r : Int32) (w1 : va_W) : Array Value → State → Outcome → State → Prop := va_Qi (fun (x : Int32) (_ : Unit) => x = r) (fun _ t => va_P D cl w1 t.heap ∧ va_D (va_A w sz) w1) (va_A w sz)
def zQl (D : va_G) (cl : List vw_C) (w : va_W) (sz : Nat) (r : Int64) (w1 : va_W) : Array Value → State → Outcome → State → Prop := va_Ql (fun (x : Int64) (_ : Unit) => x = r) (fun _ t => va_P D cl w1 t.heap ∧ va_D (va_A w sz) w1) (va_A w sz)
def zQv (D : va_G) (cl : List vw_C) (w : va_W) (sz : Nat) (w1 : va_W) : Array Value → State → Outcome → State → Prop := va_Qv (fun (_ : Unit) => True) (fun _ t => va_P D cl w1 t.heap ∧ va_D (va_A w sz) w1) (va_A w sz)
theorem z_bl {D : va_G} {cl : List vw_C} {tys : List (ClassId × FieldType)} {w : va_W} {sz : Nat} {av : List Value} : FrameBlind (va_Pc av (zB D cl tys w sz)) := fun a U g mk q => by
  obtain ⟨q0, q1, q2, q3, q4, q5⟩ := q
  exact ⟨q0, q1, q2, va_K.moved (u := U) (U := U.calling g mk a) (Vm.Alike.refl U.vm) q3, q4, fun n hn => va_Nw.same rfl (u := U) (U := U.calling g mk a) rfl (q5 n hn)⟩
theorem z_pre {s : State} {H : Heap} {A : Nat → Prop} {D : va_G} {cl : List vw_C} {tys : List (ClassId × FieldType)} {wc : va_W} (hN : zN s) (hK : va_K D cl tys s) (hP : va_P D cl wc H) (hD : va_D A wc) (U : State) (hU : U.heap = H) (hW : s.WarmedH U.vm) : zB D cl tys wc H.size U :=
  ⟨by rw [hU], by rw [hU]; exact hP, va_K.moved hW.alike hK, hD.weaken (fun _ _ _ _ => trivial), fun n hn => va_Nw.warmM hW (hN n hn)⟩
section ZR
variable {p : Program} {l : Launch} {e : Env} {R : Room} {s : State} {m : MethodId} {args : Array Value} {below : List Frame} {meth : Method} {c : Code} {H : Heap} {locs : List Loc} {cells slots : Nat} {Q : State → Prop}
variable {cc : ByteArray} {pc : Nat} {ls : Array Slot} {rest st0 : List Value} {D : va_G} {cl : List vw_C} {A : Nat → Prop} {H0 : Heap} {w w1 wc ws : va_W} {aa : Array Value}
theorem z_start {vs : List Value} {n : Nat} {lv : List (Nat × Value)} (h : (lg_sl vs).length ≤ n) (hlv : lv_args 0 vs = lv) (hP : va_P D cl w s.heap) (hD : va_D (fun _ => True) w)
    (kk : ∀ (H : Heap) (locs : List Loc) (ls : Array Slot), va_P D cl w H → va_D (va_A w s.heap.size) w → va_S (va_A w s.heap.size) s.heap H locs → lv_has ls n lv → W p l e R s m args below meth c H locs cells slots Q (F0 m 0 ls [])) :
    W p l e R s m args below meth c s.heap [] cells slots Q (entryFrame m vs.toArray n) := by
  rw [lg_entry_eq]
  exact kk s.heap [] _ hP (hD.self) va_S.rf (hlv ▸ lv_entry vs h)
theorem z_iret {v : Int32} (hx : p.tables.exec = Jvm.exec) (hb : c.code = cc) (hr : meth.sig.returnType = some .int) (hP : va_P D cl w1 H) (hD : va_D (va_A w s.heap.size) w1) (hS : va_S (va_A w s.heap.size) s.heap H locs) (hdg : decode cc pc = .ok (.ireturn, 1)) (hlocks : meth.locks = false) :
    W p l e R s m args below meth c H locs cells slots (MQ below (zQi D cl w s.heap.size v w1) args s cells slots (va_A w s.heap.size)) (F0 m pc ls [.int v]) :=
  W.iret (v := v) hx hb hr (fun t ht _ => ⟨⟨v, (), rfl, rfl, by rw [ht]; exact hP, hD⟩, hS.F ht⟩) hS.2.2 hdg hlocks
theorem z_zret {v : Int32} (hx : p.tables.exec = Jvm.exec) (hb : c.code = cc) (hr : meth.sig.returnType = some .boolean) (hv : v = 0 ∨ v = 1) (hP : va_P D cl w1 H) (hD : va_D (va_A w s.heap.size) w1) (hS : va_S (va_A w s.heap.size) s.heap H locs) (hdg : decode cc pc = .ok (.ireturn, 1)) (hlocks : meth.locks = false) :
    W p l e R s m args below meth c H locs cells slots (MQ below (zQi D cl w s.heap.size v w1) args s cells slots (va_A w s.heap.size)) (F0 m pc ls [.int v]) :=
  W.zret (v := v) hx hb hr (by rcases hv with rfl | rfl <;> rfl) (fun t ht _ => ⟨⟨v, (), rfl, rfl, by rw [ht]; exact hP, hD⟩, hS.F ht⟩) hS.2.2 hdg hlocks
theorem z_lret {v : Int64} (hx : p.tables.exec = Jvm.exec) (hb : c.code = cc) (hr : meth.sig.returnType = some .long) (hP : va_P D cl w1 H) (hD : va_D (va_A w s.heap.size) w1) (hS : va_S (va_A w s.heap.size) s.heap H locs) (hdg : decode cc pc = .ok (.lreturn, 1)) (hlocks : meth.locks = false) :
    W p l e R s m args below meth c H locs cells slots (MQ below (zQl D cl w s.heap.size v w1) args s cells slots (va_A w s.heap.size)) (F0 m pc ls [.long v]) :=
  W.lret (v := v) hx hb hr (fun t ht _ => ⟨⟨v, (), rfl, rfl, by rw [ht]; exact hP, hD⟩, hS.F ht⟩) hS.2.2 hdg hlocks
theorem z_vret (hx : p.tables.exec = Jvm.exec) (hb : c.code = cc) (hr : meth.sig.returnType = none) (hP : va_P D cl w1 H) (hD : va_D (va_A w s.heap.size) w1) (hS : va_S (va_A w s.heap.size) s.heap H locs) (hdg : decode cc pc = .ok (.return_, 1)) (hlocks : meth.locks = false) :
    W p l e R s m args below meth c H locs cells slots (MQ below (zQv D cl w s.heap.size w1) args s cells slots (va_A w s.heap.size)) (F0 m pc ls []) :=
  W.vret hx hb hr (fun t ht _ => ⟨⟨(), rfl, trivial, by rw [ht]; exact hP, hD⟩, hS.F ht⟩) hS.2.2 hdg hlocks
theorem z_fr {i j : Nat} {ws2 : va_W} {H1 : Heap} (hP : va_P D cl ws H) (hD : va_D A ws) (h1 : ws = ws.take i ++ (wc ++ ws.drop j)) (h2 : ws.take i ++ (w1 ++ ws.drop j) = ws2)
    (hk : ∀ q : Nat, q < H.size → ¬ va_A wc H.size q → H1[q]? = H[q]?) (hF : ∀ q, va_A wc H.size q → A q) (hP1 : va_P D cl w1 H1) (hD1 : va_D (va_A wc H.size) w1) : va_P D cl ws2 H1 ∧ va_D A ws2 := by
  rw [← h2]
  rw [h1] at hP hD
  exact z_frame hP hD hk hF hP1 hD1
theorem z_free {i j : Nat} (hD : va_D A ws) (hS : va_S A H0 H locs) (hA : ∀ q, H0.size ≤ q → A q) (h1 : ws = ws.take i ++ (wc ++ ws.drop j)) : ∀ q, va_A wc H.size q → A q := by
  intro q hq
  rcases zA_iff.mp hq with ⟨e, he⟩ | h
  · exact (zD_iff.mp (zD_cut i j hD h1)).2 (q, e) he
  · exact hA q (Nat.le_trans hS.1 h)
theorem z_ci {r : Int32} (hr : va_Run p l e R s m args below meth c H locs cells slots 0 0 (F0 m pc ls st0) rest (zQi D cl wc H.size r w1 aa) (va_A wc H.size)) (i j : Nat) (ws2 : va_W) (hP : va_P D cl ws H) (hD : va_D A ws) (hS : va_S A H0 H locs) (hA : ∀ q, H0.size ≤ q → A q)
    (h1 : ws = ws.take i ++ (wc ++ ws.drop j)) (h2 : ws.take i ++ (w1 ++ ws.drop j) = ws2)
    (kk : ∀ (H : Heap) (locs : List Loc), va_P D cl ws2 H → va_D A ws2 → va_S A H0 H locs → W p l e R s m args below meth c H locs cells slots Q (F0 m (pc + 3) ls (.int r :: rest))) : W p l e R s m args below meth c H locs cells slots Q (F0 m pc ls st0) := by
  have hF := z_free hD hS hA h1
  refine va_calli hr hS (fun q _ h => hF q h) hF (fun x u t H1 locs1 ht hvm hw hB hz1 hk1 hS1 => ?_)
  obtain ⟨hP1, hD1⟩ := hB
  rw [ht] at hP1
  subst hw
  obtain ⟨hP2, hD2⟩ := z_fr hP hD h1 h2 hk1 hF hP1 hD1
  exact kk H1 locs1 hP2 hD2 hS1
theorem z_cl {r : Int64} (hr : va_Run p l e R s m args below meth c H locs cells slots 0 0 (F0 m pc ls st0) rest (zQl D cl wc H.size r w1 aa) (va_A wc H.size)) (i j : Nat) (ws2 : va_W) (hP : va_P D cl ws H) (hD : va_D A ws) (hS : va_S A H0 H locs) (hA : ∀ q, H0.size ≤ q → A q)
    (h1 : ws = ws.take i ++ (wc ++ ws.drop j)) (h2 : ws.take i ++ (w1 ++ ws.drop j) = ws2)
    (kk : ∀ (H : Heap) (locs : List Loc), va_P D cl ws2 H → va_D A ws2 → va_S A H0 H locs → W p l e R s m args below meth c H locs cells slots Q (F0 m (pc + 3) ls (.long r :: rest))) : W p l e R s m args below meth c H locs cells slots Q (F0 m pc ls st0) := by
  have hF := z_free hD hS hA h1
  refine va_calll hr hS (fun q _ h => hF q h) hF (fun x u t H1 locs1 ht hvm hw hB hz1 hk1 hS1 => ?_)
  obtain ⟨hP1, hD1⟩ := hB
  rw [ht] at hP1
  subst hw
  obtain ⟨hP2, hD2⟩ := z_fr hP hD h1 h2 hk1 hF hP1 hD1
  exact kk H1 locs1 hP2 hD2 hS1
theorem z_cv (hr : va_Run p l e R s m args below meth c H locs cells slots 0 0 (F0 m pc ls st0) rest (zQv D cl wc H.size w1 aa) (va_A wc H.size)) (i j : Nat) (ws2 : va_W) (hP : va_P D cl ws H) (hD : va_D A ws) (hS : va_S A H0 H locs) (hA : ∀ q, H0.size ≤ q → A q)
    (h1 : ws = ws.take i ++ (wc ++ ws.drop j)) (h2 : ws.take i ++ (w1 ++ ws.drop j) = ws2)
    (kk : ∀ (H : Heap) (locs : List Loc), va_P D cl ws2 H → va_D A ws2 → va_S A H0 H locs → W p l e R s m args below meth c H locs cells slots Q (F0 m (pc + 3) ls rest)) : W p l e R s m args below meth c H locs cells slots Q (F0 m pc ls st0) := by
  have hF := z_free hD hS hA h1
  refine va_callv hr hS (fun q _ h => hF q h) hF (fun u t H1 locs1 ht hvm hw hB hz1 hk1 hS1 => ?_)
  obtain ⟨hP1, hD1⟩ := hB
  rw [ht] at hP1
  obtain ⟨hP2, hD2⟩ := z_fr hP hD h1 h2 hk1 hF hP1 hD1
  exact kk H1 locs1 hP2 hD2 hS1
theorem z_freew (hD : va_D A wc) (hS : va_S A H0 H locs) (hA : ∀ q, H0.size ≤ q → A q) : ∀ q, va_A wc H.size q → A q := by
  intro q hq
  rcases zA_iff.mp hq with ⟨e, he⟩ | h
  · exact (zD_iff.mp hD).2 (q, e) he
  · exact hA q (Nat.le_trans hS.1 h)
theorem z_cwi {r : Int32} (hr : va_Run p l e R s m args below meth c H locs cells slots 0 0 (F0 m pc ls st0) rest (zQi D cl wc H.size r w1 aa) (va_A wc H.size)) (hD : va_D A wc) (hS : va_S A H0 H locs) (hA : ∀ q, H0.size ≤ q → A q)
    (kk : ∀ (H : Heap) (locs : List Loc), va_P D cl w1 H → va_D A w1 → va_S A H0 H locs → W p l e R s m args below meth c H locs cells slots Q (F0 m (pc + 3) ls (.int r :: rest))) : W p l e R s m args below meth c H locs cells slots Q (F0 m pc ls st0) := by
  have hF := z_freew hD hS hA
  refine va_calli hr hS (fun q _ h => hF q h) hF (fun x u t H1 locs1 ht hvm hw hB hz1 hk1 hS1 => ?_)
  obtain ⟨hP1, hD1⟩ := hB
  rw [ht] at hP1
  subst hw
  exact kk H1 locs1 hP1 (hD1.weaken (fun _ q _ h => hF q.1 h)) hS1
theorem z_cwl {r : Int64} (hr : va_Run p l e R s m args below meth c H locs cells slots 0 0 (F0 m pc ls st0) rest (zQl D cl wc H.size r w1 aa) (va_A wc H.size)) (hD : va_D A wc) (hS : va_S A H0 H locs) (hA : ∀ q, H0.size ≤ q → A q)
    (kk : ∀ (H : Heap) (locs : List Loc), va_P D cl w1 H → va_D A w1 → va_S A H0 H locs → W p l e R s m args below meth c H locs cells slots Q (F0 m (pc + 3) ls (.long r :: rest))) : W p l e R s m args below meth c H locs cells slots Q (F0 m pc ls st0) := by
  have hF := z_freew hD hS hA
  refine va_calll hr hS (fun q _ h => hF q h) hF (fun x u t H1 locs1 ht hvm hw hB hz1 hk1 hS1 => ?_)
  obtain ⟨hP1, hD1⟩ := hB
  rw [ht] at hP1
  subst hw
  exact kk H1 locs1 hP1 (hD1.weaken (fun _ q _ h => hF q.1 h)) hS1
theorem z_cwv (hr : va_Run p l e R s m args below meth c H locs cells slots 0 0 (F0 m pc ls st0) rest (zQv D cl wc H.size w1 aa) (va_A wc H.size)) (hD : va_D A wc) (hS : va_S A H0 H locs) (hA : ∀ q, H0.size ≤ q → A q)
    (kk : ∀ (H : Heap) (locs : List Loc), va_P D cl w1 H → va_D A w1 → va_S A H0 H locs → W p l e R s m args below meth c H locs cells slots Q (F0 m (pc + 3) ls rest)) : W p l e R s m args below meth c H locs cells slots Q (F0 m pc ls st0) := by
  have hF := z_freew hD hS hA
  refine va_callv hr hS (fun q _ h => hF q h) hF (fun u t H1 locs1 ht hvm hw hB hz1 hk1 hS1 => ?_)
  obtain ⟨hP1, hD1⟩ := hB
  rw [ht] at hP1
  exact kk H1 locs1 hP1 (hD1.weaken (fun _ q _ h => hF q.1 h)) hS1
end ZR
-- ===== constructors: the world that comes is at addresses that nobody knows before =====
def zQn (D : va_G) (cl : List vw_C) (w : va_W) (sz h0 : Nat) (W1 : (Nat → Nat) → (Nat → ClassId) → va_W) (T1 : (Nat → ClassId) → List (ClassId × FieldType)) : Array Value → State → Outcome → State → Prop :=
  va_Qv (fun (u : (Nat → Nat) × (Nat → ClassId)) => u.1 0 = h0) (fun u t => va_P D cl (W1 u.1 u.2) t.heap ∧ va_K D cl (T1 u.2) t ∧ va_D (va_A w sz) (W1 u.1 u.2)) (va_A w sz)
theorem zP_end {D : va_G} {cl : List vw_C} {x y : va_W} {H : Heap} (h : va_P D cl (x ++ y) H) : va_P D cl y H := zP_iff.mpr fun q hq => zP_iff.mp h q (by simp [hq])
theorem zD_end {A : Nat → Prop} {x y : va_W} (h : va_D A (x ++ y)) : va_D A y := by
  obtain ⟨h1, h2⟩ := zD_iff.mp h
  exact zD_iff.mpr ⟨(List.pairwise_append.mp h1).2.1, fun q hq => h2 q (by simp [hq])⟩
section ZN
variable {p : Program} {l : Launch} {e : Env} {R : Room} {s : State} {m : MethodId} {args : Array Value} {below : List Frame} {meth : Method} {c : Code} {H : Heap} {locs : List Loc} {cells slots : Nat} {Q : State → Prop}
variable {cc : ByteArray} {pc : Nat} {ls : Array Slot} {rest st0 : List Value} {D : va_G} {cl : List vw_C} {A : Nat → Prop} {H0 : Heap} {w wc x : va_W} {aa : Array Value}
theorem z_nret {h0 : Nat} {u : (Nat → Nat) × (Nat → ClassId)} {W1 : (Nat → Nat) → (Nat → ClassId) → va_W} {T1 : (Nat → ClassId) → List (ClassId × FieldType)} (hx : p.tables.exec = Jvm.exec) (hb : c.code = cc) (hr : meth.sig.returnType = none) (hu : u.1 0 = h0) (hP : va_P D cl (W1 u.1 u.2) H) (hD : va_D (va_A w s.heap.size) (W1 u.1 u.2)) (hK : va_K D cl (T1 u.2) s) (hS : va_S (va_A w s.heap.size) s.heap H locs) (hdg : decode cc pc = .ok (.return_, 1)) (hlocks : meth.locks = false) :
    W p l e R s m args below meth c H locs cells slots (MQ below (zQn D cl w s.heap.size h0 W1 T1) args s cells slots (va_A w s.heap.size)) (F0 m pc ls []) :=
  W.vret hx hb hr (fun t ht hW => ⟨⟨u, rfl, hu, by rw [ht]; exact hP, va_K.moved hW.alike hK, hD⟩, hS.F ht⟩) hS.2.2 hdg hlocks
theorem z_cn {mc ms h0 : Nat} {tys : List (ClassId × FieldType)} {W1 : (Nat → Nat) → (Nat → ClassId) → va_W} {T1 : (Nat → ClassId) → List (ClassId × FieldType)}
    (hr : va_Run p l e R s m args below meth c H locs cells slots mc ms (F0 m pc ls st0) rest (zQn D cl wc H.size h0 W1 T1 aa) (va_A wc H.size)) (hP : va_P D cl (x ++ wc) H) (hD : va_D A (x ++ wc)) (hS : va_S A H0 H locs) (hA : ∀ q, H0.size ≤ q → A q) (hK : va_K D cl tys s)
    (kk : ∀ (u : (Nat → Nat) × (Nat → ClassId)) (H : Heap) (locs : List Loc), u.1 0 = h0 → va_P D cl (x ++ W1 u.1 u.2) H → va_D A (x ++ W1 u.1 u.2) → va_K D cl (tys ++ T1 u.2) s → va_S A H0 H locs → W p l e R s m args below meth c H locs (cells + mc) (slots + ms) Q (F0 m (pc + 3) ls rest)) : W p l e R s m args below meth c H locs cells slots Q (F0 m pc ls st0) := by
  have hP' : va_P D cl (x ++ (wc ++ [])) H := by rw [List.append_nil]; exact hP
  have hD' : va_D A (x ++ (wc ++ [])) := by rw [List.append_nil]; exact hD
  have hF : ∀ q, va_A wc H.size q → A q := z_freew (zD_end hD) hS hA
  refine va_callv hr hS (fun q _ h => hF q h) hF (fun u t H1 locs1 ht hvm hw hB hz1 hk1 hS1 => ?_)
  obtain ⟨hP1, hK1, hD1⟩ := hB
  rw [ht] at hP1
  obtain ⟨hP2, hD2⟩ := z_frame hP' hD' hk1 hF hP1 hD1
  rw [List.append_nil] at hP2 hD2
  exact kk u H1 locs1 hw hP2 hD2 (hK.app (va_K.moved hvm.symm hK1)) hS1
end ZN
end
section
theorem d_PT_init_0 : decode b_PT_init 0 = .ok (.aload_n 0, 1) := by decide +kernel
theorem d_PT_init_1 : decode b_PT_init 1 = .ok (.invokespecial 3, 3) := by decide +kernel
theorem d_PT_init_4 : decode b_PT_init 4 = .ok (.aload_n 0, 1) := by decide +kernel
theorem d_PT_init_5 : decode b_PT_init 5 = .ok (.bipush 40, 2) := by decide +kernel
theorem d_PT_init_7 : decode b_PT_init 7 = .ok (.newarray .int, 2) := by decide +kernel
theorem d_PT_init_9 : decode b_PT_init 9 = .ok (.putfield 9, 3) := by decide +kernel
theorem d_PT_init_12 : decode b_PT_init 12 = .ok (.aload_n 0, 1) := by decide +kernel
theorem d_PT_init_13 : decode b_PT_init 13 = .ok (.iconst 0, 1) := by decide +kernel
theorem d_PT_init_14 : decode b_PT_init 14 = .ok (.putfield 15, 3) := by decide +kernel
theorem d_PT_init_17 : decode b_PT_init 17 = .ok (.return_, 1) := by decide +kernel
theorem d_PT_has_0 : decode b_PT_has 0 = .ok (.iload_n 1, 1) := by decide +kernel
theorem d_PT_has_1 : decode b_PT_has 1 = .ok (.ifCond .lt 15, 3) := by decide +kernel
theorem d_PT_has_4 : decode b_PT_has 4 = .ok (.iload_n 1, 1) := by decide +kernel
theorem d_PT_has_5 : decode b_PT_has 5 = .ok (.aload_n 0, 1) := by decide +kernel
theorem d_PT_has_6 : decode b_PT_has 6 = .ok (.getfield 15, 3) := by decide +kernel
theorem d_PT_has_9 : decode b_PT_has 9 = .ok (.if_icmp .ge 7, 3) := by decide +kernel
theorem d_PT_has_12 : decode b_PT_has 12 = .ok (.iconst 1, 1) := by decide +kernel
theorem d_PT_has_13 : decode b_PT_has 13 = .ok (.goto 4, 3) := by decide +kernel
theorem d_PT_has_16 : decode b_PT_has 16 = .ok (.iconst 0, 1) := by decide +kernel
theorem d_PT_has_17 : decode b_PT_has 17 = .ok (.ireturn, 1) := by decide +kernel
theorem d_PT_grow_0 : decode b_PT_grow 0 = .ok (.aload_n 0, 1) := by decide +kernel
theorem d_PT_grow_1 : decode b_PT_grow 1 = .ok (.getfield 15, 3) := by decide +kernel
theorem d_PT_grow_4 : decode b_PT_grow 4 = .ok (.bipush 40, 2) := by decide +kernel
theorem d_PT_grow_6 : decode b_PT_grow 6 = .ok (.if_icmp .ge 16, 3) := by decide +kernel
theorem d_PT_grow_9 : decode b_PT_grow 9 = .ok (.iload_n 1, 1) := by decide +kernel
theorem d_PT_grow_10 : decode b_PT_grow 10 = .ok (.iconst (-1), 1) := by decide +kernel
theorem d_PT_grow_11 : decode b_PT_grow 11 = .ok (.if_icmp .eq 13, 3) := by decide +kernel
theorem d_PT_grow_14 : decode b_PT_grow 14 = .ok (.aload_n 0, 1) := by decide +kernel
theorem d_PT_grow_15 : decode b_PT_grow 15 = .ok (.iload_n 1, 1) := by decide +kernel
theorem d_PT_grow_16 : decode b_PT_grow 16 = .ok (.invokevirtual 19, 3) := by decide +kernel
theorem d_PT_grow_19 : decode b_PT_grow 19 = .ok (.ifCond .ne 5, 3) := by decide +kernel
theorem d_PT_grow_22 : decode b_PT_grow 22 = .ok (.iconst (-1), 1) := by decide +kernel
theorem d_PT_grow_23 : decode b_PT_grow 23 = .ok (.ireturn, 1) := by decide +kernel
theorem d_PT_grow_24 : decode b_PT_grow 24 = .ok (.aload_n 0, 1) := by decide +kernel
theorem d_PT_grow_25 : decode b_PT_grow 25 = .ok (.getfield 9, 3) := by decide +kernel
theorem d_PT_grow_28 : decode b_PT_grow 28 = .ok (.aload_n 0, 1) := by decide +kernel
theorem d_PT_grow_29 : decode b_PT_grow 29 = .ok (.getfield 15, 3) := by decide +kernel
theorem d_PT_grow_32 : decode b_PT_grow 32 = .ok (.iload_n 1, 1) := by decide +kernel
theorem d_PT_grow_33 : decode b_PT_grow 33 = .ok (.iastore, 1) := by decide +kernel
theorem d_PT_grow_34 : decode b_PT_grow 34 = .ok (.aload_n 0, 1) := by decide +kernel
theorem d_PT_grow_35 : decode b_PT_grow 35 = .ok (.dup, 1) := by decide +kernel
theorem d_PT_grow_36 : decode b_PT_grow 36 = .ok (.getfield 15, 3) := by decide +kernel
theorem d_PT_grow_39 : decode b_PT_grow 39 = .ok (.iconst 1, 1) := by decide +kernel
theorem d_PT_grow_40 : decode b_PT_grow 40 = .ok (.iadd, 1) := by decide +kernel
theorem d_PT_grow_41 : decode b_PT_grow 41 = .ok (.putfield 15, 3) := by decide +kernel
theorem d_PT_grow_44 : decode b_PT_grow 44 = .ok (.aload_n 0, 1) := by decide +kernel
theorem d_PT_grow_45 : decode b_PT_grow 45 = .ok (.getfield 15, 3) := by decide +kernel
theorem d_PT_grow_48 : decode b_PT_grow 48 = .ok (.iconst 1, 1) := by decide +kernel
theorem d_PT_grow_49 : decode b_PT_grow 49 = .ok (.isub, 1) := by decide +kernel
theorem d_PT_grow_50 : decode b_PT_grow 50 = .ok (.ireturn, 1) := by decide +kernel
theorem d_PT_meet_0 : decode b_PT_meet 0 = .ok (.aload_n 0, 1) := by decide +kernel
theorem d_PT_meet_1 : decode b_PT_meet 1 = .ok (.iload_n 1, 1) := by decide +kernel
theorem d_PT_meet_2 : decode b_PT_meet 2 = .ok (.invokevirtual 19, 3) := by decide +kernel
theorem d_PT_meet_5 : decode b_PT_meet 5 = .ok (.ifCond .eq 33, 3) := by decide +kernel
theorem d_PT_meet_8 : decode b_PT_meet 8 = .ok (.aload_n 0, 1) := by decide +kernel
theorem d_PT_meet_9 : decode b_PT_meet 9 = .ok (.iload_n 2, 1) := by decide +kernel
theorem d_PT_meet_10 : decode b_PT_meet 10 = .ok (.invokevirtual 19, 3) := by decide +kernel
theorem d_PT_meet_13 : decode b_PT_meet 13 = .ok (.ifCond .eq 25, 3) := by decide +kernel
theorem d_PT_meet_16 : decode b_PT_meet 16 = .ok (.aload_n 0, 1) := by decide +kernel
theorem d_PT_meet_17 : decode b_PT_meet 17 = .ok (.iload_n 1, 1) := by decide +kernel
theorem d_PT_meet_18 : decode b_PT_meet 18 = .ok (.iload_n 2, 1) := by decide +kernel
theorem d_PT_meet_19 : decode b_PT_meet 19 = .ok (.invokevirtual 23, 3) := by decide +kernel
theorem d_PT_meet_22 : decode b_PT_meet 22 = .ok (.ifCond .ne 12, 3) := by decide +kernel
theorem d_PT_meet_25 : decode b_PT_meet 25 = .ok (.aload_n 0, 1) := by decide +kernel
theorem d_PT_meet_26 : decode b_PT_meet 26 = .ok (.iload_n 2, 1) := by decide +kernel
theorem d_PT_meet_27 : decode b_PT_meet 27 = .ok (.iload_n 1, 1) := by decide +kernel
theorem d_PT_meet_28 : decode b_PT_meet 28 = .ok (.invokevirtual 23, 3) := by decide +kernel
theorem d_PT_meet_31 : decode b_PT_meet 31 = .ok (.ifCond .eq 7, 3) := by decide +kernel
theorem d_PT_meet_34 : decode b_PT_meet 34 = .ok (.iconst 1, 1) := by decide +kernel
theorem d_PT_meet_35 : decode b_PT_meet 35 = .ok (.goto 4, 3) := by decide +kernel
theorem d_PT_meet_38 : decode b_PT_meet 38 = .ok (.iconst 0, 1) := by decide +kernel
theorem d_PT_meet_39 : decode b_PT_meet 39 = .ok (.ireturn, 1) := by decide +kernel
theorem d_PT_isAtOrWithin_0 : decode b_PT_isAtOrWithin 0 = .ok (.iload_n 1, 1) := by decide +kernel
theorem d_PT_isAtOrWithin_1 : decode b_PT_isAtOrWithin 1 = .ok (.istore_n 3, 1) := by decide +kernel
theorem d_PT_isAtOrWithin_2 : decode b_PT_isAtOrWithin 2 = .ok (.iconst 0, 1) := by decide +kernel
theorem d_PT_isAtOrWithin_3 : decode b_PT_isAtOrWithin 3 = .ok (.istore 4, 2) := by decide +kernel
theorem d_PT_isAtOrWithin_5 : decode b_PT_isAtOrWithin 5 = .ok (.iload 4, 2) := by decide +kernel
theorem d_PT_isAtOrWithin_7 : decode b_PT_isAtOrWithin 7 = .ok (.bipush 40, 2) := by decide +kernel
theorem d_PT_isAtOrWithin_9 : decode b_PT_isAtOrWithin 9 = .ok (.if_icmp .ge 29, 3) := by decide +kernel
theorem d_PT_isAtOrWithin_12 : decode b_PT_isAtOrWithin 12 = .ok (.iload_n 3, 1) := by decide +kernel
theorem d_PT_isAtOrWithin_13 : decode b_PT_isAtOrWithin 13 = .ok (.iload_n 2, 1) := by decide +kernel
theorem d_PT_isAtOrWithin_14 : decode b_PT_isAtOrWithin 14 = .ok (.if_icmp .le 24, 3) := by decide +kernel
theorem d_PT_isAtOrWithin_17 : decode b_PT_isAtOrWithin 17 = .ok (.aload_n 0, 1) := by decide +kernel
theorem d_PT_isAtOrWithin_18 : decode b_PT_isAtOrWithin 18 = .ok (.iload_n 3, 1) := by decide +kernel
theorem d_PT_isAtOrWithin_19 : decode b_PT_isAtOrWithin 19 = .ok (.invokevirtual 19, 3) := by decide +kernel
theorem d_PT_isAtOrWithin_22 : decode b_PT_isAtOrWithin 22 = .ok (.ifCond .eq 16, 3) := by decide +kernel
theorem d_PT_isAtOrWithin_25 : decode b_PT_isAtOrWithin 25 = .ok (.aload_n 0, 1) := by decide +kernel
theorem d_PT_isAtOrWithin_26 : decode b_PT_isAtOrWithin 26 = .ok (.getfield 9, 3) := by decide +kernel
theorem d_PT_isAtOrWithin_29 : decode b_PT_isAtOrWithin 29 = .ok (.iload_n 3, 1) := by decide +kernel
theorem d_PT_isAtOrWithin_30 : decode b_PT_isAtOrWithin 30 = .ok (.iaload, 1) := by decide +kernel
theorem d_PT_isAtOrWithin_31 : decode b_PT_isAtOrWithin 31 = .ok (.istore_n 3, 1) := by decide +kernel
theorem d_PT_isAtOrWithin_32 : decode b_PT_isAtOrWithin 32 = .ok (.iinc 4 1, 3) := by decide +kernel
theorem d_PT_isAtOrWithin_35 : decode b_PT_isAtOrWithin 35 = .ok (.goto (-30), 3) := by decide +kernel
theorem d_PT_isAtOrWithin_38 : decode b_PT_isAtOrWithin 38 = .ok (.iload_n 3, 1) := by decide +kernel
theorem d_PT_isAtOrWithin_39 : decode b_PT_isAtOrWithin 39 = .ok (.iload_n 2, 1) := by decide +kernel
theorem d_PT_isAtOrWithin_40 : decode b_PT_isAtOrWithin 40 = .ok (.if_icmp .ne 7, 3) := by decide +kernel
theorem d_PT_isAtOrWithin_43 : decode b_PT_isAtOrWithin 43 = .ok (.iconst 1, 1) := by decide +kernel
theorem d_PT_isAtOrWithin_44 : decode b_PT_isAtOrWithin 44 = .ok (.goto 4, 3) := by decide +kernel
theorem d_PT_isAtOrWithin_47 : decode b_PT_isAtOrWithin 47 = .ok (.iconst 0, 1) := by decide +kernel
theorem d_PT_isAtOrWithin_48 : decode b_PT_isAtOrWithin 48 = .ok (.ireturn, 1) := by decide +kernel
theorem d_SB_init_0 : decode b_SB_init 0 = .ok (.aload_n 0, 1) := by decide +kernel
theorem d_SB_init_1 : decode b_SB_init 1 = .ok (.invokespecial 3, 3) := by decide +kernel
theorem d_SB_init_4 : decode b_SB_init 4 = .ok (.aload_n 0, 1) := by decide +kernel
theorem d_SB_init_5 : decode b_SB_init 5 = .ok (.bipush 80, 2) := by decide +kernel
theorem d_SB_init_7 : decode b_SB_init 7 = .ok (.newarray .int, 2) := by decide +kernel
theorem d_SB_init_9 : decode b_SB_init 9 = .ok (.putfield 9, 3) := by decide +kernel
theorem d_SB_init_12 : decode b_SB_init 12 = .ok (.aload_n 0, 1) := by decide +kernel
theorem d_SB_init_13 : decode b_SB_init 13 = .ok (.bipush 80, 2) := by decide +kernel
theorem d_SB_init_15 : decode b_SB_init 15 = .ok (.newarray .int, 2) := by decide +kernel
theorem d_SB_init_17 : decode b_SB_init 17 = .ok (.putfield 15, 3) := by decide +kernel
theorem d_SB_init_20 : decode b_SB_init 20 = .ok (.aload_n 0, 1) := by decide +kernel
theorem d_SB_init_21 : decode b_SB_init 21 = .ok (.bipush 80, 2) := by decide +kernel
theorem d_SB_init_23 : decode b_SB_init 23 = .ok (.newarray .int, 2) := by decide +kernel
theorem d_SB_init_25 : decode b_SB_init 25 = .ok (.putfield 18, 3) := by decide +kernel
theorem d_SB_init_28 : decode b_SB_init 28 = .ok (.aload_n 0, 1) := by decide +kernel
theorem d_SB_init_29 : decode b_SB_init 29 = .ok (.bipush 80, 2) := by decide +kernel
theorem d_SB_init_31 : decode b_SB_init 31 = .ok (.newarray .boolean, 2) := by decide +kernel
theorem d_SB_init_33 : decode b_SB_init 33 = .ok (.putfield 21, 3) := by decide +kernel
theorem d_SB_init_36 : decode b_SB_init 36 = .ok (.aload_n 0, 1) := by decide +kernel
theorem d_SB_init_37 : decode b_SB_init 37 = .ok (.iconst 0, 1) := by decide +kernel
theorem d_SB_init_38 : decode b_SB_init 38 = .ok (.putfield 25, 3) := by decide +kernel
theorem d_SB_init_41 : decode b_SB_init 41 = .ok (.return_, 1) := by decide +kernel
theorem d_SB_isFull_0 : decode b_SB_isFull 0 = .ok (.aload_n 0, 1) := by decide +kernel
theorem d_SB_isFull_1 : decode b_SB_isFull 1 = .ok (.getfield 25, 3) := by decide +kernel
theorem d_SB_isFull_4 : decode b_SB_isFull 4 = .ok (.bipush 80, 2) := by decide +kernel
theorem d_SB_isFull_6 : decode b_SB_isFull 6 = .ok (.if_icmp .lt 7, 3) := by decide +kernel
theorem d_SB_isFull_9 : decode b_SB_isFull 9 = .ok (.iconst 1, 1) := by decide +kernel
theorem d_SB_isFull_10 : decode b_SB_isFull 10 = .ok (.goto 4, 3) := by decide +kernel
theorem d_SB_isFull_13 : decode b_SB_isFull 13 = .ok (.iconst 0, 1) := by decide +kernel
theorem d_SB_isFull_14 : decode b_SB_isFull 14 = .ok (.ireturn, 1) := by decide +kernel
theorem d_SB_has_0 : decode b_SB_has 0 = .ok (.iload_n 1, 1) := by decide +kernel
theorem d_SB_has_1 : decode b_SB_has 1 = .ok (.ifCond .lt 15, 3) := by decide +kernel
theorem d_SB_has_4 : decode b_SB_has 4 = .ok (.iload_n 1, 1) := by decide +kernel
theorem d_SB_has_5 : decode b_SB_has 5 = .ok (.aload_n 0, 1) := by decide +kernel
theorem d_SB_has_6 : decode b_SB_has 6 = .ok (.getfield 25, 3) := by decide +kernel
theorem d_SB_has_9 : decode b_SB_has 9 = .ok (.if_icmp .ge 7, 3) := by decide +kernel
theorem d_SB_has_12 : decode b_SB_has 12 = .ok (.iconst 1, 1) := by decide +kernel
theorem d_SB_has_13 : decode b_SB_has 13 = .ok (.goto 4, 3) := by decide +kernel
theorem d_SB_has_16 : decode b_SB_has 16 = .ok (.iconst 0, 1) := by decide +kernel
theorem d_SB_has_17 : decode b_SB_has 17 = .ok (.ireturn, 1) := by decide +kernel
theorem d_SB_isOpen_0 : decode b_SB_isOpen 0 = .ok (.aload_n 0, 1) := by decide +kernel
theorem d_SB_isOpen_1 : decode b_SB_isOpen 1 = .ok (.iload_n 1, 1) := by decide +kernel
theorem d_SB_isOpen_2 : decode b_SB_isOpen 2 = .ok (.invokevirtual 29, 3) := by decide +kernel
theorem d_SB_isOpen_5 : decode b_SB_isOpen 5 = .ok (.ifCond .eq 16, 3) := by decide +kernel
theorem d_SB_isOpen_8 : decode b_SB_isOpen 8 = .ok (.aload_n 0, 1) := by decide +kernel
theorem d_SB_isOpen_9 : decode b_SB_isOpen 9 = .ok (.getfield 21, 3) := by decide +kernel
theorem d_SB_isOpen_12 : decode b_SB_isOpen 12 = .ok (.iload_n 1, 1) := by decide +kernel
theorem d_SB_isOpen_13 : decode b_SB_isOpen 13 = .ok (.baload, 1) := by decide +kernel
theorem d_SB_isOpen_14 : decode b_SB_isOpen 14 = .ok (.ifCond .eq 7, 3) := by decide +kernel
theorem d_SB_isOpen_17 : decode b_SB_isOpen 17 = .ok (.iconst 1, 1) := by decide +kernel
theorem d_SB_isOpen_18 : decode b_SB_isOpen 18 = .ok (.goto 4, 3) := by decide +kernel
theorem d_SB_isOpen_21 : decode b_SB_isOpen 21 = .ok (.iconst 0, 1) := by decide +kernel
theorem d_SB_isOpen_22 : decode b_SB_isOpen 22 = .ok (.ireturn, 1) := by decide +kernel
theorem d_SB_open_0 : decode b_SB_open 0 = .ok (.aload_n 0, 1) := by decide +kernel
theorem d_SB_open_1 : decode b_SB_open 1 = .ok (.invokevirtual 33, 3) := by decide +kernel
theorem d_SB_open_4 : decode b_SB_open 4 = .ok (.ifCond .eq 5, 3) := by decide +kernel
theorem d_SB_open_7 : decode b_SB_open 7 = .ok (.iconst (-1), 1) := by decide +kernel
theorem d_SB_open_8 : decode b_SB_open 8 = .ok (.ireturn, 1) := by decide +kernel
theorem d_SB_open_9 : decode b_SB_open 9 = .ok (.aload_n 0, 1) := by decide +kernel
theorem d_SB_open_10 : decode b_SB_open 10 = .ok (.getfield 9, 3) := by decide +kernel
theorem d_SB_open_13 : decode b_SB_open 13 = .ok (.aload_n 0, 1) := by decide +kernel
theorem d_SB_open_14 : decode b_SB_open 14 = .ok (.getfield 25, 3) := by decide +kernel
theorem d_SB_open_17 : decode b_SB_open 17 = .ok (.iload_n 1, 1) := by decide +kernel
theorem d_SB_open_18 : decode b_SB_open 18 = .ok (.iastore, 1) := by decide +kernel
theorem d_SB_open_19 : decode b_SB_open 19 = .ok (.aload_n 0, 1) := by decide +kernel
theorem d_SB_open_20 : decode b_SB_open 20 = .ok (.getfield 15, 3) := by decide +kernel
theorem d_SB_open_23 : decode b_SB_open 23 = .ok (.aload_n 0, 1) := by decide +kernel
theorem d_SB_open_24 : decode b_SB_open 24 = .ok (.getfield 25, 3) := by decide +kernel
theorem d_SB_open_27 : decode b_SB_open 27 = .ok (.iload_n 2, 1) := by decide +kernel
theorem d_SB_open_28 : decode b_SB_open 28 = .ok (.iastore, 1) := by decide +kernel
theorem d_SB_open_29 : decode b_SB_open 29 = .ok (.aload_n 0, 1) := by decide +kernel
theorem d_SB_open_30 : decode b_SB_open 30 = .ok (.getfield 18, 3) := by decide +kernel
theorem d_SB_open_33 : decode b_SB_open 33 = .ok (.aload_n 0, 1) := by decide +kernel
theorem d_SB_open_34 : decode b_SB_open 34 = .ok (.getfield 25, 3) := by decide +kernel
theorem d_SB_open_37 : decode b_SB_open 37 = .ok (.iload_n 3, 1) := by decide +kernel
theorem d_SB_open_38 : decode b_SB_open 38 = .ok (.iastore, 1) := by decide +kernel
theorem d_SB_open_39 : decode b_SB_open 39 = .ok (.aload_n 0, 1) := by decide +kernel
theorem d_SB_open_40 : decode b_SB_open 40 = .ok (.getfield 21, 3) := by decide +kernel
theorem d_SB_open_43 : decode b_SB_open 43 = .ok (.aload_n 0, 1) := by decide +kernel
theorem d_SB_open_44 : decode b_SB_open 44 = .ok (.getfield 25, 3) := by decide +kernel
theorem d_SB_open_47 : decode b_SB_open 47 = .ok (.iconst 1, 1) := by decide +kernel
theorem d_SB_open_48 : decode b_SB_open 48 = .ok (.bastore, 1) := by decide +kernel
theorem d_SB_open_49 : decode b_SB_open 49 = .ok (.aload_n 0, 1) := by decide +kernel
theorem d_SB_open_50 : decode b_SB_open 50 = .ok (.dup, 1) := by decide +kernel
theorem d_SB_open_51 : decode b_SB_open 51 = .ok (.getfield 25, 3) := by decide +kernel
theorem d_SB_open_54 : decode b_SB_open 54 = .ok (.iconst 1, 1) := by decide +kernel
theorem d_SB_open_55 : decode b_SB_open 55 = .ok (.iadd, 1) := by decide +kernel
theorem d_SB_open_56 : decode b_SB_open 56 = .ok (.putfield 25, 3) := by decide +kernel
theorem d_SB_open_59 : decode b_SB_open 59 = .ok (.aload_n 0, 1) := by decide +kernel
theorem d_SB_open_60 : decode b_SB_open 60 = .ok (.getfield 25, 3) := by decide +kernel
theorem d_SB_open_63 : decode b_SB_open 63 = .ok (.iconst 1, 1) := by decide +kernel
theorem d_SB_open_64 : decode b_SB_open 64 = .ok (.isub, 1) := by decide +kernel
theorem d_SB_open_65 : decode b_SB_open 65 = .ok (.ireturn, 1) := by decide +kernel
theorem d_SB_close_0 : decode b_SB_close 0 = .ok (.aload_n 0, 1) := by decide +kernel
theorem d_SB_close_1 : decode b_SB_close 1 = .ok (.iload_n 1, 1) := by decide +kernel
theorem d_SB_close_2 : decode b_SB_close 2 = .ok (.invokevirtual 29, 3) := by decide +kernel
theorem d_SB_close_5 : decode b_SB_close 5 = .ok (.ifCond .eq 10, 3) := by decide +kernel
theorem d_SB_close_8 : decode b_SB_close 8 = .ok (.aload_n 0, 1) := by decide +kernel
theorem d_SB_close_9 : decode b_SB_close 9 = .ok (.getfield 21, 3) := by decide +kernel
theorem d_SB_close_12 : decode b_SB_close 12 = .ok (.iload_n 1, 1) := by decide +kernel
theorem d_SB_close_13 : decode b_SB_close 13 = .ok (.iconst 0, 1) := by decide +kernel
theorem d_SB_close_14 : decode b_SB_close 14 = .ok (.bastore, 1) := by decide +kernel
theorem d_SB_close_15 : decode b_SB_close 15 = .ok (.return_, 1) := by decide +kernel
theorem d_SB_targetOf_0 : decode b_SB_targetOf 0 = .ok (.aload_n 0, 1) := by decide +kernel
theorem d_SB_targetOf_1 : decode b_SB_targetOf 1 = .ok (.iload_n 1, 1) := by decide +kernel
theorem d_SB_targetOf_2 : decode b_SB_targetOf 2 = .ok (.invokevirtual 29, 3) := by decide +kernel
theorem d_SB_targetOf_5 : decode b_SB_targetOf 5 = .ok (.ifCond .eq 12, 3) := by decide +kernel
theorem d_SB_targetOf_8 : decode b_SB_targetOf 8 = .ok (.aload_n 0, 1) := by decide +kernel
theorem d_SB_targetOf_9 : decode b_SB_targetOf 9 = .ok (.getfield 9, 3) := by decide +kernel
theorem d_SB_targetOf_12 : decode b_SB_targetOf 12 = .ok (.iload_n 1, 1) := by decide +kernel
theorem d_SB_targetOf_13 : decode b_SB_targetOf 13 = .ok (.iaload, 1) := by decide +kernel
theorem d_SB_targetOf_14 : decode b_SB_targetOf 14 = .ok (.goto 4, 3) := by decide +kernel
theorem d_SB_targetOf_17 : decode b_SB_targetOf 17 = .ok (.iconst (-1), 1) := by decide +kernel
theorem d_SB_targetOf_18 : decode b_SB_targetOf 18 = .ok (.ireturn, 1) := by decide +kernel
theorem d_SB_configurationOf_0 : decode b_SB_configurationOf 0 = .ok (.aload_n 0, 1) := by decide +kernel
theorem d_SB_configurationOf_1 : decode b_SB_configurationOf 1 = .ok (.iload_n 1, 1) := by decide +kernel
theorem d_SB_configurationOf_2 : decode b_SB_configurationOf 2 = .ok (.invokevirtual 29, 3) := by decide +kernel
theorem d_SB_configurationOf_5 : decode b_SB_configurationOf 5 = .ok (.ifCond .eq 12, 3) := by decide +kernel
theorem d_SB_configurationOf_8 : decode b_SB_configurationOf 8 = .ok (.aload_n 0, 1) := by decide +kernel
theorem d_SB_configurationOf_9 : decode b_SB_configurationOf 9 = .ok (.getfield 15, 3) := by decide +kernel
theorem d_SB_configurationOf_12 : decode b_SB_configurationOf 12 = .ok (.iload_n 1, 1) := by decide +kernel
theorem d_SB_configurationOf_13 : decode b_SB_configurationOf 13 = .ok (.iaload, 1) := by decide +kernel
theorem d_SB_configurationOf_14 : decode b_SB_configurationOf 14 = .ok (.goto 4, 3) := by decide +kernel
theorem d_SB_configurationOf_17 : decode b_SB_configurationOf 17 = .ok (.iconst (-1), 1) := by decide +kernel
theorem d_SB_configurationOf_18 : decode b_SB_configurationOf 18 = .ok (.ireturn, 1) := by decide +kernel
theorem d_SB_runOf_0 : decode b_SB_runOf 0 = .ok (.aload_n 0, 1) := by decide +kernel
theorem d_SB_runOf_1 : decode b_SB_runOf 1 = .ok (.iload_n 1, 1) := by decide +kernel
theorem d_SB_runOf_2 : decode b_SB_runOf 2 = .ok (.invokevirtual 29, 3) := by decide +kernel
theorem d_SB_runOf_5 : decode b_SB_runOf 5 = .ok (.ifCond .eq 12, 3) := by decide +kernel
theorem d_SB_runOf_8 : decode b_SB_runOf 8 = .ok (.aload_n 0, 1) := by decide +kernel
theorem d_SB_runOf_9 : decode b_SB_runOf 9 = .ok (.getfield 18, 3) := by decide +kernel
theorem d_SB_runOf_12 : decode b_SB_runOf 12 = .ok (.iload_n 1, 1) := by decide +kernel
theorem d_SB_runOf_13 : decode b_SB_runOf 13 = .ok (.iaload, 1) := by decide +kernel
theorem d_SB_runOf_14 : decode b_SB_runOf 14 = .ok (.goto 4, 3) := by decide +kernel
theorem d_SB_runOf_17 : decode b_SB_runOf 17 = .ok (.iconst (-1), 1) := by decide +kernel
theorem d_SB_runOf_18 : decode b_SB_runOf 18 = .ok (.ireturn, 1) := by decide +kernel
theorem d_SB_hasOpenOne_0 : decode b_SB_hasOpenOne 0 = .ok (.iconst 0, 1) := by decide +kernel
theorem d_SB_hasOpenOne_1 : decode b_SB_hasOpenOne 1 = .ok (.istore_n 3, 1) := by decide +kernel
theorem d_SB_hasOpenOne_2 : decode b_SB_hasOpenOne 2 = .ok (.iload_n 3, 1) := by decide +kernel
theorem d_SB_hasOpenOne_3 : decode b_SB_hasOpenOne 3 = .ok (.bipush 80, 2) := by decide +kernel
theorem d_SB_hasOpenOne_5 : decode b_SB_hasOpenOne 5 = .ok (.if_icmp .ge 39, 3) := by decide +kernel
theorem d_SB_hasOpenOne_8 : decode b_SB_hasOpenOne 8 = .ok (.aload_n 0, 1) := by decide +kernel
theorem d_SB_hasOpenOne_9 : decode b_SB_hasOpenOne 9 = .ok (.iload_n 3, 1) := by decide +kernel
theorem d_SB_hasOpenOne_10 : decode b_SB_hasOpenOne 10 = .ok (.invokevirtual 37, 3) := by decide +kernel
theorem d_SB_hasOpenOne_13 : decode b_SB_hasOpenOne 13 = .ok (.ifCond .eq 25, 3) := by decide +kernel
theorem d_SB_hasOpenOne_16 : decode b_SB_hasOpenOne 16 = .ok (.aload_n 0, 1) := by decide +kernel
theorem d_SB_hasOpenOne_17 : decode b_SB_hasOpenOne 17 = .ok (.getfield 9, 3) := by decide +kernel
theorem d_SB_hasOpenOne_20 : decode b_SB_hasOpenOne 20 = .ok (.iload_n 3, 1) := by decide +kernel
theorem d_SB_hasOpenOne_21 : decode b_SB_hasOpenOne 21 = .ok (.iaload, 1) := by decide +kernel
theorem d_SB_hasOpenOne_22 : decode b_SB_hasOpenOne 22 = .ok (.iload_n 1, 1) := by decide +kernel
theorem d_SB_hasOpenOne_23 : decode b_SB_hasOpenOne 23 = .ok (.if_icmp .ne 15, 3) := by decide +kernel
theorem d_SB_hasOpenOne_26 : decode b_SB_hasOpenOne 26 = .ok (.aload_n 0, 1) := by decide +kernel
theorem d_SB_hasOpenOne_27 : decode b_SB_hasOpenOne 27 = .ok (.getfield 15, 3) := by decide +kernel
theorem d_SB_hasOpenOne_30 : decode b_SB_hasOpenOne 30 = .ok (.iload_n 3, 1) := by decide +kernel
theorem d_SB_hasOpenOne_31 : decode b_SB_hasOpenOne 31 = .ok (.iaload, 1) := by decide +kernel
theorem d_SB_hasOpenOne_32 : decode b_SB_hasOpenOne 32 = .ok (.iload_n 2, 1) := by decide +kernel
theorem d_SB_hasOpenOne_33 : decode b_SB_hasOpenOne 33 = .ok (.if_icmp .ne 5, 3) := by decide +kernel
theorem d_SB_hasOpenOne_36 : decode b_SB_hasOpenOne 36 = .ok (.iconst 1, 1) := by decide +kernel
theorem d_SB_hasOpenOne_37 : decode b_SB_hasOpenOne 37 = .ok (.ireturn, 1) := by decide +kernel
theorem d_SB_hasOpenOne_38 : decode b_SB_hasOpenOne 38 = .ok (.iinc 3 1, 3) := by decide +kernel
theorem d_SB_hasOpenOne_41 : decode b_SB_hasOpenOne 41 = .ok (.goto (-39), 3) := by decide +kernel
theorem d_SB_hasOpenOne_44 : decode b_SB_hasOpenOne 44 = .ok (.iconst 0, 1) := by decide +kernel
theorem d_SB_hasOpenOne_45 : decode b_SB_hasOpenOne 45 = .ok (.ireturn, 1) := by decide +kernel
theorem d_SB_hasOpenOneIn_0 : decode b_SB_hasOpenOneIn 0 = .ok (.iconst 0, 1) := by decide +kernel
theorem d_SB_hasOpenOneIn_1 : decode b_SB_hasOpenOneIn 1 = .ok (.istore_n 2, 1) := by decide +kernel
theorem d_SB_hasOpenOneIn_2 : decode b_SB_hasOpenOneIn 2 = .ok (.iload_n 2, 1) := by decide +kernel
theorem d_SB_hasOpenOneIn_3 : decode b_SB_hasOpenOneIn 3 = .ok (.bipush 80, 2) := by decide +kernel
theorem d_SB_hasOpenOneIn_5 : decode b_SB_hasOpenOneIn 5 = .ok (.if_icmp .ge 29, 3) := by decide +kernel
theorem d_SB_hasOpenOneIn_8 : decode b_SB_hasOpenOneIn 8 = .ok (.aload_n 0, 1) := by decide +kernel
theorem d_SB_hasOpenOneIn_9 : decode b_SB_hasOpenOneIn 9 = .ok (.iload_n 2, 1) := by decide +kernel
theorem d_SB_hasOpenOneIn_10 : decode b_SB_hasOpenOneIn 10 = .ok (.invokevirtual 37, 3) := by decide +kernel
theorem d_SB_hasOpenOneIn_13 : decode b_SB_hasOpenOneIn 13 = .ok (.ifCond .eq 15, 3) := by decide +kernel
theorem d_SB_hasOpenOneIn_16 : decode b_SB_hasOpenOneIn 16 = .ok (.aload_n 0, 1) := by decide +kernel
theorem d_SB_hasOpenOneIn_17 : decode b_SB_hasOpenOneIn 17 = .ok (.getfield 15, 3) := by decide +kernel
theorem d_SB_hasOpenOneIn_20 : decode b_SB_hasOpenOneIn 20 = .ok (.iload_n 2, 1) := by decide +kernel
theorem d_SB_hasOpenOneIn_21 : decode b_SB_hasOpenOneIn 21 = .ok (.iaload, 1) := by decide +kernel
theorem d_SB_hasOpenOneIn_22 : decode b_SB_hasOpenOneIn 22 = .ok (.iload_n 1, 1) := by decide +kernel
theorem d_SB_hasOpenOneIn_23 : decode b_SB_hasOpenOneIn 23 = .ok (.if_icmp .ne 5, 3) := by decide +kernel
theorem d_SB_hasOpenOneIn_26 : decode b_SB_hasOpenOneIn 26 = .ok (.iconst 1, 1) := by decide +kernel
theorem d_SB_hasOpenOneIn_27 : decode b_SB_hasOpenOneIn 27 = .ok (.ireturn, 1) := by decide +kernel
theorem d_SB_hasOpenOneIn_28 : decode b_SB_hasOpenOneIn 28 = .ok (.iinc 2 1, 3) := by decide +kernel
theorem d_SB_hasOpenOneIn_31 : decode b_SB_hasOpenOneIn 31 = .ok (.goto (-29), 3) := by decide +kernel
theorem d_SB_hasOpenOneIn_34 : decode b_SB_hasOpenOneIn 34 = .ok (.iconst 0, 1) := by decide +kernel
theorem d_SB_hasOpenOneIn_35 : decode b_SB_hasOpenOneIn 35 = .ok (.ireturn, 1) := by decide +kernel
theorem d_LT_init_0 : decode b_LT_init 0 = .ok (.aload_n 0, 1) := by decide +kernel
theorem d_LT_init_1 : decode b_LT_init 1 = .ok (.invokespecial 3, 3) := by decide +kernel
theorem d_LT_init_4 : decode b_LT_init 4 = .ok (.aload_n 0, 1) := by decide +kernel
theorem d_LT_init_5 : decode b_LT_init 5 = .ok (.sipush 160, 3) := by decide +kernel
theorem d_LT_init_8 : decode b_LT_init 8 = .ok (.newarray .long, 2) := by decide +kernel
theorem d_LT_init_10 : decode b_LT_init 10 = .ok (.putfield 9, 3) := by decide +kernel
theorem d_LT_init_13 : decode b_LT_init 13 = .ok (.aload_n 0, 1) := by decide +kernel
theorem d_LT_init_14 : decode b_LT_init 14 = .ok (.sipush 160, 3) := by decide +kernel
theorem d_LT_init_17 : decode b_LT_init 17 = .ok (.newarray .int, 2) := by decide +kernel
theorem d_LT_init_19 : decode b_LT_init 19 = .ok (.putfield 15, 3) := by decide +kernel
theorem d_LT_init_22 : decode b_LT_init 22 = .ok (.aload_n 0, 1) := by decide +kernel
theorem d_LT_init_23 : decode b_LT_init 23 = .ok (.sipush 160, 3) := by decide +kernel
theorem d_LT_init_26 : decode b_LT_init 26 = .ok (.newarray .boolean, 2) := by decide +kernel
theorem d_LT_init_28 : decode b_LT_init 28 = .ok (.putfield 19, 3) := by decide +kernel
theorem d_LT_init_31 : decode b_LT_init 31 = .ok (.aload_n 0, 1) := by decide +kernel
theorem d_LT_init_32 : decode b_LT_init 32 = .ok (.sipush 160, 3) := by decide +kernel
theorem d_LT_init_35 : decode b_LT_init 35 = .ok (.newarray .boolean, 2) := by decide +kernel
theorem d_LT_init_37 : decode b_LT_init 37 = .ok (.putfield 23, 3) := by decide +kernel
theorem d_LT_init_40 : decode b_LT_init 40 = .ok (.return_, 1) := by decide +kernel
theorem d_LT_has_0 : decode b_LT_has 0 = .ok (.iload_n 1, 1) := by decide +kernel
theorem d_LT_has_1 : decode b_LT_has 1 = .ok (.ifCond .lt 25, 3) := by decide +kernel
theorem d_LT_has_4 : decode b_LT_has 4 = .ok (.iload_n 1, 1) := by decide +kernel
theorem d_LT_has_5 : decode b_LT_has 5 = .ok (.sipush 160, 3) := by decide +kernel
theorem d_LT_has_8 : decode b_LT_has 8 = .ok (.if_icmp .ge 18, 3) := by decide +kernel
theorem d_LT_has_11 : decode b_LT_has 11 = .ok (.aload_n 0, 1) := by decide +kernel
theorem d_LT_has_12 : decode b_LT_has 12 = .ok (.getfield 9, 3) := by decide +kernel
theorem d_LT_has_15 : decode b_LT_has 15 = .ok (.iload_n 1, 1) := by decide +kernel
theorem d_LT_has_16 : decode b_LT_has 16 = .ok (.laload, 1) := by decide +kernel
theorem d_LT_has_17 : decode b_LT_has 17 = .ok (.lconst 0, 1) := by decide +kernel
theorem d_LT_has_18 : decode b_LT_has 18 = .ok (.lcmp, 1) := by decide +kernel
theorem d_LT_has_19 : decode b_LT_has 19 = .ok (.ifCond .eq 7, 3) := by decide +kernel
theorem d_LT_has_22 : decode b_LT_has 22 = .ok (.iconst 1, 1) := by decide +kernel
theorem d_LT_has_23 : decode b_LT_has 23 = .ok (.goto 4, 3) := by decide +kernel
theorem d_LT_has_26 : decode b_LT_has 26 = .ok (.iconst 0, 1) := by decide +kernel
theorem d_LT_has_27 : decode b_LT_has 27 = .ok (.ireturn, 1) := by decide +kernel
theorem d_LT_put_0 : decode b_LT_put 0 = .ok (.iload_n 1, 1) := by decide +kernel
theorem d_LT_put_1 : decode b_LT_put 1 = .ok (.ifCond .lt 40, 3) := by decide +kernel
theorem d_LT_put_4 : decode b_LT_put 4 = .ok (.iload_n 1, 1) := by decide +kernel
theorem d_LT_put_5 : decode b_LT_put 5 = .ok (.sipush 160, 3) := by decide +kernel
theorem d_LT_put_8 : decode b_LT_put 8 = .ok (.if_icmp .ge 33, 3) := by decide +kernel
theorem d_LT_put_11 : decode b_LT_put 11 = .ok (.aload_n 0, 1) := by decide +kernel
theorem d_LT_put_12 : decode b_LT_put 12 = .ok (.getfield 9, 3) := by decide +kernel
theorem d_LT_put_15 : decode b_LT_put 15 = .ok (.iload_n 1, 1) := by decide +kernel
theorem d_LT_put_16 : decode b_LT_put 16 = .ok (.lload_n 3, 1) := by decide +kernel
theorem d_LT_put_17 : decode b_LT_put 17 = .ok (.lastore, 1) := by decide +kernel
theorem d_LT_put_18 : decode b_LT_put 18 = .ok (.aload_n 0, 1) := by decide +kernel
theorem d_LT_put_19 : decode b_LT_put 19 = .ok (.getfield 15, 3) := by decide +kernel
theorem d_LT_put_22 : decode b_LT_put 22 = .ok (.iload_n 1, 1) := by decide +kernel
theorem d_LT_put_23 : decode b_LT_put 23 = .ok (.iload_n 2, 1) := by decide +kernel
theorem d_LT_put_24 : decode b_LT_put 24 = .ok (.iastore, 1) := by decide +kernel
theorem d_LT_put_25 : decode b_LT_put 25 = .ok (.aload_n 0, 1) := by decide +kernel
theorem d_LT_put_26 : decode b_LT_put 26 = .ok (.getfield 19, 3) := by decide +kernel
theorem d_LT_put_29 : decode b_LT_put 29 = .ok (.iload_n 1, 1) := by decide +kernel
theorem d_LT_put_30 : decode b_LT_put 30 = .ok (.iload 5, 2) := by decide +kernel
theorem d_LT_put_32 : decode b_LT_put 32 = .ok (.bastore, 1) := by decide +kernel
theorem d_LT_put_33 : decode b_LT_put 33 = .ok (.aload_n 0, 1) := by decide +kernel
theorem d_LT_put_34 : decode b_LT_put 34 = .ok (.getfield 23, 3) := by decide +kernel
theorem d_LT_put_37 : decode b_LT_put 37 = .ok (.iload_n 1, 1) := by decide +kernel
theorem d_LT_put_38 : decode b_LT_put 38 = .ok (.iload 6, 2) := by decide +kernel
theorem d_LT_put_40 : decode b_LT_put 40 = .ok (.bastore, 1) := by decide +kernel
theorem d_LT_put_41 : decode b_LT_put 41 = .ok (.return_, 1) := by decide +kernel
theorem d_LT_drop_0 : decode b_LT_drop 0 = .ok (.aload_n 0, 1) := by decide +kernel
theorem d_LT_drop_1 : decode b_LT_drop 1 = .ok (.iload_n 1, 1) := by decide +kernel
theorem d_LT_drop_2 : decode b_LT_drop 2 = .ok (.invokevirtual 26, 3) := by decide +kernel
theorem d_LT_drop_5 : decode b_LT_drop 5 = .ok (.ifCond .eq 10, 3) := by decide +kernel
theorem d_LT_drop_8 : decode b_LT_drop 8 = .ok (.aload_n 0, 1) := by decide +kernel
theorem d_LT_drop_9 : decode b_LT_drop 9 = .ok (.getfield 9, 3) := by decide +kernel
theorem d_LT_drop_12 : decode b_LT_drop 12 = .ok (.iload_n 1, 1) := by decide +kernel
theorem d_LT_drop_13 : decode b_LT_drop 13 = .ok (.lconst 0, 1) := by decide +kernel
theorem d_LT_drop_14 : decode b_LT_drop 14 = .ok (.lastore, 1) := by decide +kernel
theorem d_LT_drop_15 : decode b_LT_drop 15 = .ok (.return_, 1) := by decide +kernel
theorem d_LT_makeThere_0 : decode b_LT_makeThere 0 = .ok (.aload_n 0, 1) := by decide +kernel
theorem d_LT_makeThere_1 : decode b_LT_makeThere 1 = .ok (.iload_n 1, 1) := by decide +kernel
theorem d_LT_makeThere_2 : decode b_LT_makeThere 2 = .ok (.invokevirtual 26, 3) := by decide +kernel
theorem d_LT_makeThere_5 : decode b_LT_makeThere 5 = .ok (.ifCond .eq 10, 3) := by decide +kernel
theorem d_LT_makeThere_8 : decode b_LT_makeThere 8 = .ok (.aload_n 0, 1) := by decide +kernel
theorem d_LT_makeThere_9 : decode b_LT_makeThere 9 = .ok (.getfield 23, 3) := by decide +kernel
theorem d_LT_makeThere_12 : decode b_LT_makeThere 12 = .ok (.iload_n 1, 1) := by decide +kernel
theorem d_LT_makeThere_13 : decode b_LT_makeThere 13 = .ok (.iconst 0, 1) := by decide +kernel
theorem d_LT_makeThere_14 : decode b_LT_makeThere 14 = .ok (.bastore, 1) := by decide +kernel
theorem d_LT_makeThere_15 : decode b_LT_makeThere 15 = .ok (.return_, 1) := by decide +kernel
theorem d_LT_contentAt_0 : decode b_LT_contentAt 0 = .ok (.aload_n 0, 1) := by decide +kernel
theorem d_LT_contentAt_1 : decode b_LT_contentAt 1 = .ok (.iload_n 1, 1) := by decide +kernel
theorem d_LT_contentAt_2 : decode b_LT_contentAt 2 = .ok (.invokevirtual 26, 3) := by decide +kernel
theorem d_LT_contentAt_5 : decode b_LT_contentAt 5 = .ok (.ifCond .eq 12, 3) := by decide +kernel
theorem d_LT_contentAt_8 : decode b_LT_contentAt 8 = .ok (.aload_n 0, 1) := by decide +kernel
theorem d_LT_contentAt_9 : decode b_LT_contentAt 9 = .ok (.getfield 9, 3) := by decide +kernel
theorem d_LT_contentAt_12 : decode b_LT_contentAt 12 = .ok (.iload_n 1, 1) := by decide +kernel
theorem d_LT_contentAt_13 : decode b_LT_contentAt 13 = .ok (.laload, 1) := by decide +kernel
theorem d_LT_contentAt_14 : decode b_LT_contentAt 14 = .ok (.goto 4, 3) := by decide +kernel
theorem d_LT_contentAt_17 : decode b_LT_contentAt 17 = .ok (.lconst 0, 1) := by decide +kernel
theorem d_LT_contentAt_18 : decode b_LT_contentAt 18 = .ok (.lreturn, 1) := by decide +kernel
theorem d_LT_storedIn_0 : decode b_LT_storedIn 0 = .ok (.aload_n 0, 1) := by decide +kernel
theorem d_LT_storedIn_1 : decode b_LT_storedIn 1 = .ok (.iload_n 1, 1) := by decide +kernel
theorem d_LT_storedIn_2 : decode b_LT_storedIn 2 = .ok (.invokevirtual 30, 3) := by decide +kernel
theorem d_LT_storedIn_5 : decode b_LT_storedIn 5 = .ok (.ifCond .eq 7, 3) := by decide +kernel
theorem d_LT_storedIn_8 : decode b_LT_storedIn 8 = .ok (.lconst 0, 1) := by decide +kernel
theorem d_LT_storedIn_9 : decode b_LT_storedIn 9 = .ok (.goto 8, 3) := by decide +kernel
theorem d_LT_storedIn_12 : decode b_LT_storedIn 12 = .ok (.aload_n 0, 1) := by decide +kernel
theorem d_LT_storedIn_13 : decode b_LT_storedIn 13 = .ok (.iload_n 1, 1) := by decide +kernel
theorem d_LT_storedIn_14 : decode b_LT_storedIn 14 = .ok (.invokevirtual 33, 3) := by decide +kernel
theorem d_LT_storedIn_17 : decode b_LT_storedIn 17 = .ok (.lreturn, 1) := by decide +kernel
theorem d_LT_stepAt_0 : decode b_LT_stepAt 0 = .ok (.aload_n 0, 1) := by decide +kernel
theorem d_LT_stepAt_1 : decode b_LT_stepAt 1 = .ok (.iload_n 1, 1) := by decide +kernel
theorem d_LT_stepAt_2 : decode b_LT_stepAt 2 = .ok (.invokevirtual 26, 3) := by decide +kernel
theorem d_LT_stepAt_5 : decode b_LT_stepAt 5 = .ok (.ifCond .eq 12, 3) := by decide +kernel
theorem d_LT_stepAt_8 : decode b_LT_stepAt 8 = .ok (.aload_n 0, 1) := by decide +kernel
theorem d_LT_stepAt_9 : decode b_LT_stepAt 9 = .ok (.getfield 15, 3) := by decide +kernel
theorem d_LT_stepAt_12 : decode b_LT_stepAt 12 = .ok (.iload_n 1, 1) := by decide +kernel
theorem d_LT_stepAt_13 : decode b_LT_stepAt 13 = .ok (.iaload, 1) := by decide +kernel
theorem d_LT_stepAt_14 : decode b_LT_stepAt 14 = .ok (.goto 4, 3) := by decide +kernel
theorem d_LT_stepAt_17 : decode b_LT_stepAt 17 = .ok (.iconst (-1), 1) := by decide +kernel
theorem d_LT_stepAt_18 : decode b_LT_stepAt 18 = .ok (.ireturn, 1) := by decide +kernel
theorem d_LT_isOfStep_0 : decode b_LT_isOfStep 0 = .ok (.aload_n 0, 1) := by decide +kernel
theorem d_LT_isOfStep_1 : decode b_LT_isOfStep 1 = .ok (.iload_n 1, 1) := by decide +kernel
theorem d_LT_isOfStep_2 : decode b_LT_isOfStep 2 = .ok (.invokevirtual 26, 3) := by decide +kernel
theorem d_LT_isOfStep_5 : decode b_LT_isOfStep 5 = .ok (.ifCond .eq 17, 3) := by decide +kernel
theorem d_LT_isOfStep_8 : decode b_LT_isOfStep 8 = .ok (.aload_n 0, 1) := by decide +kernel
theorem d_LT_isOfStep_9 : decode b_LT_isOfStep 9 = .ok (.getfield 15, 3) := by decide +kernel
theorem d_LT_isOfStep_12 : decode b_LT_isOfStep 12 = .ok (.iload_n 1, 1) := by decide +kernel
theorem d_LT_isOfStep_13 : decode b_LT_isOfStep 13 = .ok (.iaload, 1) := by decide +kernel
theorem d_LT_isOfStep_14 : decode b_LT_isOfStep 14 = .ok (.iload_n 2, 1) := by decide +kernel
theorem d_LT_isOfStep_15 : decode b_LT_isOfStep 15 = .ok (.if_icmp .ne 7, 3) := by decide +kernel
theorem d_LT_isOfStep_18 : decode b_LT_isOfStep 18 = .ok (.iconst 1, 1) := by decide +kernel
theorem d_LT_isOfStep_19 : decode b_LT_isOfStep 19 = .ok (.goto 4, 3) := by decide +kernel
theorem d_LT_isOfStep_22 : decode b_LT_isOfStep 22 = .ok (.iconst 0, 1) := by decide +kernel
theorem d_LT_isOfStep_23 : decode b_LT_isOfStep 23 = .ok (.ireturn, 1) := by decide +kernel
theorem d_LT_isExecutable_0 : decode b_LT_isExecutable 0 = .ok (.aload_n 0, 1) := by decide +kernel
theorem d_LT_isExecutable_1 : decode b_LT_isExecutable 1 = .ok (.iload_n 1, 1) := by decide +kernel
theorem d_LT_isExecutable_2 : decode b_LT_isExecutable 2 = .ok (.invokevirtual 26, 3) := by decide +kernel
theorem d_LT_isExecutable_5 : decode b_LT_isExecutable 5 = .ok (.ifCond .eq 16, 3) := by decide +kernel
theorem d_LT_isExecutable_8 : decode b_LT_isExecutable 8 = .ok (.aload_n 0, 1) := by decide +kernel
theorem d_LT_isExecutable_9 : decode b_LT_isExecutable 9 = .ok (.getfield 19, 3) := by decide +kernel
theorem d_LT_isExecutable_12 : decode b_LT_isExecutable 12 = .ok (.iload_n 1, 1) := by decide +kernel
theorem d_LT_isExecutable_13 : decode b_LT_isExecutable 13 = .ok (.baload, 1) := by decide +kernel
theorem d_LT_isExecutable_14 : decode b_LT_isExecutable 14 = .ok (.ifCond .eq 7, 3) := by decide +kernel
theorem d_LT_isExecutable_17 : decode b_LT_isExecutable 17 = .ok (.iconst 1, 1) := by decide +kernel
theorem d_LT_isExecutable_18 : decode b_LT_isExecutable 18 = .ok (.goto 4, 3) := by decide +kernel
theorem d_LT_isExecutable_21 : decode b_LT_isExecutable 21 = .ok (.iconst 0, 1) := by decide +kernel
theorem d_LT_isExecutable_22 : decode b_LT_isExecutable 22 = .ok (.ireturn, 1) := by decide +kernel
theorem d_LT_isLazy_0 : decode b_LT_isLazy 0 = .ok (.aload_n 0, 1) := by decide +kernel
theorem d_LT_isLazy_1 : decode b_LT_isLazy 1 = .ok (.iload_n 1, 1) := by decide +kernel
theorem d_LT_isLazy_2 : decode b_LT_isLazy 2 = .ok (.invokevirtual 26, 3) := by decide +kernel
theorem d_LT_isLazy_5 : decode b_LT_isLazy 5 = .ok (.ifCond .eq 16, 3) := by decide +kernel
theorem d_LT_isLazy_8 : decode b_LT_isLazy 8 = .ok (.aload_n 0, 1) := by decide +kernel
theorem d_LT_isLazy_9 : decode b_LT_isLazy 9 = .ok (.getfield 23, 3) := by decide +kernel
theorem d_LT_isLazy_12 : decode b_LT_isLazy 12 = .ok (.iload_n 1, 1) := by decide +kernel
theorem d_LT_isLazy_13 : decode b_LT_isLazy 13 = .ok (.baload, 1) := by decide +kernel
theorem d_LT_isLazy_14 : decode b_LT_isLazy 14 = .ok (.ifCond .eq 7, 3) := by decide +kernel
theorem d_LT_isLazy_17 : decode b_LT_isLazy 17 = .ok (.iconst 1, 1) := by decide +kernel
theorem d_LT_isLazy_18 : decode b_LT_isLazy 18 = .ok (.goto 4, 3) := by decide +kernel
theorem d_LT_isLazy_21 : decode b_LT_isLazy 21 = .ok (.iconst 0, 1) := by decide +kernel
theorem d_LT_isLazy_22 : decode b_LT_isLazy 22 = .ok (.ireturn, 1) := by decide +kernel
theorem d_CS_init_0 : decode b_CS_init 0 = .ok (.aload_n 0, 1) := by decide +kernel
theorem d_CS_init_1 : decode b_CS_init 1 = .ok (.invokespecial 3, 3) := by decide +kernel
theorem d_CS_init_4 : decode b_CS_init 4 = .ok (.aload_n 0, 1) := by decide +kernel
theorem d_CS_init_5 : decode b_CS_init 5 = .ok (.bipush 60, 2) := by decide +kernel
theorem d_CS_init_7 : decode b_CS_init 7 = .ok (.newarray .long, 2) := by decide +kernel
theorem d_CS_init_9 : decode b_CS_init 9 = .ok (.putfield 9, 3) := by decide +kernel
theorem d_CS_init_12 : decode b_CS_init 12 = .ok (.aload_n 0, 1) := by decide +kernel
theorem d_CS_init_13 : decode b_CS_init 13 = .ok (.iconst 0, 1) := by decide +kernel
theorem d_CS_init_14 : decode b_CS_init 14 = .ok (.putfield 15, 3) := by decide +kernel
theorem d_CS_init_17 : decode b_CS_init 17 = .ok (.return_, 1) := by decide +kernel
theorem d_CS_has_0 : decode b_CS_has 0 = .ok (.aload_n 0, 1) := by decide +kernel
theorem d_CS_has_1 : decode b_CS_has 1 = .ok (.getfield 9, 3) := by decide +kernel
theorem d_CS_has_4 : decode b_CS_has 4 = .ok (.aload_n 0, 1) := by decide +kernel
theorem d_CS_has_5 : decode b_CS_has 5 = .ok (.getfield 15, 3) := by decide +kernel
theorem d_CS_has_8 : decode b_CS_has 8 = .ok (.lload_n 1, 1) := by decide +kernel
theorem d_CS_has_9 : decode b_CS_has 9 = .ok (.invokestatic 19, 3) := by decide +kernel
theorem d_CS_has_12 : decode b_CS_has 12 = .ok (.iconst (-1), 1) := by decide +kernel
theorem d_CS_has_13 : decode b_CS_has 13 = .ok (.if_icmp .eq 7, 3) := by decide +kernel
theorem d_CS_has_16 : decode b_CS_has 16 = .ok (.iconst 1, 1) := by decide +kernel
theorem d_CS_has_17 : decode b_CS_has 17 = .ok (.goto 4, 3) := by decide +kernel
theorem d_CS_has_20 : decode b_CS_has 20 = .ok (.iconst 0, 1) := by decide +kernel
theorem d_CS_has_21 : decode b_CS_has 21 = .ok (.ireturn, 1) := by decide +kernel
theorem d_CS_include_0 : decode b_CS_include 0 = .ok (.aload_n 0, 1) := by decide +kernel
theorem d_CS_include_1 : decode b_CS_include 1 = .ok (.lload_n 1, 1) := by decide +kernel
theorem d_CS_include_2 : decode b_CS_include 2 = .ok (.invokevirtual 23, 3) := by decide +kernel
theorem d_CS_include_5 : decode b_CS_include 5 = .ok (.ifCond .eq 5, 3) := by decide +kernel
theorem d_CS_include_8 : decode b_CS_include 8 = .ok (.iconst 1, 1) := by decide +kernel
theorem d_CS_include_9 : decode b_CS_include 9 = .ok (.ireturn, 1) := by decide +kernel
theorem d_CS_include_10 : decode b_CS_include 10 = .ok (.aload_n 0, 1) := by decide +kernel
theorem d_CS_include_11 : decode b_CS_include 11 = .ok (.getfield 15, 3) := by decide +kernel
theorem d_CS_include_14 : decode b_CS_include 14 = .ok (.bipush 60, 2) := by decide +kernel
theorem d_CS_include_16 : decode b_CS_include 16 = .ok (.if_icmp .lt 5, 3) := by decide +kernel
theorem d_CS_include_19 : decode b_CS_include 19 = .ok (.iconst 0, 1) := by decide +kernel
theorem d_CS_include_20 : decode b_CS_include 20 = .ok (.ireturn, 1) := by decide +kernel
theorem d_CS_include_21 : decode b_CS_include 21 = .ok (.aload_n 0, 1) := by decide +kernel
theorem d_CS_include_22 : decode b_CS_include 22 = .ok (.getfield 9, 3) := by decide +kernel
theorem d_CS_include_25 : decode b_CS_include 25 = .ok (.aload_n 0, 1) := by decide +kernel
theorem d_CS_include_26 : decode b_CS_include 26 = .ok (.getfield 15, 3) := by decide +kernel
theorem d_CS_include_29 : decode b_CS_include 29 = .ok (.lload_n 1, 1) := by decide +kernel
theorem d_CS_include_30 : decode b_CS_include 30 = .ok (.lastore, 1) := by decide +kernel
theorem d_CS_include_31 : decode b_CS_include 31 = .ok (.aload_n 0, 1) := by decide +kernel
theorem d_CS_include_32 : decode b_CS_include 32 = .ok (.dup, 1) := by decide +kernel
theorem d_CS_include_33 : decode b_CS_include 33 = .ok (.getfield 15, 3) := by decide +kernel
theorem d_CS_include_36 : decode b_CS_include 36 = .ok (.iconst 1, 1) := by decide +kernel
theorem d_CS_include_37 : decode b_CS_include 37 = .ok (.iadd, 1) := by decide +kernel
theorem d_CS_include_38 : decode b_CS_include 38 = .ok (.putfield 15, 3) := by decide +kernel
theorem d_CS_include_41 : decode b_CS_include 41 = .ok (.iconst 1, 1) := by decide +kernel
theorem d_CS_include_42 : decode b_CS_include 42 = .ok (.ireturn, 1) := by decide +kernel
theorem d_CS_exclude_0 : decode b_CS_exclude 0 = .ok (.aload_n 0, 1) := by decide +kernel
theorem d_CS_exclude_1 : decode b_CS_exclude 1 = .ok (.getfield 9, 3) := by decide +kernel
theorem d_CS_exclude_4 : decode b_CS_exclude 4 = .ok (.aload_n 0, 1) := by decide +kernel
theorem d_CS_exclude_5 : decode b_CS_exclude 5 = .ok (.getfield 15, 3) := by decide +kernel
theorem d_CS_exclude_8 : decode b_CS_exclude 8 = .ok (.lload_n 1, 1) := by decide +kernel
theorem d_CS_exclude_9 : decode b_CS_exclude 9 = .ok (.invokestatic 19, 3) := by decide +kernel
theorem d_CS_exclude_12 : decode b_CS_exclude 12 = .ok (.istore_n 3, 1) := by decide +kernel
theorem d_CS_exclude_13 : decode b_CS_exclude 13 = .ok (.iload_n 3, 1) := by decide +kernel
theorem d_CS_exclude_14 : decode b_CS_exclude 14 = .ok (.ifCond .lt 36, 3) := by decide +kernel
theorem d_CS_exclude_17 : decode b_CS_exclude 17 = .ok (.iload_n 3, 1) := by decide +kernel
theorem d_CS_exclude_18 : decode b_CS_exclude 18 = .ok (.aload_n 0, 1) := by decide +kernel
theorem d_CS_exclude_19 : decode b_CS_exclude 19 = .ok (.getfield 15, 3) := by decide +kernel
theorem d_CS_exclude_22 : decode b_CS_exclude 22 = .ok (.if_icmp .ge 28, 3) := by decide +kernel
theorem d_CS_exclude_25 : decode b_CS_exclude 25 = .ok (.aload_n 0, 1) := by decide +kernel
theorem d_CS_exclude_26 : decode b_CS_exclude 26 = .ok (.dup, 1) := by decide +kernel
theorem d_CS_exclude_27 : decode b_CS_exclude 27 = .ok (.getfield 15, 3) := by decide +kernel
theorem d_CS_exclude_30 : decode b_CS_exclude 30 = .ok (.iconst 1, 1) := by decide +kernel
theorem d_CS_exclude_31 : decode b_CS_exclude 31 = .ok (.isub, 1) := by decide +kernel
theorem d_CS_exclude_32 : decode b_CS_exclude 32 = .ok (.putfield 15, 3) := by decide +kernel
theorem d_CS_exclude_35 : decode b_CS_exclude 35 = .ok (.aload_n 0, 1) := by decide +kernel
theorem d_CS_exclude_36 : decode b_CS_exclude 36 = .ok (.getfield 9, 3) := by decide +kernel
theorem d_CS_exclude_39 : decode b_CS_exclude 39 = .ok (.iload_n 3, 1) := by decide +kernel
theorem d_CS_exclude_40 : decode b_CS_exclude 40 = .ok (.aload_n 0, 1) := by decide +kernel
theorem d_CS_exclude_41 : decode b_CS_exclude 41 = .ok (.getfield 9, 3) := by decide +kernel
theorem d_CS_exclude_44 : decode b_CS_exclude 44 = .ok (.aload_n 0, 1) := by decide +kernel
theorem d_CS_exclude_45 : decode b_CS_exclude 45 = .ok (.getfield 15, 3) := by decide +kernel
theorem d_CS_exclude_48 : decode b_CS_exclude 48 = .ok (.laload, 1) := by decide +kernel
theorem d_CS_exclude_49 : decode b_CS_exclude 49 = .ok (.lastore, 1) := by decide +kernel
theorem d_CS_exclude_50 : decode b_CS_exclude 50 = .ok (.return_, 1) := by decide +kernel
theorem d_HB_init_0 : decode b_HB_init 0 = .ok (.aload_n 0, 1) := by decide +kernel
theorem d_HB_init_1 : decode b_HB_init 1 = .ok (.invokespecial 3, 3) := by decide +kernel
theorem d_HB_init_4 : decode b_HB_init 4 = .ok (.aload_n 0, 1) := by decide +kernel
theorem d_HB_init_5 : decode b_HB_init 5 = .ok (.bipush 100, 2) := by decide +kernel
theorem d_HB_init_7 : decode b_HB_init 7 = .ok (.newarray .long, 2) := by decide +kernel
theorem d_HB_init_9 : decode b_HB_init 9 = .ok (.putfield 9, 3) := by decide +kernel
theorem d_HB_init_12 : decode b_HB_init 12 = .ok (.aload_n 0, 1) := by decide +kernel
theorem d_HB_init_13 : decode b_HB_init 13 = .ok (.iconst 0, 1) := by decide +kernel
theorem d_HB_init_14 : decode b_HB_init 14 = .ok (.putfield 15, 3) := by decide +kernel
theorem d_HB_init_17 : decode b_HB_init 17 = .ok (.return_, 1) := by decide +kernel
theorem d_HB_isFull_0 : decode b_HB_isFull 0 = .ok (.aload_n 0, 1) := by decide +kernel
theorem d_HB_isFull_1 : decode b_HB_isFull 1 = .ok (.getfield 15, 3) := by decide +kernel
theorem d_HB_isFull_4 : decode b_HB_isFull 4 = .ok (.bipush 100, 2) := by decide +kernel
theorem d_HB_isFull_6 : decode b_HB_isFull 6 = .ok (.if_icmp .lt 7, 3) := by decide +kernel
theorem d_HB_isFull_9 : decode b_HB_isFull 9 = .ok (.iconst 1, 1) := by decide +kernel
theorem d_HB_isFull_10 : decode b_HB_isFull 10 = .ok (.goto 4, 3) := by decide +kernel
theorem d_HB_isFull_13 : decode b_HB_isFull 13 = .ok (.iconst 0, 1) := by decide +kernel
theorem d_HB_isFull_14 : decode b_HB_isFull 14 = .ok (.ireturn, 1) := by decide +kernel
theorem d_HB_take_0 : decode b_HB_take 0 = .ok (.aload_n 0, 1) := by decide +kernel
theorem d_HB_take_1 : decode b_HB_take 1 = .ok (.invokevirtual 19, 3) := by decide +kernel
theorem d_HB_take_4 : decode b_HB_take 4 = .ok (.ifCond .eq 5, 3) := by decide +kernel
theorem d_HB_take_7 : decode b_HB_take 7 = .ok (.iconst (-1), 1) := by decide +kernel
theorem d_HB_take_8 : decode b_HB_take 8 = .ok (.ireturn, 1) := by decide +kernel
theorem d_HB_take_9 : decode b_HB_take 9 = .ok (.aload_n 0, 1) := by decide +kernel
theorem d_HB_take_10 : decode b_HB_take 10 = .ok (.getfield 9, 3) := by decide +kernel
theorem d_HB_take_13 : decode b_HB_take 13 = .ok (.aload_n 0, 1) := by decide +kernel
theorem d_HB_take_14 : decode b_HB_take 14 = .ok (.getfield 15, 3) := by decide +kernel
theorem d_HB_take_17 : decode b_HB_take 17 = .ok (.lload_n 1, 1) := by decide +kernel
theorem d_HB_take_18 : decode b_HB_take 18 = .ok (.lastore, 1) := by decide +kernel
theorem d_HB_take_19 : decode b_HB_take 19 = .ok (.aload_n 0, 1) := by decide +kernel
theorem d_HB_take_20 : decode b_HB_take 20 = .ok (.dup, 1) := by decide +kernel
theorem d_HB_take_21 : decode b_HB_take 21 = .ok (.getfield 15, 3) := by decide +kernel
theorem d_HB_take_24 : decode b_HB_take 24 = .ok (.iconst 1, 1) := by decide +kernel
theorem d_HB_take_25 : decode b_HB_take 25 = .ok (.iadd, 1) := by decide +kernel
theorem d_HB_take_26 : decode b_HB_take 26 = .ok (.putfield 15, 3) := by decide +kernel
theorem d_HB_take_29 : decode b_HB_take 29 = .ok (.aload_n 0, 1) := by decide +kernel
theorem d_HB_take_30 : decode b_HB_take 30 = .ok (.getfield 15, 3) := by decide +kernel
theorem d_HB_take_33 : decode b_HB_take 33 = .ok (.iconst 1, 1) := by decide +kernel
theorem d_HB_take_34 : decode b_HB_take 34 = .ok (.isub, 1) := by decide +kernel
theorem d_HB_take_35 : decode b_HB_take 35 = .ok (.ireturn, 1) := by decide +kernel
theorem d_HB_has_0 : decode b_HB_has 0 = .ok (.iload_n 1, 1) := by decide +kernel
theorem d_HB_has_1 : decode b_HB_has 1 = .ok (.ifCond .lt 26, 3) := by decide +kernel
theorem d_HB_has_4 : decode b_HB_has 4 = .ok (.iload_n 1, 1) := by decide +kernel
theorem d_HB_has_5 : decode b_HB_has 5 = .ok (.aload_n 0, 1) := by decide +kernel
theorem d_HB_has_6 : decode b_HB_has 6 = .ok (.getfield 15, 3) := by decide +kernel
theorem d_HB_has_9 : decode b_HB_has 9 = .ok (.if_icmp .ge 18, 3) := by decide +kernel
theorem d_HB_has_12 : decode b_HB_has 12 = .ok (.aload_n 0, 1) := by decide +kernel
theorem d_HB_has_13 : decode b_HB_has 13 = .ok (.getfield 9, 3) := by decide +kernel
theorem d_HB_has_16 : decode b_HB_has 16 = .ok (.iload_n 1, 1) := by decide +kernel
theorem d_HB_has_17 : decode b_HB_has 17 = .ok (.laload, 1) := by decide +kernel
theorem d_HB_has_18 : decode b_HB_has 18 = .ok (.lconst 0, 1) := by decide +kernel
theorem d_HB_has_19 : decode b_HB_has 19 = .ok (.lcmp, 1) := by decide +kernel
theorem d_HB_has_20 : decode b_HB_has 20 = .ok (.ifCond .eq 7, 3) := by decide +kernel
theorem d_HB_has_23 : decode b_HB_has 23 = .ok (.iconst 1, 1) := by decide +kernel
theorem d_HB_has_24 : decode b_HB_has 24 = .ok (.goto 4, 3) := by decide +kernel
theorem d_HB_has_27 : decode b_HB_has 27 = .ok (.iconst 0, 1) := by decide +kernel
theorem d_HB_has_28 : decode b_HB_has 28 = .ok (.ireturn, 1) := by decide +kernel
theorem d_HB_contentOf_0 : decode b_HB_contentOf 0 = .ok (.aload_n 0, 1) := by decide +kernel
theorem d_HB_contentOf_1 : decode b_HB_contentOf 1 = .ok (.iload_n 1, 1) := by decide +kernel
theorem d_HB_contentOf_2 : decode b_HB_contentOf 2 = .ok (.invokevirtual 23, 3) := by decide +kernel
theorem d_HB_contentOf_5 : decode b_HB_contentOf 5 = .ok (.ifCond .eq 12, 3) := by decide +kernel
theorem d_HB_contentOf_8 : decode b_HB_contentOf 8 = .ok (.aload_n 0, 1) := by decide +kernel
theorem d_HB_contentOf_9 : decode b_HB_contentOf 9 = .ok (.getfield 9, 3) := by decide +kernel
theorem d_HB_contentOf_12 : decode b_HB_contentOf 12 = .ok (.iload_n 1, 1) := by decide +kernel
theorem d_HB_contentOf_13 : decode b_HB_contentOf 13 = .ok (.laload, 1) := by decide +kernel
theorem d_HB_contentOf_14 : decode b_HB_contentOf 14 = .ok (.goto 4, 3) := by decide +kernel
theorem d_HB_contentOf_17 : decode b_HB_contentOf 17 = .ok (.lconst 0, 1) := by decide +kernel
theorem d_HB_contentOf_18 : decode b_HB_contentOf 18 = .ok (.lreturn, 1) := by decide +kernel
theorem d_HB_release_0 : decode b_HB_release 0 = .ok (.aload_n 0, 1) := by decide +kernel
theorem d_HB_release_1 : decode b_HB_release 1 = .ok (.iload_n 1, 1) := by decide +kernel
theorem d_HB_release_2 : decode b_HB_release 2 = .ok (.invokevirtual 23, 3) := by decide +kernel
theorem d_HB_release_5 : decode b_HB_release 5 = .ok (.ifCond .ne 5, 3) := by decide +kernel
theorem d_HB_release_8 : decode b_HB_release 8 = .ok (.iconst 0, 1) := by decide +kernel
theorem d_HB_release_9 : decode b_HB_release 9 = .ok (.ireturn, 1) := by decide +kernel
theorem d_HB_release_10 : decode b_HB_release 10 = .ok (.aload_n 0, 1) := by decide +kernel
theorem d_HB_release_11 : decode b_HB_release 11 = .ok (.getfield 9, 3) := by decide +kernel
theorem d_HB_release_14 : decode b_HB_release 14 = .ok (.iload_n 1, 1) := by decide +kernel
theorem d_HB_release_15 : decode b_HB_release 15 = .ok (.lconst 0, 1) := by decide +kernel
theorem d_HB_release_16 : decode b_HB_release 16 = .ok (.lastore, 1) := by decide +kernel
theorem d_HB_release_17 : decode b_HB_release 17 = .ok (.iconst 1, 1) := by decide +kernel
theorem d_HB_release_18 : decode b_HB_release 18 = .ok (.ireturn, 1) := by decide +kernel
theorem d_DM_init_0 : decode b_DM_init 0 = .ok (.aload_n 0, 1) := by decide +kernel
theorem d_DM_init_1 : decode b_DM_init 1 = .ok (.invokespecial 3, 3) := by decide +kernel
theorem d_DM_init_4 : decode b_DM_init 4 = .ok (.aload_n 0, 1) := by decide +kernel
theorem d_DM_init_5 : decode b_DM_init 5 = .ok (.bipush 48, 2) := by decide +kernel
theorem d_DM_init_7 : decode b_DM_init 7 = .ok (.newarray .boolean, 2) := by decide +kernel
theorem d_DM_init_9 : decode b_DM_init 9 = .ok (.putfield 9, 3) := by decide +kernel
theorem d_DM_init_12 : decode b_DM_init 12 = .ok (.return_, 1) := by decide +kernel
theorem d_DM_get_0 : decode b_DM_get 0 = .ok (.iload_n 1, 1) := by decide +kernel
theorem d_DM_get_1 : decode b_DM_get 1 = .ok (.invokestatic 15, 3) := by decide +kernel
theorem d_DM_get_4 : decode b_DM_get 4 = .ok (.ifCond .eq 28, 3) := by decide +kernel
theorem d_DM_get_7 : decode b_DM_get 7 = .ok (.iload_n 2, 1) := by decide +kernel
theorem d_DM_get_8 : decode b_DM_get 8 = .ok (.invokestatic 19, 3) := by decide +kernel
theorem d_DM_get_11 : decode b_DM_get 11 = .ok (.ifCond .eq 21, 3) := by decide +kernel
theorem d_DM_get_14 : decode b_DM_get 14 = .ok (.aload_n 0, 1) := by decide +kernel
theorem d_DM_get_15 : decode b_DM_get 15 = .ok (.getfield 9, 3) := by decide +kernel
theorem d_DM_get_18 : decode b_DM_get 18 = .ok (.iload_n 2, 1) := by decide +kernel
theorem d_DM_get_19 : decode b_DM_get 19 = .ok (.bipush 12, 2) := by decide +kernel
theorem d_DM_get_21 : decode b_DM_get 21 = .ok (.imul, 1) := by decide +kernel
theorem d_DM_get_22 : decode b_DM_get 22 = .ok (.iload_n 1, 1) := by decide +kernel
theorem d_DM_get_23 : decode b_DM_get 23 = .ok (.iadd, 1) := by decide +kernel
theorem d_DM_get_24 : decode b_DM_get 24 = .ok (.baload, 1) := by decide +kernel
theorem d_DM_get_25 : decode b_DM_get 25 = .ok (.ifCond .eq 7, 3) := by decide +kernel
theorem d_DM_get_28 : decode b_DM_get 28 = .ok (.iconst 1, 1) := by decide +kernel
theorem d_DM_get_29 : decode b_DM_get 29 = .ok (.goto 4, 3) := by decide +kernel
theorem d_DM_get_32 : decode b_DM_get 32 = .ok (.iconst 0, 1) := by decide +kernel
theorem d_DM_get_33 : decode b_DM_get 33 = .ok (.ireturn, 1) := by decide +kernel
theorem d_DM_set_0 : decode b_DM_set 0 = .ok (.iload_n 1, 1) := by decide +kernel
theorem d_DM_set_1 : decode b_DM_set 1 = .ok (.invokestatic 15, 3) := by decide +kernel
theorem d_DM_set_4 : decode b_DM_set 4 = .ok (.ifCond .eq 22, 3) := by decide +kernel
theorem d_DM_set_7 : decode b_DM_set 7 = .ok (.iload_n 2, 1) := by decide +kernel
theorem d_DM_set_8 : decode b_DM_set 8 = .ok (.invokestatic 19, 3) := by decide +kernel
theorem d_DM_set_11 : decode b_DM_set 11 = .ok (.ifCond .eq 15, 3) := by decide +kernel
theorem d_DM_set_14 : decode b_DM_set 14 = .ok (.aload_n 0, 1) := by decide +kernel
theorem d_DM_set_15 : decode b_DM_set 15 = .ok (.getfield 9, 3) := by decide +kernel
theorem d_DM_set_18 : decode b_DM_set 18 = .ok (.iload_n 2, 1) := by decide +kernel
theorem d_DM_set_19 : decode b_DM_set 19 = .ok (.bipush 12, 2) := by decide +kernel
theorem d_DM_set_21 : decode b_DM_set 21 = .ok (.imul, 1) := by decide +kernel
theorem d_DM_set_22 : decode b_DM_set 22 = .ok (.iload_n 1, 1) := by decide +kernel
theorem d_DM_set_23 : decode b_DM_set 23 = .ok (.iadd, 1) := by decide +kernel
theorem d_DM_set_24 : decode b_DM_set 24 = .ok (.iload_n 3, 1) := by decide +kernel
theorem d_DM_set_25 : decode b_DM_set 25 = .ok (.bastore, 1) := by decide +kernel
theorem d_DM_set_26 : decode b_DM_set 26 = .ok (.return_, 1) := by decide +kernel
end
section
theorem d_OS_init_0 : decode b_OS_init 0 = .ok (.aload_n 0, 1) := by decide +kernel
theorem d_OS_init_1 : decode b_OS_init 1 = .ok (.invokespecial 3, 3) := by decide +kernel
theorem d_OS_init_4 : decode b_OS_init 4 = .ok (.aload_n 0, 1) := by decide +kernel
theorem d_OS_init_5 : decode b_OS_init 5 = .ok (.new 9, 3) := by decide +kernel
theorem d_OS_init_8 : decode b_OS_init 8 = .ok (.dup, 1) := by decide +kernel
theorem d_OS_init_9 : decode b_OS_init 9 = .ok (.invokespecial 11, 3) := by decide +kernel
theorem d_OS_init_12 : decode b_OS_init 12 = .ok (.putfield 12, 3) := by decide +kernel
theorem d_OS_init_15 : decode b_OS_init 15 = .ok (.aload_n 0, 1) := by decide +kernel
theorem d_OS_init_16 : decode b_OS_init 16 = .ok (.new 16, 3) := by decide +kernel
theorem d_OS_init_19 : decode b_OS_init 19 = .ok (.dup, 1) := by decide +kernel
theorem d_OS_init_20 : decode b_OS_init 20 = .ok (.invokespecial 18, 3) := by decide +kernel
theorem d_OS_init_23 : decode b_OS_init 23 = .ok (.putfield 19, 3) := by decide +kernel
theorem d_OS_init_26 : decode b_OS_init 26 = .ok (.aload_n 0, 1) := by decide +kernel
theorem d_OS_init_27 : decode b_OS_init 27 = .ok (.new 23, 3) := by decide +kernel
theorem d_OS_init_30 : decode b_OS_init 30 = .ok (.dup, 1) := by decide +kernel
theorem d_OS_init_31 : decode b_OS_init 31 = .ok (.invokespecial 25, 3) := by decide +kernel
theorem d_OS_init_34 : decode b_OS_init 34 = .ok (.putfield 26, 3) := by decide +kernel
theorem d_OS_init_37 : decode b_OS_init 37 = .ok (.aload_n 0, 1) := by decide +kernel
theorem d_OS_init_38 : decode b_OS_init 38 = .ok (.new 23, 3) := by decide +kernel
theorem d_OS_init_41 : decode b_OS_init 41 = .ok (.dup, 1) := by decide +kernel
theorem d_OS_init_42 : decode b_OS_init 42 = .ok (.invokespecial 25, 3) := by decide +kernel
theorem d_OS_init_45 : decode b_OS_init 45 = .ok (.putfield 30, 3) := by decide +kernel
theorem d_OS_init_48 : decode b_OS_init 48 = .ok (.aload_n 0, 1) := by decide +kernel
theorem d_OS_init_49 : decode b_OS_init 49 = .ok (.new 33, 3) := by decide +kernel
theorem d_OS_init_52 : decode b_OS_init 52 = .ok (.dup, 1) := by decide +kernel
theorem d_OS_init_53 : decode b_OS_init 53 = .ok (.invokespecial 35, 3) := by decide +kernel
theorem d_OS_init_56 : decode b_OS_init 56 = .ok (.putfield 36, 3) := by decide +kernel
theorem d_OS_init_59 : decode b_OS_init 59 = .ok (.aload_n 0, 1) := by decide +kernel
theorem d_OS_init_60 : decode b_OS_init 60 = .ok (.new 40, 3) := by decide +kernel
theorem d_OS_init_63 : decode b_OS_init 63 = .ok (.dup, 1) := by decide +kernel
theorem d_OS_init_64 : decode b_OS_init 64 = .ok (.invokespecial 42, 3) := by decide +kernel
theorem d_OS_init_67 : decode b_OS_init 67 = .ok (.putfield 43, 3) := by decide +kernel
theorem d_OS_init_70 : decode b_OS_init 70 = .ok (.aload_n 0, 1) := by decide +kernel
theorem d_OS_init_71 : decode b_OS_init 71 = .ok (.new 47, 3) := by decide +kernel
theorem d_OS_init_74 : decode b_OS_init 74 = .ok (.dup, 1) := by decide +kernel
theorem d_OS_init_75 : decode b_OS_init 75 = .ok (.invokespecial 49, 3) := by decide +kernel
theorem d_OS_init_78 : decode b_OS_init 78 = .ok (.putfield 50, 3) := by decide +kernel
theorem d_OS_init_81 : decode b_OS_init 81 = .ok (.aload_n 0, 1) := by decide +kernel
theorem d_OS_init_82 : decode b_OS_init 82 = .ok (.sipush 420, 3) := by decide +kernel
theorem d_OS_init_85 : decode b_OS_init 85 = .ok (.newarray .long, 2) := by decide +kernel
theorem d_OS_init_87 : decode b_OS_init 87 = .ok (.putfield 54, 3) := by decide +kernel
theorem d_OS_init_90 : decode b_OS_init 90 = .ok (.return_, 1) := by decide +kernel
theorem d_OS_path_0 : decode b_OS_path 0 = .ok (.aload_n 0, 1) := by decide +kernel
theorem d_OS_path_1 : decode b_OS_path 1 = .ok (.getfield 12, 3) := by decide +kernel
theorem d_OS_path_4 : decode b_OS_path 4 = .ok (.iload_n 1, 1) := by decide +kernel
theorem d_OS_path_5 : decode b_OS_path 5 = .ok (.invokevirtual 58, 3) := by decide +kernel
theorem d_OS_path_8 : decode b_OS_path 8 = .ok (.ireturn, 1) := by decide +kernel
theorem d_OS_begin_0 : decode b_OS_begin 0 = .ok (.iload_n 1, 1) := by decide +kernel
theorem d_OS_begin_1 : decode b_OS_begin 1 = .ok (.invokestatic 62, 3) := by decide +kernel
theorem d_OS_begin_4 : decode b_OS_begin 4 = .ok (.ifCond .eq 27, 3) := by decide +kernel
theorem d_OS_begin_7 : decode b_OS_begin 7 = .ok (.iload_n 2, 1) := by decide +kernel
theorem d_OS_begin_8 : decode b_OS_begin 8 = .ok (.invokestatic 66, 3) := by decide +kernel
theorem d_OS_begin_11 : decode b_OS_begin 11 = .ok (.ifCond .eq 20, 3) := by decide +kernel
theorem d_OS_begin_14 : decode b_OS_begin 14 = .ok (.iload_n 3, 1) := by decide +kernel
theorem d_OS_begin_15 : decode b_OS_begin 15 = .ok (.invokestatic 69, 3) := by decide +kernel
theorem d_OS_begin_18 : decode b_OS_begin 18 = .ok (.ifCond .eq 13, 3) := by decide +kernel
theorem d_OS_begin_21 : decode b_OS_begin 21 = .ok (.aload_n 0, 1) := by decide +kernel
theorem d_OS_begin_22 : decode b_OS_begin 22 = .ok (.getfield 19, 3) := by decide +kernel
theorem d_OS_begin_25 : decode b_OS_begin 25 = .ok (.invokevirtual 72, 3) := by decide +kernel
theorem d_OS_begin_28 : decode b_OS_begin 28 = .ok (.ifCond .eq 5, 3) := by decide +kernel
theorem d_OS_begin_31 : decode b_OS_begin 31 = .ok (.iconst (-1), 1) := by decide +kernel
theorem d_OS_begin_32 : decode b_OS_begin 32 = .ok (.ireturn, 1) := by decide +kernel
theorem d_OS_begin_33 : decode b_OS_begin 33 = .ok (.aload_n 0, 1) := by decide +kernel
theorem d_OS_begin_34 : decode b_OS_begin 34 = .ok (.getfield 19, 3) := by decide +kernel
theorem d_OS_begin_37 : decode b_OS_begin 37 = .ok (.iload_n 1, 1) := by decide +kernel
theorem d_OS_begin_38 : decode b_OS_begin 38 = .ok (.iload_n 2, 1) := by decide +kernel
theorem d_OS_begin_39 : decode b_OS_begin 39 = .ok (.invokevirtual 76, 3) := by decide +kernel
theorem d_OS_begin_42 : decode b_OS_begin 42 = .ok (.ifCond .eq 6, 3) := by decide +kernel
theorem d_OS_begin_45 : decode b_OS_begin 45 = .ok (.bipush (-2), 2) := by decide +kernel
theorem d_OS_begin_47 : decode b_OS_begin 47 = .ok (.ireturn, 1) := by decide +kernel
theorem d_OS_begin_48 : decode b_OS_begin 48 = .ok (.aload_n 0, 1) := by decide +kernel
theorem d_OS_begin_49 : decode b_OS_begin 49 = .ok (.getfield 19, 3) := by decide +kernel
theorem d_OS_begin_52 : decode b_OS_begin 52 = .ok (.iload_n 1, 1) := by decide +kernel
theorem d_OS_begin_53 : decode b_OS_begin 53 = .ok (.iload_n 2, 1) := by decide +kernel
theorem d_OS_begin_54 : decode b_OS_begin 54 = .ok (.iload_n 3, 1) := by decide +kernel
theorem d_OS_begin_55 : decode b_OS_begin 55 = .ok (.invokevirtual 80, 3) := by decide +kernel
theorem d_OS_begin_58 : decode b_OS_begin 58 = .ok (.ireturn, 1) := by decide +kernel
theorem d_OS_stage_0 : decode b_OS_stage 0 = .ok (.aload_n 0, 1) := by decide +kernel
theorem d_OS_stage_1 : decode b_OS_stage 1 = .ok (.getfield 19, 3) := by decide +kernel
theorem d_OS_stage_4 : decode b_OS_stage 4 = .ok (.iload_n 1, 1) := by decide +kernel
theorem d_OS_stage_5 : decode b_OS_stage 5 = .ok (.invokevirtual 84, 3) := by decide +kernel
theorem d_OS_stage_8 : decode b_OS_stage 8 = .ok (.ifCond .eq 20, 3) := by decide +kernel
theorem d_OS_stage_11 : decode b_OS_stage 11 = .ok (.aload_n 0, 1) := by decide +kernel
theorem d_OS_stage_12 : decode b_OS_stage 12 = .ok (.getfield 12, 3) := by decide +kernel
theorem d_OS_stage_15 : decode b_OS_stage 15 = .ok (.iload_n 2, 1) := by decide +kernel
theorem d_OS_stage_16 : decode b_OS_stage 16 = .ok (.invokevirtual 87, 3) := by decide +kernel
theorem d_OS_stage_19 : decode b_OS_stage 19 = .ok (.ifCond .eq 9, 3) := by decide +kernel
theorem d_OS_stage_22 : decode b_OS_stage 22 = .ok (.lload_n 3, 1) := by decide +kernel
theorem d_OS_stage_23 : decode b_OS_stage 23 = .ok (.lconst 0, 1) := by decide +kernel
theorem d_OS_stage_24 : decode b_OS_stage 24 = .ok (.lcmp, 1) := by decide +kernel
theorem d_OS_stage_25 : decode b_OS_stage 25 = .ok (.ifCond .ne 5, 3) := by decide +kernel
theorem d_OS_stage_28 : decode b_OS_stage 28 = .ok (.iconst (-1), 1) := by decide +kernel
theorem d_OS_stage_29 : decode b_OS_stage 29 = .ok (.ireturn, 1) := by decide +kernel
theorem d_OS_stage_30 : decode b_OS_stage 30 = .ok (.aload_n 0, 1) := by decide +kernel
theorem d_OS_stage_31 : decode b_OS_stage 31 = .ok (.aload_n 0, 1) := by decide +kernel
theorem d_OS_stage_32 : decode b_OS_stage 32 = .ok (.getfield 19, 3) := by decide +kernel
theorem d_OS_stage_35 : decode b_OS_stage 35 = .ok (.iload_n 1, 1) := by decide +kernel
theorem d_OS_stage_36 : decode b_OS_stage 36 = .ok (.invokevirtual 90, 3) := by decide +kernel
theorem d_OS_stage_39 : decode b_OS_stage 39 = .ok (.iload_n 2, 1) := by decide +kernel
theorem d_OS_stage_40 : decode b_OS_stage 40 = .ok (.invokevirtual 93, 3) := by decide +kernel
theorem d_OS_stage_43 : decode b_OS_stage 43 = .ok (.istore 7, 2) := by decide +kernel
theorem d_OS_stage_45 : decode b_OS_stage 45 = .ok (.aload_n 0, 1) := by decide +kernel
theorem d_OS_stage_46 : decode b_OS_stage 46 = .ok (.getfield 30, 3) := by decide +kernel
theorem d_OS_stage_49 : decode b_OS_stage 49 = .ok (.iload 7, 2) := by decide +kernel
theorem d_OS_stage_51 : decode b_OS_stage 51 = .ok (.iload_n 1, 1) := by decide +kernel
theorem d_OS_stage_52 : decode b_OS_stage 52 = .ok (.invokevirtual 97, 3) := by decide +kernel
theorem d_OS_stage_55 : decode b_OS_stage 55 = .ok (.ifCond .ne 15, 3) := by decide +kernel
theorem d_OS_stage_58 : decode b_OS_stage 58 = .ok (.aload_n 0, 1) := by decide +kernel
theorem d_OS_stage_59 : decode b_OS_stage 59 = .ok (.iload_n 1, 1) := by decide +kernel
theorem d_OS_stage_60 : decode b_OS_stage 60 = .ok (.invokevirtual 100, 3) := by decide +kernel
theorem d_OS_stage_63 : decode b_OS_stage 63 = .ok (.bipush 12, 2) := by decide +kernel
theorem d_OS_stage_65 : decode b_OS_stage 65 = .ok (.if_icmp .lt 5, 3) := by decide +kernel
theorem d_OS_stage_68 : decode b_OS_stage 68 = .ok (.iconst (-1), 1) := by decide +kernel
theorem d_OS_stage_69 : decode b_OS_stage 69 = .ok (.ireturn, 1) := by decide +kernel
theorem d_OS_stage_70 : decode b_OS_stage 70 = .ok (.aload_n 0, 1) := by decide +kernel
theorem d_OS_stage_71 : decode b_OS_stage 71 = .ok (.iload_n 1, 1) := by decide +kernel
theorem d_OS_stage_72 : decode b_OS_stage 72 = .ok (.iload_n 2, 1) := by decide +kernel
theorem d_OS_stage_73 : decode b_OS_stage 73 = .ok (.invokevirtual 103, 3) := by decide +kernel
theorem d_OS_stage_76 : decode b_OS_stage 76 = .ok (.ifCond .eq 6, 3) := by decide +kernel
theorem d_OS_stage_79 : decode b_OS_stage 79 = .ok (.bipush (-2), 2) := by decide +kernel
theorem d_OS_stage_81 : decode b_OS_stage 81 = .ok (.ireturn, 1) := by decide +kernel
theorem d_OS_stage_82 : decode b_OS_stage 82 = .ok (.iload 6, 2) := by decide +kernel
theorem d_OS_stage_84 : decode b_OS_stage 84 = .ok (.ifCond .eq 17, 3) := by decide +kernel
theorem d_OS_stage_87 : decode b_OS_stage 87 = .ok (.aload_n 0, 1) := by decide +kernel
theorem d_OS_stage_88 : decode b_OS_stage 88 = .ok (.getfield 36, 3) := by decide +kernel
theorem d_OS_stage_91 : decode b_OS_stage 91 = .ok (.lload_n 3, 1) := by decide +kernel
theorem d_OS_stage_92 : decode b_OS_stage 92 = .ok (.invokevirtual 106, 3) := by decide +kernel
theorem d_OS_stage_95 : decode b_OS_stage 95 = .ok (.ifCond .ne 6, 3) := by decide +kernel
theorem d_OS_stage_98 : decode b_OS_stage 98 = .ok (.bipush (-3), 2) := by decide +kernel
theorem d_OS_stage_100 : decode b_OS_stage 100 = .ok (.ireturn, 1) := by decide +kernel
theorem d_OS_stage_101 : decode b_OS_stage 101 = .ok (.aload_n 0, 1) := by decide +kernel
theorem d_OS_stage_102 : decode b_OS_stage 102 = .ok (.getfield 30, 3) := by decide +kernel
theorem d_OS_stage_105 : decode b_OS_stage 105 = .ok (.iload 7, 2) := by decide +kernel
theorem d_OS_stage_107 : decode b_OS_stage 107 = .ok (.iload_n 1, 1) := by decide +kernel
theorem d_OS_stage_108 : decode b_OS_stage 108 = .ok (.lload_n 3, 1) := by decide +kernel
theorem d_OS_stage_109 : decode b_OS_stage 109 = .ok (.iload 5, 2) := by decide +kernel
theorem d_OS_stage_111 : decode b_OS_stage 111 = .ok (.iload 6, 2) := by decide +kernel
theorem d_OS_stage_113 : decode b_OS_stage 113 = .ok (.invokevirtual 109, 3) := by decide +kernel
theorem d_OS_stage_116 : decode b_OS_stage 116 = .ok (.iconst 1, 1) := by decide +kernel
theorem d_OS_stage_117 : decode b_OS_stage 117 = .ok (.ireturn, 1) := by decide +kernel
theorem d_OS_end_0 : decode b_OS_end 0 = .ok (.aload_n 0, 1) := by decide +kernel
theorem d_OS_end_1 : decode b_OS_end 1 = .ok (.getfield 19, 3) := by decide +kernel
theorem d_OS_end_4 : decode b_OS_end 4 = .ok (.iload_n 1, 1) := by decide +kernel
theorem d_OS_end_5 : decode b_OS_end 5 = .ok (.invokevirtual 84, 3) := by decide +kernel
theorem d_OS_end_8 : decode b_OS_end 8 = .ok (.ifCond .ne 5, 3) := by decide +kernel
theorem d_OS_end_11 : decode b_OS_end 11 = .ok (.iconst (-1), 1) := by decide +kernel
theorem d_OS_end_12 : decode b_OS_end 12 = .ok (.ireturn, 1) := by decide +kernel
theorem d_OS_end_13 : decode b_OS_end 13 = .ok (.iload_n 2, 1) := by decide +kernel
theorem d_OS_end_14 : decode b_OS_end 14 = .ok (.ifCond .eq 11, 3) := by decide +kernel
theorem d_OS_end_17 : decode b_OS_end 17 = .ok (.aload_n 0, 1) := by decide +kernel
theorem d_OS_end_18 : decode b_OS_end 18 = .ok (.iload_n 1, 1) := by decide +kernel
theorem d_OS_end_19 : decode b_OS_end 19 = .ok (.invokevirtual 113, 3) := by decide +kernel
theorem d_OS_end_22 : decode b_OS_end 22 = .ok (.goto 4, 3) := by decide +kernel
theorem d_OS_end_25 : decode b_OS_end 25 = .ok (.iconst 0, 1) := by decide +kernel
theorem d_OS_end_26 : decode b_OS_end 26 = .ok (.istore_n 3, 1) := by decide +kernel
theorem d_OS_end_27 : decode b_OS_end 27 = .ok (.aload_n 0, 1) := by decide +kernel
theorem d_OS_end_28 : decode b_OS_end 28 = .ok (.iload_n 1, 1) := by decide +kernel
theorem d_OS_end_29 : decode b_OS_end 29 = .ok (.invokevirtual 116, 3) := by decide +kernel
theorem d_OS_end_32 : decode b_OS_end 32 = .ok (.aload_n 0, 1) := by decide +kernel
theorem d_OS_end_33 : decode b_OS_end 33 = .ok (.getfield 19, 3) := by decide +kernel
theorem d_OS_end_36 : decode b_OS_end 36 = .ok (.iload_n 1, 1) := by decide +kernel
theorem d_OS_end_37 : decode b_OS_end 37 = .ok (.invokevirtual 120, 3) := by decide +kernel
theorem d_OS_end_40 : decode b_OS_end 40 = .ok (.iload_n 3, 1) := by decide +kernel
theorem d_OS_end_41 : decode b_OS_end 41 = .ok (.ireturn, 1) := by decide +kernel
theorem d_OS_abandon_0 : decode b_OS_abandon 0 = .ok (.iload_n 1, 1) := by decide +kernel
theorem d_OS_abandon_1 : decode b_OS_abandon 1 = .ok (.invokestatic 69, 3) := by decide +kernel
theorem d_OS_abandon_4 : decode b_OS_abandon 4 = .ok (.ifCond .ne 5, 3) := by decide +kernel
theorem d_OS_abandon_7 : decode b_OS_abandon 7 = .ok (.iconst (-1), 1) := by decide +kernel
theorem d_OS_abandon_8 : decode b_OS_abandon 8 = .ok (.ireturn, 1) := by decide +kernel
theorem d_OS_abandon_9 : decode b_OS_abandon 9 = .ok (.iconst 0, 1) := by decide +kernel
theorem d_OS_abandon_10 : decode b_OS_abandon 10 = .ok (.istore_n 2, 1) := by decide +kernel
theorem d_OS_abandon_11 : decode b_OS_abandon 11 = .ok (.iconst 0, 1) := by decide +kernel
theorem d_OS_abandon_12 : decode b_OS_abandon 12 = .ok (.istore_n 3, 1) := by decide +kernel
theorem d_OS_abandon_13 : decode b_OS_abandon 13 = .ok (.iload_n 3, 1) := by decide +kernel
theorem d_OS_abandon_14 : decode b_OS_abandon 14 = .ok (.bipush 80, 2) := by decide +kernel
theorem d_OS_abandon_16 : decode b_OS_abandon 16 = .ok (.if_icmp .ge 48, 3) := by decide +kernel
theorem d_OS_abandon_19 : decode b_OS_abandon 19 = .ok (.aload_n 0, 1) := by decide +kernel
theorem d_OS_abandon_20 : decode b_OS_abandon 20 = .ok (.getfield 19, 3) := by decide +kernel
theorem d_OS_abandon_23 : decode b_OS_abandon 23 = .ok (.iload_n 3, 1) := by decide +kernel
theorem d_OS_abandon_24 : decode b_OS_abandon 24 = .ok (.invokevirtual 84, 3) := by decide +kernel
theorem d_OS_abandon_27 : decode b_OS_abandon 27 = .ok (.ifCond .eq 31, 3) := by decide +kernel
theorem d_OS_abandon_30 : decode b_OS_abandon 30 = .ok (.aload_n 0, 1) := by decide +kernel
theorem d_OS_abandon_31 : decode b_OS_abandon 31 = .ok (.getfield 19, 3) := by decide +kernel
theorem d_OS_abandon_34 : decode b_OS_abandon 34 = .ok (.iload_n 3, 1) := by decide +kernel
theorem d_OS_abandon_35 : decode b_OS_abandon 35 = .ok (.invokevirtual 123, 3) := by decide +kernel
theorem d_OS_abandon_38 : decode b_OS_abandon 38 = .ok (.iload_n 1, 1) := by decide +kernel
theorem d_OS_abandon_39 : decode b_OS_abandon 39 = .ok (.if_icmp .ne 19, 3) := by decide +kernel
theorem d_OS_abandon_42 : decode b_OS_abandon 42 = .ok (.aload_n 0, 1) := by decide +kernel
theorem d_OS_abandon_43 : decode b_OS_abandon 43 = .ok (.iload_n 3, 1) := by decide +kernel
theorem d_OS_abandon_44 : decode b_OS_abandon 44 = .ok (.invokevirtual 116, 3) := by decide +kernel
theorem d_OS_abandon_47 : decode b_OS_abandon 47 = .ok (.aload_n 0, 1) := by decide +kernel
theorem d_OS_abandon_48 : decode b_OS_abandon 48 = .ok (.getfield 19, 3) := by decide +kernel
theorem d_OS_abandon_51 : decode b_OS_abandon 51 = .ok (.iload_n 3, 1) := by decide +kernel
theorem d_OS_abandon_52 : decode b_OS_abandon 52 = .ok (.invokevirtual 120, 3) := by decide +kernel
theorem d_OS_abandon_55 : decode b_OS_abandon 55 = .ok (.iinc 2 1, 3) := by decide +kernel
theorem d_OS_abandon_58 : decode b_OS_abandon 58 = .ok (.iinc 3 1, 3) := by decide +kernel
theorem d_OS_abandon_61 : decode b_OS_abandon 61 = .ok (.goto (-48), 3) := by decide +kernel
theorem d_OS_abandon_64 : decode b_OS_abandon 64 = .ok (.iload_n 2, 1) := by decide +kernel
theorem d_OS_abandon_65 : decode b_OS_abandon 65 = .ok (.ireturn, 1) := by decide +kernel
theorem d_OS_cache_0 : decode b_OS_cache 0 = .ok (.lload_n 1, 1) := by decide +kernel
theorem d_OS_cache_1 : decode b_OS_cache 1 = .ok (.lconst 0, 1) := by decide +kernel
theorem d_OS_cache_2 : decode b_OS_cache 2 = .ok (.lcmp, 1) := by decide +kernel
theorem d_OS_cache_3 : decode b_OS_cache 3 = .ok (.ifCond .ne 5, 3) := by decide +kernel
theorem d_OS_cache_6 : decode b_OS_cache 6 = .ok (.iconst 0, 1) := by decide +kernel
theorem d_OS_cache_7 : decode b_OS_cache 7 = .ok (.ireturn, 1) := by decide +kernel
theorem d_OS_cache_8 : decode b_OS_cache 8 = .ok (.iload_n 3, 1) := by decide +kernel
theorem d_OS_cache_9 : decode b_OS_cache 9 = .ok (.ifCond .eq 12, 3) := by decide +kernel
theorem d_OS_cache_12 : decode b_OS_cache 12 = .ok (.aload_n 0, 1) := by decide +kernel
theorem d_OS_cache_13 : decode b_OS_cache 13 = .ok (.getfield 36, 3) := by decide +kernel
theorem d_OS_cache_16 : decode b_OS_cache 16 = .ok (.lload_n 1, 1) := by decide +kernel
theorem d_OS_cache_17 : decode b_OS_cache 17 = .ok (.invokevirtual 126, 3) := by decide +kernel
theorem d_OS_cache_20 : decode b_OS_cache 20 = .ok (.ireturn, 1) := by decide +kernel
theorem d_OS_cache_21 : decode b_OS_cache 21 = .ok (.aload_n 0, 1) := by decide +kernel
theorem d_OS_cache_22 : decode b_OS_cache 22 = .ok (.getfield 36, 3) := by decide +kernel
theorem d_OS_cache_25 : decode b_OS_cache 25 = .ok (.lload_n 1, 1) := by decide +kernel
theorem d_OS_cache_26 : decode b_OS_cache 26 = .ok (.invokevirtual 129, 3) := by decide +kernel
theorem d_OS_cache_29 : decode b_OS_cache 29 = .ok (.iconst 1, 1) := by decide +kernel
theorem d_OS_cache_30 : decode b_OS_cache 30 = .ok (.ireturn, 1) := by decide +kernel
theorem d_OS_read_0 : decode b_OS_read 0 = .ok (.aload_n 0, 1) := by decide +kernel
theorem d_OS_read_1 : decode b_OS_read 1 = .ok (.iload_n 1, 1) := by decide +kernel
theorem d_OS_read_2 : decode b_OS_read 2 = .ok (.iload_n 2, 1) := by decide +kernel
theorem d_OS_read_3 : decode b_OS_read 3 = .ok (.invokevirtual 93, 3) := by decide +kernel
theorem d_OS_read_6 : decode b_OS_read 6 = .ok (.istore_n 3, 1) := by decide +kernel
theorem d_OS_read_7 : decode b_OS_read 7 = .ok (.iload_n 3, 1) := by decide +kernel
theorem d_OS_read_8 : decode b_OS_read 8 = .ok (.iconst (-1), 1) := by decide +kernel
theorem d_OS_read_9 : decode b_OS_read 9 = .ok (.if_icmp .eq 13, 3) := by decide +kernel
theorem d_OS_read_12 : decode b_OS_read 12 = .ok (.aload_n 0, 1) := by decide +kernel
theorem d_OS_read_13 : decode b_OS_read 13 = .ok (.getfield 43, 3) := by decide +kernel
theorem d_OS_read_16 : decode b_OS_read 16 = .ok (.invokevirtual 133, 3) := by decide +kernel
theorem d_OS_read_19 : decode b_OS_read 19 = .ok (.ifCond .eq 5, 3) := by decide +kernel
theorem d_OS_read_22 : decode b_OS_read 22 = .ok (.iconst (-1), 1) := by decide +kernel
theorem d_OS_read_23 : decode b_OS_read 23 = .ok (.ireturn, 1) := by decide +kernel
theorem d_OS_read_24 : decode b_OS_read 24 = .ok (.aload_n 0, 1) := by decide +kernel
theorem d_OS_read_25 : decode b_OS_read 25 = .ok (.getfield 26, 3) := by decide +kernel
theorem d_OS_read_28 : decode b_OS_read 28 = .ok (.iload_n 3, 1) := by decide +kernel
theorem d_OS_read_29 : decode b_OS_read 29 = .ok (.invokevirtual 134, 3) := by decide +kernel
theorem d_OS_read_32 : decode b_OS_read 32 = .ok (.ifCond .ne 6, 3) := by decide +kernel
theorem d_OS_read_35 : decode b_OS_read 35 = .ok (.bipush (-2), 2) := by decide +kernel
theorem d_OS_read_37 : decode b_OS_read 37 = .ok (.ireturn, 1) := by decide +kernel
theorem d_OS_read_38 : decode b_OS_read 38 = .ok (.aload_n 0, 1) := by decide +kernel
theorem d_OS_read_39 : decode b_OS_read 39 = .ok (.getfield 26, 3) := by decide +kernel
theorem d_OS_read_42 : decode b_OS_read 42 = .ok (.iload_n 3, 1) := by decide +kernel
theorem d_OS_read_43 : decode b_OS_read 43 = .ok (.invokevirtual 135, 3) := by decide +kernel
theorem d_OS_read_46 : decode b_OS_read 46 = .ok (.lstore 4, 2) := by decide +kernel
theorem d_OS_read_48 : decode b_OS_read 48 = .ok (.aload_n 0, 1) := by decide +kernel
theorem d_OS_read_49 : decode b_OS_read 49 = .ok (.getfield 26, 3) := by decide +kernel
theorem d_OS_read_52 : decode b_OS_read 52 = .ok (.iload_n 3, 1) := by decide +kernel
theorem d_OS_read_53 : decode b_OS_read 53 = .ok (.invokevirtual 139, 3) := by decide +kernel
theorem d_OS_read_56 : decode b_OS_read 56 = .ok (.ifCond .eq 40, 3) := by decide +kernel
theorem d_OS_read_59 : decode b_OS_read 59 = .ok (.aload_n 0, 1) := by decide +kernel
theorem d_OS_read_60 : decode b_OS_read 60 = .ok (.getfield 36, 3) := by decide +kernel
theorem d_OS_read_63 : decode b_OS_read 63 = .ok (.lload 4, 2) := by decide +kernel
theorem d_OS_read_65 : decode b_OS_read 65 = .ok (.invokevirtual 106, 3) := by decide +kernel
theorem d_OS_read_68 : decode b_OS_read 68 = .ok (.ifCond .ne 28, 3) := by decide +kernel
theorem d_OS_read_71 : decode b_OS_read 71 = .ok (.aload_n 0, 1) := by decide +kernel
theorem d_OS_read_72 : decode b_OS_read 72 = .ok (.getfield 50, 3) := by decide +kernel
theorem d_OS_read_75 : decode b_OS_read 75 = .ok (.aload_n 0, 1) := by decide +kernel
theorem d_OS_read_76 : decode b_OS_read 76 = .ok (.iload_n 3, 1) := by decide +kernel
theorem d_OS_read_77 : decode b_OS_read 77 = .ok (.invokevirtual 142, 3) := by decide +kernel
theorem d_OS_read_80 : decode b_OS_read 80 = .ok (.iload_n 1, 1) := by decide +kernel
theorem d_OS_read_81 : decode b_OS_read 81 = .ok (.iconst 1, 1) := by decide +kernel
theorem d_OS_read_82 : decode b_OS_read 82 = .ok (.invokevirtual 145, 3) := by decide +kernel
theorem d_OS_read_85 : decode b_OS_read 85 = .ok (.aload_n 0, 1) := by decide +kernel
theorem d_OS_read_86 : decode b_OS_read 86 = .ok (.getfield 26, 3) := by decide +kernel
theorem d_OS_read_89 : decode b_OS_read 89 = .ok (.iload_n 3, 1) := by decide +kernel
theorem d_OS_read_90 : decode b_OS_read 90 = .ok (.invokevirtual 149, 3) := by decide +kernel
theorem d_OS_read_93 : decode b_OS_read 93 = .ok (.bipush (-3), 2) := by decide +kernel
theorem d_OS_read_95 : decode b_OS_read 95 = .ok (.ireturn, 1) := by decide +kernel
theorem d_OS_read_96 : decode b_OS_read 96 = .ok (.aload_n 0, 1) := by decide +kernel
theorem d_OS_read_97 : decode b_OS_read 97 = .ok (.getfield 26, 3) := by decide +kernel
theorem d_OS_read_100 : decode b_OS_read 100 = .ok (.iload_n 3, 1) := by decide +kernel
theorem d_OS_read_101 : decode b_OS_read 101 = .ok (.invokevirtual 152, 3) := by decide +kernel
theorem d_OS_read_104 : decode b_OS_read 104 = .ok (.aload_n 0, 1) := by decide +kernel
theorem d_OS_read_105 : decode b_OS_read 105 = .ok (.getfield 43, 3) := by decide +kernel
theorem d_OS_read_108 : decode b_OS_read 108 = .ok (.lload 4, 2) := by decide +kernel
theorem d_OS_read_110 : decode b_OS_read 110 = .ok (.invokevirtual 155, 3) := by decide +kernel
theorem d_OS_read_113 : decode b_OS_read 113 = .ok (.ireturn, 1) := by decide +kernel
theorem d_OS_held_0 : decode b_OS_held 0 = .ok (.aload_n 0, 1) := by decide +kernel
theorem d_OS_held_1 : decode b_OS_held 1 = .ok (.getfield 43, 3) := by decide +kernel
theorem d_OS_held_4 : decode b_OS_held 4 = .ok (.iload_n 1, 1) := by decide +kernel
theorem d_OS_held_5 : decode b_OS_held 5 = .ok (.invokevirtual 159, 3) := by decide +kernel
theorem d_OS_held_8 : decode b_OS_held 8 = .ok (.lreturn, 1) := by decide +kernel
theorem d_OS_letGo_0 : decode b_OS_letGo 0 = .ok (.aload_n 0, 1) := by decide +kernel
theorem d_OS_letGo_1 : decode b_OS_letGo 1 = .ok (.getfield 43, 3) := by decide +kernel
theorem d_OS_letGo_4 : decode b_OS_letGo 4 = .ok (.iload_n 1, 1) := by decide +kernel
theorem d_OS_letGo_5 : decode b_OS_letGo 5 = .ok (.invokevirtual 162, 3) := by decide +kernel
theorem d_OS_letGo_8 : decode b_OS_letGo 8 = .ok (.ireturn, 1) := by decide +kernel
theorem d_OS_content_0 : decode b_OS_content 0 = .ok (.aload_n 0, 1) := by decide +kernel
theorem d_OS_content_1 : decode b_OS_content 1 = .ok (.getfield 26, 3) := by decide +kernel
theorem d_OS_content_4 : decode b_OS_content 4 = .ok (.aload_n 0, 1) := by decide +kernel
theorem d_OS_content_5 : decode b_OS_content 5 = .ok (.iload_n 1, 1) := by decide +kernel
theorem d_OS_content_6 : decode b_OS_content 6 = .ok (.iload_n 2, 1) := by decide +kernel
theorem d_OS_content_7 : decode b_OS_content 7 = .ok (.invokevirtual 93, 3) := by decide +kernel
theorem d_OS_content_10 : decode b_OS_content 10 = .ok (.invokevirtual 135, 3) := by decide +kernel
theorem d_OS_content_13 : decode b_OS_content 13 = .ok (.lreturn, 1) := by decide +kernel
theorem d_OS_about_0 : decode b_OS_about 0 = .ok (.aload_n 0, 1) := by decide +kernel
theorem d_OS_about_1 : decode b_OS_about 1 = .ok (.iload_n 1, 1) := by decide +kernel
theorem d_OS_about_2 : decode b_OS_about 2 = .ok (.iload_n 2, 1) := by decide +kernel
theorem d_OS_about_3 : decode b_OS_about 3 = .ok (.invokevirtual 93, 3) := by decide +kernel
theorem d_OS_about_6 : decode b_OS_about 6 = .ok (.istore 4, 2) := by decide +kernel
theorem d_OS_about_8 : decode b_OS_about 8 = .ok (.aload_n 0, 1) := by decide +kernel
theorem d_OS_about_9 : decode b_OS_about 9 = .ok (.getfield 26, 3) := by decide +kernel
theorem d_OS_about_12 : decode b_OS_about 12 = .ok (.iload 4, 2) := by decide +kernel
theorem d_OS_about_14 : decode b_OS_about 14 = .ok (.invokevirtual 134, 3) := by decide +kernel
theorem d_OS_about_17 : decode b_OS_about 17 = .ok (.ifCond .ne 5, 3) := by decide +kernel
theorem d_OS_about_20 : decode b_OS_about 20 = .ok (.iconst (-1), 1) := by decide +kernel
theorem d_OS_about_21 : decode b_OS_about 21 = .ok (.ireturn, 1) := by decide +kernel
theorem d_OS_about_22 : decode b_OS_about 22 = .ok (.iload_n 3, 1) := by decide +kernel
theorem d_OS_about_23 : decode b_OS_about 23 = .ok (.tableswitch 82 0 3 #[29, 36, 54, 72], 29) := by decide +kernel
theorem d_OS_about_52 : decode b_OS_about 52 = .ok (.aload_n 0, 1) := by decide +kernel
theorem d_OS_about_53 : decode b_OS_about 53 = .ok (.iload 4, 2) := by decide +kernel
theorem d_OS_about_55 : decode b_OS_about 55 = .ok (.invokevirtual 142, 3) := by decide +kernel
theorem d_OS_about_58 : decode b_OS_about 58 = .ok (.ireturn, 1) := by decide +kernel
theorem d_OS_about_59 : decode b_OS_about 59 = .ok (.aload_n 0, 1) := by decide +kernel
theorem d_OS_about_60 : decode b_OS_about 60 = .ok (.getfield 26, 3) := by decide +kernel
theorem d_OS_about_63 : decode b_OS_about 63 = .ok (.iload 4, 2) := by decide +kernel
theorem d_OS_about_65 : decode b_OS_about 65 = .ok (.invokevirtual 165, 3) := by decide +kernel
theorem d_OS_about_68 : decode b_OS_about 68 = .ok (.ifCond .eq 7, 3) := by decide +kernel
theorem d_OS_about_71 : decode b_OS_about 71 = .ok (.iconst 1, 1) := by decide +kernel
theorem d_OS_about_72 : decode b_OS_about 72 = .ok (.goto 4, 3) := by decide +kernel
theorem d_OS_about_75 : decode b_OS_about 75 = .ok (.iconst 0, 1) := by decide +kernel
theorem d_OS_about_76 : decode b_OS_about 76 = .ok (.ireturn, 1) := by decide +kernel
theorem d_OS_about_77 : decode b_OS_about 77 = .ok (.aload_n 0, 1) := by decide +kernel
theorem d_OS_about_78 : decode b_OS_about 78 = .ok (.getfield 26, 3) := by decide +kernel
theorem d_OS_about_81 : decode b_OS_about 81 = .ok (.iload 4, 2) := by decide +kernel
theorem d_OS_about_83 : decode b_OS_about 83 = .ok (.invokevirtual 139, 3) := by decide +kernel
theorem d_OS_about_86 : decode b_OS_about 86 = .ok (.ifCond .eq 7, 3) := by decide +kernel
theorem d_OS_about_89 : decode b_OS_about 89 = .ok (.iconst 0, 1) := by decide +kernel
theorem d_OS_about_90 : decode b_OS_about 90 = .ok (.goto 4, 3) := by decide +kernel
theorem d_OS_about_93 : decode b_OS_about 93 = .ok (.iconst 1, 1) := by decide +kernel
theorem d_OS_about_94 : decode b_OS_about 94 = .ok (.ireturn, 1) := by decide +kernel
theorem d_OS_about_95 : decode b_OS_about 95 = .ok (.aload_n 0, 1) := by decide +kernel
theorem d_OS_about_96 : decode b_OS_about 96 = .ok (.getfield 26, 3) := by decide +kernel
theorem d_OS_about_99 : decode b_OS_about 99 = .ok (.iload 4, 2) := by decide +kernel
theorem d_OS_about_101 : decode b_OS_about 101 = .ok (.invokevirtual 168, 3) := by decide +kernel
theorem d_OS_about_104 : decode b_OS_about 104 = .ok (.ireturn, 1) := by decide +kernel
theorem d_OS_about_105 : decode b_OS_about 105 = .ok (.iconst (-1), 1) := by decide +kernel
theorem d_OS_about_106 : decode b_OS_about 106 = .ok (.ireturn, 1) := by decide +kernel
theorem d_OS_list_0 : decode b_OS_list 0 = .ok (.iload_n 1, 1) := by decide +kernel
theorem d_OS_list_1 : decode b_OS_list 1 = .ok (.invokestatic 66, 3) := by decide +kernel
theorem d_OS_list_4 : decode b_OS_list 4 = .ok (.ifCond .eq 23, 3) := by decide +kernel
theorem d_OS_list_7 : decode b_OS_list 7 = .ok (.iload_n 3, 1) := by decide +kernel
theorem d_OS_list_8 : decode b_OS_list 8 = .ok (.ifCond .lt 19, 3) := by decide +kernel
theorem d_OS_list_11 : decode b_OS_list 11 = .ok (.iload_n 2, 1) := by decide +kernel
theorem d_OS_list_12 : decode b_OS_list 12 = .ok (.iconst (-1), 1) := by decide +kernel
theorem d_OS_list_13 : decode b_OS_list 13 = .ok (.if_icmp .eq 16, 3) := by decide +kernel
theorem d_OS_list_16 : decode b_OS_list 16 = .ok (.aload_n 0, 1) := by decide +kernel
theorem d_OS_list_17 : decode b_OS_list 17 = .ok (.getfield 12, 3) := by decide +kernel
theorem d_OS_list_20 : decode b_OS_list 20 = .ok (.iload_n 2, 1) := by decide +kernel
theorem d_OS_list_21 : decode b_OS_list 21 = .ok (.invokevirtual 87, 3) := by decide +kernel
theorem d_OS_list_24 : decode b_OS_list 24 = .ok (.ifCond .ne 5, 3) := by decide +kernel
theorem d_OS_list_27 : decode b_OS_list 27 = .ok (.iconst (-1), 1) := by decide +kernel
theorem d_OS_list_28 : decode b_OS_list 28 = .ok (.ireturn, 1) := by decide +kernel
theorem d_OS_list_29 : decode b_OS_list 29 = .ok (.iload_n 3, 1) := by decide +kernel
theorem d_OS_list_30 : decode b_OS_list 30 = .ok (.istore 4, 2) := by decide +kernel
theorem d_OS_list_32 : decode b_OS_list 32 = .ok (.iconst 0, 1) := by decide +kernel
theorem d_OS_list_33 : decode b_OS_list 33 = .ok (.istore 5, 2) := by decide +kernel
theorem d_OS_list_35 : decode b_OS_list 35 = .ok (.iload 5, 2) := by decide +kernel
theorem d_OS_list_37 : decode b_OS_list 37 = .ok (.bipush 40, 2) := by decide +kernel
theorem d_OS_list_39 : decode b_OS_list 39 = .ok (.if_icmp .ge 50, 3) := by decide +kernel
theorem d_OS_list_42 : decode b_OS_list 42 = .ok (.aload_n 0, 1) := by decide +kernel
theorem d_OS_list_43 : decode b_OS_list 43 = .ok (.getfield 26, 3) := by decide +kernel
theorem d_OS_list_46 : decode b_OS_list 46 = .ok (.aload_n 0, 1) := by decide +kernel
theorem d_OS_list_47 : decode b_OS_list 47 = .ok (.iload_n 1, 1) := by decide +kernel
theorem d_OS_list_48 : decode b_OS_list 48 = .ok (.iload 5, 2) := by decide +kernel
theorem d_OS_list_50 : decode b_OS_list 50 = .ok (.invokevirtual 93, 3) := by decide +kernel
theorem d_OS_list_53 : decode b_OS_list 53 = .ok (.invokevirtual 134, 3) := by decide +kernel
theorem d_OS_list_56 : decode b_OS_list 56 = .ok (.ifCond .eq 27, 3) := by decide +kernel
theorem d_OS_list_59 : decode b_OS_list 59 = .ok (.aload_n 0, 1) := by decide +kernel
theorem d_OS_list_60 : decode b_OS_list 60 = .ok (.getfield 12, 3) := by decide +kernel
theorem d_OS_list_63 : decode b_OS_list 63 = .ok (.iload 5, 2) := by decide +kernel
theorem d_OS_list_65 : decode b_OS_list 65 = .ok (.iload_n 2, 1) := by decide +kernel
theorem d_OS_list_66 : decode b_OS_list 66 = .ok (.invokevirtual 171, 3) := by decide +kernel
theorem d_OS_list_69 : decode b_OS_list 69 = .ok (.ifCond .eq 14, 3) := by decide +kernel
theorem d_OS_list_72 : decode b_OS_list 72 = .ok (.iload 4, 2) := by decide +kernel
theorem d_OS_list_74 : decode b_OS_list 74 = .ok (.ifCond .ne 6, 3) := by decide +kernel
theorem d_OS_list_77 : decode b_OS_list 77 = .ok (.iload 5, 2) := by decide +kernel
theorem d_OS_list_79 : decode b_OS_list 79 = .ok (.ireturn, 1) := by decide +kernel
theorem d_OS_list_80 : decode b_OS_list 80 = .ok (.iinc 4 (-1), 3) := by decide +kernel
theorem d_OS_list_83 : decode b_OS_list 83 = .ok (.iinc 5 1, 3) := by decide +kernel
theorem d_OS_list_86 : decode b_OS_list 86 = .ok (.goto (-51), 3) := by decide +kernel
theorem d_OS_list_89 : decode b_OS_list 89 = .ok (.iconst (-1), 1) := by decide +kernel
theorem d_OS_list_90 : decode b_OS_list 90 = .ok (.ireturn, 1) := by decide +kernel
theorem d_OS_dirty_0 : decode b_OS_dirty 0 = .ok (.aload_n 0, 1) := by decide +kernel
theorem d_OS_dirty_1 : decode b_OS_dirty 1 = .ok (.getfield 50, 3) := by decide +kernel
theorem d_OS_dirty_4 : decode b_OS_dirty 4 = .ok (.iload_n 1, 1) := by decide +kernel
theorem d_OS_dirty_5 : decode b_OS_dirty 5 = .ok (.iload_n 2, 1) := by decide +kernel
theorem d_OS_dirty_6 : decode b_OS_dirty 6 = .ok (.invokevirtual 174, 3) := by decide +kernel
theorem d_OS_dirty_9 : decode b_OS_dirty 9 = .ok (.ireturn, 1) := by decide +kernel
theorem d_OS_clear_0 : decode b_OS_clear 0 = .ok (.iload_n 1, 1) := by decide +kernel
theorem d_OS_clear_1 : decode b_OS_clear 1 = .ok (.invokestatic 66, 3) := by decide +kernel
theorem d_OS_clear_4 : decode b_OS_clear 4 = .ok (.ifCond .eq 14, 3) := by decide +kernel
theorem d_OS_clear_7 : decode b_OS_clear 7 = .ok (.aload_n 0, 1) := by decide +kernel
theorem d_OS_clear_8 : decode b_OS_clear 8 = .ok (.getfield 19, 3) := by decide +kernel
theorem d_OS_clear_11 : decode b_OS_clear 11 = .ok (.iload_n 1, 1) := by decide +kernel
theorem d_OS_clear_12 : decode b_OS_clear 12 = .ok (.invokevirtual 177, 3) := by decide +kernel
theorem d_OS_clear_15 : decode b_OS_clear 15 = .ok (.ifCond .eq 5, 3) := by decide +kernel
theorem d_OS_clear_18 : decode b_OS_clear 18 = .ok (.iconst (-1), 1) := by decide +kernel
theorem d_OS_clear_19 : decode b_OS_clear 19 = .ok (.ireturn, 1) := by decide +kernel
theorem d_OS_clear_20 : decode b_OS_clear 20 = .ok (.iconst 0, 1) := by decide +kernel
theorem d_OS_clear_21 : decode b_OS_clear 21 = .ok (.istore_n 2, 1) := by decide +kernel
theorem d_OS_clear_22 : decode b_OS_clear 22 = .ok (.iconst 0, 1) := by decide +kernel
theorem d_OS_clear_23 : decode b_OS_clear 23 = .ok (.istore_n 3, 1) := by decide +kernel
theorem d_OS_clear_24 : decode b_OS_clear 24 = .ok (.iload_n 3, 1) := by decide +kernel
theorem d_OS_clear_25 : decode b_OS_clear 25 = .ok (.bipush 40, 2) := by decide +kernel
theorem d_OS_clear_27 : decode b_OS_clear 27 = .ok (.if_icmp .ge 41, 3) := by decide +kernel
theorem d_OS_clear_30 : decode b_OS_clear 30 = .ok (.aload_n 0, 1) := by decide +kernel
theorem d_OS_clear_31 : decode b_OS_clear 31 = .ok (.iload_n 1, 1) := by decide +kernel
theorem d_OS_clear_32 : decode b_OS_clear 32 = .ok (.iload_n 3, 1) := by decide +kernel
theorem d_OS_clear_33 : decode b_OS_clear 33 = .ok (.invokevirtual 93, 3) := by decide +kernel
theorem d_OS_clear_36 : decode b_OS_clear 36 = .ok (.istore 4, 2) := by decide +kernel
theorem d_OS_clear_38 : decode b_OS_clear 38 = .ok (.aload_n 0, 1) := by decide +kernel
theorem d_OS_clear_39 : decode b_OS_clear 39 = .ok (.getfield 26, 3) := by decide +kernel
theorem d_OS_clear_42 : decode b_OS_clear 42 = .ok (.iload 4, 2) := by decide +kernel
theorem d_OS_clear_44 : decode b_OS_clear 44 = .ok (.invokevirtual 134, 3) := by decide +kernel
theorem d_OS_clear_47 : decode b_OS_clear 47 = .ok (.ifCond .eq 15, 3) := by decide +kernel
theorem d_OS_clear_50 : decode b_OS_clear 50 = .ok (.aload_n 0, 1) := by decide +kernel
theorem d_OS_clear_51 : decode b_OS_clear 51 = .ok (.getfield 26, 3) := by decide +kernel
theorem d_OS_clear_54 : decode b_OS_clear 54 = .ok (.iload 4, 2) := by decide +kernel
theorem d_OS_clear_56 : decode b_OS_clear 56 = .ok (.invokevirtual 149, 3) := by decide +kernel
theorem d_OS_clear_59 : decode b_OS_clear 59 = .ok (.iinc 2 1, 3) := by decide +kernel
theorem d_OS_clear_62 : decode b_OS_clear 62 = .ok (.iinc 3 1, 3) := by decide +kernel
theorem d_OS_clear_65 : decode b_OS_clear 65 = .ok (.goto (-41), 3) := by decide +kernel
theorem d_OS_clear_68 : decode b_OS_clear 68 = .ok (.iload_n 2, 1) := by decide +kernel
theorem d_OS_clear_69 : decode b_OS_clear 69 = .ok (.ireturn, 1) := by decide +kernel
theorem d_OS_copies_0 : decode b_OS_copies 0 = .ok (.lload_n 1, 1) := by decide +kernel
theorem d_OS_copies_1 : decode b_OS_copies 1 = .ok (.lconst 0, 1) := by decide +kernel
theorem d_OS_copies_2 : decode b_OS_copies 2 = .ok (.lcmp, 1) := by decide +kernel
theorem d_OS_copies_3 : decode b_OS_copies 3 = .ok (.ifCond .ne 5, 3) := by decide +kernel
theorem d_OS_copies_6 : decode b_OS_copies 6 = .ok (.iconst 0, 1) := by decide +kernel
theorem d_OS_copies_7 : decode b_OS_copies 7 = .ok (.ireturn, 1) := by decide +kernel
theorem d_OS_copies_8 : decode b_OS_copies 8 = .ok (.iconst 0, 1) := by decide +kernel
theorem d_OS_copies_9 : decode b_OS_copies 9 = .ok (.istore_n 3, 1) := by decide +kernel
theorem d_OS_copies_10 : decode b_OS_copies 10 = .ok (.iconst 0, 1) := by decide +kernel
theorem d_OS_copies_11 : decode b_OS_copies 11 = .ok (.istore 4, 2) := by decide +kernel
theorem d_OS_copies_13 : decode b_OS_copies 13 = .ok (.iload 4, 2) := by decide +kernel
theorem d_OS_copies_15 : decode b_OS_copies 15 = .ok (.sipush 420, 3) := by decide +kernel
theorem d_OS_copies_18 : decode b_OS_copies 18 = .ok (.if_icmp .ge 23, 3) := by decide +kernel
theorem d_OS_copies_21 : decode b_OS_copies 21 = .ok (.aload_n 0, 1) := by decide +kernel
theorem d_OS_copies_22 : decode b_OS_copies 22 = .ok (.iload 4, 2) := by decide +kernel
theorem d_OS_copies_24 : decode b_OS_copies 24 = .ok (.invokevirtual 180, 3) := by decide +kernel
theorem d_OS_copies_27 : decode b_OS_copies 27 = .ok (.lload_n 1, 1) := by decide +kernel
theorem d_OS_copies_28 : decode b_OS_copies 28 = .ok (.lcmp, 1) := by decide +kernel
theorem d_OS_copies_29 : decode b_OS_copies 29 = .ok (.ifCond .ne 6, 3) := by decide +kernel
theorem d_OS_copies_32 : decode b_OS_copies 32 = .ok (.iinc 3 1, 3) := by decide +kernel
theorem d_OS_copies_35 : decode b_OS_copies 35 = .ok (.iinc 4 1, 3) := by decide +kernel
theorem d_OS_copies_38 : decode b_OS_copies 38 = .ok (.goto (-25), 3) := by decide +kernel
theorem d_OS_copies_41 : decode b_OS_copies 41 = .ok (.iload_n 3, 1) := by decide +kernel
theorem d_OS_copies_42 : decode b_OS_copies 42 = .ok (.ireturn, 1) := by decide +kernel
theorem d_OS_stored_0 : decode b_OS_stored 0 = .ok (.iconst 0, 1) := by decide +kernel
theorem d_OS_stored_1 : decode b_OS_stored 1 = .ok (.istore_n 1, 1) := by decide +kernel
theorem d_OS_stored_2 : decode b_OS_stored 2 = .ok (.iconst 0, 1) := by decide +kernel
theorem d_OS_stored_3 : decode b_OS_stored 3 = .ok (.istore_n 2, 1) := by decide +kernel
theorem d_OS_stored_4 : decode b_OS_stored 4 = .ok (.iload_n 2, 1) := by decide +kernel
theorem d_OS_stored_5 : decode b_OS_stored 5 = .ok (.sipush 420, 3) := by decide +kernel
theorem d_OS_stored_8 : decode b_OS_stored 8 = .ok (.if_icmp .ge 51, 3) := by decide +kernel
theorem d_OS_stored_11 : decode b_OS_stored 11 = .ok (.aload_n 0, 1) := by decide +kernel
theorem d_OS_stored_12 : decode b_OS_stored 12 = .ok (.iload_n 2, 1) := by decide +kernel
theorem d_OS_stored_13 : decode b_OS_stored 13 = .ok (.invokevirtual 180, 3) := by decide +kernel
theorem d_OS_stored_16 : decode b_OS_stored 16 = .ok (.lstore_n 3, 1) := by decide +kernel
theorem d_OS_stored_17 : decode b_OS_stored 17 = .ok (.lload_n 3, 1) := by decide +kernel
theorem d_OS_stored_18 : decode b_OS_stored 18 = .ok (.lconst 0, 1) := by decide +kernel
theorem d_OS_stored_19 : decode b_OS_stored 19 = .ok (.lcmp, 1) := by decide +kernel
theorem d_OS_stored_20 : decode b_OS_stored 20 = .ok (.ifCond .eq 33, 3) := by decide +kernel
theorem d_OS_stored_23 : decode b_OS_stored 23 = .ok (.iload_n 1, 1) := by decide +kernel
theorem d_OS_stored_24 : decode b_OS_stored 24 = .ok (.sipush 420, 3) := by decide +kernel
theorem d_OS_stored_27 : decode b_OS_stored 27 = .ok (.if_icmp .ge 26, 3) := by decide +kernel
theorem d_OS_stored_30 : decode b_OS_stored 30 = .ok (.aload_n 0, 1) := by decide +kernel
theorem d_OS_stored_31 : decode b_OS_stored 31 = .ok (.getfield 54, 3) := by decide +kernel
theorem d_OS_stored_34 : decode b_OS_stored 34 = .ok (.iload_n 1, 1) := by decide +kernel
theorem d_OS_stored_35 : decode b_OS_stored 35 = .ok (.lload_n 3, 1) := by decide +kernel
theorem d_OS_stored_36 : decode b_OS_stored 36 = .ok (.invokestatic 183, 3) := by decide +kernel
theorem d_OS_stored_39 : decode b_OS_stored 39 = .ok (.iconst (-1), 1) := by decide +kernel
theorem d_OS_stored_40 : decode b_OS_stored 40 = .ok (.if_icmp .ne 13, 3) := by decide +kernel
theorem d_OS_stored_43 : decode b_OS_stored 43 = .ok (.aload_n 0, 1) := by decide +kernel
theorem d_OS_stored_44 : decode b_OS_stored 44 = .ok (.getfield 54, 3) := by decide +kernel
theorem d_OS_stored_47 : decode b_OS_stored 47 = .ok (.iload_n 1, 1) := by decide +kernel
theorem d_OS_stored_48 : decode b_OS_stored 48 = .ok (.lload_n 3, 1) := by decide +kernel
theorem d_OS_stored_49 : decode b_OS_stored 49 = .ok (.lastore, 1) := by decide +kernel
theorem d_OS_stored_50 : decode b_OS_stored 50 = .ok (.iinc 1 1, 3) := by decide +kernel
theorem d_OS_stored_53 : decode b_OS_stored 53 = .ok (.iinc 2 1, 3) := by decide +kernel
theorem d_OS_stored_56 : decode b_OS_stored 56 = .ok (.goto (-52), 3) := by decide +kernel
theorem d_OS_stored_59 : decode b_OS_stored 59 = .ok (.iload_n 1, 1) := by decide +kernel
theorem d_OS_stored_60 : decode b_OS_stored 60 = .ok (.ireturn, 1) := by decide +kernel
theorem d_OS_storedAt_0 : decode b_OS_storedAt 0 = .ok (.iload_n 1, 1) := by decide +kernel
theorem d_OS_storedAt_1 : decode b_OS_storedAt 1 = .ok (.sipush 160, 3) := by decide +kernel
theorem d_OS_storedAt_4 : decode b_OS_storedAt 4 = .ok (.if_icmp .ge 12, 3) := by decide +kernel
theorem d_OS_storedAt_7 : decode b_OS_storedAt 7 = .ok (.aload_n 0, 1) := by decide +kernel
theorem d_OS_storedAt_8 : decode b_OS_storedAt 8 = .ok (.getfield 26, 3) := by decide +kernel
theorem d_OS_storedAt_11 : decode b_OS_storedAt 11 = .ok (.iload_n 1, 1) := by decide +kernel
theorem d_OS_storedAt_12 : decode b_OS_storedAt 12 = .ok (.invokevirtual 187, 3) := by decide +kernel
theorem d_OS_storedAt_15 : decode b_OS_storedAt 15 = .ok (.lreturn, 1) := by decide +kernel
theorem d_OS_storedAt_16 : decode b_OS_storedAt 16 = .ok (.iload_n 1, 1) := by decide +kernel
theorem d_OS_storedAt_17 : decode b_OS_storedAt 17 = .ok (.sipush 320, 3) := by decide +kernel
theorem d_OS_storedAt_20 : decode b_OS_storedAt 20 = .ok (.if_icmp .ge 16, 3) := by decide +kernel
theorem d_OS_storedAt_23 : decode b_OS_storedAt 23 = .ok (.aload_n 0, 1) := by decide +kernel
theorem d_OS_storedAt_24 : decode b_OS_storedAt 24 = .ok (.getfield 30, 3) := by decide +kernel
theorem d_OS_storedAt_27 : decode b_OS_storedAt 27 = .ok (.iload_n 1, 1) := by decide +kernel
theorem d_OS_storedAt_28 : decode b_OS_storedAt 28 = .ok (.sipush 160, 3) := by decide +kernel
theorem d_OS_storedAt_31 : decode b_OS_storedAt 31 = .ok (.isub, 1) := by decide +kernel
theorem d_OS_storedAt_32 : decode b_OS_storedAt 32 = .ok (.invokevirtual 187, 3) := by decide +kernel
theorem d_OS_storedAt_35 : decode b_OS_storedAt 35 = .ok (.lreturn, 1) := by decide +kernel
theorem d_OS_storedAt_36 : decode b_OS_storedAt 36 = .ok (.aload_n 0, 1) := by decide +kernel
theorem d_OS_storedAt_37 : decode b_OS_storedAt 37 = .ok (.getfield 43, 3) := by decide +kernel
theorem d_OS_storedAt_40 : decode b_OS_storedAt 40 = .ok (.iload_n 1, 1) := by decide +kernel
theorem d_OS_storedAt_41 : decode b_OS_storedAt 41 = .ok (.sipush 160, 3) := by decide +kernel
theorem d_OS_storedAt_44 : decode b_OS_storedAt 44 = .ok (.isub, 1) := by decide +kernel
theorem d_OS_storedAt_45 : decode b_OS_storedAt 45 = .ok (.sipush 160, 3) := by decide +kernel
theorem d_OS_storedAt_48 : decode b_OS_storedAt 48 = .ok (.isub, 1) := by decide +kernel
theorem d_OS_storedAt_49 : decode b_OS_storedAt 49 = .ok (.invokevirtual 159, 3) := by decide +kernel
theorem d_OS_storedAt_52 : decode b_OS_storedAt 52 = .ok (.lreturn, 1) := by decide +kernel
theorem d_OS_isRefused_0 : decode b_OS_isRefused 0 = .ok (.aload_n 0, 1) := by decide +kernel
theorem d_OS_isRefused_1 : decode b_OS_isRefused 1 = .ok (.getfield 19, 3) := by decide +kernel
theorem d_OS_isRefused_4 : decode b_OS_isRefused 4 = .ok (.iload_n 1, 1) := by decide +kernel
theorem d_OS_isRefused_5 : decode b_OS_isRefused 5 = .ok (.invokevirtual 90, 3) := by decide +kernel
theorem d_OS_isRefused_8 : decode b_OS_isRefused 8 = .ok (.istore_n 3, 1) := by decide +kernel
theorem d_OS_isRefused_9 : decode b_OS_isRefused 9 = .ok (.iconst 0, 1) := by decide +kernel
theorem d_OS_isRefused_10 : decode b_OS_isRefused 10 = .ok (.istore 4, 2) := by decide +kernel
theorem d_OS_isRefused_12 : decode b_OS_isRefused 12 = .ok (.iload 4, 2) := by decide +kernel
theorem d_OS_isRefused_14 : decode b_OS_isRefused 14 = .ok (.bipush 40, 2) := by decide +kernel
theorem d_OS_isRefused_16 : decode b_OS_isRefused 16 = .ok (.if_icmp .ge 76, 3) := by decide +kernel
theorem d_OS_isRefused_19 : decode b_OS_isRefused 19 = .ok (.aload_n 0, 1) := by decide +kernel
theorem d_OS_isRefused_20 : decode b_OS_isRefused 20 = .ok (.iload_n 3, 1) := by decide +kernel
theorem d_OS_isRefused_21 : decode b_OS_isRefused 21 = .ok (.iload 4, 2) := by decide +kernel
theorem d_OS_isRefused_23 : decode b_OS_isRefused 23 = .ok (.invokevirtual 93, 3) := by decide +kernel
theorem d_OS_isRefused_26 : decode b_OS_isRefused 26 = .ok (.istore 5, 2) := by decide +kernel
theorem d_OS_isRefused_28 : decode b_OS_isRefused 28 = .ok (.aload_n 0, 1) := by decide +kernel
theorem d_OS_isRefused_29 : decode b_OS_isRefused 29 = .ok (.iload_n 1, 1) := by decide +kernel
theorem d_OS_isRefused_30 : decode b_OS_isRefused 30 = .ok (.iload 5, 2) := by decide +kernel
theorem d_OS_isRefused_32 : decode b_OS_isRefused 32 = .ok (.invokevirtual 190, 3) := by decide +kernel
theorem d_OS_isRefused_35 : decode b_OS_isRefused 35 = .ok (.ifCond .ne 24, 3) := by decide +kernel
theorem d_OS_isRefused_38 : decode b_OS_isRefused 38 = .ok (.aload_n 0, 1) := by decide +kernel
theorem d_OS_isRefused_39 : decode b_OS_isRefused 39 = .ok (.iload_n 1, 1) := by decide +kernel
theorem d_OS_isRefused_40 : decode b_OS_isRefused 40 = .ok (.iload 5, 2) := by decide +kernel
theorem d_OS_isRefused_42 : decode b_OS_isRefused 42 = .ok (.iload_n 2, 1) := by decide +kernel
theorem d_OS_isRefused_43 : decode b_OS_isRefused 43 = .ok (.iload 4, 2) := by decide +kernel
theorem d_OS_isRefused_45 : decode b_OS_isRefused 45 = .ok (.if_icmp .ne 7, 3) := by decide +kernel
theorem d_OS_isRefused_48 : decode b_OS_isRefused 48 = .ok (.iconst 1, 1) := by decide +kernel
theorem d_OS_isRefused_49 : decode b_OS_isRefused 49 = .ok (.goto 4, 3) := by decide +kernel
theorem d_OS_isRefused_52 : decode b_OS_isRefused 52 = .ok (.iconst 0, 1) := by decide +kernel
theorem d_OS_isRefused_53 : decode b_OS_isRefused 53 = .ok (.invokevirtual 193, 3) := by decide +kernel
theorem d_OS_isRefused_56 : decode b_OS_isRefused 56 = .ok (.ifCond .eq 7, 3) := by decide +kernel
theorem d_OS_isRefused_59 : decode b_OS_isRefused 59 = .ok (.iconst 1, 1) := by decide +kernel
theorem d_OS_isRefused_60 : decode b_OS_isRefused 60 = .ok (.goto 4, 3) := by decide +kernel
theorem d_OS_isRefused_63 : decode b_OS_isRefused 63 = .ok (.iconst 0, 1) := by decide +kernel
theorem d_OS_isRefused_64 : decode b_OS_isRefused 64 = .ok (.istore 6, 2) := by decide +kernel
theorem d_OS_isRefused_66 : decode b_OS_isRefused 66 = .ok (.iload 6, 2) := by decide +kernel
theorem d_OS_isRefused_68 : decode b_OS_isRefused 68 = .ok (.ifCond .eq 18, 3) := by decide +kernel
theorem d_OS_isRefused_71 : decode b_OS_isRefused 71 = .ok (.aload_n 0, 1) := by decide +kernel
theorem d_OS_isRefused_72 : decode b_OS_isRefused 72 = .ok (.getfield 12, 3) := by decide +kernel
theorem d_OS_isRefused_75 : decode b_OS_isRefused 75 = .ok (.iload_n 2, 1) := by decide +kernel
theorem d_OS_isRefused_76 : decode b_OS_isRefused 76 = .ok (.iload 4, 2) := by decide +kernel
theorem d_OS_isRefused_78 : decode b_OS_isRefused 78 = .ok (.invokevirtual 197, 3) := by decide +kernel
theorem d_OS_isRefused_81 : decode b_OS_isRefused 81 = .ok (.ifCond .eq 5, 3) := by decide +kernel
theorem d_OS_isRefused_84 : decode b_OS_isRefused 84 = .ok (.iconst 1, 1) := by decide +kernel
theorem d_OS_isRefused_85 : decode b_OS_isRefused 85 = .ok (.ireturn, 1) := by decide +kernel
theorem d_OS_isRefused_86 : decode b_OS_isRefused 86 = .ok (.iinc 4 1, 3) := by decide +kernel
theorem d_OS_isRefused_89 : decode b_OS_isRefused 89 = .ok (.goto (-77), 3) := by decide +kernel
theorem d_OS_isRefused_92 : decode b_OS_isRefused 92 = .ok (.iconst 0, 1) := by decide +kernel
theorem d_OS_isRefused_93 : decode b_OS_isRefused 93 = .ok (.ireturn, 1) := by decide +kernel
theorem d_OS_isOutputOfAnother_0 : decode b_OS_isOutputOfAnother 0 = .ok (.aload_n 0, 1) := by decide +kernel
theorem d_OS_isOutputOfAnother_1 : decode b_OS_isOutputOfAnother 1 = .ok (.getfield 26, 3) := by decide +kernel
theorem d_OS_isOutputOfAnother_4 : decode b_OS_isOutputOfAnother 4 = .ok (.iload_n 2, 1) := by decide +kernel
theorem d_OS_isOutputOfAnother_5 : decode b_OS_isOutputOfAnother 5 = .ok (.invokevirtual 134, 3) := by decide +kernel
theorem d_OS_isOutputOfAnother_8 : decode b_OS_isOutputOfAnother 8 = .ok (.ifCond .eq 23, 3) := by decide +kernel
theorem d_OS_isOutputOfAnother_11 : decode b_OS_isOutputOfAnother 11 = .ok (.aload_n 0, 1) := by decide +kernel
theorem d_OS_isOutputOfAnother_12 : decode b_OS_isOutputOfAnother 12 = .ok (.iload_n 2, 1) := by decide +kernel
theorem d_OS_isOutputOfAnother_13 : decode b_OS_isOutputOfAnother 13 = .ok (.invokevirtual 142, 3) := by decide +kernel
theorem d_OS_isOutputOfAnother_16 : decode b_OS_isOutputOfAnother 16 = .ok (.aload_n 0, 1) := by decide +kernel
theorem d_OS_isOutputOfAnother_17 : decode b_OS_isOutputOfAnother 17 = .ok (.getfield 19, 3) := by decide +kernel
theorem d_OS_isOutputOfAnother_20 : decode b_OS_isOutputOfAnother 20 = .ok (.iload_n 1, 1) := by decide +kernel
theorem d_OS_isOutputOfAnother_21 : decode b_OS_isOutputOfAnother 21 = .ok (.invokevirtual 200, 3) := by decide +kernel
theorem d_OS_isOutputOfAnother_24 : decode b_OS_isOutputOfAnother 24 = .ok (.if_icmp .eq 7, 3) := by decide +kernel
theorem d_OS_isOutputOfAnother_27 : decode b_OS_isOutputOfAnother 27 = .ok (.iconst 1, 1) := by decide +kernel
theorem d_OS_isOutputOfAnother_28 : decode b_OS_isOutputOfAnother 28 = .ok (.goto 4, 3) := by decide +kernel
theorem d_OS_isOutputOfAnother_31 : decode b_OS_isOutputOfAnother 31 = .ok (.iconst 0, 1) := by decide +kernel
theorem d_OS_isOutputOfAnother_32 : decode b_OS_isOutputOfAnother 32 = .ok (.ireturn, 1) := by decide +kernel
theorem d_OS_isStagedAgainst_0 : decode b_OS_isStagedAgainst 0 = .ok (.aload_n 0, 1) := by decide +kernel
theorem d_OS_isStagedAgainst_1 : decode b_OS_isStagedAgainst 1 = .ok (.getfield 30, 3) := by decide +kernel
theorem d_OS_isStagedAgainst_4 : decode b_OS_isStagedAgainst 4 = .ok (.iload_n 2, 1) := by decide +kernel
theorem d_OS_isStagedAgainst_5 : decode b_OS_isStagedAgainst 5 = .ok (.invokevirtual 134, 3) := by decide +kernel
theorem d_OS_isStagedAgainst_8 : decode b_OS_isStagedAgainst 8 = .ok (.ifCond .eq 23, 3) := by decide +kernel
theorem d_OS_isStagedAgainst_11 : decode b_OS_isStagedAgainst 11 = .ok (.iload_n 3, 1) := by decide +kernel
theorem d_OS_isStagedAgainst_12 : decode b_OS_isStagedAgainst 12 = .ok (.ifCond .eq 15, 3) := by decide +kernel
theorem d_OS_isStagedAgainst_15 : decode b_OS_isStagedAgainst 15 = .ok (.aload_n 0, 1) := by decide +kernel
theorem d_OS_isStagedAgainst_16 : decode b_OS_isStagedAgainst 16 = .ok (.getfield 30, 3) := by decide +kernel
theorem d_OS_isStagedAgainst_19 : decode b_OS_isStagedAgainst 19 = .ok (.iload_n 2, 1) := by decide +kernel
theorem d_OS_isStagedAgainst_20 : decode b_OS_isStagedAgainst 20 = .ok (.iload_n 1, 1) := by decide +kernel
theorem d_OS_isStagedAgainst_21 : decode b_OS_isStagedAgainst 21 = .ok (.invokevirtual 97, 3) := by decide +kernel
theorem d_OS_isStagedAgainst_24 : decode b_OS_isStagedAgainst 24 = .ok (.ifCond .ne 7, 3) := by decide +kernel
theorem d_OS_isStagedAgainst_27 : decode b_OS_isStagedAgainst 27 = .ok (.iconst 1, 1) := by decide +kernel
theorem d_OS_isStagedAgainst_28 : decode b_OS_isStagedAgainst 28 = .ok (.goto 4, 3) := by decide +kernel
theorem d_OS_isStagedAgainst_31 : decode b_OS_isStagedAgainst 31 = .ok (.iconst 0, 1) := by decide +kernel
theorem d_OS_isStagedAgainst_32 : decode b_OS_isStagedAgainst 32 = .ok (.ireturn, 1) := by decide +kernel
theorem d_OS_countStaged_0 : decode b_OS_countStaged 0 = .ok (.aload_n 0, 1) := by decide +kernel
theorem d_OS_countStaged_1 : decode b_OS_countStaged 1 = .ok (.getfield 19, 3) := by decide +kernel
theorem d_OS_countStaged_4 : decode b_OS_countStaged 4 = .ok (.iload_n 1, 1) := by decide +kernel
theorem d_OS_countStaged_5 : decode b_OS_countStaged 5 = .ok (.invokevirtual 90, 3) := by decide +kernel
theorem d_OS_countStaged_8 : decode b_OS_countStaged 8 = .ok (.istore_n 2, 1) := by decide +kernel
theorem d_OS_countStaged_9 : decode b_OS_countStaged 9 = .ok (.iconst 0, 1) := by decide +kernel
theorem d_OS_countStaged_10 : decode b_OS_countStaged 10 = .ok (.istore_n 3, 1) := by decide +kernel
theorem d_OS_countStaged_11 : decode b_OS_countStaged 11 = .ok (.iconst 0, 1) := by decide +kernel
theorem d_OS_countStaged_12 : decode b_OS_countStaged 12 = .ok (.istore 4, 2) := by decide +kernel
theorem d_OS_countStaged_14 : decode b_OS_countStaged 14 = .ok (.iload 4, 2) := by decide +kernel
theorem d_OS_countStaged_16 : decode b_OS_countStaged 16 = .ok (.bipush 40, 2) := by decide +kernel
theorem d_OS_countStaged_18 : decode b_OS_countStaged 18 = .ok (.if_icmp .ge 30, 3) := by decide +kernel
theorem d_OS_countStaged_21 : decode b_OS_countStaged 21 = .ok (.aload_n 0, 1) := by decide +kernel
theorem d_OS_countStaged_22 : decode b_OS_countStaged 22 = .ok (.getfield 30, 3) := by decide +kernel
theorem d_OS_countStaged_25 : decode b_OS_countStaged 25 = .ok (.aload_n 0, 1) := by decide +kernel
theorem d_OS_countStaged_26 : decode b_OS_countStaged 26 = .ok (.iload_n 2, 1) := by decide +kernel
theorem d_OS_countStaged_27 : decode b_OS_countStaged 27 = .ok (.iload 4, 2) := by decide +kernel
theorem d_OS_countStaged_29 : decode b_OS_countStaged 29 = .ok (.invokevirtual 93, 3) := by decide +kernel
theorem d_OS_countStaged_32 : decode b_OS_countStaged 32 = .ok (.iload_n 1, 1) := by decide +kernel
theorem d_OS_countStaged_33 : decode b_OS_countStaged 33 = .ok (.invokevirtual 97, 3) := by decide +kernel
theorem d_OS_countStaged_36 : decode b_OS_countStaged 36 = .ok (.ifCond .eq 6, 3) := by decide +kernel
theorem d_OS_countStaged_39 : decode b_OS_countStaged 39 = .ok (.iinc 3 1, 3) := by decide +kernel
theorem d_OS_countStaged_42 : decode b_OS_countStaged 42 = .ok (.iinc 4 1, 3) := by decide +kernel
theorem d_OS_countStaged_45 : decode b_OS_countStaged 45 = .ok (.goto (-31), 3) := by decide +kernel
theorem d_OS_countStaged_48 : decode b_OS_countStaged 48 = .ok (.iload_n 3, 1) := by decide +kernel
theorem d_OS_countStaged_49 : decode b_OS_countStaged 49 = .ok (.ireturn, 1) := by decide +kernel
theorem d_OS_replaceOutputs_0 : decode b_OS_replaceOutputs 0 = .ok (.aload_n 0, 1) := by decide +kernel
theorem d_OS_replaceOutputs_1 : decode b_OS_replaceOutputs 1 = .ok (.getfield 19, 3) := by decide +kernel
theorem d_OS_replaceOutputs_4 : decode b_OS_replaceOutputs 4 = .ok (.iload_n 1, 1) := by decide +kernel
theorem d_OS_replaceOutputs_5 : decode b_OS_replaceOutputs 5 = .ok (.invokevirtual 90, 3) := by decide +kernel
theorem d_OS_replaceOutputs_8 : decode b_OS_replaceOutputs 8 = .ok (.istore_n 2, 1) := by decide +kernel
theorem d_OS_replaceOutputs_9 : decode b_OS_replaceOutputs 9 = .ok (.aload_n 0, 1) := by decide +kernel
theorem d_OS_replaceOutputs_10 : decode b_OS_replaceOutputs 10 = .ok (.getfield 19, 3) := by decide +kernel
theorem d_OS_replaceOutputs_13 : decode b_OS_replaceOutputs 13 = .ok (.iload_n 1, 1) := by decide +kernel
theorem d_OS_replaceOutputs_14 : decode b_OS_replaceOutputs 14 = .ok (.invokevirtual 200, 3) := by decide +kernel
theorem d_OS_replaceOutputs_17 : decode b_OS_replaceOutputs 17 = .ok (.istore_n 3, 1) := by decide +kernel
theorem d_OS_replaceOutputs_18 : decode b_OS_replaceOutputs 18 = .ok (.iconst 0, 1) := by decide +kernel
theorem d_OS_replaceOutputs_19 : decode b_OS_replaceOutputs 19 = .ok (.istore 4, 2) := by decide +kernel
theorem d_OS_replaceOutputs_21 : decode b_OS_replaceOutputs 21 = .ok (.iconst 0, 1) := by decide +kernel
theorem d_OS_replaceOutputs_22 : decode b_OS_replaceOutputs 22 = .ok (.istore 5, 2) := by decide +kernel
theorem d_OS_replaceOutputs_24 : decode b_OS_replaceOutputs 24 = .ok (.iload 5, 2) := by decide +kernel
theorem d_OS_replaceOutputs_26 : decode b_OS_replaceOutputs 26 = .ok (.bipush 40, 2) := by decide +kernel
theorem d_OS_replaceOutputs_28 : decode b_OS_replaceOutputs 28 = .ok (.if_icmp .ge 105, 3) := by decide +kernel
theorem d_OS_replaceOutputs_31 : decode b_OS_replaceOutputs 31 = .ok (.aload_n 0, 1) := by decide +kernel
theorem d_OS_replaceOutputs_32 : decode b_OS_replaceOutputs 32 = .ok (.iload_n 2, 1) := by decide +kernel
theorem d_OS_replaceOutputs_33 : decode b_OS_replaceOutputs 33 = .ok (.iload 5, 2) := by decide +kernel
theorem d_OS_replaceOutputs_35 : decode b_OS_replaceOutputs 35 = .ok (.invokevirtual 93, 3) := by decide +kernel
theorem d_OS_replaceOutputs_38 : decode b_OS_replaceOutputs 38 = .ok (.istore 6, 2) := by decide +kernel
theorem d_OS_replaceOutputs_40 : decode b_OS_replaceOutputs 40 = .ok (.aload_n 0, 1) := by decide +kernel
theorem d_OS_replaceOutputs_41 : decode b_OS_replaceOutputs 41 = .ok (.getfield 30, 3) := by decide +kernel
theorem d_OS_replaceOutputs_44 : decode b_OS_replaceOutputs 44 = .ok (.iload 6, 2) := by decide +kernel
theorem d_OS_replaceOutputs_46 : decode b_OS_replaceOutputs 46 = .ok (.iload_n 1, 1) := by decide +kernel
theorem d_OS_replaceOutputs_47 : decode b_OS_replaceOutputs 47 = .ok (.invokevirtual 97, 3) := by decide +kernel
theorem d_OS_replaceOutputs_50 : decode b_OS_replaceOutputs 50 = .ok (.ifCond .eq 43, 3) := by decide +kernel
theorem d_OS_replaceOutputs_53 : decode b_OS_replaceOutputs 53 = .ok (.aload_n 0, 1) := by decide +kernel
theorem d_OS_replaceOutputs_54 : decode b_OS_replaceOutputs 54 = .ok (.getfield 26, 3) := by decide +kernel
theorem d_OS_replaceOutputs_57 : decode b_OS_replaceOutputs 57 = .ok (.iload 6, 2) := by decide +kernel
theorem d_OS_replaceOutputs_59 : decode b_OS_replaceOutputs 59 = .ok (.iload_n 1, 1) := by decide +kernel
theorem d_OS_replaceOutputs_60 : decode b_OS_replaceOutputs 60 = .ok (.aload_n 0, 1) := by decide +kernel
theorem d_OS_replaceOutputs_61 : decode b_OS_replaceOutputs 61 = .ok (.getfield 30, 3) := by decide +kernel
theorem d_OS_replaceOutputs_64 : decode b_OS_replaceOutputs 64 = .ok (.iload 6, 2) := by decide +kernel
theorem d_OS_replaceOutputs_66 : decode b_OS_replaceOutputs 66 = .ok (.invokevirtual 135, 3) := by decide +kernel
theorem d_OS_replaceOutputs_69 : decode b_OS_replaceOutputs 69 = .ok (.aload_n 0, 1) := by decide +kernel
theorem d_OS_replaceOutputs_70 : decode b_OS_replaceOutputs 70 = .ok (.getfield 30, 3) := by decide +kernel
theorem d_OS_replaceOutputs_73 : decode b_OS_replaceOutputs 73 = .ok (.iload 6, 2) := by decide +kernel
theorem d_OS_replaceOutputs_75 : decode b_OS_replaceOutputs 75 = .ok (.invokevirtual 165, 3) := by decide +kernel
theorem d_OS_replaceOutputs_78 : decode b_OS_replaceOutputs 78 = .ok (.aload_n 0, 1) := by decide +kernel
theorem d_OS_replaceOutputs_79 : decode b_OS_replaceOutputs 79 = .ok (.getfield 30, 3) := by decide +kernel
theorem d_OS_replaceOutputs_82 : decode b_OS_replaceOutputs 82 = .ok (.iload 6, 2) := by decide +kernel
theorem d_OS_replaceOutputs_84 : decode b_OS_replaceOutputs 84 = .ok (.invokevirtual 139, 3) := by decide +kernel
theorem d_OS_replaceOutputs_87 : decode b_OS_replaceOutputs 87 = .ok (.invokevirtual 109, 3) := by decide +kernel
theorem d_OS_replaceOutputs_90 : decode b_OS_replaceOutputs 90 = .ok (.goto 37, 3) := by decide +kernel
theorem d_OS_replaceOutputs_93 : decode b_OS_replaceOutputs 93 = .ok (.aload_n 0, 1) := by decide +kernel
theorem d_OS_replaceOutputs_94 : decode b_OS_replaceOutputs 94 = .ok (.getfield 26, 3) := by decide +kernel
theorem d_OS_replaceOutputs_97 : decode b_OS_replaceOutputs 97 = .ok (.iload 6, 2) := by decide +kernel
theorem d_OS_replaceOutputs_99 : decode b_OS_replaceOutputs 99 = .ok (.invokevirtual 134, 3) := by decide +kernel
theorem d_OS_replaceOutputs_102 : decode b_OS_replaceOutputs 102 = .ok (.ifCond .eq 25, 3) := by decide +kernel
theorem d_OS_replaceOutputs_105 : decode b_OS_replaceOutputs 105 = .ok (.aload_n 0, 1) := by decide +kernel
theorem d_OS_replaceOutputs_106 : decode b_OS_replaceOutputs 106 = .ok (.iload 6, 2) := by decide +kernel
theorem d_OS_replaceOutputs_108 : decode b_OS_replaceOutputs 108 = .ok (.invokevirtual 142, 3) := by decide +kernel
theorem d_OS_replaceOutputs_111 : decode b_OS_replaceOutputs 111 = .ok (.iload_n 3, 1) := by decide +kernel
theorem d_OS_replaceOutputs_112 : decode b_OS_replaceOutputs 112 = .ok (.if_icmp .ne 15, 3) := by decide +kernel
theorem d_OS_replaceOutputs_115 : decode b_OS_replaceOutputs 115 = .ok (.aload_n 0, 1) := by decide +kernel
theorem d_OS_replaceOutputs_116 : decode b_OS_replaceOutputs 116 = .ok (.getfield 26, 3) := by decide +kernel
theorem d_OS_replaceOutputs_119 : decode b_OS_replaceOutputs 119 = .ok (.iload 6, 2) := by decide +kernel
theorem d_OS_replaceOutputs_121 : decode b_OS_replaceOutputs 121 = .ok (.invokevirtual 149, 3) := by decide +kernel
theorem d_OS_replaceOutputs_124 : decode b_OS_replaceOutputs 124 = .ok (.iinc 4 1, 3) := by decide +kernel
theorem d_OS_replaceOutputs_127 : decode b_OS_replaceOutputs 127 = .ok (.iinc 5 1, 3) := by decide +kernel
theorem d_OS_replaceOutputs_130 : decode b_OS_replaceOutputs 130 = .ok (.goto (-106), 3) := by decide +kernel
theorem d_OS_replaceOutputs_133 : decode b_OS_replaceOutputs 133 = .ok (.aload_n 0, 1) := by decide +kernel
theorem d_OS_replaceOutputs_134 : decode b_OS_replaceOutputs 134 = .ok (.getfield 50, 3) := by decide +kernel
theorem d_OS_replaceOutputs_137 : decode b_OS_replaceOutputs 137 = .ok (.iload_n 3, 1) := by decide +kernel
theorem d_OS_replaceOutputs_138 : decode b_OS_replaceOutputs 138 = .ok (.iload_n 2, 1) := by decide +kernel
theorem d_OS_replaceOutputs_139 : decode b_OS_replaceOutputs 139 = .ok (.iconst 0, 1) := by decide +kernel
theorem d_OS_replaceOutputs_140 : decode b_OS_replaceOutputs 140 = .ok (.invokevirtual 145, 3) := by decide +kernel
theorem d_OS_replaceOutputs_143 : decode b_OS_replaceOutputs 143 = .ok (.iload 4, 2) := by decide +kernel
theorem d_OS_replaceOutputs_145 : decode b_OS_replaceOutputs 145 = .ok (.ireturn, 1) := by decide +kernel
theorem d_OS_dropStaged_0 : decode b_OS_dropStaged 0 = .ok (.aload_n 0, 1) := by decide +kernel
theorem d_OS_dropStaged_1 : decode b_OS_dropStaged 1 = .ok (.getfield 19, 3) := by decide +kernel
theorem d_OS_dropStaged_4 : decode b_OS_dropStaged 4 = .ok (.iload_n 1, 1) := by decide +kernel
theorem d_OS_dropStaged_5 : decode b_OS_dropStaged 5 = .ok (.invokevirtual 90, 3) := by decide +kernel
theorem d_OS_dropStaged_8 : decode b_OS_dropStaged 8 = .ok (.istore_n 2, 1) := by decide +kernel
theorem d_OS_dropStaged_9 : decode b_OS_dropStaged 9 = .ok (.iconst 0, 1) := by decide +kernel
theorem d_OS_dropStaged_10 : decode b_OS_dropStaged 10 = .ok (.istore_n 3, 1) := by decide +kernel
theorem d_OS_dropStaged_11 : decode b_OS_dropStaged 11 = .ok (.iload_n 3, 1) := by decide +kernel
theorem d_OS_dropStaged_12 : decode b_OS_dropStaged 12 = .ok (.bipush 40, 2) := by decide +kernel
theorem d_OS_dropStaged_14 : decode b_OS_dropStaged 14 = .ok (.if_icmp .ge 39, 3) := by decide +kernel
theorem d_OS_dropStaged_17 : decode b_OS_dropStaged 17 = .ok (.aload_n 0, 1) := by decide +kernel
theorem d_OS_dropStaged_18 : decode b_OS_dropStaged 18 = .ok (.iload_n 2, 1) := by decide +kernel
theorem d_OS_dropStaged_19 : decode b_OS_dropStaged 19 = .ok (.iload_n 3, 1) := by decide +kernel
theorem d_OS_dropStaged_20 : decode b_OS_dropStaged 20 = .ok (.invokevirtual 93, 3) := by decide +kernel
theorem d_OS_dropStaged_23 : decode b_OS_dropStaged 23 = .ok (.istore 4, 2) := by decide +kernel
theorem d_OS_dropStaged_25 : decode b_OS_dropStaged 25 = .ok (.aload_n 0, 1) := by decide +kernel
theorem d_OS_dropStaged_26 : decode b_OS_dropStaged 26 = .ok (.getfield 30, 3) := by decide +kernel
theorem d_OS_dropStaged_29 : decode b_OS_dropStaged 29 = .ok (.iload 4, 2) := by decide +kernel
theorem d_OS_dropStaged_31 : decode b_OS_dropStaged 31 = .ok (.iload_n 1, 1) := by decide +kernel
theorem d_OS_dropStaged_32 : decode b_OS_dropStaged 32 = .ok (.invokevirtual 97, 3) := by decide +kernel
theorem d_OS_dropStaged_35 : decode b_OS_dropStaged 35 = .ok (.ifCond .eq 12, 3) := by decide +kernel
theorem d_OS_dropStaged_38 : decode b_OS_dropStaged 38 = .ok (.aload_n 0, 1) := by decide +kernel
theorem d_OS_dropStaged_39 : decode b_OS_dropStaged 39 = .ok (.getfield 30, 3) := by decide +kernel
theorem d_OS_dropStaged_42 : decode b_OS_dropStaged 42 = .ok (.iload 4, 2) := by decide +kernel
theorem d_OS_dropStaged_44 : decode b_OS_dropStaged 44 = .ok (.invokevirtual 149, 3) := by decide +kernel
theorem d_OS_dropStaged_47 : decode b_OS_dropStaged 47 = .ok (.iinc 3 1, 3) := by decide +kernel
theorem d_OS_dropStaged_50 : decode b_OS_dropStaged 50 = .ok (.goto (-39), 3) := by decide +kernel
theorem d_OS_dropStaged_53 : decode b_OS_dropStaged 53 = .ok (.return_, 1) := by decide +kernel
theorem d_OS_targetAt_0 : decode b_OS_targetAt 0 = .ok (.aload_n 0, 1) := by decide +kernel
theorem d_OS_targetAt_1 : decode b_OS_targetAt 1 = .ok (.getfield 19, 3) := by decide +kernel
theorem d_OS_targetAt_4 : decode b_OS_targetAt 4 = .ok (.aload_n 0, 1) := by decide +kernel
theorem d_OS_targetAt_5 : decode b_OS_targetAt 5 = .ok (.getfield 26, 3) := by decide +kernel
theorem d_OS_targetAt_8 : decode b_OS_targetAt 8 = .ok (.iload_n 1, 1) := by decide +kernel
theorem d_OS_targetAt_9 : decode b_OS_targetAt 9 = .ok (.invokevirtual 168, 3) := by decide +kernel
theorem d_OS_targetAt_12 : decode b_OS_targetAt 12 = .ok (.invokevirtual 200, 3) := by decide +kernel
theorem d_OS_targetAt_15 : decode b_OS_targetAt 15 = .ok (.ireturn, 1) := by decide +kernel
theorem d_OS_slotOf_0 : decode b_OS_slotOf 0 = .ok (.iload_n 1, 1) := by decide +kernel
theorem d_OS_slotOf_1 : decode b_OS_slotOf 1 = .ok (.invokestatic 66, 3) := by decide +kernel
theorem d_OS_slotOf_4 : decode b_OS_slotOf 4 = .ok (.ifCond .eq 14, 3) := by decide +kernel
theorem d_OS_slotOf_7 : decode b_OS_slotOf 7 = .ok (.aload_n 0, 1) := by decide +kernel
theorem d_OS_slotOf_8 : decode b_OS_slotOf 8 = .ok (.getfield 12, 3) := by decide +kernel
theorem d_OS_slotOf_11 : decode b_OS_slotOf 11 = .ok (.iload_n 2, 1) := by decide +kernel
theorem d_OS_slotOf_12 : decode b_OS_slotOf 12 = .ok (.invokevirtual 87, 3) := by decide +kernel
theorem d_OS_slotOf_15 : decode b_OS_slotOf 15 = .ok (.ifCond .ne 5, 3) := by decide +kernel
theorem d_OS_slotOf_18 : decode b_OS_slotOf 18 = .ok (.iconst (-1), 1) := by decide +kernel
theorem d_OS_slotOf_19 : decode b_OS_slotOf 19 = .ok (.ireturn, 1) := by decide +kernel
theorem d_OS_slotOf_20 : decode b_OS_slotOf 20 = .ok (.iload_n 1, 1) := by decide +kernel
theorem d_OS_slotOf_21 : decode b_OS_slotOf 21 = .ok (.bipush 40, 2) := by decide +kernel
theorem d_OS_slotOf_23 : decode b_OS_slotOf 23 = .ok (.imul, 1) := by decide +kernel
theorem d_OS_slotOf_24 : decode b_OS_slotOf 24 = .ok (.iload_n 2, 1) := by decide +kernel
theorem d_OS_slotOf_25 : decode b_OS_slotOf 25 = .ok (.iadd, 1) := by decide +kernel
theorem d_OS_slotOf_26 : decode b_OS_slotOf 26 = .ok (.ireturn, 1) := by decide +kernel
theorem d_OS_isTarget_0 : decode b_OS_isTarget 0 = .ok (.iload_n 0, 1) := by decide +kernel
theorem d_OS_isTarget_1 : decode b_OS_isTarget 1 = .ok (.ifCond .lt 13, 3) := by decide +kernel
theorem d_OS_isTarget_4 : decode b_OS_isTarget 4 = .ok (.iload_n 0, 1) := by decide +kernel
theorem d_OS_isTarget_5 : decode b_OS_isTarget 5 = .ok (.bipush 12, 2) := by decide +kernel
theorem d_OS_isTarget_7 : decode b_OS_isTarget 7 = .ok (.if_icmp .ge 7, 3) := by decide +kernel
theorem d_OS_isTarget_10 : decode b_OS_isTarget 10 = .ok (.iconst 1, 1) := by decide +kernel
theorem d_OS_isTarget_11 : decode b_OS_isTarget 11 = .ok (.goto 4, 3) := by decide +kernel
theorem d_OS_isTarget_14 : decode b_OS_isTarget 14 = .ok (.iconst 0, 1) := by decide +kernel
theorem d_OS_isTarget_15 : decode b_OS_isTarget 15 = .ok (.ireturn, 1) := by decide +kernel
theorem d_OS_isConfiguration_0 : decode b_OS_isConfiguration 0 = .ok (.iload_n 0, 1) := by decide +kernel
theorem d_OS_isConfiguration_1 : decode b_OS_isConfiguration 1 = .ok (.ifCond .lt 12, 3) := by decide +kernel
theorem d_OS_isConfiguration_4 : decode b_OS_isConfiguration 4 = .ok (.iload_n 0, 1) := by decide +kernel
theorem d_OS_isConfiguration_5 : decode b_OS_isConfiguration 5 = .ok (.iconst 4, 1) := by decide +kernel
theorem d_OS_isConfiguration_6 : decode b_OS_isConfiguration 6 = .ok (.if_icmp .ge 7, 3) := by decide +kernel
theorem d_OS_isConfiguration_9 : decode b_OS_isConfiguration 9 = .ok (.iconst 1, 1) := by decide +kernel
theorem d_OS_isConfiguration_10 : decode b_OS_isConfiguration 10 = .ok (.goto 4, 3) := by decide +kernel
theorem d_OS_isConfiguration_13 : decode b_OS_isConfiguration 13 = .ok (.iconst 0, 1) := by decide +kernel
theorem d_OS_isConfiguration_14 : decode b_OS_isConfiguration 14 = .ok (.ireturn, 1) := by decide +kernel
theorem d_OS_isRun_0 : decode b_OS_isRun 0 = .ok (.iload_n 0, 1) := by decide +kernel
theorem d_OS_isRun_1 : decode b_OS_isRun 1 = .ok (.ifCond .lt 13, 3) := by decide +kernel
theorem d_OS_isRun_4 : decode b_OS_isRun 4 = .ok (.iload_n 0, 1) := by decide +kernel
theorem d_OS_isRun_5 : decode b_OS_isRun 5 = .ok (.bipush 8, 2) := by decide +kernel
theorem d_OS_isRun_7 : decode b_OS_isRun 7 = .ok (.if_icmp .ge 7, 3) := by decide +kernel
theorem d_OS_isRun_10 : decode b_OS_isRun 10 = .ok (.iconst 1, 1) := by decide +kernel
theorem d_OS_isRun_11 : decode b_OS_isRun 11 = .ok (.goto 4, 3) := by decide +kernel
theorem d_OS_isRun_14 : decode b_OS_isRun 14 = .ok (.iconst 0, 1) := by decide +kernel
theorem d_OS_isRun_15 : decode b_OS_isRun 15 = .ok (.ireturn, 1) := by decide +kernel
theorem d_OS_find_0 : decode b_OS_find 0 = .ok (.iconst 0, 1) := by decide +kernel
theorem d_OS_find_1 : decode b_OS_find 1 = .ok (.istore 4, 2) := by decide +kernel
theorem d_OS_find_3 : decode b_OS_find 3 = .ok (.iload 4, 2) := by decide +kernel
theorem d_OS_find_5 : decode b_OS_find 5 = .ok (.iload_n 1, 1) := by decide +kernel
theorem d_OS_find_6 : decode b_OS_find 6 = .ok (.if_icmp .ge 28, 3) := by decide +kernel
theorem d_OS_find_9 : decode b_OS_find 9 = .ok (.iload 4, 2) := by decide +kernel
theorem d_OS_find_11 : decode b_OS_find 11 = .ok (.aload_n 0, 1) := by decide +kernel
theorem d_OS_find_12 : decode b_OS_find 12 = .ok (.arraylength, 1) := by decide +kernel
theorem d_OS_find_13 : decode b_OS_find 13 = .ok (.if_icmp .ge 21, 3) := by decide +kernel
theorem d_OS_find_16 : decode b_OS_find 16 = .ok (.aload_n 0, 1) := by decide +kernel
theorem d_OS_find_17 : decode b_OS_find 17 = .ok (.iload 4, 2) := by decide +kernel
theorem d_OS_find_19 : decode b_OS_find 19 = .ok (.laload, 1) := by decide +kernel
theorem d_OS_find_20 : decode b_OS_find 20 = .ok (.lload_n 2, 1) := by decide +kernel
theorem d_OS_find_21 : decode b_OS_find 21 = .ok (.lcmp, 1) := by decide +kernel
theorem d_OS_find_22 : decode b_OS_find 22 = .ok (.ifCond .ne 6, 3) := by decide +kernel
theorem d_OS_find_25 : decode b_OS_find 25 = .ok (.iload 4, 2) := by decide +kernel
theorem d_OS_find_27 : decode b_OS_find 27 = .ok (.ireturn, 1) := by decide +kernel
theorem d_OS_find_28 : decode b_OS_find 28 = .ok (.iinc 4 1, 3) := by decide +kernel
theorem d_OS_find_31 : decode b_OS_find 31 = .ok (.goto (-28), 3) := by decide +kernel
theorem d_OS_find_34 : decode b_OS_find 34 = .ok (.iconst (-1), 1) := by decide +kernel
theorem d_OS_find_35 : decode b_OS_find 35 = .ok (.ireturn, 1) := by decide +kernel
end
section
theorem d_MO_init_0 : decode b_MO_init 0 = .ok (.aload_n 0, 1) := by decide +kernel
theorem d_MO_init_1 : decode b_MO_init 1 = .ok (.invokespecial 1, 3) := by decide +kernel
theorem d_MO_init_4 : decode b_MO_init 4 = .ok (.aload_n 0, 1) := by decide +kernel
theorem d_MO_init_5 : decode b_MO_init 5 = .ok (.bipush 40, 2) := by decide +kernel
theorem d_MO_init_7 : decode b_MO_init 7 = .ok (.newarray .int, 2) := by decide +kernel
theorem d_MO_init_9 : decode b_MO_init 9 = .ok (.putfield 7, 3) := by decide +kernel
theorem d_MO_init_12 : decode b_MO_init 12 = .ok (.aload_n 0, 1) := by decide +kernel
theorem d_MO_init_13 : decode b_MO_init 13 = .ok (.sipush 160, 3) := by decide +kernel
theorem d_MO_init_16 : decode b_MO_init 16 = .ok (.newarray .int, 2) := by decide +kernel
theorem d_MO_init_18 : decode b_MO_init 18 = .ok (.putfield 13, 3) := by decide +kernel
theorem d_MO_init_21 : decode b_MO_init 21 = .ok (.aload_n 0, 1) := by decide +kernel
theorem d_MO_init_22 : decode b_MO_init 22 = .ok (.sipush 160, 3) := by decide +kernel
theorem d_MO_init_25 : decode b_MO_init 25 = .ok (.newarray .int, 2) := by decide +kernel
theorem d_MO_init_27 : decode b_MO_init 27 = .ok (.putfield 16, 3) := by decide +kernel
theorem d_MO_init_30 : decode b_MO_init 30 = .ok (.aload_n 0, 1) := by decide +kernel
theorem d_MO_init_31 : decode b_MO_init 31 = .ok (.sipush 160, 3) := by decide +kernel
theorem d_MO_init_34 : decode b_MO_init 34 = .ok (.newarray .long, 2) := by decide +kernel
theorem d_MO_init_36 : decode b_MO_init 36 = .ok (.putfield 19, 3) := by decide +kernel
theorem d_MO_init_39 : decode b_MO_init 39 = .ok (.aload_n 0, 1) := by decide +kernel
theorem d_MO_init_40 : decode b_MO_init 40 = .ok (.sipush 160, 3) := by decide +kernel
theorem d_MO_init_43 : decode b_MO_init 43 = .ok (.newarray .boolean, 2) := by decide +kernel
theorem d_MO_init_45 : decode b_MO_init 45 = .ok (.putfield 23, 3) := by decide +kernel
theorem d_MO_init_48 : decode b_MO_init 48 = .ok (.aload_n 0, 1) := by decide +kernel
theorem d_MO_init_49 : decode b_MO_init 49 = .ok (.sipush 160, 3) := by decide +kernel
theorem d_MO_init_52 : decode b_MO_init 52 = .ok (.newarray .boolean, 2) := by decide +kernel
theorem d_MO_init_54 : decode b_MO_init 54 = .ok (.putfield 27, 3) := by decide +kernel
theorem d_MO_init_57 : decode b_MO_init 57 = .ok (.aload_n 0, 1) := by decide +kernel
theorem d_MO_init_58 : decode b_MO_init 58 = .ok (.bipush 80, 2) := by decide +kernel
theorem d_MO_init_60 : decode b_MO_init 60 = .ok (.newarray .int, 2) := by decide +kernel
theorem d_MO_init_62 : decode b_MO_init 62 = .ok (.putfield 30, 3) := by decide +kernel
theorem d_MO_init_65 : decode b_MO_init 65 = .ok (.aload_n 0, 1) := by decide +kernel
theorem d_MO_init_66 : decode b_MO_init 66 = .ok (.bipush 80, 2) := by decide +kernel
theorem d_MO_init_68 : decode b_MO_init 68 = .ok (.newarray .int, 2) := by decide +kernel
theorem d_MO_init_70 : decode b_MO_init 70 = .ok (.putfield 33, 3) := by decide +kernel
theorem d_MO_init_73 : decode b_MO_init 73 = .ok (.aload_n 0, 1) := by decide +kernel
theorem d_MO_init_74 : decode b_MO_init 74 = .ok (.bipush 80, 2) := by decide +kernel
theorem d_MO_init_76 : decode b_MO_init 76 = .ok (.newarray .int, 2) := by decide +kernel
theorem d_MO_init_78 : decode b_MO_init 78 = .ok (.putfield 36, 3) := by decide +kernel
theorem d_MO_init_81 : decode b_MO_init 81 = .ok (.aload_n 0, 1) := by decide +kernel
theorem d_MO_init_82 : decode b_MO_init 82 = .ok (.bipush 80, 2) := by decide +kernel
theorem d_MO_init_84 : decode b_MO_init 84 = .ok (.newarray .int, 2) := by decide +kernel
theorem d_MO_init_86 : decode b_MO_init 86 = .ok (.putfield 39, 3) := by decide +kernel
theorem d_MO_init_89 : decode b_MO_init 89 = .ok (.aload_n 0, 1) := by decide +kernel
theorem d_MO_init_90 : decode b_MO_init 90 = .ok (.bipush 80, 2) := by decide +kernel
theorem d_MO_init_92 : decode b_MO_init 92 = .ok (.newarray .boolean, 2) := by decide +kernel
theorem d_MO_init_94 : decode b_MO_init 94 = .ok (.putfield 42, 3) := by decide +kernel
theorem d_MO_init_97 : decode b_MO_init 97 = .ok (.aload_n 0, 1) := by decide +kernel
theorem d_MO_init_98 : decode b_MO_init 98 = .ok (.sipush 960, 3) := by decide +kernel
theorem d_MO_init_101 : decode b_MO_init 101 = .ok (.newarray .int, 2) := by decide +kernel
theorem d_MO_init_103 : decode b_MO_init 103 = .ok (.putfield 45, 3) := by decide +kernel
theorem d_MO_init_106 : decode b_MO_init 106 = .ok (.aload_n 0, 1) := by decide +kernel
theorem d_MO_init_107 : decode b_MO_init 107 = .ok (.sipush 960, 3) := by decide +kernel
theorem d_MO_init_110 : decode b_MO_init 110 = .ok (.newarray .long, 2) := by decide +kernel
theorem d_MO_init_112 : decode b_MO_init 112 = .ok (.putfield 48, 3) := by decide +kernel
theorem d_MO_init_115 : decode b_MO_init 115 = .ok (.aload_n 0, 1) := by decide +kernel
theorem d_MO_init_116 : decode b_MO_init 116 = .ok (.sipush 960, 3) := by decide +kernel
theorem d_MO_init_119 : decode b_MO_init 119 = .ok (.newarray .boolean, 2) := by decide +kernel
theorem d_MO_init_121 : decode b_MO_init 121 = .ok (.putfield 51, 3) := by decide +kernel
theorem d_MO_init_124 : decode b_MO_init 124 = .ok (.aload_n 0, 1) := by decide +kernel
theorem d_MO_init_125 : decode b_MO_init 125 = .ok (.sipush 960, 3) := by decide +kernel
theorem d_MO_init_128 : decode b_MO_init 128 = .ok (.newarray .boolean, 2) := by decide +kernel
theorem d_MO_init_130 : decode b_MO_init 130 = .ok (.putfield 54, 3) := by decide +kernel
theorem d_MO_init_133 : decode b_MO_init 133 = .ok (.aload_n 0, 1) := by decide +kernel
theorem d_MO_init_134 : decode b_MO_init 134 = .ok (.bipush 48, 2) := by decide +kernel
theorem d_MO_init_136 : decode b_MO_init 136 = .ok (.newarray .boolean, 2) := by decide +kernel
theorem d_MO_init_138 : decode b_MO_init 138 = .ok (.putfield 57, 3) := by decide +kernel
theorem d_MO_init_141 : decode b_MO_init 141 = .ok (.aload_n 0, 1) := by decide +kernel
theorem d_MO_init_142 : decode b_MO_init 142 = .ok (.bipush 60, 2) := by decide +kernel
theorem d_MO_init_144 : decode b_MO_init 144 = .ok (.newarray .long, 2) := by decide +kernel
theorem d_MO_init_146 : decode b_MO_init 146 = .ok (.putfield 60, 3) := by decide +kernel
theorem d_MO_init_149 : decode b_MO_init 149 = .ok (.aload_n 0, 1) := by decide +kernel
theorem d_MO_init_150 : decode b_MO_init 150 = .ok (.bipush 100, 2) := by decide +kernel
theorem d_MO_init_152 : decode b_MO_init 152 = .ok (.newarray .long, 2) := by decide +kernel
theorem d_MO_init_154 : decode b_MO_init 154 = .ok (.putfield 63, 3) := by decide +kernel
theorem d_MO_init_157 : decode b_MO_init 157 = .ok (.aload_n 0, 1) := by decide +kernel
theorem d_MO_init_158 : decode b_MO_init 158 = .ok (.sipush 1220, 3) := by decide +kernel
theorem d_MO_init_161 : decode b_MO_init 161 = .ok (.newarray .long, 2) := by decide +kernel
theorem d_MO_init_163 : decode b_MO_init 163 = .ok (.putfield 66, 3) := by decide +kernel
theorem d_MO_init_166 : decode b_MO_init 166 = .ok (.return_, 1) := by decide +kernel
theorem d_MO_within_0 : decode b_MO_within 0 = .ok (.iload_n 0, 1) := by decide +kernel
theorem d_MO_within_1 : decode b_MO_within 1 = .ok (.ifCond .lt 12, 3) := by decide +kernel
theorem d_MO_within_4 : decode b_MO_within 4 = .ok (.iload_n 0, 1) := by decide +kernel
theorem d_MO_within_5 : decode b_MO_within 5 = .ok (.iload_n 1, 1) := by decide +kernel
theorem d_MO_within_6 : decode b_MO_within 6 = .ok (.if_icmp .gt 7, 3) := by decide +kernel
theorem d_MO_within_9 : decode b_MO_within 9 = .ok (.iconst 1, 1) := by decide +kernel
theorem d_MO_within_10 : decode b_MO_within 10 = .ok (.goto 4, 3) := by decide +kernel
theorem d_MO_within_13 : decode b_MO_within 13 = .ok (.iconst 0, 1) := by decide +kernel
theorem d_MO_within_14 : decode b_MO_within 14 = .ok (.ireturn, 1) := by decide +kernel
theorem d_MO_isPath_0 : decode b_MO_isPath 0 = .ok (.iload_n 1, 1) := by decide +kernel
theorem d_MO_isPath_1 : decode b_MO_isPath 1 = .ok (.ifCond .lt 15, 3) := by decide +kernel
theorem d_MO_isPath_4 : decode b_MO_isPath 4 = .ok (.iload_n 1, 1) := by decide +kernel
theorem d_MO_isPath_5 : decode b_MO_isPath 5 = .ok (.aload_n 0, 1) := by decide +kernel
theorem d_MO_isPath_6 : decode b_MO_isPath 6 = .ok (.getfield 69, 3) := by decide +kernel
theorem d_MO_isPath_9 : decode b_MO_isPath 9 = .ok (.if_icmp .ge 7, 3) := by decide +kernel
theorem d_MO_isPath_12 : decode b_MO_isPath 12 = .ok (.iconst 1, 1) := by decide +kernel
theorem d_MO_isPath_13 : decode b_MO_isPath 13 = .ok (.goto 4, 3) := by decide +kernel
theorem d_MO_isPath_16 : decode b_MO_isPath 16 = .ok (.iconst 0, 1) := by decide +kernel
theorem d_MO_isPath_17 : decode b_MO_isPath 17 = .ok (.ireturn, 1) := by decide +kernel
theorem d_MO_isOpenStep_0 : decode b_MO_isOpenStep 0 = .ok (.iload_n 1, 1) := by decide +kernel
theorem d_MO_isOpenStep_1 : decode b_MO_isOpenStep 1 = .ok (.ifCond .lt 40, 3) := by decide +kernel
theorem d_MO_isOpenStep_4 : decode b_MO_isOpenStep 4 = .ok (.iload_n 1, 1) := by decide +kernel
theorem d_MO_isOpenStep_5 : decode b_MO_isOpenStep 5 = .ok (.aload_n 0, 1) := by decide +kernel
theorem d_MO_isOpenStep_6 : decode b_MO_isOpenStep 6 = .ok (.getfield 73, 3) := by decide +kernel
theorem d_MO_isOpenStep_9 : decode b_MO_isOpenStep 9 = .ok (.if_icmp .ge 32, 3) := by decide +kernel
theorem d_MO_isOpenStep_12 : decode b_MO_isOpenStep 12 = .ok (.aload_n 0, 1) := by decide +kernel
theorem d_MO_isOpenStep_13 : decode b_MO_isOpenStep 13 = .ok (.getfield 42, 3) := by decide +kernel
theorem d_MO_isOpenStep_16 : decode b_MO_isOpenStep 16 = .ok (.iload_n 1, 1) := by decide +kernel
theorem d_MO_isOpenStep_17 : decode b_MO_isOpenStep 17 = .ok (.ifCond .lt 15, 3) := by decide +kernel
theorem d_MO_isOpenStep_20 : decode b_MO_isOpenStep 20 = .ok (.iload_n 1, 1) := by decide +kernel
theorem d_MO_isOpenStep_21 : decode b_MO_isOpenStep 21 = .ok (.aload_n 0, 1) := by decide +kernel
theorem d_MO_isOpenStep_22 : decode b_MO_isOpenStep 22 = .ok (.getfield 73, 3) := by decide +kernel
theorem d_MO_isOpenStep_25 : decode b_MO_isOpenStep 25 = .ok (.if_icmp .ge 7, 3) := by decide +kernel
theorem d_MO_isOpenStep_28 : decode b_MO_isOpenStep 28 = .ok (.iload_n 1, 1) := by decide +kernel
theorem d_MO_isOpenStep_29 : decode b_MO_isOpenStep 29 = .ok (.goto 4, 3) := by decide +kernel
theorem d_MO_isOpenStep_32 : decode b_MO_isOpenStep 32 = .ok (.iconst 0, 1) := by decide +kernel
theorem d_MO_isOpenStep_33 : decode b_MO_isOpenStep 33 = .ok (.baload, 1) := by decide +kernel
theorem d_MO_isOpenStep_34 : decode b_MO_isOpenStep 34 = .ok (.ifCond .eq 7, 3) := by decide +kernel
theorem d_MO_isOpenStep_37 : decode b_MO_isOpenStep 37 = .ok (.iconst 1, 1) := by decide +kernel
theorem d_MO_isOpenStep_38 : decode b_MO_isOpenStep 38 = .ok (.goto 4, 3) := by decide +kernel
theorem d_MO_isOpenStep_41 : decode b_MO_isOpenStep 41 = .ok (.iconst 0, 1) := by decide +kernel
theorem d_MO_isOpenStep_42 : decode b_MO_isOpenStep 42 = .ok (.ireturn, 1) := by decide +kernel
theorem d_MO_path_0 : decode b_MO_path 0 = .ok (.aload_n 0, 1) := by decide +kernel
theorem d_MO_path_1 : decode b_MO_path 1 = .ok (.getfield 69, 3) := by decide +kernel
theorem d_MO_path_4 : decode b_MO_path 4 = .ok (.bipush 40, 2) := by decide +kernel
theorem d_MO_path_6 : decode b_MO_path 6 = .ok (.if_icmp .eq 16, 3) := by decide +kernel
theorem d_MO_path_9 : decode b_MO_path 9 = .ok (.iload_n 1, 1) := by decide +kernel
theorem d_MO_path_10 : decode b_MO_path 10 = .ok (.iconst (-1), 1) := by decide +kernel
theorem d_MO_path_11 : decode b_MO_path 11 = .ok (.if_icmp .eq 13, 3) := by decide +kernel
theorem d_MO_path_14 : decode b_MO_path 14 = .ok (.aload_n 0, 1) := by decide +kernel
theorem d_MO_path_15 : decode b_MO_path 15 = .ok (.iload_n 1, 1) := by decide +kernel
theorem d_MO_path_16 : decode b_MO_path 16 = .ok (.invokevirtual 76, 3) := by decide +kernel
theorem d_MO_path_19 : decode b_MO_path 19 = .ok (.ifCond .ne 5, 3) := by decide +kernel
theorem d_MO_path_22 : decode b_MO_path 22 = .ok (.iconst (-1), 1) := by decide +kernel
theorem d_MO_path_23 : decode b_MO_path 23 = .ok (.ireturn, 1) := by decide +kernel
theorem d_MO_path_24 : decode b_MO_path 24 = .ok (.aload_n 0, 1) := by decide +kernel
theorem d_MO_path_25 : decode b_MO_path 25 = .ok (.getfield 7, 3) := by decide +kernel
theorem d_MO_path_28 : decode b_MO_path 28 = .ok (.aload_n 0, 1) := by decide +kernel
theorem d_MO_path_29 : decode b_MO_path 29 = .ok (.getfield 69, 3) := by decide +kernel
theorem d_MO_path_32 : decode b_MO_path 32 = .ok (.iload_n 1, 1) := by decide +kernel
theorem d_MO_path_33 : decode b_MO_path 33 = .ok (.iastore, 1) := by decide +kernel
theorem d_MO_path_34 : decode b_MO_path 34 = .ok (.aload_n 0, 1) := by decide +kernel
theorem d_MO_path_35 : decode b_MO_path 35 = .ok (.dup, 1) := by decide +kernel
theorem d_MO_path_36 : decode b_MO_path 36 = .ok (.getfield 69, 3) := by decide +kernel
theorem d_MO_path_39 : decode b_MO_path 39 = .ok (.iconst 1, 1) := by decide +kernel
theorem d_MO_path_40 : decode b_MO_path 40 = .ok (.iadd, 1) := by decide +kernel
theorem d_MO_path_41 : decode b_MO_path 41 = .ok (.putfield 69, 3) := by decide +kernel
theorem d_MO_path_44 : decode b_MO_path 44 = .ok (.aload_n 0, 1) := by decide +kernel
theorem d_MO_path_45 : decode b_MO_path 45 = .ok (.getfield 69, 3) := by decide +kernel
theorem d_MO_path_48 : decode b_MO_path 48 = .ok (.iconst 1, 1) := by decide +kernel
theorem d_MO_path_49 : decode b_MO_path 49 = .ok (.isub, 1) := by decide +kernel
theorem d_MO_path_50 : decode b_MO_path 50 = .ok (.ireturn, 1) := by decide +kernel
theorem d_MO_isWithin_0 : decode b_MO_isWithin 0 = .ok (.aload_n 0, 1) := by decide +kernel
theorem d_MO_isWithin_1 : decode b_MO_isWithin 1 = .ok (.getfield 7, 3) := by decide +kernel
theorem d_MO_isWithin_4 : decode b_MO_isWithin 4 = .ok (.iload_n 1, 1) := by decide +kernel
theorem d_MO_isWithin_5 : decode b_MO_isWithin 5 = .ok (.iaload, 1) := by decide +kernel
theorem d_MO_isWithin_6 : decode b_MO_isWithin 6 = .ok (.istore_n 3, 1) := by decide +kernel
theorem d_MO_isWithin_7 : decode b_MO_isWithin 7 = .ok (.iload_n 3, 1) := by decide +kernel
theorem d_MO_isWithin_8 : decode b_MO_isWithin 8 = .ok (.iconst (-1), 1) := by decide +kernel
theorem d_MO_isWithin_9 : decode b_MO_isWithin 9 = .ok (.if_icmp .eq 18, 3) := by decide +kernel
theorem d_MO_isWithin_12 : decode b_MO_isWithin 12 = .ok (.iload_n 3, 1) := by decide +kernel
theorem d_MO_isWithin_13 : decode b_MO_isWithin 13 = .ok (.iload_n 2, 1) := by decide +kernel
theorem d_MO_isWithin_14 : decode b_MO_isWithin 14 = .ok (.if_icmp .eq 13, 3) := by decide +kernel
theorem d_MO_isWithin_17 : decode b_MO_isWithin 17 = .ok (.aload_n 0, 1) := by decide +kernel
theorem d_MO_isWithin_18 : decode b_MO_isWithin 18 = .ok (.getfield 7, 3) := by decide +kernel
theorem d_MO_isWithin_21 : decode b_MO_isWithin 21 = .ok (.iload_n 3, 1) := by decide +kernel
theorem d_MO_isWithin_22 : decode b_MO_isWithin 22 = .ok (.iaload, 1) := by decide +kernel
theorem d_MO_isWithin_23 : decode b_MO_isWithin 23 = .ok (.istore_n 3, 1) := by decide +kernel
theorem d_MO_isWithin_24 : decode b_MO_isWithin 24 = .ok (.goto (-17), 3) := by decide +kernel
theorem d_MO_isWithin_27 : decode b_MO_isWithin 27 = .ok (.iload_n 3, 1) := by decide +kernel
theorem d_MO_isWithin_28 : decode b_MO_isWithin 28 = .ok (.iload_n 2, 1) := by decide +kernel
theorem d_MO_isWithin_29 : decode b_MO_isWithin 29 = .ok (.if_icmp .ne 7, 3) := by decide +kernel
theorem d_MO_isWithin_32 : decode b_MO_isWithin 32 = .ok (.iconst 1, 1) := by decide +kernel
theorem d_MO_isWithin_33 : decode b_MO_isWithin 33 = .ok (.goto 4, 3) := by decide +kernel
theorem d_MO_isWithin_36 : decode b_MO_isWithin 36 = .ok (.iconst 0, 1) := by decide +kernel
theorem d_MO_isWithin_37 : decode b_MO_isWithin 37 = .ok (.ireturn, 1) := by decide +kernel
theorem d_MO_meet_0 : decode b_MO_meet 0 = .ok (.iload_n 1, 1) := by decide +kernel
theorem d_MO_meet_1 : decode b_MO_meet 1 = .ok (.iload_n 2, 1) := by decide +kernel
theorem d_MO_meet_2 : decode b_MO_meet 2 = .ok (.if_icmp .eq 21, 3) := by decide +kernel
theorem d_MO_meet_5 : decode b_MO_meet 5 = .ok (.aload_n 0, 1) := by decide +kernel
theorem d_MO_meet_6 : decode b_MO_meet 6 = .ok (.iload_n 1, 1) := by decide +kernel
theorem d_MO_meet_7 : decode b_MO_meet 7 = .ok (.iload_n 2, 1) := by decide +kernel
theorem d_MO_meet_8 : decode b_MO_meet 8 = .ok (.invokevirtual 80, 3) := by decide +kernel
theorem d_MO_meet_11 : decode b_MO_meet 11 = .ok (.ifCond .ne 12, 3) := by decide +kernel
theorem d_MO_meet_14 : decode b_MO_meet 14 = .ok (.aload_n 0, 1) := by decide +kernel
theorem d_MO_meet_15 : decode b_MO_meet 15 = .ok (.iload_n 2, 1) := by decide +kernel
theorem d_MO_meet_16 : decode b_MO_meet 16 = .ok (.iload_n 1, 1) := by decide +kernel
theorem d_MO_meet_17 : decode b_MO_meet 17 = .ok (.invokevirtual 80, 3) := by decide +kernel
theorem d_MO_meet_20 : decode b_MO_meet 20 = .ok (.ifCond .eq 7, 3) := by decide +kernel
theorem d_MO_meet_23 : decode b_MO_meet 23 = .ok (.iconst 1, 1) := by decide +kernel
theorem d_MO_meet_24 : decode b_MO_meet 24 = .ok (.goto 4, 3) := by decide +kernel
theorem d_MO_meet_27 : decode b_MO_meet 27 = .ok (.iconst 0, 1) := by decide +kernel
theorem d_MO_meet_28 : decode b_MO_meet 28 = .ok (.ireturn, 1) := by decide +kernel
theorem d_MO_begin_0 : decode b_MO_begin 0 = .ok (.iload_n 1, 1) := by decide +kernel
theorem d_MO_begin_1 : decode b_MO_begin 1 = .ok (.bipush 11, 2) := by decide +kernel
theorem d_MO_begin_3 : decode b_MO_begin 3 = .ok (.invokestatic 84, 3) := by decide +kernel
theorem d_MO_begin_6 : decode b_MO_begin 6 = .ok (.ifCond .eq 29, 3) := by decide +kernel
theorem d_MO_begin_9 : decode b_MO_begin 9 = .ok (.iload_n 2, 1) := by decide +kernel
theorem d_MO_begin_10 : decode b_MO_begin 10 = .ok (.iconst 3, 1) := by decide +kernel
theorem d_MO_begin_11 : decode b_MO_begin 11 = .ok (.invokestatic 84, 3) := by decide +kernel
theorem d_MO_begin_14 : decode b_MO_begin 14 = .ok (.ifCond .eq 21, 3) := by decide +kernel
theorem d_MO_begin_17 : decode b_MO_begin 17 = .ok (.iload_n 3, 1) := by decide +kernel
theorem d_MO_begin_18 : decode b_MO_begin 18 = .ok (.bipush 7, 2) := by decide +kernel
theorem d_MO_begin_20 : decode b_MO_begin 20 = .ok (.invokestatic 84, 3) := by decide +kernel
theorem d_MO_begin_23 : decode b_MO_begin 23 = .ok (.ifCond .eq 12, 3) := by decide +kernel
theorem d_MO_begin_26 : decode b_MO_begin 26 = .ok (.aload_n 0, 1) := by decide +kernel
theorem d_MO_begin_27 : decode b_MO_begin 27 = .ok (.getfield 73, 3) := by decide +kernel
theorem d_MO_begin_30 : decode b_MO_begin 30 = .ok (.bipush 80, 2) := by decide +kernel
theorem d_MO_begin_32 : decode b_MO_begin 32 = .ok (.if_icmp .ne 5, 3) := by decide +kernel
theorem d_MO_begin_35 : decode b_MO_begin 35 = .ok (.iconst (-1), 1) := by decide +kernel
theorem d_MO_begin_36 : decode b_MO_begin 36 = .ok (.ireturn, 1) := by decide +kernel
theorem d_MO_begin_37 : decode b_MO_begin 37 = .ok (.iconst 0, 1) := by decide +kernel
theorem d_MO_begin_38 : decode b_MO_begin 38 = .ok (.istore 4, 2) := by decide +kernel
theorem d_MO_begin_40 : decode b_MO_begin 40 = .ok (.iload 4, 2) := by decide +kernel
theorem d_MO_begin_42 : decode b_MO_begin 42 = .ok (.aload_n 0, 1) := by decide +kernel
theorem d_MO_begin_43 : decode b_MO_begin 43 = .ok (.getfield 73, 3) := by decide +kernel
theorem d_MO_begin_46 : decode b_MO_begin 46 = .ok (.if_icmp .ge 44, 3) := by decide +kernel
theorem d_MO_begin_49 : decode b_MO_begin 49 = .ok (.aload_n 0, 1) := by decide +kernel
theorem d_MO_begin_50 : decode b_MO_begin 50 = .ok (.getfield 42, 3) := by decide +kernel
theorem d_MO_begin_53 : decode b_MO_begin 53 = .ok (.iload 4, 2) := by decide +kernel
theorem d_MO_begin_55 : decode b_MO_begin 55 = .ok (.baload, 1) := by decide +kernel
theorem d_MO_begin_56 : decode b_MO_begin 56 = .ok (.ifCond .eq 28, 3) := by decide +kernel
theorem d_MO_begin_59 : decode b_MO_begin 59 = .ok (.aload_n 0, 1) := by decide +kernel
theorem d_MO_begin_60 : decode b_MO_begin 60 = .ok (.getfield 30, 3) := by decide +kernel
theorem d_MO_begin_63 : decode b_MO_begin 63 = .ok (.iload 4, 2) := by decide +kernel
theorem d_MO_begin_65 : decode b_MO_begin 65 = .ok (.iaload, 1) := by decide +kernel
theorem d_MO_begin_66 : decode b_MO_begin 66 = .ok (.iload_n 1, 1) := by decide +kernel
theorem d_MO_begin_67 : decode b_MO_begin 67 = .ok (.if_icmp .ne 17, 3) := by decide +kernel
theorem d_MO_begin_70 : decode b_MO_begin 70 = .ok (.aload_n 0, 1) := by decide +kernel
theorem d_MO_begin_71 : decode b_MO_begin 71 = .ok (.getfield 33, 3) := by decide +kernel
theorem d_MO_begin_74 : decode b_MO_begin 74 = .ok (.iload 4, 2) := by decide +kernel
theorem d_MO_begin_76 : decode b_MO_begin 76 = .ok (.iaload, 1) := by decide +kernel
theorem d_MO_begin_77 : decode b_MO_begin 77 = .ok (.iload_n 2, 1) := by decide +kernel
theorem d_MO_begin_78 : decode b_MO_begin 78 = .ok (.if_icmp .ne 6, 3) := by decide +kernel
theorem d_MO_begin_81 : decode b_MO_begin 81 = .ok (.bipush (-2), 2) := by decide +kernel
theorem d_MO_begin_83 : decode b_MO_begin 83 = .ok (.ireturn, 1) := by decide +kernel
theorem d_MO_begin_84 : decode b_MO_begin 84 = .ok (.iinc 4 1, 3) := by decide +kernel
theorem d_MO_begin_87 : decode b_MO_begin 87 = .ok (.goto (-47), 3) := by decide +kernel
theorem d_MO_begin_90 : decode b_MO_begin 90 = .ok (.aload_n 0, 1) := by decide +kernel
theorem d_MO_begin_91 : decode b_MO_begin 91 = .ok (.getfield 30, 3) := by decide +kernel
theorem d_MO_begin_94 : decode b_MO_begin 94 = .ok (.aload_n 0, 1) := by decide +kernel
theorem d_MO_begin_95 : decode b_MO_begin 95 = .ok (.getfield 73, 3) := by decide +kernel
theorem d_MO_begin_98 : decode b_MO_begin 98 = .ok (.iload_n 1, 1) := by decide +kernel
theorem d_MO_begin_99 : decode b_MO_begin 99 = .ok (.iastore, 1) := by decide +kernel
theorem d_MO_begin_100 : decode b_MO_begin 100 = .ok (.aload_n 0, 1) := by decide +kernel
theorem d_MO_begin_101 : decode b_MO_begin 101 = .ok (.getfield 33, 3) := by decide +kernel
theorem d_MO_begin_104 : decode b_MO_begin 104 = .ok (.aload_n 0, 1) := by decide +kernel
theorem d_MO_begin_105 : decode b_MO_begin 105 = .ok (.getfield 73, 3) := by decide +kernel
theorem d_MO_begin_108 : decode b_MO_begin 108 = .ok (.iload_n 2, 1) := by decide +kernel
theorem d_MO_begin_109 : decode b_MO_begin 109 = .ok (.iastore, 1) := by decide +kernel
theorem d_MO_begin_110 : decode b_MO_begin 110 = .ok (.aload_n 0, 1) := by decide +kernel
theorem d_MO_begin_111 : decode b_MO_begin 111 = .ok (.getfield 36, 3) := by decide +kernel
theorem d_MO_begin_114 : decode b_MO_begin 114 = .ok (.aload_n 0, 1) := by decide +kernel
theorem d_MO_begin_115 : decode b_MO_begin 115 = .ok (.getfield 73, 3) := by decide +kernel
theorem d_MO_begin_118 : decode b_MO_begin 118 = .ok (.iload_n 3, 1) := by decide +kernel
theorem d_MO_begin_119 : decode b_MO_begin 119 = .ok (.iastore, 1) := by decide +kernel
theorem d_MO_begin_120 : decode b_MO_begin 120 = .ok (.aload_n 0, 1) := by decide +kernel
theorem d_MO_begin_121 : decode b_MO_begin 121 = .ok (.getfield 39, 3) := by decide +kernel
theorem d_MO_begin_124 : decode b_MO_begin 124 = .ok (.aload_n 0, 1) := by decide +kernel
theorem d_MO_begin_125 : decode b_MO_begin 125 = .ok (.getfield 73, 3) := by decide +kernel
theorem d_MO_begin_128 : decode b_MO_begin 128 = .ok (.iconst 0, 1) := by decide +kernel
theorem d_MO_begin_129 : decode b_MO_begin 129 = .ok (.iastore, 1) := by decide +kernel
theorem d_MO_begin_130 : decode b_MO_begin 130 = .ok (.aload_n 0, 1) := by decide +kernel
theorem d_MO_begin_131 : decode b_MO_begin 131 = .ok (.getfield 42, 3) := by decide +kernel
theorem d_MO_begin_134 : decode b_MO_begin 134 = .ok (.aload_n 0, 1) := by decide +kernel
theorem d_MO_begin_135 : decode b_MO_begin 135 = .ok (.getfield 73, 3) := by decide +kernel
theorem d_MO_begin_138 : decode b_MO_begin 138 = .ok (.iconst 1, 1) := by decide +kernel
theorem d_MO_begin_139 : decode b_MO_begin 139 = .ok (.bastore, 1) := by decide +kernel
theorem d_MO_begin_140 : decode b_MO_begin 140 = .ok (.aload_n 0, 1) := by decide +kernel
theorem d_MO_begin_141 : decode b_MO_begin 141 = .ok (.dup, 1) := by decide +kernel
theorem d_MO_begin_142 : decode b_MO_begin 142 = .ok (.getfield 73, 3) := by decide +kernel
theorem d_MO_begin_145 : decode b_MO_begin 145 = .ok (.iconst 1, 1) := by decide +kernel
theorem d_MO_begin_146 : decode b_MO_begin 146 = .ok (.iadd, 1) := by decide +kernel
theorem d_MO_begin_147 : decode b_MO_begin 147 = .ok (.putfield 73, 3) := by decide +kernel
theorem d_MO_begin_150 : decode b_MO_begin 150 = .ok (.aload_n 0, 1) := by decide +kernel
theorem d_MO_begin_151 : decode b_MO_begin 151 = .ok (.getfield 73, 3) := by decide +kernel
theorem d_MO_begin_154 : decode b_MO_begin 154 = .ok (.iconst 1, 1) := by decide +kernel
theorem d_MO_begin_155 : decode b_MO_begin 155 = .ok (.isub, 1) := by decide +kernel
theorem d_MO_begin_156 : decode b_MO_begin 156 = .ok (.ireturn, 1) := by decide +kernel
theorem d_MO_placeOf_0 : decode b_MO_placeOf 0 = .ok (.iconst (-1), 1) := by decide +kernel
theorem d_MO_placeOf_1 : decode b_MO_placeOf 1 = .ok (.istore_n 3, 1) := by decide +kernel
theorem d_MO_placeOf_2 : decode b_MO_placeOf 2 = .ok (.iconst 0, 1) := by decide +kernel
theorem d_MO_placeOf_3 : decode b_MO_placeOf 3 = .ok (.istore 4, 2) := by decide +kernel
theorem d_MO_placeOf_5 : decode b_MO_placeOf 5 = .ok (.iload 4, 2) := by decide +kernel
theorem d_MO_placeOf_7 : decode b_MO_placeOf 7 = .ok (.aload_n 0, 1) := by decide +kernel
theorem d_MO_placeOf_8 : decode b_MO_placeOf 8 = .ok (.getfield 39, 3) := by decide +kernel
theorem d_MO_placeOf_11 : decode b_MO_placeOf 11 = .ok (.iload_n 1, 1) := by decide +kernel
theorem d_MO_placeOf_12 : decode b_MO_placeOf 12 = .ok (.iaload, 1) := by decide +kernel
theorem d_MO_placeOf_13 : decode b_MO_placeOf 13 = .ok (.if_icmp .ge 37, 3) := by decide +kernel
theorem d_MO_placeOf_16 : decode b_MO_placeOf 16 = .ok (.aload_n 0, 1) := by decide +kernel
theorem d_MO_placeOf_17 : decode b_MO_placeOf 17 = .ok (.getfield 45, 3) := by decide +kernel
theorem d_MO_placeOf_20 : decode b_MO_placeOf 20 = .ok (.bipush 12, 2) := by decide +kernel
theorem d_MO_placeOf_22 : decode b_MO_placeOf 22 = .ok (.iload_n 1, 1) := by decide +kernel
theorem d_MO_placeOf_23 : decode b_MO_placeOf 23 = .ok (.imul, 1) := by decide +kernel
theorem d_MO_placeOf_24 : decode b_MO_placeOf 24 = .ok (.iload 4, 2) := by decide +kernel
theorem d_MO_placeOf_26 : decode b_MO_placeOf 26 = .ok (.iadd, 1) := by decide +kernel
theorem d_MO_placeOf_27 : decode b_MO_placeOf 27 = .ok (.iaload, 1) := by decide +kernel
theorem d_MO_placeOf_28 : decode b_MO_placeOf 28 = .ok (.iload_n 2, 1) := by decide +kernel
theorem d_MO_placeOf_29 : decode b_MO_placeOf 29 = .ok (.if_icmp .ne 13, 3) := by decide +kernel
theorem d_MO_placeOf_32 : decode b_MO_placeOf 32 = .ok (.bipush 12, 2) := by decide +kernel
theorem d_MO_placeOf_34 : decode b_MO_placeOf 34 = .ok (.iload_n 1, 1) := by decide +kernel
theorem d_MO_placeOf_35 : decode b_MO_placeOf 35 = .ok (.imul, 1) := by decide +kernel
theorem d_MO_placeOf_36 : decode b_MO_placeOf 36 = .ok (.iload 4, 2) := by decide +kernel
theorem d_MO_placeOf_38 : decode b_MO_placeOf 38 = .ok (.iadd, 1) := by decide +kernel
theorem d_MO_placeOf_39 : decode b_MO_placeOf 39 = .ok (.goto 4, 3) := by decide +kernel
theorem d_MO_placeOf_42 : decode b_MO_placeOf 42 = .ok (.iload_n 3, 1) := by decide +kernel
theorem d_MO_placeOf_43 : decode b_MO_placeOf 43 = .ok (.istore_n 3, 1) := by decide +kernel
theorem d_MO_placeOf_44 : decode b_MO_placeOf 44 = .ok (.iinc 4 1, 3) := by decide +kernel
theorem d_MO_placeOf_47 : decode b_MO_placeOf 47 = .ok (.goto (-42), 3) := by decide +kernel
theorem d_MO_placeOf_50 : decode b_MO_placeOf 50 = .ok (.iload_n 3, 1) := by decide +kernel
theorem d_MO_placeOf_51 : decode b_MO_placeOf 51 = .ok (.ireturn, 1) := by decide +kernel
theorem d_MO_meetsOutput_0 : decode b_MO_meetsOutput 0 = .ok (.iconst 0, 1) := by decide +kernel
theorem d_MO_meetsOutput_1 : decode b_MO_meetsOutput 1 = .ok (.istore_n 3, 1) := by decide +kernel
theorem d_MO_meetsOutput_2 : decode b_MO_meetsOutput 2 = .ok (.iload_n 3, 1) := by decide +kernel
theorem d_MO_meetsOutput_3 : decode b_MO_meetsOutput 3 = .ok (.aload_n 0, 1) := by decide +kernel
theorem d_MO_meetsOutput_4 : decode b_MO_meetsOutput 4 = .ok (.getfield 69, 3) := by decide +kernel
theorem d_MO_meetsOutput_7 : decode b_MO_meetsOutput 7 = .ok (.if_icmp .ge 56, 3) := by decide +kernel
theorem d_MO_meetsOutput_10 : decode b_MO_meetsOutput 10 = .ok (.aload_n 0, 1) := by decide +kernel
theorem d_MO_meetsOutput_11 : decode b_MO_meetsOutput 11 = .ok (.getfield 13, 3) := by decide +kernel
theorem d_MO_meetsOutput_14 : decode b_MO_meetsOutput 14 = .ok (.bipush 40, 2) := by decide +kernel
theorem d_MO_meetsOutput_16 : decode b_MO_meetsOutput 16 = .ok (.aload_n 0, 1) := by decide +kernel
theorem d_MO_meetsOutput_17 : decode b_MO_meetsOutput 17 = .ok (.getfield 33, 3) := by decide +kernel
theorem d_MO_meetsOutput_20 : decode b_MO_meetsOutput 20 = .ok (.iload_n 1, 1) := by decide +kernel
theorem d_MO_meetsOutput_21 : decode b_MO_meetsOutput 21 = .ok (.iaload, 1) := by decide +kernel
theorem d_MO_meetsOutput_22 : decode b_MO_meetsOutput 22 = .ok (.imul, 1) := by decide +kernel
theorem d_MO_meetsOutput_23 : decode b_MO_meetsOutput 23 = .ok (.iload_n 3, 1) := by decide +kernel
theorem d_MO_meetsOutput_24 : decode b_MO_meetsOutput 24 = .ok (.iadd, 1) := by decide +kernel
theorem d_MO_meetsOutput_25 : decode b_MO_meetsOutput 25 = .ok (.iaload, 1) := by decide +kernel
theorem d_MO_meetsOutput_26 : decode b_MO_meetsOutput 26 = .ok (.istore 4, 2) := by decide +kernel
theorem d_MO_meetsOutput_28 : decode b_MO_meetsOutput 28 = .ok (.iload 4, 2) := by decide +kernel
theorem d_MO_meetsOutput_30 : decode b_MO_meetsOutput 30 = .ok (.ifCond .eq 27, 3) := by decide +kernel
theorem d_MO_meetsOutput_33 : decode b_MO_meetsOutput 33 = .ok (.iload 4, 2) := by decide +kernel
theorem d_MO_meetsOutput_35 : decode b_MO_meetsOutput 35 = .ok (.aload_n 0, 1) := by decide +kernel
theorem d_MO_meetsOutput_36 : decode b_MO_meetsOutput 36 = .ok (.getfield 30, 3) := by decide +kernel
theorem d_MO_meetsOutput_39 : decode b_MO_meetsOutput 39 = .ok (.iload_n 1, 1) := by decide +kernel
theorem d_MO_meetsOutput_40 : decode b_MO_meetsOutput 40 = .ok (.iaload, 1) := by decide +kernel
theorem d_MO_meetsOutput_41 : decode b_MO_meetsOutput 41 = .ok (.iconst 1, 1) := by decide +kernel
theorem d_MO_meetsOutput_42 : decode b_MO_meetsOutput 42 = .ok (.iadd, 1) := by decide +kernel
theorem d_MO_meetsOutput_43 : decode b_MO_meetsOutput 43 = .ok (.if_icmp .eq 14, 3) := by decide +kernel
theorem d_MO_meetsOutput_46 : decode b_MO_meetsOutput 46 = .ok (.aload_n 0, 1) := by decide +kernel
theorem d_MO_meetsOutput_47 : decode b_MO_meetsOutput 47 = .ok (.iload_n 2, 1) := by decide +kernel
theorem d_MO_meetsOutput_48 : decode b_MO_meetsOutput 48 = .ok (.iload_n 3, 1) := by decide +kernel
theorem d_MO_meetsOutput_49 : decode b_MO_meetsOutput 49 = .ok (.invokevirtual 87, 3) := by decide +kernel
theorem d_MO_meetsOutput_52 : decode b_MO_meetsOutput 52 = .ok (.ifCond .eq 5, 3) := by decide +kernel
theorem d_MO_meetsOutput_55 : decode b_MO_meetsOutput 55 = .ok (.iconst 1, 1) := by decide +kernel
theorem d_MO_meetsOutput_56 : decode b_MO_meetsOutput 56 = .ok (.ireturn, 1) := by decide +kernel
theorem d_MO_meetsOutput_57 : decode b_MO_meetsOutput 57 = .ok (.iinc 3 1, 3) := by decide +kernel
theorem d_MO_meetsOutput_60 : decode b_MO_meetsOutput 60 = .ok (.goto (-58), 3) := by decide +kernel
theorem d_MO_meetsOutput_63 : decode b_MO_meetsOutput 63 = .ok (.iconst 0, 1) := by decide +kernel
theorem d_MO_meetsOutput_64 : decode b_MO_meetsOutput 64 = .ok (.ireturn, 1) := by decide +kernel
theorem d_MO_meetsStaged_0 : decode b_MO_meetsStaged 0 = .ok (.iconst 0, 1) := by decide +kernel
theorem d_MO_meetsStaged_1 : decode b_MO_meetsStaged 1 = .ok (.istore_n 3, 1) := by decide +kernel
theorem d_MO_meetsStaged_2 : decode b_MO_meetsStaged 2 = .ok (.iload_n 3, 1) := by decide +kernel
theorem d_MO_meetsStaged_3 : decode b_MO_meetsStaged 3 = .ok (.aload_n 0, 1) := by decide +kernel
theorem d_MO_meetsStaged_4 : decode b_MO_meetsStaged 4 = .ok (.getfield 73, 3) := by decide +kernel
theorem d_MO_meetsStaged_7 : decode b_MO_meetsStaged 7 = .ok (.if_icmp .ge 93, 3) := by decide +kernel
theorem d_MO_meetsStaged_10 : decode b_MO_meetsStaged 10 = .ok (.aload_n 0, 1) := by decide +kernel
theorem d_MO_meetsStaged_11 : decode b_MO_meetsStaged 11 = .ok (.getfield 42, 3) := by decide +kernel
theorem d_MO_meetsStaged_14 : decode b_MO_meetsStaged 14 = .ok (.iload_n 3, 1) := by decide +kernel
theorem d_MO_meetsStaged_15 : decode b_MO_meetsStaged 15 = .ok (.baload, 1) := by decide +kernel
theorem d_MO_meetsStaged_16 : decode b_MO_meetsStaged 16 = .ok (.ifCond .eq 78, 3) := by decide +kernel
theorem d_MO_meetsStaged_19 : decode b_MO_meetsStaged 19 = .ok (.aload_n 0, 1) := by decide +kernel
theorem d_MO_meetsStaged_20 : decode b_MO_meetsStaged 20 = .ok (.getfield 33, 3) := by decide +kernel
theorem d_MO_meetsStaged_23 : decode b_MO_meetsStaged 23 = .ok (.iload_n 3, 1) := by decide +kernel
theorem d_MO_meetsStaged_24 : decode b_MO_meetsStaged 24 = .ok (.iaload, 1) := by decide +kernel
theorem d_MO_meetsStaged_25 : decode b_MO_meetsStaged 25 = .ok (.aload_n 0, 1) := by decide +kernel
theorem d_MO_meetsStaged_26 : decode b_MO_meetsStaged 26 = .ok (.getfield 33, 3) := by decide +kernel
theorem d_MO_meetsStaged_29 : decode b_MO_meetsStaged 29 = .ok (.iload_n 1, 1) := by decide +kernel
theorem d_MO_meetsStaged_30 : decode b_MO_meetsStaged 30 = .ok (.iaload, 1) := by decide +kernel
theorem d_MO_meetsStaged_31 : decode b_MO_meetsStaged 31 = .ok (.if_icmp .eq 6, 3) := by decide +kernel
theorem d_MO_meetsStaged_34 : decode b_MO_meetsStaged 34 = .ok (.goto 60, 3) := by decide +kernel
theorem d_MO_meetsStaged_37 : decode b_MO_meetsStaged 37 = .ok (.iconst 0, 1) := by decide +kernel
theorem d_MO_meetsStaged_38 : decode b_MO_meetsStaged 38 = .ok (.istore 4, 2) := by decide +kernel
theorem d_MO_meetsStaged_40 : decode b_MO_meetsStaged 40 = .ok (.iload 4, 2) := by decide +kernel
theorem d_MO_meetsStaged_42 : decode b_MO_meetsStaged 42 = .ok (.aload_n 0, 1) := by decide +kernel
theorem d_MO_meetsStaged_43 : decode b_MO_meetsStaged 43 = .ok (.getfield 39, 3) := by decide +kernel
theorem d_MO_meetsStaged_46 : decode b_MO_meetsStaged 46 = .ok (.iload_n 3, 1) := by decide +kernel
theorem d_MO_meetsStaged_47 : decode b_MO_meetsStaged 47 = .ok (.iaload, 1) := by decide +kernel
theorem d_MO_meetsStaged_48 : decode b_MO_meetsStaged 48 = .ok (.if_icmp .ge 46, 3) := by decide +kernel
theorem d_MO_meetsStaged_51 : decode b_MO_meetsStaged 51 = .ok (.aload_n 0, 1) := by decide +kernel
theorem d_MO_meetsStaged_52 : decode b_MO_meetsStaged 52 = .ok (.getfield 45, 3) := by decide +kernel
theorem d_MO_meetsStaged_55 : decode b_MO_meetsStaged 55 = .ok (.bipush 12, 2) := by decide +kernel
theorem d_MO_meetsStaged_57 : decode b_MO_meetsStaged 57 = .ok (.iload_n 3, 1) := by decide +kernel
theorem d_MO_meetsStaged_58 : decode b_MO_meetsStaged 58 = .ok (.imul, 1) := by decide +kernel
theorem d_MO_meetsStaged_59 : decode b_MO_meetsStaged 59 = .ok (.iload 4, 2) := by decide +kernel
theorem d_MO_meetsStaged_61 : decode b_MO_meetsStaged 61 = .ok (.iadd, 1) := by decide +kernel
theorem d_MO_meetsStaged_62 : decode b_MO_meetsStaged 62 = .ok (.iaload, 1) := by decide +kernel
theorem d_MO_meetsStaged_63 : decode b_MO_meetsStaged 63 = .ok (.istore 5, 2) := by decide +kernel
theorem d_MO_meetsStaged_65 : decode b_MO_meetsStaged 65 = .ok (.iload_n 3, 1) := by decide +kernel
theorem d_MO_meetsStaged_66 : decode b_MO_meetsStaged 66 = .ok (.iload_n 1, 1) := by decide +kernel
theorem d_MO_meetsStaged_67 : decode b_MO_meetsStaged 67 = .ok (.if_icmp .ne 9, 3) := by decide +kernel
theorem d_MO_meetsStaged_70 : decode b_MO_meetsStaged 70 = .ok (.iload 5, 2) := by decide +kernel
theorem d_MO_meetsStaged_72 : decode b_MO_meetsStaged 72 = .ok (.iload_n 2, 1) := by decide +kernel
theorem d_MO_meetsStaged_73 : decode b_MO_meetsStaged 73 = .ok (.if_icmp .eq 15, 3) := by decide +kernel
theorem d_MO_meetsStaged_76 : decode b_MO_meetsStaged 76 = .ok (.aload_n 0, 1) := by decide +kernel
theorem d_MO_meetsStaged_77 : decode b_MO_meetsStaged 77 = .ok (.iload_n 2, 1) := by decide +kernel
theorem d_MO_meetsStaged_78 : decode b_MO_meetsStaged 78 = .ok (.iload 5, 2) := by decide +kernel
theorem d_MO_meetsStaged_80 : decode b_MO_meetsStaged 80 = .ok (.invokevirtual 87, 3) := by decide +kernel
theorem d_MO_meetsStaged_83 : decode b_MO_meetsStaged 83 = .ok (.ifCond .eq 5, 3) := by decide +kernel
theorem d_MO_meetsStaged_86 : decode b_MO_meetsStaged 86 = .ok (.iconst 1, 1) := by decide +kernel
theorem d_MO_meetsStaged_87 : decode b_MO_meetsStaged 87 = .ok (.ireturn, 1) := by decide +kernel
theorem d_MO_meetsStaged_88 : decode b_MO_meetsStaged 88 = .ok (.iinc 4 1, 3) := by decide +kernel
theorem d_MO_meetsStaged_91 : decode b_MO_meetsStaged 91 = .ok (.goto (-51), 3) := by decide +kernel
theorem d_MO_meetsStaged_94 : decode b_MO_meetsStaged 94 = .ok (.iinc 3 1, 3) := by decide +kernel
theorem d_MO_meetsStaged_97 : decode b_MO_meetsStaged 97 = .ok (.goto (-95), 3) := by decide +kernel
theorem d_MO_meetsStaged_100 : decode b_MO_meetsStaged 100 = .ok (.iconst 0, 1) := by decide +kernel
theorem d_MO_meetsStaged_101 : decode b_MO_meetsStaged 101 = .ok (.ireturn, 1) := by decide +kernel
theorem d_MO_isCached_0 : decode b_MO_isCached 0 = .ok (.iconst 0, 1) := by decide +kernel
theorem d_MO_isCached_1 : decode b_MO_isCached 1 = .ok (.istore_n 3, 1) := by decide +kernel
theorem d_MO_isCached_2 : decode b_MO_isCached 2 = .ok (.iconst 0, 1) := by decide +kernel
theorem d_MO_isCached_3 : decode b_MO_isCached 3 = .ok (.istore 4, 2) := by decide +kernel
theorem d_MO_isCached_5 : decode b_MO_isCached 5 = .ok (.iload 4, 2) := by decide +kernel
theorem d_MO_isCached_7 : decode b_MO_isCached 7 = .ok (.aload_n 0, 1) := by decide +kernel
theorem d_MO_isCached_8 : decode b_MO_isCached 8 = .ok (.getfield 90, 3) := by decide +kernel
theorem d_MO_isCached_11 : decode b_MO_isCached 11 = .ok (.if_icmp .ge 31, 3) := by decide +kernel
theorem d_MO_isCached_14 : decode b_MO_isCached 14 = .ok (.iload_n 3, 1) := by decide +kernel
theorem d_MO_isCached_15 : decode b_MO_isCached 15 = .ok (.ifCond .ne 15, 3) := by decide +kernel
theorem d_MO_isCached_18 : decode b_MO_isCached 18 = .ok (.aload_n 0, 1) := by decide +kernel
theorem d_MO_isCached_19 : decode b_MO_isCached 19 = .ok (.getfield 60, 3) := by decide +kernel
theorem d_MO_isCached_22 : decode b_MO_isCached 22 = .ok (.iload 4, 2) := by decide +kernel
theorem d_MO_isCached_24 : decode b_MO_isCached 24 = .ok (.laload, 1) := by decide +kernel
theorem d_MO_isCached_25 : decode b_MO_isCached 25 = .ok (.lload_n 1, 1) := by decide +kernel
theorem d_MO_isCached_26 : decode b_MO_isCached 26 = .ok (.lcmp, 1) := by decide +kernel
theorem d_MO_isCached_27 : decode b_MO_isCached 27 = .ok (.ifCond .ne 7, 3) := by decide +kernel
theorem d_MO_isCached_30 : decode b_MO_isCached 30 = .ok (.iconst 1, 1) := by decide +kernel
theorem d_MO_isCached_31 : decode b_MO_isCached 31 = .ok (.goto 4, 3) := by decide +kernel
theorem d_MO_isCached_34 : decode b_MO_isCached 34 = .ok (.iconst 0, 1) := by decide +kernel
theorem d_MO_isCached_35 : decode b_MO_isCached 35 = .ok (.istore_n 3, 1) := by decide +kernel
theorem d_MO_isCached_36 : decode b_MO_isCached 36 = .ok (.iinc 4 1, 3) := by decide +kernel
theorem d_MO_isCached_39 : decode b_MO_isCached 39 = .ok (.goto (-34), 3) := by decide +kernel
theorem d_MO_isCached_42 : decode b_MO_isCached 42 = .ok (.iload_n 3, 1) := by decide +kernel
theorem d_MO_isCached_43 : decode b_MO_isCached 43 = .ok (.ireturn, 1) := by decide +kernel
theorem d_MO_stage_0 : decode b_MO_stage 0 = .ok (.aload_n 0, 1) := by decide +kernel
theorem d_MO_stage_1 : decode b_MO_stage 1 = .ok (.iload_n 1, 1) := by decide +kernel
theorem d_MO_stage_2 : decode b_MO_stage 2 = .ok (.invokevirtual 93, 3) := by decide +kernel
theorem d_MO_stage_5 : decode b_MO_stage 5 = .ok (.ifCond .eq 17, 3) := by decide +kernel
theorem d_MO_stage_8 : decode b_MO_stage 8 = .ok (.aload_n 0, 1) := by decide +kernel
theorem d_MO_stage_9 : decode b_MO_stage 9 = .ok (.iload_n 2, 1) := by decide +kernel
theorem d_MO_stage_10 : decode b_MO_stage 10 = .ok (.invokevirtual 76, 3) := by decide +kernel
theorem d_MO_stage_13 : decode b_MO_stage 13 = .ok (.ifCond .eq 9, 3) := by decide +kernel
theorem d_MO_stage_16 : decode b_MO_stage 16 = .ok (.lload_n 3, 1) := by decide +kernel
theorem d_MO_stage_17 : decode b_MO_stage 17 = .ok (.lconst 0, 1) := by decide +kernel
theorem d_MO_stage_18 : decode b_MO_stage 18 = .ok (.lcmp, 1) := by decide +kernel
theorem d_MO_stage_19 : decode b_MO_stage 19 = .ok (.ifCond .ne 5, 3) := by decide +kernel
theorem d_MO_stage_22 : decode b_MO_stage 22 = .ok (.iconst (-1), 1) := by decide +kernel
theorem d_MO_stage_23 : decode b_MO_stage 23 = .ok (.ireturn, 1) := by decide +kernel
theorem d_MO_stage_24 : decode b_MO_stage 24 = .ok (.aload_n 0, 1) := by decide +kernel
theorem d_MO_stage_25 : decode b_MO_stage 25 = .ok (.iload_n 1, 1) := by decide +kernel
theorem d_MO_stage_26 : decode b_MO_stage 26 = .ok (.iload_n 2, 1) := by decide +kernel
theorem d_MO_stage_27 : decode b_MO_stage 27 = .ok (.invokevirtual 96, 3) := by decide +kernel
theorem d_MO_stage_30 : decode b_MO_stage 30 = .ok (.istore 7, 2) := by decide +kernel
theorem d_MO_stage_32 : decode b_MO_stage 32 = .ok (.iload 7, 2) := by decide +kernel
theorem d_MO_stage_34 : decode b_MO_stage 34 = .ok (.iconst (-1), 1) := by decide +kernel
theorem d_MO_stage_35 : decode b_MO_stage 35 = .ok (.if_icmp .ne 16, 3) := by decide +kernel
theorem d_MO_stage_38 : decode b_MO_stage 38 = .ok (.aload_n 0, 1) := by decide +kernel
theorem d_MO_stage_39 : decode b_MO_stage 39 = .ok (.getfield 39, 3) := by decide +kernel
theorem d_MO_stage_42 : decode b_MO_stage 42 = .ok (.iload_n 1, 1) := by decide +kernel
theorem d_MO_stage_43 : decode b_MO_stage 43 = .ok (.iaload, 1) := by decide +kernel
theorem d_MO_stage_44 : decode b_MO_stage 44 = .ok (.bipush 12, 2) := by decide +kernel
theorem d_MO_stage_46 : decode b_MO_stage 46 = .ok (.if_icmp .ne 5, 3) := by decide +kernel
theorem d_MO_stage_49 : decode b_MO_stage 49 = .ok (.iconst (-1), 1) := by decide +kernel
theorem d_MO_stage_50 : decode b_MO_stage 50 = .ok (.ireturn, 1) := by decide +kernel
theorem d_MO_stage_51 : decode b_MO_stage 51 = .ok (.aload_n 0, 1) := by decide +kernel
theorem d_MO_stage_52 : decode b_MO_stage 52 = .ok (.iload_n 1, 1) := by decide +kernel
theorem d_MO_stage_53 : decode b_MO_stage 53 = .ok (.iload_n 2, 1) := by decide +kernel
theorem d_MO_stage_54 : decode b_MO_stage 54 = .ok (.invokevirtual 100, 3) := by decide +kernel
theorem d_MO_stage_57 : decode b_MO_stage 57 = .ok (.ifCond .ne 12, 3) := by decide +kernel
theorem d_MO_stage_60 : decode b_MO_stage 60 = .ok (.aload_n 0, 1) := by decide +kernel
theorem d_MO_stage_61 : decode b_MO_stage 61 = .ok (.iload_n 1, 1) := by decide +kernel
theorem d_MO_stage_62 : decode b_MO_stage 62 = .ok (.iload_n 2, 1) := by decide +kernel
theorem d_MO_stage_63 : decode b_MO_stage 63 = .ok (.invokevirtual 103, 3) := by decide +kernel
theorem d_MO_stage_66 : decode b_MO_stage 66 = .ok (.ifCond .eq 6, 3) := by decide +kernel
theorem d_MO_stage_69 : decode b_MO_stage 69 = .ok (.bipush (-2), 2) := by decide +kernel
theorem d_MO_stage_71 : decode b_MO_stage 71 = .ok (.ireturn, 1) := by decide +kernel
theorem d_MO_stage_72 : decode b_MO_stage 72 = .ok (.iload 6, 2) := by decide +kernel
theorem d_MO_stage_74 : decode b_MO_stage 74 = .ok (.ifCond .eq 14, 3) := by decide +kernel
theorem d_MO_stage_77 : decode b_MO_stage 77 = .ok (.aload_n 0, 1) := by decide +kernel
theorem d_MO_stage_78 : decode b_MO_stage 78 = .ok (.lload_n 3, 1) := by decide +kernel
theorem d_MO_stage_79 : decode b_MO_stage 79 = .ok (.invokevirtual 106, 3) := by decide +kernel
theorem d_MO_stage_82 : decode b_MO_stage 82 = .ok (.ifCond .ne 6, 3) := by decide +kernel
theorem d_MO_stage_85 : decode b_MO_stage 85 = .ok (.bipush (-3), 2) := by decide +kernel
theorem d_MO_stage_87 : decode b_MO_stage 87 = .ok (.ireturn, 1) := by decide +kernel
theorem d_MO_stage_88 : decode b_MO_stage 88 = .ok (.iload 7, 2) := by decide +kernel
theorem d_MO_stage_90 : decode b_MO_stage 90 = .ok (.iconst (-1), 1) := by decide +kernel
theorem d_MO_stage_91 : decode b_MO_stage 91 = .ok (.if_icmp .ne 26, 3) := by decide +kernel
theorem d_MO_stage_94 : decode b_MO_stage 94 = .ok (.bipush 12, 2) := by decide +kernel
theorem d_MO_stage_96 : decode b_MO_stage 96 = .ok (.iload_n 1, 1) := by decide +kernel
theorem d_MO_stage_97 : decode b_MO_stage 97 = .ok (.imul, 1) := by decide +kernel
theorem d_MO_stage_98 : decode b_MO_stage 98 = .ok (.aload_n 0, 1) := by decide +kernel
theorem d_MO_stage_99 : decode b_MO_stage 99 = .ok (.getfield 39, 3) := by decide +kernel
theorem d_MO_stage_102 : decode b_MO_stage 102 = .ok (.iload_n 1, 1) := by decide +kernel
theorem d_MO_stage_103 : decode b_MO_stage 103 = .ok (.iaload, 1) := by decide +kernel
theorem d_MO_stage_104 : decode b_MO_stage 104 = .ok (.iadd, 1) := by decide +kernel
theorem d_MO_stage_105 : decode b_MO_stage 105 = .ok (.istore 7, 2) := by decide +kernel
theorem d_MO_stage_107 : decode b_MO_stage 107 = .ok (.aload_n 0, 1) := by decide +kernel
theorem d_MO_stage_108 : decode b_MO_stage 108 = .ok (.getfield 39, 3) := by decide +kernel
theorem d_MO_stage_111 : decode b_MO_stage 111 = .ok (.iload_n 1, 1) := by decide +kernel
theorem d_MO_stage_112 : decode b_MO_stage 112 = .ok (.dup2, 1) := by decide +kernel
theorem d_MO_stage_113 : decode b_MO_stage 113 = .ok (.iaload, 1) := by decide +kernel
theorem d_MO_stage_114 : decode b_MO_stage 114 = .ok (.iconst 1, 1) := by decide +kernel
theorem d_MO_stage_115 : decode b_MO_stage 115 = .ok (.iadd, 1) := by decide +kernel
theorem d_MO_stage_116 : decode b_MO_stage 116 = .ok (.iastore, 1) := by decide +kernel
theorem d_MO_stage_117 : decode b_MO_stage 117 = .ok (.aload_n 0, 1) := by decide +kernel
theorem d_MO_stage_118 : decode b_MO_stage 118 = .ok (.getfield 45, 3) := by decide +kernel
theorem d_MO_stage_121 : decode b_MO_stage 121 = .ok (.iload 7, 2) := by decide +kernel
theorem d_MO_stage_123 : decode b_MO_stage 123 = .ok (.iload_n 2, 1) := by decide +kernel
theorem d_MO_stage_124 : decode b_MO_stage 124 = .ok (.iastore, 1) := by decide +kernel
theorem d_MO_stage_125 : decode b_MO_stage 125 = .ok (.aload_n 0, 1) := by decide +kernel
theorem d_MO_stage_126 : decode b_MO_stage 126 = .ok (.getfield 48, 3) := by decide +kernel
theorem d_MO_stage_129 : decode b_MO_stage 129 = .ok (.iload 7, 2) := by decide +kernel
theorem d_MO_stage_131 : decode b_MO_stage 131 = .ok (.lload_n 3, 1) := by decide +kernel
theorem d_MO_stage_132 : decode b_MO_stage 132 = .ok (.lastore, 1) := by decide +kernel
theorem d_MO_stage_133 : decode b_MO_stage 133 = .ok (.aload_n 0, 1) := by decide +kernel
theorem d_MO_stage_134 : decode b_MO_stage 134 = .ok (.getfield 51, 3) := by decide +kernel
theorem d_MO_stage_137 : decode b_MO_stage 137 = .ok (.iload 7, 2) := by decide +kernel
theorem d_MO_stage_139 : decode b_MO_stage 139 = .ok (.iload 5, 2) := by decide +kernel
theorem d_MO_stage_141 : decode b_MO_stage 141 = .ok (.bastore, 1) := by decide +kernel
theorem d_MO_stage_142 : decode b_MO_stage 142 = .ok (.aload_n 0, 1) := by decide +kernel
theorem d_MO_stage_143 : decode b_MO_stage 143 = .ok (.getfield 54, 3) := by decide +kernel
theorem d_MO_stage_146 : decode b_MO_stage 146 = .ok (.iload 7, 2) := by decide +kernel
theorem d_MO_stage_148 : decode b_MO_stage 148 = .ok (.iload 6, 2) := by decide +kernel
theorem d_MO_stage_150 : decode b_MO_stage 150 = .ok (.bastore, 1) := by decide +kernel
theorem d_MO_stage_151 : decode b_MO_stage 151 = .ok (.iconst 1, 1) := by decide +kernel
theorem d_MO_stage_152 : decode b_MO_stage 152 = .ok (.ireturn, 1) := by decide +kernel
theorem d_MO_goOld_0 : decode b_MO_goOld 0 = .ok (.iconst 0, 1) := by decide +kernel
theorem d_MO_goOld_1 : decode b_MO_goOld 1 = .ok (.istore_n 2, 1) := by decide +kernel
theorem d_MO_goOld_2 : decode b_MO_goOld 2 = .ok (.iconst 0, 1) := by decide +kernel
theorem d_MO_goOld_3 : decode b_MO_goOld 3 = .ok (.istore_n 3, 1) := by decide +kernel
theorem d_MO_goOld_4 : decode b_MO_goOld 4 = .ok (.iload_n 3, 1) := by decide +kernel
theorem d_MO_goOld_5 : decode b_MO_goOld 5 = .ok (.aload_n 0, 1) := by decide +kernel
theorem d_MO_goOld_6 : decode b_MO_goOld 6 = .ok (.getfield 69, 3) := by decide +kernel
theorem d_MO_goOld_9 : decode b_MO_goOld 9 = .ok (.if_icmp .ge 69, 3) := by decide +kernel
theorem d_MO_goOld_12 : decode b_MO_goOld 12 = .ok (.bipush 40, 2) := by decide +kernel
theorem d_MO_goOld_14 : decode b_MO_goOld 14 = .ok (.aload_n 0, 1) := by decide +kernel
theorem d_MO_goOld_15 : decode b_MO_goOld 15 = .ok (.getfield 33, 3) := by decide +kernel
theorem d_MO_goOld_18 : decode b_MO_goOld 18 = .ok (.iload_n 1, 1) := by decide +kernel
theorem d_MO_goOld_19 : decode b_MO_goOld 19 = .ok (.iaload, 1) := by decide +kernel
theorem d_MO_goOld_20 : decode b_MO_goOld 20 = .ok (.imul, 1) := by decide +kernel
theorem d_MO_goOld_21 : decode b_MO_goOld 21 = .ok (.iload_n 3, 1) := by decide +kernel
theorem d_MO_goOld_22 : decode b_MO_goOld 22 = .ok (.iadd, 1) := by decide +kernel
theorem d_MO_goOld_23 : decode b_MO_goOld 23 = .ok (.istore 4, 2) := by decide +kernel
theorem d_MO_goOld_25 : decode b_MO_goOld 25 = .ok (.aload_n 0, 1) := by decide +kernel
theorem d_MO_goOld_26 : decode b_MO_goOld 26 = .ok (.getfield 13, 3) := by decide +kernel
theorem d_MO_goOld_29 : decode b_MO_goOld 29 = .ok (.iload 4, 2) := by decide +kernel
theorem d_MO_goOld_31 : decode b_MO_goOld 31 = .ok (.iaload, 1) := by decide +kernel
theorem d_MO_goOld_32 : decode b_MO_goOld 32 = .ok (.aload_n 0, 1) := by decide +kernel
theorem d_MO_goOld_33 : decode b_MO_goOld 33 = .ok (.getfield 30, 3) := by decide +kernel
theorem d_MO_goOld_36 : decode b_MO_goOld 36 = .ok (.iload_n 1, 1) := by decide +kernel
theorem d_MO_goOld_37 : decode b_MO_goOld 37 = .ok (.iaload, 1) := by decide +kernel
theorem d_MO_goOld_38 : decode b_MO_goOld 38 = .ok (.iconst 1, 1) := by decide +kernel
theorem d_MO_goOld_39 : decode b_MO_goOld 39 = .ok (.iadd, 1) := by decide +kernel
theorem d_MO_goOld_40 : decode b_MO_goOld 40 = .ok (.if_icmp .eq 6, 3) := by decide +kernel
theorem d_MO_goOld_43 : decode b_MO_goOld 43 = .ok (.goto 29, 3) := by decide +kernel
theorem d_MO_goOld_46 : decode b_MO_goOld 46 = .ok (.iload_n 2, 1) := by decide +kernel
theorem d_MO_goOld_47 : decode b_MO_goOld 47 = .ok (.aload_n 0, 1) := by decide +kernel
theorem d_MO_goOld_48 : decode b_MO_goOld 48 = .ok (.iload_n 1, 1) := by decide +kernel
theorem d_MO_goOld_49 : decode b_MO_goOld 49 = .ok (.iload_n 3, 1) := by decide +kernel
theorem d_MO_goOld_50 : decode b_MO_goOld 50 = .ok (.invokevirtual 96, 3) := by decide +kernel
theorem d_MO_goOld_53 : decode b_MO_goOld 53 = .ok (.iconst (-1), 1) := by decide +kernel
theorem d_MO_goOld_54 : decode b_MO_goOld 54 = .ok (.if_icmp .ne 7, 3) := by decide +kernel
theorem d_MO_goOld_57 : decode b_MO_goOld 57 = .ok (.iconst 1, 1) := by decide +kernel
theorem d_MO_goOld_58 : decode b_MO_goOld 58 = .ok (.goto 4, 3) := by decide +kernel
theorem d_MO_goOld_61 : decode b_MO_goOld 61 = .ok (.iconst 0, 1) := by decide +kernel
theorem d_MO_goOld_62 : decode b_MO_goOld 62 = .ok (.iadd, 1) := by decide +kernel
theorem d_MO_goOld_63 : decode b_MO_goOld 63 = .ok (.istore_n 2, 1) := by decide +kernel
theorem d_MO_goOld_64 : decode b_MO_goOld 64 = .ok (.aload_n 0, 1) := by decide +kernel
theorem d_MO_goOld_65 : decode b_MO_goOld 65 = .ok (.getfield 13, 3) := by decide +kernel
theorem d_MO_goOld_68 : decode b_MO_goOld 68 = .ok (.iload 4, 2) := by decide +kernel
theorem d_MO_goOld_70 : decode b_MO_goOld 70 = .ok (.iconst 0, 1) := by decide +kernel
theorem d_MO_goOld_71 : decode b_MO_goOld 71 = .ok (.iastore, 1) := by decide +kernel
theorem d_MO_goOld_72 : decode b_MO_goOld 72 = .ok (.iinc 3 1, 3) := by decide +kernel
theorem d_MO_goOld_75 : decode b_MO_goOld 75 = .ok (.goto (-71), 3) := by decide +kernel
theorem d_MO_goOld_78 : decode b_MO_goOld 78 = .ok (.iload_n 2, 1) := by decide +kernel
theorem d_MO_goOld_79 : decode b_MO_goOld 79 = .ok (.ireturn, 1) := by decide +kernel
theorem d_MO_end_0 : decode b_MO_end 0 = .ok (.aload_n 0, 1) := by decide +kernel
theorem d_MO_end_1 : decode b_MO_end 1 = .ok (.iload_n 1, 1) := by decide +kernel
theorem d_MO_end_2 : decode b_MO_end 2 = .ok (.invokevirtual 93, 3) := by decide +kernel
theorem d_MO_end_5 : decode b_MO_end 5 = .ok (.ifCond .ne 5, 3) := by decide +kernel
theorem d_MO_end_8 : decode b_MO_end 8 = .ok (.iconst (-1), 1) := by decide +kernel
theorem d_MO_end_9 : decode b_MO_end 9 = .ok (.ireturn, 1) := by decide +kernel
theorem d_MO_end_10 : decode b_MO_end 10 = .ok (.aload_n 0, 1) := by decide +kernel
theorem d_MO_end_11 : decode b_MO_end 11 = .ok (.getfield 42, 3) := by decide +kernel
theorem d_MO_end_14 : decode b_MO_end 14 = .ok (.iload_n 1, 1) := by decide +kernel
theorem d_MO_end_15 : decode b_MO_end 15 = .ok (.iconst 0, 1) := by decide +kernel
theorem d_MO_end_16 : decode b_MO_end 16 = .ok (.bastore, 1) := by decide +kernel
theorem d_MO_end_17 : decode b_MO_end 17 = .ok (.iload_n 2, 1) := by decide +kernel
theorem d_MO_end_18 : decode b_MO_end 18 = .ok (.ifCond .ne 5, 3) := by decide +kernel
theorem d_MO_end_21 : decode b_MO_end 21 = .ok (.iconst 0, 1) := by decide +kernel
theorem d_MO_end_22 : decode b_MO_end 22 = .ok (.ireturn, 1) := by decide +kernel
theorem d_MO_end_23 : decode b_MO_end 23 = .ok (.aload_n 0, 1) := by decide +kernel
theorem d_MO_end_24 : decode b_MO_end 24 = .ok (.iload_n 1, 1) := by decide +kernel
theorem d_MO_end_25 : decode b_MO_end 25 = .ok (.invokevirtual 110, 3) := by decide +kernel
theorem d_MO_end_28 : decode b_MO_end 28 = .ok (.istore_n 3, 1) := by decide +kernel
theorem d_MO_end_29 : decode b_MO_end 29 = .ok (.bipush 12, 2) := by decide +kernel
theorem d_MO_end_31 : decode b_MO_end 31 = .ok (.iload_n 1, 1) := by decide +kernel
theorem d_MO_end_32 : decode b_MO_end 32 = .ok (.imul, 1) := by decide +kernel
theorem d_MO_end_33 : decode b_MO_end 33 = .ok (.istore 4, 2) := by decide +kernel
theorem d_MO_end_35 : decode b_MO_end 35 = .ok (.iload 4, 2) := by decide +kernel
theorem d_MO_end_37 : decode b_MO_end 37 = .ok (.bipush 12, 2) := by decide +kernel
theorem d_MO_end_39 : decode b_MO_end 39 = .ok (.iload_n 1, 1) := by decide +kernel
theorem d_MO_end_40 : decode b_MO_end 40 = .ok (.imul, 1) := by decide +kernel
theorem d_MO_end_41 : decode b_MO_end 41 = .ok (.aload_n 0, 1) := by decide +kernel
theorem d_MO_end_42 : decode b_MO_end 42 = .ok (.getfield 39, 3) := by decide +kernel
theorem d_MO_end_45 : decode b_MO_end 45 = .ok (.iload_n 1, 1) := by decide +kernel
theorem d_MO_end_46 : decode b_MO_end 46 = .ok (.iaload, 1) := by decide +kernel
theorem d_MO_end_47 : decode b_MO_end 47 = .ok (.iadd, 1) := by decide +kernel
theorem d_MO_end_48 : decode b_MO_end 48 = .ok (.if_icmp .ge 101, 3) := by decide +kernel
theorem d_MO_end_51 : decode b_MO_end 51 = .ok (.bipush 40, 2) := by decide +kernel
theorem d_MO_end_53 : decode b_MO_end 53 = .ok (.aload_n 0, 1) := by decide +kernel
theorem d_MO_end_54 : decode b_MO_end 54 = .ok (.getfield 33, 3) := by decide +kernel
theorem d_MO_end_57 : decode b_MO_end 57 = .ok (.iload_n 1, 1) := by decide +kernel
theorem d_MO_end_58 : decode b_MO_end 58 = .ok (.iaload, 1) := by decide +kernel
theorem d_MO_end_59 : decode b_MO_end 59 = .ok (.imul, 1) := by decide +kernel
theorem d_MO_end_60 : decode b_MO_end 60 = .ok (.aload_n 0, 1) := by decide +kernel
theorem d_MO_end_61 : decode b_MO_end 61 = .ok (.getfield 45, 3) := by decide +kernel
theorem d_MO_end_64 : decode b_MO_end 64 = .ok (.iload 4, 2) := by decide +kernel
theorem d_MO_end_66 : decode b_MO_end 66 = .ok (.iaload, 1) := by decide +kernel
theorem d_MO_end_67 : decode b_MO_end 67 = .ok (.iadd, 1) := by decide +kernel
theorem d_MO_end_68 : decode b_MO_end 68 = .ok (.istore 5, 2) := by decide +kernel
theorem d_MO_end_70 : decode b_MO_end 70 = .ok (.aload_n 0, 1) := by decide +kernel
theorem d_MO_end_71 : decode b_MO_end 71 = .ok (.getfield 13, 3) := by decide +kernel
theorem d_MO_end_74 : decode b_MO_end 74 = .ok (.iload 5, 2) := by decide +kernel
theorem d_MO_end_76 : decode b_MO_end 76 = .ok (.aload_n 0, 1) := by decide +kernel
theorem d_MO_end_77 : decode b_MO_end 77 = .ok (.getfield 30, 3) := by decide +kernel
theorem d_MO_end_80 : decode b_MO_end 80 = .ok (.iload_n 1, 1) := by decide +kernel
theorem d_MO_end_81 : decode b_MO_end 81 = .ok (.iaload, 1) := by decide +kernel
theorem d_MO_end_82 : decode b_MO_end 82 = .ok (.iconst 1, 1) := by decide +kernel
theorem d_MO_end_83 : decode b_MO_end 83 = .ok (.iadd, 1) := by decide +kernel
theorem d_MO_end_84 : decode b_MO_end 84 = .ok (.iastore, 1) := by decide +kernel
theorem d_MO_end_85 : decode b_MO_end 85 = .ok (.aload_n 0, 1) := by decide +kernel
theorem d_MO_end_86 : decode b_MO_end 86 = .ok (.getfield 16, 3) := by decide +kernel
theorem d_MO_end_89 : decode b_MO_end 89 = .ok (.iload 5, 2) := by decide +kernel
theorem d_MO_end_91 : decode b_MO_end 91 = .ok (.iload_n 1, 1) := by decide +kernel
theorem d_MO_end_92 : decode b_MO_end 92 = .ok (.iastore, 1) := by decide +kernel
theorem d_MO_end_93 : decode b_MO_end 93 = .ok (.aload_n 0, 1) := by decide +kernel
theorem d_MO_end_94 : decode b_MO_end 94 = .ok (.getfield 19, 3) := by decide +kernel
theorem d_MO_end_97 : decode b_MO_end 97 = .ok (.iload 5, 2) := by decide +kernel
theorem d_MO_end_99 : decode b_MO_end 99 = .ok (.aload_n 0, 1) := by decide +kernel
theorem d_MO_end_100 : decode b_MO_end 100 = .ok (.getfield 48, 3) := by decide +kernel
theorem d_MO_end_103 : decode b_MO_end 103 = .ok (.iload 4, 2) := by decide +kernel
theorem d_MO_end_105 : decode b_MO_end 105 = .ok (.laload, 1) := by decide +kernel
theorem d_MO_end_106 : decode b_MO_end 106 = .ok (.lastore, 1) := by decide +kernel
theorem d_MO_end_107 : decode b_MO_end 107 = .ok (.aload_n 0, 1) := by decide +kernel
theorem d_MO_end_108 : decode b_MO_end 108 = .ok (.getfield 23, 3) := by decide +kernel
theorem d_MO_end_111 : decode b_MO_end 111 = .ok (.iload 5, 2) := by decide +kernel
theorem d_MO_end_113 : decode b_MO_end 113 = .ok (.aload_n 0, 1) := by decide +kernel
theorem d_MO_end_114 : decode b_MO_end 114 = .ok (.getfield 51, 3) := by decide +kernel
theorem d_MO_end_117 : decode b_MO_end 117 = .ok (.iload 4, 2) := by decide +kernel
theorem d_MO_end_119 : decode b_MO_end 119 = .ok (.baload, 1) := by decide +kernel
theorem d_MO_end_120 : decode b_MO_end 120 = .ok (.bastore, 1) := by decide +kernel
theorem d_MO_end_121 : decode b_MO_end 121 = .ok (.aload_n 0, 1) := by decide +kernel
theorem d_MO_end_122 : decode b_MO_end 122 = .ok (.getfield 27, 3) := by decide +kernel
theorem d_MO_end_125 : decode b_MO_end 125 = .ok (.iload 5, 2) := by decide +kernel
theorem d_MO_end_127 : decode b_MO_end 127 = .ok (.aload_n 0, 1) := by decide +kernel
theorem d_MO_end_128 : decode b_MO_end 128 = .ok (.getfield 54, 3) := by decide +kernel
theorem d_MO_end_131 : decode b_MO_end 131 = .ok (.iload 4, 2) := by decide +kernel
theorem d_MO_end_133 : decode b_MO_end 133 = .ok (.baload, 1) := by decide +kernel
theorem d_MO_end_134 : decode b_MO_end 134 = .ok (.ifCond .ne 7, 3) := by decide +kernel
theorem d_MO_end_137 : decode b_MO_end 137 = .ok (.iconst 1, 1) := by decide +kernel
theorem d_MO_end_138 : decode b_MO_end 138 = .ok (.goto 4, 3) := by decide +kernel
theorem d_MO_end_141 : decode b_MO_end 141 = .ok (.iconst 0, 1) := by decide +kernel
theorem d_MO_end_142 : decode b_MO_end 142 = .ok (.bastore, 1) := by decide +kernel
theorem d_MO_end_143 : decode b_MO_end 143 = .ok (.iinc 4 1, 3) := by decide +kernel
theorem d_MO_end_146 : decode b_MO_end 146 = .ok (.goto (-111), 3) := by decide +kernel
theorem d_MO_end_149 : decode b_MO_end 149 = .ok (.aload_n 0, 1) := by decide +kernel
theorem d_MO_end_150 : decode b_MO_end 150 = .ok (.getfield 57, 3) := by decide +kernel
theorem d_MO_end_153 : decode b_MO_end 153 = .ok (.bipush 12, 2) := by decide +kernel
theorem d_MO_end_155 : decode b_MO_end 155 = .ok (.aload_n 0, 1) := by decide +kernel
theorem d_MO_end_156 : decode b_MO_end 156 = .ok (.getfield 33, 3) := by decide +kernel
theorem d_MO_end_159 : decode b_MO_end 159 = .ok (.iload_n 1, 1) := by decide +kernel
theorem d_MO_end_160 : decode b_MO_end 160 = .ok (.iaload, 1) := by decide +kernel
theorem d_MO_end_161 : decode b_MO_end 161 = .ok (.imul, 1) := by decide +kernel
theorem d_MO_end_162 : decode b_MO_end 162 = .ok (.aload_n 0, 1) := by decide +kernel
theorem d_MO_end_163 : decode b_MO_end 163 = .ok (.getfield 30, 3) := by decide +kernel
theorem d_MO_end_166 : decode b_MO_end 166 = .ok (.iload_n 1, 1) := by decide +kernel
theorem d_MO_end_167 : decode b_MO_end 167 = .ok (.iaload, 1) := by decide +kernel
theorem d_MO_end_168 : decode b_MO_end 168 = .ok (.iadd, 1) := by decide +kernel
theorem d_MO_end_169 : decode b_MO_end 169 = .ok (.iconst 0, 1) := by decide +kernel
theorem d_MO_end_170 : decode b_MO_end 170 = .ok (.bastore, 1) := by decide +kernel
theorem d_MO_end_171 : decode b_MO_end 171 = .ok (.iload_n 3, 1) := by decide +kernel
theorem d_MO_end_172 : decode b_MO_end 172 = .ok (.ireturn, 1) := by decide +kernel
theorem d_MO_abandon_0 : decode b_MO_abandon 0 = .ok (.iload_n 1, 1) := by decide +kernel
theorem d_MO_abandon_1 : decode b_MO_abandon 1 = .ok (.bipush 7, 2) := by decide +kernel
theorem d_MO_abandon_3 : decode b_MO_abandon 3 = .ok (.invokestatic 84, 3) := by decide +kernel
theorem d_MO_abandon_6 : decode b_MO_abandon 6 = .ok (.ifCond .ne 5, 3) := by decide +kernel
theorem d_MO_abandon_9 : decode b_MO_abandon 9 = .ok (.iconst (-1), 1) := by decide +kernel
theorem d_MO_abandon_10 : decode b_MO_abandon 10 = .ok (.ireturn, 1) := by decide +kernel
theorem d_MO_abandon_11 : decode b_MO_abandon 11 = .ok (.iconst 0, 1) := by decide +kernel
theorem d_MO_abandon_12 : decode b_MO_abandon 12 = .ok (.istore_n 2, 1) := by decide +kernel
theorem d_MO_abandon_13 : decode b_MO_abandon 13 = .ok (.iconst 0, 1) := by decide +kernel
theorem d_MO_abandon_14 : decode b_MO_abandon 14 = .ok (.istore_n 3, 1) := by decide +kernel
theorem d_MO_abandon_15 : decode b_MO_abandon 15 = .ok (.iload_n 3, 1) := by decide +kernel
theorem d_MO_abandon_16 : decode b_MO_abandon 16 = .ok (.aload_n 0, 1) := by decide +kernel
theorem d_MO_abandon_17 : decode b_MO_abandon 17 = .ok (.getfield 73, 3) := by decide +kernel
theorem d_MO_abandon_20 : decode b_MO_abandon 20 = .ok (.if_icmp .ge 41, 3) := by decide +kernel
theorem d_MO_abandon_23 : decode b_MO_abandon 23 = .ok (.aload_n 0, 1) := by decide +kernel
theorem d_MO_abandon_24 : decode b_MO_abandon 24 = .ok (.getfield 42, 3) := by decide +kernel
theorem d_MO_abandon_27 : decode b_MO_abandon 27 = .ok (.iload_n 3, 1) := by decide +kernel
theorem d_MO_abandon_28 : decode b_MO_abandon 28 = .ok (.baload, 1) := by decide +kernel
theorem d_MO_abandon_29 : decode b_MO_abandon 29 = .ok (.ifCond .eq 26, 3) := by decide +kernel
theorem d_MO_abandon_32 : decode b_MO_abandon 32 = .ok (.aload_n 0, 1) := by decide +kernel
theorem d_MO_abandon_33 : decode b_MO_abandon 33 = .ok (.getfield 36, 3) := by decide +kernel
theorem d_MO_abandon_36 : decode b_MO_abandon 36 = .ok (.iload_n 3, 1) := by decide +kernel
theorem d_MO_abandon_37 : decode b_MO_abandon 37 = .ok (.iaload, 1) := by decide +kernel
theorem d_MO_abandon_38 : decode b_MO_abandon 38 = .ok (.iload_n 1, 1) := by decide +kernel
theorem d_MO_abandon_39 : decode b_MO_abandon 39 = .ok (.if_icmp .eq 6, 3) := by decide +kernel
theorem d_MO_abandon_42 : decode b_MO_abandon 42 = .ok (.goto 13, 3) := by decide +kernel
theorem d_MO_abandon_45 : decode b_MO_abandon 45 = .ok (.aload_n 0, 1) := by decide +kernel
theorem d_MO_abandon_46 : decode b_MO_abandon 46 = .ok (.getfield 42, 3) := by decide +kernel
theorem d_MO_abandon_49 : decode b_MO_abandon 49 = .ok (.iload_n 3, 1) := by decide +kernel
theorem d_MO_abandon_50 : decode b_MO_abandon 50 = .ok (.iconst 0, 1) := by decide +kernel
theorem d_MO_abandon_51 : decode b_MO_abandon 51 = .ok (.bastore, 1) := by decide +kernel
theorem d_MO_abandon_52 : decode b_MO_abandon 52 = .ok (.iinc 2 1, 3) := by decide +kernel
theorem d_MO_abandon_55 : decode b_MO_abandon 55 = .ok (.iinc 3 1, 3) := by decide +kernel
theorem d_MO_abandon_58 : decode b_MO_abandon 58 = .ok (.goto (-43), 3) := by decide +kernel
theorem d_MO_abandon_61 : decode b_MO_abandon 61 = .ok (.iload_n 2, 1) := by decide +kernel
theorem d_MO_abandon_62 : decode b_MO_abandon 62 = .ok (.ireturn, 1) := by decide +kernel
theorem d_MO_cache_0 : decode b_MO_cache 0 = .ok (.lload_n 1, 1) := by decide +kernel
theorem d_MO_cache_1 : decode b_MO_cache 1 = .ok (.lconst 0, 1) := by decide +kernel
theorem d_MO_cache_2 : decode b_MO_cache 2 = .ok (.lcmp, 1) := by decide +kernel
theorem d_MO_cache_3 : decode b_MO_cache 3 = .ok (.ifCond .eq 24, 3) := by decide +kernel
theorem d_MO_cache_6 : decode b_MO_cache 6 = .ok (.iload_n 3, 1) := by decide +kernel
theorem d_MO_cache_7 : decode b_MO_cache 7 = .ok (.ifCond .eq 22, 3) := by decide +kernel
theorem d_MO_cache_10 : decode b_MO_cache 10 = .ok (.aload_n 0, 1) := by decide +kernel
theorem d_MO_cache_11 : decode b_MO_cache 11 = .ok (.lload_n 1, 1) := by decide +kernel
theorem d_MO_cache_12 : decode b_MO_cache 12 = .ok (.invokevirtual 106, 3) := by decide +kernel
theorem d_MO_cache_15 : decode b_MO_cache 15 = .ok (.ifCond .ne 14, 3) := by decide +kernel
theorem d_MO_cache_18 : decode b_MO_cache 18 = .ok (.aload_n 0, 1) := by decide +kernel
theorem d_MO_cache_19 : decode b_MO_cache 19 = .ok (.getfield 90, 3) := by decide +kernel
theorem d_MO_cache_22 : decode b_MO_cache 22 = .ok (.bipush 60, 2) := by decide +kernel
theorem d_MO_cache_24 : decode b_MO_cache 24 = .ok (.if_icmp .ne 5, 3) := by decide +kernel
theorem d_MO_cache_27 : decode b_MO_cache 27 = .ok (.iconst 0, 1) := by decide +kernel
theorem d_MO_cache_28 : decode b_MO_cache 28 = .ok (.ireturn, 1) := by decide +kernel
theorem d_MO_cache_29 : decode b_MO_cache 29 = .ok (.iload_n 3, 1) := by decide +kernel
theorem d_MO_cache_30 : decode b_MO_cache 30 = .ok (.aload_n 0, 1) := by decide +kernel
theorem d_MO_cache_31 : decode b_MO_cache 31 = .ok (.lload_n 1, 1) := by decide +kernel
theorem d_MO_cache_32 : decode b_MO_cache 32 = .ok (.invokevirtual 106, 3) := by decide +kernel
theorem d_MO_cache_35 : decode b_MO_cache 35 = .ok (.if_icmp .ne 5, 3) := by decide +kernel
theorem d_MO_cache_38 : decode b_MO_cache 38 = .ok (.iconst 1, 1) := by decide +kernel
theorem d_MO_cache_39 : decode b_MO_cache 39 = .ok (.ireturn, 1) := by decide +kernel
theorem d_MO_cache_40 : decode b_MO_cache 40 = .ok (.iload_n 3, 1) := by decide +kernel
theorem d_MO_cache_41 : decode b_MO_cache 41 = .ok (.ifCond .eq 25, 3) := by decide +kernel
theorem d_MO_cache_44 : decode b_MO_cache 44 = .ok (.aload_n 0, 1) := by decide +kernel
theorem d_MO_cache_45 : decode b_MO_cache 45 = .ok (.getfield 60, 3) := by decide +kernel
theorem d_MO_cache_48 : decode b_MO_cache 48 = .ok (.aload_n 0, 1) := by decide +kernel
theorem d_MO_cache_49 : decode b_MO_cache 49 = .ok (.getfield 90, 3) := by decide +kernel
theorem d_MO_cache_52 : decode b_MO_cache 52 = .ok (.lload_n 1, 1) := by decide +kernel
theorem d_MO_cache_53 : decode b_MO_cache 53 = .ok (.lastore, 1) := by decide +kernel
theorem d_MO_cache_54 : decode b_MO_cache 54 = .ok (.aload_n 0, 1) := by decide +kernel
theorem d_MO_cache_55 : decode b_MO_cache 55 = .ok (.dup, 1) := by decide +kernel
theorem d_MO_cache_56 : decode b_MO_cache 56 = .ok (.getfield 90, 3) := by decide +kernel
theorem d_MO_cache_59 : decode b_MO_cache 59 = .ok (.iconst 1, 1) := by decide +kernel
theorem d_MO_cache_60 : decode b_MO_cache 60 = .ok (.iadd, 1) := by decide +kernel
theorem d_MO_cache_61 : decode b_MO_cache 61 = .ok (.putfield 90, 3) := by decide +kernel
theorem d_MO_cache_64 : decode b_MO_cache 64 = .ok (.iconst 1, 1) := by decide +kernel
theorem d_MO_cache_65 : decode b_MO_cache 65 = .ok (.ireturn, 1) := by decide +kernel
theorem d_MO_cache_66 : decode b_MO_cache 66 = .ok (.iconst 0, 1) := by decide +kernel
theorem d_MO_cache_67 : decode b_MO_cache 67 = .ok (.istore 4, 2) := by decide +kernel
theorem d_MO_cache_69 : decode b_MO_cache 69 = .ok (.aload_n 0, 1) := by decide +kernel
theorem d_MO_cache_70 : decode b_MO_cache 70 = .ok (.getfield 60, 3) := by decide +kernel
theorem d_MO_cache_73 : decode b_MO_cache 73 = .ok (.iload 4, 2) := by decide +kernel
theorem d_MO_cache_75 : decode b_MO_cache 75 = .ok (.laload, 1) := by decide +kernel
theorem d_MO_cache_76 : decode b_MO_cache 76 = .ok (.lload_n 1, 1) := by decide +kernel
theorem d_MO_cache_77 : decode b_MO_cache 77 = .ok (.lcmp, 1) := by decide +kernel
theorem d_MO_cache_78 : decode b_MO_cache 78 = .ok (.ifCond .eq 9, 3) := by decide +kernel
theorem d_MO_cache_81 : decode b_MO_cache 81 = .ok (.iinc 4 1, 3) := by decide +kernel
theorem d_MO_cache_84 : decode b_MO_cache 84 = .ok (.goto (-15), 3) := by decide +kernel
theorem d_MO_cache_87 : decode b_MO_cache 87 = .ok (.aload_n 0, 1) := by decide +kernel
theorem d_MO_cache_88 : decode b_MO_cache 88 = .ok (.dup, 1) := by decide +kernel
theorem d_MO_cache_89 : decode b_MO_cache 89 = .ok (.getfield 90, 3) := by decide +kernel
theorem d_MO_cache_92 : decode b_MO_cache 92 = .ok (.iconst 1, 1) := by decide +kernel
theorem d_MO_cache_93 : decode b_MO_cache 93 = .ok (.isub, 1) := by decide +kernel
theorem d_MO_cache_94 : decode b_MO_cache 94 = .ok (.putfield 90, 3) := by decide +kernel
theorem d_MO_cache_97 : decode b_MO_cache 97 = .ok (.aload_n 0, 1) := by decide +kernel
theorem d_MO_cache_98 : decode b_MO_cache 98 = .ok (.getfield 60, 3) := by decide +kernel
theorem d_MO_cache_101 : decode b_MO_cache 101 = .ok (.iload 4, 2) := by decide +kernel
theorem d_MO_cache_103 : decode b_MO_cache 103 = .ok (.aload_n 0, 1) := by decide +kernel
theorem d_MO_cache_104 : decode b_MO_cache 104 = .ok (.getfield 60, 3) := by decide +kernel
theorem d_MO_cache_107 : decode b_MO_cache 107 = .ok (.aload_n 0, 1) := by decide +kernel
theorem d_MO_cache_108 : decode b_MO_cache 108 = .ok (.getfield 90, 3) := by decide +kernel
theorem d_MO_cache_111 : decode b_MO_cache 111 = .ok (.laload, 1) := by decide +kernel
theorem d_MO_cache_112 : decode b_MO_cache 112 = .ok (.lastore, 1) := by decide +kernel
theorem d_MO_cache_113 : decode b_MO_cache 113 = .ok (.iconst 1, 1) := by decide +kernel
theorem d_MO_cache_114 : decode b_MO_cache 114 = .ok (.ireturn, 1) := by decide +kernel
theorem d_MO_isOutput_0 : decode b_MO_isOutput 0 = .ok (.iload_n 1, 1) := by decide +kernel
theorem d_MO_isOutput_1 : decode b_MO_isOutput 1 = .ok (.iconst 3, 1) := by decide +kernel
theorem d_MO_isOutput_2 : decode b_MO_isOutput 2 = .ok (.invokestatic 84, 3) := by decide +kernel
theorem d_MO_isOutput_5 : decode b_MO_isOutput 5 = .ok (.ifCond .eq 49, 3) := by decide +kernel
theorem d_MO_isOutput_8 : decode b_MO_isOutput 8 = .ok (.aload_n 0, 1) := by decide +kernel
theorem d_MO_isOutput_9 : decode b_MO_isOutput 9 = .ok (.iload_n 2, 1) := by decide +kernel
theorem d_MO_isOutput_10 : decode b_MO_isOutput 10 = .ok (.invokevirtual 76, 3) := by decide +kernel
theorem d_MO_isOutput_13 : decode b_MO_isOutput 13 = .ok (.ifCond .eq 41, 3) := by decide +kernel
theorem d_MO_isOutput_16 : decode b_MO_isOutput 16 = .ok (.aload_n 0, 1) := by decide +kernel
theorem d_MO_isOutput_17 : decode b_MO_isOutput 17 = .ok (.getfield 13, 3) := by decide +kernel
theorem d_MO_isOutput_20 : decode b_MO_isOutput 20 = .ok (.iload_n 1, 1) := by decide +kernel
theorem d_MO_isOutput_21 : decode b_MO_isOutput 21 = .ok (.iconst 3, 1) := by decide +kernel
theorem d_MO_isOutput_22 : decode b_MO_isOutput 22 = .ok (.invokestatic 84, 3) := by decide +kernel
theorem d_MO_isOutput_25 : decode b_MO_isOutput 25 = .ok (.ifCond .eq 20, 3) := by decide +kernel
theorem d_MO_isOutput_28 : decode b_MO_isOutput 28 = .ok (.aload_n 0, 1) := by decide +kernel
theorem d_MO_isOutput_29 : decode b_MO_isOutput 29 = .ok (.iload_n 2, 1) := by decide +kernel
theorem d_MO_isOutput_30 : decode b_MO_isOutput 30 = .ok (.invokevirtual 76, 3) := by decide +kernel
theorem d_MO_isOutput_33 : decode b_MO_isOutput 33 = .ok (.ifCond .eq 12, 3) := by decide +kernel
theorem d_MO_isOutput_36 : decode b_MO_isOutput 36 = .ok (.bipush 40, 2) := by decide +kernel
theorem d_MO_isOutput_38 : decode b_MO_isOutput 38 = .ok (.iload_n 1, 1) := by decide +kernel
theorem d_MO_isOutput_39 : decode b_MO_isOutput 39 = .ok (.imul, 1) := by decide +kernel
theorem d_MO_isOutput_40 : decode b_MO_isOutput 40 = .ok (.iload_n 2, 1) := by decide +kernel
theorem d_MO_isOutput_41 : decode b_MO_isOutput 41 = .ok (.iadd, 1) := by decide +kernel
theorem d_MO_isOutput_42 : decode b_MO_isOutput 42 = .ok (.goto 4, 3) := by decide +kernel
theorem d_MO_isOutput_45 : decode b_MO_isOutput 45 = .ok (.iconst 0, 1) := by decide +kernel
theorem d_MO_isOutput_46 : decode b_MO_isOutput 46 = .ok (.iaload, 1) := by decide +kernel
theorem d_MO_isOutput_47 : decode b_MO_isOutput 47 = .ok (.ifCond .eq 7, 3) := by decide +kernel
theorem d_MO_isOutput_50 : decode b_MO_isOutput 50 = .ok (.iconst 1, 1) := by decide +kernel
theorem d_MO_isOutput_51 : decode b_MO_isOutput 51 = .ok (.goto 4, 3) := by decide +kernel
theorem d_MO_isOutput_54 : decode b_MO_isOutput 54 = .ok (.iconst 0, 1) := by decide +kernel
theorem d_MO_isOutput_55 : decode b_MO_isOutput 55 = .ok (.ireturn, 1) := by decide +kernel
theorem d_MO_read_0 : decode b_MO_read 0 = .ok (.iload_n 1, 1) := by decide +kernel
theorem d_MO_read_1 : decode b_MO_read 1 = .ok (.iconst 3, 1) := by decide +kernel
theorem d_MO_read_2 : decode b_MO_read 2 = .ok (.invokestatic 84, 3) := by decide +kernel
theorem d_MO_read_5 : decode b_MO_read 5 = .ok (.ifCond .eq 20, 3) := by decide +kernel
theorem d_MO_read_8 : decode b_MO_read 8 = .ok (.aload_n 0, 1) := by decide +kernel
theorem d_MO_read_9 : decode b_MO_read 9 = .ok (.iload_n 2, 1) := by decide +kernel
theorem d_MO_read_10 : decode b_MO_read 10 = .ok (.invokevirtual 76, 3) := by decide +kernel
theorem d_MO_read_13 : decode b_MO_read 13 = .ok (.ifCond .eq 12, 3) := by decide +kernel
theorem d_MO_read_16 : decode b_MO_read 16 = .ok (.aload_n 0, 1) := by decide +kernel
theorem d_MO_read_17 : decode b_MO_read 17 = .ok (.getfield 114, 3) := by decide +kernel
theorem d_MO_read_20 : decode b_MO_read 20 = .ok (.bipush 100, 2) := by decide +kernel
theorem d_MO_read_22 : decode b_MO_read 22 = .ok (.if_icmp .ne 5, 3) := by decide +kernel
theorem d_MO_read_25 : decode b_MO_read 25 = .ok (.iconst (-1), 1) := by decide +kernel
theorem d_MO_read_26 : decode b_MO_read 26 = .ok (.ireturn, 1) := by decide +kernel
theorem d_MO_read_27 : decode b_MO_read 27 = .ok (.aload_n 0, 1) := by decide +kernel
theorem d_MO_read_28 : decode b_MO_read 28 = .ok (.iload_n 1, 1) := by decide +kernel
theorem d_MO_read_29 : decode b_MO_read 29 = .ok (.iload_n 2, 1) := by decide +kernel
theorem d_MO_read_30 : decode b_MO_read 30 = .ok (.invokevirtual 117, 3) := by decide +kernel
theorem d_MO_read_33 : decode b_MO_read 33 = .ok (.ifCond .ne 6, 3) := by decide +kernel
theorem d_MO_read_36 : decode b_MO_read 36 = .ok (.bipush (-2), 2) := by decide +kernel
theorem d_MO_read_38 : decode b_MO_read 38 = .ok (.ireturn, 1) := by decide +kernel
theorem d_MO_read_39 : decode b_MO_read 39 = .ok (.bipush 40, 2) := by decide +kernel
theorem d_MO_read_41 : decode b_MO_read 41 = .ok (.iload_n 1, 1) := by decide +kernel
theorem d_MO_read_42 : decode b_MO_read 42 = .ok (.imul, 1) := by decide +kernel
theorem d_MO_read_43 : decode b_MO_read 43 = .ok (.iload_n 2, 1) := by decide +kernel
theorem d_MO_read_44 : decode b_MO_read 44 = .ok (.iadd, 1) := by decide +kernel
theorem d_MO_read_45 : decode b_MO_read 45 = .ok (.istore_n 3, 1) := by decide +kernel
theorem d_MO_read_46 : decode b_MO_read 46 = .ok (.aload_n 0, 1) := by decide +kernel
theorem d_MO_read_47 : decode b_MO_read 47 = .ok (.getfield 27, 3) := by decide +kernel
theorem d_MO_read_50 : decode b_MO_read 50 = .ok (.iload_n 3, 1) := by decide +kernel
theorem d_MO_read_51 : decode b_MO_read 51 = .ok (.baload, 1) := by decide +kernel
theorem d_MO_read_52 : decode b_MO_read 52 = .ok (.ifCond .ne 45, 3) := by decide +kernel
theorem d_MO_read_55 : decode b_MO_read 55 = .ok (.aload_n 0, 1) := by decide +kernel
theorem d_MO_read_56 : decode b_MO_read 56 = .ok (.aload_n 0, 1) := by decide +kernel
theorem d_MO_read_57 : decode b_MO_read 57 = .ok (.getfield 19, 3) := by decide +kernel
theorem d_MO_read_60 : decode b_MO_read 60 = .ok (.iload_n 3, 1) := by decide +kernel
theorem d_MO_read_61 : decode b_MO_read 61 = .ok (.laload, 1) := by decide +kernel
theorem d_MO_read_62 : decode b_MO_read 62 = .ok (.invokevirtual 106, 3) := by decide +kernel
theorem d_MO_read_65 : decode b_MO_read 65 = .ok (.ifCond .ne 32, 3) := by decide +kernel
theorem d_MO_read_68 : decode b_MO_read 68 = .ok (.aload_n 0, 1) := by decide +kernel
theorem d_MO_read_69 : decode b_MO_read 69 = .ok (.getfield 57, 3) := by decide +kernel
theorem d_MO_read_72 : decode b_MO_read 72 = .ok (.bipush 12, 2) := by decide +kernel
theorem d_MO_read_74 : decode b_MO_read 74 = .ok (.iload_n 1, 1) := by decide +kernel
theorem d_MO_read_75 : decode b_MO_read 75 = .ok (.imul, 1) := by decide +kernel
theorem d_MO_read_76 : decode b_MO_read 76 = .ok (.aload_n 0, 1) := by decide +kernel
theorem d_MO_read_77 : decode b_MO_read 77 = .ok (.getfield 13, 3) := by decide +kernel
theorem d_MO_read_80 : decode b_MO_read 80 = .ok (.iload_n 3, 1) := by decide +kernel
theorem d_MO_read_81 : decode b_MO_read 81 = .ok (.iaload, 1) := by decide +kernel
theorem d_MO_read_82 : decode b_MO_read 82 = .ok (.iadd, 1) := by decide +kernel
theorem d_MO_read_83 : decode b_MO_read 83 = .ok (.iconst 1, 1) := by decide +kernel
theorem d_MO_read_84 : decode b_MO_read 84 = .ok (.isub, 1) := by decide +kernel
theorem d_MO_read_85 : decode b_MO_read 85 = .ok (.iconst 1, 1) := by decide +kernel
theorem d_MO_read_86 : decode b_MO_read 86 = .ok (.bastore, 1) := by decide +kernel
theorem d_MO_read_87 : decode b_MO_read 87 = .ok (.aload_n 0, 1) := by decide +kernel
theorem d_MO_read_88 : decode b_MO_read 88 = .ok (.getfield 13, 3) := by decide +kernel
theorem d_MO_read_91 : decode b_MO_read 91 = .ok (.iload_n 3, 1) := by decide +kernel
theorem d_MO_read_92 : decode b_MO_read 92 = .ok (.iconst 0, 1) := by decide +kernel
theorem d_MO_read_93 : decode b_MO_read 93 = .ok (.iastore, 1) := by decide +kernel
theorem d_MO_read_94 : decode b_MO_read 94 = .ok (.bipush (-3), 2) := by decide +kernel
theorem d_MO_read_96 : decode b_MO_read 96 = .ok (.ireturn, 1) := by decide +kernel
theorem d_MO_read_97 : decode b_MO_read 97 = .ok (.aload_n 0, 1) := by decide +kernel
theorem d_MO_read_98 : decode b_MO_read 98 = .ok (.getfield 27, 3) := by decide +kernel
theorem d_MO_read_101 : decode b_MO_read 101 = .ok (.iload_n 3, 1) := by decide +kernel
theorem d_MO_read_102 : decode b_MO_read 102 = .ok (.iconst 1, 1) := by decide +kernel
theorem d_MO_read_103 : decode b_MO_read 103 = .ok (.bastore, 1) := by decide +kernel
theorem d_MO_read_104 : decode b_MO_read 104 = .ok (.aload_n 0, 1) := by decide +kernel
theorem d_MO_read_105 : decode b_MO_read 105 = .ok (.getfield 63, 3) := by decide +kernel
theorem d_MO_read_108 : decode b_MO_read 108 = .ok (.aload_n 0, 1) := by decide +kernel
theorem d_MO_read_109 : decode b_MO_read 109 = .ok (.getfield 114, 3) := by decide +kernel
theorem d_MO_read_112 : decode b_MO_read 112 = .ok (.aload_n 0, 1) := by decide +kernel
theorem d_MO_read_113 : decode b_MO_read 113 = .ok (.getfield 19, 3) := by decide +kernel
theorem d_MO_read_116 : decode b_MO_read 116 = .ok (.iload_n 3, 1) := by decide +kernel
theorem d_MO_read_117 : decode b_MO_read 117 = .ok (.laload, 1) := by decide +kernel
theorem d_MO_read_118 : decode b_MO_read 118 = .ok (.lastore, 1) := by decide +kernel
theorem d_MO_read_119 : decode b_MO_read 119 = .ok (.aload_n 0, 1) := by decide +kernel
theorem d_MO_read_120 : decode b_MO_read 120 = .ok (.dup, 1) := by decide +kernel
theorem d_MO_read_121 : decode b_MO_read 121 = .ok (.getfield 114, 3) := by decide +kernel
theorem d_MO_read_124 : decode b_MO_read 124 = .ok (.iconst 1, 1) := by decide +kernel
theorem d_MO_read_125 : decode b_MO_read 125 = .ok (.iadd, 1) := by decide +kernel
theorem d_MO_read_126 : decode b_MO_read 126 = .ok (.putfield 114, 3) := by decide +kernel
theorem d_MO_read_129 : decode b_MO_read 129 = .ok (.aload_n 0, 1) := by decide +kernel
theorem d_MO_read_130 : decode b_MO_read 130 = .ok (.getfield 114, 3) := by decide +kernel
theorem d_MO_read_133 : decode b_MO_read 133 = .ok (.iconst 1, 1) := by decide +kernel
theorem d_MO_read_134 : decode b_MO_read 134 = .ok (.isub, 1) := by decide +kernel
theorem d_MO_read_135 : decode b_MO_read 135 = .ok (.ireturn, 1) := by decide +kernel
theorem d_MO_held_0 : decode b_MO_held 0 = .ok (.iload_n 1, 1) := by decide +kernel
theorem d_MO_held_1 : decode b_MO_held 1 = .ok (.ifCond .lt 20, 3) := by decide +kernel
theorem d_MO_held_4 : decode b_MO_held 4 = .ok (.iload_n 1, 1) := by decide +kernel
theorem d_MO_held_5 : decode b_MO_held 5 = .ok (.aload_n 0, 1) := by decide +kernel
theorem d_MO_held_6 : decode b_MO_held 6 = .ok (.getfield 114, 3) := by decide +kernel
theorem d_MO_held_9 : decode b_MO_held 9 = .ok (.if_icmp .ge 12, 3) := by decide +kernel
theorem d_MO_held_12 : decode b_MO_held 12 = .ok (.aload_n 0, 1) := by decide +kernel
theorem d_MO_held_13 : decode b_MO_held 13 = .ok (.getfield 63, 3) := by decide +kernel
theorem d_MO_held_16 : decode b_MO_held 16 = .ok (.iload_n 1, 1) := by decide +kernel
theorem d_MO_held_17 : decode b_MO_held 17 = .ok (.laload, 1) := by decide +kernel
theorem d_MO_held_18 : decode b_MO_held 18 = .ok (.goto 4, 3) := by decide +kernel
theorem d_MO_held_21 : decode b_MO_held 21 = .ok (.lconst 0, 1) := by decide +kernel
theorem d_MO_held_22 : decode b_MO_held 22 = .ok (.lreturn, 1) := by decide +kernel
theorem d_MO_letGo_0 : decode b_MO_letGo 0 = .ok (.iload_n 1, 1) := by decide +kernel
theorem d_MO_letGo_1 : decode b_MO_letGo 1 = .ok (.ifCond .lt 22, 3) := by decide +kernel
theorem d_MO_letGo_4 : decode b_MO_letGo 4 = .ok (.iload_n 1, 1) := by decide +kernel
theorem d_MO_letGo_5 : decode b_MO_letGo 5 = .ok (.aload_n 0, 1) := by decide +kernel
theorem d_MO_letGo_6 : decode b_MO_letGo 6 = .ok (.getfield 114, 3) := by decide +kernel
theorem d_MO_letGo_9 : decode b_MO_letGo 9 = .ok (.if_icmp .ge 14, 3) := by decide +kernel
theorem d_MO_letGo_12 : decode b_MO_letGo 12 = .ok (.aload_n 0, 1) := by decide +kernel
theorem d_MO_letGo_13 : decode b_MO_letGo 13 = .ok (.getfield 63, 3) := by decide +kernel
theorem d_MO_letGo_16 : decode b_MO_letGo 16 = .ok (.iload_n 1, 1) := by decide +kernel
theorem d_MO_letGo_17 : decode b_MO_letGo 17 = .ok (.laload, 1) := by decide +kernel
theorem d_MO_letGo_18 : decode b_MO_letGo 18 = .ok (.lconst 0, 1) := by decide +kernel
theorem d_MO_letGo_19 : decode b_MO_letGo 19 = .ok (.lcmp, 1) := by decide +kernel
theorem d_MO_letGo_20 : decode b_MO_letGo 20 = .ok (.ifCond .ne 5, 3) := by decide +kernel
theorem d_MO_letGo_23 : decode b_MO_letGo 23 = .ok (.iconst 0, 1) := by decide +kernel
theorem d_MO_letGo_24 : decode b_MO_letGo 24 = .ok (.ireturn, 1) := by decide +kernel
theorem d_MO_letGo_25 : decode b_MO_letGo 25 = .ok (.aload_n 0, 1) := by decide +kernel
theorem d_MO_letGo_26 : decode b_MO_letGo 26 = .ok (.getfield 63, 3) := by decide +kernel
theorem d_MO_letGo_29 : decode b_MO_letGo 29 = .ok (.iload_n 1, 1) := by decide +kernel
theorem d_MO_letGo_30 : decode b_MO_letGo 30 = .ok (.lconst 0, 1) := by decide +kernel
theorem d_MO_letGo_31 : decode b_MO_letGo 31 = .ok (.lastore, 1) := by decide +kernel
theorem d_MO_letGo_32 : decode b_MO_letGo 32 = .ok (.iconst 1, 1) := by decide +kernel
theorem d_MO_letGo_33 : decode b_MO_letGo 33 = .ok (.ireturn, 1) := by decide +kernel
theorem d_MO_content_0 : decode b_MO_content 0 = .ok (.aload_n 0, 1) := by decide +kernel
theorem d_MO_content_1 : decode b_MO_content 1 = .ok (.iload_n 1, 1) := by decide +kernel
theorem d_MO_content_2 : decode b_MO_content 2 = .ok (.iload_n 2, 1) := by decide +kernel
theorem d_MO_content_3 : decode b_MO_content 3 = .ok (.invokevirtual 117, 3) := by decide +kernel
theorem d_MO_content_6 : decode b_MO_content 6 = .ok (.ifCond .eq 17, 3) := by decide +kernel
theorem d_MO_content_9 : decode b_MO_content 9 = .ok (.aload_n 0, 1) := by decide +kernel
theorem d_MO_content_10 : decode b_MO_content 10 = .ok (.getfield 19, 3) := by decide +kernel
theorem d_MO_content_13 : decode b_MO_content 13 = .ok (.bipush 40, 2) := by decide +kernel
theorem d_MO_content_15 : decode b_MO_content 15 = .ok (.iload_n 1, 1) := by decide +kernel
theorem d_MO_content_16 : decode b_MO_content 16 = .ok (.imul, 1) := by decide +kernel
theorem d_MO_content_17 : decode b_MO_content 17 = .ok (.iload_n 2, 1) := by decide +kernel
theorem d_MO_content_18 : decode b_MO_content 18 = .ok (.iadd, 1) := by decide +kernel
theorem d_MO_content_19 : decode b_MO_content 19 = .ok (.laload, 1) := by decide +kernel
theorem d_MO_content_20 : decode b_MO_content 20 = .ok (.goto 4, 3) := by decide +kernel
theorem d_MO_content_23 : decode b_MO_content 23 = .ok (.lconst 0, 1) := by decide +kernel
theorem d_MO_content_24 : decode b_MO_content 24 = .ok (.lreturn, 1) := by decide +kernel
theorem d_MO_about_0 : decode b_MO_about 0 = .ok (.aload_n 0, 1) := by decide +kernel
theorem d_MO_about_1 : decode b_MO_about 1 = .ok (.iload_n 1, 1) := by decide +kernel
theorem d_MO_about_2 : decode b_MO_about 2 = .ok (.iload_n 2, 1) := by decide +kernel
theorem d_MO_about_3 : decode b_MO_about 3 = .ok (.invokevirtual 117, 3) := by decide +kernel
theorem d_MO_about_6 : decode b_MO_about 6 = .ok (.ifCond .ne 5, 3) := by decide +kernel
theorem d_MO_about_9 : decode b_MO_about 9 = .ok (.iconst (-1), 1) := by decide +kernel
theorem d_MO_about_10 : decode b_MO_about 10 = .ok (.ireturn, 1) := by decide +kernel
theorem d_MO_about_11 : decode b_MO_about 11 = .ok (.bipush 40, 2) := by decide +kernel
theorem d_MO_about_13 : decode b_MO_about 13 = .ok (.iload_n 1, 1) := by decide +kernel
theorem d_MO_about_14 : decode b_MO_about 14 = .ok (.imul, 1) := by decide +kernel
theorem d_MO_about_15 : decode b_MO_about 15 = .ok (.iload_n 2, 1) := by decide +kernel
theorem d_MO_about_16 : decode b_MO_about 16 = .ok (.iadd, 1) := by decide +kernel
theorem d_MO_about_17 : decode b_MO_about 17 = .ok (.istore 4, 2) := by decide +kernel
theorem d_MO_about_19 : decode b_MO_about 19 = .ok (.iload_n 3, 1) := by decide +kernel
theorem d_MO_about_20 : decode b_MO_about 20 = .ok (.tableswitch 82 0 3 #[32, 42, 58, 74], 32) := by decide +kernel
theorem d_MO_about_52 : decode b_MO_about 52 = .ok (.aload_n 0, 1) := by decide +kernel
theorem d_MO_about_53 : decode b_MO_about 53 = .ok (.getfield 13, 3) := by decide +kernel
theorem d_MO_about_56 : decode b_MO_about 56 = .ok (.iload 4, 2) := by decide +kernel
theorem d_MO_about_58 : decode b_MO_about 58 = .ok (.iaload, 1) := by decide +kernel
theorem d_MO_about_59 : decode b_MO_about 59 = .ok (.iconst 1, 1) := by decide +kernel
theorem d_MO_about_60 : decode b_MO_about 60 = .ok (.isub, 1) := by decide +kernel
theorem d_MO_about_61 : decode b_MO_about 61 = .ok (.ireturn, 1) := by decide +kernel
theorem d_MO_about_62 : decode b_MO_about 62 = .ok (.aload_n 0, 1) := by decide +kernel
theorem d_MO_about_63 : decode b_MO_about 63 = .ok (.getfield 23, 3) := by decide +kernel
theorem d_MO_about_66 : decode b_MO_about 66 = .ok (.iload 4, 2) := by decide +kernel
theorem d_MO_about_68 : decode b_MO_about 68 = .ok (.baload, 1) := by decide +kernel
theorem d_MO_about_69 : decode b_MO_about 69 = .ok (.ifCond .eq 7, 3) := by decide +kernel
theorem d_MO_about_72 : decode b_MO_about 72 = .ok (.iconst 1, 1) := by decide +kernel
theorem d_MO_about_73 : decode b_MO_about 73 = .ok (.goto 4, 3) := by decide +kernel
theorem d_MO_about_76 : decode b_MO_about 76 = .ok (.iconst 0, 1) := by decide +kernel
theorem d_MO_about_77 : decode b_MO_about 77 = .ok (.ireturn, 1) := by decide +kernel
theorem d_MO_about_78 : decode b_MO_about 78 = .ok (.aload_n 0, 1) := by decide +kernel
theorem d_MO_about_79 : decode b_MO_about 79 = .ok (.getfield 27, 3) := by decide +kernel
theorem d_MO_about_82 : decode b_MO_about 82 = .ok (.iload 4, 2) := by decide +kernel
theorem d_MO_about_84 : decode b_MO_about 84 = .ok (.baload, 1) := by decide +kernel
theorem d_MO_about_85 : decode b_MO_about 85 = .ok (.ifCond .eq 7, 3) := by decide +kernel
theorem d_MO_about_88 : decode b_MO_about 88 = .ok (.iconst 1, 1) := by decide +kernel
theorem d_MO_about_89 : decode b_MO_about 89 = .ok (.goto 4, 3) := by decide +kernel
theorem d_MO_about_92 : decode b_MO_about 92 = .ok (.iconst 0, 1) := by decide +kernel
theorem d_MO_about_93 : decode b_MO_about 93 = .ok (.ireturn, 1) := by decide +kernel
theorem d_MO_about_94 : decode b_MO_about 94 = .ok (.aload_n 0, 1) := by decide +kernel
theorem d_MO_about_95 : decode b_MO_about 95 = .ok (.getfield 16, 3) := by decide +kernel
theorem d_MO_about_98 : decode b_MO_about 98 = .ok (.iload 4, 2) := by decide +kernel
theorem d_MO_about_100 : decode b_MO_about 100 = .ok (.iaload, 1) := by decide +kernel
theorem d_MO_about_101 : decode b_MO_about 101 = .ok (.ireturn, 1) := by decide +kernel
theorem d_MO_about_102 : decode b_MO_about 102 = .ok (.iconst (-1), 1) := by decide +kernel
theorem d_MO_about_103 : decode b_MO_about 103 = .ok (.ireturn, 1) := by decide +kernel
theorem d_MO_list_0 : decode b_MO_list 0 = .ok (.iload_n 1, 1) := by decide +kernel
theorem d_MO_list_1 : decode b_MO_list 1 = .ok (.iconst 3, 1) := by decide +kernel
theorem d_MO_list_2 : decode b_MO_list 2 = .ok (.invokestatic 84, 3) := by decide +kernel
theorem d_MO_list_5 : decode b_MO_list 5 = .ok (.ifCond .eq 20, 3) := by decide +kernel
theorem d_MO_list_8 : decode b_MO_list 8 = .ok (.iload_n 2, 1) := by decide +kernel
theorem d_MO_list_9 : decode b_MO_list 9 = .ok (.iconst (-1), 1) := by decide +kernel
theorem d_MO_list_10 : decode b_MO_list 10 = .ok (.if_icmp .eq 11, 3) := by decide +kernel
theorem d_MO_list_13 : decode b_MO_list 13 = .ok (.aload_n 0, 1) := by decide +kernel
theorem d_MO_list_14 : decode b_MO_list 14 = .ok (.iload_n 2, 1) := by decide +kernel
theorem d_MO_list_15 : decode b_MO_list 15 = .ok (.invokevirtual 76, 3) := by decide +kernel
theorem d_MO_list_18 : decode b_MO_list 18 = .ok (.ifCond .eq 7, 3) := by decide +kernel
theorem d_MO_list_21 : decode b_MO_list 21 = .ok (.iload_n 3, 1) := by decide +kernel
theorem d_MO_list_22 : decode b_MO_list 22 = .ok (.ifCond .ge 5, 3) := by decide +kernel
theorem d_MO_list_25 : decode b_MO_list 25 = .ok (.iconst (-1), 1) := by decide +kernel
theorem d_MO_list_26 : decode b_MO_list 26 = .ok (.ireturn, 1) := by decide +kernel
theorem d_MO_list_27 : decode b_MO_list 27 = .ok (.iload_n 3, 1) := by decide +kernel
theorem d_MO_list_28 : decode b_MO_list 28 = .ok (.istore 4, 2) := by decide +kernel
theorem d_MO_list_30 : decode b_MO_list 30 = .ok (.iconst 0, 1) := by decide +kernel
theorem d_MO_list_31 : decode b_MO_list 31 = .ok (.istore 5, 2) := by decide +kernel
theorem d_MO_list_33 : decode b_MO_list 33 = .ok (.iload 5, 2) := by decide +kernel
theorem d_MO_list_35 : decode b_MO_list 35 = .ok (.aload_n 0, 1) := by decide +kernel
theorem d_MO_list_36 : decode b_MO_list 36 = .ok (.getfield 69, 3) := by decide +kernel
theorem d_MO_list_39 : decode b_MO_list 39 = .ok (.if_icmp .ge 59, 3) := by decide +kernel
theorem d_MO_list_42 : decode b_MO_list 42 = .ok (.aload_n 0, 1) := by decide +kernel
theorem d_MO_list_43 : decode b_MO_list 43 = .ok (.getfield 13, 3) := by decide +kernel
theorem d_MO_list_46 : decode b_MO_list 46 = .ok (.bipush 40, 2) := by decide +kernel
theorem d_MO_list_48 : decode b_MO_list 48 = .ok (.iload_n 1, 1) := by decide +kernel
theorem d_MO_list_49 : decode b_MO_list 49 = .ok (.imul, 1) := by decide +kernel
theorem d_MO_list_50 : decode b_MO_list 50 = .ok (.iload 5, 2) := by decide +kernel
theorem d_MO_list_52 : decode b_MO_list 52 = .ok (.iadd, 1) := by decide +kernel
theorem d_MO_list_53 : decode b_MO_list 53 = .ok (.iaload, 1) := by decide +kernel
theorem d_MO_list_54 : decode b_MO_list 54 = .ok (.ifCond .eq 38, 3) := by decide +kernel
theorem d_MO_list_57 : decode b_MO_list 57 = .ok (.iload_n 2, 1) := by decide +kernel
theorem d_MO_list_58 : decode b_MO_list 58 = .ok (.iconst (-1), 1) := by decide +kernel
theorem d_MO_list_59 : decode b_MO_list 59 = .ok (.if_icmp .eq 22, 3) := by decide +kernel
theorem d_MO_list_62 : decode b_MO_list 62 = .ok (.iload 5, 2) := by decide +kernel
theorem d_MO_list_64 : decode b_MO_list 64 = .ok (.iload_n 2, 1) := by decide +kernel
theorem d_MO_list_65 : decode b_MO_list 65 = .ok (.if_icmp .eq 16, 3) := by decide +kernel
theorem d_MO_list_68 : decode b_MO_list 68 = .ok (.aload_n 0, 1) := by decide +kernel
theorem d_MO_list_69 : decode b_MO_list 69 = .ok (.iload 5, 2) := by decide +kernel
theorem d_MO_list_71 : decode b_MO_list 71 = .ok (.iload_n 2, 1) := by decide +kernel
theorem d_MO_list_72 : decode b_MO_list 72 = .ok (.invokevirtual 80, 3) := by decide +kernel
theorem d_MO_list_75 : decode b_MO_list 75 = .ok (.ifCond .ne 6, 3) := by decide +kernel
theorem d_MO_list_78 : decode b_MO_list 78 = .ok (.goto 14, 3) := by decide +kernel
theorem d_MO_list_81 : decode b_MO_list 81 = .ok (.iload 4, 2) := by decide +kernel
theorem d_MO_list_83 : decode b_MO_list 83 = .ok (.ifCond .ne 6, 3) := by decide +kernel
theorem d_MO_list_86 : decode b_MO_list 86 = .ok (.iload 5, 2) := by decide +kernel
theorem d_MO_list_88 : decode b_MO_list 88 = .ok (.ireturn, 1) := by decide +kernel
theorem d_MO_list_89 : decode b_MO_list 89 = .ok (.iinc 4 (-1), 3) := by decide +kernel
theorem d_MO_list_92 : decode b_MO_list 92 = .ok (.iinc 5 1, 3) := by decide +kernel
theorem d_MO_list_95 : decode b_MO_list 95 = .ok (.goto (-62), 3) := by decide +kernel
theorem d_MO_list_98 : decode b_MO_list 98 = .ok (.iconst (-1), 1) := by decide +kernel
theorem d_MO_list_99 : decode b_MO_list 99 = .ok (.ireturn, 1) := by decide +kernel
theorem d_MO_dirty_0 : decode b_MO_dirty 0 = .ok (.iload_n 1, 1) := by decide +kernel
theorem d_MO_dirty_1 : decode b_MO_dirty 1 = .ok (.bipush 11, 2) := by decide +kernel
theorem d_MO_dirty_3 : decode b_MO_dirty 3 = .ok (.invokestatic 84, 3) := by decide +kernel
theorem d_MO_dirty_6 : decode b_MO_dirty 6 = .ok (.ifCond .eq 50, 3) := by decide +kernel
theorem d_MO_dirty_9 : decode b_MO_dirty 9 = .ok (.iload_n 2, 1) := by decide +kernel
theorem d_MO_dirty_10 : decode b_MO_dirty 10 = .ok (.iconst 3, 1) := by decide +kernel
theorem d_MO_dirty_11 : decode b_MO_dirty 11 = .ok (.invokestatic 84, 3) := by decide +kernel
theorem d_MO_dirty_14 : decode b_MO_dirty 14 = .ok (.ifCond .eq 42, 3) := by decide +kernel
theorem d_MO_dirty_17 : decode b_MO_dirty 17 = .ok (.aload_n 0, 1) := by decide +kernel
theorem d_MO_dirty_18 : decode b_MO_dirty 18 = .ok (.getfield 57, 3) := by decide +kernel
theorem d_MO_dirty_21 : decode b_MO_dirty 21 = .ok (.iload_n 1, 1) := by decide +kernel
theorem d_MO_dirty_22 : decode b_MO_dirty 22 = .ok (.bipush 11, 2) := by decide +kernel
theorem d_MO_dirty_24 : decode b_MO_dirty 24 = .ok (.invokestatic 84, 3) := by decide +kernel
theorem d_MO_dirty_27 : decode b_MO_dirty 27 = .ok (.ifCond .eq 20, 3) := by decide +kernel
theorem d_MO_dirty_30 : decode b_MO_dirty 30 = .ok (.iload_n 2, 1) := by decide +kernel
theorem d_MO_dirty_31 : decode b_MO_dirty 31 = .ok (.iconst 3, 1) := by decide +kernel
theorem d_MO_dirty_32 : decode b_MO_dirty 32 = .ok (.invokestatic 84, 3) := by decide +kernel
theorem d_MO_dirty_35 : decode b_MO_dirty 35 = .ok (.ifCond .eq 12, 3) := by decide +kernel
theorem d_MO_dirty_38 : decode b_MO_dirty 38 = .ok (.bipush 12, 2) := by decide +kernel
theorem d_MO_dirty_40 : decode b_MO_dirty 40 = .ok (.iload_n 2, 1) := by decide +kernel
theorem d_MO_dirty_41 : decode b_MO_dirty 41 = .ok (.imul, 1) := by decide +kernel
theorem d_MO_dirty_42 : decode b_MO_dirty 42 = .ok (.iload_n 1, 1) := by decide +kernel
theorem d_MO_dirty_43 : decode b_MO_dirty 43 = .ok (.iadd, 1) := by decide +kernel
theorem d_MO_dirty_44 : decode b_MO_dirty 44 = .ok (.goto 4, 3) := by decide +kernel
theorem d_MO_dirty_47 : decode b_MO_dirty 47 = .ok (.iconst 0, 1) := by decide +kernel
theorem d_MO_dirty_48 : decode b_MO_dirty 48 = .ok (.baload, 1) := by decide +kernel
theorem d_MO_dirty_49 : decode b_MO_dirty 49 = .ok (.ifCond .eq 7, 3) := by decide +kernel
theorem d_MO_dirty_52 : decode b_MO_dirty 52 = .ok (.iconst 1, 1) := by decide +kernel
theorem d_MO_dirty_53 : decode b_MO_dirty 53 = .ok (.goto 4, 3) := by decide +kernel
theorem d_MO_dirty_56 : decode b_MO_dirty 56 = .ok (.iconst 0, 1) := by decide +kernel
theorem d_MO_dirty_57 : decode b_MO_dirty 57 = .ok (.ireturn, 1) := by decide +kernel
theorem d_MO_clear_0 : decode b_MO_clear 0 = .ok (.iload_n 1, 1) := by decide +kernel
theorem d_MO_clear_1 : decode b_MO_clear 1 = .ok (.iconst 3, 1) := by decide +kernel
theorem d_MO_clear_2 : decode b_MO_clear 2 = .ok (.invokestatic 84, 3) := by decide +kernel
theorem d_MO_clear_5 : decode b_MO_clear 5 = .ok (.ifCond .ne 5, 3) := by decide +kernel
theorem d_MO_clear_8 : decode b_MO_clear 8 = .ok (.iconst (-1), 1) := by decide +kernel
theorem d_MO_clear_9 : decode b_MO_clear 9 = .ok (.ireturn, 1) := by decide +kernel
theorem d_MO_clear_10 : decode b_MO_clear 10 = .ok (.iconst 0, 1) := by decide +kernel
theorem d_MO_clear_11 : decode b_MO_clear 11 = .ok (.istore_n 2, 1) := by decide +kernel
theorem d_MO_clear_12 : decode b_MO_clear 12 = .ok (.iload_n 2, 1) := by decide +kernel
theorem d_MO_clear_13 : decode b_MO_clear 13 = .ok (.aload_n 0, 1) := by decide +kernel
theorem d_MO_clear_14 : decode b_MO_clear 14 = .ok (.getfield 73, 3) := by decide +kernel
theorem d_MO_clear_17 : decode b_MO_clear 17 = .ok (.if_icmp .ge 30, 3) := by decide +kernel
theorem d_MO_clear_20 : decode b_MO_clear 20 = .ok (.aload_n 0, 1) := by decide +kernel
theorem d_MO_clear_21 : decode b_MO_clear 21 = .ok (.getfield 42, 3) := by decide +kernel
theorem d_MO_clear_24 : decode b_MO_clear 24 = .ok (.iload_n 2, 1) := by decide +kernel
theorem d_MO_clear_25 : decode b_MO_clear 25 = .ok (.baload, 1) := by decide +kernel
theorem d_MO_clear_26 : decode b_MO_clear 26 = .ok (.ifCond .eq 15, 3) := by decide +kernel
theorem d_MO_clear_29 : decode b_MO_clear 29 = .ok (.aload_n 0, 1) := by decide +kernel
theorem d_MO_clear_30 : decode b_MO_clear 30 = .ok (.getfield 33, 3) := by decide +kernel
theorem d_MO_clear_33 : decode b_MO_clear 33 = .ok (.iload_n 2, 1) := by decide +kernel
theorem d_MO_clear_34 : decode b_MO_clear 34 = .ok (.iaload, 1) := by decide +kernel
theorem d_MO_clear_35 : decode b_MO_clear 35 = .ok (.iload_n 1, 1) := by decide +kernel
theorem d_MO_clear_36 : decode b_MO_clear 36 = .ok (.if_icmp .ne 5, 3) := by decide +kernel
theorem d_MO_clear_39 : decode b_MO_clear 39 = .ok (.iconst (-1), 1) := by decide +kernel
theorem d_MO_clear_40 : decode b_MO_clear 40 = .ok (.ireturn, 1) := by decide +kernel
theorem d_MO_clear_41 : decode b_MO_clear 41 = .ok (.iinc 2 1, 3) := by decide +kernel
theorem d_MO_clear_44 : decode b_MO_clear 44 = .ok (.goto (-32), 3) := by decide +kernel
theorem d_MO_clear_47 : decode b_MO_clear 47 = .ok (.iconst 0, 1) := by decide +kernel
theorem d_MO_clear_48 : decode b_MO_clear 48 = .ok (.istore_n 2, 1) := by decide +kernel
theorem d_MO_clear_49 : decode b_MO_clear 49 = .ok (.iconst 0, 1) := by decide +kernel
theorem d_MO_clear_50 : decode b_MO_clear 50 = .ok (.istore_n 3, 1) := by decide +kernel
theorem d_MO_clear_51 : decode b_MO_clear 51 = .ok (.iload_n 3, 1) := by decide +kernel
theorem d_MO_clear_52 : decode b_MO_clear 52 = .ok (.aload_n 0, 1) := by decide +kernel
theorem d_MO_clear_53 : decode b_MO_clear 53 = .ok (.getfield 69, 3) := by decide +kernel
theorem d_MO_clear_56 : decode b_MO_clear 56 = .ok (.if_icmp .ge 43, 3) := by decide +kernel
theorem d_MO_clear_59 : decode b_MO_clear 59 = .ok (.iload_n 2, 1) := by decide +kernel
theorem d_MO_clear_60 : decode b_MO_clear 60 = .ok (.aload_n 0, 1) := by decide +kernel
theorem d_MO_clear_61 : decode b_MO_clear 61 = .ok (.getfield 13, 3) := by decide +kernel
theorem d_MO_clear_64 : decode b_MO_clear 64 = .ok (.bipush 40, 2) := by decide +kernel
theorem d_MO_clear_66 : decode b_MO_clear 66 = .ok (.iload_n 1, 1) := by decide +kernel
theorem d_MO_clear_67 : decode b_MO_clear 67 = .ok (.imul, 1) := by decide +kernel
theorem d_MO_clear_68 : decode b_MO_clear 68 = .ok (.iload_n 3, 1) := by decide +kernel
theorem d_MO_clear_69 : decode b_MO_clear 69 = .ok (.iadd, 1) := by decide +kernel
theorem d_MO_clear_70 : decode b_MO_clear 70 = .ok (.iaload, 1) := by decide +kernel
theorem d_MO_clear_71 : decode b_MO_clear 71 = .ok (.ifCond .eq 7, 3) := by decide +kernel
theorem d_MO_clear_74 : decode b_MO_clear 74 = .ok (.iconst 1, 1) := by decide +kernel
theorem d_MO_clear_75 : decode b_MO_clear 75 = .ok (.goto 4, 3) := by decide +kernel
theorem d_MO_clear_78 : decode b_MO_clear 78 = .ok (.iconst 0, 1) := by decide +kernel
theorem d_MO_clear_79 : decode b_MO_clear 79 = .ok (.iadd, 1) := by decide +kernel
theorem d_MO_clear_80 : decode b_MO_clear 80 = .ok (.istore_n 2, 1) := by decide +kernel
theorem d_MO_clear_81 : decode b_MO_clear 81 = .ok (.aload_n 0, 1) := by decide +kernel
theorem d_MO_clear_82 : decode b_MO_clear 82 = .ok (.getfield 13, 3) := by decide +kernel
theorem d_MO_clear_85 : decode b_MO_clear 85 = .ok (.bipush 40, 2) := by decide +kernel
theorem d_MO_clear_87 : decode b_MO_clear 87 = .ok (.iload_n 1, 1) := by decide +kernel
theorem d_MO_clear_88 : decode b_MO_clear 88 = .ok (.imul, 1) := by decide +kernel
theorem d_MO_clear_89 : decode b_MO_clear 89 = .ok (.iload_n 3, 1) := by decide +kernel
theorem d_MO_clear_90 : decode b_MO_clear 90 = .ok (.iadd, 1) := by decide +kernel
theorem d_MO_clear_91 : decode b_MO_clear 91 = .ok (.iconst 0, 1) := by decide +kernel
theorem d_MO_clear_92 : decode b_MO_clear 92 = .ok (.iastore, 1) := by decide +kernel
theorem d_MO_clear_93 : decode b_MO_clear 93 = .ok (.iinc 3 1, 3) := by decide +kernel
theorem d_MO_clear_96 : decode b_MO_clear 96 = .ok (.goto (-45), 3) := by decide +kernel
theorem d_MO_clear_99 : decode b_MO_clear 99 = .ok (.iload_n 2, 1) := by decide +kernel
theorem d_MO_clear_100 : decode b_MO_clear 100 = .ok (.ireturn, 1) := by decide +kernel
theorem d_MO_meets_0 : decode b_MO_meets 0 = .ok (.aload_n 0, 1) := by decide +kernel
theorem d_MO_meets_1 : decode b_MO_meets 1 = .ok (.getfield 66, 3) := by decide +kernel
theorem d_MO_meets_4 : decode b_MO_meets 4 = .ok (.aload_n 0, 1) := by decide +kernel
theorem d_MO_meets_5 : decode b_MO_meets 5 = .ok (.getfield 120, 3) := by decide +kernel
theorem d_MO_meets_8 : decode b_MO_meets 8 = .ok (.lload_n 1, 1) := by decide +kernel
theorem d_MO_meets_9 : decode b_MO_meets 9 = .ok (.lastore, 1) := by decide +kernel
theorem d_MO_meets_10 : decode b_MO_meets 10 = .ok (.aload_n 0, 1) := by decide +kernel
theorem d_MO_meets_11 : decode b_MO_meets 11 = .ok (.dup, 1) := by decide +kernel
theorem d_MO_meets_12 : decode b_MO_meets 12 = .ok (.getfield 120, 3) := by decide +kernel
theorem d_MO_meets_15 : decode b_MO_meets 15 = .ok (.iconst 1, 1) := by decide +kernel
theorem d_MO_meets_16 : decode b_MO_meets 16 = .ok (.iadd, 1) := by decide +kernel
theorem d_MO_meets_17 : decode b_MO_meets 17 = .ok (.putfield 120, 3) := by decide +kernel
theorem d_MO_meets_20 : decode b_MO_meets 20 = .ok (.return_, 1) := by decide +kernel
theorem d_MO_gather_0 : decode b_MO_gather 0 = .ok (.aload_n 0, 1) := by decide +kernel
theorem d_MO_gather_1 : decode b_MO_gather 1 = .ok (.iconst 0, 1) := by decide +kernel
theorem d_MO_gather_2 : decode b_MO_gather 2 = .ok (.putfield 120, 3) := by decide +kernel
theorem d_MO_gather_5 : decode b_MO_gather 5 = .ok (.iconst 0, 1) := by decide +kernel
theorem d_MO_gather_6 : decode b_MO_gather 6 = .ok (.istore_n 1, 1) := by decide +kernel
theorem d_MO_gather_7 : decode b_MO_gather 7 = .ok (.iload_n 1, 1) := by decide +kernel
theorem d_MO_gather_8 : decode b_MO_gather 8 = .ok (.sipush 160, 3) := by decide +kernel
theorem d_MO_gather_11 : decode b_MO_gather 11 = .ok (.if_icmp .ge 37, 3) := by decide +kernel
theorem d_MO_gather_14 : decode b_MO_gather 14 = .ok (.aload_n 0, 1) := by decide +kernel
theorem d_MO_gather_15 : decode b_MO_gather 15 = .ok (.getfield 13, 3) := by decide +kernel
theorem d_MO_gather_18 : decode b_MO_gather 18 = .ok (.iload_n 1, 1) := by decide +kernel
theorem d_MO_gather_19 : decode b_MO_gather 19 = .ok (.iaload, 1) := by decide +kernel
theorem d_MO_gather_20 : decode b_MO_gather 20 = .ok (.ifCond .eq 22, 3) := by decide +kernel
theorem d_MO_gather_23 : decode b_MO_gather 23 = .ok (.aload_n 0, 1) := by decide +kernel
theorem d_MO_gather_24 : decode b_MO_gather 24 = .ok (.getfield 27, 3) := by decide +kernel
theorem d_MO_gather_27 : decode b_MO_gather 27 = .ok (.iload_n 1, 1) := by decide +kernel
theorem d_MO_gather_28 : decode b_MO_gather 28 = .ok (.baload, 1) := by decide +kernel
theorem d_MO_gather_29 : decode b_MO_gather 29 = .ok (.ifCond .eq 13, 3) := by decide +kernel
theorem d_MO_gather_32 : decode b_MO_gather 32 = .ok (.aload_n 0, 1) := by decide +kernel
theorem d_MO_gather_33 : decode b_MO_gather 33 = .ok (.aload_n 0, 1) := by decide +kernel
theorem d_MO_gather_34 : decode b_MO_gather 34 = .ok (.getfield 19, 3) := by decide +kernel
theorem d_MO_gather_37 : decode b_MO_gather 37 = .ok (.iload_n 1, 1) := by decide +kernel
theorem d_MO_gather_38 : decode b_MO_gather 38 = .ok (.laload, 1) := by decide +kernel
theorem d_MO_gather_39 : decode b_MO_gather 39 = .ok (.invokevirtual 123, 3) := by decide +kernel
theorem d_MO_gather_42 : decode b_MO_gather 42 = .ok (.iinc 1 1, 3) := by decide +kernel
theorem d_MO_gather_45 : decode b_MO_gather 45 = .ok (.goto (-38), 3) := by decide +kernel
theorem d_MO_gather_48 : decode b_MO_gather 48 = .ok (.iconst 0, 1) := by decide +kernel
theorem d_MO_gather_49 : decode b_MO_gather 49 = .ok (.istore_n 1, 1) := by decide +kernel
theorem d_MO_gather_50 : decode b_MO_gather 50 = .ok (.iload_n 1, 1) := by decide +kernel
theorem d_MO_gather_51 : decode b_MO_gather 51 = .ok (.aload_n 0, 1) := by decide +kernel
theorem d_MO_gather_52 : decode b_MO_gather 52 = .ok (.getfield 73, 3) := by decide +kernel
theorem d_MO_gather_55 : decode b_MO_gather 55 = .ok (.if_icmp .ge 63, 3) := by decide +kernel
theorem d_MO_gather_58 : decode b_MO_gather 58 = .ok (.bipush 12, 2) := by decide +kernel
theorem d_MO_gather_60 : decode b_MO_gather 60 = .ok (.iload_n 1, 1) := by decide +kernel
theorem d_MO_gather_61 : decode b_MO_gather 61 = .ok (.imul, 1) := by decide +kernel
theorem d_MO_gather_62 : decode b_MO_gather 62 = .ok (.istore_n 2, 1) := by decide +kernel
theorem d_MO_gather_63 : decode b_MO_gather 63 = .ok (.iload_n 2, 1) := by decide +kernel
theorem d_MO_gather_64 : decode b_MO_gather 64 = .ok (.bipush 12, 2) := by decide +kernel
theorem d_MO_gather_66 : decode b_MO_gather 66 = .ok (.iload_n 1, 1) := by decide +kernel
theorem d_MO_gather_67 : decode b_MO_gather 67 = .ok (.imul, 1) := by decide +kernel
theorem d_MO_gather_68 : decode b_MO_gather 68 = .ok (.aload_n 0, 1) := by decide +kernel
theorem d_MO_gather_69 : decode b_MO_gather 69 = .ok (.getfield 39, 3) := by decide +kernel
theorem d_MO_gather_72 : decode b_MO_gather 72 = .ok (.iload_n 1, 1) := by decide +kernel
theorem d_MO_gather_73 : decode b_MO_gather 73 = .ok (.iaload, 1) := by decide +kernel
theorem d_MO_gather_74 : decode b_MO_gather 74 = .ok (.iadd, 1) := by decide +kernel
theorem d_MO_gather_75 : decode b_MO_gather 75 = .ok (.if_icmp .ge 37, 3) := by decide +kernel
theorem d_MO_gather_78 : decode b_MO_gather 78 = .ok (.aload_n 0, 1) := by decide +kernel
theorem d_MO_gather_79 : decode b_MO_gather 79 = .ok (.getfield 42, 3) := by decide +kernel
theorem d_MO_gather_82 : decode b_MO_gather 82 = .ok (.iload_n 1, 1) := by decide +kernel
theorem d_MO_gather_83 : decode b_MO_gather 83 = .ok (.baload, 1) := by decide +kernel
theorem d_MO_gather_84 : decode b_MO_gather 84 = .ok (.ifCond .eq 28, 3) := by decide +kernel
theorem d_MO_gather_87 : decode b_MO_gather 87 = .ok (.aload_n 0, 1) := by decide +kernel
theorem d_MO_gather_88 : decode b_MO_gather 88 = .ok (.getfield 54, 3) := by decide +kernel
theorem d_MO_gather_91 : decode b_MO_gather 91 = .ok (.iload_n 2, 1) := by decide +kernel
theorem d_MO_gather_92 : decode b_MO_gather 92 = .ok (.baload, 1) := by decide +kernel
theorem d_MO_gather_93 : decode b_MO_gather 93 = .ok (.ifCond .ne 13, 3) := by decide +kernel
theorem d_MO_gather_96 : decode b_MO_gather 96 = .ok (.aload_n 0, 1) := by decide +kernel
theorem d_MO_gather_97 : decode b_MO_gather 97 = .ok (.aload_n 0, 1) := by decide +kernel
theorem d_MO_gather_98 : decode b_MO_gather 98 = .ok (.getfield 48, 3) := by decide +kernel
theorem d_MO_gather_101 : decode b_MO_gather 101 = .ok (.iload_n 2, 1) := by decide +kernel
theorem d_MO_gather_102 : decode b_MO_gather 102 = .ok (.laload, 1) := by decide +kernel
theorem d_MO_gather_103 : decode b_MO_gather 103 = .ok (.invokevirtual 123, 3) := by decide +kernel
theorem d_MO_gather_106 : decode b_MO_gather 106 = .ok (.iinc 2 1, 3) := by decide +kernel
theorem d_MO_gather_109 : decode b_MO_gather 109 = .ok (.goto (-46), 3) := by decide +kernel
theorem d_MO_gather_112 : decode b_MO_gather 112 = .ok (.iinc 1 1, 3) := by decide +kernel
theorem d_MO_gather_115 : decode b_MO_gather 115 = .ok (.goto (-65), 3) := by decide +kernel
theorem d_MO_gather_118 : decode b_MO_gather 118 = .ok (.iconst 0, 1) := by decide +kernel
theorem d_MO_gather_119 : decode b_MO_gather 119 = .ok (.istore_n 1, 1) := by decide +kernel
theorem d_MO_gather_120 : decode b_MO_gather 120 = .ok (.iload_n 1, 1) := by decide +kernel
theorem d_MO_gather_121 : decode b_MO_gather 121 = .ok (.aload_n 0, 1) := by decide +kernel
theorem d_MO_gather_122 : decode b_MO_gather 122 = .ok (.getfield 114, 3) := by decide +kernel
theorem d_MO_gather_125 : decode b_MO_gather 125 = .ok (.if_icmp .ge 30, 3) := by decide +kernel
theorem d_MO_gather_128 : decode b_MO_gather 128 = .ok (.aload_n 0, 1) := by decide +kernel
theorem d_MO_gather_129 : decode b_MO_gather 129 = .ok (.getfield 63, 3) := by decide +kernel
theorem d_MO_gather_132 : decode b_MO_gather 132 = .ok (.iload_n 1, 1) := by decide +kernel
theorem d_MO_gather_133 : decode b_MO_gather 133 = .ok (.laload, 1) := by decide +kernel
theorem d_MO_gather_134 : decode b_MO_gather 134 = .ok (.lconst 0, 1) := by decide +kernel
theorem d_MO_gather_135 : decode b_MO_gather 135 = .ok (.lcmp, 1) := by decide +kernel
theorem d_MO_gather_136 : decode b_MO_gather 136 = .ok (.ifCond .eq 13, 3) := by decide +kernel
theorem d_MO_gather_139 : decode b_MO_gather 139 = .ok (.aload_n 0, 1) := by decide +kernel
theorem d_MO_gather_140 : decode b_MO_gather 140 = .ok (.aload_n 0, 1) := by decide +kernel
theorem d_MO_gather_141 : decode b_MO_gather 141 = .ok (.getfield 63, 3) := by decide +kernel
theorem d_MO_gather_144 : decode b_MO_gather 144 = .ok (.iload_n 1, 1) := by decide +kernel
theorem d_MO_gather_145 : decode b_MO_gather 145 = .ok (.laload, 1) := by decide +kernel
theorem d_MO_gather_146 : decode b_MO_gather 146 = .ok (.invokevirtual 123, 3) := by decide +kernel
theorem d_MO_gather_149 : decode b_MO_gather 149 = .ok (.iinc 1 1, 3) := by decide +kernel
theorem d_MO_gather_152 : decode b_MO_gather 152 = .ok (.goto (-32), 3) := by decide +kernel
theorem d_MO_gather_155 : decode b_MO_gather 155 = .ok (.return_, 1) := by decide +kernel
theorem d_MO_copies_0 : decode b_MO_copies 0 = .ok (.aload_n 0, 1) := by decide +kernel
theorem d_MO_copies_1 : decode b_MO_copies 1 = .ok (.invokevirtual 127, 3) := by decide +kernel
theorem d_MO_copies_4 : decode b_MO_copies 4 = .ok (.iconst 0, 1) := by decide +kernel
theorem d_MO_copies_5 : decode b_MO_copies 5 = .ok (.istore_n 3, 1) := by decide +kernel
theorem d_MO_copies_6 : decode b_MO_copies 6 = .ok (.iconst 0, 1) := by decide +kernel
theorem d_MO_copies_7 : decode b_MO_copies 7 = .ok (.istore 4, 2) := by decide +kernel
theorem d_MO_copies_9 : decode b_MO_copies 9 = .ok (.iload 4, 2) := by decide +kernel
theorem d_MO_copies_11 : decode b_MO_copies 11 = .ok (.aload_n 0, 1) := by decide +kernel
theorem d_MO_copies_12 : decode b_MO_copies 12 = .ok (.getfield 120, 3) := by decide +kernel
theorem d_MO_copies_15 : decode b_MO_copies 15 = .ok (.if_icmp .ge 29, 3) := by decide +kernel
theorem d_MO_copies_18 : decode b_MO_copies 18 = .ok (.iload_n 3, 1) := by decide +kernel
theorem d_MO_copies_19 : decode b_MO_copies 19 = .ok (.aload_n 0, 1) := by decide +kernel
theorem d_MO_copies_20 : decode b_MO_copies 20 = .ok (.getfield 66, 3) := by decide +kernel
theorem d_MO_copies_23 : decode b_MO_copies 23 = .ok (.iload 4, 2) := by decide +kernel
theorem d_MO_copies_25 : decode b_MO_copies 25 = .ok (.laload, 1) := by decide +kernel
theorem d_MO_copies_26 : decode b_MO_copies 26 = .ok (.lload_n 1, 1) := by decide +kernel
theorem d_MO_copies_27 : decode b_MO_copies 27 = .ok (.lcmp, 1) := by decide +kernel
theorem d_MO_copies_28 : decode b_MO_copies 28 = .ok (.ifCond .ne 7, 3) := by decide +kernel
theorem d_MO_copies_31 : decode b_MO_copies 31 = .ok (.iconst 1, 1) := by decide +kernel
theorem d_MO_copies_32 : decode b_MO_copies 32 = .ok (.goto 4, 3) := by decide +kernel
theorem d_MO_copies_35 : decode b_MO_copies 35 = .ok (.iconst 0, 1) := by decide +kernel
theorem d_MO_copies_36 : decode b_MO_copies 36 = .ok (.iadd, 1) := by decide +kernel
theorem d_MO_copies_37 : decode b_MO_copies 37 = .ok (.istore_n 3, 1) := by decide +kernel
theorem d_MO_copies_38 : decode b_MO_copies 38 = .ok (.iinc 4 1, 3) := by decide +kernel
theorem d_MO_copies_41 : decode b_MO_copies 41 = .ok (.goto (-32), 3) := by decide +kernel
theorem d_MO_copies_44 : decode b_MO_copies 44 = .ok (.iload_n 3, 1) := by decide +kernel
theorem d_MO_copies_45 : decode b_MO_copies 45 = .ok (.ireturn, 1) := by decide +kernel
theorem d_MO_stored_0 : decode b_MO_stored 0 = .ok (.aload_n 0, 1) := by decide +kernel
theorem d_MO_stored_1 : decode b_MO_stored 1 = .ok (.invokevirtual 127, 3) := by decide +kernel
theorem d_MO_stored_4 : decode b_MO_stored 4 = .ok (.iconst 0, 1) := by decide +kernel
theorem d_MO_stored_5 : decode b_MO_stored 5 = .ok (.istore_n 1, 1) := by decide +kernel
theorem d_MO_stored_6 : decode b_MO_stored 6 = .ok (.iconst 0, 1) := by decide +kernel
theorem d_MO_stored_7 : decode b_MO_stored 7 = .ok (.istore_n 2, 1) := by decide +kernel
theorem d_MO_stored_8 : decode b_MO_stored 8 = .ok (.iload_n 2, 1) := by decide +kernel
theorem d_MO_stored_9 : decode b_MO_stored 9 = .ok (.aload_n 0, 1) := by decide +kernel
theorem d_MO_stored_10 : decode b_MO_stored 10 = .ok (.getfield 120, 3) := by decide +kernel
theorem d_MO_stored_13 : decode b_MO_stored 13 = .ok (.if_icmp .ge 65, 3) := by decide +kernel
theorem d_MO_stored_16 : decode b_MO_stored 16 = .ok (.iconst 1, 1) := by decide +kernel
theorem d_MO_stored_17 : decode b_MO_stored 17 = .ok (.istore_n 3, 1) := by decide +kernel
theorem d_MO_stored_18 : decode b_MO_stored 18 = .ok (.iconst 0, 1) := by decide +kernel
theorem d_MO_stored_19 : decode b_MO_stored 19 = .ok (.istore 4, 2) := by decide +kernel
theorem d_MO_stored_21 : decode b_MO_stored 21 = .ok (.iload 4, 2) := by decide +kernel
theorem d_MO_stored_23 : decode b_MO_stored 23 = .ok (.iload_n 2, 1) := by decide +kernel
theorem d_MO_stored_24 : decode b_MO_stored 24 = .ok (.if_icmp .ge 36, 3) := by decide +kernel
theorem d_MO_stored_27 : decode b_MO_stored 27 = .ok (.iload_n 3, 1) := by decide +kernel
theorem d_MO_stored_28 : decode b_MO_stored 28 = .ok (.ifCond .eq 24, 3) := by decide +kernel
theorem d_MO_stored_31 : decode b_MO_stored 31 = .ok (.aload_n 0, 1) := by decide +kernel
theorem d_MO_stored_32 : decode b_MO_stored 32 = .ok (.getfield 66, 3) := by decide +kernel
theorem d_MO_stored_35 : decode b_MO_stored 35 = .ok (.iload 4, 2) := by decide +kernel
theorem d_MO_stored_37 : decode b_MO_stored 37 = .ok (.laload, 1) := by decide +kernel
theorem d_MO_stored_38 : decode b_MO_stored 38 = .ok (.aload_n 0, 1) := by decide +kernel
theorem d_MO_stored_39 : decode b_MO_stored 39 = .ok (.getfield 66, 3) := by decide +kernel
theorem d_MO_stored_42 : decode b_MO_stored 42 = .ok (.iload_n 2, 1) := by decide +kernel
theorem d_MO_stored_43 : decode b_MO_stored 43 = .ok (.laload, 1) := by decide +kernel
theorem d_MO_stored_44 : decode b_MO_stored 44 = .ok (.lcmp, 1) := by decide +kernel
theorem d_MO_stored_45 : decode b_MO_stored 45 = .ok (.ifCond .eq 7, 3) := by decide +kernel
theorem d_MO_stored_48 : decode b_MO_stored 48 = .ok (.iconst 1, 1) := by decide +kernel
theorem d_MO_stored_49 : decode b_MO_stored 49 = .ok (.goto 4, 3) := by decide +kernel
theorem d_MO_stored_52 : decode b_MO_stored 52 = .ok (.iconst 0, 1) := by decide +kernel
theorem d_MO_stored_53 : decode b_MO_stored 53 = .ok (.istore_n 3, 1) := by decide +kernel
theorem d_MO_stored_54 : decode b_MO_stored 54 = .ok (.iinc 4 1, 3) := by decide +kernel
theorem d_MO_stored_57 : decode b_MO_stored 57 = .ok (.goto (-36), 3) := by decide +kernel
theorem d_MO_stored_60 : decode b_MO_stored 60 = .ok (.iload_n 1, 1) := by decide +kernel
theorem d_MO_stored_61 : decode b_MO_stored 61 = .ok (.iload_n 3, 1) := by decide +kernel
theorem d_MO_stored_62 : decode b_MO_stored 62 = .ok (.ifCond .eq 7, 3) := by decide +kernel
theorem d_MO_stored_65 : decode b_MO_stored 65 = .ok (.iconst 1, 1) := by decide +kernel
theorem d_MO_stored_66 : decode b_MO_stored 66 = .ok (.goto 4, 3) := by decide +kernel
theorem d_MO_stored_69 : decode b_MO_stored 69 = .ok (.iconst 0, 1) := by decide +kernel
theorem d_MO_stored_70 : decode b_MO_stored 70 = .ok (.iadd, 1) := by decide +kernel
theorem d_MO_stored_71 : decode b_MO_stored 71 = .ok (.istore_n 1, 1) := by decide +kernel
theorem d_MO_stored_72 : decode b_MO_stored 72 = .ok (.iinc 2 1, 3) := by decide +kernel
theorem d_MO_stored_75 : decode b_MO_stored 75 = .ok (.goto (-67), 3) := by decide +kernel
theorem d_MO_stored_78 : decode b_MO_stored 78 = .ok (.iload_n 1, 1) := by decide +kernel
theorem d_MO_stored_79 : decode b_MO_stored 79 = .ok (.ireturn, 1) := by decide +kernel
end
section
def w_PT (a : Nat → Nat) (k : Nat → ClassId) (zouter : Nat → Int32) (zcount : Int32) : va_W := [(a 0, .inr (0, [.ref (a 1), .int zcount])), (a 1, .inl (k 0, 40, .inl zouter))]
def t_PT (k : Nat → ClassId) : List (ClassId × FieldType) := [(k 0, .int)]
def w_SB (a : Nat → Nat) (k : Nat → ClassId) (ztargets : Nat → Int32) (zconfigurations : Nat → Int32) (zruns : Nat → Int32) (zopened : Nat → Int32) (zcount : Int32) : va_W := [(a 0, .inr (1, [.ref (a 1), .ref (a 2), .ref (a 3), .ref (a 4), .int zcount])), (a 1, .inl (k 0, 80, .inl ztargets)), (a 2, .inl (k 1, 80, .inl zconfigurations)), (a 3, .inl (k 2, 80, .inl zruns)), (a 4, .inl (k 3, 80, .inl zopened))]
def t_SB (k : Nat → ClassId) : List (ClassId × FieldType) := [(k 0, .int), (k 1, .int), (k 2, .int), (k 3, .boolean)]
def w_LT (a : Nat → Nat) (k : Nat → ClassId) (zcontents : Nat → Int64) (zmakers : Nat → Int32) (zexecutables : Nat → Int32) (zlazies : Nat → Int32) : va_W := [(a 0, .inr (2, [.ref (a 1), .ref (a 2), .ref (a 3), .ref (a 4)])), (a 1, .inl (k 0, 160, .inr (.inl zcontents))), (a 2, .inl (k 1, 160, .inl zmakers)), (a 3, .inl (k 2, 160, .inl zexecutables)), (a 4, .inl (k 3, 160, .inl zlazies))]
def t_LT (k : Nat → ClassId) : List (ClassId × FieldType) := [(k 0, .long), (k 1, .int), (k 2, .boolean), (k 3, .boolean)]
def w_CS (a : Nat → Nat) (k : Nat → ClassId) (zcontents : Nat → Int64) (zcount : Int32) : va_W := [(a 0, .inr (3, [.ref (a 1), .int zcount])), (a 1, .inl (k 0, 60, .inr (.inl zcontents)))]
def t_CS (k : Nat → ClassId) : List (ClassId × FieldType) := [(k 0, .long)]
def w_HB (a : Nat → Nat) (k : Nat → ClassId) (zcontents : Nat → Int64) (zcount : Int32) : va_W := [(a 0, .inr (4, [.ref (a 1), .int zcount])), (a 1, .inl (k 0, 100, .inr (.inl zcontents)))]
def t_HB (k : Nat → ClassId) : List (ClassId × FieldType) := [(k 0, .long)]
def w_DM (a : Nat → Nat) (k : Nat → ClassId) (zmarks : Nat → Int32) : va_W := [(a 0, .inr (5, [.ref (a 1)])), (a 1, .inl (k 0, 48, .inl zmarks))]
def t_DM (k : Nat → ClassId) : List (ClassId × FieldType) := [(k 0, .boolean)]
def w_OS (a : Nat → Nat) (k : Nat → ClassId) (zpaths_outer : Nat → Int32) (zpaths_count : Int32) (zsteps_targets : Nat → Int32) (zsteps_configurations : Nat → Int32) (zsteps_runs : Nat → Int32) (zsteps_opened : Nat → Int32) (zsteps_count : Int32) (zoutputs_contents : Nat → Int64) (zoutputs_makers : Nat → Int32) (zoutputs_executables : Nat → Int32) (zoutputs_lazies : Nat → Int32) (zstaged_contents : Nat → Int64) (zstaged_makers : Nat → Int32) (zstaged_executables : Nat → Int32) (zstaged_lazies : Nat → Int32) (zcached_contents : Nat → Int64) (zcached_count : Int32) (zholds_contents : Nat → Int64) (zholds_count : Int32) (zdirtyMarks_marks : Nat → Int32) (zdifferent : Nat → Int64) : va_W := [(a 0, .inr (6, [.ref (a 1), .ref (a 3), .ref (a 8), .ref (a 13), .ref (a 18), .ref (a 20), .ref (a 22), .ref (a 24)])), (a 1, .inr (0, [.ref (a 2), .int zpaths_count])), (a 2, .inl (k 0, 40, .inl zpaths_outer)), (a 3, .inr (1, [.ref (a 4), .ref (a 5), .ref (a 6), .ref (a 7), .int zsteps_count])), (a 4, .inl (k 1, 80, .inl zsteps_targets)), (a 5, .inl (k 2, 80, .inl zsteps_configurations)), (a 6, .inl (k 3, 80, .inl zsteps_runs)), (a 7, .inl (k 4, 80, .inl zsteps_opened)), (a 8, .inr (2, [.ref (a 9), .ref (a 10), .ref (a 11), .ref (a 12)])), (a 9, .inl (k 5, 160, .inr (.inl zoutputs_contents))), (a 10, .inl (k 6, 160, .inl zoutputs_makers)), (a 11, .inl (k 7, 160, .inl zoutputs_executables)), (a 12, .inl (k 8, 160, .inl zoutputs_lazies)), (a 13, .inr (2, [.ref (a 14), .ref (a 15), .ref (a 16), .ref (a 17)])), (a 14, .inl (k 9, 160, .inr (.inl zstaged_contents))), (a 15, .inl (k 10, 160, .inl zstaged_makers)), (a 16, .inl (k 11, 160, .inl zstaged_executables)), (a 17, .inl (k 12, 160, .inl zstaged_lazies)), (a 18, .inr (3, [.ref (a 19), .int zcached_count])), (a 19, .inl (k 13, 60, .inr (.inl zcached_contents))), (a 20, .inr (4, [.ref (a 21), .int zholds_count])), (a 21, .inl (k 14, 100, .inr (.inl zholds_contents))), (a 22, .inr (5, [.ref (a 23)])), (a 23, .inl (k 15, 48, .inl zdirtyMarks_marks)), (a 24, .inl (k 16, 420, .inr (.inl zdifferent)))]
def t_OS (k : Nat → ClassId) : List (ClassId × FieldType) := [(k 0, .int), (k 1, .int), (k 2, .int), (k 3, .int), (k 4, .boolean), (k 5, .long), (k 6, .int), (k 7, .boolean), (k 8, .boolean), (k 9, .long), (k 10, .int), (k 11, .boolean), (k 12, .boolean), (k 13, .long), (k 14, .long), (k 15, .boolean), (k 16, .long)]
def w_MO (a : Nat → Nat) (k : Nat → ClassId) (zpaths : Int32) (zsteps : Int32) (zcached : Int32) (zholds : Int32) (zinside : Nat → Int32) (zowner : Nat → Int32) (zmaker : Nat → Int32) (zcontent : Nat → Int64) (zruns : Nat → Int32) (zisThere : Nat → Int32) (ztarget : Nat → Int32) (zplace : Nat → Int32) (zrun : Nat → Int32) (zstaged : Nat → Int32) (zisOpen : Nat → Int32) (zstagedAt : Nat → Int32) (zstagedContent : Nat → Int64) (zstagedRuns : Nat → Int32) (zstagedLazy : Nat → Int32) (zisDirty : Nat → Int32) (zcache : Nat → Int64) (zhold : Nat → Int64) (zmet : Int32) (zrow : Nat → Int64) : va_W := [(a 0, .inr (7, [.int zpaths, .int zsteps, .int zcached, .int zholds, .ref (a 1), .ref (a 2), .ref (a 3), .ref (a 4), .ref (a 5), .ref (a 6), .ref (a 7), .ref (a 8), .ref (a 9), .ref (a 10), .ref (a 11), .ref (a 12), .ref (a 13), .ref (a 14), .ref (a 15), .ref (a 16), .ref (a 17), .ref (a 18), .int zmet, .ref (a 19)])), (a 1, .inl (k 0, 40, .inl zinside)), (a 2, .inl (k 1, 160, .inl zowner)), (a 3, .inl (k 2, 160, .inl zmaker)), (a 4, .inl (k 3, 160, .inr (.inl zcontent))), (a 5, .inl (k 4, 160, .inl zruns)), (a 6, .inl (k 5, 160, .inl zisThere)), (a 7, .inl (k 6, 80, .inl ztarget)), (a 8, .inl (k 7, 80, .inl zplace)), (a 9, .inl (k 8, 80, .inl zrun)), (a 10, .inl (k 9, 80, .inl zstaged)), (a 11, .inl (k 10, 80, .inl zisOpen)), (a 12, .inl (k 11, 960, .inl zstagedAt)), (a 13, .inl (k 12, 960, .inr (.inl zstagedContent))), (a 14, .inl (k 13, 960, .inl zstagedRuns)), (a 15, .inl (k 14, 960, .inl zstagedLazy)), (a 16, .inl (k 15, 48, .inl zisDirty)), (a 17, .inl (k 16, 60, .inr (.inl zcache))), (a 18, .inl (k 17, 100, .inr (.inl zhold))), (a 19, .inl (k 18, 1220, .inr (.inl zrow)))]
def t_MO (k : Nat → ClassId) : List (ClassId × FieldType) := [(k 0, .int), (k 1, .int), (k 2, .int), (k 3, .long), (k 4, .boolean), (k 5, .boolean), (k 6, .int), (k 7, .int), (k 8, .int), (k 9, .int), (k 10, .boolean), (k 11, .int), (k 12, .long), (k 13, .boolean), (k 14, .boolean), (k 15, .boolean), (k 16, .long), (k 17, .long), (k 18, .long)]
def pf_PT_has (N : Nat) (zcount : Int32) (p1 : Int32) : Option (Int32) := if p1 < 0 then (some ((0 : Int32))) else (if zcount ≤ p1 then (some ((0 : Int32))) else (some ((1 : Int32))))
def pf_PT_grow (N : Nat) (zouter : Nat → Int32) (zcount : Int32) (p1 : Int32) : Option (Int32 × (Nat → Int32) × Int32) := if (nI 40) ≤ zcount then (some ((-1 : Int32), zouter, zcount)) else (if p1 = (-1 : Int32) then (gz zcount 40 (some (((zcount + (1 : Int32)) - (1 : Int32)), (upd zouter zcount.toNatClampNeg p1), (zcount + (1 : Int32))))) else ((pf_PT_has N zcount p1).bind (fun u0 => if ¬ u0 = 0 then (gz zcount 40 (some (((zcount + (1 : Int32)) - (1 : Int32)), (upd zouter zcount.toNatClampNeg p1), (zcount + (1 : Int32))))) else (some ((-1 : Int32), zouter, zcount)))))
def pf_PT_isAtOrWithin_L5 (N : Nat) (zouter : Nat → Int32) (zcount : Int32) (p2 : Int32) : Nat → Int32 → Int32 → Option (Int32)
  | 0, _, _ => none
  | n5 + 1, x3, x4 => if (nI 40) ≤ x4 then (if ¬ x3 = p2 then (some ((0 : Int32))) else (some ((1 : Int32)))) else (if x3 ≤ p2 then (if ¬ x3 = p2 then (some ((0 : Int32))) else (some ((1 : Int32)))) else ((pf_PT_has N zcount x3).bind (fun u0 => if u0 = 0 then (if ¬ x3 = p2 then (some ((0 : Int32))) else (some ((1 : Int32)))) else (gz x3 40 (pf_PT_isAtOrWithin_L5 N zouter zcount p2 n5 (zouter x3.toNatClampNeg) (x4 + (1 : Int32)))))))
def pf_PT_isAtOrWithin (N : Nat) (zouter : Nat → Int32) (zcount : Int32) (p1 : Int32) (p2 : Int32) : Option (Int32) := pf_PT_isAtOrWithin_L5 N zouter zcount p2 N p1 (0 : Int32)
def pf_PT_meet (N : Nat) (zouter : Nat → Int32) (zcount : Int32) (p1 : Int32) (p2 : Int32) : Option (Int32) := (pf_PT_has N zcount p1).bind (fun u0 => if u0 = 0 then (some ((0 : Int32))) else ((pf_PT_has N zcount p2).bind (fun u1 => if u1 = 0 then (some ((0 : Int32))) else ((pf_PT_isAtOrWithin N zouter zcount p1 p2).bind (fun u2 => if ¬ u2 = 0 then (some ((1 : Int32))) else ((pf_PT_isAtOrWithin N zouter zcount p2 p1).bind (fun u3 => if u3 = 0 then (some ((0 : Int32))) else (some ((1 : Int32))))))))))
def pf_SB_isFull (N : Nat) (zcount : Int32) : Option (Int32) := if zcount < (nI 80) then (some ((0 : Int32))) else (some ((1 : Int32)))
def pf_SB_has (N : Nat) (zcount : Int32) (p1 : Int32) : Option (Int32) := if p1 < 0 then (some ((0 : Int32))) else (if zcount ≤ p1 then (some ((0 : Int32))) else (some ((1 : Int32))))
def pf_SB_isOpen (N : Nat) (zopened : Nat → Int32) (zcount : Int32) (p1 : Int32) : Option (Int32) := (pf_SB_has N zcount p1).bind (fun u0 => if u0 = 0 then (some ((0 : Int32))) else (gz p1 80 (if (zopened p1.toNatClampNeg) = 0 then (some ((0 : Int32))) else (some ((1 : Int32))))))
def pf_SB_open (N : Nat) (ztargets : Nat → Int32) (zconfigurations : Nat → Int32) (zruns : Nat → Int32) (zopened : Nat → Int32) (zcount : Int32) (p1 : Int32) (p2 : Int32) (p3 : Int32) : Option (Int32 × (Nat → Int32) × (Nat → Int32) × (Nat → Int32) × (Nat → Int32) × Int32) := (pf_SB_isFull N zcount).bind (fun u0 => if u0 = 0 then (gz zcount 80 (gz zcount 80 (gz zcount 80 (gz zcount 80 (some (((zcount + (1 : Int32)) - (1 : Int32)), (upd ztargets zcount.toNatClampNeg p1), (upd zconfigurations zcount.toNatClampNeg p2), (upd zruns zcount.toNatClampNeg p3), (upd zopened zcount.toNatClampNeg (vp_nar .boolean (1 : Int32))), (zcount + (1 : Int32)))))))) else (some ((-1 : Int32), ztargets, zconfigurations, zruns, zopened, zcount)))
def pf_SB_close (N : Nat) (zopened : Nat → Int32) (zcount : Int32) (p1 : Int32) : Option ((Nat → Int32)) := (pf_SB_has N zcount p1).bind (fun u0 => if u0 = 0 then (some (zopened)) else (gz p1 80 (some ((upd zopened p1.toNatClampNeg (vp_nar .boolean (0 : Int32)))))))
def pf_SB_targetOf (N : Nat) (ztargets : Nat → Int32) (zcount : Int32) (p1 : Int32) : Option (Int32) := (pf_SB_has N zcount p1).bind (fun u0 => if u0 = 0 then (some ((-1 : Int32))) else (gz p1 80 (some ((ztargets p1.toNatClampNeg)))))
def pf_SB_configurationOf (N : Nat) (zconfigurations : Nat → Int32) (zcount : Int32) (p1 : Int32) : Option (Int32) := (pf_SB_has N zcount p1).bind (fun u0 => if u0 = 0 then (some ((-1 : Int32))) else (gz p1 80 (some ((zconfigurations p1.toNatClampNeg)))))
def pf_SB_runOf (N : Nat) (zruns : Nat → Int32) (zcount : Int32) (p1 : Int32) : Option (Int32) := (pf_SB_has N zcount p1).bind (fun u0 => if u0 = 0 then (some ((-1 : Int32))) else (gz p1 80 (some ((zruns p1.toNatClampNeg)))))
def pf_SB_hasOpenOne_L2 (N : Nat) (ztargets : Nat → Int32) (zconfigurations : Nat → Int32) (zopened : Nat → Int32) (zcount : Int32) (p1 : Int32) (p2 : Int32) : Nat → Int32 → Option (Int32)
  | 0, _ => none
  | n2 + 1, x3 => if (nI 80) ≤ x3 then (some ((0 : Int32))) else ((pf_SB_isOpen N zopened zcount x3).bind (fun u0 => if u0 = 0 then (pf_SB_hasOpenOne_L2 N ztargets zconfigurations zopened zcount p1 p2 n2 (x3 + (1 : Int32))) else (gz x3 80 (if ¬ (ztargets x3.toNatClampNeg) = p1 then (pf_SB_hasOpenOne_L2 N ztargets zconfigurations zopened zcount p1 p2 n2 (x3 + (1 : Int32))) else (gz x3 80 (if ¬ (zconfigurations x3.toNatClampNeg) = p2 then (pf_SB_hasOpenOne_L2 N ztargets zconfigurations zopened zcount p1 p2 n2 (x3 + (1 : Int32))) else (some ((1 : Int32)))))))))
def pf_SB_hasOpenOne (N : Nat) (ztargets : Nat → Int32) (zconfigurations : Nat → Int32) (zopened : Nat → Int32) (zcount : Int32) (p1 : Int32) (p2 : Int32) : Option (Int32) := pf_SB_hasOpenOne_L2 N ztargets zconfigurations zopened zcount p1 p2 N (0 : Int32)
def pf_SB_hasOpenOneIn_L2 (N : Nat) (zconfigurations : Nat → Int32) (zopened : Nat → Int32) (zcount : Int32) (p1 : Int32) : Nat → Int32 → Option (Int32)
  | 0, _ => none
  | n2 + 1, x2 => if (nI 80) ≤ x2 then (some ((0 : Int32))) else ((pf_SB_isOpen N zopened zcount x2).bind (fun u0 => if u0 = 0 then (pf_SB_hasOpenOneIn_L2 N zconfigurations zopened zcount p1 n2 (x2 + (1 : Int32))) else (gz x2 80 (if ¬ (zconfigurations x2.toNatClampNeg) = p1 then (pf_SB_hasOpenOneIn_L2 N zconfigurations zopened zcount p1 n2 (x2 + (1 : Int32))) else (some ((1 : Int32)))))))
def pf_SB_hasOpenOneIn (N : Nat) (zconfigurations : Nat → Int32) (zopened : Nat → Int32) (zcount : Int32) (p1 : Int32) : Option (Int32) := pf_SB_hasOpenOneIn_L2 N zconfigurations zopened zcount p1 N (0 : Int32)
def pf_LT_has (N : Nat) (zcontents : Nat → Int64) (p1 : Int32) : Option (Int32) := if p1 < 0 then (some ((0 : Int32))) else (if (nI 160) ≤ p1 then (some ((0 : Int32))) else (gz p1 160 (if (lg_cmp (zcontents p1.toNatClampNeg) (0 : Int64)) = 0 then (some ((0 : Int32))) else (some ((1 : Int32))))))
def pf_LT_put (N : Nat) (zcontents : Nat → Int64) (zmakers : Nat → Int32) (zexecutables : Nat → Int32) (zlazies : Nat → Int32) (p1 : Int32) (p2 : Int32) (p3 : Int64) (p5 : Int32) (p6 : Int32) : Option ((Nat → Int64) × (Nat → Int32) × (Nat → Int32) × (Nat → Int32)) := if p1 < 0 then (some (zcontents, zmakers, zexecutables, zlazies)) else (if (nI 160) ≤ p1 then (some (zcontents, zmakers, zexecutables, zlazies)) else (gz p1 160 (gz p1 160 (gz p1 160 (gz p1 160 (some ((vp_updL zcontents p1.toNatClampNeg p3), (upd zmakers p1.toNatClampNeg p2), (upd zexecutables p1.toNatClampNeg (vp_nar .boolean p5)), (upd zlazies p1.toNatClampNeg (vp_nar .boolean p6)))))))))
def pf_LT_drop (N : Nat) (zcontents : Nat → Int64) (p1 : Int32) : Option ((Nat → Int64)) := (pf_LT_has N zcontents p1).bind (fun u0 => if u0 = 0 then (some (zcontents)) else (gz p1 160 (some ((vp_updL zcontents p1.toNatClampNeg (0 : Int64))))))
def pf_LT_makeThere (N : Nat) (zcontents : Nat → Int64) (zlazies : Nat → Int32) (p1 : Int32) : Option ((Nat → Int32)) := (pf_LT_has N zcontents p1).bind (fun u0 => if u0 = 0 then (some (zlazies)) else (gz p1 160 (some ((upd zlazies p1.toNatClampNeg (vp_nar .boolean (0 : Int32)))))))
def pf_LT_contentAt (N : Nat) (zcontents : Nat → Int64) (p1 : Int32) : Option (Int64) := (pf_LT_has N zcontents p1).bind (fun u0 => if u0 = 0 then (some ((0 : Int64))) else (gz p1 160 (some ((zcontents p1.toNatClampNeg)))))
def pf_LT_isLazy (N : Nat) (zcontents : Nat → Int64) (zlazies : Nat → Int32) (p1 : Int32) : Option (Int32) := (pf_LT_has N zcontents p1).bind (fun u0 => if u0 = 0 then (some ((0 : Int32))) else (gz p1 160 (if (zlazies p1.toNatClampNeg) = 0 then (some ((0 : Int32))) else (some ((1 : Int32))))))
def pf_LT_storedIn (N : Nat) (zcontents : Nat → Int64) (zlazies : Nat → Int32) (p1 : Int32) : Option (Int64) := (pf_LT_isLazy N zcontents zlazies p1).bind (fun u0 => if u0 = 0 then ((pf_LT_contentAt N zcontents p1).bind (fun u1 => some (u1))) else (some ((0 : Int64))))
def pf_LT_stepAt (N : Nat) (zcontents : Nat → Int64) (zmakers : Nat → Int32) (p1 : Int32) : Option (Int32) := (pf_LT_has N zcontents p1).bind (fun u0 => if u0 = 0 then (some ((-1 : Int32))) else (gz p1 160 (some ((zmakers p1.toNatClampNeg)))))
def pf_LT_isOfStep (N : Nat) (zcontents : Nat → Int64) (zmakers : Nat → Int32) (p1 : Int32) (p2 : Int32) : Option (Int32) := (pf_LT_has N zcontents p1).bind (fun u0 => if u0 = 0 then (some ((0 : Int32))) else (gz p1 160 (if ¬ (zmakers p1.toNatClampNeg) = p2 then (some ((0 : Int32))) else (some ((1 : Int32))))))
def pf_LT_isExecutable (N : Nat) (zcontents : Nat → Int64) (zexecutables : Nat → Int32) (p1 : Int32) : Option (Int32) := (pf_LT_has N zcontents p1).bind (fun u0 => if u0 = 0 then (some ((0 : Int32))) else (gz p1 160 (if (zexecutables p1.toNatClampNeg) = 0 then (some ((0 : Int32))) else (some ((1 : Int32))))))
def pf_OS_isTarget (N : Nat) (p0 : Int32) : Option (Int32) := if p0 < 0 then (some ((0 : Int32))) else (if (nI 12) ≤ p0 then (some ((0 : Int32))) else (some ((1 : Int32))))
def pf_OS_isConfiguration (N : Nat) (p0 : Int32) : Option (Int32) := if p0 < 0 then (some ((0 : Int32))) else (if (nI 4) ≤ p0 then (some ((0 : Int32))) else (some ((1 : Int32))))
def pf_OS_isRun (N : Nat) (p0 : Int32) : Option (Int32) := if p0 < 0 then (some ((0 : Int32))) else (if (nI 8) ≤ p0 then (some ((0 : Int32))) else (some ((1 : Int32))))
def pf_OS_find_L3 (N : Nat) (zn0 : Nat) (zr0 : Nat → Int64) (p1 : Int32) (p2 : Int64) : Nat → Int32 → Option (Int32)
  | 0, _ => none
  | n3 + 1, x4 => if p1 ≤ x4 then (some ((-1 : Int32))) else (if (Int32.ofNat zn0) ≤ x4 then (some ((-1 : Int32))) else (gz x4 zn0 (if ¬ (lg_cmp (zr0 x4.toNatClampNeg) p2) = 0 then (pf_OS_find_L3 N zn0 zr0 p1 p2 n3 (x4 + (1 : Int32))) else (some (x4)))))
def pf_OS_find (N : Nat) (zr0 : Nat → Int64) (zn0 : Nat) (p1 : Int32) (p2 : Int64) : Option (Int32) := pf_OS_find_L3 N zn0 zr0 p1 p2 N (0 : Int32)
def pf_CS_has (N : Nat) (zcontents : Nat → Int64) (zcount : Int32) (p1 : Int64) : Option (Int32) := (pf_OS_find N zcontents 60 zcount p1).bind (fun u0 => if u0 = (-1 : Int32) then (some ((0 : Int32))) else (some ((1 : Int32))))
def pf_CS_include (N : Nat) (zcontents : Nat → Int64) (zcount : Int32) (p1 : Int64) : Option (Int32 × (Nat → Int64) × Int32) := (pf_CS_has N zcontents zcount p1).bind (fun u0 => if u0 = 0 then (if zcount < (nI 60) then (gz zcount 60 (some ((1 : Int32), (vp_updL zcontents zcount.toNatClampNeg p1), (zcount + (1 : Int32))))) else (some ((0 : Int32), zcontents, zcount))) else (some ((1 : Int32), zcontents, zcount)))
def pf_CS_exclude (N : Nat) (zcontents : Nat → Int64) (zcount : Int32) (p1 : Int64) : Option ((Nat → Int64) × Int32) := (pf_OS_find N zcontents 60 zcount p1).bind (fun u0 => if u0 < 0 then (some (zcontents, zcount)) else (if zcount ≤ u0 then (some (zcontents, zcount)) else (gz (zcount - (1 : Int32)) 60 (gz u0 60 (some ((vp_updL zcontents u0.toNatClampNeg (zcontents (zcount - (1 : Int32)).toNatClampNeg)), (zcount - (1 : Int32))))))))
def pf_HB_isFull (N : Nat) (zcount : Int32) : Option (Int32) := if zcount < (nI 100) then (some ((0 : Int32))) else (some ((1 : Int32)))
def pf_HB_take (N : Nat) (zcontents : Nat → Int64) (zcount : Int32) (p1 : Int64) : Option (Int32 × (Nat → Int64) × Int32) := (pf_HB_isFull N zcount).bind (fun u0 => if u0 = 0 then (gz zcount 100 (some (((zcount + (1 : Int32)) - (1 : Int32)), (vp_updL zcontents zcount.toNatClampNeg p1), (zcount + (1 : Int32))))) else (some ((-1 : Int32), zcontents, zcount)))
def pf_HB_has (N : Nat) (zcontents : Nat → Int64) (zcount : Int32) (p1 : Int32) : Option (Int32) := if p1 < 0 then (some ((0 : Int32))) else (if zcount ≤ p1 then (some ((0 : Int32))) else (gz p1 100 (if (lg_cmp (zcontents p1.toNatClampNeg) (0 : Int64)) = 0 then (some ((0 : Int32))) else (some ((1 : Int32))))))
def pf_HB_contentOf (N : Nat) (zcontents : Nat → Int64) (zcount : Int32) (p1 : Int32) : Option (Int64) := (pf_HB_has N zcontents zcount p1).bind (fun u0 => if u0 = 0 then (some ((0 : Int64))) else (gz p1 100 (some ((zcontents p1.toNatClampNeg)))))
def pf_HB_release (N : Nat) (zcontents : Nat → Int64) (zcount : Int32) (p1 : Int32) : Option (Int32 × (Nat → Int64)) := (pf_HB_has N zcontents zcount p1).bind (fun u0 => if ¬ u0 = 0 then (gz p1 100 (some ((1 : Int32), (vp_updL zcontents p1.toNatClampNeg (0 : Int64))))) else (some ((0 : Int32), zcontents)))
def pf_DM_get (N : Nat) (zmarks : Nat → Int32) (p1 : Int32) (p2 : Int32) : Option (Int32) := (pf_OS_isTarget N p1).bind (fun u0 => if u0 = 0 then (some ((0 : Int32))) else ((pf_OS_isConfiguration N p2).bind (fun u1 => if u1 = 0 then (some ((0 : Int32))) else (gz ((p2 * (nI 12)) + p1) 48 (if (zmarks ((p2 * (nI 12)) + p1).toNatClampNeg) = 0 then (some ((0 : Int32))) else (some ((1 : Int32))))))))
def pf_DM_set (N : Nat) (zmarks : Nat → Int32) (p1 : Int32) (p2 : Int32) (p3 : Int32) : Option ((Nat → Int32)) := (pf_OS_isTarget N p1).bind (fun u0 => if u0 = 0 then (some (zmarks)) else ((pf_OS_isConfiguration N p2).bind (fun u1 => if u1 = 0 then (some (zmarks)) else (gz ((p2 * (nI 12)) + p1) 48 (some ((upd zmarks ((p2 * (nI 12)) + p1).toNatClampNeg (vp_nar .boolean p3))))))))
def pf_OS_slotOf (N : Nat) (zpaths_count : Int32) (p1 : Int32) (p2 : Int32) : Option (Int32) := (pf_OS_isConfiguration N p1).bind (fun u0 => if u0 = 0 then (some ((-1 : Int32))) else ((pf_PT_has N zpaths_count p2).bind (fun u1 => if ¬ u1 = 0 then (some (((p1 * (nI 40)) + p2))) else (some ((-1 : Int32))))))
def pf_OS_targetAt (N : Nat) (zsteps_targets : Nat → Int32) (zsteps_count : Int32) (zoutputs_contents : Nat → Int64) (zoutputs_makers : Nat → Int32) (p1 : Int32) : Option (Int32) := (pf_LT_stepAt N zoutputs_contents zoutputs_makers p1).bind (fun u0 => (pf_SB_targetOf N zsteps_targets zsteps_count u0).bind (fun u1 => some (u1)))
def pf_OS_dropStaged_L11 (N : Nat) (zpaths_count : Int32) (zstaged_makers : Nat → Int32) (p1 : Int32) (u0 : Int32) : Nat → (Nat → Int64) → Int32 → Option ((Nat → Int64))
  | 0, _, _ => none
  | n11 + 1, zstaged_contents', x3 => if (nI 40) ≤ x3 then (some (zstaged_contents')) else ((pf_OS_slotOf N zpaths_count u0 x3).bind (fun u1 => (pf_LT_isOfStep N zstaged_contents' zstaged_makers u1 p1).bind (fun u2 => if u2 = 0 then (pf_OS_dropStaged_L11 N zpaths_count zstaged_makers p1 u0 n11 zstaged_contents' (x3 + (1 : Int32))) else ((pf_LT_drop N zstaged_contents' u1).bind (fun u3 => pf_OS_dropStaged_L11 N zpaths_count zstaged_makers p1 u0 n11 u3 (x3 + (1 : Int32)))))))
def pf_OS_dropStaged (N : Nat) (zpaths_count : Int32) (zsteps_configurations : Nat → Int32) (zsteps_count : Int32) (zstaged_contents : Nat → Int64) (zstaged_makers : Nat → Int32) (p1 : Int32) : Option ((Nat → Int64)) := (pf_SB_configurationOf N zsteps_configurations zsteps_count p1).bind (fun u0 => pf_OS_dropStaged_L11 N zpaths_count zstaged_makers p1 u0 N zstaged_contents (0 : Int32))
def pf_OS_replaceOutputs_L24 (N : Nat) (zpaths_count : Int32) (zsteps_targets : Nat → Int32) (zsteps_count : Int32) (zstaged_contents : Nat → Int64) (zstaged_makers : Nat → Int32) (zstaged_executables : Nat → Int32) (zstaged_lazies : Nat → Int32) (zdirtyMarks_marks : Nat → Int32) (p1 : Int32) (u0 : Int32) (u1 : Int32) : Nat → (Nat → Int64) → (Nat → Int32) → (Nat → Int32) → (Nat → Int32) → Int32 → Int32 → Option (Int32 × (Nat → Int64) × (Nat → Int32) × (Nat → Int32) × (Nat → Int32) × (Nat → Int32))
  | 0, _, _, _, _, _, _ => none
  | n24 + 1, zoutputs_contents', zoutputs_makers', zoutputs_executables', zoutputs_lazies', x4, x5 => if (nI 40) ≤ x5 then ((pf_DM_set N zdirtyMarks_marks u1 u0 (0 : Int32)).bind (fun u2 => some (x4, zoutputs_contents', zoutputs_makers', zoutputs_executables', zoutputs_lazies', u2))) else ((pf_OS_slotOf N zpaths_count u0 x5).bind (fun u3 => (pf_LT_isOfStep N zstaged_contents zstaged_makers u3 p1).bind (fun u4 => if u4 = 0 then ((pf_LT_has N zoutputs_contents' u3).bind (fun u5 => if u5 = 0 then (pf_OS_replaceOutputs_L24 N zpaths_count zsteps_targets zsteps_count zstaged_contents zstaged_makers zstaged_executables zstaged_lazies zdirtyMarks_marks p1 u0 u1 n24 zoutputs_contents' zoutputs_makers' zoutputs_executables' zoutputs_lazies' x4 (x5 + (1 : Int32))) else ((pf_OS_targetAt N zsteps_targets zsteps_count zoutputs_contents' zoutputs_makers' u3).bind (fun u6 => if ¬ u6 = u1 then (pf_OS_replaceOutputs_L24 N zpaths_count zsteps_targets zsteps_count zstaged_contents zstaged_makers zstaged_executables zstaged_lazies zdirtyMarks_marks p1 u0 u1 n24 zoutputs_contents' zoutputs_makers' zoutputs_executables' zoutputs_lazies' x4 (x5 + (1 : Int32))) else ((pf_LT_drop N zoutputs_contents' u3).bind (fun u7 => pf_OS_replaceOutputs_L24 N zpaths_count zsteps_targets zsteps_count zstaged_contents zstaged_makers zstaged_executables zstaged_lazies zdirtyMarks_marks p1 u0 u1 n24 u7 zoutputs_makers' zoutputs_executables' zoutputs_lazies' (x4 + (1 : Int32)) (x5 + (1 : Int32)))))))) else ((pf_LT_contentAt N zstaged_contents u3).bind (fun u8 => (pf_LT_isExecutable N zstaged_contents zstaged_executables u3).bind (fun u9 => (pf_LT_isLazy N zstaged_contents zstaged_lazies u3).bind (fun u10 => (pf_LT_put N zoutputs_contents' zoutputs_makers' zoutputs_executables' zoutputs_lazies' u3 p1 u8 u9 u10).bind (fun u11 => pf_OS_replaceOutputs_L24 N zpaths_count zsteps_targets zsteps_count zstaged_contents zstaged_makers zstaged_executables zstaged_lazies zdirtyMarks_marks p1 u0 u1 n24 u11.1 u11.2.1 u11.2.2.1 u11.2.2.2 x4 (x5 + (1 : Int32))))))))))
def pf_OS_replaceOutputs (N : Nat) (zpaths_count : Int32) (zsteps_targets : Nat → Int32) (zsteps_configurations : Nat → Int32) (zsteps_count : Int32) (zoutputs_contents : Nat → Int64) (zoutputs_makers : Nat → Int32) (zoutputs_executables : Nat → Int32) (zoutputs_lazies : Nat → Int32) (zstaged_contents : Nat → Int64) (zstaged_makers : Nat → Int32) (zstaged_executables : Nat → Int32) (zstaged_lazies : Nat → Int32) (zdirtyMarks_marks : Nat → Int32) (p1 : Int32) : Option (Int32 × (Nat → Int64) × (Nat → Int32) × (Nat → Int32) × (Nat → Int32) × (Nat → Int32)) := (pf_SB_configurationOf N zsteps_configurations zsteps_count p1).bind (fun u0 => (pf_SB_targetOf N zsteps_targets zsteps_count p1).bind (fun u1 => pf_OS_replaceOutputs_L24 N zpaths_count zsteps_targets zsteps_count zstaged_contents zstaged_makers zstaged_executables zstaged_lazies zdirtyMarks_marks p1 u0 u1 N zoutputs_contents zoutputs_makers zoutputs_executables zoutputs_lazies (0 : Int32) (0 : Int32)))
def pf_OS_countStaged_L14 (N : Nat) (zpaths_count : Int32) (zstaged_contents : Nat → Int64) (zstaged_makers : Nat → Int32) (p1 : Int32) (u0 : Int32) : Nat → Int32 → Int32 → Option (Int32)
  | 0, _, _ => none
  | n14 + 1, x3, x4 => if (nI 40) ≤ x4 then (some (x3)) else ((pf_OS_slotOf N zpaths_count u0 x4).bind (fun u1 => (pf_LT_isOfStep N zstaged_contents zstaged_makers u1 p1).bind (fun u2 => if u2 = 0 then (pf_OS_countStaged_L14 N zpaths_count zstaged_contents zstaged_makers p1 u0 n14 x3 (x4 + (1 : Int32))) else (pf_OS_countStaged_L14 N zpaths_count zstaged_contents zstaged_makers p1 u0 n14 (x3 + (1 : Int32)) (x4 + (1 : Int32))))))
def pf_OS_countStaged (N : Nat) (zpaths_count : Int32) (zsteps_configurations : Nat → Int32) (zsteps_count : Int32) (zstaged_contents : Nat → Int64) (zstaged_makers : Nat → Int32) (p1 : Int32) : Option (Int32) := (pf_SB_configurationOf N zsteps_configurations zsteps_count p1).bind (fun u0 => pf_OS_countStaged_L14 N zpaths_count zstaged_contents zstaged_makers p1 u0 N (0 : Int32) (0 : Int32))
def pf_OS_isStagedAgainst (N : Nat) (zstaged_contents : Nat → Int64) (zstaged_makers : Nat → Int32) (p1 : Int32) (p2 : Int32) (p3 : Int32) : Option (Int32) := (pf_LT_has N zstaged_contents p2).bind (fun u0 => if u0 = 0 then (some ((0 : Int32))) else (if p3 = 0 then (some ((1 : Int32))) else ((pf_LT_isOfStep N zstaged_contents zstaged_makers p2 p1).bind (fun u1 => if ¬ u1 = 0 then (some ((0 : Int32))) else (some ((1 : Int32)))))))
def pf_OS_isOutputOfAnother (N : Nat) (zsteps_targets : Nat → Int32) (zsteps_count : Int32) (zoutputs_contents : Nat → Int64) (zoutputs_makers : Nat → Int32) (p1 : Int32) (p2 : Int32) : Option (Int32) := (pf_LT_has N zoutputs_contents p2).bind (fun u0 => if u0 = 0 then (some ((0 : Int32))) else ((pf_OS_targetAt N zsteps_targets zsteps_count zoutputs_contents zoutputs_makers p2).bind (fun u1 => (pf_SB_targetOf N zsteps_targets zsteps_count p1).bind (fun u2 => if u1 = u2 then (some ((0 : Int32))) else (some ((1 : Int32)))))))
def pf_OS_isRefused_L12 (N : Nat) (zpaths_outer : Nat → Int32) (zpaths_count : Int32) (zsteps_targets : Nat → Int32) (zsteps_count : Int32) (zoutputs_contents : Nat → Int64) (zoutputs_makers : Nat → Int32) (zstaged_contents : Nat → Int64) (zstaged_makers : Nat → Int32) (p1 : Int32) (p2 : Int32) (u0 : Int32) : Nat → Int32 → Option (Int32)
  | 0, _ => none
  | n12 + 1, x4 => if (nI 40) ≤ x4 then (some ((0 : Int32))) else ((pf_OS_slotOf N zpaths_count u0 x4).bind (fun u1 => (pf_OS_isOutputOfAnother N zsteps_targets zsteps_count zoutputs_contents zoutputs_makers p1 u1).bind (fun u2 => if ¬ u2 = 0 then ((pf_PT_meet N zpaths_outer zpaths_count p2 x4).bind (fun u3 => if u3 = 0 then (pf_OS_isRefused_L12 N zpaths_outer zpaths_count zsteps_targets zsteps_count zoutputs_contents zoutputs_makers zstaged_contents zstaged_makers p1 p2 u0 n12 (x4 + (1 : Int32))) else (some ((1 : Int32))))) else (if ¬ p2 = x4 then ((pf_OS_isStagedAgainst N zstaged_contents zstaged_makers p1 u1 (0 : Int32)).bind (fun u4 => if u4 = 0 then (pf_OS_isRefused_L12 N zpaths_outer zpaths_count zsteps_targets zsteps_count zoutputs_contents zoutputs_makers zstaged_contents zstaged_makers p1 p2 u0 n12 (x4 + (1 : Int32))) else ((pf_PT_meet N zpaths_outer zpaths_count p2 x4).bind (fun u5 => if u5 = 0 then (pf_OS_isRefused_L12 N zpaths_outer zpaths_count zsteps_targets zsteps_count zoutputs_contents zoutputs_makers zstaged_contents zstaged_makers p1 p2 u0 n12 (x4 + (1 : Int32))) else (some ((1 : Int32))))))) else ((pf_OS_isStagedAgainst N zstaged_contents zstaged_makers p1 u1 (1 : Int32)).bind (fun u6 => if u6 = 0 then (pf_OS_isRefused_L12 N zpaths_outer zpaths_count zsteps_targets zsteps_count zoutputs_contents zoutputs_makers zstaged_contents zstaged_makers p1 p2 u0 n12 (x4 + (1 : Int32))) else ((pf_PT_meet N zpaths_outer zpaths_count p2 x4).bind (fun u7 => if u7 = 0 then (pf_OS_isRefused_L12 N zpaths_outer zpaths_count zsteps_targets zsteps_count zoutputs_contents zoutputs_makers zstaged_contents zstaged_makers p1 p2 u0 n12 (x4 + (1 : Int32))) else (some ((1 : Int32)))))))))))
def pf_OS_isRefused (N : Nat) (zpaths_outer : Nat → Int32) (zpaths_count : Int32) (zsteps_targets : Nat → Int32) (zsteps_configurations : Nat → Int32) (zsteps_count : Int32) (zoutputs_contents : Nat → Int64) (zoutputs_makers : Nat → Int32) (zstaged_contents : Nat → Int64) (zstaged_makers : Nat → Int32) (p1 : Int32) (p2 : Int32) : Option (Int32) := (pf_SB_configurationOf N zsteps_configurations zsteps_count p1).bind (fun u0 => pf_OS_isRefused_L12 N zpaths_outer zpaths_count zsteps_targets zsteps_count zoutputs_contents zoutputs_makers zstaged_contents zstaged_makers p1 p2 u0 N (0 : Int32))
def pf_OS_storedAt (N : Nat) (zoutputs_contents : Nat → Int64) (zoutputs_lazies : Nat → Int32) (zstaged_contents : Nat → Int64) (zstaged_lazies : Nat → Int32) (zholds_contents : Nat → Int64) (zholds_count : Int32) (p1 : Int32) : Option (Int64) := if (nI 160) ≤ p1 then (if (nI 320) ≤ p1 then ((pf_HB_contentOf N zholds_contents zholds_count ((p1 - (nI 160)) - (nI 160))).bind (fun u0 => some (u0))) else ((pf_LT_storedIn N zstaged_contents zstaged_lazies (p1 - (nI 160))).bind (fun u1 => some (u1)))) else ((pf_LT_storedIn N zoutputs_contents zoutputs_lazies p1).bind (fun u2 => some (u2)))
def pf_OS_path (N : Nat) (zpaths_outer : Nat → Int32) (zpaths_count : Int32) (p1 : Int32) : Option (Int32 × (Nat → Int32) × Int32) := (pf_PT_grow N zpaths_outer zpaths_count p1).bind (fun u0 => some (u0.1, u0.2.1, u0.2.2))
def pf_OS_begin (N : Nat) (zsteps_targets : Nat → Int32) (zsteps_configurations : Nat → Int32) (zsteps_runs : Nat → Int32) (zsteps_opened : Nat → Int32) (zsteps_count : Int32) (p1 : Int32) (p2 : Int32) (p3 : Int32) : Option (Int32 × (Nat → Int32) × (Nat → Int32) × (Nat → Int32) × (Nat → Int32) × Int32) := (pf_OS_isTarget N p1).bind (fun u0 => if u0 = 0 then (some ((-1 : Int32), zsteps_targets, zsteps_configurations, zsteps_runs, zsteps_opened, zsteps_count)) else ((pf_OS_isConfiguration N p2).bind (fun u1 => if u1 = 0 then (some ((-1 : Int32), zsteps_targets, zsteps_configurations, zsteps_runs, zsteps_opened, zsteps_count)) else ((pf_OS_isRun N p3).bind (fun u2 => if u2 = 0 then (some ((-1 : Int32), zsteps_targets, zsteps_configurations, zsteps_runs, zsteps_opened, zsteps_count)) else ((pf_SB_isFull N zsteps_count).bind (fun u3 => if u3 = 0 then ((pf_SB_hasOpenOne N zsteps_targets zsteps_configurations zsteps_opened zsteps_count p1 p2).bind (fun u4 => if u4 = 0 then ((pf_SB_open N zsteps_targets zsteps_configurations zsteps_runs zsteps_opened zsteps_count p1 p2 p3).bind (fun u5 => some (u5.1, u5.2.1, u5.2.2.1, u5.2.2.2.1, u5.2.2.2.2.1, u5.2.2.2.2.2))) else (some ((-2 : Int32), zsteps_targets, zsteps_configurations, zsteps_runs, zsteps_opened, zsteps_count)))) else (some ((-1 : Int32), zsteps_targets, zsteps_configurations, zsteps_runs, zsteps_opened, zsteps_count)))))))))
def pf_OS_stage (N : Nat) (zpaths_outer : Nat → Int32) (zpaths_count : Int32) (zsteps_targets : Nat → Int32) (zsteps_configurations : Nat → Int32) (zsteps_opened : Nat → Int32) (zsteps_count : Int32) (zoutputs_contents : Nat → Int64) (zoutputs_makers : Nat → Int32) (zstaged_contents : Nat → Int64) (zstaged_makers : Nat → Int32) (zstaged_executables : Nat → Int32) (zstaged_lazies : Nat → Int32) (zcached_contents : Nat → Int64) (zcached_count : Int32) (p1 : Int32) (p2 : Int32) (p3 : Int64) (p5 : Int32) (p6 : Int32) : Option (Int32 × (Nat → Int64) × (Nat → Int32) × (Nat → Int32) × (Nat → Int32)) := (pf_SB_isOpen N zsteps_opened zsteps_count p1).bind (fun u0 => if u0 = 0 then (some ((-1 : Int32), zstaged_contents, zstaged_makers, zstaged_executables, zstaged_lazies)) else ((pf_PT_has N zpaths_count p2).bind (fun u1 => if u1 = 0 then (some ((-1 : Int32), zstaged_contents, zstaged_makers, zstaged_executables, zstaged_lazies)) else (if ¬ (lg_cmp p3 (0 : Int64)) = 0 then ((pf_SB_configurationOf N zsteps_configurations zsteps_count p1).bind (fun u2 => (pf_OS_slotOf N zpaths_count u2 p2).bind (fun u3 => (pf_LT_isOfStep N zstaged_contents zstaged_makers u3 p1).bind (fun u4 => if ¬ u4 = 0 then ((pf_OS_isRefused N zpaths_outer zpaths_count zsteps_targets zsteps_configurations zsteps_count zoutputs_contents zoutputs_makers zstaged_contents zstaged_makers p1 p2).bind (fun u5 => if u5 = 0 then (if p6 = 0 then ((pf_LT_put N zstaged_contents zstaged_makers zstaged_executables zstaged_lazies u3 p1 p3 p5 p6).bind (fun u6 => some ((1 : Int32), u6.1, u6.2.1, u6.2.2.1, u6.2.2.2))) else ((pf_CS_has N zcached_contents zcached_count p3).bind (fun u7 => if ¬ u7 = 0 then ((pf_LT_put N zstaged_contents zstaged_makers zstaged_executables zstaged_lazies u3 p1 p3 p5 p6).bind (fun u8 => some ((1 : Int32), u8.1, u8.2.1, u8.2.2.1, u8.2.2.2))) else (some ((-3 : Int32), zstaged_contents, zstaged_makers, zstaged_executables, zstaged_lazies))))) else (some ((-2 : Int32), zstaged_contents, zstaged_makers, zstaged_executables, zstaged_lazies)))) else ((pf_OS_countStaged N zpaths_count zsteps_configurations zsteps_count zstaged_contents zstaged_makers p1).bind (fun u9 => if u9 < (nI 12) then ((pf_OS_isRefused N zpaths_outer zpaths_count zsteps_targets zsteps_configurations zsteps_count zoutputs_contents zoutputs_makers zstaged_contents zstaged_makers p1 p2).bind (fun u10 => if u10 = 0 then (if p6 = 0 then ((pf_LT_put N zstaged_contents zstaged_makers zstaged_executables zstaged_lazies u3 p1 p3 p5 p6).bind (fun u11 => some ((1 : Int32), u11.1, u11.2.1, u11.2.2.1, u11.2.2.2))) else ((pf_CS_has N zcached_contents zcached_count p3).bind (fun u12 => if ¬ u12 = 0 then ((pf_LT_put N zstaged_contents zstaged_makers zstaged_executables zstaged_lazies u3 p1 p3 p5 p6).bind (fun u13 => some ((1 : Int32), u13.1, u13.2.1, u13.2.2.1, u13.2.2.2))) else (some ((-3 : Int32), zstaged_contents, zstaged_makers, zstaged_executables, zstaged_lazies))))) else (some ((-2 : Int32), zstaged_contents, zstaged_makers, zstaged_executables, zstaged_lazies)))) else (some ((-1 : Int32), zstaged_contents, zstaged_makers, zstaged_executables, zstaged_lazies)))))))) else (some ((-1 : Int32), zstaged_contents, zstaged_makers, zstaged_executables, zstaged_lazies))))))
def pf_OS_end (N : Nat) (zpaths_count : Int32) (zsteps_targets : Nat → Int32) (zsteps_configurations : Nat → Int32) (zsteps_opened : Nat → Int32) (zsteps_count : Int32) (zoutputs_contents : Nat → Int64) (zoutputs_makers : Nat → Int32) (zoutputs_executables : Nat → Int32) (zoutputs_lazies : Nat → Int32) (zstaged_contents : Nat → Int64) (zstaged_makers : Nat → Int32) (zstaged_executables : Nat → Int32) (zstaged_lazies : Nat → Int32) (zdirtyMarks_marks : Nat → Int32) (p1 : Int32) (p2 : Int32) : Option (Int32 × (Nat → Int32) × (Nat → Int64) × (Nat → Int32) × (Nat → Int32) × (Nat → Int32) × (Nat → Int64) × (Nat → Int32)) := (pf_SB_isOpen N zsteps_opened zsteps_count p1).bind (fun u0 => if ¬ u0 = 0 then (if p2 = 0 then ((pf_OS_dropStaged N zpaths_count zsteps_configurations zsteps_count zstaged_contents zstaged_makers p1).bind (fun u1 => (pf_SB_close N zsteps_opened zsteps_count p1).bind (fun u2 => some ((0 : Int32), u2, zoutputs_contents, zoutputs_makers, zoutputs_executables, zoutputs_lazies, u1, zdirtyMarks_marks)))) else ((pf_OS_replaceOutputs N zpaths_count zsteps_targets zsteps_configurations zsteps_count zoutputs_contents zoutputs_makers zoutputs_executables zoutputs_lazies zstaged_contents zstaged_makers zstaged_executables zstaged_lazies zdirtyMarks_marks p1).bind (fun u3 => (pf_OS_dropStaged N zpaths_count zsteps_configurations zsteps_count zstaged_contents zstaged_makers p1).bind (fun u4 => (pf_SB_close N zsteps_opened zsteps_count p1).bind (fun u5 => some (u3.1, u5, u3.2.1, u3.2.2.1, u3.2.2.2.1, u3.2.2.2.2.1, u4, u3.2.2.2.2.2)))))) else (some ((-1 : Int32), zsteps_opened, zoutputs_contents, zoutputs_makers, zoutputs_executables, zoutputs_lazies, zstaged_contents, zdirtyMarks_marks)))
def pf_OS_abandon_L13 (N : Nat) (zpaths_count : Int32) (zsteps_configurations : Nat → Int32) (zsteps_runs : Nat → Int32) (zsteps_count : Int32) (zstaged_makers : Nat → Int32) (p1 : Int32) : Nat → (Nat → Int32) → (Nat → Int64) → Int32 → Int32 → Option (Int32 × (Nat → Int32) × (Nat → Int64))
  | 0, _, _, _, _ => none
  | n13 + 1, zsteps_opened', zstaged_contents', x2, x3 => if (nI 80) ≤ x3 then (some (x2, zsteps_opened', zstaged_contents')) else ((pf_SB_isOpen N zsteps_opened' zsteps_count x3).bind (fun u1 => if u1 = 0 then (pf_OS_abandon_L13 N zpaths_count zsteps_configurations zsteps_runs zsteps_count zstaged_makers p1 n13 zsteps_opened' zstaged_contents' x2 (x3 + (1 : Int32))) else ((pf_SB_runOf N zsteps_runs zsteps_count x3).bind (fun u2 => if ¬ u2 = p1 then (pf_OS_abandon_L13 N zpaths_count zsteps_configurations zsteps_runs zsteps_count zstaged_makers p1 n13 zsteps_opened' zstaged_contents' x2 (x3 + (1 : Int32))) else ((pf_OS_dropStaged N zpaths_count zsteps_configurations zsteps_count zstaged_contents' zstaged_makers x3).bind (fun u3 => (pf_SB_close N zsteps_opened' zsteps_count x3).bind (fun u4 => pf_OS_abandon_L13 N zpaths_count zsteps_configurations zsteps_runs zsteps_count zstaged_makers p1 n13 u4 u3 (x2 + (1 : Int32)) (x3 + (1 : Int32)))))))))
def pf_OS_abandon (N : Nat) (zpaths_count : Int32) (zsteps_configurations : Nat → Int32) (zsteps_runs : Nat → Int32) (zsteps_opened : Nat → Int32) (zsteps_count : Int32) (zstaged_contents : Nat → Int64) (zstaged_makers : Nat → Int32) (p1 : Int32) : Option (Int32 × (Nat → Int32) × (Nat → Int64)) := (pf_OS_isRun N p1).bind (fun u0 => if ¬ u0 = 0 then (pf_OS_abandon_L13 N zpaths_count zsteps_configurations zsteps_runs zsteps_count zstaged_makers p1 N zsteps_opened zstaged_contents (0 : Int32) (0 : Int32)) else (some ((-1 : Int32), zsteps_opened, zstaged_contents)))
def pf_OS_cache (N : Nat) (zcached_contents : Nat → Int64) (zcached_count : Int32) (p1 : Int64) (p3 : Int32) : Option (Int32 × (Nat → Int64) × Int32) := if ¬ (lg_cmp p1 (0 : Int64)) = 0 then (if p3 = 0 then ((pf_CS_exclude N zcached_contents zcached_count p1).bind (fun u0 => some ((1 : Int32), u0.1, u0.2))) else ((pf_CS_include N zcached_contents zcached_count p1).bind (fun u1 => zb u1.1 (some (u1.1, u1.2.1, u1.2.2))))) else (some ((0 : Int32), zcached_contents, zcached_count))
def pf_OS_read (N : Nat) (zpaths_count : Int32) (zsteps_targets : Nat → Int32) (zsteps_count : Int32) (zoutputs_contents : Nat → Int64) (zoutputs_makers : Nat → Int32) (zoutputs_lazies : Nat → Int32) (zcached_contents : Nat → Int64) (zcached_count : Int32) (zholds_contents : Nat → Int64) (zholds_count : Int32) (zdirtyMarks_marks : Nat → Int32) (p1 : Int32) (p2 : Int32) : Option (Int32 × (Nat → Int64) × (Nat → Int32) × (Nat → Int64) × Int32 × (Nat → Int32)) := (pf_OS_slotOf N zpaths_count p1 p2).bind (fun u0 => if u0 = (-1 : Int32) then (some ((-1 : Int32), zoutputs_contents, zoutputs_lazies, zholds_contents, zholds_count, zdirtyMarks_marks)) else ((pf_HB_isFull N zholds_count).bind (fun u1 => if u1 = 0 then ((pf_LT_has N zoutputs_contents u0).bind (fun u2 => if ¬ u2 = 0 then ((pf_LT_contentAt N zoutputs_contents u0).bind (fun u3 => (pf_LT_isLazy N zoutputs_contents zoutputs_lazies u0).bind (fun u4 => if u4 = 0 then ((pf_LT_makeThere N zoutputs_contents zoutputs_lazies u0).bind (fun u5 => (pf_HB_take N zholds_contents zholds_count u3).bind (fun u6 => some (u6.1, zoutputs_contents, u5, u6.2.1, u6.2.2, zdirtyMarks_marks)))) else ((pf_CS_has N zcached_contents zcached_count u3).bind (fun u7 => if ¬ u7 = 0 then ((pf_LT_makeThere N zoutputs_contents zoutputs_lazies u0).bind (fun u8 => (pf_HB_take N zholds_contents zholds_count u3).bind (fun u9 => some (u9.1, zoutputs_contents, u8, u9.2.1, u9.2.2, zdirtyMarks_marks)))) else ((pf_OS_targetAt N zsteps_targets zsteps_count zoutputs_contents zoutputs_makers u0).bind (fun u10 => (pf_DM_set N zdirtyMarks_marks u10 p1 (1 : Int32)).bind (fun u11 => (pf_LT_drop N zoutputs_contents u0).bind (fun u12 => some ((-3 : Int32), u12, zoutputs_lazies, zholds_contents, zholds_count, u11)))))))))) else (some ((-2 : Int32), zoutputs_contents, zoutputs_lazies, zholds_contents, zholds_count, zdirtyMarks_marks)))) else (some ((-1 : Int32), zoutputs_contents, zoutputs_lazies, zholds_contents, zholds_count, zdirtyMarks_marks)))))
def pf_OS_held (N : Nat) (zholds_contents : Nat → Int64) (zholds_count : Int32) (p1 : Int32) : Option (Int64) := (pf_HB_contentOf N zholds_contents zholds_count p1).bind (fun u0 => some (u0))
def pf_OS_letGo (N : Nat) (zholds_contents : Nat → Int64) (zholds_count : Int32) (p1 : Int32) : Option (Int32 × (Nat → Int64)) := (pf_HB_release N zholds_contents zholds_count p1).bind (fun u0 => zb u0.1 (some (u0.1, u0.2)))
def pf_OS_content (N : Nat) (zpaths_count : Int32) (zoutputs_contents : Nat → Int64) (p1 : Int32) (p2 : Int32) : Option (Int64) := (pf_OS_slotOf N zpaths_count p1 p2).bind (fun u0 => (pf_LT_contentAt N zoutputs_contents u0).bind (fun u1 => some (u1)))
def pf_OS_about (N : Nat) (zpaths_count : Int32) (zsteps_targets : Nat → Int32) (zsteps_count : Int32) (zoutputs_contents : Nat → Int64) (zoutputs_makers : Nat → Int32) (zoutputs_executables : Nat → Int32) (zoutputs_lazies : Nat → Int32) (p1 : Int32) (p2 : Int32) (p3 : Int32) : Option (Int32) := (pf_OS_slotOf N zpaths_count p1 p2).bind (fun u0 => (pf_LT_has N zoutputs_contents u0).bind (fun u1 => if ¬ u1 = 0 then (if p3 = 0 then ((pf_OS_targetAt N zsteps_targets zsteps_count zoutputs_contents zoutputs_makers u0).bind (fun u2 => some (u2))) else if p3 = 1 then ((pf_LT_isExecutable N zoutputs_contents zoutputs_executables u0).bind (fun u3 => if u3 = 0 then (some ((0 : Int32))) else (some ((1 : Int32))))) else if p3 = 2 then ((pf_LT_isLazy N zoutputs_contents zoutputs_lazies u0).bind (fun u4 => if u4 = 0 then (some ((1 : Int32))) else (some ((0 : Int32))))) else if p3 = 3 then ((pf_LT_stepAt N zoutputs_contents zoutputs_makers u0).bind (fun u5 => some (u5))) else (some ((-1 : Int32)))) else (some ((-1 : Int32)))))
def pf_OS_list_L35 (N : Nat) (zpaths_outer : Nat → Int32) (zpaths_count : Int32) (zoutputs_contents : Nat → Int64) (p1 : Int32) (p2 : Int32) : Nat → Int32 → Int32 → Option (Int32)
  | 0, _, _ => none
  | n35 + 1, x4, x5 => if (nI 40) ≤ x5 then (some ((-1 : Int32))) else ((pf_OS_slotOf N zpaths_count p1 x5).bind (fun u1 => (pf_LT_has N zoutputs_contents u1).bind (fun u2 => if u2 = 0 then (pf_OS_list_L35 N zpaths_outer zpaths_count zoutputs_contents p1 p2 n35 x4 (x5 + (1 : Int32))) else ((pf_PT_isAtOrWithin N zpaths_outer zpaths_count x5 p2).bind (fun u3 => if u3 = 0 then (pf_OS_list_L35 N zpaths_outer zpaths_count zoutputs_contents p1 p2 n35 x4 (x5 + (1 : Int32))) else (if ¬ x4 = 0 then (pf_OS_list_L35 N zpaths_outer zpaths_count zoutputs_contents p1 p2 n35 (x4 + (-1 : Int32)) (x5 + (1 : Int32))) else (some (x5))))))))
def pf_OS_list (N : Nat) (zpaths_outer : Nat → Int32) (zpaths_count : Int32) (zoutputs_contents : Nat → Int64) (p1 : Int32) (p2 : Int32) (p3 : Int32) : Option (Int32) := (pf_OS_isConfiguration N p1).bind (fun u0 => if u0 = 0 then (some ((-1 : Int32))) else (if p3 < 0 then (some ((-1 : Int32))) else (if p2 = (-1 : Int32) then (pf_OS_list_L35 N zpaths_outer zpaths_count zoutputs_contents p1 p2 N p3 (0 : Int32)) else ((pf_PT_has N zpaths_count p2).bind (fun u4 => if ¬ u4 = 0 then (pf_OS_list_L35 N zpaths_outer zpaths_count zoutputs_contents p1 p2 N p3 (0 : Int32)) else (some ((-1 : Int32))))))))
def pf_OS_dirty (N : Nat) (zdirtyMarks_marks : Nat → Int32) (p1 : Int32) (p2 : Int32) : Option (Int32) := (pf_DM_get N zdirtyMarks_marks p1 p2).bind (fun u0 => zb u0 (some (u0)))
def pf_OS_clear_L24 (N : Nat) (zpaths_count : Int32) (p1 : Int32) : Nat → (Nat → Int64) → Int32 → Int32 → Option (Int32 × (Nat → Int64))
  | 0, _, _, _ => none
  | n24 + 1, zoutputs_contents', x2, x3 => if (nI 40) ≤ x3 then (some (x2, zoutputs_contents')) else ((pf_OS_slotOf N zpaths_count p1 x3).bind (fun u2 => (pf_LT_has N zoutputs_contents' u2).bind (fun u3 => if u3 = 0 then (pf_OS_clear_L24 N zpaths_count p1 n24 zoutputs_contents' x2 (x3 + (1 : Int32))) else ((pf_LT_drop N zoutputs_contents' u2).bind (fun u4 => pf_OS_clear_L24 N zpaths_count p1 n24 u4 (x2 + (1 : Int32)) (x3 + (1 : Int32)))))))
def pf_OS_clear (N : Nat) (zpaths_count : Int32) (zsteps_configurations : Nat → Int32) (zsteps_opened : Nat → Int32) (zsteps_count : Int32) (zoutputs_contents : Nat → Int64) (p1 : Int32) : Option (Int32 × (Nat → Int64)) := (pf_OS_isConfiguration N p1).bind (fun u0 => if u0 = 0 then (some ((-1 : Int32), zoutputs_contents)) else ((pf_SB_hasOpenOneIn N zsteps_configurations zsteps_opened zsteps_count p1).bind (fun u1 => if u1 = 0 then (pf_OS_clear_L24 N zpaths_count p1 N zoutputs_contents (0 : Int32) (0 : Int32)) else (some ((-1 : Int32), zoutputs_contents)))))
def pf_OS_copies_L13 (N : Nat) (zoutputs_contents : Nat → Int64) (zoutputs_lazies : Nat → Int32) (zstaged_contents : Nat → Int64) (zstaged_lazies : Nat → Int32) (zholds_contents : Nat → Int64) (zholds_count : Int32) (p1 : Int64) : Nat → Int32 → Int32 → Option (Int32)
  | 0, _, _ => none
  | n13 + 1, x3, x4 => if (nI 420) ≤ x4 then (some (x3)) else ((pf_OS_storedAt N zoutputs_contents zoutputs_lazies zstaged_contents zstaged_lazies zholds_contents zholds_count x4).bind (fun u0 => if ¬ (lg_cmp u0 p1) = 0 then (pf_OS_copies_L13 N zoutputs_contents zoutputs_lazies zstaged_contents zstaged_lazies zholds_contents zholds_count p1 n13 x3 (x4 + (1 : Int32))) else (pf_OS_copies_L13 N zoutputs_contents zoutputs_lazies zstaged_contents zstaged_lazies zholds_contents zholds_count p1 n13 (x3 + (1 : Int32)) (x4 + (1 : Int32)))))
def pf_OS_copies (N : Nat) (zoutputs_contents : Nat → Int64) (zoutputs_lazies : Nat → Int32) (zstaged_contents : Nat → Int64) (zstaged_lazies : Nat → Int32) (zholds_contents : Nat → Int64) (zholds_count : Int32) (p1 : Int64) : Option (Int32) := if ¬ (lg_cmp p1 (0 : Int64)) = 0 then (pf_OS_copies_L13 N zoutputs_contents zoutputs_lazies zstaged_contents zstaged_lazies zholds_contents zholds_count p1 N (0 : Int32) (0 : Int32)) else (some ((0 : Int32)))
def pf_OS_stored_L4 (N : Nat) (zoutputs_contents : Nat → Int64) (zoutputs_lazies : Nat → Int32) (zstaged_contents : Nat → Int64) (zstaged_lazies : Nat → Int32) (zholds_contents : Nat → Int64) (zholds_count : Int32) : Nat → (Nat → Int64) → Int32 → Int32 → Option (Int32 × (Nat → Int64))
  | 0, _, _, _ => none
  | n4 + 1, zdifferent', x1, x2 => if (nI 420) ≤ x2 then (some (x1, zdifferent')) else ((pf_OS_storedAt N zoutputs_contents zoutputs_lazies zstaged_contents zstaged_lazies zholds_contents zholds_count x2).bind (fun u0 => if (lg_cmp u0 (0 : Int64)) = 0 then (pf_OS_stored_L4 N zoutputs_contents zoutputs_lazies zstaged_contents zstaged_lazies zholds_contents zholds_count n4 zdifferent' x1 (x2 + (1 : Int32))) else (if (nI 420) ≤ x1 then (pf_OS_stored_L4 N zoutputs_contents zoutputs_lazies zstaged_contents zstaged_lazies zholds_contents zholds_count n4 zdifferent' x1 (x2 + (1 : Int32))) else ((pf_OS_find N zdifferent' 420 x1 u0).bind (fun u1 => if ¬ u1 = (-1 : Int32) then (pf_OS_stored_L4 N zoutputs_contents zoutputs_lazies zstaged_contents zstaged_lazies zholds_contents zholds_count n4 zdifferent' x1 (x2 + (1 : Int32))) else (gz x1 420 (pf_OS_stored_L4 N zoutputs_contents zoutputs_lazies zstaged_contents zstaged_lazies zholds_contents zholds_count n4 (vp_updL zdifferent' x1.toNatClampNeg u0) (x1 + (1 : Int32)) (x2 + (1 : Int32)))))))))
def pf_OS_stored (N : Nat) (zoutputs_contents : Nat → Int64) (zoutputs_lazies : Nat → Int32) (zstaged_contents : Nat → Int64) (zstaged_lazies : Nat → Int32) (zholds_contents : Nat → Int64) (zholds_count : Int32) (zdifferent : Nat → Int64) : Option (Int32 × (Nat → Int64)) := pf_OS_stored_L4 N zoutputs_contents zoutputs_lazies zstaged_contents zstaged_lazies zholds_contents zholds_count N zdifferent (0 : Int32) (0 : Int32)
def pf_MO_within (N : Nat) (p0 : Int32) (p1 : Int32) : Option (Int32) := if p0 < 0 then (some ((0 : Int32))) else (if p1 < p0 then (some ((0 : Int32))) else (some ((1 : Int32))))
def pf_MO_isPath (N : Nat) (zpaths : Int32) (p1 : Int32) : Option (Int32) := if p1 < 0 then (some ((0 : Int32))) else (if zpaths ≤ p1 then (some ((0 : Int32))) else (some ((1 : Int32))))
def pf_MO_isOpenStep (N : Nat) (zsteps : Int32) (zisOpen : Nat → Int32) (p1 : Int32) : Option (Int32) := if p1 < 0 then (some ((0 : Int32))) else (if zsteps ≤ p1 then (some ((0 : Int32))) else (if p1 < 0 then (gz (0 : Int32) 80 (if (zisOpen (0 : Int32).toNatClampNeg) = 0 then (some ((0 : Int32))) else (some ((1 : Int32))))) else (if zsteps ≤ p1 then (gz (0 : Int32) 80 (if (zisOpen (0 : Int32).toNatClampNeg) = 0 then (some ((0 : Int32))) else (some ((1 : Int32))))) else (gz p1 80 (if (zisOpen p1.toNatClampNeg) = 0 then (some ((0 : Int32))) else (some ((1 : Int32))))))))
def pf_MO_path (N : Nat) (zpaths : Int32) (zinside : Nat → Int32) (p1 : Int32) : Option (Int32 × Int32 × (Nat → Int32)) := if zpaths = (nI 40) then (some ((-1 : Int32), zpaths, zinside)) else (if p1 = (-1 : Int32) then (gz zpaths 40 (some (((zpaths + (1 : Int32)) - (1 : Int32)), (zpaths + (1 : Int32)), (upd zinside zpaths.toNatClampNeg p1)))) else ((pf_MO_isPath N zpaths p1).bind (fun u0 => if ¬ u0 = 0 then (gz zpaths 40 (some (((zpaths + (1 : Int32)) - (1 : Int32)), (zpaths + (1 : Int32)), (upd zinside zpaths.toNatClampNeg p1)))) else (some ((-1 : Int32), zpaths, zinside)))))
def pf_MO_isWithin_L7 (N : Nat) (zinside : Nat → Int32) (p2 : Int32) : Nat → Int32 → Option (Int32)
  | 0, _ => none
  | n7 + 1, x3 => if x3 = (-1 : Int32) then (if ¬ x3 = p2 then (some ((0 : Int32))) else (some ((1 : Int32)))) else (if x3 = p2 then (if ¬ x3 = p2 then (some ((0 : Int32))) else (some ((1 : Int32)))) else (gz x3 40 (pf_MO_isWithin_L7 N zinside p2 n7 (zinside x3.toNatClampNeg))))
def pf_MO_isWithin (N : Nat) (zinside : Nat → Int32) (p1 : Int32) (p2 : Int32) : Option (Int32) := gz p1 40 (pf_MO_isWithin_L7 N zinside p2 N (zinside p1.toNatClampNeg))
def pf_MO_meet (N : Nat) (zinside : Nat → Int32) (p1 : Int32) (p2 : Int32) : Option (Int32) := if p1 = p2 then (some ((1 : Int32))) else ((pf_MO_isWithin N zinside p1 p2).bind (fun u0 => if ¬ u0 = 0 then (some ((1 : Int32))) else ((pf_MO_isWithin N zinside p2 p1).bind (fun u1 => if u1 = 0 then (some ((0 : Int32))) else (some ((1 : Int32)))))))
def pf_MO_begin_L40 (N : Nat) (zsteps : Int32) (ztarget : Nat → Int32) (zplace : Nat → Int32) (zrun : Nat → Int32) (zstaged : Nat → Int32) (zisOpen : Nat → Int32) (p1 : Int32) (p2 : Int32) (p3 : Int32) : Nat → Int32 → Option (Int32 × Int32 × (Nat → Int32) × (Nat → Int32) × (Nat → Int32) × (Nat → Int32) × (Nat → Int32))
  | 0, _ => none
  | n40 + 1, x4 => if zsteps ≤ x4 then (gz zsteps 80 (gz zsteps 80 (gz zsteps 80 (gz zsteps 80 (gz zsteps 80 (some (((zsteps + (1 : Int32)) - (1 : Int32)), (zsteps + (1 : Int32)), (upd ztarget zsteps.toNatClampNeg p1), (upd zplace zsteps.toNatClampNeg p2), (upd zrun zsteps.toNatClampNeg p3), (upd zstaged zsteps.toNatClampNeg (0 : Int32)), (upd zisOpen zsteps.toNatClampNeg (vp_nar .boolean (1 : Int32)))))))))) else (gz x4 80 (if (zisOpen x4.toNatClampNeg) = 0 then (pf_MO_begin_L40 N zsteps ztarget zplace zrun zstaged zisOpen p1 p2 p3 n40 (x4 + (1 : Int32))) else (gz x4 80 (if ¬ (ztarget x4.toNatClampNeg) = p1 then (pf_MO_begin_L40 N zsteps ztarget zplace zrun zstaged zisOpen p1 p2 p3 n40 (x4 + (1 : Int32))) else (gz x4 80 (if ¬ (zplace x4.toNatClampNeg) = p2 then (pf_MO_begin_L40 N zsteps ztarget zplace zrun zstaged zisOpen p1 p2 p3 n40 (x4 + (1 : Int32))) else (some ((-2 : Int32), zsteps, ztarget, zplace, zrun, zstaged, zisOpen))))))))
def pf_MO_begin (N : Nat) (zsteps : Int32) (ztarget : Nat → Int32) (zplace : Nat → Int32) (zrun : Nat → Int32) (zstaged : Nat → Int32) (zisOpen : Nat → Int32) (p1 : Int32) (p2 : Int32) (p3 : Int32) : Option (Int32 × Int32 × (Nat → Int32) × (Nat → Int32) × (Nat → Int32) × (Nat → Int32) × (Nat → Int32)) := (pf_MO_within N p1 (nI 11)).bind (fun u0 => if u0 = 0 then (some ((-1 : Int32), zsteps, ztarget, zplace, zrun, zstaged, zisOpen)) else ((pf_MO_within N p2 (nI 3)).bind (fun u1 => if u1 = 0 then (some ((-1 : Int32), zsteps, ztarget, zplace, zrun, zstaged, zisOpen)) else ((pf_MO_within N p3 (nI 7)).bind (fun u2 => if u2 = 0 then (some ((-1 : Int32), zsteps, ztarget, zplace, zrun, zstaged, zisOpen)) else (if ¬ zsteps = (nI 80) then (pf_MO_begin_L40 N zsteps ztarget zplace zrun zstaged zisOpen p1 p2 p3 N (0 : Int32)) else (some ((-1 : Int32), zsteps, ztarget, zplace, zrun, zstaged, zisOpen))))))))
def pf_MO_placeOf_L5 (N : Nat) (zstaged : Nat → Int32) (zstagedAt : Nat → Int32) (p1 : Int32) (p2 : Int32) : Nat → Int32 → Int32 → Option (Int32)
  | 0, _, _ => none
  | n5 + 1, x3, x4 => gz p1 80 (if (zstaged p1.toNatClampNeg) ≤ x4 then (some (x3)) else (gz (((nI 12) * p1) + x4) 960 (if ¬ (zstagedAt (((nI 12) * p1) + x4).toNatClampNeg) = p2 then (pf_MO_placeOf_L5 N zstaged zstagedAt p1 p2 n5 x3 (x4 + (1 : Int32))) else (pf_MO_placeOf_L5 N zstaged zstagedAt p1 p2 n5 (((nI 12) * p1) + x4) (x4 + (1 : Int32))))))
def pf_MO_placeOf (N : Nat) (zstaged : Nat → Int32) (zstagedAt : Nat → Int32) (p1 : Int32) (p2 : Int32) : Option (Int32) := pf_MO_placeOf_L5 N zstaged zstagedAt p1 p2 N (-1 : Int32) (0 : Int32)
def pf_MO_meetsOutput_L2 (N : Nat) (zpaths : Int32) (zinside : Nat → Int32) (zowner : Nat → Int32) (ztarget : Nat → Int32) (zplace : Nat → Int32) (p1 : Int32) (p2 : Int32) : Nat → Int32 → Option (Int32)
  | 0, _ => none
  | n2 + 1, x3 => if zpaths ≤ x3 then (some ((0 : Int32))) else (gz p1 80 (gz (((nI 40) * (zplace p1.toNatClampNeg)) + x3) 160 (if (zowner (((nI 40) * (zplace p1.toNatClampNeg)) + x3).toNatClampNeg) = 0 then (pf_MO_meetsOutput_L2 N zpaths zinside zowner ztarget zplace p1 p2 n2 (x3 + (1 : Int32))) else (gz p1 80 (if (zowner (((nI 40) * (zplace p1.toNatClampNeg)) + x3).toNatClampNeg) = ((ztarget p1.toNatClampNeg) + (1 : Int32)) then (pf_MO_meetsOutput_L2 N zpaths zinside zowner ztarget zplace p1 p2 n2 (x3 + (1 : Int32))) else ((pf_MO_meet N zinside p2 x3).bind (fun u0 => if u0 = 0 then (pf_MO_meetsOutput_L2 N zpaths zinside zowner ztarget zplace p1 p2 n2 (x3 + (1 : Int32))) else (some ((1 : Int32))))))))))
def pf_MO_meetsOutput (N : Nat) (zpaths : Int32) (zinside : Nat → Int32) (zowner : Nat → Int32) (ztarget : Nat → Int32) (zplace : Nat → Int32) (p1 : Int32) (p2 : Int32) : Option (Int32) := pf_MO_meetsOutput_L2 N zpaths zinside zowner ztarget zplace p1 p2 N (0 : Int32)
def pf_MO_meetsStaged_L40 (N : Nat) (kt2 : Int32 → Option (Int32)) (zinside : Nat → Int32) (zstaged : Nat → Int32) (zstagedAt : Nat → Int32) (p1 : Int32) (p2 : Int32) (x3 : Int32) : Nat → Int32 → Option (Int32)
  | 0, _ => none
  | n40 + 1, x4' => gz x3 80 (if (zstaged x3.toNatClampNeg) ≤ x4' then (kt2 (x3 + (1 : Int32))) else (gz (((nI 12) * x3) + x4') 960 (if ¬ x3 = p1 then ((pf_MO_meet N zinside p2 (zstagedAt (((nI 12) * x3) + x4').toNatClampNeg)).bind (fun u0 => if u0 = 0 then (pf_MO_meetsStaged_L40 N kt2 zinside zstaged zstagedAt p1 p2 x3 n40 (x4' + (1 : Int32))) else (some ((1 : Int32))))) else (if (zstagedAt (((nI 12) * x3) + x4').toNatClampNeg) = p2 then (pf_MO_meetsStaged_L40 N kt2 zinside zstaged zstagedAt p1 p2 x3 n40 (x4' + (1 : Int32))) else ((pf_MO_meet N zinside p2 (zstagedAt (((nI 12) * x3) + x4').toNatClampNeg)).bind (fun u1 => if u1 = 0 then (pf_MO_meetsStaged_L40 N kt2 zinside zstaged zstagedAt p1 p2 x3 n40 (x4' + (1 : Int32))) else (some ((1 : Int32)))))))))
def pf_MO_meetsStaged_L2 (N : Nat) (zsteps : Int32) (zinside : Nat → Int32) (zplace : Nat → Int32) (zstaged : Nat → Int32) (zisOpen : Nat → Int32) (zstagedAt : Nat → Int32) (p1 : Int32) (p2 : Int32) : Nat → Int32 → Option (Int32)
  | 0, _ => none
  | n2 + 1, x3 => if zsteps ≤ x3 then (some ((0 : Int32))) else (gz x3 80 (if (zisOpen x3.toNatClampNeg) = 0 then (pf_MO_meetsStaged_L2 N zsteps zinside zplace zstaged zisOpen zstagedAt p1 p2 n2 (x3 + (1 : Int32))) else (gz x3 80 (gz p1 80 (if (zplace x3.toNatClampNeg) = (zplace p1.toNatClampNeg) then (pf_MO_meetsStaged_L40 N (pf_MO_meetsStaged_L2 N zsteps zinside zplace zstaged zisOpen zstagedAt p1 p2 n2) zinside zstaged zstagedAt p1 p2 x3 N (0 : Int32)) else (pf_MO_meetsStaged_L2 N zsteps zinside zplace zstaged zisOpen zstagedAt p1 p2 n2 (x3 + (1 : Int32))))))))
def pf_MO_meetsStaged (N : Nat) (zsteps : Int32) (zinside : Nat → Int32) (zplace : Nat → Int32) (zstaged : Nat → Int32) (zisOpen : Nat → Int32) (zstagedAt : Nat → Int32) (p1 : Int32) (p2 : Int32) : Option (Int32) := pf_MO_meetsStaged_L2 N zsteps zinside zplace zstaged zisOpen zstagedAt p1 p2 N (0 : Int32)
def pf_MO_isCached_L5 (N : Nat) (zcached : Int32) (zcache : Nat → Int64) (p1 : Int64) : Nat → Int32 → Int32 → Option (Int32)
  | 0, _, _ => none
  | n5 + 1, x3, x4 => if zcached ≤ x4 then (zb x3 (some (x3))) else (if ¬ x3 = 0 then (pf_MO_isCached_L5 N zcached zcache p1 n5 (1 : Int32) (x4 + (1 : Int32))) else (gz x4 60 (if ¬ (lg_cmp (zcache x4.toNatClampNeg) p1) = 0 then (pf_MO_isCached_L5 N zcached zcache p1 n5 (0 : Int32) (x4 + (1 : Int32))) else (pf_MO_isCached_L5 N zcached zcache p1 n5 (1 : Int32) (x4 + (1 : Int32))))))
def pf_MO_isCached (N : Nat) (zcached : Int32) (zcache : Nat → Int64) (p1 : Int64) : Option (Int32) := pf_MO_isCached_L5 N zcached zcache p1 N (0 : Int32) (0 : Int32)
def pf_MO_stage (N : Nat) (zpaths : Int32) (zsteps : Int32) (zcached : Int32) (zinside : Nat → Int32) (zowner : Nat → Int32) (ztarget : Nat → Int32) (zplace : Nat → Int32) (zstaged : Nat → Int32) (zisOpen : Nat → Int32) (zstagedAt : Nat → Int32) (zstagedContent : Nat → Int64) (zstagedRuns : Nat → Int32) (zstagedLazy : Nat → Int32) (zcache : Nat → Int64) (p1 : Int32) (p2 : Int32) (p3 : Int64) (p5 : Int32) (p6 : Int32) : Option (Int32 × (Nat → Int32) × (Nat → Int32) × (Nat → Int64) × (Nat → Int32) × (Nat → Int32)) := (pf_MO_isOpenStep N zsteps zisOpen p1).bind (fun u0 => if u0 = 0 then (some ((-1 : Int32), zstaged, zstagedAt, zstagedContent, zstagedRuns, zstagedLazy)) else ((pf_MO_isPath N zpaths p2).bind (fun u1 => if u1 = 0 then (some ((-1 : Int32), zstaged, zstagedAt, zstagedContent, zstagedRuns, zstagedLazy)) else (if ¬ (lg_cmp p3 (0 : Int64)) = 0 then ((pf_MO_placeOf N zstaged zstagedAt p1 p2).bind (fun u2 => if ¬ u2 = (-1 : Int32) then ((pf_MO_meetsOutput N zpaths zinside zowner ztarget zplace p1 p2).bind (fun u3 => if ¬ u3 = 0 then (some ((-2 : Int32), zstaged, zstagedAt, zstagedContent, zstagedRuns, zstagedLazy)) else ((pf_MO_meetsStaged N zsteps zinside zplace zstaged zisOpen zstagedAt p1 p2).bind (fun u4 => if u4 = 0 then (if p6 = 0 then (if ¬ u2 = (-1 : Int32) then (gz u2 960 (gz u2 960 (gz u2 960 (gz u2 960 (some ((1 : Int32), zstaged, (upd zstagedAt u2.toNatClampNeg p2), (vp_updL zstagedContent u2.toNatClampNeg p3), (upd zstagedRuns u2.toNatClampNeg (vp_nar .boolean p5)), (upd zstagedLazy u2.toNatClampNeg (vp_nar .boolean p6)))))))) else (gz p1 80 (gz p1 80 (gz p1 80 (gz (((nI 12) * p1) + (zstaged p1.toNatClampNeg)) 960 (gz (((nI 12) * p1) + (zstaged p1.toNatClampNeg)) 960 (gz (((nI 12) * p1) + (zstaged p1.toNatClampNeg)) 960 (gz (((nI 12) * p1) + (zstaged p1.toNatClampNeg)) 960 (some ((1 : Int32), (upd zstaged p1.toNatClampNeg ((zstaged p1.toNatClampNeg) + (1 : Int32))), (upd zstagedAt (((nI 12) * p1) + (zstaged p1.toNatClampNeg)).toNatClampNeg p2), (vp_updL zstagedContent (((nI 12) * p1) + (zstaged p1.toNatClampNeg)).toNatClampNeg p3), (upd zstagedRuns (((nI 12) * p1) + (zstaged p1.toNatClampNeg)).toNatClampNeg (vp_nar .boolean p5)), (upd zstagedLazy (((nI 12) * p1) + (zstaged p1.toNatClampNeg)).toNatClampNeg (vp_nar .boolean p6)))))))))))) else ((pf_MO_isCached N zcached zcache p3).bind (fun u5 => if ¬ u5 = 0 then (if ¬ u2 = (-1 : Int32) then (gz u2 960 (gz u2 960 (gz u2 960 (gz u2 960 (some ((1 : Int32), zstaged, (upd zstagedAt u2.toNatClampNeg p2), (vp_updL zstagedContent u2.toNatClampNeg p3), (upd zstagedRuns u2.toNatClampNeg (vp_nar .boolean p5)), (upd zstagedLazy u2.toNatClampNeg (vp_nar .boolean p6)))))))) else (gz p1 80 (gz p1 80 (gz p1 80 (gz (((nI 12) * p1) + (zstaged p1.toNatClampNeg)) 960 (gz (((nI 12) * p1) + (zstaged p1.toNatClampNeg)) 960 (gz (((nI 12) * p1) + (zstaged p1.toNatClampNeg)) 960 (gz (((nI 12) * p1) + (zstaged p1.toNatClampNeg)) 960 (some ((1 : Int32), (upd zstaged p1.toNatClampNeg ((zstaged p1.toNatClampNeg) + (1 : Int32))), (upd zstagedAt (((nI 12) * p1) + (zstaged p1.toNatClampNeg)).toNatClampNeg p2), (vp_updL zstagedContent (((nI 12) * p1) + (zstaged p1.toNatClampNeg)).toNatClampNeg p3), (upd zstagedRuns (((nI 12) * p1) + (zstaged p1.toNatClampNeg)).toNatClampNeg (vp_nar .boolean p5)), (upd zstagedLazy (((nI 12) * p1) + (zstaged p1.toNatClampNeg)).toNatClampNeg (vp_nar .boolean p6)))))))))))) else (some ((-3 : Int32), zstaged, zstagedAt, zstagedContent, zstagedRuns, zstagedLazy))))) else (some ((-2 : Int32), zstaged, zstagedAt, zstagedContent, zstagedRuns, zstagedLazy)))))) else (gz p1 80 (if ¬ (zstaged p1.toNatClampNeg) = (nI 12) then ((pf_MO_meetsOutput N zpaths zinside zowner ztarget zplace p1 p2).bind (fun u6 => if ¬ u6 = 0 then (some ((-2 : Int32), zstaged, zstagedAt, zstagedContent, zstagedRuns, zstagedLazy)) else ((pf_MO_meetsStaged N zsteps zinside zplace zstaged zisOpen zstagedAt p1 p2).bind (fun u7 => if u7 = 0 then (if p6 = 0 then (if ¬ u2 = (-1 : Int32) then (gz u2 960 (gz u2 960 (gz u2 960 (gz u2 960 (some ((1 : Int32), zstaged, (upd zstagedAt u2.toNatClampNeg p2), (vp_updL zstagedContent u2.toNatClampNeg p3), (upd zstagedRuns u2.toNatClampNeg (vp_nar .boolean p5)), (upd zstagedLazy u2.toNatClampNeg (vp_nar .boolean p6)))))))) else (gz p1 80 (gz p1 80 (gz p1 80 (gz (((nI 12) * p1) + (zstaged p1.toNatClampNeg)) 960 (gz (((nI 12) * p1) + (zstaged p1.toNatClampNeg)) 960 (gz (((nI 12) * p1) + (zstaged p1.toNatClampNeg)) 960 (gz (((nI 12) * p1) + (zstaged p1.toNatClampNeg)) 960 (some ((1 : Int32), (upd zstaged p1.toNatClampNeg ((zstaged p1.toNatClampNeg) + (1 : Int32))), (upd zstagedAt (((nI 12) * p1) + (zstaged p1.toNatClampNeg)).toNatClampNeg p2), (vp_updL zstagedContent (((nI 12) * p1) + (zstaged p1.toNatClampNeg)).toNatClampNeg p3), (upd zstagedRuns (((nI 12) * p1) + (zstaged p1.toNatClampNeg)).toNatClampNeg (vp_nar .boolean p5)), (upd zstagedLazy (((nI 12) * p1) + (zstaged p1.toNatClampNeg)).toNatClampNeg (vp_nar .boolean p6)))))))))))) else ((pf_MO_isCached N zcached zcache p3).bind (fun u8 => if ¬ u8 = 0 then (if ¬ u2 = (-1 : Int32) then (gz u2 960 (gz u2 960 (gz u2 960 (gz u2 960 (some ((1 : Int32), zstaged, (upd zstagedAt u2.toNatClampNeg p2), (vp_updL zstagedContent u2.toNatClampNeg p3), (upd zstagedRuns u2.toNatClampNeg (vp_nar .boolean p5)), (upd zstagedLazy u2.toNatClampNeg (vp_nar .boolean p6)))))))) else (gz p1 80 (gz p1 80 (gz p1 80 (gz (((nI 12) * p1) + (zstaged p1.toNatClampNeg)) 960 (gz (((nI 12) * p1) + (zstaged p1.toNatClampNeg)) 960 (gz (((nI 12) * p1) + (zstaged p1.toNatClampNeg)) 960 (gz (((nI 12) * p1) + (zstaged p1.toNatClampNeg)) 960 (some ((1 : Int32), (upd zstaged p1.toNatClampNeg ((zstaged p1.toNatClampNeg) + (1 : Int32))), (upd zstagedAt (((nI 12) * p1) + (zstaged p1.toNatClampNeg)).toNatClampNeg p2), (vp_updL zstagedContent (((nI 12) * p1) + (zstaged p1.toNatClampNeg)).toNatClampNeg p3), (upd zstagedRuns (((nI 12) * p1) + (zstaged p1.toNatClampNeg)).toNatClampNeg (vp_nar .boolean p5)), (upd zstagedLazy (((nI 12) * p1) + (zstaged p1.toNatClampNeg)).toNatClampNeg (vp_nar .boolean p6)))))))))))) else (some ((-3 : Int32), zstaged, zstagedAt, zstagedContent, zstagedRuns, zstagedLazy))))) else (some ((-2 : Int32), zstaged, zstagedAt, zstagedContent, zstagedRuns, zstagedLazy)))))) else (some ((-1 : Int32), zstaged, zstagedAt, zstagedContent, zstagedRuns, zstagedLazy)))))) else (some ((-1 : Int32), zstaged, zstagedAt, zstagedContent, zstagedRuns, zstagedLazy))))))
def pf_MO_goOld_L4 (N : Nat) (zpaths : Int32) (ztarget : Nat → Int32) (zplace : Nat → Int32) (zstaged : Nat → Int32) (zstagedAt : Nat → Int32) (p1 : Int32) : Nat → (Nat → Int32) → Int32 → Int32 → Option (Int32 × (Nat → Int32))
  | 0, _, _, _ => none
  | n4 + 1, zowner', x2, x3 => if zpaths ≤ x3 then (some (x2, zowner')) else (gz p1 80 (gz (((nI 40) * (zplace p1.toNatClampNeg)) + x3) 160 (gz p1 80 (if (zowner' (((nI 40) * (zplace p1.toNatClampNeg)) + x3).toNatClampNeg) = ((ztarget p1.toNatClampNeg) + (1 : Int32)) then ((pf_MO_placeOf N zstaged zstagedAt p1 x3).bind (fun u0 => if ¬ u0 = (-1 : Int32) then (gz (((nI 40) * (zplace p1.toNatClampNeg)) + x3) 160 (pf_MO_goOld_L4 N zpaths ztarget zplace zstaged zstagedAt p1 n4 (upd zowner' (((nI 40) * (zplace p1.toNatClampNeg)) + x3).toNatClampNeg (0 : Int32)) (x2 + (0 : Int32)) (x3 + (1 : Int32)))) else (gz (((nI 40) * (zplace p1.toNatClampNeg)) + x3) 160 (pf_MO_goOld_L4 N zpaths ztarget zplace zstaged zstagedAt p1 n4 (upd zowner' (((nI 40) * (zplace p1.toNatClampNeg)) + x3).toNatClampNeg (0 : Int32)) (x2 + (1 : Int32)) (x3 + (1 : Int32)))))) else (pf_MO_goOld_L4 N zpaths ztarget zplace zstaged zstagedAt p1 n4 zowner' x2 (x3 + (1 : Int32)))))))
def pf_MO_goOld (N : Nat) (zpaths : Int32) (zowner : Nat → Int32) (ztarget : Nat → Int32) (zplace : Nat → Int32) (zstaged : Nat → Int32) (zstagedAt : Nat → Int32) (p1 : Int32) : Option (Int32 × (Nat → Int32)) := pf_MO_goOld_L4 N zpaths ztarget zplace zstaged zstagedAt p1 N zowner (0 : Int32) (0 : Int32)
def pf_MO_end_L35 (N : Nat) (ztarget : Nat → Int32) (zplace : Nat → Int32) (zstaged : Nat → Int32) (zisOpen' : Nat → Int32) (zstagedAt : Nat → Int32) (zstagedContent : Nat → Int64) (zstagedRuns : Nat → Int32) (zstagedLazy : Nat → Int32) (zisDirty : Nat → Int32) (p1 : Int32) (x3 : Int32) : Nat → (Nat → Int32) → (Nat → Int32) → (Nat → Int64) → (Nat → Int32) → (Nat → Int32) → Int32 → Option (Int32 × (Nat → Int32) × (Nat → Int32) × (Nat → Int64) × (Nat → Int32) × (Nat → Int32) × (Nat → Int32) × (Nat → Int32))
  | 0, _, _, _, _, _, _ => none
  | n35 + 1, zowner', zmaker', zcontent', zruns', zisThere', x4 => gz p1 80 (if (((nI 12) * p1) + (zstaged p1.toNatClampNeg)) ≤ x4 then (gz p1 80 (gz p1 80 (gz (((nI 12) * (zplace p1.toNatClampNeg)) + (ztarget p1.toNatClampNeg)) 48 (some (x3, zowner', zmaker', zcontent', zruns', zisThere', zisOpen', (upd zisDirty (((nI 12) * (zplace p1.toNatClampNeg)) + (ztarget p1.toNatClampNeg)).toNatClampNeg (vp_nar .boolean (0 : Int32)))))))) else (gz p1 80 (gz x4 960 (gz p1 80 (gz (((nI 40) * (zplace p1.toNatClampNeg)) + (zstagedAt x4.toNatClampNeg)) 160 (gz (((nI 40) * (zplace p1.toNatClampNeg)) + (zstagedAt x4.toNatClampNeg)) 160 (gz x4 960 (gz (((nI 40) * (zplace p1.toNatClampNeg)) + (zstagedAt x4.toNatClampNeg)) 160 (gz x4 960 (gz (((nI 40) * (zplace p1.toNatClampNeg)) + (zstagedAt x4.toNatClampNeg)) 160 (gz x4 960 (if ¬ (zstagedLazy x4.toNatClampNeg) = 0 then (gz (((nI 40) * (zplace p1.toNatClampNeg)) + (zstagedAt x4.toNatClampNeg)) 160 (pf_MO_end_L35 N ztarget zplace zstaged zisOpen' zstagedAt zstagedContent zstagedRuns zstagedLazy zisDirty p1 x3 n35 (upd zowner' (((nI 40) * (zplace p1.toNatClampNeg)) + (zstagedAt x4.toNatClampNeg)).toNatClampNeg ((ztarget p1.toNatClampNeg) + (1 : Int32))) (upd zmaker' (((nI 40) * (zplace p1.toNatClampNeg)) + (zstagedAt x4.toNatClampNeg)).toNatClampNeg p1) (vp_updL zcontent' (((nI 40) * (zplace p1.toNatClampNeg)) + (zstagedAt x4.toNatClampNeg)).toNatClampNeg (zstagedContent x4.toNatClampNeg)) (upd zruns' (((nI 40) * (zplace p1.toNatClampNeg)) + (zstagedAt x4.toNatClampNeg)).toNatClampNeg (vp_nar .boolean (zstagedRuns x4.toNatClampNeg))) (upd zisThere' (((nI 40) * (zplace p1.toNatClampNeg)) + (zstagedAt x4.toNatClampNeg)).toNatClampNeg (vp_nar .boolean (0 : Int32))) (x4 + (1 : Int32)))) else (gz (((nI 40) * (zplace p1.toNatClampNeg)) + (zstagedAt x4.toNatClampNeg)) 160 (pf_MO_end_L35 N ztarget zplace zstaged zisOpen' zstagedAt zstagedContent zstagedRuns zstagedLazy zisDirty p1 x3 n35 (upd zowner' (((nI 40) * (zplace p1.toNatClampNeg)) + (zstagedAt x4.toNatClampNeg)).toNatClampNeg ((ztarget p1.toNatClampNeg) + (1 : Int32))) (upd zmaker' (((nI 40) * (zplace p1.toNatClampNeg)) + (zstagedAt x4.toNatClampNeg)).toNatClampNeg p1) (vp_updL zcontent' (((nI 40) * (zplace p1.toNatClampNeg)) + (zstagedAt x4.toNatClampNeg)).toNatClampNeg (zstagedContent x4.toNatClampNeg)) (upd zruns' (((nI 40) * (zplace p1.toNatClampNeg)) + (zstagedAt x4.toNatClampNeg)).toNatClampNeg (vp_nar .boolean (zstagedRuns x4.toNatClampNeg))) (upd zisThere' (((nI 40) * (zplace p1.toNatClampNeg)) + (zstagedAt x4.toNatClampNeg)).toNatClampNeg (vp_nar .boolean (1 : Int32))) (x4 + (1 : Int32))))))))))))))))
def pf_MO_end (N : Nat) (zpaths : Int32) (zsteps : Int32) (zowner : Nat → Int32) (zmaker : Nat → Int32) (zcontent : Nat → Int64) (zruns : Nat → Int32) (zisThere : Nat → Int32) (ztarget : Nat → Int32) (zplace : Nat → Int32) (zstaged : Nat → Int32) (zisOpen : Nat → Int32) (zstagedAt : Nat → Int32) (zstagedContent : Nat → Int64) (zstagedRuns : Nat → Int32) (zstagedLazy : Nat → Int32) (zisDirty : Nat → Int32) (p1 : Int32) (p2 : Int32) : Option (Int32 × (Nat → Int32) × (Nat → Int32) × (Nat → Int64) × (Nat → Int32) × (Nat → Int32) × (Nat → Int32) × (Nat → Int32)) := (pf_MO_isOpenStep N zsteps zisOpen p1).bind (fun u0 => if ¬ u0 = 0 then (gz p1 80 (if ¬ p2 = 0 then ((pf_MO_goOld N zpaths zowner ztarget zplace zstaged zstagedAt p1).bind (fun u1 => pf_MO_end_L35 N ztarget zplace zstaged (upd zisOpen p1.toNatClampNeg (vp_nar .boolean (0 : Int32))) zstagedAt zstagedContent zstagedRuns zstagedLazy zisDirty p1 u1.1 N u1.2 zmaker zcontent zruns zisThere ((nI 12) * p1))) else (some ((0 : Int32), zowner, zmaker, zcontent, zruns, zisThere, (upd zisOpen p1.toNatClampNeg (vp_nar .boolean (0 : Int32))), zisDirty)))) else (some ((-1 : Int32), zowner, zmaker, zcontent, zruns, zisThere, zisOpen, zisDirty)))
def pf_MO_abandon_L15 (N : Nat) (zsteps : Int32) (zrun : Nat → Int32) (p1 : Int32) : Nat → (Nat → Int32) → Int32 → Int32 → Option (Int32 × (Nat → Int32))
  | 0, _, _, _ => none
  | n15 + 1, zisOpen', x2, x3 => if zsteps ≤ x3 then (some (x2, zisOpen')) else (gz x3 80 (if (zisOpen' x3.toNatClampNeg) = 0 then (pf_MO_abandon_L15 N zsteps zrun p1 n15 zisOpen' x2 (x3 + (1 : Int32))) else (gz x3 80 (if (zrun x3.toNatClampNeg) = p1 then (gz x3 80 (pf_MO_abandon_L15 N zsteps zrun p1 n15 (upd zisOpen' x3.toNatClampNeg (vp_nar .boolean (0 : Int32))) (x2 + (1 : Int32)) (x3 + (1 : Int32)))) else (pf_MO_abandon_L15 N zsteps zrun p1 n15 zisOpen' x2 (x3 + (1 : Int32)))))))
def pf_MO_abandon (N : Nat) (zsteps : Int32) (zrun : Nat → Int32) (zisOpen : Nat → Int32) (p1 : Int32) : Option (Int32 × (Nat → Int32)) := (pf_MO_within N p1 (nI 7)).bind (fun u0 => if ¬ u0 = 0 then (pf_MO_abandon_L15 N zsteps zrun p1 N zisOpen (0 : Int32) (0 : Int32)) else (some ((-1 : Int32), zisOpen)))
def pf_MO_cache_L69 (N : Nat) (zcached : Int32) (zcache : Nat → Int64) (p1 : Int64) : Nat → Int32 → Option (Int32 × Int32 × (Nat → Int64))
  | 0, _ => none
  | n69 + 1, x4 => gz x4 60 (if (lg_cmp (zcache x4.toNatClampNeg) p1) = 0 then (gz (zcached - (1 : Int32)) 60 (gz x4 60 (some ((1 : Int32), (zcached - (1 : Int32)), (vp_updL zcache x4.toNatClampNeg (zcache (zcached - (1 : Int32)).toNatClampNeg)))))) else (pf_MO_cache_L69 N zcached zcache p1 n69 (x4 + (1 : Int32))))
def pf_MO_cache (N : Nat) (zcached : Int32) (zcache : Nat → Int64) (p1 : Int64) (p3 : Int32) : Option (Int32 × Int32 × (Nat → Int64)) := if (lg_cmp p1 (0 : Int64)) = 0 then (some ((0 : Int32), zcached, zcache)) else (if p3 = 0 then ((pf_MO_isCached N zcached zcache p1).bind (fun u0 => if ¬ p3 = u0 then (if p3 = 0 then (pf_MO_cache_L69 N zcached zcache p1 N (0 : Int32)) else (gz zcached 60 (some ((1 : Int32), (zcached + (1 : Int32)), (vp_updL zcache zcached.toNatClampNeg p1))))) else (some ((1 : Int32), zcached, zcache)))) else ((pf_MO_isCached N zcached zcache p1).bind (fun u1 => if ¬ u1 = 0 then ((pf_MO_isCached N zcached zcache p1).bind (fun u2 => if ¬ p3 = u2 then (if p3 = 0 then (pf_MO_cache_L69 N zcached zcache p1 N (0 : Int32)) else (gz zcached 60 (some ((1 : Int32), (zcached + (1 : Int32)), (vp_updL zcache zcached.toNatClampNeg p1))))) else (some ((1 : Int32), zcached, zcache)))) else (if ¬ zcached = (nI 60) then ((pf_MO_isCached N zcached zcache p1).bind (fun u3 => if ¬ p3 = u3 then (if p3 = 0 then (pf_MO_cache_L69 N zcached zcache p1 N (0 : Int32)) else (gz zcached 60 (some ((1 : Int32), (zcached + (1 : Int32)), (vp_updL zcache zcached.toNatClampNeg p1))))) else (some ((1 : Int32), zcached, zcache)))) else (some ((0 : Int32), zcached, zcache))))))
def pf_MO_isOutput (N : Nat) (zpaths : Int32) (zowner : Nat → Int32) (p1 : Int32) (p2 : Int32) : Option (Int32) := (pf_MO_within N p1 (nI 3)).bind (fun u0 => if u0 = 0 then (some ((0 : Int32))) else ((pf_MO_isPath N zpaths p2).bind (fun u1 => if u1 = 0 then (some ((0 : Int32))) else ((pf_MO_within N p1 (nI 3)).bind (fun u2 => if u2 = 0 then (gz (0 : Int32) 160 (if (zowner (0 : Int32).toNatClampNeg) = 0 then (some ((0 : Int32))) else (some ((1 : Int32))))) else ((pf_MO_isPath N zpaths p2).bind (fun u3 => if u3 = 0 then (gz (0 : Int32) 160 (if (zowner (0 : Int32).toNatClampNeg) = 0 then (some ((0 : Int32))) else (some ((1 : Int32))))) else (gz (((nI 40) * p1) + p2) 160 (if (zowner (((nI 40) * p1) + p2).toNatClampNeg) = 0 then (some ((0 : Int32))) else (some ((1 : Int32))))))))))))
def pf_MO_read (N : Nat) (zpaths : Int32) (zcached : Int32) (zholds : Int32) (zowner : Nat → Int32) (zcontent : Nat → Int64) (zisThere : Nat → Int32) (zisDirty : Nat → Int32) (zcache : Nat → Int64) (zhold : Nat → Int64) (p1 : Int32) (p2 : Int32) : Option (Int32 × Int32 × (Nat → Int32) × (Nat → Int32) × (Nat → Int32) × (Nat → Int64)) := (pf_MO_within N p1 (nI 3)).bind (fun u0 => if u0 = 0 then (some ((-1 : Int32), zholds, zowner, zisThere, zisDirty, zhold)) else ((pf_MO_isPath N zpaths p2).bind (fun u1 => if u1 = 0 then (some ((-1 : Int32), zholds, zowner, zisThere, zisDirty, zhold)) else (if ¬ zholds = (nI 100) then ((pf_MO_isOutput N zpaths zowner p1 p2).bind (fun u2 => if ¬ u2 = 0 then (gz (((nI 40) * p1) + p2) 160 (if ¬ (zisThere (((nI 40) * p1) + p2).toNatClampNeg) = 0 then (gz (((nI 40) * p1) + p2) 160 (gz (((nI 40) * p1) + p2) 160 (gz zholds 100 (some (((zholds + (1 : Int32)) - (1 : Int32)), (zholds + (1 : Int32)), zowner, (upd zisThere (((nI 40) * p1) + p2).toNatClampNeg (vp_nar .boolean (1 : Int32))), zisDirty, (vp_updL zhold zholds.toNatClampNeg (zcontent (((nI 40) * p1) + p2).toNatClampNeg))))))) else (gz (((nI 40) * p1) + p2) 160 ((pf_MO_isCached N zcached zcache (zcontent (((nI 40) * p1) + p2).toNatClampNeg)).bind (fun u3 => if ¬ u3 = 0 then (gz (((nI 40) * p1) + p2) 160 (gz (((nI 40) * p1) + p2) 160 (gz zholds 100 (some (((zholds + (1 : Int32)) - (1 : Int32)), (zholds + (1 : Int32)), zowner, (upd zisThere (((nI 40) * p1) + p2).toNatClampNeg (vp_nar .boolean (1 : Int32))), zisDirty, (vp_updL zhold zholds.toNatClampNeg (zcontent (((nI 40) * p1) + p2).toNatClampNeg))))))) else (gz (((nI 40) * p1) + p2) 160 (gz ((((nI 12) * p1) + (zowner (((nI 40) * p1) + p2).toNatClampNeg)) - (1 : Int32)) 48 (gz (((nI 40) * p1) + p2) 160 (some ((-3 : Int32), zholds, (upd zowner (((nI 40) * p1) + p2).toNatClampNeg (0 : Int32)), zisThere, (upd zisDirty ((((nI 12) * p1) + (zowner (((nI 40) * p1) + p2).toNatClampNeg)) - (1 : Int32)).toNatClampNeg (vp_nar .boolean (1 : Int32))), zhold)))))))))) else (some ((-2 : Int32), zholds, zowner, zisThere, zisDirty, zhold)))) else (some ((-1 : Int32), zholds, zowner, zisThere, zisDirty, zhold))))))
def pf_MO_held (N : Nat) (zholds : Int32) (zhold : Nat → Int64) (p1 : Int32) : Option (Int64) := if p1 < 0 then (some ((0 : Int64))) else (if zholds ≤ p1 then (some ((0 : Int64))) else (gz p1 100 (some ((zhold p1.toNatClampNeg)))))
def pf_MO_letGo (N : Nat) (zholds : Int32) (zhold : Nat → Int64) (p1 : Int32) : Option (Int32 × (Nat → Int64)) := if p1 < 0 then (some ((0 : Int32), zhold)) else (if zholds ≤ p1 then (some ((0 : Int32), zhold)) else (gz p1 100 (if ¬ (lg_cmp (zhold p1.toNatClampNeg) (0 : Int64)) = 0 then (gz p1 100 (some ((1 : Int32), (vp_updL zhold p1.toNatClampNeg (0 : Int64))))) else (some ((0 : Int32), zhold)))))
def pf_MO_content (N : Nat) (zpaths : Int32) (zowner : Nat → Int32) (zcontent : Nat → Int64) (p1 : Int32) (p2 : Int32) : Option (Int64) := (pf_MO_isOutput N zpaths zowner p1 p2).bind (fun u0 => if u0 = 0 then (some ((0 : Int64))) else (gz (((nI 40) * p1) + p2) 160 (some ((zcontent (((nI 40) * p1) + p2).toNatClampNeg)))))
def pf_MO_about (N : Nat) (zpaths : Int32) (zowner : Nat → Int32) (zmaker : Nat → Int32) (zruns : Nat → Int32) (zisThere : Nat → Int32) (p1 : Int32) (p2 : Int32) (p3 : Int32) : Option (Int32) := (pf_MO_isOutput N zpaths zowner p1 p2).bind (fun u0 => if ¬ u0 = 0 then (if p3 = 0 then (gz (((nI 40) * p1) + p2) 160 (some (((zowner (((nI 40) * p1) + p2).toNatClampNeg) - (1 : Int32))))) else if p3 = 1 then (gz (((nI 40) * p1) + p2) 160 (if (zruns (((nI 40) * p1) + p2).toNatClampNeg) = 0 then (some ((0 : Int32))) else (some ((1 : Int32))))) else if p3 = 2 then (gz (((nI 40) * p1) + p2) 160 (if (zisThere (((nI 40) * p1) + p2).toNatClampNeg) = 0 then (some ((0 : Int32))) else (some ((1 : Int32))))) else if p3 = 3 then (gz (((nI 40) * p1) + p2) 160 (some ((zmaker (((nI 40) * p1) + p2).toNatClampNeg)))) else (some ((-1 : Int32)))) else (some ((-1 : Int32))))
def pf_MO_list_L33 (N : Nat) (zpaths : Int32) (zinside : Nat → Int32) (zowner : Nat → Int32) (p1 : Int32) (p2 : Int32) : Nat → Int32 → Int32 → Option (Int32)
  | 0, _, _ => none
  | n33 + 1, x4, x5 => if zpaths ≤ x5 then (some ((-1 : Int32))) else (gz (((nI 40) * p1) + x5) 160 (if (zowner (((nI 40) * p1) + x5).toNatClampNeg) = 0 then (pf_MO_list_L33 N zpaths zinside zowner p1 p2 n33 x4 (x5 + (1 : Int32))) else (if p2 = (-1 : Int32) then (if ¬ x4 = 0 then (pf_MO_list_L33 N zpaths zinside zowner p1 p2 n33 (x4 + (-1 : Int32)) (x5 + (1 : Int32))) else (some (x5))) else (if x5 = p2 then (if ¬ x4 = 0 then (pf_MO_list_L33 N zpaths zinside zowner p1 p2 n33 (x4 + (-1 : Int32)) (x5 + (1 : Int32))) else (some (x5))) else ((pf_MO_isWithin N zinside x5 p2).bind (fun u1 => if ¬ u1 = 0 then (if ¬ x4 = 0 then (pf_MO_list_L33 N zpaths zinside zowner p1 p2 n33 (x4 + (-1 : Int32)) (x5 + (1 : Int32))) else (some (x5))) else (pf_MO_list_L33 N zpaths zinside zowner p1 p2 n33 x4 (x5 + (1 : Int32)))))))))
def pf_MO_list (N : Nat) (zpaths : Int32) (zinside : Nat → Int32) (zowner : Nat → Int32) (p1 : Int32) (p2 : Int32) (p3 : Int32) : Option (Int32) := (pf_MO_within N p1 (nI 3)).bind (fun u0 => if u0 = 0 then (some ((-1 : Int32))) else (if p2 = (-1 : Int32) then (if 0 ≤ p3 then (pf_MO_list_L33 N zpaths zinside zowner p1 p2 N p3 (0 : Int32)) else (some ((-1 : Int32)))) else ((pf_MO_isPath N zpaths p2).bind (fun u2 => if u2 = 0 then (some ((-1 : Int32))) else (if 0 ≤ p3 then (pf_MO_list_L33 N zpaths zinside zowner p1 p2 N p3 (0 : Int32)) else (some ((-1 : Int32))))))))
def pf_MO_dirty (N : Nat) (zisDirty : Nat → Int32) (p1 : Int32) (p2 : Int32) : Option (Int32) := (pf_MO_within N p1 (nI 11)).bind (fun u0 => if u0 = 0 then (some ((0 : Int32))) else ((pf_MO_within N p2 (nI 3)).bind (fun u1 => if u1 = 0 then (some ((0 : Int32))) else ((pf_MO_within N p1 (nI 11)).bind (fun u2 => if u2 = 0 then (gz (0 : Int32) 48 (if (zisDirty (0 : Int32).toNatClampNeg) = 0 then (some ((0 : Int32))) else (some ((1 : Int32))))) else ((pf_MO_within N p2 (nI 3)).bind (fun u3 => if u3 = 0 then (gz (0 : Int32) 48 (if (zisDirty (0 : Int32).toNatClampNeg) = 0 then (some ((0 : Int32))) else (some ((1 : Int32))))) else (gz (((nI 12) * p2) + p1) 48 (if (zisDirty (((nI 12) * p2) + p1).toNatClampNeg) = 0 then (some ((0 : Int32))) else (some ((1 : Int32))))))))))))
def pf_MO_clear_L51 (N : Nat) (zpaths : Int32) (p1 : Int32) : Nat → (Nat → Int32) → Int32 → Int32 → Option (Int32 × (Nat → Int32))
  | 0, _, _, _ => none
  | n51 + 1, zowner'', x2', x3' => if zpaths ≤ x3' then (some (x2', zowner'')) else (gz (((nI 40) * p1) + x3') 160 (if (zowner'' (((nI 40) * p1) + x3').toNatClampNeg) = 0 then (gz (((nI 40) * p1) + x3') 160 (pf_MO_clear_L51 N zpaths p1 n51 (upd zowner'' (((nI 40) * p1) + x3').toNatClampNeg (0 : Int32)) (x2' + (0 : Int32)) (x3' + (1 : Int32)))) else (gz (((nI 40) * p1) + x3') 160 (pf_MO_clear_L51 N zpaths p1 n51 (upd zowner'' (((nI 40) * p1) + x3').toNatClampNeg (0 : Int32)) (x2' + (1 : Int32)) (x3' + (1 : Int32))))))
def pf_MO_clear_L12 (N : Nat) (zpaths : Int32) (zsteps : Int32) (zowner : Nat → Int32) (zplace : Nat → Int32) (zisOpen : Nat → Int32) (p1 : Int32) : Nat → Int32 → Option (Int32 × (Nat → Int32))
  | 0, _ => none
  | n12 + 1, x2 => if zsteps ≤ x2 then (pf_MO_clear_L51 N zpaths p1 N zowner (0 : Int32) (0 : Int32)) else (gz x2 80 (if (zisOpen x2.toNatClampNeg) = 0 then (pf_MO_clear_L12 N zpaths zsteps zowner zplace zisOpen p1 n12 (x2 + (1 : Int32))) else (gz x2 80 (if ¬ (zplace x2.toNatClampNeg) = p1 then (pf_MO_clear_L12 N zpaths zsteps zowner zplace zisOpen p1 n12 (x2 + (1 : Int32))) else (some ((-1 : Int32), zowner))))))
def pf_MO_clear (N : Nat) (zpaths : Int32) (zsteps : Int32) (zowner : Nat → Int32) (zplace : Nat → Int32) (zisOpen : Nat → Int32) (p1 : Int32) : Option (Int32 × (Nat → Int32)) := (pf_MO_within N p1 (nI 3)).bind (fun u0 => if ¬ u0 = 0 then (pf_MO_clear_L12 N zpaths zsteps zowner zplace zisOpen p1 N (0 : Int32)) else (some ((-1 : Int32), zowner)))
def pf_MO_meets (N : Nat) (zmet : Int32) (zrow : Nat → Int64) (p1 : Int64) : Option (Int32 × (Nat → Int64)) := gz zmet 1220 (some ((zmet + (1 : Int32)), (vp_updL zrow zmet.toNatClampNeg p1)))
def pf_MO_gather_L120 (N : Nat) (zholds : Int32) (zhold : Nat → Int64) : Nat → Int32 → (Nat → Int64) → Int32 → Option (Int32 × (Nat → Int64))
  | 0, _, _, _ => none
  | n120 + 1, zmet''', zrow''', x1'' => if zholds ≤ x1'' then (some (zmet''', zrow''')) else (gz x1'' 100 (if (lg_cmp (zhold x1''.toNatClampNeg) (0 : Int64)) = 0 then (pf_MO_gather_L120 N zholds zhold n120 zmet''' zrow''' (x1'' + (1 : Int32))) else (gz x1'' 100 ((pf_MO_meets N zmet''' zrow''' (zhold x1''.toNatClampNeg)).bind (fun u0 => pf_MO_gather_L120 N zholds zhold n120 u0.1 u0.2 (x1'' + (1 : Int32)))))))
def pf_MO_gather_L63 (N : Nat) (kt50 : Int32 → (Nat → Int64) → Int32 → Option (Int32 × (Nat → Int64))) (zstaged : Nat → Int32) (zisOpen : Nat → Int32) (zstagedContent : Nat → Int64) (zstagedLazy : Nat → Int32) (x1' : Int32) : Nat → Int32 → (Nat → Int64) → Int32 → Option (Int32 × (Nat → Int64))
  | 0, _, _, _ => none
  | n63 + 1, zmet''', zrow''', x2'' => gz x1' 80 (if (((nI 12) * x1') + (zstaged x1'.toNatClampNeg)) ≤ x2'' then (kt50 zmet''' zrow''' (x1' + (1 : Int32))) else (gz x1' 80 (if (zisOpen x1'.toNatClampNeg) = 0 then (kt50 zmet''' zrow''' (x1' + (1 : Int32))) else (gz x2'' 960 (if ¬ (zstagedLazy x2''.toNatClampNeg) = 0 then (pf_MO_gather_L63 N kt50 zstaged zisOpen zstagedContent zstagedLazy x1' n63 zmet''' zrow''' (x2'' + (1 : Int32))) else (gz x2'' 960 ((pf_MO_meets N zmet''' zrow''' (zstagedContent x2''.toNatClampNeg)).bind (fun u1 => pf_MO_gather_L63 N kt50 zstaged zisOpen zstagedContent zstagedLazy x1' n63 u1.1 u1.2 (x2'' + (1 : Int32))))))))))
def pf_MO_gather_L50 (N : Nat) (zsteps : Int32) (zholds : Int32) (zstaged : Nat → Int32) (zisOpen : Nat → Int32) (zstagedContent : Nat → Int64) (zstagedLazy : Nat → Int32) (zhold : Nat → Int64) : Nat → Int32 → (Nat → Int64) → Int32 → Option (Int32 × (Nat → Int64))
  | 0, _, _, _ => none
  | n50 + 1, zmet'', zrow'', x1' => if zsteps ≤ x1' then (pf_MO_gather_L120 N zholds zhold N zmet'' zrow'' (0 : Int32)) else (pf_MO_gather_L63 N (pf_MO_gather_L50 N zsteps zholds zstaged zisOpen zstagedContent zstagedLazy zhold n50) zstaged zisOpen zstagedContent zstagedLazy x1' N zmet'' zrow'' ((nI 12) * x1'))
def pf_MO_gather_L7 (N : Nat) (zsteps : Int32) (zholds : Int32) (zowner : Nat → Int32) (zcontent : Nat → Int64) (zisThere : Nat → Int32) (zstaged : Nat → Int32) (zisOpen : Nat → Int32) (zstagedContent : Nat → Int64) (zstagedLazy : Nat → Int32) (zhold : Nat → Int64) : Nat → Int32 → (Nat → Int64) → Int32 → Option (Int32 × (Nat → Int64))
  | 0, _, _, _ => none
  | n7 + 1, zmet', zrow', x1 => if (nI 160) ≤ x1 then (pf_MO_gather_L50 N zsteps zholds zstaged zisOpen zstagedContent zstagedLazy zhold N zmet' zrow' (0 : Int32)) else (gz x1 160 (if (zowner x1.toNatClampNeg) = 0 then (pf_MO_gather_L7 N zsteps zholds zowner zcontent zisThere zstaged zisOpen zstagedContent zstagedLazy zhold n7 zmet' zrow' (x1 + (1 : Int32))) else (gz x1 160 (if (zisThere x1.toNatClampNeg) = 0 then (pf_MO_gather_L7 N zsteps zholds zowner zcontent zisThere zstaged zisOpen zstagedContent zstagedLazy zhold n7 zmet' zrow' (x1 + (1 : Int32))) else (gz x1 160 ((pf_MO_meets N zmet' zrow' (zcontent x1.toNatClampNeg)).bind (fun u2 => pf_MO_gather_L7 N zsteps zholds zowner zcontent zisThere zstaged zisOpen zstagedContent zstagedLazy zhold n7 u2.1 u2.2 (x1 + (1 : Int32)))))))))
def pf_MO_gather (N : Nat) (zsteps : Int32) (zholds : Int32) (zowner : Nat → Int32) (zcontent : Nat → Int64) (zisThere : Nat → Int32) (zstaged : Nat → Int32) (zisOpen : Nat → Int32) (zstagedContent : Nat → Int64) (zstagedLazy : Nat → Int32) (zhold : Nat → Int64) (zmet : Int32) (zrow : Nat → Int64) : Option (Int32 × (Nat → Int64)) := pf_MO_gather_L7 N zsteps zholds zowner zcontent zisThere zstaged zisOpen zstagedContent zstagedLazy zhold N (0 : Int32) zrow (0 : Int32)
def pf_MO_copies_L9 (N : Nat) (zmet' : Int32) (zrow' : Nat → Int64) (p1 : Int64) : Nat → Int32 → Int32 → Option (Int32 × Int32 × (Nat → Int64))
  | 0, _, _ => none
  | n9 + 1, x3, x4 => if zmet' ≤ x4 then (some (x3, zmet', zrow')) else (gz x4 1220 (if ¬ (lg_cmp (zrow' x4.toNatClampNeg) p1) = 0 then (pf_MO_copies_L9 N zmet' zrow' p1 n9 (x3 + (0 : Int32)) (x4 + (1 : Int32))) else (pf_MO_copies_L9 N zmet' zrow' p1 n9 (x3 + (1 : Int32)) (x4 + (1 : Int32)))))
def pf_MO_copies (N : Nat) (zsteps : Int32) (zholds : Int32) (zowner : Nat → Int32) (zcontent : Nat → Int64) (zisThere : Nat → Int32) (zstaged : Nat → Int32) (zisOpen : Nat → Int32) (zstagedContent : Nat → Int64) (zstagedLazy : Nat → Int32) (zhold : Nat → Int64) (zmet : Int32) (zrow : Nat → Int64) (p1 : Int64) : Option (Int32 × Int32 × (Nat → Int64)) := (pf_MO_gather N zsteps zholds zowner zcontent zisThere zstaged zisOpen zstagedContent zstagedLazy zhold zmet zrow).bind (fun u0 => pf_MO_copies_L9 N u0.1 u0.2 p1 N (0 : Int32) (0 : Int32))
def pf_MO_stored_L21 (N : Nat) (kt8 : Int32 → Int32 → Option (Int32 × Int32 × (Nat → Int64))) (zrow' : Nat → Int64) (x1 : Int32) (x2 : Int32) : Nat → Int32 → Int32 → Option (Int32 × Int32 × (Nat → Int64))
  | 0, _, _ => none
  | n21 + 1, x3', x4' => if x2 ≤ x4' then (if x3' = 0 then (kt8 (x1 + (0 : Int32)) (x2 + (1 : Int32))) else (kt8 (x1 + (1 : Int32)) (x2 + (1 : Int32)))) else (if x3' = 0 then (pf_MO_stored_L21 N kt8 zrow' x1 x2 n21 (0 : Int32) (x4' + (1 : Int32))) else (gz x4' 1220 (gz x2 1220 (if (lg_cmp (zrow' x4'.toNatClampNeg) (zrow' x2.toNatClampNeg)) = 0 then (pf_MO_stored_L21 N kt8 zrow' x1 x2 n21 (0 : Int32) (x4' + (1 : Int32))) else (pf_MO_stored_L21 N kt8 zrow' x1 x2 n21 (1 : Int32) (x4' + (1 : Int32)))))))
def pf_MO_stored_L8 (N : Nat) (zmet' : Int32) (zrow' : Nat → Int64) : Nat → Int32 → Int32 → Option (Int32 × Int32 × (Nat → Int64))
  | 0, _, _ => none
  | n8 + 1, x1, x2 => if zmet' ≤ x2 then (some (x1, zmet', zrow')) else (pf_MO_stored_L21 N (pf_MO_stored_L8 N zmet' zrow' n8) zrow' x1 x2 N (1 : Int32) (0 : Int32))
def pf_MO_stored (N : Nat) (zsteps : Int32) (zholds : Int32) (zowner : Nat → Int32) (zcontent : Nat → Int64) (zisThere : Nat → Int32) (zstaged : Nat → Int32) (zisOpen : Nat → Int32) (zstagedContent : Nat → Int64) (zstagedLazy : Nat → Int32) (zhold : Nat → Int64) (zmet : Int32) (zrow : Nat → Int64) : Option (Int32 × Int32 × (Nat → Int64)) := (pf_MO_gather N zsteps zholds zowner zcontent zisThere zstaged zisOpen zstagedContent zstagedLazy zhold zmet zrow).bind (fun u0 => pf_MO_stored_L8 N u0.1 u0.2 N (0 : Int32) (0 : Int32))
end
section
set_option maxHeartbeats 4000000 in
set_option maxRecDepth 100000 in
theorem c_PT_has (l : Launch) (dC : Nat → ClassId) (dI : Nat → Nat → Nat) (N : Nat) (a : Nat → Nat) (k : Nat → ClassId) (zouter : Nat → Int32) (zcount : Int32) (p1 : Int32) {y : (Int32)} (hf : pf_PT_has N zcount p1 = some y) (sz : Nat) : Met l y_PT_has ww_PT_has ({ frames := 0, cells := 0, slots := 0, locals := 0 }) (va_Pc [.ref (a 0), .int p1] (zB (dC, dI) zCl (t_PT k) (w_PT a k zouter zcount) sz)) (zQi (dC, dI) zCl (w_PT a k zouter zcount) sz y (w_PT a k zouter zcount)) 0 0 (va_A (w_PT a k zouter zcount) sz) := by
  refine Met.ofW (cc := b_PT_has) (maxL := 2) (ret := (some .boolean)) (by decide) rfl ?_
  intro p e s m args below meth c s₁ B hml hv
  obtain ⟨rfl, rfl, hP, hK, hD, hN⟩ := hv
  have hx := B.exec
  have hb := B.bytes
  have hr := B.returns
  have hts := atoms_spec (ws := ww_PT_has) B.pre
  have hown : s.vm.findClass R_PT = some m.cls := findClass_of_methodNamed B.named
  have hlocks := B.notSynchronized
  have hA : ∀ q : Nat, s.heap.size ≤ q → va_A (w_PT a k zouter zcount) s.heap.size q := fun q h => Or.inr h
  refine z_start (lv := [(0, .ref (a 0)), (1, .int p1)]) (Nat.le_of_ble_eq_true rfl) rfl hP hD (fun H locs ls hP hD hS hl => ?_)
  unfold pf_PT_has at hf
  refine lv_iload_n hx hb d_PT_has_0 rfl (lv_at hl 1 rfl) ?_
  refine lv_if_lt (tgt := 16) hx hb d_PT_has_1 (by decide) (fun c1 => ?_) (fun c1 => ?_)
  · have hf := z_t c1 hf
    refine lv_iconst (v := (0 : Int32)) hx hb d_PT_has_16 (by decide) ?_
    obtain rfl := Option.some.inj hf
    exact z_zret hx hb hr (by decide) hP hD hS d_PT_has_17 hlocks
  · have hf := z_f c1 hf
    refine lv_iload_n hx hb d_PT_has_4 rfl (lv_at hl 1 rfl) ?_
    refine lv_aload_n hx hb d_PT_has_5 rfl (lv_at hl 0 rfl) ?_
    refine va_get (D := (dC, dI)) (ci := 0) (v := .int zcount) (C := R_PT) (T := F_PT) (N := 2) hx hb hts (fun w h => List.mem_cons_of_mem _ (in_PT w h)) hown hK hP 0 rfl rfl 1 (by decide) (hts _ (List.mem_cons_of_mem _ k_1_24)) (fun _ h9 => h9) rfl d_PT_has_6 ?_
    refine lv_icmp_ge (tgt := 16) hx hb d_PT_has_9 (by decide) (fun c2 => ?_) (fun c2 => ?_)
    · have hf := z_t c2 hf
      refine lv_iconst (v := (0 : Int32)) hx hb d_PT_has_16 (by decide) ?_
      obtain rfl := Option.some.inj hf
      exact z_zret hx hb hr (by decide) hP hD hS d_PT_has_17 hlocks
    · have hf := z_f c2 hf
      refine lv_iconst (v := (1 : Int32)) hx hb d_PT_has_12 (by decide) ?_
      refine lv_goto (tgt := 17) hx hb d_PT_has_13 (by decide) ?_
      obtain rfl := Option.some.inj hf
      exact z_zret hx hb hr (by decide) hP hD hS d_PT_has_17 hlocks
set_option maxHeartbeats 4000000 in
set_option maxRecDepth 100000 in
theorem c_PT_grow (l : Launch) (dC : Nat → ClassId) (dI : Nat → Nat → Nat) (N : Nat) (a : Nat → Nat) (k : Nat → ClassId) (zouter : Nat → Int32) (zcount : Int32) (p1 : Int32) {y : (Int32 × (Nat → Int32) × Int32)} (hf : pf_PT_grow N zouter zcount p1 = some y) (sz : Nat) : Met l y_PT_grow ww_PT_grow ({ frames := 1, cells := 0, slots := 0, locals := 21 }) (va_Pc [.ref (a 0), .int p1] (zB (dC, dI) zCl (t_PT k) (w_PT a k zouter zcount) sz)) (zQi (dC, dI) zCl (w_PT a k zouter zcount) sz y.1 (w_PT a k y.2.1 y.2.2)) 0 0 (va_A (w_PT a k zouter zcount) sz) := by
  refine Met.ofW (cc := b_PT_grow) (maxL := 2) (ret := (some .int)) (by decide) rfl ?_
  intro p e s m args below meth c s₁ B hml hv
  obtain ⟨rfl, rfl, hP, hK, hD, hN⟩ := hv
  have hx := B.exec
  have hb := B.bytes
  have hr := B.returns
  have hts := atoms_spec (ws := ww_PT_grow) B.pre
  have hown : s.vm.findClass R_PT = some m.cls := findClass_of_methodNamed B.named
  have hlocks := B.notSynchronized
  have hA : ∀ q : Nat, s.heap.size ≤ q → va_A (w_PT a k zouter zcount) s.heap.size q := fun q h => Or.inr h
  refine z_start (lv := [(0, .ref (a 0)), (1, .int p1)]) (Nat.le_of_ble_eq_true rfl) rfl hP hD (fun H locs ls hP hD hS hl => ?_)
  unfold pf_PT_grow at hf
  refine lv_aload_n hx hb d_PT_grow_0 rfl (lv_at hl 0 rfl) ?_
  refine va_get (D := (dC, dI)) (ci := 0) (v := .int zcount) (C := R_PT) (T := F_PT) (N := 2) hx hb hts (fun w h => List.mem_cons_of_mem _ (in_PT w h)) hown hK hP 0 rfl rfl 1 (by decide) (hts _ (List.mem_cons_of_mem _ k_1_24)) (fun _ h9 => h9) rfl d_PT_grow_1 ?_
  refine lv_bipush (v := (nI 40)) hx hb d_PT_grow_4 (by decide) ?_
  refine lv_icmp_ge (tgt := 22) hx hb d_PT_grow_6 (by decide) (fun c1 => ?_) (fun c1 => ?_)
  · have hf := z_t c1 hf
    refine lv_iconst (v := (-1 : Int32)) hx hb d_PT_grow_22 (by decide) ?_
    obtain rfl := Option.some.inj hf
    exact z_iret hx hb hr hP hD hS d_PT_grow_23 hlocks
  · have hf := z_f c1 hf
    refine lv_iload_n hx hb d_PT_grow_9 rfl (lv_at hl 1 rfl) ?_
    refine lv_iconst (v := (-1 : Int32)) hx hb d_PT_grow_10 (by decide) ?_
    refine lv_icmp_eq (tgt := 24) hx hb d_PT_grow_11 (by decide) (fun c2 => ?_) (fun c2 => ?_)
    · have hf := z_t c2 hf
      refine lv_aload_n hx hb d_PT_grow_24 rfl (lv_at hl 0 rfl) ?_
      refine va_get (D := (dC, dI)) (ci := 0) (v := .ref (a 1)) (C := R_PT) (T := F_PT) (N := 2) hx hb hts (fun w h => List.mem_cons_of_mem _ (in_PT w h)) hown hK hP 0 rfl rfl 0 (by decide) (hts _ (List.mem_cons_of_mem _ k_1_23)) (fun _ h9 => h9) rfl d_PT_grow_25 ?_
      refine lv_aload_n hx hb d_PT_grow_28 rfl (lv_at hl 0 rfl) ?_
      refine va_get (D := (dC, dI)) (ci := 0) (v := .int zcount) (C := R_PT) (T := F_PT) (N := 2) hx hb hts (fun w h => List.mem_cons_of_mem _ (in_PT w h)) hown hK hP 0 rfl rfl 1 (by decide) (hts _ (List.mem_cons_of_mem _ k_1_24)) (fun _ h9 => h9) rfl d_PT_grow_29 ?_
      refine lv_iload_n hx hb d_PT_grow_32 rfl (lv_at hl 1 rfl) ?_
      obtain ⟨g3, hf⟩ := z_gz hf
      refine va_iast hx hb hK hP hD hS 1 0 rfl rfl g3 d_PT_grow_33 (fun H locs hP hD hS => ?_)
      have hP : va_P (dC, dI) zCl (w_PT a k (upd zouter zcount.toNatClampNeg p1) zcount) H := hP
      have hD : va_D _ (w_PT a k (upd zouter zcount.toNatClampNeg p1) zcount) := hD
      refine lv_aload_n hx hb d_PT_grow_34 rfl (lv_at hl 0 rfl) ?_
      refine lv_dup hx hb d_PT_grow_35 rfl ?_
      refine va_get (D := (dC, dI)) (ci := 0) (v := .int zcount) (C := R_PT) (T := F_PT) (N := 2) hx hb hts (fun w h => List.mem_cons_of_mem _ (in_PT w h)) hown hK hP 0 rfl rfl 1 (by decide) (hts _ (List.mem_cons_of_mem _ k_1_24)) (fun _ h9 => h9) rfl d_PT_grow_36 ?_
      refine lv_iconst (v := (1 : Int32)) hx hb d_PT_grow_39 (by decide) ?_
      refine lv_iadd hx hb d_PT_grow_40 ?_
      refine va_put (D := (dC, dI)) (ci := 0) (v := .int (zcount + (1 : Int32))) (ty := .int) (C := R_PT) (T := F_PT) (N := 2) hx hb hts (fun w h => List.mem_cons_of_mem _ (in_PT w h)) ty_PT ty_PT_ok nm_PT hown hK hP hD hS 0 rfl rfl 1 (by decide) (hts _ (List.mem_cons_of_mem _ k_1_24)) (fun _ h9 => h9) rfl (by decide +kernel) rfl rfl (Nat.le_of_ble_eq_true rfl) d_PT_grow_41 (fun H locs hP hD hS => ?_)
      have hP : va_P (dC, dI) zCl (w_PT a k (upd zouter zcount.toNatClampNeg p1) (zcount + (1 : Int32))) H := hP
      have hD : va_D _ (w_PT a k (upd zouter zcount.toNatClampNeg p1) (zcount + (1 : Int32))) := hD
      refine lv_aload_n hx hb d_PT_grow_44 rfl (lv_at hl 0 rfl) ?_
      refine va_get (D := (dC, dI)) (ci := 0) (v := .int (zcount + (1 : Int32))) (C := R_PT) (T := F_PT) (N := 2) hx hb hts (fun w h => List.mem_cons_of_mem _ (in_PT w h)) hown hK hP 0 rfl rfl 1 (by decide) (hts _ (List.mem_cons_of_mem _ k_1_24)) (fun _ h9 => h9) rfl d_PT_grow_45 ?_
      refine lv_iconst (v := (1 : Int32)) hx hb d_PT_grow_48 (by decide) ?_
      refine lv_isub hx hb d_PT_grow_49 ?_
      obtain rfl := Option.some.inj hf
      exact z_iret hx hb hr hP hD hS d_PT_grow_50 hlocks
    · have hf := z_f c2 hf
      refine lv_aload_n hx hb d_PT_grow_14 rfl (lv_at hl 0 rfl) ?_
      refine lv_iload_n hx hb d_PT_grow_15 rfl (lv_at hl 1 rfl) ?_
      obtain ⟨u0, hu0, hf⟩ := z_b hf
      have hPc := hP
      have hDc := hD
      have hKc := hK
      refine z_cwi (va_runV (As := [.int p1]) (rest := []) ⟨hx, hb, hml, hown, hts⟩ (c_PT_has l dC dI N a k zouter zcount p1 hu0 H.size) (cwV 1 hts (zGV zsub_c k_1_143 k_1_144 k_1_145 k_1_2 kc_PT_has) rfl rfl rfl (by decide +kernel) ⟨Nat.le_of_ble_eq_true rfl, Nat.le_of_ble_eq_true rfl⟩) ⟨z_bl, va_recv hKc hPc (ci := 0) (q0 := 0) rfl rfl, fun U hU hW => ⟨rfl, z_pre hN hKc hPc hDc U hU hW⟩⟩ rfl rfl hl.1 rfl (lv_room (Nat.le_of_ble_eq_true rfl)) d_PT_grow_16 ⟨Nat.zero_le _, Nat.zero_le _⟩) hD hS hA (fun H locs hP hD hS => ?_)
      refine lv_if_ne (tgt := 24) hx hb d_PT_grow_19 (by decide) (fun c4 => ?_) (fun c4 => ?_)
      · have hf := z_t c4 hf
        refine lv_aload_n hx hb d_PT_grow_24 rfl (lv_at hl 0 rfl) ?_
        refine va_get (D := (dC, dI)) (ci := 0) (v := .ref (a 1)) (C := R_PT) (T := F_PT) (N := 2) hx hb hts (fun w h => List.mem_cons_of_mem _ (in_PT w h)) hown hK hP 0 rfl rfl 0 (by decide) (hts _ (List.mem_cons_of_mem _ k_1_23)) (fun _ h9 => h9) rfl d_PT_grow_25 ?_
        refine lv_aload_n hx hb d_PT_grow_28 rfl (lv_at hl 0 rfl) ?_
        refine va_get (D := (dC, dI)) (ci := 0) (v := .int zcount) (C := R_PT) (T := F_PT) (N := 2) hx hb hts (fun w h => List.mem_cons_of_mem _ (in_PT w h)) hown hK hP 0 rfl rfl 1 (by decide) (hts _ (List.mem_cons_of_mem _ k_1_24)) (fun _ h9 => h9) rfl d_PT_grow_29 ?_
        refine lv_iload_n hx hb d_PT_grow_32 rfl (lv_at hl 1 rfl) ?_
        obtain ⟨g5, hf⟩ := z_gz hf
        refine va_iast hx hb hK hP hD hS 1 0 rfl rfl g5 d_PT_grow_33 (fun H locs hP hD hS => ?_)
        have hP : va_P (dC, dI) zCl (w_PT a k (upd zouter zcount.toNatClampNeg p1) zcount) H := hP
        have hD : va_D _ (w_PT a k (upd zouter zcount.toNatClampNeg p1) zcount) := hD
        refine lv_aload_n hx hb d_PT_grow_34 rfl (lv_at hl 0 rfl) ?_
        refine lv_dup hx hb d_PT_grow_35 rfl ?_
        refine va_get (D := (dC, dI)) (ci := 0) (v := .int zcount) (C := R_PT) (T := F_PT) (N := 2) hx hb hts (fun w h => List.mem_cons_of_mem _ (in_PT w h)) hown hK hP 0 rfl rfl 1 (by decide) (hts _ (List.mem_cons_of_mem _ k_1_24)) (fun _ h9 => h9) rfl d_PT_grow_36 ?_
        refine lv_iconst (v := (1 : Int32)) hx hb d_PT_grow_39 (by decide) ?_
        refine lv_iadd hx hb d_PT_grow_40 ?_
        refine va_put (D := (dC, dI)) (ci := 0) (v := .int (zcount + (1 : Int32))) (ty := .int) (C := R_PT) (T := F_PT) (N := 2) hx hb hts (fun w h => List.mem_cons_of_mem _ (in_PT w h)) ty_PT ty_PT_ok nm_PT hown hK hP hD hS 0 rfl rfl 1 (by decide) (hts _ (List.mem_cons_of_mem _ k_1_24)) (fun _ h9 => h9) rfl (by decide +kernel) rfl rfl (Nat.le_of_ble_eq_true rfl) d_PT_grow_41 (fun H locs hP hD hS => ?_)
        have hP : va_P (dC, dI) zCl (w_PT a k (upd zouter zcount.toNatClampNeg p1) (zcount + (1 : Int32))) H := hP
        have hD : va_D _ (w_PT a k (upd zouter zcount.toNatClampNeg p1) (zcount + (1 : Int32))) := hD
        refine lv_aload_n hx hb d_PT_grow_44 rfl (lv_at hl 0 rfl) ?_
        refine va_get (D := (dC, dI)) (ci := 0) (v := .int (zcount + (1 : Int32))) (C := R_PT) (T := F_PT) (N := 2) hx hb hts (fun w h => List.mem_cons_of_mem _ (in_PT w h)) hown hK hP 0 rfl rfl 1 (by decide) (hts _ (List.mem_cons_of_mem _ k_1_24)) (fun _ h9 => h9) rfl d_PT_grow_45 ?_
        refine lv_iconst (v := (1 : Int32)) hx hb d_PT_grow_48 (by decide) ?_
        refine lv_isub hx hb d_PT_grow_49 ?_
        obtain rfl := Option.some.inj hf
        exact z_iret hx hb hr hP hD hS d_PT_grow_50 hlocks
      · have hf := z_fn c4 hf
        refine lv_iconst (v := (-1 : Int32)) hx hb d_PT_grow_22 (by decide) ?_
        obtain rfl := Option.some.inj hf
        exact z_iret hx hb hr hP hD hS d_PT_grow_23 hlocks
set_option maxHeartbeats 4000000 in
set_option maxRecDepth 100000 in
theorem c_PT_isAtOrWithin (l : Launch) (dC : Nat → ClassId) (dI : Nat → Nat → Nat) (N : Nat) (a : Nat → Nat) (k : Nat → ClassId) (zouter : Nat → Int32) (zcount : Int32) (p1 : Int32) (p2 : Int32) {y : (Int32)} (hf : pf_PT_isAtOrWithin N zouter zcount p1 p2 = some y) (sz : Nat) : Met l y_PT_isAtOrWithin ww_PT_isAtOrWithin ({ frames := 1, cells := 0, slots := 0, locals := 21 }) (va_Pc [.ref (a 0), .int p1, .int p2] (zB (dC, dI) zCl (t_PT k) (w_PT a k zouter zcount) sz)) (zQi (dC, dI) zCl (w_PT a k zouter zcount) sz y (w_PT a k zouter zcount)) 0 0 (va_A (w_PT a k zouter zcount) sz) := by
  refine Met.ofW (cc := b_PT_isAtOrWithin) (maxL := 5) (ret := (some .boolean)) (by decide) rfl ?_
  intro p e s m args below meth c s₁ B hml hv
  obtain ⟨rfl, rfl, hP, hK, hD, hN⟩ := hv
  have hx := B.exec
  have hb := B.bytes
  have hr := B.returns
  have hts := atoms_spec (ws := ww_PT_isAtOrWithin) B.pre
  have hown : s.vm.findClass R_PT = some m.cls := findClass_of_methodNamed B.named
  have hlocks := B.notSynchronized
  have hA : ∀ q : Nat, s.heap.size ≤ q → va_A (w_PT a k zouter zcount) s.heap.size q := fun q h => Or.inr h
  refine z_start (lv := [(0, .ref (a 0)), (1, .int p1), (2, .int p2)]) (Nat.le_of_ble_eq_true rfl) rfl hP hD (fun H locs ls hP hD hS hl => ?_)
  unfold pf_PT_isAtOrWithin at hf
  refine lv_iload_n hx hb d_PT_isAtOrWithin_0 rfl (lv_at hl 1 rfl) ?_
  refine lv_istore_n (lv' := [(3, .int p1), (0, .ref (a 0)), (1, .int p1), (2, .int p2)]) hx hb d_PT_isAtOrWithin_1 rfl hl (by decide) rfl (fun ls hl => ?_)
  refine lv_iconst (v := (0 : Int32)) hx hb d_PT_isAtOrWithin_2 (by decide) ?_
  refine lv_istore (lv' := [(4, .int (0 : Int32)), (3, .int p1), (0, .ref (a 0)), (1, .int p1), (2, .int p2)]) hx hb d_PT_isAtOrWithin_3 hl (by decide) rfl (fun ls hl => ?_)
  have loop5 : ∀ (n : Nat) (x3 : Int32) (x4 : Int32), pf_PT_isAtOrWithin_L5 N zouter zcount p2 n x3 x4 = some y → ∀ (H : Heap) (locs : List Loc) (ls : Array Slot), va_P (dC, dI) zCl (w_PT a k zouter zcount) H → va_D (va_A (w_PT a k zouter zcount) s.heap.size) (w_PT a k zouter zcount) → va_S (va_A (w_PT a k zouter zcount) s.heap.size) s.heap H locs → lv_has ls 5 [(0, .ref (a 0)), (1, .int p1), (2, .int p2), (3, .int x3), (4, .int x4)] → W p l e (headSpec ww_PT_isAtOrWithin ({ frames := 1, cells := 0, slots := 0, locals := 21 })).room s m ([.ref (a 0), .int p1, .int p2] : List Value).toArray below meth c H locs 0 0 (MQ below (zQi (dC, dI) zCl (w_PT a k zouter zcount) s.heap.size y (w_PT a k zouter zcount)) ([.ref (a 0), .int p1, .int p2] : List Value).toArray s 0 0 (va_A (w_PT a k zouter zcount) s.heap.size)) (F0 m 5 ls []) := by
    intro n5
    induction n5 with
    | zero => intro x3 x4 hf; rw [pf_PT_isAtOrWithin_L5.eq_1] at hf; cases hf
    | succ n5 ih5 =>
      intro x3 x4 hf H locs ls hP hD hS hl
      rw [pf_PT_isAtOrWithin_L5.eq_2] at hf
      refine lv_iload hx hb d_PT_isAtOrWithin_5 (lv_at hl 4 rfl) ?_
      refine lv_bipush (v := (nI 40)) hx hb d_PT_isAtOrWithin_7 (by decide) ?_
      refine lv_icmp_ge (tgt := 38) hx hb d_PT_isAtOrWithin_9 (by decide) (fun c1 => ?_) (fun c1 => ?_)
      · have hf := z_t c1 hf
        refine lv_iload_n hx hb d_PT_isAtOrWithin_38 rfl (lv_at hl 3 rfl) ?_
        refine lv_iload_n hx hb d_PT_isAtOrWithin_39 rfl (lv_at hl 2 rfl) ?_
        refine lv_icmp_ne (tgt := 47) hx hb d_PT_isAtOrWithin_40 (by decide) (fun c2 => ?_) (fun c2 => ?_)
        · have hf := z_t c2 hf
          refine lv_iconst (v := (0 : Int32)) hx hb d_PT_isAtOrWithin_47 (by decide) ?_
          obtain rfl := Option.some.inj hf
          exact z_zret hx hb hr (by decide) hP hD hS d_PT_isAtOrWithin_48 hlocks
        · have hf := z_fn c2 hf
          refine lv_iconst (v := (1 : Int32)) hx hb d_PT_isAtOrWithin_43 (by decide) ?_
          refine lv_goto (tgt := 48) hx hb d_PT_isAtOrWithin_44 (by decide) ?_
          obtain rfl := Option.some.inj hf
          exact z_zret hx hb hr (by decide) hP hD hS d_PT_isAtOrWithin_48 hlocks
      · have hf := z_f c1 hf
        refine lv_iload_n hx hb d_PT_isAtOrWithin_12 rfl (lv_at hl 3 rfl) ?_
        refine lv_iload_n hx hb d_PT_isAtOrWithin_13 rfl (lv_at hl 2 rfl) ?_
        refine lv_icmp_le (tgt := 38) hx hb d_PT_isAtOrWithin_14 (by decide) (fun c3 => ?_) (fun c3 => ?_)
        · have hf := z_t c3 hf
          refine lv_iload_n hx hb d_PT_isAtOrWithin_38 rfl (lv_at hl 3 rfl) ?_
          refine lv_iload_n hx hb d_PT_isAtOrWithin_39 rfl (lv_at hl 2 rfl) ?_
          refine lv_icmp_ne (tgt := 47) hx hb d_PT_isAtOrWithin_40 (by decide) (fun c4 => ?_) (fun c4 => ?_)
          · have hf := z_t c4 hf
            refine lv_iconst (v := (0 : Int32)) hx hb d_PT_isAtOrWithin_47 (by decide) ?_
            obtain rfl := Option.some.inj hf
            exact z_zret hx hb hr (by decide) hP hD hS d_PT_isAtOrWithin_48 hlocks
          · have hf := z_fn c4 hf
            refine lv_iconst (v := (1 : Int32)) hx hb d_PT_isAtOrWithin_43 (by decide) ?_
            refine lv_goto (tgt := 48) hx hb d_PT_isAtOrWithin_44 (by decide) ?_
            obtain rfl := Option.some.inj hf
            exact z_zret hx hb hr (by decide) hP hD hS d_PT_isAtOrWithin_48 hlocks
        · have hf := z_f c3 hf
          refine lv_aload_n hx hb d_PT_isAtOrWithin_17 rfl (lv_at hl 0 rfl) ?_
          refine lv_iload_n hx hb d_PT_isAtOrWithin_18 rfl (lv_at hl 3 rfl) ?_
          obtain ⟨u0, hu0, hf⟩ := z_b hf
          have hPc := hP
          have hDc := hD
          have hKc := hK
          refine z_cwi (va_runV (As := [.int x3]) (rest := []) ⟨hx, hb, hml, hown, hts⟩ (c_PT_has l dC dI N a k zouter zcount x3 hu0 H.size) (cwV 1 hts (zGV zsub_c k_1_143 k_1_144 k_1_145 k_1_2 kc_PT_has) rfl rfl rfl (by decide +kernel) ⟨Nat.le_of_ble_eq_true rfl, Nat.le_of_ble_eq_true rfl⟩) ⟨z_bl, va_recv hKc hPc (ci := 0) (q0 := 0) rfl rfl, fun U hU hW => ⟨rfl, z_pre hN hKc hPc hDc U hU hW⟩⟩ rfl rfl hl.1 rfl (lv_room (Nat.le_of_ble_eq_true rfl)) d_PT_isAtOrWithin_19 ⟨Nat.zero_le _, Nat.zero_le _⟩) hD hS hA (fun H locs hP hD hS => ?_)
          refine lv_if_eq (tgt := 38) hx hb d_PT_isAtOrWithin_22 (by decide) (fun c5 => ?_) (fun c5 => ?_)
          · have hf := z_t c5 hf
            refine lv_iload_n hx hb d_PT_isAtOrWithin_38 rfl (lv_at hl 3 rfl) ?_
            refine lv_iload_n hx hb d_PT_isAtOrWithin_39 rfl (lv_at hl 2 rfl) ?_
            refine lv_icmp_ne (tgt := 47) hx hb d_PT_isAtOrWithin_40 (by decide) (fun c6 => ?_) (fun c6 => ?_)
            · have hf := z_t c6 hf
              refine lv_iconst (v := (0 : Int32)) hx hb d_PT_isAtOrWithin_47 (by decide) ?_
              obtain rfl := Option.some.inj hf
              exact z_zret hx hb hr (by decide) hP hD hS d_PT_isAtOrWithin_48 hlocks
            · have hf := z_fn c6 hf
              refine lv_iconst (v := (1 : Int32)) hx hb d_PT_isAtOrWithin_43 (by decide) ?_
              refine lv_goto (tgt := 48) hx hb d_PT_isAtOrWithin_44 (by decide) ?_
              obtain rfl := Option.some.inj hf
              exact z_zret hx hb hr (by decide) hP hD hS d_PT_isAtOrWithin_48 hlocks
          · have hf := z_f c5 hf
            refine lv_aload_n hx hb d_PT_isAtOrWithin_25 rfl (lv_at hl 0 rfl) ?_
            refine va_get (D := (dC, dI)) (ci := 0) (v := .ref (a 1)) (C := R_PT) (T := F_PT) (N := 2) hx hb hts (fun w h => List.mem_cons_of_mem _ (in_PT w h)) hown hK hP 0 rfl rfl 0 (by decide) (hts _ (List.mem_cons_of_mem _ k_1_23)) (fun _ h9 => h9) rfl d_PT_isAtOrWithin_26 ?_
            refine lv_iload_n hx hb d_PT_isAtOrWithin_29 rfl (lv_at hl 3 rfl) ?_
            obtain ⟨g7, hf⟩ := z_gz hf
            refine va_iald hx hb hK hP 1 0 rfl rfl g7 d_PT_isAtOrWithin_30 ?_
            refine lv_istore_n (lv' := [(3, .int (zouter x3.toNatClampNeg)), (0, .ref (a 0)), (1, .int p1), (2, .int p2), (4, .int x4)]) hx hb d_PT_isAtOrWithin_31 rfl hl (by decide) rfl (fun ls hl => ?_)
            refine lv_iinc (v := (x4 + (1 : Int32))) (lv' := [(4, .int (x4 + (1 : Int32))), (3, .int (zouter x3.toNatClampNeg)), (0, .ref (a 0)), (1, .int p1), (2, .int p2)]) hx hb d_PT_isAtOrWithin_32 hl (k := 4) rfl rfl (by decide) rfl (fun ls hl => ?_)
            refine lv_goto (tgt := 5) hx hb d_PT_isAtOrWithin_35 (by decide) ?_
            exact ih5 (zouter x3.toNatClampNeg) (x4 + (1 : Int32)) hf H locs ls hP hD hS (lv_sub hl [2, 3, 4, 1, 0] rfl)
  exact loop5 N p1 (0 : Int32) hf H locs ls hP hD hS (lv_sub hl [2, 3, 4, 1, 0] rfl)
set_option maxHeartbeats 4000000 in
set_option maxRecDepth 100000 in
theorem c_PT_meet (l : Launch) (dC : Nat → ClassId) (dI : Nat → Nat → Nat) (N : Nat) (a : Nat → Nat) (k : Nat → ClassId) (zouter : Nat → Int32) (zcount : Int32) (p1 : Int32) (p2 : Int32) {y : (Int32)} (hf : pf_PT_meet N zouter zcount p1 p2 = some y) (sz : Nat) : Met l y_PT_meet ww_PT_meet ({ frames := 2, cells := 0, slots := 0, locals := 45 }) (va_Pc [.ref (a 0), .int p1, .int p2] (zB (dC, dI) zCl (t_PT k) (w_PT a k zouter zcount) sz)) (zQi (dC, dI) zCl (w_PT a k zouter zcount) sz y (w_PT a k zouter zcount)) 0 0 (va_A (w_PT a k zouter zcount) sz) := by
  refine Met.ofW (cc := b_PT_meet) (maxL := 3) (ret := (some .boolean)) (by decide) rfl ?_
  intro p e s m args below meth c s₁ B hml hv
  obtain ⟨rfl, rfl, hP, hK, hD, hN⟩ := hv
  have hx := B.exec
  have hb := B.bytes
  have hr := B.returns
  have hts := atoms_spec (ws := ww_PT_meet) B.pre
  have hown : s.vm.findClass R_PT = some m.cls := findClass_of_methodNamed B.named
  have hlocks := B.notSynchronized
  have hA : ∀ q : Nat, s.heap.size ≤ q → va_A (w_PT a k zouter zcount) s.heap.size q := fun q h => Or.inr h
  refine z_start (lv := [(0, .ref (a 0)), (1, .int p1), (2, .int p2)]) (Nat.le_of_ble_eq_true rfl) rfl hP hD (fun H locs ls hP hD hS hl => ?_)
  unfold pf_PT_meet at hf
  refine lv_aload_n hx hb d_PT_meet_0 rfl (lv_at hl 0 rfl) ?_
  refine lv_iload_n hx hb d_PT_meet_1 rfl (lv_at hl 1 rfl) ?_
  obtain ⟨u0, hu0, hf⟩ := z_b hf
  have hPc := hP
  have hDc := hD
  have hKc := hK
  refine z_cwi (va_runV (As := [.int p1]) (rest := []) ⟨hx, hb, hml, hown, hts⟩ (c_PT_has l dC dI N a k zouter zcount p1 hu0 H.size) (cwV 1 hts (zGV zsub_c k_1_143 k_1_144 k_1_145 k_1_2 kc_PT_has) rfl rfl rfl (by decide +kernel) ⟨Nat.le_of_ble_eq_true rfl, Nat.le_of_ble_eq_true rfl⟩) ⟨z_bl, va_recv hKc hPc (ci := 0) (q0 := 0) rfl rfl, fun U hU hW => ⟨rfl, z_pre hN hKc hPc hDc U hU hW⟩⟩ rfl rfl hl.1 rfl (lv_room (Nat.le_of_ble_eq_true rfl)) d_PT_meet_2 ⟨Nat.zero_le _, Nat.zero_le _⟩) hD hS hA (fun H locs hP hD hS => ?_)
  refine lv_if_eq (tgt := 38) hx hb d_PT_meet_5 (by decide) (fun c1 => ?_) (fun c1 => ?_)
  · have hf := z_t c1 hf
    refine lv_iconst (v := (0 : Int32)) hx hb d_PT_meet_38 (by decide) ?_
    obtain rfl := Option.some.inj hf
    exact z_zret hx hb hr (by decide) hP hD hS d_PT_meet_39 hlocks
  · have hf := z_f c1 hf
    refine lv_aload_n hx hb d_PT_meet_8 rfl (lv_at hl 0 rfl) ?_
    refine lv_iload_n hx hb d_PT_meet_9 rfl (lv_at hl 2 rfl) ?_
    obtain ⟨u1, hu1, hf⟩ := z_b hf
    have hPc := hP
    have hDc := hD
    have hKc := hK
    refine z_cwi (va_runV (As := [.int p2]) (rest := []) ⟨hx, hb, hml, hown, hts⟩ (c_PT_has l dC dI N a k zouter zcount p2 hu1 H.size) (cwV 1 hts (zGV zsub_c k_1_143 k_1_144 k_1_145 k_1_2 kc_PT_has) rfl rfl rfl (by decide +kernel) ⟨Nat.le_of_ble_eq_true rfl, Nat.le_of_ble_eq_true rfl⟩) ⟨z_bl, va_recv hKc hPc (ci := 0) (q0 := 0) rfl rfl, fun U hU hW => ⟨rfl, z_pre hN hKc hPc hDc U hU hW⟩⟩ rfl rfl hl.1 rfl (lv_room (Nat.le_of_ble_eq_true rfl)) d_PT_meet_10 ⟨Nat.zero_le _, Nat.zero_le _⟩) hD hS hA (fun H locs hP hD hS => ?_)
    refine lv_if_eq (tgt := 38) hx hb d_PT_meet_13 (by decide) (fun c2 => ?_) (fun c2 => ?_)
    · have hf := z_t c2 hf
      refine lv_iconst (v := (0 : Int32)) hx hb d_PT_meet_38 (by decide) ?_
      obtain rfl := Option.some.inj hf
      exact z_zret hx hb hr (by decide) hP hD hS d_PT_meet_39 hlocks
    · have hf := z_f c2 hf
      refine lv_aload_n hx hb d_PT_meet_16 rfl (lv_at hl 0 rfl) ?_
      refine lv_iload_n hx hb d_PT_meet_17 rfl (lv_at hl 1 rfl) ?_
      refine lv_iload_n hx hb d_PT_meet_18 rfl (lv_at hl 2 rfl) ?_
      obtain ⟨u2, hu2, hf⟩ := z_b hf
      have hPc := hP
      have hDc := hD
      have hKc := hK
      refine z_cwi (va_runV (As := [.int p1, .int p2]) (rest := []) ⟨hx, hb, hml, hown, hts⟩ (c_PT_isAtOrWithin l dC dI N a k zouter zcount p1 p2 hu2 H.size) (cwV 2 hts (zGV zsub_c k_1_236 k_1_237 k_1_238 k_1_2 kc_PT_isAtOrWithin) rfl rfl rfl (by decide +kernel) ⟨Nat.le_of_ble_eq_true rfl, Nat.le_of_ble_eq_true rfl⟩) ⟨z_bl, va_recv hKc hPc (ci := 0) (q0 := 0) rfl rfl, fun U hU hW => ⟨rfl, z_pre hN hKc hPc hDc U hU hW⟩⟩ rfl rfl hl.1 rfl (lv_room (Nat.le_of_ble_eq_true rfl)) d_PT_meet_19 ⟨Nat.zero_le _, Nat.zero_le _⟩) hD hS hA (fun H locs hP hD hS => ?_)
      refine lv_if_ne (tgt := 34) hx hb d_PT_meet_22 (by decide) (fun c3 => ?_) (fun c3 => ?_)
      · have hf := z_t c3 hf
        refine lv_iconst (v := (1 : Int32)) hx hb d_PT_meet_34 (by decide) ?_
        refine lv_goto (tgt := 39) hx hb d_PT_meet_35 (by decide) ?_
        obtain rfl := Option.some.inj hf
        exact z_zret hx hb hr (by decide) hP hD hS d_PT_meet_39 hlocks
      · have hf := z_fn c3 hf
        refine lv_aload_n hx hb d_PT_meet_25 rfl (lv_at hl 0 rfl) ?_
        refine lv_iload_n hx hb d_PT_meet_26 rfl (lv_at hl 2 rfl) ?_
        refine lv_iload_n hx hb d_PT_meet_27 rfl (lv_at hl 1 rfl) ?_
        obtain ⟨u3, hu3, hf⟩ := z_b hf
        have hPc := hP
        have hDc := hD
        have hKc := hK
        refine z_cwi (va_runV (As := [.int p2, .int p1]) (rest := []) ⟨hx, hb, hml, hown, hts⟩ (c_PT_isAtOrWithin l dC dI N a k zouter zcount p2 p1 hu3 H.size) (cwV 2 hts (zGV zsub_c k_1_236 k_1_237 k_1_238 k_1_2 kc_PT_isAtOrWithin) rfl rfl rfl (by decide +kernel) ⟨Nat.le_of_ble_eq_true rfl, Nat.le_of_ble_eq_true rfl⟩) ⟨z_bl, va_recv hKc hPc (ci := 0) (q0 := 0) rfl rfl, fun U hU hW => ⟨rfl, z_pre hN hKc hPc hDc U hU hW⟩⟩ rfl rfl hl.1 rfl (lv_room (Nat.le_of_ble_eq_true rfl)) d_PT_meet_28 ⟨Nat.zero_le _, Nat.zero_le _⟩) hD hS hA (fun H locs hP hD hS => ?_)
        refine lv_if_eq (tgt := 38) hx hb d_PT_meet_31 (by decide) (fun c4 => ?_) (fun c4 => ?_)
        · have hf := z_t c4 hf
          refine lv_iconst (v := (0 : Int32)) hx hb d_PT_meet_38 (by decide) ?_
          obtain rfl := Option.some.inj hf
          exact z_zret hx hb hr (by decide) hP hD hS d_PT_meet_39 hlocks
        · have hf := z_f c4 hf
          refine lv_iconst (v := (1 : Int32)) hx hb d_PT_meet_34 (by decide) ?_
          refine lv_goto (tgt := 39) hx hb d_PT_meet_35 (by decide) ?_
          obtain rfl := Option.some.inj hf
          exact z_zret hx hb hr (by decide) hP hD hS d_PT_meet_39 hlocks
set_option maxHeartbeats 4000000 in
set_option maxRecDepth 100000 in
theorem c_SB_isFull (l : Launch) (dC : Nat → ClassId) (dI : Nat → Nat → Nat) (N : Nat) (a : Nat → Nat) (k : Nat → ClassId) (ztargets : Nat → Int32) (zconfigurations : Nat → Int32) (zruns : Nat → Int32) (zopened : Nat → Int32) (zcount : Int32) {y : (Int32)} (hf : pf_SB_isFull N zcount = some y) (sz : Nat) : Met l y_SB_isFull ww_SB_isFull ({ frames := 0, cells := 0, slots := 0, locals := 0 }) (va_Pc [.ref (a 0)] (zB (dC, dI) zCl (t_SB k) (w_SB a k ztargets zconfigurations zruns zopened zcount) sz)) (zQi (dC, dI) zCl (w_SB a k ztargets zconfigurations zruns zopened zcount) sz y (w_SB a k ztargets zconfigurations zruns zopened zcount)) 0 0 (va_A (w_SB a k ztargets zconfigurations zruns zopened zcount) sz) := by
  refine Met.ofW (cc := b_SB_isFull) (maxL := 1) (ret := (some .boolean)) (by decide) rfl ?_
  intro p e s m args below meth c s₁ B hml hv
  obtain ⟨rfl, rfl, hP, hK, hD, hN⟩ := hv
  have hx := B.exec
  have hb := B.bytes
  have hr := B.returns
  have hts := atoms_spec (ws := ww_SB_isFull) B.pre
  have hown : s.vm.findClass R_SB = some m.cls := findClass_of_methodNamed B.named
  have hlocks := B.notSynchronized
  have hA : ∀ q : Nat, s.heap.size ≤ q → va_A (w_SB a k ztargets zconfigurations zruns zopened zcount) s.heap.size q := fun q h => Or.inr h
  refine z_start (lv := [(0, .ref (a 0))]) (Nat.le_of_ble_eq_true rfl) rfl hP hD (fun H locs ls hP hD hS hl => ?_)
  unfold pf_SB_isFull at hf
  refine lv_aload_n hx hb d_SB_isFull_0 rfl (lv_at hl 0 rfl) ?_
  refine va_get (D := (dC, dI)) (ci := 1) (v := .int zcount) (C := R_SB) (T := F_SB) (N := 5) hx hb hts (fun w h => List.mem_cons_of_mem _ (in_SB w h)) hown hK hP 0 rfl rfl 4 (by decide) (hts _ (List.mem_cons_of_mem _ k_1_41)) (fun _ h9 => h9) rfl d_SB_isFull_1 ?_
  refine lv_bipush (v := (nI 80)) hx hb d_SB_isFull_4 (by decide) ?_
  refine lv_icmp_lt (tgt := 13) hx hb d_SB_isFull_6 (by decide) (fun c1 => ?_) (fun c1 => ?_)
  · have hf := z_t c1 hf
    refine lv_iconst (v := (0 : Int32)) hx hb d_SB_isFull_13 (by decide) ?_
    obtain rfl := Option.some.inj hf
    exact z_zret hx hb hr (by decide) hP hD hS d_SB_isFull_14 hlocks
  · have hf := z_f c1 hf
    refine lv_iconst (v := (1 : Int32)) hx hb d_SB_isFull_9 (by decide) ?_
    refine lv_goto (tgt := 14) hx hb d_SB_isFull_10 (by decide) ?_
    obtain rfl := Option.some.inj hf
    exact z_zret hx hb hr (by decide) hP hD hS d_SB_isFull_14 hlocks
set_option maxHeartbeats 4000000 in
set_option maxRecDepth 100000 in
theorem c_SB_has (l : Launch) (dC : Nat → ClassId) (dI : Nat → Nat → Nat) (N : Nat) (a : Nat → Nat) (k : Nat → ClassId) (ztargets : Nat → Int32) (zconfigurations : Nat → Int32) (zruns : Nat → Int32) (zopened : Nat → Int32) (zcount : Int32) (p1 : Int32) {y : (Int32)} (hf : pf_SB_has N zcount p1 = some y) (sz : Nat) : Met l y_SB_has ww_SB_has ({ frames := 0, cells := 0, slots := 0, locals := 0 }) (va_Pc [.ref (a 0), .int p1] (zB (dC, dI) zCl (t_SB k) (w_SB a k ztargets zconfigurations zruns zopened zcount) sz)) (zQi (dC, dI) zCl (w_SB a k ztargets zconfigurations zruns zopened zcount) sz y (w_SB a k ztargets zconfigurations zruns zopened zcount)) 0 0 (va_A (w_SB a k ztargets zconfigurations zruns zopened zcount) sz) := by
  refine Met.ofW (cc := b_SB_has) (maxL := 2) (ret := (some .boolean)) (by decide) rfl ?_
  intro p e s m args below meth c s₁ B hml hv
  obtain ⟨rfl, rfl, hP, hK, hD, hN⟩ := hv
  have hx := B.exec
  have hb := B.bytes
  have hr := B.returns
  have hts := atoms_spec (ws := ww_SB_has) B.pre
  have hown : s.vm.findClass R_SB = some m.cls := findClass_of_methodNamed B.named
  have hlocks := B.notSynchronized
  have hA : ∀ q : Nat, s.heap.size ≤ q → va_A (w_SB a k ztargets zconfigurations zruns zopened zcount) s.heap.size q := fun q h => Or.inr h
  refine z_start (lv := [(0, .ref (a 0)), (1, .int p1)]) (Nat.le_of_ble_eq_true rfl) rfl hP hD (fun H locs ls hP hD hS hl => ?_)
  unfold pf_SB_has at hf
  refine lv_iload_n hx hb d_SB_has_0 rfl (lv_at hl 1 rfl) ?_
  refine lv_if_lt (tgt := 16) hx hb d_SB_has_1 (by decide) (fun c1 => ?_) (fun c1 => ?_)
  · have hf := z_t c1 hf
    refine lv_iconst (v := (0 : Int32)) hx hb d_SB_has_16 (by decide) ?_
    obtain rfl := Option.some.inj hf
    exact z_zret hx hb hr (by decide) hP hD hS d_SB_has_17 hlocks
  · have hf := z_f c1 hf
    refine lv_iload_n hx hb d_SB_has_4 rfl (lv_at hl 1 rfl) ?_
    refine lv_aload_n hx hb d_SB_has_5 rfl (lv_at hl 0 rfl) ?_
    refine va_get (D := (dC, dI)) (ci := 1) (v := .int zcount) (C := R_SB) (T := F_SB) (N := 5) hx hb hts (fun w h => List.mem_cons_of_mem _ (in_SB w h)) hown hK hP 0 rfl rfl 4 (by decide) (hts _ (List.mem_cons_of_mem _ k_1_41)) (fun _ h9 => h9) rfl d_SB_has_6 ?_
    refine lv_icmp_ge (tgt := 16) hx hb d_SB_has_9 (by decide) (fun c2 => ?_) (fun c2 => ?_)
    · have hf := z_t c2 hf
      refine lv_iconst (v := (0 : Int32)) hx hb d_SB_has_16 (by decide) ?_
      obtain rfl := Option.some.inj hf
      exact z_zret hx hb hr (by decide) hP hD hS d_SB_has_17 hlocks
    · have hf := z_f c2 hf
      refine lv_iconst (v := (1 : Int32)) hx hb d_SB_has_12 (by decide) ?_
      refine lv_goto (tgt := 17) hx hb d_SB_has_13 (by decide) ?_
      obtain rfl := Option.some.inj hf
      exact z_zret hx hb hr (by decide) hP hD hS d_SB_has_17 hlocks
set_option maxHeartbeats 4000000 in
set_option maxRecDepth 100000 in
theorem c_SB_isOpen (l : Launch) (dC : Nat → ClassId) (dI : Nat → Nat → Nat) (N : Nat) (a : Nat → Nat) (k : Nat → ClassId) (ztargets : Nat → Int32) (zconfigurations : Nat → Int32) (zruns : Nat → Int32) (zopened : Nat → Int32) (zcount : Int32) (p1 : Int32) {y : (Int32)} (hf : pf_SB_isOpen N zopened zcount p1 = some y) (sz : Nat) : Met l y_SB_isOpen ww_SB_isOpen ({ frames := 1, cells := 0, slots := 0, locals := 21 }) (va_Pc [.ref (a 0), .int p1] (zB (dC, dI) zCl (t_SB k) (w_SB a k ztargets zconfigurations zruns zopened zcount) sz)) (zQi (dC, dI) zCl (w_SB a k ztargets zconfigurations zruns zopened zcount) sz y (w_SB a k ztargets zconfigurations zruns zopened zcount)) 0 0 (va_A (w_SB a k ztargets zconfigurations zruns zopened zcount) sz) := by
  refine Met.ofW (cc := b_SB_isOpen) (maxL := 2) (ret := (some .boolean)) (by decide) rfl ?_
  intro p e s m args below meth c s₁ B hml hv
  obtain ⟨rfl, rfl, hP, hK, hD, hN⟩ := hv
  have hx := B.exec
  have hb := B.bytes
  have hr := B.returns
  have hts := atoms_spec (ws := ww_SB_isOpen) B.pre
  have hown : s.vm.findClass R_SB = some m.cls := findClass_of_methodNamed B.named
  have hlocks := B.notSynchronized
  have hA : ∀ q : Nat, s.heap.size ≤ q → va_A (w_SB a k ztargets zconfigurations zruns zopened zcount) s.heap.size q := fun q h => Or.inr h
  refine z_start (lv := [(0, .ref (a 0)), (1, .int p1)]) (Nat.le_of_ble_eq_true rfl) rfl hP hD (fun H locs ls hP hD hS hl => ?_)
  unfold pf_SB_isOpen at hf
  refine lv_aload_n hx hb d_SB_isOpen_0 rfl (lv_at hl 0 rfl) ?_
  refine lv_iload_n hx hb d_SB_isOpen_1 rfl (lv_at hl 1 rfl) ?_
  obtain ⟨u0, hu0, hf⟩ := z_b hf
  have hPc := hP
  have hDc := hD
  have hKc := hK
  refine z_cwi (va_runV (As := [.int p1]) (rest := []) ⟨hx, hb, hml, hown, hts⟩ (c_SB_has l dC dI N a k ztargets zconfigurations zruns zopened zcount p1 hu0 H.size) (cwV 1 hts (zGV zsub_c k_1_172 k_1_173 k_1_174 k_1_3 kc_SB_has) rfl rfl rfl (by decide +kernel) ⟨Nat.le_of_ble_eq_true rfl, Nat.le_of_ble_eq_true rfl⟩) ⟨z_bl, va_recv hKc hPc (ci := 1) (q0 := 0) rfl rfl, fun U hU hW => ⟨rfl, z_pre hN hKc hPc hDc U hU hW⟩⟩ rfl rfl hl.1 rfl (lv_room (Nat.le_of_ble_eq_true rfl)) d_SB_isOpen_2 ⟨Nat.zero_le _, Nat.zero_le _⟩) hD hS hA (fun H locs hP hD hS => ?_)
  refine lv_if_eq (tgt := 21) hx hb d_SB_isOpen_5 (by decide) (fun c1 => ?_) (fun c1 => ?_)
  · have hf := z_t c1 hf
    refine lv_iconst (v := (0 : Int32)) hx hb d_SB_isOpen_21 (by decide) ?_
    obtain rfl := Option.some.inj hf
    exact z_zret hx hb hr (by decide) hP hD hS d_SB_isOpen_22 hlocks
  · have hf := z_f c1 hf
    refine lv_aload_n hx hb d_SB_isOpen_8 rfl (lv_at hl 0 rfl) ?_
    refine va_get (D := (dC, dI)) (ci := 1) (v := .ref (a 4)) (C := R_SB) (T := F_SB) (N := 5) hx hb hts (fun w h => List.mem_cons_of_mem _ (in_SB w h)) hown hK hP 0 rfl rfl 3 (by decide) (hts _ (List.mem_cons_of_mem _ k_1_40)) (fun _ h9 => h9) rfl d_SB_isOpen_9 ?_
    refine lv_iload_n hx hb d_SB_isOpen_12 rfl (lv_at hl 1 rfl) ?_
    obtain ⟨g2, hf⟩ := z_gz hf
    refine va_zald hx hb hK hP 4 3 rfl rfl g2 d_SB_isOpen_13 ?_
    refine lv_if_eq (tgt := 21) hx hb d_SB_isOpen_14 (by decide) (fun c3 => ?_) (fun c3 => ?_)
    · have hf := z_t c3 hf
      refine lv_iconst (v := (0 : Int32)) hx hb d_SB_isOpen_21 (by decide) ?_
      obtain rfl := Option.some.inj hf
      exact z_zret hx hb hr (by decide) hP hD hS d_SB_isOpen_22 hlocks
    · have hf := z_f c3 hf
      refine lv_iconst (v := (1 : Int32)) hx hb d_SB_isOpen_17 (by decide) ?_
      refine lv_goto (tgt := 22) hx hb d_SB_isOpen_18 (by decide) ?_
      obtain rfl := Option.some.inj hf
      exact z_zret hx hb hr (by decide) hP hD hS d_SB_isOpen_22 hlocks
set_option maxHeartbeats 4000000 in
set_option maxRecDepth 100000 in
theorem c_SB_open (l : Launch) (dC : Nat → ClassId) (dI : Nat → Nat → Nat) (N : Nat) (a : Nat → Nat) (k : Nat → ClassId) (ztargets : Nat → Int32) (zconfigurations : Nat → Int32) (zruns : Nat → Int32) (zopened : Nat → Int32) (zcount : Int32) (p1 : Int32) (p2 : Int32) (p3 : Int32) {y : (Int32 × (Nat → Int32) × (Nat → Int32) × (Nat → Int32) × (Nat → Int32) × Int32)} (hf : pf_SB_open N ztargets zconfigurations zruns zopened zcount p1 p2 p3 = some y) (sz : Nat) : Met l y_SB_open ww_SB_open ({ frames := 1, cells := 0, slots := 0, locals := 20 }) (va_Pc [.ref (a 0), .int p1, .int p2, .int p3] (zB (dC, dI) zCl (t_SB k) (w_SB a k ztargets zconfigurations zruns zopened zcount) sz)) (zQi (dC, dI) zCl (w_SB a k ztargets zconfigurations zruns zopened zcount) sz y.1 (w_SB a k y.2.1 y.2.2.1 y.2.2.2.1 y.2.2.2.2.1 y.2.2.2.2.2)) 0 0 (va_A (w_SB a k ztargets zconfigurations zruns zopened zcount) sz) := by
  refine Met.ofW (cc := b_SB_open) (maxL := 4) (ret := (some .int)) (by decide) rfl ?_
  intro p e s m args below meth c s₁ B hml hv
  obtain ⟨rfl, rfl, hP, hK, hD, hN⟩ := hv
  have hx := B.exec
  have hb := B.bytes
  have hr := B.returns
  have hts := atoms_spec (ws := ww_SB_open) B.pre
  have hown : s.vm.findClass R_SB = some m.cls := findClass_of_methodNamed B.named
  have hlocks := B.notSynchronized
  have hA : ∀ q : Nat, s.heap.size ≤ q → va_A (w_SB a k ztargets zconfigurations zruns zopened zcount) s.heap.size q := fun q h => Or.inr h
  refine z_start (lv := [(0, .ref (a 0)), (1, .int p1), (2, .int p2), (3, .int p3)]) (Nat.le_of_ble_eq_true rfl) rfl hP hD (fun H locs ls hP hD hS hl => ?_)
  unfold pf_SB_open at hf
  refine lv_aload_n hx hb d_SB_open_0 rfl (lv_at hl 0 rfl) ?_
  obtain ⟨u0, hu0, hf⟩ := z_b hf
  have hPc := hP
  have hDc := hD
  have hKc := hK
  refine z_cwi (va_runV (As := []) (rest := []) ⟨hx, hb, hml, hown, hts⟩ (c_SB_isFull l dC dI N a k ztargets zconfigurations zruns zopened zcount hu0 H.size) (cwV 0 hts (zGV zsub_c k_1_180 k_1_161 k_1_162 k_1_3 kc_SB_isFull) rfl rfl rfl (by decide +kernel) ⟨Nat.le_of_ble_eq_true rfl, Nat.le_of_ble_eq_true rfl⟩) ⟨z_bl, va_recv hKc hPc (ci := 1) (q0 := 0) rfl rfl, fun U hU hW => ⟨rfl, z_pre hN hKc hPc hDc U hU hW⟩⟩ rfl rfl hl.1 rfl (lv_room (Nat.le_of_ble_eq_true rfl)) d_SB_open_1 ⟨Nat.zero_le _, Nat.zero_le _⟩) hD hS hA (fun H locs hP hD hS => ?_)
  refine lv_if_eq (tgt := 9) hx hb d_SB_open_4 (by decide) (fun c1 => ?_) (fun c1 => ?_)
  · have hf := z_t c1 hf
    refine lv_aload_n hx hb d_SB_open_9 rfl (lv_at hl 0 rfl) ?_
    refine va_get (D := (dC, dI)) (ci := 1) (v := .ref (a 1)) (C := R_SB) (T := F_SB) (N := 5) hx hb hts (fun w h => List.mem_cons_of_mem _ (in_SB w h)) hown hK hP 0 rfl rfl 0 (by decide) (hts _ (List.mem_cons_of_mem _ k_1_37)) (fun _ h9 => h9) rfl d_SB_open_10 ?_
    refine lv_aload_n hx hb d_SB_open_13 rfl (lv_at hl 0 rfl) ?_
    refine va_get (D := (dC, dI)) (ci := 1) (v := .int zcount) (C := R_SB) (T := F_SB) (N := 5) hx hb hts (fun w h => List.mem_cons_of_mem _ (in_SB w h)) hown hK hP 0 rfl rfl 4 (by decide) (hts _ (List.mem_cons_of_mem _ k_1_41)) (fun _ h9 => h9) rfl d_SB_open_14 ?_
    refine lv_iload_n hx hb d_SB_open_17 rfl (lv_at hl 1 rfl) ?_
    obtain ⟨g2, hf⟩ := z_gz hf
    refine va_iast hx hb hK hP hD hS 1 0 rfl rfl g2 d_SB_open_18 (fun H locs hP hD hS => ?_)
    have hP : va_P (dC, dI) zCl (w_SB a k (upd ztargets zcount.toNatClampNeg p1) zconfigurations zruns zopened zcount) H := hP
    have hD : va_D _ (w_SB a k (upd ztargets zcount.toNatClampNeg p1) zconfigurations zruns zopened zcount) := hD
    refine lv_aload_n hx hb d_SB_open_19 rfl (lv_at hl 0 rfl) ?_
    refine va_get (D := (dC, dI)) (ci := 1) (v := .ref (a 2)) (C := R_SB) (T := F_SB) (N := 5) hx hb hts (fun w h => List.mem_cons_of_mem _ (in_SB w h)) hown hK hP 0 rfl rfl 1 (by decide) (hts _ (List.mem_cons_of_mem _ k_1_38)) (fun _ h9 => h9) rfl d_SB_open_20 ?_
    refine lv_aload_n hx hb d_SB_open_23 rfl (lv_at hl 0 rfl) ?_
    refine va_get (D := (dC, dI)) (ci := 1) (v := .int zcount) (C := R_SB) (T := F_SB) (N := 5) hx hb hts (fun w h => List.mem_cons_of_mem _ (in_SB w h)) hown hK hP 0 rfl rfl 4 (by decide) (hts _ (List.mem_cons_of_mem _ k_1_41)) (fun _ h9 => h9) rfl d_SB_open_24 ?_
    refine lv_iload_n hx hb d_SB_open_27 rfl (lv_at hl 2 rfl) ?_
    obtain ⟨g3, hf⟩ := z_gz hf
    refine va_iast hx hb hK hP hD hS 2 1 rfl rfl g3 d_SB_open_28 (fun H locs hP hD hS => ?_)
    have hP : va_P (dC, dI) zCl (w_SB a k (upd ztargets zcount.toNatClampNeg p1) (upd zconfigurations zcount.toNatClampNeg p2) zruns zopened zcount) H := hP
    have hD : va_D _ (w_SB a k (upd ztargets zcount.toNatClampNeg p1) (upd zconfigurations zcount.toNatClampNeg p2) zruns zopened zcount) := hD
    refine lv_aload_n hx hb d_SB_open_29 rfl (lv_at hl 0 rfl) ?_
    refine va_get (D := (dC, dI)) (ci := 1) (v := .ref (a 3)) (C := R_SB) (T := F_SB) (N := 5) hx hb hts (fun w h => List.mem_cons_of_mem _ (in_SB w h)) hown hK hP 0 rfl rfl 2 (by decide) (hts _ (List.mem_cons_of_mem _ k_1_39)) (fun _ h9 => h9) rfl d_SB_open_30 ?_
    refine lv_aload_n hx hb d_SB_open_33 rfl (lv_at hl 0 rfl) ?_
    refine va_get (D := (dC, dI)) (ci := 1) (v := .int zcount) (C := R_SB) (T := F_SB) (N := 5) hx hb hts (fun w h => List.mem_cons_of_mem _ (in_SB w h)) hown hK hP 0 rfl rfl 4 (by decide) (hts _ (List.mem_cons_of_mem _ k_1_41)) (fun _ h9 => h9) rfl d_SB_open_34 ?_
    refine lv_iload_n hx hb d_SB_open_37 rfl (lv_at hl 3 rfl) ?_
    obtain ⟨g4, hf⟩ := z_gz hf
    refine va_iast hx hb hK hP hD hS 3 2 rfl rfl g4 d_SB_open_38 (fun H locs hP hD hS => ?_)
    have hP : va_P (dC, dI) zCl (w_SB a k (upd ztargets zcount.toNatClampNeg p1) (upd zconfigurations zcount.toNatClampNeg p2) (upd zruns zcount.toNatClampNeg p3) zopened zcount) H := hP
    have hD : va_D _ (w_SB a k (upd ztargets zcount.toNatClampNeg p1) (upd zconfigurations zcount.toNatClampNeg p2) (upd zruns zcount.toNatClampNeg p3) zopened zcount) := hD
    refine lv_aload_n hx hb d_SB_open_39 rfl (lv_at hl 0 rfl) ?_
    refine va_get (D := (dC, dI)) (ci := 1) (v := .ref (a 4)) (C := R_SB) (T := F_SB) (N := 5) hx hb hts (fun w h => List.mem_cons_of_mem _ (in_SB w h)) hown hK hP 0 rfl rfl 3 (by decide) (hts _ (List.mem_cons_of_mem _ k_1_40)) (fun _ h9 => h9) rfl d_SB_open_40 ?_
    refine lv_aload_n hx hb d_SB_open_43 rfl (lv_at hl 0 rfl) ?_
    refine va_get (D := (dC, dI)) (ci := 1) (v := .int zcount) (C := R_SB) (T := F_SB) (N := 5) hx hb hts (fun w h => List.mem_cons_of_mem _ (in_SB w h)) hown hK hP 0 rfl rfl 4 (by decide) (hts _ (List.mem_cons_of_mem _ k_1_41)) (fun _ h9 => h9) rfl d_SB_open_44 ?_
    refine lv_iconst (v := (1 : Int32)) hx hb d_SB_open_47 (by decide) ?_
    obtain ⟨g5, hf⟩ := z_gz hf
    refine va_zast hx hb hK hP hD hS 4 3 rfl rfl g5 d_SB_open_48 (fun H locs hP hD hS => ?_)
    have hP : va_P (dC, dI) zCl (w_SB a k (upd ztargets zcount.toNatClampNeg p1) (upd zconfigurations zcount.toNatClampNeg p2) (upd zruns zcount.toNatClampNeg p3) (upd zopened zcount.toNatClampNeg (vp_nar .boolean (1 : Int32))) zcount) H := hP
    have hD : va_D _ (w_SB a k (upd ztargets zcount.toNatClampNeg p1) (upd zconfigurations zcount.toNatClampNeg p2) (upd zruns zcount.toNatClampNeg p3) (upd zopened zcount.toNatClampNeg (vp_nar .boolean (1 : Int32))) zcount) := hD
    refine lv_aload_n hx hb d_SB_open_49 rfl (lv_at hl 0 rfl) ?_
    refine lv_dup hx hb d_SB_open_50 rfl ?_
    refine va_get (D := (dC, dI)) (ci := 1) (v := .int zcount) (C := R_SB) (T := F_SB) (N := 5) hx hb hts (fun w h => List.mem_cons_of_mem _ (in_SB w h)) hown hK hP 0 rfl rfl 4 (by decide) (hts _ (List.mem_cons_of_mem _ k_1_41)) (fun _ h9 => h9) rfl d_SB_open_51 ?_
    refine lv_iconst (v := (1 : Int32)) hx hb d_SB_open_54 (by decide) ?_
    refine lv_iadd hx hb d_SB_open_55 ?_
    refine va_put (D := (dC, dI)) (ci := 1) (v := .int (zcount + (1 : Int32))) (ty := .int) (C := R_SB) (T := F_SB) (N := 5) hx hb hts (fun w h => List.mem_cons_of_mem _ (in_SB w h)) ty_SB ty_SB_ok nm_SB hown hK hP hD hS 0 rfl rfl 4 (by decide) (hts _ (List.mem_cons_of_mem _ k_1_41)) (fun _ h9 => h9) rfl (by decide +kernel) rfl rfl (Nat.le_of_ble_eq_true rfl) d_SB_open_56 (fun H locs hP hD hS => ?_)
    have hP : va_P (dC, dI) zCl (w_SB a k (upd ztargets zcount.toNatClampNeg p1) (upd zconfigurations zcount.toNatClampNeg p2) (upd zruns zcount.toNatClampNeg p3) (upd zopened zcount.toNatClampNeg (vp_nar .boolean (1 : Int32))) (zcount + (1 : Int32))) H := hP
    have hD : va_D _ (w_SB a k (upd ztargets zcount.toNatClampNeg p1) (upd zconfigurations zcount.toNatClampNeg p2) (upd zruns zcount.toNatClampNeg p3) (upd zopened zcount.toNatClampNeg (vp_nar .boolean (1 : Int32))) (zcount + (1 : Int32))) := hD
    refine lv_aload_n hx hb d_SB_open_59 rfl (lv_at hl 0 rfl) ?_
    refine va_get (D := (dC, dI)) (ci := 1) (v := .int (zcount + (1 : Int32))) (C := R_SB) (T := F_SB) (N := 5) hx hb hts (fun w h => List.mem_cons_of_mem _ (in_SB w h)) hown hK hP 0 rfl rfl 4 (by decide) (hts _ (List.mem_cons_of_mem _ k_1_41)) (fun _ h9 => h9) rfl d_SB_open_60 ?_
    refine lv_iconst (v := (1 : Int32)) hx hb d_SB_open_63 (by decide) ?_
    refine lv_isub hx hb d_SB_open_64 ?_
    obtain rfl := Option.some.inj hf
    exact z_iret hx hb hr hP hD hS d_SB_open_65 hlocks
  · have hf := z_f c1 hf
    refine lv_iconst (v := (-1 : Int32)) hx hb d_SB_open_7 (by decide) ?_
    obtain rfl := Option.some.inj hf
    exact z_iret hx hb hr hP hD hS d_SB_open_8 hlocks
set_option maxHeartbeats 4000000 in
set_option maxRecDepth 100000 in
theorem c_SB_close (l : Launch) (dC : Nat → ClassId) (dI : Nat → Nat → Nat) (N : Nat) (a : Nat → Nat) (k : Nat → ClassId) (ztargets : Nat → Int32) (zconfigurations : Nat → Int32) (zruns : Nat → Int32) (zopened : Nat → Int32) (zcount : Int32) (p1 : Int32) {y : ((Nat → Int32))} (hf : pf_SB_close N zopened zcount p1 = some y) (sz : Nat) : Met l y_SB_close ww_SB_close ({ frames := 1, cells := 0, slots := 0, locals := 21 }) (va_Pc [.ref (a 0), .int p1] (zB (dC, dI) zCl (t_SB k) (w_SB a k ztargets zconfigurations zruns zopened zcount) sz)) (zQv (dC, dI) zCl (w_SB a k ztargets zconfigurations zruns zopened zcount) sz (w_SB a k ztargets zconfigurations zruns y zcount)) 0 0 (va_A (w_SB a k ztargets zconfigurations zruns zopened zcount) sz) := by
  refine Met.ofW (cc := b_SB_close) (maxL := 2) (ret := none) (by decide) rfl ?_
  intro p e s m args below meth c s₁ B hml hv
  obtain ⟨rfl, rfl, hP, hK, hD, hN⟩ := hv
  have hx := B.exec
  have hb := B.bytes
  have hr := B.returns
  have hts := atoms_spec (ws := ww_SB_close) B.pre
  have hown : s.vm.findClass R_SB = some m.cls := findClass_of_methodNamed B.named
  have hlocks := B.notSynchronized
  have hA : ∀ q : Nat, s.heap.size ≤ q → va_A (w_SB a k ztargets zconfigurations zruns zopened zcount) s.heap.size q := fun q h => Or.inr h
  refine z_start (lv := [(0, .ref (a 0)), (1, .int p1)]) (Nat.le_of_ble_eq_true rfl) rfl hP hD (fun H locs ls hP hD hS hl => ?_)
  unfold pf_SB_close at hf
  refine lv_aload_n hx hb d_SB_close_0 rfl (lv_at hl 0 rfl) ?_
  refine lv_iload_n hx hb d_SB_close_1 rfl (lv_at hl 1 rfl) ?_
  obtain ⟨u0, hu0, hf⟩ := z_b hf
  have hPc := hP
  have hDc := hD
  have hKc := hK
  refine z_cwi (va_runV (As := [.int p1]) (rest := []) ⟨hx, hb, hml, hown, hts⟩ (c_SB_has l dC dI N a k ztargets zconfigurations zruns zopened zcount p1 hu0 H.size) (cwV 1 hts (zGV zsub_c k_1_172 k_1_173 k_1_174 k_1_3 kc_SB_has) rfl rfl rfl (by decide +kernel) ⟨Nat.le_of_ble_eq_true rfl, Nat.le_of_ble_eq_true rfl⟩) ⟨z_bl, va_recv hKc hPc (ci := 1) (q0 := 0) rfl rfl, fun U hU hW => ⟨rfl, z_pre hN hKc hPc hDc U hU hW⟩⟩ rfl rfl hl.1 rfl (lv_room (Nat.le_of_ble_eq_true rfl)) d_SB_close_2 ⟨Nat.zero_le _, Nat.zero_le _⟩) hD hS hA (fun H locs hP hD hS => ?_)
  refine lv_if_eq (tgt := 15) hx hb d_SB_close_5 (by decide) (fun c1 => ?_) (fun c1 => ?_)
  · have hf := z_t c1 hf
    obtain rfl := Option.some.inj hf
    exact z_vret hx hb hr hP hD hS d_SB_close_15 hlocks
  · have hf := z_f c1 hf
    refine lv_aload_n hx hb d_SB_close_8 rfl (lv_at hl 0 rfl) ?_
    refine va_get (D := (dC, dI)) (ci := 1) (v := .ref (a 4)) (C := R_SB) (T := F_SB) (N := 5) hx hb hts (fun w h => List.mem_cons_of_mem _ (in_SB w h)) hown hK hP 0 rfl rfl 3 (by decide) (hts _ (List.mem_cons_of_mem _ k_1_40)) (fun _ h9 => h9) rfl d_SB_close_9 ?_
    refine lv_iload_n hx hb d_SB_close_12 rfl (lv_at hl 1 rfl) ?_
    refine lv_iconst (v := (0 : Int32)) hx hb d_SB_close_13 (by decide) ?_
    obtain ⟨g2, hf⟩ := z_gz hf
    refine va_zast hx hb hK hP hD hS 4 3 rfl rfl g2 d_SB_close_14 (fun H locs hP hD hS => ?_)
    have hP : va_P (dC, dI) zCl (w_SB a k ztargets zconfigurations zruns (upd zopened p1.toNatClampNeg (vp_nar .boolean (0 : Int32))) zcount) H := hP
    have hD : va_D _ (w_SB a k ztargets zconfigurations zruns (upd zopened p1.toNatClampNeg (vp_nar .boolean (0 : Int32))) zcount) := hD
    obtain rfl := Option.some.inj hf
    exact z_vret hx hb hr hP hD hS d_SB_close_15 hlocks
set_option maxHeartbeats 4000000 in
set_option maxRecDepth 100000 in
theorem c_SB_targetOf (l : Launch) (dC : Nat → ClassId) (dI : Nat → Nat → Nat) (N : Nat) (a : Nat → Nat) (k : Nat → ClassId) (ztargets : Nat → Int32) (zconfigurations : Nat → Int32) (zruns : Nat → Int32) (zopened : Nat → Int32) (zcount : Int32) (p1 : Int32) {y : (Int32)} (hf : pf_SB_targetOf N ztargets zcount p1 = some y) (sz : Nat) : Met l y_SB_targetOf ww_SB_targetOf ({ frames := 1, cells := 0, slots := 0, locals := 21 }) (va_Pc [.ref (a 0), .int p1] (zB (dC, dI) zCl (t_SB k) (w_SB a k ztargets zconfigurations zruns zopened zcount) sz)) (zQi (dC, dI) zCl (w_SB a k ztargets zconfigurations zruns zopened zcount) sz y (w_SB a k ztargets zconfigurations zruns zopened zcount)) 0 0 (va_A (w_SB a k ztargets zconfigurations zruns zopened zcount) sz) := by
  refine Met.ofW (cc := b_SB_targetOf) (maxL := 2) (ret := (some .int)) (by decide) rfl ?_
  intro p e s m args below meth c s₁ B hml hv
  obtain ⟨rfl, rfl, hP, hK, hD, hN⟩ := hv
  have hx := B.exec
  have hb := B.bytes
  have hr := B.returns
  have hts := atoms_spec (ws := ww_SB_targetOf) B.pre
  have hown : s.vm.findClass R_SB = some m.cls := findClass_of_methodNamed B.named
  have hlocks := B.notSynchronized
  have hA : ∀ q : Nat, s.heap.size ≤ q → va_A (w_SB a k ztargets zconfigurations zruns zopened zcount) s.heap.size q := fun q h => Or.inr h
  refine z_start (lv := [(0, .ref (a 0)), (1, .int p1)]) (Nat.le_of_ble_eq_true rfl) rfl hP hD (fun H locs ls hP hD hS hl => ?_)
  unfold pf_SB_targetOf at hf
  refine lv_aload_n hx hb d_SB_targetOf_0 rfl (lv_at hl 0 rfl) ?_
  refine lv_iload_n hx hb d_SB_targetOf_1 rfl (lv_at hl 1 rfl) ?_
  obtain ⟨u0, hu0, hf⟩ := z_b hf
  have hPc := hP
  have hDc := hD
  have hKc := hK
  refine z_cwi (va_runV (As := [.int p1]) (rest := []) ⟨hx, hb, hml, hown, hts⟩ (c_SB_has l dC dI N a k ztargets zconfigurations zruns zopened zcount p1 hu0 H.size) (cwV 1 hts (zGV zsub_c k_1_172 k_1_173 k_1_174 k_1_3 kc_SB_has) rfl rfl rfl (by decide +kernel) ⟨Nat.le_of_ble_eq_true rfl, Nat.le_of_ble_eq_true rfl⟩) ⟨z_bl, va_recv hKc hPc (ci := 1) (q0 := 0) rfl rfl, fun U hU hW => ⟨rfl, z_pre hN hKc hPc hDc U hU hW⟩⟩ rfl rfl hl.1 rfl (lv_room (Nat.le_of_ble_eq_true rfl)) d_SB_targetOf_2 ⟨Nat.zero_le _, Nat.zero_le _⟩) hD hS hA (fun H locs hP hD hS => ?_)
  refine lv_if_eq (tgt := 17) hx hb d_SB_targetOf_5 (by decide) (fun c1 => ?_) (fun c1 => ?_)
  · have hf := z_t c1 hf
    refine lv_iconst (v := (-1 : Int32)) hx hb d_SB_targetOf_17 (by decide) ?_
    obtain rfl := Option.some.inj hf
    exact z_iret hx hb hr hP hD hS d_SB_targetOf_18 hlocks
  · have hf := z_f c1 hf
    refine lv_aload_n hx hb d_SB_targetOf_8 rfl (lv_at hl 0 rfl) ?_
    refine va_get (D := (dC, dI)) (ci := 1) (v := .ref (a 1)) (C := R_SB) (T := F_SB) (N := 5) hx hb hts (fun w h => List.mem_cons_of_mem _ (in_SB w h)) hown hK hP 0 rfl rfl 0 (by decide) (hts _ (List.mem_cons_of_mem _ k_1_37)) (fun _ h9 => h9) rfl d_SB_targetOf_9 ?_
    refine lv_iload_n hx hb d_SB_targetOf_12 rfl (lv_at hl 1 rfl) ?_
    obtain ⟨g2, hf⟩ := z_gz hf
    refine va_iald hx hb hK hP 1 0 rfl rfl g2 d_SB_targetOf_13 ?_
    refine lv_goto (tgt := 18) hx hb d_SB_targetOf_14 (by decide) ?_
    obtain rfl := Option.some.inj hf
    exact z_iret hx hb hr hP hD hS d_SB_targetOf_18 hlocks
set_option maxHeartbeats 4000000 in
set_option maxRecDepth 100000 in
theorem c_SB_configurationOf (l : Launch) (dC : Nat → ClassId) (dI : Nat → Nat → Nat) (N : Nat) (a : Nat → Nat) (k : Nat → ClassId) (ztargets : Nat → Int32) (zconfigurations : Nat → Int32) (zruns : Nat → Int32) (zopened : Nat → Int32) (zcount : Int32) (p1 : Int32) {y : (Int32)} (hf : pf_SB_configurationOf N zconfigurations zcount p1 = some y) (sz : Nat) : Met l y_SB_configurationOf ww_SB_configurationOf ({ frames := 1, cells := 0, slots := 0, locals := 21 }) (va_Pc [.ref (a 0), .int p1] (zB (dC, dI) zCl (t_SB k) (w_SB a k ztargets zconfigurations zruns zopened zcount) sz)) (zQi (dC, dI) zCl (w_SB a k ztargets zconfigurations zruns zopened zcount) sz y (w_SB a k ztargets zconfigurations zruns zopened zcount)) 0 0 (va_A (w_SB a k ztargets zconfigurations zruns zopened zcount) sz) := by
  refine Met.ofW (cc := b_SB_configurationOf) (maxL := 2) (ret := (some .int)) (by decide) rfl ?_
  intro p e s m args below meth c s₁ B hml hv
  obtain ⟨rfl, rfl, hP, hK, hD, hN⟩ := hv
  have hx := B.exec
  have hb := B.bytes
  have hr := B.returns
  have hts := atoms_spec (ws := ww_SB_configurationOf) B.pre
  have hown : s.vm.findClass R_SB = some m.cls := findClass_of_methodNamed B.named
  have hlocks := B.notSynchronized
  have hA : ∀ q : Nat, s.heap.size ≤ q → va_A (w_SB a k ztargets zconfigurations zruns zopened zcount) s.heap.size q := fun q h => Or.inr h
  refine z_start (lv := [(0, .ref (a 0)), (1, .int p1)]) (Nat.le_of_ble_eq_true rfl) rfl hP hD (fun H locs ls hP hD hS hl => ?_)
  unfold pf_SB_configurationOf at hf
  refine lv_aload_n hx hb d_SB_configurationOf_0 rfl (lv_at hl 0 rfl) ?_
  refine lv_iload_n hx hb d_SB_configurationOf_1 rfl (lv_at hl 1 rfl) ?_
  obtain ⟨u0, hu0, hf⟩ := z_b hf
  have hPc := hP
  have hDc := hD
  have hKc := hK
  refine z_cwi (va_runV (As := [.int p1]) (rest := []) ⟨hx, hb, hml, hown, hts⟩ (c_SB_has l dC dI N a k ztargets zconfigurations zruns zopened zcount p1 hu0 H.size) (cwV 1 hts (zGV zsub_c k_1_172 k_1_173 k_1_174 k_1_3 kc_SB_has) rfl rfl rfl (by decide +kernel) ⟨Nat.le_of_ble_eq_true rfl, Nat.le_of_ble_eq_true rfl⟩) ⟨z_bl, va_recv hKc hPc (ci := 1) (q0 := 0) rfl rfl, fun U hU hW => ⟨rfl, z_pre hN hKc hPc hDc U hU hW⟩⟩ rfl rfl hl.1 rfl (lv_room (Nat.le_of_ble_eq_true rfl)) d_SB_configurationOf_2 ⟨Nat.zero_le _, Nat.zero_le _⟩) hD hS hA (fun H locs hP hD hS => ?_)
  refine lv_if_eq (tgt := 17) hx hb d_SB_configurationOf_5 (by decide) (fun c1 => ?_) (fun c1 => ?_)
  · have hf := z_t c1 hf
    refine lv_iconst (v := (-1 : Int32)) hx hb d_SB_configurationOf_17 (by decide) ?_
    obtain rfl := Option.some.inj hf
    exact z_iret hx hb hr hP hD hS d_SB_configurationOf_18 hlocks
  · have hf := z_f c1 hf
    refine lv_aload_n hx hb d_SB_configurationOf_8 rfl (lv_at hl 0 rfl) ?_
    refine va_get (D := (dC, dI)) (ci := 1) (v := .ref (a 2)) (C := R_SB) (T := F_SB) (N := 5) hx hb hts (fun w h => List.mem_cons_of_mem _ (in_SB w h)) hown hK hP 0 rfl rfl 1 (by decide) (hts _ (List.mem_cons_of_mem _ k_1_38)) (fun _ h9 => h9) rfl d_SB_configurationOf_9 ?_
    refine lv_iload_n hx hb d_SB_configurationOf_12 rfl (lv_at hl 1 rfl) ?_
    obtain ⟨g2, hf⟩ := z_gz hf
    refine va_iald hx hb hK hP 2 1 rfl rfl g2 d_SB_configurationOf_13 ?_
    refine lv_goto (tgt := 18) hx hb d_SB_configurationOf_14 (by decide) ?_
    obtain rfl := Option.some.inj hf
    exact z_iret hx hb hr hP hD hS d_SB_configurationOf_18 hlocks
set_option maxHeartbeats 4000000 in
set_option maxRecDepth 100000 in
theorem c_SB_runOf (l : Launch) (dC : Nat → ClassId) (dI : Nat → Nat → Nat) (N : Nat) (a : Nat → Nat) (k : Nat → ClassId) (ztargets : Nat → Int32) (zconfigurations : Nat → Int32) (zruns : Nat → Int32) (zopened : Nat → Int32) (zcount : Int32) (p1 : Int32) {y : (Int32)} (hf : pf_SB_runOf N zruns zcount p1 = some y) (sz : Nat) : Met l y_SB_runOf ww_SB_runOf ({ frames := 1, cells := 0, slots := 0, locals := 21 }) (va_Pc [.ref (a 0), .int p1] (zB (dC, dI) zCl (t_SB k) (w_SB a k ztargets zconfigurations zruns zopened zcount) sz)) (zQi (dC, dI) zCl (w_SB a k ztargets zconfigurations zruns zopened zcount) sz y (w_SB a k ztargets zconfigurations zruns zopened zcount)) 0 0 (va_A (w_SB a k ztargets zconfigurations zruns zopened zcount) sz) := by
  refine Met.ofW (cc := b_SB_runOf) (maxL := 2) (ret := (some .int)) (by decide) rfl ?_
  intro p e s m args below meth c s₁ B hml hv
  obtain ⟨rfl, rfl, hP, hK, hD, hN⟩ := hv
  have hx := B.exec
  have hb := B.bytes
  have hr := B.returns
  have hts := atoms_spec (ws := ww_SB_runOf) B.pre
  have hown : s.vm.findClass R_SB = some m.cls := findClass_of_methodNamed B.named
  have hlocks := B.notSynchronized
  have hA : ∀ q : Nat, s.heap.size ≤ q → va_A (w_SB a k ztargets zconfigurations zruns zopened zcount) s.heap.size q := fun q h => Or.inr h
  refine z_start (lv := [(0, .ref (a 0)), (1, .int p1)]) (Nat.le_of_ble_eq_true rfl) rfl hP hD (fun H locs ls hP hD hS hl => ?_)
  unfold pf_SB_runOf at hf
  refine lv_aload_n hx hb d_SB_runOf_0 rfl (lv_at hl 0 rfl) ?_
  refine lv_iload_n hx hb d_SB_runOf_1 rfl (lv_at hl 1 rfl) ?_
  obtain ⟨u0, hu0, hf⟩ := z_b hf
  have hPc := hP
  have hDc := hD
  have hKc := hK
  refine z_cwi (va_runV (As := [.int p1]) (rest := []) ⟨hx, hb, hml, hown, hts⟩ (c_SB_has l dC dI N a k ztargets zconfigurations zruns zopened zcount p1 hu0 H.size) (cwV 1 hts (zGV zsub_c k_1_172 k_1_173 k_1_174 k_1_3 kc_SB_has) rfl rfl rfl (by decide +kernel) ⟨Nat.le_of_ble_eq_true rfl, Nat.le_of_ble_eq_true rfl⟩) ⟨z_bl, va_recv hKc hPc (ci := 1) (q0 := 0) rfl rfl, fun U hU hW => ⟨rfl, z_pre hN hKc hPc hDc U hU hW⟩⟩ rfl rfl hl.1 rfl (lv_room (Nat.le_of_ble_eq_true rfl)) d_SB_runOf_2 ⟨Nat.zero_le _, Nat.zero_le _⟩) hD hS hA (fun H locs hP hD hS => ?_)
  refine lv_if_eq (tgt := 17) hx hb d_SB_runOf_5 (by decide) (fun c1 => ?_) (fun c1 => ?_)
  · have hf := z_t c1 hf
    refine lv_iconst (v := (-1 : Int32)) hx hb d_SB_runOf_17 (by decide) ?_
    obtain rfl := Option.some.inj hf
    exact z_iret hx hb hr hP hD hS d_SB_runOf_18 hlocks
  · have hf := z_f c1 hf
    refine lv_aload_n hx hb d_SB_runOf_8 rfl (lv_at hl 0 rfl) ?_
    refine va_get (D := (dC, dI)) (ci := 1) (v := .ref (a 3)) (C := R_SB) (T := F_SB) (N := 5) hx hb hts (fun w h => List.mem_cons_of_mem _ (in_SB w h)) hown hK hP 0 rfl rfl 2 (by decide) (hts _ (List.mem_cons_of_mem _ k_1_39)) (fun _ h9 => h9) rfl d_SB_runOf_9 ?_
    refine lv_iload_n hx hb d_SB_runOf_12 rfl (lv_at hl 1 rfl) ?_
    obtain ⟨g2, hf⟩ := z_gz hf
    refine va_iald hx hb hK hP 3 2 rfl rfl g2 d_SB_runOf_13 ?_
    refine lv_goto (tgt := 18) hx hb d_SB_runOf_14 (by decide) ?_
    obtain rfl := Option.some.inj hf
    exact z_iret hx hb hr hP hD hS d_SB_runOf_18 hlocks
set_option maxHeartbeats 4000000 in
set_option maxRecDepth 100000 in
theorem c_SB_hasOpenOne (l : Launch) (dC : Nat → ClassId) (dI : Nat → Nat → Nat) (N : Nat) (a : Nat → Nat) (k : Nat → ClassId) (ztargets : Nat → Int32) (zconfigurations : Nat → Int32) (zruns : Nat → Int32) (zopened : Nat → Int32) (zcount : Int32) (p1 : Int32) (p2 : Int32) {y : (Int32)} (hf : pf_SB_hasOpenOne N ztargets zconfigurations zopened zcount p1 p2 = some y) (sz : Nat) : Met l y_SB_hasOpenOne ww_SB_hasOpenOne ({ frames := 2, cells := 0, slots := 0, locals := 42 }) (va_Pc [.ref (a 0), .int p1, .int p2] (zB (dC, dI) zCl (t_SB k) (w_SB a k ztargets zconfigurations zruns zopened zcount) sz)) (zQi (dC, dI) zCl (w_SB a k ztargets zconfigurations zruns zopened zcount) sz y (w_SB a k ztargets zconfigurations zruns zopened zcount)) 0 0 (va_A (w_SB a k ztargets zconfigurations zruns zopened zcount) sz) := by
  refine Met.ofW (cc := b_SB_hasOpenOne) (maxL := 4) (ret := (some .boolean)) (by decide) rfl ?_
  intro p e s m args below meth c s₁ B hml hv
  obtain ⟨rfl, rfl, hP, hK, hD, hN⟩ := hv
  have hx := B.exec
  have hb := B.bytes
  have hr := B.returns
  have hts := atoms_spec (ws := ww_SB_hasOpenOne) B.pre
  have hown : s.vm.findClass R_SB = some m.cls := findClass_of_methodNamed B.named
  have hlocks := B.notSynchronized
  have hA : ∀ q : Nat, s.heap.size ≤ q → va_A (w_SB a k ztargets zconfigurations zruns zopened zcount) s.heap.size q := fun q h => Or.inr h
  refine z_start (lv := [(0, .ref (a 0)), (1, .int p1), (2, .int p2)]) (Nat.le_of_ble_eq_true rfl) rfl hP hD (fun H locs ls hP hD hS hl => ?_)
  unfold pf_SB_hasOpenOne at hf
  refine lv_iconst (v := (0 : Int32)) hx hb d_SB_hasOpenOne_0 (by decide) ?_
  refine lv_istore_n (lv' := [(3, .int (0 : Int32)), (0, .ref (a 0)), (1, .int p1), (2, .int p2)]) hx hb d_SB_hasOpenOne_1 rfl hl (by decide) rfl (fun ls hl => ?_)
  have loop2 : ∀ (n : Nat) (x3 : Int32), pf_SB_hasOpenOne_L2 N ztargets zconfigurations zopened zcount p1 p2 n x3 = some y → ∀ (H : Heap) (locs : List Loc) (ls : Array Slot), va_P (dC, dI) zCl (w_SB a k ztargets zconfigurations zruns zopened zcount) H → va_D (va_A (w_SB a k ztargets zconfigurations zruns zopened zcount) s.heap.size) (w_SB a k ztargets zconfigurations zruns zopened zcount) → va_S (va_A (w_SB a k ztargets zconfigurations zruns zopened zcount) s.heap.size) s.heap H locs → lv_has ls 4 [(0, .ref (a 0)), (1, .int p1), (2, .int p2), (3, .int x3)] → W p l e (headSpec ww_SB_hasOpenOne ({ frames := 2, cells := 0, slots := 0, locals := 42 })).room s m ([.ref (a 0), .int p1, .int p2] : List Value).toArray below meth c H locs 0 0 (MQ below (zQi (dC, dI) zCl (w_SB a k ztargets zconfigurations zruns zopened zcount) s.heap.size y (w_SB a k ztargets zconfigurations zruns zopened zcount)) ([.ref (a 0), .int p1, .int p2] : List Value).toArray s 0 0 (va_A (w_SB a k ztargets zconfigurations zruns zopened zcount) s.heap.size)) (F0 m 2 ls []) := by
    intro n2
    induction n2 with
    | zero => intro x3 hf; rw [pf_SB_hasOpenOne_L2.eq_1] at hf; cases hf
    | succ n2 ih2 =>
      intro x3 hf H locs ls hP hD hS hl
      rw [pf_SB_hasOpenOne_L2.eq_2] at hf
      refine lv_iload_n hx hb d_SB_hasOpenOne_2 rfl (lv_at hl 3 rfl) ?_
      refine lv_bipush (v := (nI 80)) hx hb d_SB_hasOpenOne_3 (by decide) ?_
      refine lv_icmp_ge (tgt := 44) hx hb d_SB_hasOpenOne_5 (by decide) (fun c1 => ?_) (fun c1 => ?_)
      · have hf := z_t c1 hf
        refine lv_iconst (v := (0 : Int32)) hx hb d_SB_hasOpenOne_44 (by decide) ?_
        obtain rfl := Option.some.inj hf
        exact z_zret hx hb hr (by decide) hP hD hS d_SB_hasOpenOne_45 hlocks
      · have hf := z_f c1 hf
        refine lv_aload_n hx hb d_SB_hasOpenOne_8 rfl (lv_at hl 0 rfl) ?_
        refine lv_iload_n hx hb d_SB_hasOpenOne_9 rfl (lv_at hl 3 rfl) ?_
        obtain ⟨u0, hu0, hf⟩ := z_b hf
        have hPc := hP
        have hDc := hD
        have hKc := hK
        refine z_cwi (va_runV (As := [.int x3]) (rest := []) ⟨hx, hb, hml, hown, hts⟩ (c_SB_isOpen l dC dI N a k ztargets zconfigurations zruns zopened zcount x3 hu0 H.size) (cwV 1 hts (zGV zsub_c k_1_168 k_1_169 k_1_170 k_1_3 kc_SB_isOpen) rfl rfl rfl (by decide +kernel) ⟨Nat.le_of_ble_eq_true rfl, Nat.le_of_ble_eq_true rfl⟩) ⟨z_bl, va_recv hKc hPc (ci := 1) (q0 := 0) rfl rfl, fun U hU hW => ⟨rfl, z_pre hN hKc hPc hDc U hU hW⟩⟩ rfl rfl hl.1 rfl (lv_room (Nat.le_of_ble_eq_true rfl)) d_SB_hasOpenOne_10 ⟨Nat.zero_le _, Nat.zero_le _⟩) hD hS hA (fun H locs hP hD hS => ?_)
        refine lv_if_eq (tgt := 38) hx hb d_SB_hasOpenOne_13 (by decide) (fun c2 => ?_) (fun c2 => ?_)
        · have hf := z_t c2 hf
          refine lv_iinc (v := (x3 + (1 : Int32))) (lv' := [(3, .int (x3 + (1 : Int32))), (0, .ref (a 0)), (1, .int p1), (2, .int p2)]) hx hb d_SB_hasOpenOne_38 hl (k := 3) rfl rfl (by decide) rfl (fun ls hl => ?_)
          refine lv_goto (tgt := 2) hx hb d_SB_hasOpenOne_41 (by decide) ?_
          exact ih2 (x3 + (1 : Int32)) hf H locs ls hP hD hS (lv_sub hl [1, 2, 3, 0] rfl)
        · have hf := z_f c2 hf
          refine lv_aload_n hx hb d_SB_hasOpenOne_16 rfl (lv_at hl 0 rfl) ?_
          refine va_get (D := (dC, dI)) (ci := 1) (v := .ref (a 1)) (C := R_SB) (T := F_SB) (N := 5) hx hb hts (fun w h => List.mem_cons_of_mem _ (in_SB w h)) hown hK hP 0 rfl rfl 0 (by decide) (hts _ (List.mem_cons_of_mem _ k_1_37)) (fun _ h9 => h9) rfl d_SB_hasOpenOne_17 ?_
          refine lv_iload_n hx hb d_SB_hasOpenOne_20 rfl (lv_at hl 3 rfl) ?_
          obtain ⟨g3, hf⟩ := z_gz hf
          refine va_iald hx hb hK hP 1 0 rfl rfl g3 d_SB_hasOpenOne_21 ?_
          refine lv_iload_n hx hb d_SB_hasOpenOne_22 rfl (lv_at hl 1 rfl) ?_
          refine lv_icmp_ne (tgt := 38) hx hb d_SB_hasOpenOne_23 (by decide) (fun c4 => ?_) (fun c4 => ?_)
          · have hf := z_t c4 hf
            refine lv_iinc (v := (x3 + (1 : Int32))) (lv' := [(3, .int (x3 + (1 : Int32))), (0, .ref (a 0)), (1, .int p1), (2, .int p2)]) hx hb d_SB_hasOpenOne_38 hl (k := 3) rfl rfl (by decide) rfl (fun ls hl => ?_)
            refine lv_goto (tgt := 2) hx hb d_SB_hasOpenOne_41 (by decide) ?_
            exact ih2 (x3 + (1 : Int32)) hf H locs ls hP hD hS (lv_sub hl [1, 2, 3, 0] rfl)
          · have hf := z_fn c4 hf
            refine lv_aload_n hx hb d_SB_hasOpenOne_26 rfl (lv_at hl 0 rfl) ?_
            refine va_get (D := (dC, dI)) (ci := 1) (v := .ref (a 2)) (C := R_SB) (T := F_SB) (N := 5) hx hb hts (fun w h => List.mem_cons_of_mem _ (in_SB w h)) hown hK hP 0 rfl rfl 1 (by decide) (hts _ (List.mem_cons_of_mem _ k_1_38)) (fun _ h9 => h9) rfl d_SB_hasOpenOne_27 ?_
            refine lv_iload_n hx hb d_SB_hasOpenOne_30 rfl (lv_at hl 3 rfl) ?_
            obtain ⟨g5, hf⟩ := z_gz hf
            refine va_iald hx hb hK hP 2 1 rfl rfl g5 d_SB_hasOpenOne_31 ?_
            refine lv_iload_n hx hb d_SB_hasOpenOne_32 rfl (lv_at hl 2 rfl) ?_
            refine lv_icmp_ne (tgt := 38) hx hb d_SB_hasOpenOne_33 (by decide) (fun c6 => ?_) (fun c6 => ?_)
            · have hf := z_t c6 hf
              refine lv_iinc (v := (x3 + (1 : Int32))) (lv' := [(3, .int (x3 + (1 : Int32))), (0, .ref (a 0)), (1, .int p1), (2, .int p2)]) hx hb d_SB_hasOpenOne_38 hl (k := 3) rfl rfl (by decide) rfl (fun ls hl => ?_)
              refine lv_goto (tgt := 2) hx hb d_SB_hasOpenOne_41 (by decide) ?_
              exact ih2 (x3 + (1 : Int32)) hf H locs ls hP hD hS (lv_sub hl [1, 2, 3, 0] rfl)
            · have hf := z_fn c6 hf
              refine lv_iconst (v := (1 : Int32)) hx hb d_SB_hasOpenOne_36 (by decide) ?_
              obtain rfl := Option.some.inj hf
              exact z_zret hx hb hr (by decide) hP hD hS d_SB_hasOpenOne_37 hlocks
  exact loop2 N (0 : Int32) hf H locs ls hP hD hS (lv_sub hl [1, 2, 3, 0] rfl)
set_option maxHeartbeats 4000000 in
set_option maxRecDepth 100000 in
theorem c_SB_hasOpenOneIn (l : Launch) (dC : Nat → ClassId) (dI : Nat → Nat → Nat) (N : Nat) (a : Nat → Nat) (k : Nat → ClassId) (ztargets : Nat → Int32) (zconfigurations : Nat → Int32) (zruns : Nat → Int32) (zopened : Nat → Int32) (zcount : Int32) (p1 : Int32) {y : (Int32)} (hf : pf_SB_hasOpenOneIn N zconfigurations zopened zcount p1 = some y) (sz : Nat) : Met l y_SB_hasOpenOneIn ww_SB_hasOpenOneIn ({ frames := 2, cells := 0, slots := 0, locals := 42 }) (va_Pc [.ref (a 0), .int p1] (zB (dC, dI) zCl (t_SB k) (w_SB a k ztargets zconfigurations zruns zopened zcount) sz)) (zQi (dC, dI) zCl (w_SB a k ztargets zconfigurations zruns zopened zcount) sz y (w_SB a k ztargets zconfigurations zruns zopened zcount)) 0 0 (va_A (w_SB a k ztargets zconfigurations zruns zopened zcount) sz) := by
  refine Met.ofW (cc := b_SB_hasOpenOneIn) (maxL := 3) (ret := (some .boolean)) (by decide) rfl ?_
  intro p e s m args below meth c s₁ B hml hv
  obtain ⟨rfl, rfl, hP, hK, hD, hN⟩ := hv
  have hx := B.exec
  have hb := B.bytes
  have hr := B.returns
  have hts := atoms_spec (ws := ww_SB_hasOpenOneIn) B.pre
  have hown : s.vm.findClass R_SB = some m.cls := findClass_of_methodNamed B.named
  have hlocks := B.notSynchronized
  have hA : ∀ q : Nat, s.heap.size ≤ q → va_A (w_SB a k ztargets zconfigurations zruns zopened zcount) s.heap.size q := fun q h => Or.inr h
  refine z_start (lv := [(0, .ref (a 0)), (1, .int p1)]) (Nat.le_of_ble_eq_true rfl) rfl hP hD (fun H locs ls hP hD hS hl => ?_)
  unfold pf_SB_hasOpenOneIn at hf
  refine lv_iconst (v := (0 : Int32)) hx hb d_SB_hasOpenOneIn_0 (by decide) ?_
  refine lv_istore_n (lv' := [(2, .int (0 : Int32)), (0, .ref (a 0)), (1, .int p1)]) hx hb d_SB_hasOpenOneIn_1 rfl hl (by decide) rfl (fun ls hl => ?_)
  have loop2 : ∀ (n : Nat) (x2 : Int32), pf_SB_hasOpenOneIn_L2 N zconfigurations zopened zcount p1 n x2 = some y → ∀ (H : Heap) (locs : List Loc) (ls : Array Slot), va_P (dC, dI) zCl (w_SB a k ztargets zconfigurations zruns zopened zcount) H → va_D (va_A (w_SB a k ztargets zconfigurations zruns zopened zcount) s.heap.size) (w_SB a k ztargets zconfigurations zruns zopened zcount) → va_S (va_A (w_SB a k ztargets zconfigurations zruns zopened zcount) s.heap.size) s.heap H locs → lv_has ls 3 [(0, .ref (a 0)), (1, .int p1), (2, .int x2)] → W p l e (headSpec ww_SB_hasOpenOneIn ({ frames := 2, cells := 0, slots := 0, locals := 42 })).room s m ([.ref (a 0), .int p1] : List Value).toArray below meth c H locs 0 0 (MQ below (zQi (dC, dI) zCl (w_SB a k ztargets zconfigurations zruns zopened zcount) s.heap.size y (w_SB a k ztargets zconfigurations zruns zopened zcount)) ([.ref (a 0), .int p1] : List Value).toArray s 0 0 (va_A (w_SB a k ztargets zconfigurations zruns zopened zcount) s.heap.size)) (F0 m 2 ls []) := by
    intro n2
    induction n2 with
    | zero => intro x2 hf; rw [pf_SB_hasOpenOneIn_L2.eq_1] at hf; cases hf
    | succ n2 ih2 =>
      intro x2 hf H locs ls hP hD hS hl
      rw [pf_SB_hasOpenOneIn_L2.eq_2] at hf
      refine lv_iload_n hx hb d_SB_hasOpenOneIn_2 rfl (lv_at hl 2 rfl) ?_
      refine lv_bipush (v := (nI 80)) hx hb d_SB_hasOpenOneIn_3 (by decide) ?_
      refine lv_icmp_ge (tgt := 34) hx hb d_SB_hasOpenOneIn_5 (by decide) (fun c1 => ?_) (fun c1 => ?_)
      · have hf := z_t c1 hf
        refine lv_iconst (v := (0 : Int32)) hx hb d_SB_hasOpenOneIn_34 (by decide) ?_
        obtain rfl := Option.some.inj hf
        exact z_zret hx hb hr (by decide) hP hD hS d_SB_hasOpenOneIn_35 hlocks
      · have hf := z_f c1 hf
        refine lv_aload_n hx hb d_SB_hasOpenOneIn_8 rfl (lv_at hl 0 rfl) ?_
        refine lv_iload_n hx hb d_SB_hasOpenOneIn_9 rfl (lv_at hl 2 rfl) ?_
        obtain ⟨u0, hu0, hf⟩ := z_b hf
        have hPc := hP
        have hDc := hD
        have hKc := hK
        refine z_cwi (va_runV (As := [.int x2]) (rest := []) ⟨hx, hb, hml, hown, hts⟩ (c_SB_isOpen l dC dI N a k ztargets zconfigurations zruns zopened zcount x2 hu0 H.size) (cwV 1 hts (zGV zsub_c k_1_168 k_1_169 k_1_170 k_1_3 kc_SB_isOpen) rfl rfl rfl (by decide +kernel) ⟨Nat.le_of_ble_eq_true rfl, Nat.le_of_ble_eq_true rfl⟩) ⟨z_bl, va_recv hKc hPc (ci := 1) (q0 := 0) rfl rfl, fun U hU hW => ⟨rfl, z_pre hN hKc hPc hDc U hU hW⟩⟩ rfl rfl hl.1 rfl (lv_room (Nat.le_of_ble_eq_true rfl)) d_SB_hasOpenOneIn_10 ⟨Nat.zero_le _, Nat.zero_le _⟩) hD hS hA (fun H locs hP hD hS => ?_)
        refine lv_if_eq (tgt := 28) hx hb d_SB_hasOpenOneIn_13 (by decide) (fun c2 => ?_) (fun c2 => ?_)
        · have hf := z_t c2 hf
          refine lv_iinc (v := (x2 + (1 : Int32))) (lv' := [(2, .int (x2 + (1 : Int32))), (0, .ref (a 0)), (1, .int p1)]) hx hb d_SB_hasOpenOneIn_28 hl (k := 2) rfl rfl (by decide) rfl (fun ls hl => ?_)
          refine lv_goto (tgt := 2) hx hb d_SB_hasOpenOneIn_31 (by decide) ?_
          exact ih2 (x2 + (1 : Int32)) hf H locs ls hP hD hS (lv_sub hl [1, 2, 0] rfl)
        · have hf := z_f c2 hf
          refine lv_aload_n hx hb d_SB_hasOpenOneIn_16 rfl (lv_at hl 0 rfl) ?_
          refine va_get (D := (dC, dI)) (ci := 1) (v := .ref (a 2)) (C := R_SB) (T := F_SB) (N := 5) hx hb hts (fun w h => List.mem_cons_of_mem _ (in_SB w h)) hown hK hP 0 rfl rfl 1 (by decide) (hts _ (List.mem_cons_of_mem _ k_1_38)) (fun _ h9 => h9) rfl d_SB_hasOpenOneIn_17 ?_
          refine lv_iload_n hx hb d_SB_hasOpenOneIn_20 rfl (lv_at hl 2 rfl) ?_
          obtain ⟨g3, hf⟩ := z_gz hf
          refine va_iald hx hb hK hP 2 1 rfl rfl g3 d_SB_hasOpenOneIn_21 ?_
          refine lv_iload_n hx hb d_SB_hasOpenOneIn_22 rfl (lv_at hl 1 rfl) ?_
          refine lv_icmp_ne (tgt := 28) hx hb d_SB_hasOpenOneIn_23 (by decide) (fun c4 => ?_) (fun c4 => ?_)
          · have hf := z_t c4 hf
            refine lv_iinc (v := (x2 + (1 : Int32))) (lv' := [(2, .int (x2 + (1 : Int32))), (0, .ref (a 0)), (1, .int p1)]) hx hb d_SB_hasOpenOneIn_28 hl (k := 2) rfl rfl (by decide) rfl (fun ls hl => ?_)
            refine lv_goto (tgt := 2) hx hb d_SB_hasOpenOneIn_31 (by decide) ?_
            exact ih2 (x2 + (1 : Int32)) hf H locs ls hP hD hS (lv_sub hl [1, 2, 0] rfl)
          · have hf := z_fn c4 hf
            refine lv_iconst (v := (1 : Int32)) hx hb d_SB_hasOpenOneIn_26 (by decide) ?_
            obtain rfl := Option.some.inj hf
            exact z_zret hx hb hr (by decide) hP hD hS d_SB_hasOpenOneIn_27 hlocks
  exact loop2 N (0 : Int32) hf H locs ls hP hD hS (lv_sub hl [1, 2, 0] rfl)
set_option maxHeartbeats 4000000 in
set_option maxRecDepth 100000 in
theorem c_LT_has (l : Launch) (dC : Nat → ClassId) (dI : Nat → Nat → Nat) (N : Nat) (a : Nat → Nat) (k : Nat → ClassId) (zcontents : Nat → Int64) (zmakers : Nat → Int32) (zexecutables : Nat → Int32) (zlazies : Nat → Int32) (p1 : Int32) {y : (Int32)} (hf : pf_LT_has N zcontents p1 = some y) (sz : Nat) : Met l y_LT_has ww_LT_has ({ frames := 0, cells := 0, slots := 0, locals := 0 }) (va_Pc [.ref (a 0), .int p1] (zB (dC, dI) zCl (t_LT k) (w_LT a k zcontents zmakers zexecutables zlazies) sz)) (zQi (dC, dI) zCl (w_LT a k zcontents zmakers zexecutables zlazies) sz y (w_LT a k zcontents zmakers zexecutables zlazies)) 0 0 (va_A (w_LT a k zcontents zmakers zexecutables zlazies) sz) := by
  refine Met.ofW (cc := b_LT_has) (maxL := 2) (ret := (some .boolean)) (by decide) rfl ?_
  intro p e s m args below meth c s₁ B hml hv
  obtain ⟨rfl, rfl, hP, hK, hD, hN⟩ := hv
  have hx := B.exec
  have hb := B.bytes
  have hr := B.returns
  have hts := atoms_spec (ws := ww_LT_has) B.pre
  have hown : s.vm.findClass R_LT = some m.cls := findClass_of_methodNamed B.named
  have hlocks := B.notSynchronized
  have hA : ∀ q : Nat, s.heap.size ≤ q → va_A (w_LT a k zcontents zmakers zexecutables zlazies) s.heap.size q := fun q h => Or.inr h
  refine z_start (lv := [(0, .ref (a 0)), (1, .int p1)]) (Nat.le_of_ble_eq_true rfl) rfl hP hD (fun H locs ls hP hD hS hl => ?_)
  unfold pf_LT_has at hf
  refine lv_iload_n hx hb d_LT_has_0 rfl (lv_at hl 1 rfl) ?_
  refine lv_if_lt (tgt := 26) hx hb d_LT_has_1 (by decide) (fun c1 => ?_) (fun c1 => ?_)
  · have hf := z_t c1 hf
    refine lv_iconst (v := (0 : Int32)) hx hb d_LT_has_26 (by decide) ?_
    obtain rfl := Option.some.inj hf
    exact z_zret hx hb hr (by decide) hP hD hS d_LT_has_27 hlocks
  · have hf := z_f c1 hf
    refine lv_iload_n hx hb d_LT_has_4 rfl (lv_at hl 1 rfl) ?_
    refine lv_sipush (v := (nI 160)) hx hb d_LT_has_5 (by decide) ?_
    refine lv_icmp_ge (tgt := 26) hx hb d_LT_has_8 (by decide) (fun c2 => ?_) (fun c2 => ?_)
    · have hf := z_t c2 hf
      refine lv_iconst (v := (0 : Int32)) hx hb d_LT_has_26 (by decide) ?_
      obtain rfl := Option.some.inj hf
      exact z_zret hx hb hr (by decide) hP hD hS d_LT_has_27 hlocks
    · have hf := z_f c2 hf
      refine lv_aload_n hx hb d_LT_has_11 rfl (lv_at hl 0 rfl) ?_
      refine va_get (D := (dC, dI)) (ci := 2) (v := .ref (a 1)) (C := R_LT) (T := F_LT) (N := 4) hx hb hts (fun w h => List.mem_cons_of_mem _ (in_LT w h)) hown hK hP 0 rfl rfl 0 (by decide) (hts _ (List.mem_cons_of_mem _ k_1_60)) (fun _ h9 => h9) rfl d_LT_has_12 ?_
      refine lv_iload_n hx hb d_LT_has_15 rfl (lv_at hl 1 rfl) ?_
      obtain ⟨g3, hf⟩ := z_gz hf
      refine va_lald hx hb hK hP 1 0 rfl rfl g3 d_LT_has_16 ?_
      refine lv_lconst (v := 0) hx hb d_LT_has_17 (by decide) ?_
      refine W.lcmp hx hb d_LT_has_18 ?_
      refine lv_if_eq (tgt := 26) hx hb d_LT_has_19 (by decide) (fun c4 => ?_) (fun c4 => ?_)
      · have hf := z_t c4 hf
        refine lv_iconst (v := (0 : Int32)) hx hb d_LT_has_26 (by decide) ?_
        obtain rfl := Option.some.inj hf
        exact z_zret hx hb hr (by decide) hP hD hS d_LT_has_27 hlocks
      · have hf := z_f c4 hf
        refine lv_iconst (v := (1 : Int32)) hx hb d_LT_has_22 (by decide) ?_
        refine lv_goto (tgt := 27) hx hb d_LT_has_23 (by decide) ?_
        obtain rfl := Option.some.inj hf
        exact z_zret hx hb hr (by decide) hP hD hS d_LT_has_27 hlocks
set_option maxHeartbeats 4000000 in
set_option maxRecDepth 100000 in
theorem c_LT_put (l : Launch) (dC : Nat → ClassId) (dI : Nat → Nat → Nat) (N : Nat) (a : Nat → Nat) (k : Nat → ClassId) (zcontents : Nat → Int64) (zmakers : Nat → Int32) (zexecutables : Nat → Int32) (zlazies : Nat → Int32) (p1 : Int32) (p2 : Int32) (p3 : Int64) (p5 : Int32) (p6 : Int32) {y : ((Nat → Int64) × (Nat → Int32) × (Nat → Int32) × (Nat → Int32))} (hf : pf_LT_put N zcontents zmakers zexecutables zlazies p1 p2 p3 p5 p6 = some y) (sz : Nat) : Met l y_LT_put ww_LT_put ({ frames := 0, cells := 0, slots := 0, locals := 0 }) (va_Pc [.ref (a 0), .int p1, .int p2, .long p3, .int p5, .int p6] (zB (dC, dI) zCl (t_LT k) (w_LT a k zcontents zmakers zexecutables zlazies) sz)) (zQv (dC, dI) zCl (w_LT a k zcontents zmakers zexecutables zlazies) sz (w_LT a k y.1 y.2.1 y.2.2.1 y.2.2.2)) 0 0 (va_A (w_LT a k zcontents zmakers zexecutables zlazies) sz) := by
  refine Met.ofW (cc := b_LT_put) (maxL := 7) (ret := none) (by decide) rfl ?_
  intro p e s m args below meth c s₁ B hml hv
  obtain ⟨rfl, rfl, hP, hK, hD, hN⟩ := hv
  have hx := B.exec
  have hb := B.bytes
  have hr := B.returns
  have hts := atoms_spec (ws := ww_LT_put) B.pre
  have hown : s.vm.findClass R_LT = some m.cls := findClass_of_methodNamed B.named
  have hlocks := B.notSynchronized
  have hA : ∀ q : Nat, s.heap.size ≤ q → va_A (w_LT a k zcontents zmakers zexecutables zlazies) s.heap.size q := fun q h => Or.inr h
  refine z_start (lv := [(0, .ref (a 0)), (1, .int p1), (2, .int p2), (3, .long p3), (5, .int p5), (6, .int p6)]) (Nat.le_of_ble_eq_true rfl) rfl hP hD (fun H locs ls hP hD hS hl => ?_)
  unfold pf_LT_put at hf
  refine lv_iload_n hx hb d_LT_put_0 rfl (lv_at hl 1 rfl) ?_
  refine lv_if_lt (tgt := 41) hx hb d_LT_put_1 (by decide) (fun c1 => ?_) (fun c1 => ?_)
  · have hf := z_t c1 hf
    obtain rfl := Option.some.inj hf
    exact z_vret hx hb hr hP hD hS d_LT_put_41 hlocks
  · have hf := z_f c1 hf
    refine lv_iload_n hx hb d_LT_put_4 rfl (lv_at hl 1 rfl) ?_
    refine lv_sipush (v := (nI 160)) hx hb d_LT_put_5 (by decide) ?_
    refine lv_icmp_ge (tgt := 41) hx hb d_LT_put_8 (by decide) (fun c2 => ?_) (fun c2 => ?_)
    · have hf := z_t c2 hf
      obtain rfl := Option.some.inj hf
      exact z_vret hx hb hr hP hD hS d_LT_put_41 hlocks
    · have hf := z_f c2 hf
      refine lv_aload_n hx hb d_LT_put_11 rfl (lv_at hl 0 rfl) ?_
      refine va_get (D := (dC, dI)) (ci := 2) (v := .ref (a 1)) (C := R_LT) (T := F_LT) (N := 4) hx hb hts (fun w h => List.mem_cons_of_mem _ (in_LT w h)) hown hK hP 0 rfl rfl 0 (by decide) (hts _ (List.mem_cons_of_mem _ k_1_60)) (fun _ h9 => h9) rfl d_LT_put_12 ?_
      refine lv_iload_n hx hb d_LT_put_15 rfl (lv_at hl 1 rfl) ?_
      refine lv_lload_n hx hb d_LT_put_16 rfl (lv_at hl 3 rfl) ?_
      obtain ⟨g3, hf⟩ := z_gz hf
      refine va_last hx hb hK hP hD hS 1 0 rfl rfl g3 d_LT_put_17 (fun H locs hP hD hS => ?_)
      have hP : va_P (dC, dI) zCl (w_LT a k (vp_updL zcontents p1.toNatClampNeg p3) zmakers zexecutables zlazies) H := hP
      have hD : va_D _ (w_LT a k (vp_updL zcontents p1.toNatClampNeg p3) zmakers zexecutables zlazies) := hD
      refine lv_aload_n hx hb d_LT_put_18 rfl (lv_at hl 0 rfl) ?_
      refine va_get (D := (dC, dI)) (ci := 2) (v := .ref (a 2)) (C := R_LT) (T := F_LT) (N := 4) hx hb hts (fun w h => List.mem_cons_of_mem _ (in_LT w h)) hown hK hP 0 rfl rfl 1 (by decide) (hts _ (List.mem_cons_of_mem _ k_1_61)) (fun _ h9 => h9) rfl d_LT_put_19 ?_
      refine lv_iload_n hx hb d_LT_put_22 rfl (lv_at hl 1 rfl) ?_
      refine lv_iload_n hx hb d_LT_put_23 rfl (lv_at hl 2 rfl) ?_
      obtain ⟨g4, hf⟩ := z_gz hf
      refine va_iast hx hb hK hP hD hS 2 1 rfl rfl g4 d_LT_put_24 (fun H locs hP hD hS => ?_)
      have hP : va_P (dC, dI) zCl (w_LT a k (vp_updL zcontents p1.toNatClampNeg p3) (upd zmakers p1.toNatClampNeg p2) zexecutables zlazies) H := hP
      have hD : va_D _ (w_LT a k (vp_updL zcontents p1.toNatClampNeg p3) (upd zmakers p1.toNatClampNeg p2) zexecutables zlazies) := hD
      refine lv_aload_n hx hb d_LT_put_25 rfl (lv_at hl 0 rfl) ?_
      refine va_get (D := (dC, dI)) (ci := 2) (v := .ref (a 3)) (C := R_LT) (T := F_LT) (N := 4) hx hb hts (fun w h => List.mem_cons_of_mem _ (in_LT w h)) hown hK hP 0 rfl rfl 2 (by decide) (hts _ (List.mem_cons_of_mem _ k_1_62)) (fun _ h9 => h9) rfl d_LT_put_26 ?_
      refine lv_iload_n hx hb d_LT_put_29 rfl (lv_at hl 1 rfl) ?_
      refine lv_iload hx hb d_LT_put_30 (lv_at hl 4 rfl) ?_
      obtain ⟨g5, hf⟩ := z_gz hf
      refine va_zast hx hb hK hP hD hS 3 2 rfl rfl g5 d_LT_put_32 (fun H locs hP hD hS => ?_)
      have hP : va_P (dC, dI) zCl (w_LT a k (vp_updL zcontents p1.toNatClampNeg p3) (upd zmakers p1.toNatClampNeg p2) (upd zexecutables p1.toNatClampNeg (vp_nar .boolean p5)) zlazies) H := hP
      have hD : va_D _ (w_LT a k (vp_updL zcontents p1.toNatClampNeg p3) (upd zmakers p1.toNatClampNeg p2) (upd zexecutables p1.toNatClampNeg (vp_nar .boolean p5)) zlazies) := hD
      refine lv_aload_n hx hb d_LT_put_33 rfl (lv_at hl 0 rfl) ?_
      refine va_get (D := (dC, dI)) (ci := 2) (v := .ref (a 4)) (C := R_LT) (T := F_LT) (N := 4) hx hb hts (fun w h => List.mem_cons_of_mem _ (in_LT w h)) hown hK hP 0 rfl rfl 3 (by decide) (hts _ (List.mem_cons_of_mem _ k_1_63)) (fun _ h9 => h9) rfl d_LT_put_34 ?_
      refine lv_iload_n hx hb d_LT_put_37 rfl (lv_at hl 1 rfl) ?_
      refine lv_iload hx hb d_LT_put_38 (lv_at hl 5 rfl) ?_
      obtain ⟨g6, hf⟩ := z_gz hf
      refine va_zast hx hb hK hP hD hS 4 3 rfl rfl g6 d_LT_put_40 (fun H locs hP hD hS => ?_)
      have hP : va_P (dC, dI) zCl (w_LT a k (vp_updL zcontents p1.toNatClampNeg p3) (upd zmakers p1.toNatClampNeg p2) (upd zexecutables p1.toNatClampNeg (vp_nar .boolean p5)) (upd zlazies p1.toNatClampNeg (vp_nar .boolean p6))) H := hP
      have hD : va_D _ (w_LT a k (vp_updL zcontents p1.toNatClampNeg p3) (upd zmakers p1.toNatClampNeg p2) (upd zexecutables p1.toNatClampNeg (vp_nar .boolean p5)) (upd zlazies p1.toNatClampNeg (vp_nar .boolean p6))) := hD
      obtain rfl := Option.some.inj hf
      exact z_vret hx hb hr hP hD hS d_LT_put_41 hlocks
set_option maxHeartbeats 4000000 in
set_option maxRecDepth 100000 in
theorem c_LT_drop (l : Launch) (dC : Nat → ClassId) (dI : Nat → Nat → Nat) (N : Nat) (a : Nat → Nat) (k : Nat → ClassId) (zcontents : Nat → Int64) (zmakers : Nat → Int32) (zexecutables : Nat → Int32) (zlazies : Nat → Int32) (p1 : Int32) {y : ((Nat → Int64))} (hf : pf_LT_drop N zcontents p1 = some y) (sz : Nat) : Met l y_LT_drop ww_LT_drop ({ frames := 1, cells := 0, slots := 0, locals := 21 }) (va_Pc [.ref (a 0), .int p1] (zB (dC, dI) zCl (t_LT k) (w_LT a k zcontents zmakers zexecutables zlazies) sz)) (zQv (dC, dI) zCl (w_LT a k zcontents zmakers zexecutables zlazies) sz (w_LT a k y zmakers zexecutables zlazies)) 0 0 (va_A (w_LT a k zcontents zmakers zexecutables zlazies) sz) := by
  refine Met.ofW (cc := b_LT_drop) (maxL := 2) (ret := none) (by decide) rfl ?_
  intro p e s m args below meth c s₁ B hml hv
  obtain ⟨rfl, rfl, hP, hK, hD, hN⟩ := hv
  have hx := B.exec
  have hb := B.bytes
  have hr := B.returns
  have hts := atoms_spec (ws := ww_LT_drop) B.pre
  have hown : s.vm.findClass R_LT = some m.cls := findClass_of_methodNamed B.named
  have hlocks := B.notSynchronized
  have hA : ∀ q : Nat, s.heap.size ≤ q → va_A (w_LT a k zcontents zmakers zexecutables zlazies) s.heap.size q := fun q h => Or.inr h
  refine z_start (lv := [(0, .ref (a 0)), (1, .int p1)]) (Nat.le_of_ble_eq_true rfl) rfl hP hD (fun H locs ls hP hD hS hl => ?_)
  unfold pf_LT_drop at hf
  refine lv_aload_n hx hb d_LT_drop_0 rfl (lv_at hl 0 rfl) ?_
  refine lv_iload_n hx hb d_LT_drop_1 rfl (lv_at hl 1 rfl) ?_
  obtain ⟨u0, hu0, hf⟩ := z_b hf
  have hPc := hP
  have hDc := hD
  have hKc := hK
  refine z_cwi (va_runV (As := [.int p1]) (rest := []) ⟨hx, hb, hml, hown, hts⟩ (c_LT_has l dC dI N a k zcontents zmakers zexecutables zlazies p1 hu0 H.size) (cwV 1 hts (zGV zsub_c k_1_199 k_1_200 k_1_201 k_1_4 kc_LT_has) rfl rfl rfl (by decide +kernel) ⟨Nat.le_of_ble_eq_true rfl, Nat.le_of_ble_eq_true rfl⟩) ⟨z_bl, va_recv hKc hPc (ci := 2) (q0 := 0) rfl rfl, fun U hU hW => ⟨rfl, z_pre hN hKc hPc hDc U hU hW⟩⟩ rfl rfl hl.1 rfl (lv_room (Nat.le_of_ble_eq_true rfl)) d_LT_drop_2 ⟨Nat.zero_le _, Nat.zero_le _⟩) hD hS hA (fun H locs hP hD hS => ?_)
  refine lv_if_eq (tgt := 15) hx hb d_LT_drop_5 (by decide) (fun c1 => ?_) (fun c1 => ?_)
  · have hf := z_t c1 hf
    obtain rfl := Option.some.inj hf
    exact z_vret hx hb hr hP hD hS d_LT_drop_15 hlocks
  · have hf := z_f c1 hf
    refine lv_aload_n hx hb d_LT_drop_8 rfl (lv_at hl 0 rfl) ?_
    refine va_get (D := (dC, dI)) (ci := 2) (v := .ref (a 1)) (C := R_LT) (T := F_LT) (N := 4) hx hb hts (fun w h => List.mem_cons_of_mem _ (in_LT w h)) hown hK hP 0 rfl rfl 0 (by decide) (hts _ (List.mem_cons_of_mem _ k_1_60)) (fun _ h9 => h9) rfl d_LT_drop_9 ?_
    refine lv_iload_n hx hb d_LT_drop_12 rfl (lv_at hl 1 rfl) ?_
    refine lv_lconst (v := 0) hx hb d_LT_drop_13 (by decide) ?_
    obtain ⟨g2, hf⟩ := z_gz hf
    refine va_last hx hb hK hP hD hS 1 0 rfl rfl g2 d_LT_drop_14 (fun H locs hP hD hS => ?_)
    have hP : va_P (dC, dI) zCl (w_LT a k (vp_updL zcontents p1.toNatClampNeg (0 : Int64)) zmakers zexecutables zlazies) H := hP
    have hD : va_D _ (w_LT a k (vp_updL zcontents p1.toNatClampNeg (0 : Int64)) zmakers zexecutables zlazies) := hD
    obtain rfl := Option.some.inj hf
    exact z_vret hx hb hr hP hD hS d_LT_drop_15 hlocks
set_option maxHeartbeats 4000000 in
set_option maxRecDepth 100000 in
theorem c_LT_makeThere (l : Launch) (dC : Nat → ClassId) (dI : Nat → Nat → Nat) (N : Nat) (a : Nat → Nat) (k : Nat → ClassId) (zcontents : Nat → Int64) (zmakers : Nat → Int32) (zexecutables : Nat → Int32) (zlazies : Nat → Int32) (p1 : Int32) {y : ((Nat → Int32))} (hf : pf_LT_makeThere N zcontents zlazies p1 = some y) (sz : Nat) : Met l y_LT_makeThere ww_LT_makeThere ({ frames := 1, cells := 0, slots := 0, locals := 21 }) (va_Pc [.ref (a 0), .int p1] (zB (dC, dI) zCl (t_LT k) (w_LT a k zcontents zmakers zexecutables zlazies) sz)) (zQv (dC, dI) zCl (w_LT a k zcontents zmakers zexecutables zlazies) sz (w_LT a k zcontents zmakers zexecutables y)) 0 0 (va_A (w_LT a k zcontents zmakers zexecutables zlazies) sz) := by
  refine Met.ofW (cc := b_LT_makeThere) (maxL := 2) (ret := none) (by decide) rfl ?_
  intro p e s m args below meth c s₁ B hml hv
  obtain ⟨rfl, rfl, hP, hK, hD, hN⟩ := hv
  have hx := B.exec
  have hb := B.bytes
  have hr := B.returns
  have hts := atoms_spec (ws := ww_LT_makeThere) B.pre
  have hown : s.vm.findClass R_LT = some m.cls := findClass_of_methodNamed B.named
  have hlocks := B.notSynchronized
  have hA : ∀ q : Nat, s.heap.size ≤ q → va_A (w_LT a k zcontents zmakers zexecutables zlazies) s.heap.size q := fun q h => Or.inr h
  refine z_start (lv := [(0, .ref (a 0)), (1, .int p1)]) (Nat.le_of_ble_eq_true rfl) rfl hP hD (fun H locs ls hP hD hS hl => ?_)
  unfold pf_LT_makeThere at hf
  refine lv_aload_n hx hb d_LT_makeThere_0 rfl (lv_at hl 0 rfl) ?_
  refine lv_iload_n hx hb d_LT_makeThere_1 rfl (lv_at hl 1 rfl) ?_
  obtain ⟨u0, hu0, hf⟩ := z_b hf
  have hPc := hP
  have hDc := hD
  have hKc := hK
  refine z_cwi (va_runV (As := [.int p1]) (rest := []) ⟨hx, hb, hml, hown, hts⟩ (c_LT_has l dC dI N a k zcontents zmakers zexecutables zlazies p1 hu0 H.size) (cwV 1 hts (zGV zsub_c k_1_199 k_1_200 k_1_201 k_1_4 kc_LT_has) rfl rfl rfl (by decide +kernel) ⟨Nat.le_of_ble_eq_true rfl, Nat.le_of_ble_eq_true rfl⟩) ⟨z_bl, va_recv hKc hPc (ci := 2) (q0 := 0) rfl rfl, fun U hU hW => ⟨rfl, z_pre hN hKc hPc hDc U hU hW⟩⟩ rfl rfl hl.1 rfl (lv_room (Nat.le_of_ble_eq_true rfl)) d_LT_makeThere_2 ⟨Nat.zero_le _, Nat.zero_le _⟩) hD hS hA (fun H locs hP hD hS => ?_)
  refine lv_if_eq (tgt := 15) hx hb d_LT_makeThere_5 (by decide) (fun c1 => ?_) (fun c1 => ?_)
  · have hf := z_t c1 hf
    obtain rfl := Option.some.inj hf
    exact z_vret hx hb hr hP hD hS d_LT_makeThere_15 hlocks
  · have hf := z_f c1 hf
    refine lv_aload_n hx hb d_LT_makeThere_8 rfl (lv_at hl 0 rfl) ?_
    refine va_get (D := (dC, dI)) (ci := 2) (v := .ref (a 4)) (C := R_LT) (T := F_LT) (N := 4) hx hb hts (fun w h => List.mem_cons_of_mem _ (in_LT w h)) hown hK hP 0 rfl rfl 3 (by decide) (hts _ (List.mem_cons_of_mem _ k_1_63)) (fun _ h9 => h9) rfl d_LT_makeThere_9 ?_
    refine lv_iload_n hx hb d_LT_makeThere_12 rfl (lv_at hl 1 rfl) ?_
    refine lv_iconst (v := (0 : Int32)) hx hb d_LT_makeThere_13 (by decide) ?_
    obtain ⟨g2, hf⟩ := z_gz hf
    refine va_zast hx hb hK hP hD hS 4 3 rfl rfl g2 d_LT_makeThere_14 (fun H locs hP hD hS => ?_)
    have hP : va_P (dC, dI) zCl (w_LT a k zcontents zmakers zexecutables (upd zlazies p1.toNatClampNeg (vp_nar .boolean (0 : Int32)))) H := hP
    have hD : va_D _ (w_LT a k zcontents zmakers zexecutables (upd zlazies p1.toNatClampNeg (vp_nar .boolean (0 : Int32)))) := hD
    obtain rfl := Option.some.inj hf
    exact z_vret hx hb hr hP hD hS d_LT_makeThere_15 hlocks
set_option maxHeartbeats 4000000 in
set_option maxRecDepth 100000 in
theorem c_LT_contentAt (l : Launch) (dC : Nat → ClassId) (dI : Nat → Nat → Nat) (N : Nat) (a : Nat → Nat) (k : Nat → ClassId) (zcontents : Nat → Int64) (zmakers : Nat → Int32) (zexecutables : Nat → Int32) (zlazies : Nat → Int32) (p1 : Int32) {y : (Int64)} (hf : pf_LT_contentAt N zcontents p1 = some y) (sz : Nat) : Met l y_LT_contentAt ww_LT_contentAt ({ frames := 1, cells := 0, slots := 0, locals := 21 }) (va_Pc [.ref (a 0), .int p1] (zB (dC, dI) zCl (t_LT k) (w_LT a k zcontents zmakers zexecutables zlazies) sz)) (zQl (dC, dI) zCl (w_LT a k zcontents zmakers zexecutables zlazies) sz y (w_LT a k zcontents zmakers zexecutables zlazies)) 0 0 (va_A (w_LT a k zcontents zmakers zexecutables zlazies) sz) := by
  refine Met.ofW (cc := b_LT_contentAt) (maxL := 2) (ret := (some .long)) (by decide) rfl ?_
  intro p e s m args below meth c s₁ B hml hv
  obtain ⟨rfl, rfl, hP, hK, hD, hN⟩ := hv
  have hx := B.exec
  have hb := B.bytes
  have hr := B.returns
  have hts := atoms_spec (ws := ww_LT_contentAt) B.pre
  have hown : s.vm.findClass R_LT = some m.cls := findClass_of_methodNamed B.named
  have hlocks := B.notSynchronized
  have hA : ∀ q : Nat, s.heap.size ≤ q → va_A (w_LT a k zcontents zmakers zexecutables zlazies) s.heap.size q := fun q h => Or.inr h
  refine z_start (lv := [(0, .ref (a 0)), (1, .int p1)]) (Nat.le_of_ble_eq_true rfl) rfl hP hD (fun H locs ls hP hD hS hl => ?_)
  unfold pf_LT_contentAt at hf
  refine lv_aload_n hx hb d_LT_contentAt_0 rfl (lv_at hl 0 rfl) ?_
  refine lv_iload_n hx hb d_LT_contentAt_1 rfl (lv_at hl 1 rfl) ?_
  obtain ⟨u0, hu0, hf⟩ := z_b hf
  have hPc := hP
  have hDc := hD
  have hKc := hK
  refine z_cwi (va_runV (As := [.int p1]) (rest := []) ⟨hx, hb, hml, hown, hts⟩ (c_LT_has l dC dI N a k zcontents zmakers zexecutables zlazies p1 hu0 H.size) (cwV 1 hts (zGV zsub_c k_1_199 k_1_200 k_1_201 k_1_4 kc_LT_has) rfl rfl rfl (by decide +kernel) ⟨Nat.le_of_ble_eq_true rfl, Nat.le_of_ble_eq_true rfl⟩) ⟨z_bl, va_recv hKc hPc (ci := 2) (q0 := 0) rfl rfl, fun U hU hW => ⟨rfl, z_pre hN hKc hPc hDc U hU hW⟩⟩ rfl rfl hl.1 rfl (lv_room (Nat.le_of_ble_eq_true rfl)) d_LT_contentAt_2 ⟨Nat.zero_le _, Nat.zero_le _⟩) hD hS hA (fun H locs hP hD hS => ?_)
  refine lv_if_eq (tgt := 17) hx hb d_LT_contentAt_5 (by decide) (fun c1 => ?_) (fun c1 => ?_)
  · have hf := z_t c1 hf
    refine lv_lconst (v := 0) hx hb d_LT_contentAt_17 (by decide) ?_
    obtain rfl := Option.some.inj hf
    exact z_lret hx hb hr hP hD hS d_LT_contentAt_18 hlocks
  · have hf := z_f c1 hf
    refine lv_aload_n hx hb d_LT_contentAt_8 rfl (lv_at hl 0 rfl) ?_
    refine va_get (D := (dC, dI)) (ci := 2) (v := .ref (a 1)) (C := R_LT) (T := F_LT) (N := 4) hx hb hts (fun w h => List.mem_cons_of_mem _ (in_LT w h)) hown hK hP 0 rfl rfl 0 (by decide) (hts _ (List.mem_cons_of_mem _ k_1_60)) (fun _ h9 => h9) rfl d_LT_contentAt_9 ?_
    refine lv_iload_n hx hb d_LT_contentAt_12 rfl (lv_at hl 1 rfl) ?_
    obtain ⟨g2, hf⟩ := z_gz hf
    refine va_lald hx hb hK hP 1 0 rfl rfl g2 d_LT_contentAt_13 ?_
    refine lv_goto (tgt := 18) hx hb d_LT_contentAt_14 (by decide) ?_
    obtain rfl := Option.some.inj hf
    exact z_lret hx hb hr hP hD hS d_LT_contentAt_18 hlocks
set_option maxHeartbeats 4000000 in
set_option maxRecDepth 100000 in
theorem c_LT_isLazy (l : Launch) (dC : Nat → ClassId) (dI : Nat → Nat → Nat) (N : Nat) (a : Nat → Nat) (k : Nat → ClassId) (zcontents : Nat → Int64) (zmakers : Nat → Int32) (zexecutables : Nat → Int32) (zlazies : Nat → Int32) (p1 : Int32) {y : (Int32)} (hf : pf_LT_isLazy N zcontents zlazies p1 = some y) (sz : Nat) : Met l y_LT_isLazy ww_LT_isLazy ({ frames := 1, cells := 0, slots := 0, locals := 21 }) (va_Pc [.ref (a 0), .int p1] (zB (dC, dI) zCl (t_LT k) (w_LT a k zcontents zmakers zexecutables zlazies) sz)) (zQi (dC, dI) zCl (w_LT a k zcontents zmakers zexecutables zlazies) sz y (w_LT a k zcontents zmakers zexecutables zlazies)) 0 0 (va_A (w_LT a k zcontents zmakers zexecutables zlazies) sz) := by
  refine Met.ofW (cc := b_LT_isLazy) (maxL := 2) (ret := (some .boolean)) (by decide) rfl ?_
  intro p e s m args below meth c s₁ B hml hv
  obtain ⟨rfl, rfl, hP, hK, hD, hN⟩ := hv
  have hx := B.exec
  have hb := B.bytes
  have hr := B.returns
  have hts := atoms_spec (ws := ww_LT_isLazy) B.pre
  have hown : s.vm.findClass R_LT = some m.cls := findClass_of_methodNamed B.named
  have hlocks := B.notSynchronized
  have hA : ∀ q : Nat, s.heap.size ≤ q → va_A (w_LT a k zcontents zmakers zexecutables zlazies) s.heap.size q := fun q h => Or.inr h
  refine z_start (lv := [(0, .ref (a 0)), (1, .int p1)]) (Nat.le_of_ble_eq_true rfl) rfl hP hD (fun H locs ls hP hD hS hl => ?_)
  unfold pf_LT_isLazy at hf
  refine lv_aload_n hx hb d_LT_isLazy_0 rfl (lv_at hl 0 rfl) ?_
  refine lv_iload_n hx hb d_LT_isLazy_1 rfl (lv_at hl 1 rfl) ?_
  obtain ⟨u0, hu0, hf⟩ := z_b hf
  have hPc := hP
  have hDc := hD
  have hKc := hK
  refine z_cwi (va_runV (As := [.int p1]) (rest := []) ⟨hx, hb, hml, hown, hts⟩ (c_LT_has l dC dI N a k zcontents zmakers zexecutables zlazies p1 hu0 H.size) (cwV 1 hts (zGV zsub_c k_1_199 k_1_200 k_1_201 k_1_4 kc_LT_has) rfl rfl rfl (by decide +kernel) ⟨Nat.le_of_ble_eq_true rfl, Nat.le_of_ble_eq_true rfl⟩) ⟨z_bl, va_recv hKc hPc (ci := 2) (q0 := 0) rfl rfl, fun U hU hW => ⟨rfl, z_pre hN hKc hPc hDc U hU hW⟩⟩ rfl rfl hl.1 rfl (lv_room (Nat.le_of_ble_eq_true rfl)) d_LT_isLazy_2 ⟨Nat.zero_le _, Nat.zero_le _⟩) hD hS hA (fun H locs hP hD hS => ?_)
  refine lv_if_eq (tgt := 21) hx hb d_LT_isLazy_5 (by decide) (fun c1 => ?_) (fun c1 => ?_)
  · have hf := z_t c1 hf
    refine lv_iconst (v := (0 : Int32)) hx hb d_LT_isLazy_21 (by decide) ?_
    obtain rfl := Option.some.inj hf
    exact z_zret hx hb hr (by decide) hP hD hS d_LT_isLazy_22 hlocks
  · have hf := z_f c1 hf
    refine lv_aload_n hx hb d_LT_isLazy_8 rfl (lv_at hl 0 rfl) ?_
    refine va_get (D := (dC, dI)) (ci := 2) (v := .ref (a 4)) (C := R_LT) (T := F_LT) (N := 4) hx hb hts (fun w h => List.mem_cons_of_mem _ (in_LT w h)) hown hK hP 0 rfl rfl 3 (by decide) (hts _ (List.mem_cons_of_mem _ k_1_63)) (fun _ h9 => h9) rfl d_LT_isLazy_9 ?_
    refine lv_iload_n hx hb d_LT_isLazy_12 rfl (lv_at hl 1 rfl) ?_
    obtain ⟨g2, hf⟩ := z_gz hf
    refine va_zald hx hb hK hP 4 3 rfl rfl g2 d_LT_isLazy_13 ?_
    refine lv_if_eq (tgt := 21) hx hb d_LT_isLazy_14 (by decide) (fun c3 => ?_) (fun c3 => ?_)
    · have hf := z_t c3 hf
      refine lv_iconst (v := (0 : Int32)) hx hb d_LT_isLazy_21 (by decide) ?_
      obtain rfl := Option.some.inj hf
      exact z_zret hx hb hr (by decide) hP hD hS d_LT_isLazy_22 hlocks
    · have hf := z_f c3 hf
      refine lv_iconst (v := (1 : Int32)) hx hb d_LT_isLazy_17 (by decide) ?_
      refine lv_goto (tgt := 22) hx hb d_LT_isLazy_18 (by decide) ?_
      obtain rfl := Option.some.inj hf
      exact z_zret hx hb hr (by decide) hP hD hS d_LT_isLazy_22 hlocks
set_option maxHeartbeats 4000000 in
set_option maxRecDepth 100000 in
theorem c_LT_storedIn (l : Launch) (dC : Nat → ClassId) (dI : Nat → Nat → Nat) (N : Nat) (a : Nat → Nat) (k : Nat → ClassId) (zcontents : Nat → Int64) (zmakers : Nat → Int32) (zexecutables : Nat → Int32) (zlazies : Nat → Int32) (p1 : Int32) {y : (Int64)} (hf : pf_LT_storedIn N zcontents zlazies p1 = some y) (sz : Nat) : Met l y_LT_storedIn ww_LT_storedIn ({ frames := 2, cells := 0, slots := 0, locals := 42 }) (va_Pc [.ref (a 0), .int p1] (zB (dC, dI) zCl (t_LT k) (w_LT a k zcontents zmakers zexecutables zlazies) sz)) (zQl (dC, dI) zCl (w_LT a k zcontents zmakers zexecutables zlazies) sz y (w_LT a k zcontents zmakers zexecutables zlazies)) 0 0 (va_A (w_LT a k zcontents zmakers zexecutables zlazies) sz) := by
  refine Met.ofW (cc := b_LT_storedIn) (maxL := 2) (ret := (some .long)) (by decide) rfl ?_
  intro p e s m args below meth c s₁ B hml hv
  obtain ⟨rfl, rfl, hP, hK, hD, hN⟩ := hv
  have hx := B.exec
  have hb := B.bytes
  have hr := B.returns
  have hts := atoms_spec (ws := ww_LT_storedIn) B.pre
  have hown : s.vm.findClass R_LT = some m.cls := findClass_of_methodNamed B.named
  have hlocks := B.notSynchronized
  have hA : ∀ q : Nat, s.heap.size ≤ q → va_A (w_LT a k zcontents zmakers zexecutables zlazies) s.heap.size q := fun q h => Or.inr h
  refine z_start (lv := [(0, .ref (a 0)), (1, .int p1)]) (Nat.le_of_ble_eq_true rfl) rfl hP hD (fun H locs ls hP hD hS hl => ?_)
  unfold pf_LT_storedIn at hf
  refine lv_aload_n hx hb d_LT_storedIn_0 rfl (lv_at hl 0 rfl) ?_
  refine lv_iload_n hx hb d_LT_storedIn_1 rfl (lv_at hl 1 rfl) ?_
  obtain ⟨u0, hu0, hf⟩ := z_b hf
  have hPc := hP
  have hDc := hD
  have hKc := hK
  refine z_cwi (va_runV (As := [.int p1]) (rest := []) ⟨hx, hb, hml, hown, hts⟩ (c_LT_isLazy l dC dI N a k zcontents zmakers zexecutables zlazies p1 hu0 H.size) (cwV 1 hts (zGV zsub_c k_2_148 k_2_28 k_2_29 k_1_4 kc_LT_isLazy) rfl rfl rfl (by decide +kernel) ⟨Nat.le_of_ble_eq_true rfl, Nat.le_of_ble_eq_true rfl⟩) ⟨z_bl, va_recv hKc hPc (ci := 2) (q0 := 0) rfl rfl, fun U hU hW => ⟨rfl, z_pre hN hKc hPc hDc U hU hW⟩⟩ rfl rfl hl.1 rfl (lv_room (Nat.le_of_ble_eq_true rfl)) d_LT_storedIn_2 ⟨Nat.zero_le _, Nat.zero_le _⟩) hD hS hA (fun H locs hP hD hS => ?_)
  refine lv_if_eq (tgt := 12) hx hb d_LT_storedIn_5 (by decide) (fun c1 => ?_) (fun c1 => ?_)
  · have hf := z_t c1 hf
    refine lv_aload_n hx hb d_LT_storedIn_12 rfl (lv_at hl 0 rfl) ?_
    refine lv_iload_n hx hb d_LT_storedIn_13 rfl (lv_at hl 1 rfl) ?_
    obtain ⟨u1, hu1, hf⟩ := z_b hf
    have hPc := hP
    have hDc := hD
    have hKc := hK
    refine z_cwl (va_runV (As := [.int p1]) (rest := []) ⟨hx, hb, hml, hown, hts⟩ (c_LT_contentAt l dC dI N a k zcontents zmakers zexecutables zlazies p1 hu1 H.size) (cwV 1 hts (zGV zsub_c k_2_149 k_2_20 k_2_21 k_1_4 kc_LT_contentAt) rfl rfl rfl (by decide +kernel) ⟨Nat.le_of_ble_eq_true rfl, Nat.le_of_ble_eq_true rfl⟩) ⟨z_bl, va_recv hKc hPc (ci := 2) (q0 := 0) rfl rfl, fun U hU hW => ⟨rfl, z_pre hN hKc hPc hDc U hU hW⟩⟩ rfl rfl hl.1 rfl (lv_room (Nat.le_of_ble_eq_true rfl)) d_LT_storedIn_14 ⟨Nat.zero_le _, Nat.zero_le _⟩) hD hS hA (fun H locs hP hD hS => ?_)
    obtain rfl := Option.some.inj hf
    exact z_lret hx hb hr hP hD hS d_LT_storedIn_17 hlocks
  · have hf := z_f c1 hf
    refine lv_lconst (v := 0) hx hb d_LT_storedIn_8 (by decide) ?_
    refine lv_goto (tgt := 17) hx hb d_LT_storedIn_9 (by decide) ?_
    obtain rfl := Option.some.inj hf
    exact z_lret hx hb hr hP hD hS d_LT_storedIn_17 hlocks
set_option maxHeartbeats 4000000 in
set_option maxRecDepth 100000 in
theorem c_LT_stepAt (l : Launch) (dC : Nat → ClassId) (dI : Nat → Nat → Nat) (N : Nat) (a : Nat → Nat) (k : Nat → ClassId) (zcontents : Nat → Int64) (zmakers : Nat → Int32) (zexecutables : Nat → Int32) (zlazies : Nat → Int32) (p1 : Int32) {y : (Int32)} (hf : pf_LT_stepAt N zcontents zmakers p1 = some y) (sz : Nat) : Met l y_LT_stepAt ww_LT_stepAt ({ frames := 1, cells := 0, slots := 0, locals := 21 }) (va_Pc [.ref (a 0), .int p1] (zB (dC, dI) zCl (t_LT k) (w_LT a k zcontents zmakers zexecutables zlazies) sz)) (zQi (dC, dI) zCl (w_LT a k zcontents zmakers zexecutables zlazies) sz y (w_LT a k zcontents zmakers zexecutables zlazies)) 0 0 (va_A (w_LT a k zcontents zmakers zexecutables zlazies) sz) := by
  refine Met.ofW (cc := b_LT_stepAt) (maxL := 2) (ret := (some .int)) (by decide) rfl ?_
  intro p e s m args below meth c s₁ B hml hv
  obtain ⟨rfl, rfl, hP, hK, hD, hN⟩ := hv
  have hx := B.exec
  have hb := B.bytes
  have hr := B.returns
  have hts := atoms_spec (ws := ww_LT_stepAt) B.pre
  have hown : s.vm.findClass R_LT = some m.cls := findClass_of_methodNamed B.named
  have hlocks := B.notSynchronized
  have hA : ∀ q : Nat, s.heap.size ≤ q → va_A (w_LT a k zcontents zmakers zexecutables zlazies) s.heap.size q := fun q h => Or.inr h
  refine z_start (lv := [(0, .ref (a 0)), (1, .int p1)]) (Nat.le_of_ble_eq_true rfl) rfl hP hD (fun H locs ls hP hD hS hl => ?_)
  unfold pf_LT_stepAt at hf
  refine lv_aload_n hx hb d_LT_stepAt_0 rfl (lv_at hl 0 rfl) ?_
  refine lv_iload_n hx hb d_LT_stepAt_1 rfl (lv_at hl 1 rfl) ?_
  obtain ⟨u0, hu0, hf⟩ := z_b hf
  have hPc := hP
  have hDc := hD
  have hKc := hK
  refine z_cwi (va_runV (As := [.int p1]) (rest := []) ⟨hx, hb, hml, hown, hts⟩ (c_LT_has l dC dI N a k zcontents zmakers zexecutables zlazies p1 hu0 H.size) (cwV 1 hts (zGV zsub_c k_1_199 k_1_200 k_1_201 k_1_4 kc_LT_has) rfl rfl rfl (by decide +kernel) ⟨Nat.le_of_ble_eq_true rfl, Nat.le_of_ble_eq_true rfl⟩) ⟨z_bl, va_recv hKc hPc (ci := 2) (q0 := 0) rfl rfl, fun U hU hW => ⟨rfl, z_pre hN hKc hPc hDc U hU hW⟩⟩ rfl rfl hl.1 rfl (lv_room (Nat.le_of_ble_eq_true rfl)) d_LT_stepAt_2 ⟨Nat.zero_le _, Nat.zero_le _⟩) hD hS hA (fun H locs hP hD hS => ?_)
  refine lv_if_eq (tgt := 17) hx hb d_LT_stepAt_5 (by decide) (fun c1 => ?_) (fun c1 => ?_)
  · have hf := z_t c1 hf
    refine lv_iconst (v := (-1 : Int32)) hx hb d_LT_stepAt_17 (by decide) ?_
    obtain rfl := Option.some.inj hf
    exact z_iret hx hb hr hP hD hS d_LT_stepAt_18 hlocks
  · have hf := z_f c1 hf
    refine lv_aload_n hx hb d_LT_stepAt_8 rfl (lv_at hl 0 rfl) ?_
    refine va_get (D := (dC, dI)) (ci := 2) (v := .ref (a 2)) (C := R_LT) (T := F_LT) (N := 4) hx hb hts (fun w h => List.mem_cons_of_mem _ (in_LT w h)) hown hK hP 0 rfl rfl 1 (by decide) (hts _ (List.mem_cons_of_mem _ k_1_61)) (fun _ h9 => h9) rfl d_LT_stepAt_9 ?_
    refine lv_iload_n hx hb d_LT_stepAt_12 rfl (lv_at hl 1 rfl) ?_
    obtain ⟨g2, hf⟩ := z_gz hf
    refine va_iald hx hb hK hP 2 1 rfl rfl g2 d_LT_stepAt_13 ?_
    refine lv_goto (tgt := 18) hx hb d_LT_stepAt_14 (by decide) ?_
    obtain rfl := Option.some.inj hf
    exact z_iret hx hb hr hP hD hS d_LT_stepAt_18 hlocks
set_option maxHeartbeats 4000000 in
set_option maxRecDepth 100000 in
theorem c_LT_isOfStep (l : Launch) (dC : Nat → ClassId) (dI : Nat → Nat → Nat) (N : Nat) (a : Nat → Nat) (k : Nat → ClassId) (zcontents : Nat → Int64) (zmakers : Nat → Int32) (zexecutables : Nat → Int32) (zlazies : Nat → Int32) (p1 : Int32) (p2 : Int32) {y : (Int32)} (hf : pf_LT_isOfStep N zcontents zmakers p1 p2 = some y) (sz : Nat) : Met l y_LT_isOfStep ww_LT_isOfStep ({ frames := 1, cells := 0, slots := 0, locals := 21 }) (va_Pc [.ref (a 0), .int p1, .int p2] (zB (dC, dI) zCl (t_LT k) (w_LT a k zcontents zmakers zexecutables zlazies) sz)) (zQi (dC, dI) zCl (w_LT a k zcontents zmakers zexecutables zlazies) sz y (w_LT a k zcontents zmakers zexecutables zlazies)) 0 0 (va_A (w_LT a k zcontents zmakers zexecutables zlazies) sz) := by
  refine Met.ofW (cc := b_LT_isOfStep) (maxL := 3) (ret := (some .boolean)) (by decide) rfl ?_
  intro p e s m args below meth c s₁ B hml hv
  obtain ⟨rfl, rfl, hP, hK, hD, hN⟩ := hv
  have hx := B.exec
  have hb := B.bytes
  have hr := B.returns
  have hts := atoms_spec (ws := ww_LT_isOfStep) B.pre
  have hown : s.vm.findClass R_LT = some m.cls := findClass_of_methodNamed B.named
  have hlocks := B.notSynchronized
  have hA : ∀ q : Nat, s.heap.size ≤ q → va_A (w_LT a k zcontents zmakers zexecutables zlazies) s.heap.size q := fun q h => Or.inr h
  refine z_start (lv := [(0, .ref (a 0)), (1, .int p1), (2, .int p2)]) (Nat.le_of_ble_eq_true rfl) rfl hP hD (fun H locs ls hP hD hS hl => ?_)
  unfold pf_LT_isOfStep at hf
  refine lv_aload_n hx hb d_LT_isOfStep_0 rfl (lv_at hl 0 rfl) ?_
  refine lv_iload_n hx hb d_LT_isOfStep_1 rfl (lv_at hl 1 rfl) ?_
  obtain ⟨u0, hu0, hf⟩ := z_b hf
  have hPc := hP
  have hDc := hD
  have hKc := hK
  refine z_cwi (va_runV (As := [.int p1]) (rest := []) ⟨hx, hb, hml, hown, hts⟩ (c_LT_has l dC dI N a k zcontents zmakers zexecutables zlazies p1 hu0 H.size) (cwV 1 hts (zGV zsub_c k_1_199 k_1_200 k_1_201 k_1_4 kc_LT_has) rfl rfl rfl (by decide +kernel) ⟨Nat.le_of_ble_eq_true rfl, Nat.le_of_ble_eq_true rfl⟩) ⟨z_bl, va_recv hKc hPc (ci := 2) (q0 := 0) rfl rfl, fun U hU hW => ⟨rfl, z_pre hN hKc hPc hDc U hU hW⟩⟩ rfl rfl hl.1 rfl (lv_room (Nat.le_of_ble_eq_true rfl)) d_LT_isOfStep_2 ⟨Nat.zero_le _, Nat.zero_le _⟩) hD hS hA (fun H locs hP hD hS => ?_)
  refine lv_if_eq (tgt := 22) hx hb d_LT_isOfStep_5 (by decide) (fun c1 => ?_) (fun c1 => ?_)
  · have hf := z_t c1 hf
    refine lv_iconst (v := (0 : Int32)) hx hb d_LT_isOfStep_22 (by decide) ?_
    obtain rfl := Option.some.inj hf
    exact z_zret hx hb hr (by decide) hP hD hS d_LT_isOfStep_23 hlocks
  · have hf := z_f c1 hf
    refine lv_aload_n hx hb d_LT_isOfStep_8 rfl (lv_at hl 0 rfl) ?_
    refine va_get (D := (dC, dI)) (ci := 2) (v := .ref (a 2)) (C := R_LT) (T := F_LT) (N := 4) hx hb hts (fun w h => List.mem_cons_of_mem _ (in_LT w h)) hown hK hP 0 rfl rfl 1 (by decide) (hts _ (List.mem_cons_of_mem _ k_1_61)) (fun _ h9 => h9) rfl d_LT_isOfStep_9 ?_
    refine lv_iload_n hx hb d_LT_isOfStep_12 rfl (lv_at hl 1 rfl) ?_
    obtain ⟨g2, hf⟩ := z_gz hf
    refine va_iald hx hb hK hP 2 1 rfl rfl g2 d_LT_isOfStep_13 ?_
    refine lv_iload_n hx hb d_LT_isOfStep_14 rfl (lv_at hl 2 rfl) ?_
    refine lv_icmp_ne (tgt := 22) hx hb d_LT_isOfStep_15 (by decide) (fun c3 => ?_) (fun c3 => ?_)
    · have hf := z_t c3 hf
      refine lv_iconst (v := (0 : Int32)) hx hb d_LT_isOfStep_22 (by decide) ?_
      obtain rfl := Option.some.inj hf
      exact z_zret hx hb hr (by decide) hP hD hS d_LT_isOfStep_23 hlocks
    · have hf := z_fn c3 hf
      refine lv_iconst (v := (1 : Int32)) hx hb d_LT_isOfStep_18 (by decide) ?_
      refine lv_goto (tgt := 23) hx hb d_LT_isOfStep_19 (by decide) ?_
      obtain rfl := Option.some.inj hf
      exact z_zret hx hb hr (by decide) hP hD hS d_LT_isOfStep_23 hlocks
set_option maxHeartbeats 4000000 in
set_option maxRecDepth 100000 in
theorem c_LT_isExecutable (l : Launch) (dC : Nat → ClassId) (dI : Nat → Nat → Nat) (N : Nat) (a : Nat → Nat) (k : Nat → ClassId) (zcontents : Nat → Int64) (zmakers : Nat → Int32) (zexecutables : Nat → Int32) (zlazies : Nat → Int32) (p1 : Int32) {y : (Int32)} (hf : pf_LT_isExecutable N zcontents zexecutables p1 = some y) (sz : Nat) : Met l y_LT_isExecutable ww_LT_isExecutable ({ frames := 1, cells := 0, slots := 0, locals := 21 }) (va_Pc [.ref (a 0), .int p1] (zB (dC, dI) zCl (t_LT k) (w_LT a k zcontents zmakers zexecutables zlazies) sz)) (zQi (dC, dI) zCl (w_LT a k zcontents zmakers zexecutables zlazies) sz y (w_LT a k zcontents zmakers zexecutables zlazies)) 0 0 (va_A (w_LT a k zcontents zmakers zexecutables zlazies) sz) := by
  refine Met.ofW (cc := b_LT_isExecutable) (maxL := 2) (ret := (some .boolean)) (by decide) rfl ?_
  intro p e s m args below meth c s₁ B hml hv
  obtain ⟨rfl, rfl, hP, hK, hD, hN⟩ := hv
  have hx := B.exec
  have hb := B.bytes
  have hr := B.returns
  have hts := atoms_spec (ws := ww_LT_isExecutable) B.pre
  have hown : s.vm.findClass R_LT = some m.cls := findClass_of_methodNamed B.named
  have hlocks := B.notSynchronized
  have hA : ∀ q : Nat, s.heap.size ≤ q → va_A (w_LT a k zcontents zmakers zexecutables zlazies) s.heap.size q := fun q h => Or.inr h
  refine z_start (lv := [(0, .ref (a 0)), (1, .int p1)]) (Nat.le_of_ble_eq_true rfl) rfl hP hD (fun H locs ls hP hD hS hl => ?_)
  unfold pf_LT_isExecutable at hf
  refine lv_aload_n hx hb d_LT_isExecutable_0 rfl (lv_at hl 0 rfl) ?_
  refine lv_iload_n hx hb d_LT_isExecutable_1 rfl (lv_at hl 1 rfl) ?_
  obtain ⟨u0, hu0, hf⟩ := z_b hf
  have hPc := hP
  have hDc := hD
  have hKc := hK
  refine z_cwi (va_runV (As := [.int p1]) (rest := []) ⟨hx, hb, hml, hown, hts⟩ (c_LT_has l dC dI N a k zcontents zmakers zexecutables zlazies p1 hu0 H.size) (cwV 1 hts (zGV zsub_c k_1_199 k_1_200 k_1_201 k_1_4 kc_LT_has) rfl rfl rfl (by decide +kernel) ⟨Nat.le_of_ble_eq_true rfl, Nat.le_of_ble_eq_true rfl⟩) ⟨z_bl, va_recv hKc hPc (ci := 2) (q0 := 0) rfl rfl, fun U hU hW => ⟨rfl, z_pre hN hKc hPc hDc U hU hW⟩⟩ rfl rfl hl.1 rfl (lv_room (Nat.le_of_ble_eq_true rfl)) d_LT_isExecutable_2 ⟨Nat.zero_le _, Nat.zero_le _⟩) hD hS hA (fun H locs hP hD hS => ?_)
  refine lv_if_eq (tgt := 21) hx hb d_LT_isExecutable_5 (by decide) (fun c1 => ?_) (fun c1 => ?_)
  · have hf := z_t c1 hf
    refine lv_iconst (v := (0 : Int32)) hx hb d_LT_isExecutable_21 (by decide) ?_
    obtain rfl := Option.some.inj hf
    exact z_zret hx hb hr (by decide) hP hD hS d_LT_isExecutable_22 hlocks
  · have hf := z_f c1 hf
    refine lv_aload_n hx hb d_LT_isExecutable_8 rfl (lv_at hl 0 rfl) ?_
    refine va_get (D := (dC, dI)) (ci := 2) (v := .ref (a 3)) (C := R_LT) (T := F_LT) (N := 4) hx hb hts (fun w h => List.mem_cons_of_mem _ (in_LT w h)) hown hK hP 0 rfl rfl 2 (by decide) (hts _ (List.mem_cons_of_mem _ k_1_62)) (fun _ h9 => h9) rfl d_LT_isExecutable_9 ?_
    refine lv_iload_n hx hb d_LT_isExecutable_12 rfl (lv_at hl 1 rfl) ?_
    obtain ⟨g2, hf⟩ := z_gz hf
    refine va_zald hx hb hK hP 3 2 rfl rfl g2 d_LT_isExecutable_13 ?_
    refine lv_if_eq (tgt := 21) hx hb d_LT_isExecutable_14 (by decide) (fun c3 => ?_) (fun c3 => ?_)
    · have hf := z_t c3 hf
      refine lv_iconst (v := (0 : Int32)) hx hb d_LT_isExecutable_21 (by decide) ?_
      obtain rfl := Option.some.inj hf
      exact z_zret hx hb hr (by decide) hP hD hS d_LT_isExecutable_22 hlocks
    · have hf := z_f c3 hf
      refine lv_iconst (v := (1 : Int32)) hx hb d_LT_isExecutable_17 (by decide) ?_
      refine lv_goto (tgt := 22) hx hb d_LT_isExecutable_18 (by decide) ?_
      obtain rfl := Option.some.inj hf
      exact z_zret hx hb hr (by decide) hP hD hS d_LT_isExecutable_22 hlocks
end
section
set_option maxHeartbeats 4000000 in
set_option maxRecDepth 100000 in
theorem c_OS_isTarget (l : Launch) (dC : Nat → ClassId) (dI : Nat → Nat → Nat) (N : Nat) (a : Nat → Nat) (k : Nat → ClassId) (p0 : Int32) {y : (Int32)} (hf : pf_OS_isTarget N p0 = some y) (sz : Nat) : Met l y_OS_isTarget ww_OS_isTarget ({ frames := 0, cells := 0, slots := 0, locals := 0 }) (va_Pc [.int p0] (zB (dC, dI) zCl ([] : List (ClassId × FieldType)) ([] : va_W) sz)) (zQi (dC, dI) zCl ([] : va_W) sz y ([] : va_W)) 0 0 (va_A ([] : va_W) sz) := by
  refine Met.ofW (cc := b_OS_isTarget) (maxL := 1) (ret := (some .boolean)) (by decide) rfl ?_
  intro p e s m args below meth c s₁ B hml hv
  obtain ⟨rfl, rfl, hP, hK, hD, hN⟩ := hv
  have hx := B.exec
  have hb := B.bytes
  have hr := B.returns
  have hts := atoms_spec (ws := ww_OS_isTarget) B.pre
  have hown : s.vm.findClass R_OS = some m.cls := findClass_of_methodNamed B.named
  have hlocks := B.notSynchronized
  have hA : ∀ q : Nat, s.heap.size ≤ q → va_A ([] : va_W) s.heap.size q := fun q h => Or.inr h
  refine z_start (lv := [(0, .int p0)]) (Nat.le_of_ble_eq_true rfl) rfl hP hD (fun H locs ls hP hD hS hl => ?_)
  unfold pf_OS_isTarget at hf
  refine lv_iload_n hx hb d_OS_isTarget_0 rfl (lv_at hl 0 rfl) ?_
  refine lv_if_lt (tgt := 14) hx hb d_OS_isTarget_1 (by decide) (fun c1 => ?_) (fun c1 => ?_)
  · have hf := z_t c1 hf
    refine lv_iconst (v := (0 : Int32)) hx hb d_OS_isTarget_14 (by decide) ?_
    obtain rfl := Option.some.inj hf
    exact z_zret hx hb hr (Or.inl rfl) hP hD hS d_OS_isTarget_15 hlocks
  · have hf := z_f c1 hf
    refine lv_iload_n hx hb d_OS_isTarget_4 rfl (lv_at hl 0 rfl) ?_
    refine lv_bipush (v := (nI 12)) hx hb d_OS_isTarget_5 (by decide) ?_
    refine lv_icmp_ge (tgt := 14) hx hb d_OS_isTarget_7 (by decide) (fun c2 => ?_) (fun c2 => ?_)
    · have hf := z_t c2 hf
      refine lv_iconst (v := (0 : Int32)) hx hb d_OS_isTarget_14 (by decide) ?_
      obtain rfl := Option.some.inj hf
      exact z_zret hx hb hr (Or.inl rfl) hP hD hS d_OS_isTarget_15 hlocks
    · have hf := z_f c2 hf
      refine lv_iconst (v := (1 : Int32)) hx hb d_OS_isTarget_10 (by decide) ?_
      refine lv_goto (tgt := 15) hx hb d_OS_isTarget_11 (by decide) ?_
      obtain rfl := Option.some.inj hf
      exact z_zret hx hb hr (Or.inr rfl) hP hD hS d_OS_isTarget_15 hlocks
set_option maxHeartbeats 4000000 in
set_option maxRecDepth 100000 in
theorem c_OS_isConfiguration (l : Launch) (dC : Nat → ClassId) (dI : Nat → Nat → Nat) (N : Nat) (a : Nat → Nat) (k : Nat → ClassId) (p0 : Int32) {y : (Int32)} (hf : pf_OS_isConfiguration N p0 = some y) (sz : Nat) : Met l y_OS_isConfiguration ww_OS_isConfiguration ({ frames := 0, cells := 0, slots := 0, locals := 0 }) (va_Pc [.int p0] (zB (dC, dI) zCl ([] : List (ClassId × FieldType)) ([] : va_W) sz)) (zQi (dC, dI) zCl ([] : va_W) sz y ([] : va_W)) 0 0 (va_A ([] : va_W) sz) := by
  refine Met.ofW (cc := b_OS_isConfiguration) (maxL := 1) (ret := (some .boolean)) (by decide) rfl ?_
  intro p e s m args below meth c s₁ B hml hv
  obtain ⟨rfl, rfl, hP, hK, hD, hN⟩ := hv
  have hx := B.exec
  have hb := B.bytes
  have hr := B.returns
  have hts := atoms_spec (ws := ww_OS_isConfiguration) B.pre
  have hown : s.vm.findClass R_OS = some m.cls := findClass_of_methodNamed B.named
  have hlocks := B.notSynchronized
  have hA : ∀ q : Nat, s.heap.size ≤ q → va_A ([] : va_W) s.heap.size q := fun q h => Or.inr h
  refine z_start (lv := [(0, .int p0)]) (Nat.le_of_ble_eq_true rfl) rfl hP hD (fun H locs ls hP hD hS hl => ?_)
  unfold pf_OS_isConfiguration at hf
  refine lv_iload_n hx hb d_OS_isConfiguration_0 rfl (lv_at hl 0 rfl) ?_
  refine lv_if_lt (tgt := 13) hx hb d_OS_isConfiguration_1 (by decide) (fun c1 => ?_) (fun c1 => ?_)
  · have hf := z_t c1 hf
    refine lv_iconst (v := (0 : Int32)) hx hb d_OS_isConfiguration_13 (by decide) ?_
    obtain rfl := Option.some.inj hf
    exact z_zret hx hb hr (Or.inl rfl) hP hD hS d_OS_isConfiguration_14 hlocks
  · have hf := z_f c1 hf
    refine lv_iload_n hx hb d_OS_isConfiguration_4 rfl (lv_at hl 0 rfl) ?_
    refine lv_iconst (v := (nI 4)) hx hb d_OS_isConfiguration_5 (by decide) ?_
    refine lv_icmp_ge (tgt := 13) hx hb d_OS_isConfiguration_6 (by decide) (fun c2 => ?_) (fun c2 => ?_)
    · have hf := z_t c2 hf
      refine lv_iconst (v := (0 : Int32)) hx hb d_OS_isConfiguration_13 (by decide) ?_
      obtain rfl := Option.some.inj hf
      exact z_zret hx hb hr (Or.inl rfl) hP hD hS d_OS_isConfiguration_14 hlocks
    · have hf := z_f c2 hf
      refine lv_iconst (v := (1 : Int32)) hx hb d_OS_isConfiguration_9 (by decide) ?_
      refine lv_goto (tgt := 14) hx hb d_OS_isConfiguration_10 (by decide) ?_
      obtain rfl := Option.some.inj hf
      exact z_zret hx hb hr (Or.inr rfl) hP hD hS d_OS_isConfiguration_14 hlocks
set_option maxHeartbeats 4000000 in
set_option maxRecDepth 100000 in
theorem c_OS_isRun (l : Launch) (dC : Nat → ClassId) (dI : Nat → Nat → Nat) (N : Nat) (a : Nat → Nat) (k : Nat → ClassId) (p0 : Int32) {y : (Int32)} (hf : pf_OS_isRun N p0 = some y) (sz : Nat) : Met l y_OS_isRun ww_OS_isRun ({ frames := 0, cells := 0, slots := 0, locals := 0 }) (va_Pc [.int p0] (zB (dC, dI) zCl ([] : List (ClassId × FieldType)) ([] : va_W) sz)) (zQi (dC, dI) zCl ([] : va_W) sz y ([] : va_W)) 0 0 (va_A ([] : va_W) sz) := by
  refine Met.ofW (cc := b_OS_isRun) (maxL := 1) (ret := (some .boolean)) (by decide) rfl ?_
  intro p e s m args below meth c s₁ B hml hv
  obtain ⟨rfl, rfl, hP, hK, hD, hN⟩ := hv
  have hx := B.exec
  have hb := B.bytes
  have hr := B.returns
  have hts := atoms_spec (ws := ww_OS_isRun) B.pre
  have hown : s.vm.findClass R_OS = some m.cls := findClass_of_methodNamed B.named
  have hlocks := B.notSynchronized
  have hA : ∀ q : Nat, s.heap.size ≤ q → va_A ([] : va_W) s.heap.size q := fun q h => Or.inr h
  refine z_start (lv := [(0, .int p0)]) (Nat.le_of_ble_eq_true rfl) rfl hP hD (fun H locs ls hP hD hS hl => ?_)
  unfold pf_OS_isRun at hf
  refine lv_iload_n hx hb d_OS_isRun_0 rfl (lv_at hl 0 rfl) ?_
  refine lv_if_lt (tgt := 14) hx hb d_OS_isRun_1 (by decide) (fun c1 => ?_) (fun c1 => ?_)
  · have hf := z_t c1 hf
    refine lv_iconst (v := (0 : Int32)) hx hb d_OS_isRun_14 (by decide) ?_
    obtain rfl := Option.some.inj hf
    exact z_zret hx hb hr (Or.inl rfl) hP hD hS d_OS_isRun_15 hlocks
  · have hf := z_f c1 hf
    refine lv_iload_n hx hb d_OS_isRun_4 rfl (lv_at hl 0 rfl) ?_
    refine lv_bipush (v := (nI 8)) hx hb d_OS_isRun_5 (by decide) ?_
    refine lv_icmp_ge (tgt := 14) hx hb d_OS_isRun_7 (by decide) (fun c2 => ?_) (fun c2 => ?_)
    · have hf := z_t c2 hf
      refine lv_iconst (v := (0 : Int32)) hx hb d_OS_isRun_14 (by decide) ?_
      obtain rfl := Option.some.inj hf
      exact z_zret hx hb hr (Or.inl rfl) hP hD hS d_OS_isRun_15 hlocks
    · have hf := z_f c2 hf
      refine lv_iconst (v := (1 : Int32)) hx hb d_OS_isRun_10 (by decide) ?_
      refine lv_goto (tgt := 15) hx hb d_OS_isRun_11 (by decide) ?_
      obtain rfl := Option.some.inj hf
      exact z_zret hx hb hr (Or.inr rfl) hP hD hS d_OS_isRun_15 hlocks
set_option maxHeartbeats 4000000 in
set_option maxRecDepth 100000 in
theorem c_OS_find (l : Launch) (dC : Nat → ClassId) (dI : Nat → Nat → Nat) (N : Nat) (a : Nat → Nat) (k : Nat → ClassId) (zn0 : Nat) (zr0 : Nat → Int64) (p1 : Int32) (p2 : Int64) {y : (Int32)} (hf : pf_OS_find N zr0 zn0 p1 p2 = some y) (sz : Nat) : Met l y_OS_find ww_OS_find ({ frames := 0, cells := 0, slots := 0, locals := 0 }) (va_Pc [.ref (a 0), .int p1, .long p2] (zB (dC, dI) zCl ([(k 0, .long)] : List (ClassId × FieldType)) ([(a 0, .inl (k 0, zn0, .inr (.inl zr0)))] : va_W) sz)) (zQi (dC, dI) zCl ([(a 0, .inl (k 0, zn0, .inr (.inl zr0)))] : va_W) sz y ([(a 0, .inl (k 0, zn0, .inr (.inl zr0)))] : va_W)) 0 0 (va_A ([(a 0, .inl (k 0, zn0, .inr (.inl zr0)))] : va_W) sz) := by
  refine Met.ofW (cc := b_OS_find) (maxL := 5) (ret := (some .int)) (by decide) rfl ?_
  intro p e s m args below meth c s₁ B hml hv
  obtain ⟨rfl, rfl, hP, hK, hD, hN⟩ := hv
  have hx := B.exec
  have hb := B.bytes
  have hr := B.returns
  have hts := atoms_spec (ws := ww_OS_find) B.pre
  have hown : s.vm.findClass R_OS = some m.cls := findClass_of_methodNamed B.named
  have hlocks := B.notSynchronized
  have hA : ∀ q : Nat, s.heap.size ≤ q → va_A ([(a 0, .inl (k 0, zn0, .inr (.inl zr0)))] : va_W) s.heap.size q := fun q h => Or.inr h
  refine z_start (lv := [(0, .ref (a 0)), (1, .int p1), (2, .long p2)]) (Nat.le_of_ble_eq_true rfl) rfl hP hD (fun H locs ls hP hD hS hl => ?_)
  unfold pf_OS_find at hf
  refine lv_iconst (v := (0 : Int32)) hx hb d_OS_find_0 (by decide) ?_
  refine lv_istore (lv' := [(4, .int (0 : Int32)), (0, .ref (a 0)), (1, .int p1), (2, .long p2)]) hx hb d_OS_find_1 hl (by decide) rfl (fun ls hl => ?_)
  have loop3 : ∀ (n : Nat) (x4 : Int32), pf_OS_find_L3 N zn0 zr0 p1 p2 n x4 = some y → ∀ (H : Heap) (locs : List Loc) (ls : Array Slot), va_P (dC, dI) zCl ([(a 0, .inl (k 0, zn0, .inr (.inl zr0)))] : va_W) H → va_D (va_A ([(a 0, .inl (k 0, zn0, .inr (.inl zr0)))] : va_W) s.heap.size) ([(a 0, .inl (k 0, zn0, .inr (.inl zr0)))] : va_W) → va_S (va_A ([(a 0, .inl (k 0, zn0, .inr (.inl zr0)))] : va_W) s.heap.size) s.heap H locs → lv_has ls 5 [(0, .ref (a 0)), (1, .int p1), (2, .long p2), (4, .int x4)] → W p l e (headSpec ww_OS_find ({ frames := 0, cells := 0, slots := 0, locals := 0 })).room s m ([.ref (a 0), .int p1, .long p2] : List Value).toArray below meth c H locs 0 0 (MQ below (zQi (dC, dI) zCl ([(a 0, .inl (k 0, zn0, .inr (.inl zr0)))] : va_W) s.heap.size y ([(a 0, .inl (k 0, zn0, .inr (.inl zr0)))] : va_W)) ([.ref (a 0), .int p1, .long p2] : List Value).toArray s 0 0 (va_A ([(a 0, .inl (k 0, zn0, .inr (.inl zr0)))] : va_W) s.heap.size)) (F0 m 3 ls []) := by
    intro n3
    induction n3 with
    | zero => intro x4 hf; rw [pf_OS_find_L3.eq_1] at hf; cases hf
    | succ n3 ih3 =>
      intro x4 hf H locs ls hP hD hS hl
      rw [pf_OS_find_L3.eq_2] at hf
      refine lv_iload hx hb d_OS_find_3 (lv_at hl 3 rfl) ?_
      refine lv_iload_n hx hb d_OS_find_5 rfl (lv_at hl 1 rfl) ?_
      refine lv_icmp_ge (tgt := 34) hx hb d_OS_find_6 (by decide) (fun c1 => ?_) (fun c1 => ?_)
      · have hf := z_t c1 hf
        refine lv_iconst (v := (-1 : Int32)) hx hb d_OS_find_34 (by decide) ?_
        obtain rfl := Option.some.inj hf
        exact z_iret hx hb hr hP hD hS d_OS_find_35 hlocks
      · have hf := z_f c1 hf
        refine lv_iload hx hb d_OS_find_9 (lv_at hl 3 rfl) ?_
        refine lv_aload_n hx hb d_OS_find_11 rfl (lv_at hl 0 rfl) ?_
        refine va_alen (v := (Int32.ofNat zn0)) hx hb hK hP 0 0 rfl rfl rfl d_OS_find_12 ?_
        refine lv_icmp_ge (tgt := 34) hx hb d_OS_find_13 (by decide) (fun c2 => ?_) (fun c2 => ?_)
        · have hf := z_t c2 hf
          refine lv_iconst (v := (-1 : Int32)) hx hb d_OS_find_34 (by decide) ?_
          obtain rfl := Option.some.inj hf
          exact z_iret hx hb hr hP hD hS d_OS_find_35 hlocks
        · have hf := z_f c2 hf
          refine lv_aload_n hx hb d_OS_find_16 rfl (lv_at hl 0 rfl) ?_
          refine lv_iload hx hb d_OS_find_17 (lv_at hl 3 rfl) ?_
          obtain ⟨g3, hf⟩ := z_gz hf
          refine va_lald hx hb hK hP 0 0 rfl rfl g3 d_OS_find_19 ?_
          refine lv_lload_n hx hb d_OS_find_20 rfl (lv_at hl 2 rfl) ?_
          refine W.lcmp hx hb d_OS_find_21 ?_
          refine lv_if_ne (tgt := 28) hx hb d_OS_find_22 (by decide) (fun c4 => ?_) (fun c4 => ?_)
          · have hf := z_t c4 hf
            refine lv_iinc (v := (x4 + (1 : Int32))) (lv' := [(4, .int (x4 + (1 : Int32))), (0, .ref (a 0)), (1, .int p1), (2, .long p2)]) hx hb d_OS_find_28 hl (k := 3) rfl rfl (by decide) rfl (fun ls hl => ?_)
            refine lv_goto (tgt := 3) hx hb d_OS_find_31 (by decide) ?_
            exact ih3 (x4 + (1 : Int32)) hf H locs ls hP hD hS (lv_sub hl [1, 2, 3, 0] rfl)
          · have hf := z_fn c4 hf
            refine lv_iload hx hb d_OS_find_25 (lv_at hl 3 rfl) ?_
            obtain rfl := Option.some.inj hf
            exact z_iret hx hb hr hP hD hS d_OS_find_27 hlocks
  exact loop3 N (0 : Int32) hf H locs ls hP hD hS (lv_sub hl [1, 2, 3, 0] rfl)
set_option maxHeartbeats 4000000 in
set_option maxRecDepth 100000 in
theorem c_CS_has (l : Launch) (dC : Nat → ClassId) (dI : Nat → Nat → Nat) (N : Nat) (a : Nat → Nat) (k : Nat → ClassId) (zcontents : Nat → Int64) (zcount : Int32) (p1 : Int64) {y : (Int32)} (hf : pf_CS_has N zcontents zcount p1 = some y) (sz : Nat) : Met l y_CS_has ww_CS_has ({ frames := 1, cells := 0, slots := 0, locals := 24 }) (va_Pc [.ref (a 0), .long p1] (zB (dC, dI) zCl (t_CS k) (w_CS a k zcontents zcount) sz)) (zQi (dC, dI) zCl (w_CS a k zcontents zcount) sz y (w_CS a k zcontents zcount)) 0 0 (va_A (w_CS a k zcontents zcount) sz) := by
  refine Met.ofW (cc := b_CS_has) (maxL := 3) (ret := (some .boolean)) (by decide) rfl ?_
  intro p e s m args below meth c s₁ B hml hv
  obtain ⟨rfl, rfl, hP, hK, hD, hN⟩ := hv
  have hx := B.exec
  have hb := B.bytes
  have hr := B.returns
  have hts := atoms_spec (ws := ww_CS_has) B.pre
  have hown : s.vm.findClass R_CS = some m.cls := findClass_of_methodNamed B.named
  have hlocks := B.notSynchronized
  have hA : ∀ q : Nat, s.heap.size ≤ q → va_A (w_CS a k zcontents zcount) s.heap.size q := fun q h => Or.inr h
  refine z_start (lv := [(0, .ref (a 0)), (1, .long p1)]) (Nat.le_of_ble_eq_true rfl) rfl hP hD (fun H locs ls hP hD hS hl => ?_)
  unfold pf_CS_has at hf
  refine lv_aload_n hx hb d_CS_has_0 rfl (lv_at hl 0 rfl) ?_
  refine va_get (D := (dC, dI)) (ci := 3) (v := .ref (a 1)) (C := R_CS) (T := F_CS) (N := 2) hx hb hts (fun w h => List.mem_cons_of_mem _ (in_CS w h)) hown hK hP 0 rfl rfl 0 (by decide) (hts _ (List.mem_cons_of_mem _ k_1_80)) (fun _ h9 => h9) rfl d_CS_has_1 ?_
  refine lv_aload_n hx hb d_CS_has_4 rfl (lv_at hl 0 rfl) ?_
  refine va_get (D := (dC, dI)) (ci := 3) (v := .int zcount) (C := R_CS) (T := F_CS) (N := 2) hx hb hts (fun w h => List.mem_cons_of_mem _ (in_CS w h)) hown hK hP 0 rfl rfl 1 (by decide) (hts _ (List.mem_cons_of_mem _ k_1_81)) (fun _ h9 => h9) rfl d_CS_has_5 ?_
  refine lv_lload_n hx hb d_CS_has_8 rfl (lv_at hl 1 rfl) ?_
  obtain ⟨u0, hu0, hf⟩ := z_b hf
  have hPc := zP_cut (wc := ([((fun i => a (1 + i)) 0, .inl ((fun i => k (0 + i)) 0, 60, .inr (.inl zcontents)))] : va_W)) 1 2 hP rfl
  have hDc := zD_cut (wc := ([((fun i => a (1 + i)) 0, .inl ((fun i => k (0 + i)) 0, 60, .inr (.inl zcontents)))] : va_W)) 1 2 hD rfl
  have hKc := hK.sub (tys' := ([((fun i => k (0 + i)) 0, .long)] : List (ClassId × FieldType))) [0] rfl
  refine z_ci (va_runSN (As := [.ref (a 1), .int zcount, .long p1]) (rest := []) ⟨hx, hb, hml, hown, hts⟩ (c_OS_find l dC dI N (fun i => a (1 + i)) (fun i => k (0 + i)) 60 zcontents zcount p1 hu0 H.size) ⟨va_cnB 3 hts (zGN zsub_c kc_OS_find) rfl rfl rfl (hN _ (List.mem_of_getElem? (i := 6) rfl)) (hts _ (List.mem_cons_of_mem _ k_1_1)) (by decide +kernel) ⟨Nat.le_of_ble_eq_true rfl, Nat.le_of_ble_eq_true rfl⟩, (hts _ (List.mem_cons_of_mem _ k_2_5)), trivial⟩ ⟨z_bl, fun U hU hW => ⟨rfl, z_pre hN hKc hPc hDc U hU hW⟩⟩ rfl rfl hl.1 rfl (lv_room (Nat.le_of_ble_eq_true rfl)) d_CS_has_9 ⟨Nat.zero_le _, Nat.zero_le _⟩) 1 2 (w_CS a k zcontents zcount) hP hD hS hA rfl rfl (fun H locs hP hD hS => ?_)
  refine lv_iconst (v := (-1 : Int32)) hx hb d_CS_has_12 (by decide) ?_
  refine lv_icmp_eq (tgt := 20) hx hb d_CS_has_13 (by decide) (fun c1 => ?_) (fun c1 => ?_)
  · have hf := z_t c1 hf
    refine lv_iconst (v := (0 : Int32)) hx hb d_CS_has_20 (by decide) ?_
    obtain rfl := Option.some.inj hf
    exact z_zret hx hb hr (Or.inl rfl) hP hD hS d_CS_has_21 hlocks
  · have hf := z_f c1 hf
    refine lv_iconst (v := (1 : Int32)) hx hb d_CS_has_16 (by decide) ?_
    refine lv_goto (tgt := 21) hx hb d_CS_has_17 (by decide) ?_
    obtain rfl := Option.some.inj hf
    exact z_zret hx hb hr (Or.inr rfl) hP hD hS d_CS_has_21 hlocks
set_option maxHeartbeats 4000000 in
set_option maxRecDepth 100000 in
theorem c_CS_include (l : Launch) (dC : Nat → ClassId) (dI : Nat → Nat → Nat) (N : Nat) (a : Nat → Nat) (k : Nat → ClassId) (zcontents : Nat → Int64) (zcount : Int32) (p1 : Int64) {y : (Int32 × (Nat → Int64) × Int32)} (hf : pf_CS_include N zcontents zcount p1 = some y) (sz : Nat) : Met l y_CS_include ww_CS_include ({ frames := 2, cells := 0, slots := 0, locals := 46 }) (va_Pc [.ref (a 0), .long p1] (zB (dC, dI) zCl (t_CS k) (w_CS a k zcontents zcount) sz)) (zQi (dC, dI) zCl (w_CS a k zcontents zcount) sz y.1 (w_CS a k y.2.1 y.2.2)) 0 0 (va_A (w_CS a k zcontents zcount) sz) := by
  refine Met.ofW (cc := b_CS_include) (maxL := 3) (ret := (some .boolean)) (by decide) rfl ?_
  intro p e s m args below meth c s₁ B hml hv
  obtain ⟨rfl, rfl, hP, hK, hD, hN⟩ := hv
  have hx := B.exec
  have hb := B.bytes
  have hr := B.returns
  have hts := atoms_spec (ws := ww_CS_include) B.pre
  have hown : s.vm.findClass R_CS = some m.cls := findClass_of_methodNamed B.named
  have hlocks := B.notSynchronized
  have hA : ∀ q : Nat, s.heap.size ≤ q → va_A (w_CS a k zcontents zcount) s.heap.size q := fun q h => Or.inr h
  refine z_start (lv := [(0, .ref (a 0)), (1, .long p1)]) (Nat.le_of_ble_eq_true rfl) rfl hP hD (fun H locs ls hP hD hS hl => ?_)
  unfold pf_CS_include at hf
  refine lv_aload_n hx hb d_CS_include_0 rfl (lv_at hl 0 rfl) ?_
  refine lv_lload_n hx hb d_CS_include_1 rfl (lv_at hl 1 rfl) ?_
  obtain ⟨u0, hu0, hf⟩ := z_b hf
  have hPc := hP
  have hDc := hD
  have hKc := hK
  refine z_cwi (va_runV (As := [.long p1]) (rest := []) ⟨hx, hb, hml, hown, hts⟩ (c_CS_has l dC dI N a k zcontents zcount p1 hu0 H.size) (cwV 1 hts (zGV zsub_c k_2_65 k_2_1 k_2_2 k_1_5 kc_CS_has) rfl rfl rfl (by decide +kernel) ⟨Nat.le_of_ble_eq_true rfl, Nat.le_of_ble_eq_true rfl⟩) ⟨z_bl, va_recv hKc hPc (ci := 3) (q0 := 0) rfl rfl, fun U hU hW => ⟨rfl, z_pre hN hKc hPc hDc U hU hW⟩⟩ rfl rfl hl.1 rfl (lv_room (Nat.le_of_ble_eq_true rfl)) d_CS_include_2 ⟨Nat.zero_le _, Nat.zero_le _⟩) hD hS hA (fun H locs hP hD hS => ?_)
  refine lv_if_eq (tgt := 10) hx hb d_CS_include_5 (by decide) (fun c1 => ?_) (fun c1 => ?_)
  · have hf := z_t c1 hf
    refine lv_aload_n hx hb d_CS_include_10 rfl (lv_at hl 0 rfl) ?_
    refine va_get (D := (dC, dI)) (ci := 3) (v := .int zcount) (C := R_CS) (T := F_CS) (N := 2) hx hb hts (fun w h => List.mem_cons_of_mem _ (in_CS w h)) hown hK hP 0 rfl rfl 1 (by decide) (hts _ (List.mem_cons_of_mem _ k_1_81)) (fun _ h9 => h9) rfl d_CS_include_11 ?_
    refine lv_bipush (v := (nI 60)) hx hb d_CS_include_14 (by decide) ?_
    refine lv_icmp_lt (tgt := 21) hx hb d_CS_include_16 (by decide) (fun c2 => ?_) (fun c2 => ?_)
    · have hf := z_t c2 hf
      refine lv_aload_n hx hb d_CS_include_21 rfl (lv_at hl 0 rfl) ?_
      refine va_get (D := (dC, dI)) (ci := 3) (v := .ref (a 1)) (C := R_CS) (T := F_CS) (N := 2) hx hb hts (fun w h => List.mem_cons_of_mem _ (in_CS w h)) hown hK hP 0 rfl rfl 0 (by decide) (hts _ (List.mem_cons_of_mem _ k_1_80)) (fun _ h9 => h9) rfl d_CS_include_22 ?_
      refine lv_aload_n hx hb d_CS_include_25 rfl (lv_at hl 0 rfl) ?_
      refine va_get (D := (dC, dI)) (ci := 3) (v := .int zcount) (C := R_CS) (T := F_CS) (N := 2) hx hb hts (fun w h => List.mem_cons_of_mem _ (in_CS w h)) hown hK hP 0 rfl rfl 1 (by decide) (hts _ (List.mem_cons_of_mem _ k_1_81)) (fun _ h9 => h9) rfl d_CS_include_26 ?_
      refine lv_lload_n hx hb d_CS_include_29 rfl (lv_at hl 1 rfl) ?_
      obtain ⟨g3, hf⟩ := z_gz hf
      refine va_last hx hb hK hP hD hS 1 0 rfl rfl g3 d_CS_include_30 (fun H locs hP hD hS => ?_)
      have hP : va_P (dC, dI) zCl (w_CS a k (vp_updL zcontents zcount.toNatClampNeg p1) zcount) H := hP
      have hD : va_D _ (w_CS a k (vp_updL zcontents zcount.toNatClampNeg p1) zcount) := hD
      refine lv_aload_n hx hb d_CS_include_31 rfl (lv_at hl 0 rfl) ?_
      refine lv_dup hx hb d_CS_include_32 rfl ?_
      refine va_get (D := (dC, dI)) (ci := 3) (v := .int zcount) (C := R_CS) (T := F_CS) (N := 2) hx hb hts (fun w h => List.mem_cons_of_mem _ (in_CS w h)) hown hK hP 0 rfl rfl 1 (by decide) (hts _ (List.mem_cons_of_mem _ k_1_81)) (fun _ h9 => h9) rfl d_CS_include_33 ?_
      refine lv_iconst (v := (1 : Int32)) hx hb d_CS_include_36 (by decide) ?_
      refine lv_iadd hx hb d_CS_include_37 ?_
      refine va_put (D := (dC, dI)) (ci := 3) (v := .int (zcount + (1 : Int32))) (ty := .int) (C := R_CS) (T := F_CS) (N := 2) hx hb hts (fun w h => List.mem_cons_of_mem _ (in_CS w h)) ty_CS ty_CS_ok nm_CS hown hK hP hD hS 0 rfl rfl 1 (by decide) (hts _ (List.mem_cons_of_mem _ k_1_81)) (fun _ h9 => h9) rfl (by decide +kernel) rfl rfl (Nat.le_of_ble_eq_true rfl) d_CS_include_38 (fun H locs hP hD hS => ?_)
      have hP : va_P (dC, dI) zCl (w_CS a k (vp_updL zcontents zcount.toNatClampNeg p1) (zcount + (1 : Int32))) H := hP
      have hD : va_D _ (w_CS a k (vp_updL zcontents zcount.toNatClampNeg p1) (zcount + (1 : Int32))) := hD
      refine lv_iconst (v := (1 : Int32)) hx hb d_CS_include_41 (by decide) ?_
      obtain rfl := Option.some.inj hf
      exact z_zret hx hb hr (Or.inr rfl) hP hD hS d_CS_include_42 hlocks
    · have hf := z_f c2 hf
      refine lv_iconst (v := (0 : Int32)) hx hb d_CS_include_19 (by decide) ?_
      obtain rfl := Option.some.inj hf
      exact z_zret hx hb hr (Or.inl rfl) hP hD hS d_CS_include_20 hlocks
  · have hf := z_f c1 hf
    refine lv_iconst (v := (1 : Int32)) hx hb d_CS_include_8 (by decide) ?_
    obtain rfl := Option.some.inj hf
    exact z_zret hx hb hr (Or.inr rfl) hP hD hS d_CS_include_9 hlocks
set_option maxHeartbeats 4000000 in
set_option maxRecDepth 100000 in
theorem c_CS_exclude (l : Launch) (dC : Nat → ClassId) (dI : Nat → Nat → Nat) (N : Nat) (a : Nat → Nat) (k : Nat → ClassId) (zcontents : Nat → Int64) (zcount : Int32) (p1 : Int64) {y : ((Nat → Int64) × Int32)} (hf : pf_CS_exclude N zcontents zcount p1 = some y) (sz : Nat) : Met l y_CS_exclude ww_CS_exclude ({ frames := 1, cells := 0, slots := 0, locals := 24 }) (va_Pc [.ref (a 0), .long p1] (zB (dC, dI) zCl (t_CS k) (w_CS a k zcontents zcount) sz)) (zQv (dC, dI) zCl (w_CS a k zcontents zcount) sz (w_CS a k y.1 y.2)) 0 0 (va_A (w_CS a k zcontents zcount) sz) := by
  refine Met.ofW (cc := b_CS_exclude) (maxL := 4) (ret := none) (by decide) rfl ?_
  intro p e s m args below meth c s₁ B hml hv
  obtain ⟨rfl, rfl, hP, hK, hD, hN⟩ := hv
  have hx := B.exec
  have hb := B.bytes
  have hr := B.returns
  have hts := atoms_spec (ws := ww_CS_exclude) B.pre
  have hown : s.vm.findClass R_CS = some m.cls := findClass_of_methodNamed B.named
  have hlocks := B.notSynchronized
  have hA : ∀ q : Nat, s.heap.size ≤ q → va_A (w_CS a k zcontents zcount) s.heap.size q := fun q h => Or.inr h
  refine z_start (lv := [(0, .ref (a 0)), (1, .long p1)]) (Nat.le_of_ble_eq_true rfl) rfl hP hD (fun H locs ls hP hD hS hl => ?_)
  unfold pf_CS_exclude at hf
  refine lv_aload_n hx hb d_CS_exclude_0 rfl (lv_at hl 0 rfl) ?_
  refine va_get (D := (dC, dI)) (ci := 3) (v := .ref (a 1)) (C := R_CS) (T := F_CS) (N := 2) hx hb hts (fun w h => List.mem_cons_of_mem _ (in_CS w h)) hown hK hP 0 rfl rfl 0 (by decide) (hts _ (List.mem_cons_of_mem _ k_1_80)) (fun _ h9 => h9) rfl d_CS_exclude_1 ?_
  refine lv_aload_n hx hb d_CS_exclude_4 rfl (lv_at hl 0 rfl) ?_
  refine va_get (D := (dC, dI)) (ci := 3) (v := .int zcount) (C := R_CS) (T := F_CS) (N := 2) hx hb hts (fun w h => List.mem_cons_of_mem _ (in_CS w h)) hown hK hP 0 rfl rfl 1 (by decide) (hts _ (List.mem_cons_of_mem _ k_1_81)) (fun _ h9 => h9) rfl d_CS_exclude_5 ?_
  refine lv_lload_n hx hb d_CS_exclude_8 rfl (lv_at hl 1 rfl) ?_
  obtain ⟨u0, hu0, hf⟩ := z_b hf
  have hPc := zP_cut (wc := ([((fun i => a (1 + i)) 0, .inl ((fun i => k (0 + i)) 0, 60, .inr (.inl zcontents)))] : va_W)) 1 2 hP rfl
  have hDc := zD_cut (wc := ([((fun i => a (1 + i)) 0, .inl ((fun i => k (0 + i)) 0, 60, .inr (.inl zcontents)))] : va_W)) 1 2 hD rfl
  have hKc := hK.sub (tys' := ([((fun i => k (0 + i)) 0, .long)] : List (ClassId × FieldType))) [0] rfl
  refine z_ci (va_runSN (As := [.ref (a 1), .int zcount, .long p1]) (rest := []) ⟨hx, hb, hml, hown, hts⟩ (c_OS_find l dC dI N (fun i => a (1 + i)) (fun i => k (0 + i)) 60 zcontents zcount p1 hu0 H.size) ⟨va_cnB 3 hts (zGN zsub_c kc_OS_find) rfl rfl rfl (hN _ (List.mem_of_getElem? (i := 6) rfl)) (hts _ (List.mem_cons_of_mem _ k_1_1)) (by decide +kernel) ⟨Nat.le_of_ble_eq_true rfl, Nat.le_of_ble_eq_true rfl⟩, (hts _ (List.mem_cons_of_mem _ k_2_5)), trivial⟩ ⟨z_bl, fun U hU hW => ⟨rfl, z_pre hN hKc hPc hDc U hU hW⟩⟩ rfl rfl hl.1 rfl (lv_room (Nat.le_of_ble_eq_true rfl)) d_CS_exclude_9 ⟨Nat.zero_le _, Nat.zero_le _⟩) 1 2 (w_CS a k zcontents zcount) hP hD hS hA rfl rfl (fun H locs hP hD hS => ?_)
  refine lv_istore_n (lv' := [(3, .int u0), (0, .ref (a 0)), (1, .long p1)]) hx hb d_CS_exclude_12 rfl hl (by decide) rfl (fun ls hl => ?_)
  refine lv_iload_n hx hb d_CS_exclude_13 rfl (lv_at hl 0 rfl) ?_
  refine lv_if_lt (tgt := 50) hx hb d_CS_exclude_14 (by decide) (fun c1 => ?_) (fun c1 => ?_)
  · have hf := z_t c1 hf
    obtain rfl := Option.some.inj hf
    exact z_vret hx hb hr hP hD hS d_CS_exclude_50 hlocks
  · have hf := z_f c1 hf
    refine lv_iload_n hx hb d_CS_exclude_17 rfl (lv_at hl 0 rfl) ?_
    refine lv_aload_n hx hb d_CS_exclude_18 rfl (lv_at hl 1 rfl) ?_
    refine va_get (D := (dC, dI)) (ci := 3) (v := .int zcount) (C := R_CS) (T := F_CS) (N := 2) hx hb hts (fun w h => List.mem_cons_of_mem _ (in_CS w h)) hown hK hP 0 rfl rfl 1 (by decide) (hts _ (List.mem_cons_of_mem _ k_1_81)) (fun _ h9 => h9) rfl d_CS_exclude_19 ?_
    refine lv_icmp_ge (tgt := 50) hx hb d_CS_exclude_22 (by decide) (fun c2 => ?_) (fun c2 => ?_)
    · have hf := z_t c2 hf
      obtain rfl := Option.some.inj hf
      exact z_vret hx hb hr hP hD hS d_CS_exclude_50 hlocks
    · have hf := z_f c2 hf
      refine lv_aload_n hx hb d_CS_exclude_25 rfl (lv_at hl 1 rfl) ?_
      refine lv_dup hx hb d_CS_exclude_26 rfl ?_
      refine va_get (D := (dC, dI)) (ci := 3) (v := .int zcount) (C := R_CS) (T := F_CS) (N := 2) hx hb hts (fun w h => List.mem_cons_of_mem _ (in_CS w h)) hown hK hP 0 rfl rfl 1 (by decide) (hts _ (List.mem_cons_of_mem _ k_1_81)) (fun _ h9 => h9) rfl d_CS_exclude_27 ?_
      refine lv_iconst (v := (1 : Int32)) hx hb d_CS_exclude_30 (by decide) ?_
      refine lv_isub hx hb d_CS_exclude_31 ?_
      refine va_put (D := (dC, dI)) (ci := 3) (v := .int (zcount - (1 : Int32))) (ty := .int) (C := R_CS) (T := F_CS) (N := 2) hx hb hts (fun w h => List.mem_cons_of_mem _ (in_CS w h)) ty_CS ty_CS_ok nm_CS hown hK hP hD hS 0 rfl rfl 1 (by decide) (hts _ (List.mem_cons_of_mem _ k_1_81)) (fun _ h9 => h9) rfl (by decide +kernel) rfl rfl (Nat.le_of_ble_eq_true rfl) d_CS_exclude_32 (fun H locs hP hD hS => ?_)
      have hP : va_P (dC, dI) zCl (w_CS a k zcontents (zcount - (1 : Int32))) H := hP
      have hD : va_D _ (w_CS a k zcontents (zcount - (1 : Int32))) := hD
      refine lv_aload_n hx hb d_CS_exclude_35 rfl (lv_at hl 1 rfl) ?_
      refine va_get (D := (dC, dI)) (ci := 3) (v := .ref (a 1)) (C := R_CS) (T := F_CS) (N := 2) hx hb hts (fun w h => List.mem_cons_of_mem _ (in_CS w h)) hown hK hP 0 rfl rfl 0 (by decide) (hts _ (List.mem_cons_of_mem _ k_1_80)) (fun _ h9 => h9) rfl d_CS_exclude_36 ?_
      refine lv_iload_n hx hb d_CS_exclude_39 rfl (lv_at hl 0 rfl) ?_
      refine lv_aload_n hx hb d_CS_exclude_40 rfl (lv_at hl 1 rfl) ?_
      refine va_get (D := (dC, dI)) (ci := 3) (v := .ref (a 1)) (C := R_CS) (T := F_CS) (N := 2) hx hb hts (fun w h => List.mem_cons_of_mem _ (in_CS w h)) hown hK hP 0 rfl rfl 0 (by decide) (hts _ (List.mem_cons_of_mem _ k_1_80)) (fun _ h9 => h9) rfl d_CS_exclude_41 ?_
      refine lv_aload_n hx hb d_CS_exclude_44 rfl (lv_at hl 1 rfl) ?_
      refine va_get (D := (dC, dI)) (ci := 3) (v := .int (zcount - (1 : Int32))) (C := R_CS) (T := F_CS) (N := 2) hx hb hts (fun w h => List.mem_cons_of_mem _ (in_CS w h)) hown hK hP 0 rfl rfl 1 (by decide) (hts _ (List.mem_cons_of_mem _ k_1_81)) (fun _ h9 => h9) rfl d_CS_exclude_45 ?_
      obtain ⟨g3, hf⟩ := z_gz hf
      refine va_lald hx hb hK hP 1 0 rfl rfl g3 d_CS_exclude_48 ?_
      obtain ⟨g4, hf⟩ := z_gz hf
      refine va_last hx hb hK hP hD hS 1 0 rfl rfl g4 d_CS_exclude_49 (fun H locs hP hD hS => ?_)
      have hP : va_P (dC, dI) zCl (w_CS a k (vp_updL zcontents u0.toNatClampNeg (zcontents (zcount - (1 : Int32)).toNatClampNeg)) (zcount - (1 : Int32))) H := hP
      have hD : va_D _ (w_CS a k (vp_updL zcontents u0.toNatClampNeg (zcontents (zcount - (1 : Int32)).toNatClampNeg)) (zcount - (1 : Int32))) := hD
      obtain rfl := Option.some.inj hf
      exact z_vret hx hb hr hP hD hS d_CS_exclude_50 hlocks
set_option maxHeartbeats 4000000 in
set_option maxRecDepth 100000 in
theorem c_HB_isFull (l : Launch) (dC : Nat → ClassId) (dI : Nat → Nat → Nat) (N : Nat) (a : Nat → Nat) (k : Nat → ClassId) (zcontents : Nat → Int64) (zcount : Int32) {y : (Int32)} (hf : pf_HB_isFull N zcount = some y) (sz : Nat) : Met l y_HB_isFull ww_HB_isFull ({ frames := 0, cells := 0, slots := 0, locals := 0 }) (va_Pc [.ref (a 0)] (zB (dC, dI) zCl (t_HB k) (w_HB a k zcontents zcount) sz)) (zQi (dC, dI) zCl (w_HB a k zcontents zcount) sz y (w_HB a k zcontents zcount)) 0 0 (va_A (w_HB a k zcontents zcount) sz) := by
  refine Met.ofW (cc := b_HB_isFull) (maxL := 1) (ret := (some .boolean)) (by decide) rfl ?_
  intro p e s m args below meth c s₁ B hml hv
  obtain ⟨rfl, rfl, hP, hK, hD, hN⟩ := hv
  have hx := B.exec
  have hb := B.bytes
  have hr := B.returns
  have hts := atoms_spec (ws := ww_HB_isFull) B.pre
  have hown : s.vm.findClass R_HB = some m.cls := findClass_of_methodNamed B.named
  have hlocks := B.notSynchronized
  have hA : ∀ q : Nat, s.heap.size ≤ q → va_A (w_HB a k zcontents zcount) s.heap.size q := fun q h => Or.inr h
  refine z_start (lv := [(0, .ref (a 0))]) (Nat.le_of_ble_eq_true rfl) rfl hP hD (fun H locs ls hP hD hS hl => ?_)
  unfold pf_HB_isFull at hf
  refine lv_aload_n hx hb d_HB_isFull_0 rfl (lv_at hl 0 rfl) ?_
  refine va_get (D := (dC, dI)) (ci := 4) (v := .int zcount) (C := R_HB) (T := F_HB) (N := 2) hx hb hts (fun w h => List.mem_cons_of_mem _ (in_HB w h)) hown hK hP 0 rfl rfl 1 (by decide) (hts _ (List.mem_cons_of_mem _ k_1_94)) (fun _ h9 => h9) rfl d_HB_isFull_1 ?_
  refine lv_bipush (v := (nI 100)) hx hb d_HB_isFull_4 (by decide) ?_
  refine lv_icmp_lt (tgt := 13) hx hb d_HB_isFull_6 (by decide) (fun c1 => ?_) (fun c1 => ?_)
  · have hf := z_t c1 hf
    refine lv_iconst (v := (0 : Int32)) hx hb d_HB_isFull_13 (by decide) ?_
    obtain rfl := Option.some.inj hf
    exact z_zret hx hb hr (Or.inl rfl) hP hD hS d_HB_isFull_14 hlocks
  · have hf := z_f c1 hf
    refine lv_iconst (v := (1 : Int32)) hx hb d_HB_isFull_9 (by decide) ?_
    refine lv_goto (tgt := 14) hx hb d_HB_isFull_10 (by decide) ?_
    obtain rfl := Option.some.inj hf
    exact z_zret hx hb hr (Or.inr rfl) hP hD hS d_HB_isFull_14 hlocks
set_option maxHeartbeats 4000000 in
set_option maxRecDepth 100000 in
theorem c_HB_take (l : Launch) (dC : Nat → ClassId) (dI : Nat → Nat → Nat) (N : Nat) (a : Nat → Nat) (k : Nat → ClassId) (zcontents : Nat → Int64) (zcount : Int32) (p1 : Int64) {y : (Int32 × (Nat → Int64) × Int32)} (hf : pf_HB_take N zcontents zcount p1 = some y) (sz : Nat) : Met l y_HB_take ww_HB_take ({ frames := 1, cells := 0, slots := 0, locals := 20 }) (va_Pc [.ref (a 0), .long p1] (zB (dC, dI) zCl (t_HB k) (w_HB a k zcontents zcount) sz)) (zQi (dC, dI) zCl (w_HB a k zcontents zcount) sz y.1 (w_HB a k y.2.1 y.2.2)) 0 0 (va_A (w_HB a k zcontents zcount) sz) := by
  refine Met.ofW (cc := b_HB_take) (maxL := 3) (ret := (some .int)) (by decide) rfl ?_
  intro p e s m args below meth c s₁ B hml hv
  obtain ⟨rfl, rfl, hP, hK, hD, hN⟩ := hv
  have hx := B.exec
  have hb := B.bytes
  have hr := B.returns
  have hts := atoms_spec (ws := ww_HB_take) B.pre
  have hown : s.vm.findClass R_HB = some m.cls := findClass_of_methodNamed B.named
  have hlocks := B.notSynchronized
  have hA : ∀ q : Nat, s.heap.size ≤ q → va_A (w_HB a k zcontents zcount) s.heap.size q := fun q h => Or.inr h
  refine z_start (lv := [(0, .ref (a 0)), (1, .long p1)]) (Nat.le_of_ble_eq_true rfl) rfl hP hD (fun H locs ls hP hD hS hl => ?_)
  unfold pf_HB_take at hf
  refine lv_aload_n hx hb d_HB_take_0 rfl (lv_at hl 0 rfl) ?_
  obtain ⟨u0, hu0, hf⟩ := z_b hf
  have hPc := hP
  have hDc := hD
  have hKc := hK
  refine z_cwi (va_runV (As := []) (rest := []) ⟨hx, hb, hml, hown, hts⟩ (c_HB_isFull l dC dI N a k zcontents zcount hu0 H.size) (cwV 0 hts (zGV zsub_c k_2_86 k_2_75 k_2_76 k_1_6 kc_HB_isFull) rfl rfl rfl (by decide +kernel) ⟨Nat.le_of_ble_eq_true rfl, Nat.le_of_ble_eq_true rfl⟩) ⟨z_bl, va_recv hKc hPc (ci := 4) (q0 := 0) rfl rfl, fun U hU hW => ⟨rfl, z_pre hN hKc hPc hDc U hU hW⟩⟩ rfl rfl hl.1 rfl (lv_room (Nat.le_of_ble_eq_true rfl)) d_HB_take_1 ⟨Nat.zero_le _, Nat.zero_le _⟩) hD hS hA (fun H locs hP hD hS => ?_)
  refine lv_if_eq (tgt := 9) hx hb d_HB_take_4 (by decide) (fun c1 => ?_) (fun c1 => ?_)
  · have hf := z_t c1 hf
    refine lv_aload_n hx hb d_HB_take_9 rfl (lv_at hl 0 rfl) ?_
    refine va_get (D := (dC, dI)) (ci := 4) (v := .ref (a 1)) (C := R_HB) (T := F_HB) (N := 2) hx hb hts (fun w h => List.mem_cons_of_mem _ (in_HB w h)) hown hK hP 0 rfl rfl 0 (by decide) (hts _ (List.mem_cons_of_mem _ k_1_93)) (fun _ h9 => h9) rfl d_HB_take_10 ?_
    refine lv_aload_n hx hb d_HB_take_13 rfl (lv_at hl 0 rfl) ?_
    refine va_get (D := (dC, dI)) (ci := 4) (v := .int zcount) (C := R_HB) (T := F_HB) (N := 2) hx hb hts (fun w h => List.mem_cons_of_mem _ (in_HB w h)) hown hK hP 0 rfl rfl 1 (by decide) (hts _ (List.mem_cons_of_mem _ k_1_94)) (fun _ h9 => h9) rfl d_HB_take_14 ?_
    refine lv_lload_n hx hb d_HB_take_17 rfl (lv_at hl 1 rfl) ?_
    obtain ⟨g2, hf⟩ := z_gz hf
    refine va_last hx hb hK hP hD hS 1 0 rfl rfl g2 d_HB_take_18 (fun H locs hP hD hS => ?_)
    have hP : va_P (dC, dI) zCl (w_HB a k (vp_updL zcontents zcount.toNatClampNeg p1) zcount) H := hP
    have hD : va_D _ (w_HB a k (vp_updL zcontents zcount.toNatClampNeg p1) zcount) := hD
    refine lv_aload_n hx hb d_HB_take_19 rfl (lv_at hl 0 rfl) ?_
    refine lv_dup hx hb d_HB_take_20 rfl ?_
    refine va_get (D := (dC, dI)) (ci := 4) (v := .int zcount) (C := R_HB) (T := F_HB) (N := 2) hx hb hts (fun w h => List.mem_cons_of_mem _ (in_HB w h)) hown hK hP 0 rfl rfl 1 (by decide) (hts _ (List.mem_cons_of_mem _ k_1_94)) (fun _ h9 => h9) rfl d_HB_take_21 ?_
    refine lv_iconst (v := (1 : Int32)) hx hb d_HB_take_24 (by decide) ?_
    refine lv_iadd hx hb d_HB_take_25 ?_
    refine va_put (D := (dC, dI)) (ci := 4) (v := .int (zcount + (1 : Int32))) (ty := .int) (C := R_HB) (T := F_HB) (N := 2) hx hb hts (fun w h => List.mem_cons_of_mem _ (in_HB w h)) ty_HB ty_HB_ok nm_HB hown hK hP hD hS 0 rfl rfl 1 (by decide) (hts _ (List.mem_cons_of_mem _ k_1_94)) (fun _ h9 => h9) rfl (by decide +kernel) rfl rfl (Nat.le_of_ble_eq_true rfl) d_HB_take_26 (fun H locs hP hD hS => ?_)
    have hP : va_P (dC, dI) zCl (w_HB a k (vp_updL zcontents zcount.toNatClampNeg p1) (zcount + (1 : Int32))) H := hP
    have hD : va_D _ (w_HB a k (vp_updL zcontents zcount.toNatClampNeg p1) (zcount + (1 : Int32))) := hD
    refine lv_aload_n hx hb d_HB_take_29 rfl (lv_at hl 0 rfl) ?_
    refine va_get (D := (dC, dI)) (ci := 4) (v := .int (zcount + (1 : Int32))) (C := R_HB) (T := F_HB) (N := 2) hx hb hts (fun w h => List.mem_cons_of_mem _ (in_HB w h)) hown hK hP 0 rfl rfl 1 (by decide) (hts _ (List.mem_cons_of_mem _ k_1_94)) (fun _ h9 => h9) rfl d_HB_take_30 ?_
    refine lv_iconst (v := (1 : Int32)) hx hb d_HB_take_33 (by decide) ?_
    refine lv_isub hx hb d_HB_take_34 ?_
    obtain rfl := Option.some.inj hf
    exact z_iret hx hb hr hP hD hS d_HB_take_35 hlocks
  · have hf := z_f c1 hf
    refine lv_iconst (v := (-1 : Int32)) hx hb d_HB_take_7 (by decide) ?_
    obtain rfl := Option.some.inj hf
    exact z_iret hx hb hr hP hD hS d_HB_take_8 hlocks
set_option maxHeartbeats 4000000 in
set_option maxRecDepth 100000 in
theorem c_HB_has (l : Launch) (dC : Nat → ClassId) (dI : Nat → Nat → Nat) (N : Nat) (a : Nat → Nat) (k : Nat → ClassId) (zcontents : Nat → Int64) (zcount : Int32) (p1 : Int32) {y : (Int32)} (hf : pf_HB_has N zcontents zcount p1 = some y) (sz : Nat) : Met l y_HB_has ww_HB_has ({ frames := 0, cells := 0, slots := 0, locals := 0 }) (va_Pc [.ref (a 0), .int p1] (zB (dC, dI) zCl (t_HB k) (w_HB a k zcontents zcount) sz)) (zQi (dC, dI) zCl (w_HB a k zcontents zcount) sz y (w_HB a k zcontents zcount)) 0 0 (va_A (w_HB a k zcontents zcount) sz) := by
  refine Met.ofW (cc := b_HB_has) (maxL := 2) (ret := (some .boolean)) (by decide) rfl ?_
  intro p e s m args below meth c s₁ B hml hv
  obtain ⟨rfl, rfl, hP, hK, hD, hN⟩ := hv
  have hx := B.exec
  have hb := B.bytes
  have hr := B.returns
  have hts := atoms_spec (ws := ww_HB_has) B.pre
  have hown : s.vm.findClass R_HB = some m.cls := findClass_of_methodNamed B.named
  have hlocks := B.notSynchronized
  have hA : ∀ q : Nat, s.heap.size ≤ q → va_A (w_HB a k zcontents zcount) s.heap.size q := fun q h => Or.inr h
  refine z_start (lv := [(0, .ref (a 0)), (1, .int p1)]) (Nat.le_of_ble_eq_true rfl) rfl hP hD (fun H locs ls hP hD hS hl => ?_)
  unfold pf_HB_has at hf
  refine lv_iload_n hx hb d_HB_has_0 rfl (lv_at hl 1 rfl) ?_
  refine lv_if_lt (tgt := 27) hx hb d_HB_has_1 (by decide) (fun c1 => ?_) (fun c1 => ?_)
  · have hf := z_t c1 hf
    refine lv_iconst (v := (0 : Int32)) hx hb d_HB_has_27 (by decide) ?_
    obtain rfl := Option.some.inj hf
    exact z_zret hx hb hr (Or.inl rfl) hP hD hS d_HB_has_28 hlocks
  · have hf := z_f c1 hf
    refine lv_iload_n hx hb d_HB_has_4 rfl (lv_at hl 1 rfl) ?_
    refine lv_aload_n hx hb d_HB_has_5 rfl (lv_at hl 0 rfl) ?_
    refine va_get (D := (dC, dI)) (ci := 4) (v := .int zcount) (C := R_HB) (T := F_HB) (N := 2) hx hb hts (fun w h => List.mem_cons_of_mem _ (in_HB w h)) hown hK hP 0 rfl rfl 1 (by decide) (hts _ (List.mem_cons_of_mem _ k_1_94)) (fun _ h9 => h9) rfl d_HB_has_6 ?_
    refine lv_icmp_ge (tgt := 27) hx hb d_HB_has_9 (by decide) (fun c2 => ?_) (fun c2 => ?_)
    · have hf := z_t c2 hf
      refine lv_iconst (v := (0 : Int32)) hx hb d_HB_has_27 (by decide) ?_
      obtain rfl := Option.some.inj hf
      exact z_zret hx hb hr (Or.inl rfl) hP hD hS d_HB_has_28 hlocks
    · have hf := z_f c2 hf
      refine lv_aload_n hx hb d_HB_has_12 rfl (lv_at hl 0 rfl) ?_
      refine va_get (D := (dC, dI)) (ci := 4) (v := .ref (a 1)) (C := R_HB) (T := F_HB) (N := 2) hx hb hts (fun w h => List.mem_cons_of_mem _ (in_HB w h)) hown hK hP 0 rfl rfl 0 (by decide) (hts _ (List.mem_cons_of_mem _ k_1_93)) (fun _ h9 => h9) rfl d_HB_has_13 ?_
      refine lv_iload_n hx hb d_HB_has_16 rfl (lv_at hl 1 rfl) ?_
      obtain ⟨g3, hf⟩ := z_gz hf
      refine va_lald hx hb hK hP 1 0 rfl rfl g3 d_HB_has_17 ?_
      refine lv_lconst (v := 0) hx hb d_HB_has_18 (by decide) ?_
      refine W.lcmp hx hb d_HB_has_19 ?_
      refine lv_if_eq (tgt := 27) hx hb d_HB_has_20 (by decide) (fun c4 => ?_) (fun c4 => ?_)
      · have hf := z_t c4 hf
        refine lv_iconst (v := (0 : Int32)) hx hb d_HB_has_27 (by decide) ?_
        obtain rfl := Option.some.inj hf
        exact z_zret hx hb hr (Or.inl rfl) hP hD hS d_HB_has_28 hlocks
      · have hf := z_f c4 hf
        refine lv_iconst (v := (1 : Int32)) hx hb d_HB_has_23 (by decide) ?_
        refine lv_goto (tgt := 28) hx hb d_HB_has_24 (by decide) ?_
        obtain rfl := Option.some.inj hf
        exact z_zret hx hb hr (Or.inr rfl) hP hD hS d_HB_has_28 hlocks
set_option maxHeartbeats 4000000 in
set_option maxRecDepth 100000 in
theorem c_HB_contentOf (l : Launch) (dC : Nat → ClassId) (dI : Nat → Nat → Nat) (N : Nat) (a : Nat → Nat) (k : Nat → ClassId) (zcontents : Nat → Int64) (zcount : Int32) (p1 : Int32) {y : (Int64)} (hf : pf_HB_contentOf N zcontents zcount p1 = some y) (sz : Nat) : Met l y_HB_contentOf ww_HB_contentOf ({ frames := 1, cells := 0, slots := 0, locals := 21 }) (va_Pc [.ref (a 0), .int p1] (zB (dC, dI) zCl (t_HB k) (w_HB a k zcontents zcount) sz)) (zQl (dC, dI) zCl (w_HB a k zcontents zcount) sz y (w_HB a k zcontents zcount)) 0 0 (va_A (w_HB a k zcontents zcount) sz) := by
  refine Met.ofW (cc := b_HB_contentOf) (maxL := 2) (ret := (some .long)) (by decide) rfl ?_
  intro p e s m args below meth c s₁ B hml hv
  obtain ⟨rfl, rfl, hP, hK, hD, hN⟩ := hv
  have hx := B.exec
  have hb := B.bytes
  have hr := B.returns
  have hts := atoms_spec (ws := ww_HB_contentOf) B.pre
  have hown : s.vm.findClass R_HB = some m.cls := findClass_of_methodNamed B.named
  have hlocks := B.notSynchronized
  have hA : ∀ q : Nat, s.heap.size ≤ q → va_A (w_HB a k zcontents zcount) s.heap.size q := fun q h => Or.inr h
  refine z_start (lv := [(0, .ref (a 0)), (1, .int p1)]) (Nat.le_of_ble_eq_true rfl) rfl hP hD (fun H locs ls hP hD hS hl => ?_)
  unfold pf_HB_contentOf at hf
  refine lv_aload_n hx hb d_HB_contentOf_0 rfl (lv_at hl 0 rfl) ?_
  refine lv_iload_n hx hb d_HB_contentOf_1 rfl (lv_at hl 1 rfl) ?_
  obtain ⟨u0, hu0, hf⟩ := z_b hf
  have hPc := hP
  have hDc := hD
  have hKc := hK
  refine z_cwi (va_runV (As := [.int p1]) (rest := []) ⟨hx, hb, hml, hown, hts⟩ (c_HB_has l dC dI N a k zcontents zcount p1 hu0 H.size) (cwV 1 hts (zGV zsub_c k_2_95 k_2_96 k_2_97 k_1_6 kc_HB_has) rfl rfl rfl (by decide +kernel) ⟨Nat.le_of_ble_eq_true rfl, Nat.le_of_ble_eq_true rfl⟩) ⟨z_bl, va_recv hKc hPc (ci := 4) (q0 := 0) rfl rfl, fun U hU hW => ⟨rfl, z_pre hN hKc hPc hDc U hU hW⟩⟩ rfl rfl hl.1 rfl (lv_room (Nat.le_of_ble_eq_true rfl)) d_HB_contentOf_2 ⟨Nat.zero_le _, Nat.zero_le _⟩) hD hS hA (fun H locs hP hD hS => ?_)
  refine lv_if_eq (tgt := 17) hx hb d_HB_contentOf_5 (by decide) (fun c1 => ?_) (fun c1 => ?_)
  · have hf := z_t c1 hf
    refine lv_lconst (v := 0) hx hb d_HB_contentOf_17 (by decide) ?_
    obtain rfl := Option.some.inj hf
    exact z_lret hx hb hr hP hD hS d_HB_contentOf_18 hlocks
  · have hf := z_f c1 hf
    refine lv_aload_n hx hb d_HB_contentOf_8 rfl (lv_at hl 0 rfl) ?_
    refine va_get (D := (dC, dI)) (ci := 4) (v := .ref (a 1)) (C := R_HB) (T := F_HB) (N := 2) hx hb hts (fun w h => List.mem_cons_of_mem _ (in_HB w h)) hown hK hP 0 rfl rfl 0 (by decide) (hts _ (List.mem_cons_of_mem _ k_1_93)) (fun _ h9 => h9) rfl d_HB_contentOf_9 ?_
    refine lv_iload_n hx hb d_HB_contentOf_12 rfl (lv_at hl 1 rfl) ?_
    obtain ⟨g2, hf⟩ := z_gz hf
    refine va_lald hx hb hK hP 1 0 rfl rfl g2 d_HB_contentOf_13 ?_
    refine lv_goto (tgt := 18) hx hb d_HB_contentOf_14 (by decide) ?_
    obtain rfl := Option.some.inj hf
    exact z_lret hx hb hr hP hD hS d_HB_contentOf_18 hlocks
set_option maxHeartbeats 4000000 in
set_option maxRecDepth 100000 in
theorem c_HB_release (l : Launch) (dC : Nat → ClassId) (dI : Nat → Nat → Nat) (N : Nat) (a : Nat → Nat) (k : Nat → ClassId) (zcontents : Nat → Int64) (zcount : Int32) (p1 : Int32) {y : (Int32 × (Nat → Int64))} (hf : pf_HB_release N zcontents zcount p1 = some y) (sz : Nat) : Met l y_HB_release ww_HB_release ({ frames := 1, cells := 0, slots := 0, locals := 21 }) (va_Pc [.ref (a 0), .int p1] (zB (dC, dI) zCl (t_HB k) (w_HB a k zcontents zcount) sz)) (zQi (dC, dI) zCl (w_HB a k zcontents zcount) sz y.1 (w_HB a k y.2 zcount)) 0 0 (va_A (w_HB a k zcontents zcount) sz) := by
  refine Met.ofW (cc := b_HB_release) (maxL := 2) (ret := (some .boolean)) (by decide) rfl ?_
  intro p e s m args below meth c s₁ B hml hv
  obtain ⟨rfl, rfl, hP, hK, hD, hN⟩ := hv
  have hx := B.exec
  have hb := B.bytes
  have hr := B.returns
  have hts := atoms_spec (ws := ww_HB_release) B.pre
  have hown : s.vm.findClass R_HB = some m.cls := findClass_of_methodNamed B.named
  have hlocks := B.notSynchronized
  have hA : ∀ q : Nat, s.heap.size ≤ q → va_A (w_HB a k zcontents zcount) s.heap.size q := fun q h => Or.inr h
  refine z_start (lv := [(0, .ref (a 0)), (1, .int p1)]) (Nat.le_of_ble_eq_true rfl) rfl hP hD (fun H locs ls hP hD hS hl => ?_)
  unfold pf_HB_release at hf
  refine lv_aload_n hx hb d_HB_release_0 rfl (lv_at hl 0 rfl) ?_
  refine lv_iload_n hx hb d_HB_release_1 rfl (lv_at hl 1 rfl) ?_
  obtain ⟨u0, hu0, hf⟩ := z_b hf
  have hPc := hP
  have hDc := hD
  have hKc := hK
  refine z_cwi (va_runV (As := [.int p1]) (rest := []) ⟨hx, hb, hml, hown, hts⟩ (c_HB_has l dC dI N a k zcontents zcount p1 hu0 H.size) (cwV 1 hts (zGV zsub_c k_2_95 k_2_96 k_2_97 k_1_6 kc_HB_has) rfl rfl rfl (by decide +kernel) ⟨Nat.le_of_ble_eq_true rfl, Nat.le_of_ble_eq_true rfl⟩) ⟨z_bl, va_recv hKc hPc (ci := 4) (q0 := 0) rfl rfl, fun U hU hW => ⟨rfl, z_pre hN hKc hPc hDc U hU hW⟩⟩ rfl rfl hl.1 rfl (lv_room (Nat.le_of_ble_eq_true rfl)) d_HB_release_2 ⟨Nat.zero_le _, Nat.zero_le _⟩) hD hS hA (fun H locs hP hD hS => ?_)
  refine lv_if_ne (tgt := 10) hx hb d_HB_release_5 (by decide) (fun c1 => ?_) (fun c1 => ?_)
  · have hf := z_t c1 hf
    refine lv_aload_n hx hb d_HB_release_10 rfl (lv_at hl 0 rfl) ?_
    refine va_get (D := (dC, dI)) (ci := 4) (v := .ref (a 1)) (C := R_HB) (T := F_HB) (N := 2) hx hb hts (fun w h => List.mem_cons_of_mem _ (in_HB w h)) hown hK hP 0 rfl rfl 0 (by decide) (hts _ (List.mem_cons_of_mem _ k_1_93)) (fun _ h9 => h9) rfl d_HB_release_11 ?_
    refine lv_iload_n hx hb d_HB_release_14 rfl (lv_at hl 1 rfl) ?_
    refine lv_lconst (v := 0) hx hb d_HB_release_15 (by decide) ?_
    obtain ⟨g2, hf⟩ := z_gz hf
    refine va_last hx hb hK hP hD hS 1 0 rfl rfl g2 d_HB_release_16 (fun H locs hP hD hS => ?_)
    have hP : va_P (dC, dI) zCl (w_HB a k (vp_updL zcontents p1.toNatClampNeg (0 : Int64)) zcount) H := hP
    have hD : va_D _ (w_HB a k (vp_updL zcontents p1.toNatClampNeg (0 : Int64)) zcount) := hD
    refine lv_iconst (v := (1 : Int32)) hx hb d_HB_release_17 (by decide) ?_
    obtain rfl := Option.some.inj hf
    exact z_zret hx hb hr (Or.inr rfl) hP hD hS d_HB_release_18 hlocks
  · have hf := z_fn c1 hf
    refine lv_iconst (v := (0 : Int32)) hx hb d_HB_release_8 (by decide) ?_
    obtain rfl := Option.some.inj hf
    exact z_zret hx hb hr (Or.inl rfl) hP hD hS d_HB_release_9 hlocks
set_option maxHeartbeats 4000000 in
set_option maxRecDepth 100000 in
theorem c_DM_get (l : Launch) (dC : Nat → ClassId) (dI : Nat → Nat → Nat) (N : Nat) (a : Nat → Nat) (k : Nat → ClassId) (zmarks : Nat → Int32) (p1 : Int32) (p2 : Int32) {y : (Int32)} (hf : pf_DM_get N zmarks p1 p2 = some y) (sz : Nat) : Met l y_DM_get ww_DM_get ({ frames := 1, cells := 0, slots := 0, locals := 20 }) (va_Pc [.ref (a 0), .int p1, .int p2] (zB (dC, dI) zCl (t_DM k) (w_DM a k zmarks) sz)) (zQi (dC, dI) zCl (w_DM a k zmarks) sz y (w_DM a k zmarks)) 0 0 (va_A (w_DM a k zmarks) sz) := by
  refine Met.ofW (cc := b_DM_get) (maxL := 3) (ret := (some .boolean)) (by decide) rfl ?_
  intro p e s m args below meth c s₁ B hml hv
  obtain ⟨rfl, rfl, hP, hK, hD, hN⟩ := hv
  have hx := B.exec
  have hb := B.bytes
  have hr := B.returns
  have hts := atoms_spec (ws := ww_DM_get) B.pre
  have hown : s.vm.findClass R_DM = some m.cls := findClass_of_methodNamed B.named
  have hlocks := B.notSynchronized
  have hA : ∀ q : Nat, s.heap.size ≤ q → va_A (w_DM a k zmarks) s.heap.size q := fun q h => Or.inr h
  refine z_start (lv := [(0, .ref (a 0)), (1, .int p1), (2, .int p2)]) (Nat.le_of_ble_eq_true rfl) rfl hP hD (fun H locs ls hP hD hS hl => ?_)
  unfold pf_DM_get at hf
  refine lv_iload_n hx hb d_DM_get_0 rfl (lv_at hl 1 rfl) ?_
  obtain ⟨u0, hu0, hf⟩ := z_b hf
  have hPc := zP_cut (wc := ([] : va_W)) 0 0 hP rfl
  have hDc := zD_cut (wc := ([] : va_W)) 0 0 hD rfl
  have hKc := hK.sub (tys' := ([] : List (ClassId × FieldType))) [] rfl
  refine z_ci (va_runSN (As := [.int p1]) (rest := []) ⟨hx, hb, hml, hown, hts⟩ (c_OS_isTarget l dC dI N (fun i => a (0 + i)) (fun i => k (0 + i)) p1 hu0 H.size) ⟨va_cnB 1 hts (zGN zsub_c kc_OS_isTarget) rfl rfl rfl (hN _ (List.mem_of_getElem? (i := 7) rfl)) (hts _ (List.mem_cons_of_mem _ k_1_1)) (by decide +kernel) ⟨Nat.le_of_ble_eq_true rfl, Nat.le_of_ble_eq_true rfl⟩, (hts _ (List.mem_cons_of_mem _ k_1_152)), trivial⟩ ⟨z_bl, fun U hU hW => ⟨rfl, z_pre hN hKc hPc hDc U hU hW⟩⟩ rfl rfl hl.1 rfl (lv_room (Nat.le_of_ble_eq_true rfl)) d_DM_get_1 ⟨Nat.zero_le _, Nat.zero_le _⟩) 0 0 (w_DM a k zmarks) hP hD hS hA rfl rfl (fun H locs hP hD hS => ?_)
  refine lv_if_eq (tgt := 32) hx hb d_DM_get_4 (by decide) (fun c1 => ?_) (fun c1 => ?_)
  · have hf := z_t c1 hf
    refine lv_iconst (v := (0 : Int32)) hx hb d_DM_get_32 (by decide) ?_
    obtain rfl := Option.some.inj hf
    exact z_zret hx hb hr (Or.inl rfl) hP hD hS d_DM_get_33 hlocks
  · have hf := z_f c1 hf
    refine lv_iload_n hx hb d_DM_get_7 rfl (lv_at hl 2 rfl) ?_
    obtain ⟨u1, hu1, hf⟩ := z_b hf
    have hPc := zP_cut (wc := ([] : va_W)) 0 0 hP rfl
    have hDc := zD_cut (wc := ([] : va_W)) 0 0 hD rfl
    have hKc := hK.sub (tys' := ([] : List (ClassId × FieldType))) [] rfl
    refine z_ci (va_runSN (As := [.int p2]) (rest := []) ⟨hx, hb, hml, hown, hts⟩ (c_OS_isConfiguration l dC dI N (fun i => a (0 + i)) (fun i => k (0 + i)) p2 hu1 H.size) ⟨va_cnB 1 hts (zGN zsub_c kc_OS_isConfiguration) rfl rfl rfl (hN _ (List.mem_of_getElem? (i := 8) rfl)) (hts _ (List.mem_cons_of_mem _ k_1_1)) (by decide +kernel) ⟨Nat.le_of_ble_eq_true rfl, Nat.le_of_ble_eq_true rfl⟩, (hts _ (List.mem_cons_of_mem _ k_1_155)), trivial⟩ ⟨z_bl, fun U hU hW => ⟨rfl, z_pre hN hKc hPc hDc U hU hW⟩⟩ rfl rfl hl.1 rfl (lv_room (Nat.le_of_ble_eq_true rfl)) d_DM_get_8 ⟨Nat.zero_le _, Nat.zero_le _⟩) 0 0 (w_DM a k zmarks) hP hD hS hA rfl rfl (fun H locs hP hD hS => ?_)
    refine lv_if_eq (tgt := 32) hx hb d_DM_get_11 (by decide) (fun c2 => ?_) (fun c2 => ?_)
    · have hf := z_t c2 hf
      refine lv_iconst (v := (0 : Int32)) hx hb d_DM_get_32 (by decide) ?_
      obtain rfl := Option.some.inj hf
      exact z_zret hx hb hr (Or.inl rfl) hP hD hS d_DM_get_33 hlocks
    · have hf := z_f c2 hf
      refine lv_aload_n hx hb d_DM_get_14 rfl (lv_at hl 0 rfl) ?_
      refine va_get (D := (dC, dI)) (ci := 5) (v := .ref (a 1)) (C := R_DM) (T := F_DM) (N := 1) hx hb hts (fun w h => List.mem_cons_of_mem _ (in_DM w h)) hown hK hP 0 rfl rfl 0 (by decide) (hts _ (List.mem_cons_of_mem _ k_1_106)) (fun _ h9 => h9) rfl d_DM_get_15 ?_
      refine lv_iload_n hx hb d_DM_get_18 rfl (lv_at hl 2 rfl) ?_
      refine lv_bipush (v := (nI 12)) hx hb d_DM_get_19 (by decide) ?_
      refine lv_imul hx hb d_DM_get_21 ?_
      refine lv_iload_n hx hb d_DM_get_22 rfl (lv_at hl 1 rfl) ?_
      refine lv_iadd hx hb d_DM_get_23 ?_
      obtain ⟨g3, hf⟩ := z_gz hf
      refine va_zald hx hb hK hP 1 0 rfl rfl g3 d_DM_get_24 ?_
      refine lv_if_eq (tgt := 32) hx hb d_DM_get_25 (by decide) (fun c4 => ?_) (fun c4 => ?_)
      · have hf := z_t c4 hf
        refine lv_iconst (v := (0 : Int32)) hx hb d_DM_get_32 (by decide) ?_
        obtain rfl := Option.some.inj hf
        exact z_zret hx hb hr (Or.inl rfl) hP hD hS d_DM_get_33 hlocks
      · have hf := z_f c4 hf
        refine lv_iconst (v := (1 : Int32)) hx hb d_DM_get_28 (by decide) ?_
        refine lv_goto (tgt := 33) hx hb d_DM_get_29 (by decide) ?_
        obtain rfl := Option.some.inj hf
        exact z_zret hx hb hr (Or.inr rfl) hP hD hS d_DM_get_33 hlocks
set_option maxHeartbeats 4000000 in
set_option maxRecDepth 100000 in
theorem c_DM_set (l : Launch) (dC : Nat → ClassId) (dI : Nat → Nat → Nat) (N : Nat) (a : Nat → Nat) (k : Nat → ClassId) (zmarks : Nat → Int32) (p1 : Int32) (p2 : Int32) (p3 : Int32) {y : ((Nat → Int32))} (hf : pf_DM_set N zmarks p1 p2 p3 = some y) (sz : Nat) : Met l y_DM_set ww_DM_set ({ frames := 1, cells := 0, slots := 0, locals := 20 }) (va_Pc [.ref (a 0), .int p1, .int p2, .int p3] (zB (dC, dI) zCl (t_DM k) (w_DM a k zmarks) sz)) (zQv (dC, dI) zCl (w_DM a k zmarks) sz (w_DM a k y)) 0 0 (va_A (w_DM a k zmarks) sz) := by
  refine Met.ofW (cc := b_DM_set) (maxL := 4) (ret := none) (by decide) rfl ?_
  intro p e s m args below meth c s₁ B hml hv
  obtain ⟨rfl, rfl, hP, hK, hD, hN⟩ := hv
  have hx := B.exec
  have hb := B.bytes
  have hr := B.returns
  have hts := atoms_spec (ws := ww_DM_set) B.pre
  have hown : s.vm.findClass R_DM = some m.cls := findClass_of_methodNamed B.named
  have hlocks := B.notSynchronized
  have hA : ∀ q : Nat, s.heap.size ≤ q → va_A (w_DM a k zmarks) s.heap.size q := fun q h => Or.inr h
  refine z_start (lv := [(0, .ref (a 0)), (1, .int p1), (2, .int p2), (3, .int p3)]) (Nat.le_of_ble_eq_true rfl) rfl hP hD (fun H locs ls hP hD hS hl => ?_)
  unfold pf_DM_set at hf
  refine lv_iload_n hx hb d_DM_set_0 rfl (lv_at hl 1 rfl) ?_
  obtain ⟨u0, hu0, hf⟩ := z_b hf
  have hPc := zP_cut (wc := ([] : va_W)) 0 0 hP rfl
  have hDc := zD_cut (wc := ([] : va_W)) 0 0 hD rfl
  have hKc := hK.sub (tys' := ([] : List (ClassId × FieldType))) [] rfl
  refine z_ci (va_runSN (As := [.int p1]) (rest := []) ⟨hx, hb, hml, hown, hts⟩ (c_OS_isTarget l dC dI N (fun i => a (0 + i)) (fun i => k (0 + i)) p1 hu0 H.size) ⟨va_cnB 1 hts (zGN zsub_c kc_OS_isTarget) rfl rfl rfl (hN _ (List.mem_of_getElem? (i := 7) rfl)) (hts _ (List.mem_cons_of_mem _ k_1_1)) (by decide +kernel) ⟨Nat.le_of_ble_eq_true rfl, Nat.le_of_ble_eq_true rfl⟩, (hts _ (List.mem_cons_of_mem _ k_1_152)), trivial⟩ ⟨z_bl, fun U hU hW => ⟨rfl, z_pre hN hKc hPc hDc U hU hW⟩⟩ rfl rfl hl.1 rfl (lv_room (Nat.le_of_ble_eq_true rfl)) d_DM_set_1 ⟨Nat.zero_le _, Nat.zero_le _⟩) 0 0 (w_DM a k zmarks) hP hD hS hA rfl rfl (fun H locs hP hD hS => ?_)
  refine lv_if_eq (tgt := 26) hx hb d_DM_set_4 (by decide) (fun c1 => ?_) (fun c1 => ?_)
  · have hf := z_t c1 hf
    obtain rfl := Option.some.inj hf
    exact z_vret hx hb hr hP hD hS d_DM_set_26 hlocks
  · have hf := z_f c1 hf
    refine lv_iload_n hx hb d_DM_set_7 rfl (lv_at hl 2 rfl) ?_
    obtain ⟨u1, hu1, hf⟩ := z_b hf
    have hPc := zP_cut (wc := ([] : va_W)) 0 0 hP rfl
    have hDc := zD_cut (wc := ([] : va_W)) 0 0 hD rfl
    have hKc := hK.sub (tys' := ([] : List (ClassId × FieldType))) [] rfl
    refine z_ci (va_runSN (As := [.int p2]) (rest := []) ⟨hx, hb, hml, hown, hts⟩ (c_OS_isConfiguration l dC dI N (fun i => a (0 + i)) (fun i => k (0 + i)) p2 hu1 H.size) ⟨va_cnB 1 hts (zGN zsub_c kc_OS_isConfiguration) rfl rfl rfl (hN _ (List.mem_of_getElem? (i := 8) rfl)) (hts _ (List.mem_cons_of_mem _ k_1_1)) (by decide +kernel) ⟨Nat.le_of_ble_eq_true rfl, Nat.le_of_ble_eq_true rfl⟩, (hts _ (List.mem_cons_of_mem _ k_1_155)), trivial⟩ ⟨z_bl, fun U hU hW => ⟨rfl, z_pre hN hKc hPc hDc U hU hW⟩⟩ rfl rfl hl.1 rfl (lv_room (Nat.le_of_ble_eq_true rfl)) d_DM_set_8 ⟨Nat.zero_le _, Nat.zero_le _⟩) 0 0 (w_DM a k zmarks) hP hD hS hA rfl rfl (fun H locs hP hD hS => ?_)
    refine lv_if_eq (tgt := 26) hx hb d_DM_set_11 (by decide) (fun c2 => ?_) (fun c2 => ?_)
    · have hf := z_t c2 hf
      obtain rfl := Option.some.inj hf
      exact z_vret hx hb hr hP hD hS d_DM_set_26 hlocks
    · have hf := z_f c2 hf
      refine lv_aload_n hx hb d_DM_set_14 rfl (lv_at hl 0 rfl) ?_
      refine va_get (D := (dC, dI)) (ci := 5) (v := .ref (a 1)) (C := R_DM) (T := F_DM) (N := 1) hx hb hts (fun w h => List.mem_cons_of_mem _ (in_DM w h)) hown hK hP 0 rfl rfl 0 (by decide) (hts _ (List.mem_cons_of_mem _ k_1_106)) (fun _ h9 => h9) rfl d_DM_set_15 ?_
      refine lv_iload_n hx hb d_DM_set_18 rfl (lv_at hl 2 rfl) ?_
      refine lv_bipush (v := (nI 12)) hx hb d_DM_set_19 (by decide) ?_
      refine lv_imul hx hb d_DM_set_21 ?_
      refine lv_iload_n hx hb d_DM_set_22 rfl (lv_at hl 1 rfl) ?_
      refine lv_iadd hx hb d_DM_set_23 ?_
      refine lv_iload_n hx hb d_DM_set_24 rfl (lv_at hl 3 rfl) ?_
      obtain ⟨g3, hf⟩ := z_gz hf
      refine va_zast hx hb hK hP hD hS 1 0 rfl rfl g3 d_DM_set_25 (fun H locs hP hD hS => ?_)
      have hP : va_P (dC, dI) zCl (w_DM a k (upd zmarks ((p2 * (nI 12)) + p1).toNatClampNeg (vp_nar .boolean p3))) H := hP
      have hD : va_D _ (w_DM a k (upd zmarks ((p2 * (nI 12)) + p1).toNatClampNeg (vp_nar .boolean p3))) := hD
      obtain rfl := Option.some.inj hf
      exact z_vret hx hb hr hP hD hS d_DM_set_26 hlocks
end
section
set_option maxHeartbeats 4000000 in
set_option maxRecDepth 100000 in
theorem c_OS_slotOf (l : Launch) (dC : Nat → ClassId) (dI : Nat → Nat → Nat) (N : Nat) (a : Nat → Nat) (k : Nat → ClassId) (zpaths_outer : Nat → Int32) (zpaths_count : Int32) (zsteps_targets : Nat → Int32) (zsteps_configurations : Nat → Int32) (zsteps_runs : Nat → Int32) (zsteps_opened : Nat → Int32) (zsteps_count : Int32) (zoutputs_contents : Nat → Int64) (zoutputs_makers : Nat → Int32) (zoutputs_executables : Nat → Int32) (zoutputs_lazies : Nat → Int32) (zstaged_contents : Nat → Int64) (zstaged_makers : Nat → Int32) (zstaged_executables : Nat → Int32) (zstaged_lazies : Nat → Int32) (zcached_contents : Nat → Int64) (zcached_count : Int32) (zholds_contents : Nat → Int64) (zholds_count : Int32) (zdirtyMarks_marks : Nat → Int32) (zdifferent : Nat → Int64) (p1 : Int32) (p2 : Int32) {y : (Int32)} (hf : pf_OS_slotOf N zpaths_count p1 p2 = some y) (sz : Nat) : Met l y_OS_slotOf ww_OS_slotOf ({ frames := 1, cells := 0, slots := 0, locals := 21 }) (va_Pc [.ref (a 0), .int p1, .int p2] (zB (dC, dI) zCl (t_OS k) (w_OS a k zpaths_outer zpaths_count zsteps_targets zsteps_configurations zsteps_runs zsteps_opened zsteps_count zoutputs_contents zoutputs_makers zoutputs_executables zoutputs_lazies zstaged_contents zstaged_makers zstaged_executables zstaged_lazies zcached_contents zcached_count zholds_contents zholds_count zdirtyMarks_marks zdifferent) sz)) (zQi (dC, dI) zCl (w_OS a k zpaths_outer zpaths_count zsteps_targets zsteps_configurations zsteps_runs zsteps_opened zsteps_count zoutputs_contents zoutputs_makers zoutputs_executables zoutputs_lazies zstaged_contents zstaged_makers zstaged_executables zstaged_lazies zcached_contents zcached_count zholds_contents zholds_count zdirtyMarks_marks zdifferent) sz y (w_OS a k zpaths_outer zpaths_count zsteps_targets zsteps_configurations zsteps_runs zsteps_opened zsteps_count zoutputs_contents zoutputs_makers zoutputs_executables zoutputs_lazies zstaged_contents zstaged_makers zstaged_executables zstaged_lazies zcached_contents zcached_count zholds_contents zholds_count zdirtyMarks_marks zdifferent)) 0 0 (va_A (w_OS a k zpaths_outer zpaths_count zsteps_targets zsteps_configurations zsteps_runs zsteps_opened zsteps_count zoutputs_contents zoutputs_makers zoutputs_executables zoutputs_lazies zstaged_contents zstaged_makers zstaged_executables zstaged_lazies zcached_contents zcached_count zholds_contents zholds_count zdirtyMarks_marks zdifferent) sz) := by
  refine Met.ofW (cc := b_OS_slotOf) (maxL := 3) (ret := (some .int)) (by decide) rfl ?_
  intro p e s m args below meth c s₁ B hml hv
  obtain ⟨rfl, rfl, hP, hK, hD, hN⟩ := hv
  have hx := B.exec
  have hb := B.bytes
  have hr := B.returns
  have hts := atoms_spec (ws := ww_OS_slotOf) B.pre
  have hown : s.vm.findClass R_OS = some m.cls := findClass_of_methodNamed B.named
  have hlocks := B.notSynchronized
  have hA : ∀ q : Nat, s.heap.size ≤ q → va_A (w_OS a k zpaths_outer zpaths_count zsteps_targets zsteps_configurations zsteps_runs zsteps_opened zsteps_count zoutputs_contents zoutputs_makers zoutputs_executables zoutputs_lazies zstaged_contents zstaged_makers zstaged_executables zstaged_lazies zcached_contents zcached_count zholds_contents zholds_count zdirtyMarks_marks zdifferent) s.heap.size q := fun q h => Or.inr h
  refine z_start (lv := [(0, .ref (a 0)), (1, .int p1), (2, .int p2)]) (Nat.le_of_ble_eq_true rfl) rfl hP hD (fun H locs ls hP hD hS hl => ?_)
  unfold pf_OS_slotOf at hf
  refine lv_iload_n hx hb d_OS_slotOf_0 rfl (lv_at hl 1 rfl) ?_
  obtain ⟨u0, hu0, hf⟩ := z_b hf
  have hPc := zP_cut (wc := ([] : va_W)) 0 0 hP rfl
  have hDc := zD_cut (wc := ([] : va_W)) 0 0 hD rfl
  have hKc := hK.sub (tys' := ([] : List (ClassId × FieldType))) [] rfl
  refine z_ci (va_runS (As := [.int p1]) (rest := []) ⟨hx, hb, hml, hown, hts⟩ (c_OS_isConfiguration l dC dI N (fun i => a (0 + i)) (fun i => k (0 + i)) p1 hu0 H.size) (cwS 1 hts (zGS zsub_c k_1_154 k_1_155 k_1_1 kc_OS_isConfiguration) rfl rfl rfl (by decide +kernel) ⟨Nat.le_of_ble_eq_true rfl, Nat.le_of_ble_eq_true rfl⟩) ⟨z_bl, fun U hU hW => ⟨rfl, z_pre hN hKc hPc hDc U hU hW⟩⟩ rfl rfl hl.1 rfl (lv_room (Nat.le_of_ble_eq_true rfl)) d_OS_slotOf_1 ⟨Nat.zero_le _, Nat.zero_le _⟩) 0 0 (w_OS a k zpaths_outer zpaths_count zsteps_targets zsteps_configurations zsteps_runs zsteps_opened zsteps_count zoutputs_contents zoutputs_makers zoutputs_executables zoutputs_lazies zstaged_contents zstaged_makers zstaged_executables zstaged_lazies zcached_contents zcached_count zholds_contents zholds_count zdirtyMarks_marks zdifferent) hP hD hS hA rfl rfl (fun H locs hP hD hS => ?_)
  refine lv_if_eq (tgt := 18) hx hb d_OS_slotOf_4 (by decide) (fun c1 => ?_) (fun c1 => ?_)
  · have hf := z_t c1 hf
    refine lv_iconst (v := (-1 : Int32)) hx hb d_OS_slotOf_18 (by decide) ?_
    obtain rfl := Option.some.inj hf
    exact z_iret hx hb hr hP hD hS d_OS_slotOf_19 hlocks
  · have hf := z_f c1 hf
    refine lv_aload_n hx hb d_OS_slotOf_7 rfl (lv_at hl 0 rfl) ?_
    refine va_get (D := (dC, dI)) (ci := 6) (v := .ref (a 1)) (C := R_OS) (T := F_OS) (N := 8) hx hb hts (fun w h => List.mem_cons_of_mem _ (in_OS w h)) hown hK hP 0 rfl rfl 0 (by decide) (hts _ (List.mem_cons_of_mem _ k_1_110)) (fun _ h9 => h9) rfl d_OS_slotOf_8 ?_
    refine lv_iload_n hx hb d_OS_slotOf_11 rfl (lv_at hl 2 rfl) ?_
    obtain ⟨u1, hu1, hf⟩ := z_b hf
    have hPc := zP_cut (wc := (w_PT (fun i => a (1 + i)) (fun i => k (0 + i)) zpaths_outer zpaths_count)) 1 3 hP rfl
    have hDc := zD_cut (wc := (w_PT (fun i => a (1 + i)) (fun i => k (0 + i)) zpaths_outer zpaths_count)) 1 3 hD rfl
    have hKc := hK.sub (tys' := (t_PT (fun i => k (0 + i)))) [0] rfl
    refine z_ci (va_runV (As := [.int p2]) (rest := []) ⟨hx, hb, hml, hown, hts⟩ (c_PT_has l dC dI N (fun i => a (1 + i)) (fun i => k (0 + i)) zpaths_outer zpaths_count p2 hu1 H.size) (cwV 1 hts (zGV zsub_c k_1_186 k_1_144 k_1_145 k_1_2 kc_PT_has) rfl rfl rfl (by decide +kernel) ⟨Nat.le_of_ble_eq_true rfl, Nat.le_of_ble_eq_true rfl⟩) ⟨z_bl, va_recv hKc hPc (ci := 0) (q0 := 0) rfl rfl, fun U hU hW => ⟨rfl, z_pre hN hKc hPc hDc U hU hW⟩⟩ rfl rfl hl.1 rfl (lv_room (Nat.le_of_ble_eq_true rfl)) d_OS_slotOf_12 ⟨Nat.zero_le _, Nat.zero_le _⟩) 1 3 (w_OS a k zpaths_outer zpaths_count zsteps_targets zsteps_configurations zsteps_runs zsteps_opened zsteps_count zoutputs_contents zoutputs_makers zoutputs_executables zoutputs_lazies zstaged_contents zstaged_makers zstaged_executables zstaged_lazies zcached_contents zcached_count zholds_contents zholds_count zdirtyMarks_marks zdifferent) hP hD hS hA rfl rfl (fun H locs hP hD hS => ?_)
    refine lv_if_ne (tgt := 20) hx hb d_OS_slotOf_15 (by decide) (fun c2 => ?_) (fun c2 => ?_)
    · have hf := z_t c2 hf
      refine lv_iload_n hx hb d_OS_slotOf_20 rfl (lv_at hl 1 rfl) ?_
      refine lv_bipush (v := (nI 40)) hx hb d_OS_slotOf_21 (by decide) ?_
      refine lv_imul hx hb d_OS_slotOf_23 ?_
      refine lv_iload_n hx hb d_OS_slotOf_24 rfl (lv_at hl 2 rfl) ?_
      refine lv_iadd hx hb d_OS_slotOf_25 ?_
      obtain rfl := Option.some.inj hf
      exact z_iret hx hb hr hP hD hS d_OS_slotOf_26 hlocks
    · have hf := z_fn c2 hf
      refine lv_iconst (v := (-1 : Int32)) hx hb d_OS_slotOf_18 (by decide) ?_
      obtain rfl := Option.some.inj hf
      exact z_iret hx hb hr hP hD hS d_OS_slotOf_19 hlocks
set_option maxHeartbeats 4000000 in
set_option maxRecDepth 100000 in
theorem c_OS_targetAt (l : Launch) (dC : Nat → ClassId) (dI : Nat → Nat → Nat) (N : Nat) (a : Nat → Nat) (k : Nat → ClassId) (zpaths_outer : Nat → Int32) (zpaths_count : Int32) (zsteps_targets : Nat → Int32) (zsteps_configurations : Nat → Int32) (zsteps_runs : Nat → Int32) (zsteps_opened : Nat → Int32) (zsteps_count : Int32) (zoutputs_contents : Nat → Int64) (zoutputs_makers : Nat → Int32) (zoutputs_executables : Nat → Int32) (zoutputs_lazies : Nat → Int32) (zstaged_contents : Nat → Int64) (zstaged_makers : Nat → Int32) (zstaged_executables : Nat → Int32) (zstaged_lazies : Nat → Int32) (zcached_contents : Nat → Int64) (zcached_count : Int32) (zholds_contents : Nat → Int64) (zholds_count : Int32) (zdirtyMarks_marks : Nat → Int32) (zdifferent : Nat → Int64) (p1 : Int32) {y : (Int32)} (hf : pf_OS_targetAt N zsteps_targets zsteps_count zoutputs_contents zoutputs_makers p1 = some y) (sz : Nat) : Met l y_OS_targetAt ww_OS_targetAt ({ frames := 2, cells := 0, slots := 0, locals := 42 }) (va_Pc [.ref (a 0), .int p1] (zB (dC, dI) zCl (t_OS k) (w_OS a k zpaths_outer zpaths_count zsteps_targets zsteps_configurations zsteps_runs zsteps_opened zsteps_count zoutputs_contents zoutputs_makers zoutputs_executables zoutputs_lazies zstaged_contents zstaged_makers zstaged_executables zstaged_lazies zcached_contents zcached_count zholds_contents zholds_count zdirtyMarks_marks zdifferent) sz)) (zQi (dC, dI) zCl (w_OS a k zpaths_outer zpaths_count zsteps_targets zsteps_configurations zsteps_runs zsteps_opened zsteps_count zoutputs_contents zoutputs_makers zoutputs_executables zoutputs_lazies zstaged_contents zstaged_makers zstaged_executables zstaged_lazies zcached_contents zcached_count zholds_contents zholds_count zdirtyMarks_marks zdifferent) sz y (w_OS a k zpaths_outer zpaths_count zsteps_targets zsteps_configurations zsteps_runs zsteps_opened zsteps_count zoutputs_contents zoutputs_makers zoutputs_executables zoutputs_lazies zstaged_contents zstaged_makers zstaged_executables zstaged_lazies zcached_contents zcached_count zholds_contents zholds_count zdirtyMarks_marks zdifferent)) 0 0 (va_A (w_OS a k zpaths_outer zpaths_count zsteps_targets zsteps_configurations zsteps_runs zsteps_opened zsteps_count zoutputs_contents zoutputs_makers zoutputs_executables zoutputs_lazies zstaged_contents zstaged_makers zstaged_executables zstaged_lazies zcached_contents zcached_count zholds_contents zholds_count zdirtyMarks_marks zdifferent) sz) := by
  refine Met.ofW (cc := b_OS_targetAt) (maxL := 2) (ret := (some .int)) (by decide) rfl ?_
  intro p e s m args below meth c s₁ B hml hv
  obtain ⟨rfl, rfl, hP, hK, hD, hN⟩ := hv
  have hx := B.exec
  have hb := B.bytes
  have hr := B.returns
  have hts := atoms_spec (ws := ww_OS_targetAt) B.pre
  have hown : s.vm.findClass R_OS = some m.cls := findClass_of_methodNamed B.named
  have hlocks := B.notSynchronized
  have hA : ∀ q : Nat, s.heap.size ≤ q → va_A (w_OS a k zpaths_outer zpaths_count zsteps_targets zsteps_configurations zsteps_runs zsteps_opened zsteps_count zoutputs_contents zoutputs_makers zoutputs_executables zoutputs_lazies zstaged_contents zstaged_makers zstaged_executables zstaged_lazies zcached_contents zcached_count zholds_contents zholds_count zdirtyMarks_marks zdifferent) s.heap.size q := fun q h => Or.inr h
  refine z_start (lv := [(0, .ref (a 0)), (1, .int p1)]) (Nat.le_of_ble_eq_true rfl) rfl hP hD (fun H locs ls hP hD hS hl => ?_)
  unfold pf_OS_targetAt at hf
  refine lv_aload_n hx hb d_OS_targetAt_0 rfl (lv_at hl 0 rfl) ?_
  refine va_get (D := (dC, dI)) (ci := 6) (v := .ref (a 3)) (C := R_OS) (T := F_OS) (N := 8) hx hb hts (fun w h => List.mem_cons_of_mem _ (in_OS w h)) hown hK hP 0 rfl rfl 1 (by decide) (hts _ (List.mem_cons_of_mem _ k_1_111)) (fun _ h9 => h9) rfl d_OS_targetAt_1 ?_
  refine lv_aload_n hx hb d_OS_targetAt_4 rfl (lv_at hl 0 rfl) ?_
  refine va_get (D := (dC, dI)) (ci := 6) (v := .ref (a 8)) (C := R_OS) (T := F_OS) (N := 8) hx hb hts (fun w h => List.mem_cons_of_mem _ (in_OS w h)) hown hK hP 0 rfl rfl 2 (by decide) (hts _ (List.mem_cons_of_mem _ k_1_112)) (fun _ h9 => h9) rfl d_OS_targetAt_5 ?_
  refine lv_iload_n hx hb d_OS_targetAt_8 rfl (lv_at hl 1 rfl) ?_
  obtain ⟨u0, hu0, hf⟩ := z_b hf
  have hPc := zP_cut (wc := (w_LT (fun i => a (8 + i)) (fun i => k (5 + i)) zoutputs_contents zoutputs_makers zoutputs_executables zoutputs_lazies)) 8 13 hP rfl
  have hDc := zD_cut (wc := (w_LT (fun i => a (8 + i)) (fun i => k (5 + i)) zoutputs_contents zoutputs_makers zoutputs_executables zoutputs_lazies)) 8 13 hD rfl
  have hKc := hK.sub (tys' := (t_LT (fun i => k (5 + i)))) [5, 6, 7, 8] rfl
  refine z_ci (va_runV (As := [.int p1]) (rest := [.ref (a 3)]) ⟨hx, hb, hml, hown, hts⟩ (c_LT_stepAt l dC dI N (fun i => a (8 + i)) (fun i => k (5 + i)) zoutputs_contents zoutputs_makers zoutputs_executables zoutputs_lazies p1 hu0 H.size) (cwV 1 hts (zGV zsub_c k_1_220 k_1_221 k_1_222 k_1_4 kc_LT_stepAt) rfl rfl rfl (by decide +kernel) ⟨Nat.le_of_ble_eq_true rfl, Nat.le_of_ble_eq_true rfl⟩) ⟨z_bl, va_recv hKc hPc (ci := 2) (q0 := 0) rfl rfl, fun U hU hW => ⟨rfl, z_pre hN hKc hPc hDc U hU hW⟩⟩ rfl rfl hl.1 rfl (lv_room (Nat.le_of_ble_eq_true rfl)) d_OS_targetAt_9 ⟨Nat.zero_le _, Nat.zero_le _⟩) 8 13 (w_OS a k zpaths_outer zpaths_count zsteps_targets zsteps_configurations zsteps_runs zsteps_opened zsteps_count zoutputs_contents zoutputs_makers zoutputs_executables zoutputs_lazies zstaged_contents zstaged_makers zstaged_executables zstaged_lazies zcached_contents zcached_count zholds_contents zholds_count zdirtyMarks_marks zdifferent) hP hD hS hA rfl rfl (fun H locs hP hD hS => ?_)
  obtain ⟨u1, hu1, hf⟩ := z_b hf
  have hPc := zP_cut (wc := (w_SB (fun i => a (3 + i)) (fun i => k (1 + i)) zsteps_targets zsteps_configurations zsteps_runs zsteps_opened zsteps_count)) 3 8 hP rfl
  have hDc := zD_cut (wc := (w_SB (fun i => a (3 + i)) (fun i => k (1 + i)) zsteps_targets zsteps_configurations zsteps_runs zsteps_opened zsteps_count)) 3 8 hD rfl
  have hKc := hK.sub (tys' := (t_SB (fun i => k (1 + i)))) [1, 2, 3, 4] rfl
  refine z_ci (va_runV (As := [.int u0]) (rest := []) ⟨hx, hb, hml, hown, hts⟩ (c_SB_targetOf l dC dI N (fun i => a (3 + i)) (fun i => k (1 + i)) zsteps_targets zsteps_configurations zsteps_runs zsteps_opened zsteps_count u0 hu1 H.size) (cwV 1 hts (zGV zsub_c k_1_224 k_1_225 k_1_226 k_1_3 kc_SB_targetOf) rfl rfl rfl (by decide +kernel) ⟨Nat.le_of_ble_eq_true rfl, Nat.le_of_ble_eq_true rfl⟩) ⟨z_bl, va_recv hKc hPc (ci := 1) (q0 := 0) rfl rfl, fun U hU hW => ⟨rfl, z_pre hN hKc hPc hDc U hU hW⟩⟩ rfl rfl hl.1 rfl (lv_room (Nat.le_of_ble_eq_true rfl)) d_OS_targetAt_12 ⟨Nat.zero_le _, Nat.zero_le _⟩) 3 8 (w_OS a k zpaths_outer zpaths_count zsteps_targets zsteps_configurations zsteps_runs zsteps_opened zsteps_count zoutputs_contents zoutputs_makers zoutputs_executables zoutputs_lazies zstaged_contents zstaged_makers zstaged_executables zstaged_lazies zcached_contents zcached_count zholds_contents zholds_count zdirtyMarks_marks zdifferent) hP hD hS hA rfl rfl (fun H locs hP hD hS => ?_)
  obtain rfl := Option.some.inj hf
  exact z_iret hx hb hr hP hD hS d_OS_targetAt_15 hlocks
set_option maxHeartbeats 4000000 in
set_option maxRecDepth 100000 in
theorem c_OS_dropStaged (l : Launch) (dC : Nat → ClassId) (dI : Nat → Nat → Nat) (N : Nat) (a : Nat → Nat) (k : Nat → ClassId) (zpaths_outer : Nat → Int32) (zpaths_count : Int32) (zsteps_targets : Nat → Int32) (zsteps_configurations : Nat → Int32) (zsteps_runs : Nat → Int32) (zsteps_opened : Nat → Int32) (zsteps_count : Int32) (zoutputs_contents : Nat → Int64) (zoutputs_makers : Nat → Int32) (zoutputs_executables : Nat → Int32) (zoutputs_lazies : Nat → Int32) (zstaged_contents : Nat → Int64) (zstaged_makers : Nat → Int32) (zstaged_executables : Nat → Int32) (zstaged_lazies : Nat → Int32) (zcached_contents : Nat → Int64) (zcached_count : Int32) (zholds_contents : Nat → Int64) (zholds_count : Int32) (zdirtyMarks_marks : Nat → Int32) (zdifferent : Nat → Int64) (p1 : Int32) {y : ((Nat → Int64))} (hf : pf_OS_dropStaged N zpaths_count zsteps_configurations zsteps_count zstaged_contents zstaged_makers p1 = some y) (sz : Nat) : Met l y_OS_dropStaged ww_OS_dropStaged ({ frames := 2, cells := 0, slots := 0, locals := 43 }) (va_Pc [.ref (a 0), .int p1] (zB (dC, dI) zCl (t_OS k) (w_OS a k zpaths_outer zpaths_count zsteps_targets zsteps_configurations zsteps_runs zsteps_opened zsteps_count zoutputs_contents zoutputs_makers zoutputs_executables zoutputs_lazies zstaged_contents zstaged_makers zstaged_executables zstaged_lazies zcached_contents zcached_count zholds_contents zholds_count zdirtyMarks_marks zdifferent) sz)) (zQv (dC, dI) zCl (w_OS a k zpaths_outer zpaths_count zsteps_targets zsteps_configurations zsteps_runs zsteps_opened zsteps_count zoutputs_contents zoutputs_makers zoutputs_executables zoutputs_lazies zstaged_contents zstaged_makers zstaged_executables zstaged_lazies zcached_contents zcached_count zholds_contents zholds_count zdirtyMarks_marks zdifferent) sz (w_OS a k zpaths_outer zpaths_count zsteps_targets zsteps_configurations zsteps_runs zsteps_opened zsteps_count zoutputs_contents zoutputs_makers zoutputs_executables zoutputs_lazies y zstaged_makers zstaged_executables zstaged_lazies zcached_contents zcached_count zholds_contents zholds_count zdirtyMarks_marks zdifferent)) 0 0 (va_A (w_OS a k zpaths_outer zpaths_count zsteps_targets zsteps_configurations zsteps_runs zsteps_opened zsteps_count zoutputs_contents zoutputs_makers zoutputs_executables zoutputs_lazies zstaged_contents zstaged_makers zstaged_executables zstaged_lazies zcached_contents zcached_count zholds_contents zholds_count zdirtyMarks_marks zdifferent) sz) := by
  refine Met.ofW (cc := b_OS_dropStaged) (maxL := 5) (ret := none) (by decide) rfl ?_
  intro p e s m args below meth c s₁ B hml hv
  obtain ⟨rfl, rfl, hP, hK, hD, hN⟩ := hv
  have hx := B.exec
  have hb := B.bytes
  have hr := B.returns
  have hts := atoms_spec (ws := ww_OS_dropStaged) B.pre
  have hown : s.vm.findClass R_OS = some m.cls := findClass_of_methodNamed B.named
  have hlocks := B.notSynchronized
  have hA : ∀ q : Nat, s.heap.size ≤ q → va_A (w_OS a k zpaths_outer zpaths_count zsteps_targets zsteps_configurations zsteps_runs zsteps_opened zsteps_count zoutputs_contents zoutputs_makers zoutputs_executables zoutputs_lazies zstaged_contents zstaged_makers zstaged_executables zstaged_lazies zcached_contents zcached_count zholds_contents zholds_count zdirtyMarks_marks zdifferent) s.heap.size q := fun q h => Or.inr h
  refine z_start (lv := [(0, .ref (a 0)), (1, .int p1)]) (Nat.le_of_ble_eq_true rfl) rfl hP hD (fun H locs ls hP hD hS hl => ?_)
  unfold pf_OS_dropStaged at hf
  refine lv_aload_n hx hb d_OS_dropStaged_0 rfl (lv_at hl 0 rfl) ?_
  refine va_get (D := (dC, dI)) (ci := 6) (v := .ref (a 3)) (C := R_OS) (T := F_OS) (N := 8) hx hb hts (fun w h => List.mem_cons_of_mem _ (in_OS w h)) hown hK hP 0 rfl rfl 1 (by decide) (hts _ (List.mem_cons_of_mem _ k_1_111)) (fun _ h9 => h9) rfl d_OS_dropStaged_1 ?_
  refine lv_iload_n hx hb d_OS_dropStaged_4 rfl (lv_at hl 1 rfl) ?_
  obtain ⟨u0, hu0, hf⟩ := z_b hf
  have hPc := zP_cut (wc := (w_SB (fun i => a (3 + i)) (fun i => k (1 + i)) zsteps_targets zsteps_configurations zsteps_runs zsteps_opened zsteps_count)) 3 8 hP rfl
  have hDc := zD_cut (wc := (w_SB (fun i => a (3 + i)) (fun i => k (1 + i)) zsteps_targets zsteps_configurations zsteps_runs zsteps_opened zsteps_count)) 3 8 hD rfl
  have hKc := hK.sub (tys' := (t_SB (fun i => k (1 + i)))) [1, 2, 3, 4] rfl
  refine z_ci (va_runV (As := [.int p1]) (rest := []) ⟨hx, hb, hml, hown, hts⟩ (c_SB_configurationOf l dC dI N (fun i => a (3 + i)) (fun i => k (1 + i)) zsteps_targets zsteps_configurations zsteps_runs zsteps_opened zsteps_count p1 hu0 H.size) (cwV 1 hts (zGV zsub_c k_1_187 k_1_188 k_1_189 k_1_3 kc_SB_configurationOf) rfl rfl rfl (by decide +kernel) ⟨Nat.le_of_ble_eq_true rfl, Nat.le_of_ble_eq_true rfl⟩) ⟨z_bl, va_recv hKc hPc (ci := 1) (q0 := 0) rfl rfl, fun U hU hW => ⟨rfl, z_pre hN hKc hPc hDc U hU hW⟩⟩ rfl rfl hl.1 rfl (lv_room (Nat.le_of_ble_eq_true rfl)) d_OS_dropStaged_5 ⟨Nat.zero_le _, Nat.zero_le _⟩) 3 8 (w_OS a k zpaths_outer zpaths_count zsteps_targets zsteps_configurations zsteps_runs zsteps_opened zsteps_count zoutputs_contents zoutputs_makers zoutputs_executables zoutputs_lazies zstaged_contents zstaged_makers zstaged_executables zstaged_lazies zcached_contents zcached_count zholds_contents zholds_count zdirtyMarks_marks zdifferent) hP hD hS hA rfl rfl (fun H locs hP hD hS => ?_)
  refine lv_istore_n (lv' := [(2, .int u0), (0, .ref (a 0)), (1, .int p1)]) hx hb d_OS_dropStaged_8 rfl hl (by decide) rfl (fun ls hl => ?_)
  refine lv_iconst (v := (0 : Int32)) hx hb d_OS_dropStaged_9 (by decide) ?_
  refine lv_istore_n (lv' := [(3, .int (0 : Int32)), (2, .int u0), (0, .ref (a 0)), (1, .int p1)]) hx hb d_OS_dropStaged_10 rfl hl (by decide) rfl (fun ls hl => ?_)
  have loop11 : ∀ (n : Nat) (zstaged_contents' : Nat → Int64) (x3 : Int32), pf_OS_dropStaged_L11 N zpaths_count zstaged_makers p1 u0 n zstaged_contents' x3 = some y → ∀ (H : Heap) (locs : List Loc) (ls : Array Slot), va_P (dC, dI) zCl (w_OS a k zpaths_outer zpaths_count zsteps_targets zsteps_configurations zsteps_runs zsteps_opened zsteps_count zoutputs_contents zoutputs_makers zoutputs_executables zoutputs_lazies zstaged_contents' zstaged_makers zstaged_executables zstaged_lazies zcached_contents zcached_count zholds_contents zholds_count zdirtyMarks_marks zdifferent) H → va_D (va_A (w_OS a k zpaths_outer zpaths_count zsteps_targets zsteps_configurations zsteps_runs zsteps_opened zsteps_count zoutputs_contents zoutputs_makers zoutputs_executables zoutputs_lazies zstaged_contents zstaged_makers zstaged_executables zstaged_lazies zcached_contents zcached_count zholds_contents zholds_count zdirtyMarks_marks zdifferent) s.heap.size) (w_OS a k zpaths_outer zpaths_count zsteps_targets zsteps_configurations zsteps_runs zsteps_opened zsteps_count zoutputs_contents zoutputs_makers zoutputs_executables zoutputs_lazies zstaged_contents' zstaged_makers zstaged_executables zstaged_lazies zcached_contents zcached_count zholds_contents zholds_count zdirtyMarks_marks zdifferent) → va_S (va_A (w_OS a k zpaths_outer zpaths_count zsteps_targets zsteps_configurations zsteps_runs zsteps_opened zsteps_count zoutputs_contents zoutputs_makers zoutputs_executables zoutputs_lazies zstaged_contents zstaged_makers zstaged_executables zstaged_lazies zcached_contents zcached_count zholds_contents zholds_count zdirtyMarks_marks zdifferent) s.heap.size) s.heap H locs → lv_has ls 5 [(0, .ref (a 0)), (1, .int p1), (2, .int u0), (3, .int x3)] → W p l e (headSpec ww_OS_dropStaged ({ frames := 2, cells := 0, slots := 0, locals := 43 })).room s m ([.ref (a 0), .int p1] : List Value).toArray below meth c H locs 0 0 (MQ below (zQv (dC, dI) zCl (w_OS a k zpaths_outer zpaths_count zsteps_targets zsteps_configurations zsteps_runs zsteps_opened zsteps_count zoutputs_contents zoutputs_makers zoutputs_executables zoutputs_lazies zstaged_contents zstaged_makers zstaged_executables zstaged_lazies zcached_contents zcached_count zholds_contents zholds_count zdirtyMarks_marks zdifferent) s.heap.size (w_OS a k zpaths_outer zpaths_count zsteps_targets zsteps_configurations zsteps_runs zsteps_opened zsteps_count zoutputs_contents zoutputs_makers zoutputs_executables zoutputs_lazies y zstaged_makers zstaged_executables zstaged_lazies zcached_contents zcached_count zholds_contents zholds_count zdirtyMarks_marks zdifferent)) ([.ref (a 0), .int p1] : List Value).toArray s 0 0 (va_A (w_OS a k zpaths_outer zpaths_count zsteps_targets zsteps_configurations zsteps_runs zsteps_opened zsteps_count zoutputs_contents zoutputs_makers zoutputs_executables zoutputs_lazies zstaged_contents zstaged_makers zstaged_executables zstaged_lazies zcached_contents zcached_count zholds_contents zholds_count zdirtyMarks_marks zdifferent) s.heap.size)) (F0 m 11 ls []) := by
    intro n11
    induction n11 with
    | zero => intro zstaged_contents' x3 hf; rw [pf_OS_dropStaged_L11.eq_1] at hf; cases hf
    | succ n11 ih11 =>
      intro zstaged_contents' x3 hf H locs ls hP hD hS hl
      rw [pf_OS_dropStaged_L11.eq_2] at hf
      refine lv_iload_n hx hb d_OS_dropStaged_11 rfl (lv_at hl 3 rfl) ?_
      refine lv_bipush (v := (nI 40)) hx hb d_OS_dropStaged_12 (by decide) ?_
      refine lv_icmp_ge (tgt := 53) hx hb d_OS_dropStaged_14 (by decide) (fun c1 => ?_) (fun c1 => ?_)
      · have hf := z_t c1 hf
        obtain rfl := Option.some.inj hf
        exact z_vret hx hb hr hP hD hS d_OS_dropStaged_53 hlocks
      · have hf := z_f c1 hf
        refine lv_aload_n hx hb d_OS_dropStaged_17 rfl (lv_at hl 0 rfl) ?_
        refine lv_iload_n hx hb d_OS_dropStaged_18 rfl (lv_at hl 2 rfl) ?_
        refine lv_iload_n hx hb d_OS_dropStaged_19 rfl (lv_at hl 3 rfl) ?_
        obtain ⟨u1, hu1, hf⟩ := z_b hf
        have hPc := hP
        have hDc := hD
        have hKc := hK
        refine z_cwi (va_runV (As := [.int u0, .int x3]) (rest := []) ⟨hx, hb, hml, hown, hts⟩ (c_OS_slotOf l dC dI N a k zpaths_outer zpaths_count zsteps_targets zsteps_configurations zsteps_runs zsteps_opened zsteps_count zoutputs_contents zoutputs_makers zoutputs_executables zoutputs_lazies zstaged_contents' zstaged_makers zstaged_executables zstaged_lazies zcached_contents zcached_count zholds_contents zholds_count zdirtyMarks_marks zdifferent u0 x3 hu1 H.size) (cwV 2 hts (zGV zsub_c k_1_191 k_1_193 s_OS_slotOf k_1_1 kc_OS_slotOf) rfl rfl rfl (by decide +kernel) ⟨Nat.le_of_ble_eq_true rfl, Nat.le_of_ble_eq_true rfl⟩) ⟨z_bl, va_recv hKc hPc (ci := 6) (q0 := 0) rfl rfl, fun U hU hW => ⟨rfl, z_pre hN hKc hPc hDc U hU hW⟩⟩ rfl rfl hl.1 rfl (lv_room (Nat.le_of_ble_eq_true rfl)) d_OS_dropStaged_20 ⟨Nat.zero_le _, Nat.zero_le _⟩) hD hS hA (fun H locs hP hD hS => ?_)
        refine lv_istore (lv' := [(4, .int u1), (0, .ref (a 0)), (1, .int p1), (2, .int u0), (3, .int x3)]) hx hb d_OS_dropStaged_23 hl (by decide) rfl (fun ls hl => ?_)
        refine lv_aload_n hx hb d_OS_dropStaged_25 rfl (lv_at hl 1 rfl) ?_
        refine va_get (D := (dC, dI)) (ci := 6) (v := .ref (a 13)) (C := R_OS) (T := F_OS) (N := 8) hx hb hts (fun w h => List.mem_cons_of_mem _ (in_OS w h)) hown hK hP 0 rfl rfl 3 (by decide) (hts _ (List.mem_cons_of_mem _ k_1_113)) (fun _ h9 => h9) rfl d_OS_dropStaged_26 ?_
        refine lv_iload hx hb d_OS_dropStaged_29 (lv_at hl 0 rfl) ?_
        refine lv_iload_n hx hb d_OS_dropStaged_31 rfl (lv_at hl 2 rfl) ?_
        obtain ⟨u2, hu2, hf⟩ := z_b hf
        have hPc := zP_cut (wc := (w_LT (fun i => a (13 + i)) (fun i => k (9 + i)) zstaged_contents' zstaged_makers zstaged_executables zstaged_lazies)) 13 18 hP rfl
        have hDc := zD_cut (wc := (w_LT (fun i => a (13 + i)) (fun i => k (9 + i)) zstaged_contents' zstaged_makers zstaged_executables zstaged_lazies)) 13 18 hD rfl
        have hKc := hK.sub (tys' := (t_LT (fun i => k (9 + i)))) [9, 10, 11, 12] rfl
        refine z_ci (va_runV (As := [.int u1, .int p1]) (rest := []) ⟨hx, hb, hml, hown, hts⟩ (c_LT_isOfStep l dC dI N (fun i => a (13 + i)) (fun i => k (9 + i)) zstaged_contents' zstaged_makers zstaged_executables zstaged_lazies u1 p1 hu2 H.size) (cwV 2 hts (zGV zsub_c k_1_195 k_1_196 k_1_197 k_1_4 kc_LT_isOfStep) rfl rfl rfl (by decide +kernel) ⟨Nat.le_of_ble_eq_true rfl, Nat.le_of_ble_eq_true rfl⟩) ⟨z_bl, va_recv hKc hPc (ci := 2) (q0 := 0) rfl rfl, fun U hU hW => ⟨rfl, z_pre hN hKc hPc hDc U hU hW⟩⟩ rfl rfl hl.1 rfl (lv_room (Nat.le_of_ble_eq_true rfl)) d_OS_dropStaged_32 ⟨Nat.zero_le _, Nat.zero_le _⟩) 13 18 (w_OS a k zpaths_outer zpaths_count zsteps_targets zsteps_configurations zsteps_runs zsteps_opened zsteps_count zoutputs_contents zoutputs_makers zoutputs_executables zoutputs_lazies zstaged_contents' zstaged_makers zstaged_executables zstaged_lazies zcached_contents zcached_count zholds_contents zholds_count zdirtyMarks_marks zdifferent) hP hD hS hA rfl rfl (fun H locs hP hD hS => ?_)
        refine lv_if_eq (tgt := 47) hx hb d_OS_dropStaged_35 (by decide) (fun c2 => ?_) (fun c2 => ?_)
        · have hf := z_t c2 hf
          refine lv_iinc (v := (x3 + (1 : Int32))) (lv' := [(3, .int (x3 + (1 : Int32))), (4, .int u1), (0, .ref (a 0)), (1, .int p1), (2, .int u0)]) hx hb d_OS_dropStaged_47 hl (k := 4) rfl rfl (by decide) rfl (fun ls hl => ?_)
          refine lv_goto (tgt := 11) hx hb d_OS_dropStaged_50 (by decide) ?_
          exact ih11 zstaged_contents' (x3 + (1 : Int32)) hf H locs ls hP hD hS (lv_sub hl [2, 3, 4, 0] rfl)
        · have hf := z_f c2 hf
          refine lv_aload_n hx hb d_OS_dropStaged_38 rfl (lv_at hl 1 rfl) ?_
          refine va_get (D := (dC, dI)) (ci := 6) (v := .ref (a 13)) (C := R_OS) (T := F_OS) (N := 8) hx hb hts (fun w h => List.mem_cons_of_mem _ (in_OS w h)) hown hK hP 0 rfl rfl 3 (by decide) (hts _ (List.mem_cons_of_mem _ k_1_113)) (fun _ h9 => h9) rfl d_OS_dropStaged_39 ?_
          refine lv_iload hx hb d_OS_dropStaged_42 (lv_at hl 0 rfl) ?_
          obtain ⟨u3, hu3, hf⟩ := z_b hf
          have hPc := zP_cut (wc := (w_LT (fun i => a (13 + i)) (fun i => k (9 + i)) zstaged_contents' zstaged_makers zstaged_executables zstaged_lazies)) 13 18 hP rfl
          have hDc := zD_cut (wc := (w_LT (fun i => a (13 + i)) (fun i => k (9 + i)) zstaged_contents' zstaged_makers zstaged_executables zstaged_lazies)) 13 18 hD rfl
          have hKc := hK.sub (tys' := (t_LT (fun i => k (9 + i)))) [9, 10, 11, 12] rfl
          refine z_cv (va_runV (As := [.int u1]) (rest := []) ⟨hx, hb, hml, hown, hts⟩ (c_LT_drop l dC dI N (fun i => a (13 + i)) (fun i => k (9 + i)) zstaged_contents' zstaged_makers zstaged_executables zstaged_lazies u1 hu3 H.size) (cwV 1 hts (zGV zsub_c k_2_31 k_2_32 k_2_33 k_1_4 kc_LT_drop) rfl rfl rfl (by decide +kernel) ⟨Nat.le_of_ble_eq_true rfl, Nat.le_of_ble_eq_true rfl⟩) ⟨z_bl, va_recv hKc hPc (ci := 2) (q0 := 0) rfl rfl, fun U hU hW => ⟨rfl, z_pre hN hKc hPc hDc U hU hW⟩⟩ rfl rfl hl.1 rfl (lv_room (Nat.le_of_ble_eq_true rfl)) d_OS_dropStaged_44 ⟨Nat.zero_le _, Nat.zero_le _⟩) 13 18 (w_OS a k zpaths_outer zpaths_count zsteps_targets zsteps_configurations zsteps_runs zsteps_opened zsteps_count zoutputs_contents zoutputs_makers zoutputs_executables zoutputs_lazies u3 zstaged_makers zstaged_executables zstaged_lazies zcached_contents zcached_count zholds_contents zholds_count zdirtyMarks_marks zdifferent) hP hD hS hA rfl rfl (fun H locs hP hD hS => ?_)
          refine lv_iinc (v := (x3 + (1 : Int32))) (lv' := [(3, .int (x3 + (1 : Int32))), (4, .int u1), (0, .ref (a 0)), (1, .int p1), (2, .int u0)]) hx hb d_OS_dropStaged_47 hl (k := 4) rfl rfl (by decide) rfl (fun ls hl => ?_)
          refine lv_goto (tgt := 11) hx hb d_OS_dropStaged_50 (by decide) ?_
          exact ih11 u3 (x3 + (1 : Int32)) hf H locs ls hP hD hS (lv_sub hl [2, 3, 4, 0] rfl)
  exact loop11 N zstaged_contents (0 : Int32) hf H locs ls hP hD hS (lv_sub hl [2, 3, 1, 0] rfl)
set_option maxHeartbeats 4000000 in
set_option maxRecDepth 100000 in
theorem c_OS_replaceOutputs (l : Launch) (dC : Nat → ClassId) (dI : Nat → Nat → Nat) (N : Nat) (a : Nat → Nat) (k : Nat → ClassId) (zpaths_outer : Nat → Int32) (zpaths_count : Int32) (zsteps_targets : Nat → Int32) (zsteps_configurations : Nat → Int32) (zsteps_runs : Nat → Int32) (zsteps_opened : Nat → Int32) (zsteps_count : Int32) (zoutputs_contents : Nat → Int64) (zoutputs_makers : Nat → Int32) (zoutputs_executables : Nat → Int32) (zoutputs_lazies : Nat → Int32) (zstaged_contents : Nat → Int64) (zstaged_makers : Nat → Int32) (zstaged_executables : Nat → Int32) (zstaged_lazies : Nat → Int32) (zcached_contents : Nat → Int64) (zcached_count : Int32) (zholds_contents : Nat → Int64) (zholds_count : Int32) (zdirtyMarks_marks : Nat → Int32) (zdifferent : Nat → Int64) (p1 : Int32) {y : (Int32 × (Nat → Int64) × (Nat → Int32) × (Nat → Int32) × (Nat → Int32) × (Nat → Int32))} (hf : pf_OS_replaceOutputs N zpaths_count zsteps_targets zsteps_configurations zsteps_count zoutputs_contents zoutputs_makers zoutputs_executables zoutputs_lazies zstaged_contents zstaged_makers zstaged_executables zstaged_lazies zdirtyMarks_marks p1 = some y) (sz : Nat) : Met l y_OS_replaceOutputs ww_OS_replaceOutputs ({ frames := 3, cells := 0, slots := 0, locals := 63 }) (va_Pc [.ref (a 0), .int p1] (zB (dC, dI) zCl (t_OS k) (w_OS a k zpaths_outer zpaths_count zsteps_targets zsteps_configurations zsteps_runs zsteps_opened zsteps_count zoutputs_contents zoutputs_makers zoutputs_executables zoutputs_lazies zstaged_contents zstaged_makers zstaged_executables zstaged_lazies zcached_contents zcached_count zholds_contents zholds_count zdirtyMarks_marks zdifferent) sz)) (zQi (dC, dI) zCl (w_OS a k zpaths_outer zpaths_count zsteps_targets zsteps_configurations zsteps_runs zsteps_opened zsteps_count zoutputs_contents zoutputs_makers zoutputs_executables zoutputs_lazies zstaged_contents zstaged_makers zstaged_executables zstaged_lazies zcached_contents zcached_count zholds_contents zholds_count zdirtyMarks_marks zdifferent) sz y.1 (w_OS a k zpaths_outer zpaths_count zsteps_targets zsteps_configurations zsteps_runs zsteps_opened zsteps_count y.2.1 y.2.2.1 y.2.2.2.1 y.2.2.2.2.1 zstaged_contents zstaged_makers zstaged_executables zstaged_lazies zcached_contents zcached_count zholds_contents zholds_count y.2.2.2.2.2 zdifferent)) 0 0 (va_A (w_OS a k zpaths_outer zpaths_count zsteps_targets zsteps_configurations zsteps_runs zsteps_opened zsteps_count zoutputs_contents zoutputs_makers zoutputs_executables zoutputs_lazies zstaged_contents zstaged_makers zstaged_executables zstaged_lazies zcached_contents zcached_count zholds_contents zholds_count zdirtyMarks_marks zdifferent) sz) := by
  refine Met.ofW (cc := b_OS_replaceOutputs) (maxL := 7) (ret := (some .int)) (by decide) rfl ?_
  intro p e s m args below meth c s₁ B hml hv
  obtain ⟨rfl, rfl, hP, hK, hD, hN⟩ := hv
  have hx := B.exec
  have hb := B.bytes
  have hr := B.returns
  have hts := atoms_spec (ws := ww_OS_replaceOutputs) B.pre
  have hown : s.vm.findClass R_OS = some m.cls := findClass_of_methodNamed B.named
  have hlocks := B.notSynchronized
  have hA : ∀ q : Nat, s.heap.size ≤ q → va_A (w_OS a k zpaths_outer zpaths_count zsteps_targets zsteps_configurations zsteps_runs zsteps_opened zsteps_count zoutputs_contents zoutputs_makers zoutputs_executables zoutputs_lazies zstaged_contents zstaged_makers zstaged_executables zstaged_lazies zcached_contents zcached_count zholds_contents zholds_count zdirtyMarks_marks zdifferent) s.heap.size q := fun q h => Or.inr h
  refine z_start (lv := [(0, .ref (a 0)), (1, .int p1)]) (Nat.le_of_ble_eq_true rfl) rfl hP hD (fun H locs ls hP hD hS hl => ?_)
  unfold pf_OS_replaceOutputs at hf
  refine lv_aload_n hx hb d_OS_replaceOutputs_0 rfl (lv_at hl 0 rfl) ?_
  refine va_get (D := (dC, dI)) (ci := 6) (v := .ref (a 3)) (C := R_OS) (T := F_OS) (N := 8) hx hb hts (fun w h => List.mem_cons_of_mem _ (in_OS w h)) hown hK hP 0 rfl rfl 1 (by decide) (hts _ (List.mem_cons_of_mem _ k_1_111)) (fun _ h9 => h9) rfl d_OS_replaceOutputs_1 ?_
  refine lv_iload_n hx hb d_OS_replaceOutputs_4 rfl (lv_at hl 1 rfl) ?_
  obtain ⟨u0, hu0, hf⟩ := z_b hf
  have hPc := zP_cut (wc := (w_SB (fun i => a (3 + i)) (fun i => k (1 + i)) zsteps_targets zsteps_configurations zsteps_runs zsteps_opened zsteps_count)) 3 8 hP rfl
  have hDc := zD_cut (wc := (w_SB (fun i => a (3 + i)) (fun i => k (1 + i)) zsteps_targets zsteps_configurations zsteps_runs zsteps_opened zsteps_count)) 3 8 hD rfl
  have hKc := hK.sub (tys' := (t_SB (fun i => k (1 + i)))) [1, 2, 3, 4] rfl
  refine z_ci (va_runV (As := [.int p1]) (rest := []) ⟨hx, hb, hml, hown, hts⟩ (c_SB_configurationOf l dC dI N (fun i => a (3 + i)) (fun i => k (1 + i)) zsteps_targets zsteps_configurations zsteps_runs zsteps_opened zsteps_count p1 hu0 H.size) (cwV 1 hts (zGV zsub_c k_1_187 k_1_188 k_1_189 k_1_3 kc_SB_configurationOf) rfl rfl rfl (by decide +kernel) ⟨Nat.le_of_ble_eq_true rfl, Nat.le_of_ble_eq_true rfl⟩) ⟨z_bl, va_recv hKc hPc (ci := 1) (q0 := 0) rfl rfl, fun U hU hW => ⟨rfl, z_pre hN hKc hPc hDc U hU hW⟩⟩ rfl rfl hl.1 rfl (lv_room (Nat.le_of_ble_eq_true rfl)) d_OS_replaceOutputs_5 ⟨Nat.zero_le _, Nat.zero_le _⟩) 3 8 (w_OS a k zpaths_outer zpaths_count zsteps_targets zsteps_configurations zsteps_runs zsteps_opened zsteps_count zoutputs_contents zoutputs_makers zoutputs_executables zoutputs_lazies zstaged_contents zstaged_makers zstaged_executables zstaged_lazies zcached_contents zcached_count zholds_contents zholds_count zdirtyMarks_marks zdifferent) hP hD hS hA rfl rfl (fun H locs hP hD hS => ?_)
  refine lv_istore_n (lv' := [(2, .int u0), (0, .ref (a 0)), (1, .int p1)]) hx hb d_OS_replaceOutputs_8 rfl hl (by decide) rfl (fun ls hl => ?_)
  refine lv_aload_n hx hb d_OS_replaceOutputs_9 rfl (lv_at hl 1 rfl) ?_
  refine va_get (D := (dC, dI)) (ci := 6) (v := .ref (a 3)) (C := R_OS) (T := F_OS) (N := 8) hx hb hts (fun w h => List.mem_cons_of_mem _ (in_OS w h)) hown hK hP 0 rfl rfl 1 (by decide) (hts _ (List.mem_cons_of_mem _ k_1_111)) (fun _ h9 => h9) rfl d_OS_replaceOutputs_10 ?_
  refine lv_iload_n hx hb d_OS_replaceOutputs_13 rfl (lv_at hl 2 rfl) ?_
  obtain ⟨u1, hu1, hf⟩ := z_b hf
  have hPc := zP_cut (wc := (w_SB (fun i => a (3 + i)) (fun i => k (1 + i)) zsteps_targets zsteps_configurations zsteps_runs zsteps_opened zsteps_count)) 3 8 hP rfl
  have hDc := zD_cut (wc := (w_SB (fun i => a (3 + i)) (fun i => k (1 + i)) zsteps_targets zsteps_configurations zsteps_runs zsteps_opened zsteps_count)) 3 8 hD rfl
  have hKc := hK.sub (tys' := (t_SB (fun i => k (1 + i)))) [1, 2, 3, 4] rfl
  refine z_ci (va_runV (As := [.int p1]) (rest := []) ⟨hx, hb, hml, hown, hts⟩ (c_SB_targetOf l dC dI N (fun i => a (3 + i)) (fun i => k (1 + i)) zsteps_targets zsteps_configurations zsteps_runs zsteps_opened zsteps_count p1 hu1 H.size) (cwV 1 hts (zGV zsub_c k_1_224 k_1_225 k_1_226 k_1_3 kc_SB_targetOf) rfl rfl rfl (by decide +kernel) ⟨Nat.le_of_ble_eq_true rfl, Nat.le_of_ble_eq_true rfl⟩) ⟨z_bl, va_recv hKc hPc (ci := 1) (q0 := 0) rfl rfl, fun U hU hW => ⟨rfl, z_pre hN hKc hPc hDc U hU hW⟩⟩ rfl rfl hl.1 rfl (lv_room (Nat.le_of_ble_eq_true rfl)) d_OS_replaceOutputs_14 ⟨Nat.zero_le _, Nat.zero_le _⟩) 3 8 (w_OS a k zpaths_outer zpaths_count zsteps_targets zsteps_configurations zsteps_runs zsteps_opened zsteps_count zoutputs_contents zoutputs_makers zoutputs_executables zoutputs_lazies zstaged_contents zstaged_makers zstaged_executables zstaged_lazies zcached_contents zcached_count zholds_contents zholds_count zdirtyMarks_marks zdifferent) hP hD hS hA rfl rfl (fun H locs hP hD hS => ?_)
  refine lv_istore_n (lv' := [(3, .int u1), (2, .int u0), (0, .ref (a 0)), (1, .int p1)]) hx hb d_OS_replaceOutputs_17 rfl hl (by decide) rfl (fun ls hl => ?_)
  refine lv_iconst (v := (0 : Int32)) hx hb d_OS_replaceOutputs_18 (by decide) ?_
  refine lv_istore (lv' := [(4, .int (0 : Int32)), (3, .int u1), (2, .int u0), (0, .ref (a 0)), (1, .int p1)]) hx hb d_OS_replaceOutputs_19 hl (by decide) rfl (fun ls hl => ?_)
  refine lv_iconst (v := (0 : Int32)) hx hb d_OS_replaceOutputs_21 (by decide) ?_
  refine lv_istore (lv' := [(5, .int (0 : Int32)), (4, .int (0 : Int32)), (3, .int u1), (2, .int u0), (0, .ref (a 0)), (1, .int p1)]) hx hb d_OS_replaceOutputs_22 hl (by decide) rfl (fun ls hl => ?_)
  have loop24 : ∀ (n : Nat) (zoutputs_contents' : Nat → Int64) (zoutputs_makers' : Nat → Int32) (zoutputs_executables' : Nat → Int32) (zoutputs_lazies' : Nat → Int32) (x4 : Int32) (x5 : Int32), pf_OS_replaceOutputs_L24 N zpaths_count zsteps_targets zsteps_count zstaged_contents zstaged_makers zstaged_executables zstaged_lazies zdirtyMarks_marks p1 u0 u1 n zoutputs_contents' zoutputs_makers' zoutputs_executables' zoutputs_lazies' x4 x5 = some y → ∀ (H : Heap) (locs : List Loc) (ls : Array Slot), va_P (dC, dI) zCl (w_OS a k zpaths_outer zpaths_count zsteps_targets zsteps_configurations zsteps_runs zsteps_opened zsteps_count zoutputs_contents' zoutputs_makers' zoutputs_executables' zoutputs_lazies' zstaged_contents zstaged_makers zstaged_executables zstaged_lazies zcached_contents zcached_count zholds_contents zholds_count zdirtyMarks_marks zdifferent) H → va_D (va_A (w_OS a k zpaths_outer zpaths_count zsteps_targets zsteps_configurations zsteps_runs zsteps_opened zsteps_count zoutputs_contents zoutputs_makers zoutputs_executables zoutputs_lazies zstaged_contents zstaged_makers zstaged_executables zstaged_lazies zcached_contents zcached_count zholds_contents zholds_count zdirtyMarks_marks zdifferent) s.heap.size) (w_OS a k zpaths_outer zpaths_count zsteps_targets zsteps_configurations zsteps_runs zsteps_opened zsteps_count zoutputs_contents' zoutputs_makers' zoutputs_executables' zoutputs_lazies' zstaged_contents zstaged_makers zstaged_executables zstaged_lazies zcached_contents zcached_count zholds_contents zholds_count zdirtyMarks_marks zdifferent) → va_S (va_A (w_OS a k zpaths_outer zpaths_count zsteps_targets zsteps_configurations zsteps_runs zsteps_opened zsteps_count zoutputs_contents zoutputs_makers zoutputs_executables zoutputs_lazies zstaged_contents zstaged_makers zstaged_executables zstaged_lazies zcached_contents zcached_count zholds_contents zholds_count zdirtyMarks_marks zdifferent) s.heap.size) s.heap H locs → lv_has ls 7 [(0, .ref (a 0)), (1, .int p1), (2, .int u0), (3, .int u1), (4, .int x4), (5, .int x5)] → W p l e (headSpec ww_OS_replaceOutputs ({ frames := 3, cells := 0, slots := 0, locals := 63 })).room s m ([.ref (a 0), .int p1] : List Value).toArray below meth c H locs 0 0 (MQ below (zQi (dC, dI) zCl (w_OS a k zpaths_outer zpaths_count zsteps_targets zsteps_configurations zsteps_runs zsteps_opened zsteps_count zoutputs_contents zoutputs_makers zoutputs_executables zoutputs_lazies zstaged_contents zstaged_makers zstaged_executables zstaged_lazies zcached_contents zcached_count zholds_contents zholds_count zdirtyMarks_marks zdifferent) s.heap.size y.1 (w_OS a k zpaths_outer zpaths_count zsteps_targets zsteps_configurations zsteps_runs zsteps_opened zsteps_count y.2.1 y.2.2.1 y.2.2.2.1 y.2.2.2.2.1 zstaged_contents zstaged_makers zstaged_executables zstaged_lazies zcached_contents zcached_count zholds_contents zholds_count y.2.2.2.2.2 zdifferent)) ([.ref (a 0), .int p1] : List Value).toArray s 0 0 (va_A (w_OS a k zpaths_outer zpaths_count zsteps_targets zsteps_configurations zsteps_runs zsteps_opened zsteps_count zoutputs_contents zoutputs_makers zoutputs_executables zoutputs_lazies zstaged_contents zstaged_makers zstaged_executables zstaged_lazies zcached_contents zcached_count zholds_contents zholds_count zdirtyMarks_marks zdifferent) s.heap.size)) (F0 m 24 ls []) := by
    intro n24
    induction n24 with
    | zero => intro zoutputs_contents' zoutputs_makers' zoutputs_executables' zoutputs_lazies' x4 x5 hf; rw [pf_OS_replaceOutputs_L24.eq_1] at hf; cases hf
    | succ n24 ih24 =>
      intro zoutputs_contents' zoutputs_makers' zoutputs_executables' zoutputs_lazies' x4 x5 hf H locs ls hP hD hS hl
      rw [pf_OS_replaceOutputs_L24.eq_2] at hf
      refine lv_iload hx hb d_OS_replaceOutputs_24 (lv_at hl 5 rfl) ?_
      refine lv_bipush (v := (nI 40)) hx hb d_OS_replaceOutputs_26 (by decide) ?_
      refine lv_icmp_ge (tgt := 133) hx hb d_OS_replaceOutputs_28 (by decide) (fun c1 => ?_) (fun c1 => ?_)
      · have hf := z_t c1 hf
        refine lv_aload_n hx hb d_OS_replaceOutputs_133 rfl (lv_at hl 0 rfl) ?_
        refine va_get (D := (dC, dI)) (ci := 6) (v := .ref (a 22)) (C := R_OS) (T := F_OS) (N := 8) hx hb hts (fun w h => List.mem_cons_of_mem _ (in_OS w h)) hown hK hP 0 rfl rfl 6 (by decide) (hts _ (List.mem_cons_of_mem _ k_1_116)) (fun _ h9 => h9) rfl d_OS_replaceOutputs_134 ?_
        refine lv_iload_n hx hb d_OS_replaceOutputs_137 rfl (lv_at hl 3 rfl) ?_
        refine lv_iload_n hx hb d_OS_replaceOutputs_138 rfl (lv_at hl 2 rfl) ?_
        refine lv_iconst (v := (0 : Int32)) hx hb d_OS_replaceOutputs_139 (by decide) ?_
        obtain ⟨u2, hu2, hf⟩ := z_b hf
        have hPc := zP_cut (wc := (w_DM (fun i => a (22 + i)) (fun i => k (15 + i)) zdirtyMarks_marks)) 22 24 hP rfl
        have hDc := zD_cut (wc := (w_DM (fun i => a (22 + i)) (fun i => k (15 + i)) zdirtyMarks_marks)) 22 24 hD rfl
        have hKc := hK.sub (tys' := (t_DM (fun i => k (15 + i)))) [15] rfl
        refine z_cv (va_runV (As := [.int u1, .int u0, .int (0 : Int32)]) (rest := []) ⟨hx, hb, hml, hown, hts⟩ (c_DM_set l dC dI N (fun i => a (22 + i)) (fun i => k (15 + i)) zdirtyMarks_marks u1 u0 (0 : Int32) hu2 H.size) (cwV 3 hts (zGV zsub_c k_2_35 k_2_36 k_2_37 k_1_7 kc_DM_set) rfl rfl rfl (by decide +kernel) ⟨Nat.le_of_ble_eq_true rfl, Nat.le_of_ble_eq_true rfl⟩) ⟨z_bl, va_recv hKc hPc (ci := 5) (q0 := 0) rfl rfl, fun U hU hW => ⟨rfl, z_pre hN hKc hPc hDc U hU hW⟩⟩ rfl rfl hl.1 rfl (lv_room (Nat.le_of_ble_eq_true rfl)) d_OS_replaceOutputs_140 ⟨Nat.zero_le _, Nat.zero_le _⟩) 22 24 (w_OS a k zpaths_outer zpaths_count zsteps_targets zsteps_configurations zsteps_runs zsteps_opened zsteps_count zoutputs_contents' zoutputs_makers' zoutputs_executables' zoutputs_lazies' zstaged_contents zstaged_makers zstaged_executables zstaged_lazies zcached_contents zcached_count zholds_contents zholds_count u2 zdifferent) hP hD hS hA rfl rfl (fun H locs hP hD hS => ?_)
        refine lv_iload hx hb d_OS_replaceOutputs_143 (lv_at hl 4 rfl) ?_
        obtain rfl := Option.some.inj hf
        exact z_iret hx hb hr hP hD hS d_OS_replaceOutputs_145 hlocks
      · have hf := z_f c1 hf
        refine lv_aload_n hx hb d_OS_replaceOutputs_31 rfl (lv_at hl 0 rfl) ?_
        refine lv_iload_n hx hb d_OS_replaceOutputs_32 rfl (lv_at hl 2 rfl) ?_
        refine lv_iload hx hb d_OS_replaceOutputs_33 (lv_at hl 5 rfl) ?_
        obtain ⟨u3, hu3, hf⟩ := z_b hf
        have hPc := hP
        have hDc := hD
        have hKc := hK
        refine z_cwi (va_runV (As := [.int u0, .int x5]) (rest := []) ⟨hx, hb, hml, hown, hts⟩ (c_OS_slotOf l dC dI N a k zpaths_outer zpaths_count zsteps_targets zsteps_configurations zsteps_runs zsteps_opened zsteps_count zoutputs_contents' zoutputs_makers' zoutputs_executables' zoutputs_lazies' zstaged_contents zstaged_makers zstaged_executables zstaged_lazies zcached_contents zcached_count zholds_contents zholds_count zdirtyMarks_marks zdifferent u0 x5 hu3 H.size) (cwV 2 hts (zGV zsub_c k_1_191 k_1_193 s_OS_slotOf k_1_1 kc_OS_slotOf) rfl rfl rfl (by decide +kernel) ⟨Nat.le_of_ble_eq_true rfl, Nat.le_of_ble_eq_true rfl⟩) ⟨z_bl, va_recv hKc hPc (ci := 6) (q0 := 0) rfl rfl, fun U hU hW => ⟨rfl, z_pre hN hKc hPc hDc U hU hW⟩⟩ rfl rfl hl.1 rfl (lv_room (Nat.le_of_ble_eq_true rfl)) d_OS_replaceOutputs_35 ⟨Nat.zero_le _, Nat.zero_le _⟩) hD hS hA (fun H locs hP hD hS => ?_)
        refine lv_istore (lv' := [(6, .int u3), (0, .ref (a 0)), (1, .int p1), (2, .int u0), (3, .int u1), (4, .int x4), (5, .int x5)]) hx hb d_OS_replaceOutputs_38 hl (by decide) rfl (fun ls hl => ?_)
        refine lv_aload_n hx hb d_OS_replaceOutputs_40 rfl (lv_at hl 1 rfl) ?_
        refine va_get (D := (dC, dI)) (ci := 6) (v := .ref (a 13)) (C := R_OS) (T := F_OS) (N := 8) hx hb hts (fun w h => List.mem_cons_of_mem _ (in_OS w h)) hown hK hP 0 rfl rfl 3 (by decide) (hts _ (List.mem_cons_of_mem _ k_1_113)) (fun _ h9 => h9) rfl d_OS_replaceOutputs_41 ?_
        refine lv_iload hx hb d_OS_replaceOutputs_44 (lv_at hl 0 rfl) ?_
        refine lv_iload_n hx hb d_OS_replaceOutputs_46 rfl (lv_at hl 2 rfl) ?_
        obtain ⟨u4, hu4, hf⟩ := z_b hf
        have hPc := zP_cut (wc := (w_LT (fun i => a (13 + i)) (fun i => k (9 + i)) zstaged_contents zstaged_makers zstaged_executables zstaged_lazies)) 13 18 hP rfl
        have hDc := zD_cut (wc := (w_LT (fun i => a (13 + i)) (fun i => k (9 + i)) zstaged_contents zstaged_makers zstaged_executables zstaged_lazies)) 13 18 hD rfl
        have hKc := hK.sub (tys' := (t_LT (fun i => k (9 + i)))) [9, 10, 11, 12] rfl
        refine z_ci (va_runV (As := [.int u3, .int p1]) (rest := []) ⟨hx, hb, hml, hown, hts⟩ (c_LT_isOfStep l dC dI N (fun i => a (13 + i)) (fun i => k (9 + i)) zstaged_contents zstaged_makers zstaged_executables zstaged_lazies u3 p1 hu4 H.size) (cwV 2 hts (zGV zsub_c k_1_195 k_1_196 k_1_197 k_1_4 kc_LT_isOfStep) rfl rfl rfl (by decide +kernel) ⟨Nat.le_of_ble_eq_true rfl, Nat.le_of_ble_eq_true rfl⟩) ⟨z_bl, va_recv hKc hPc (ci := 2) (q0 := 0) rfl rfl, fun U hU hW => ⟨rfl, z_pre hN hKc hPc hDc U hU hW⟩⟩ rfl rfl hl.1 rfl (lv_room (Nat.le_of_ble_eq_true rfl)) d_OS_replaceOutputs_47 ⟨Nat.zero_le _, Nat.zero_le _⟩) 13 18 (w_OS a k zpaths_outer zpaths_count zsteps_targets zsteps_configurations zsteps_runs zsteps_opened zsteps_count zoutputs_contents' zoutputs_makers' zoutputs_executables' zoutputs_lazies' zstaged_contents zstaged_makers zstaged_executables zstaged_lazies zcached_contents zcached_count zholds_contents zholds_count zdirtyMarks_marks zdifferent) hP hD hS hA rfl rfl (fun H locs hP hD hS => ?_)
        refine lv_if_eq (tgt := 93) hx hb d_OS_replaceOutputs_50 (by decide) (fun c2 => ?_) (fun c2 => ?_)
        · have hf := z_t c2 hf
          refine lv_aload_n hx hb d_OS_replaceOutputs_93 rfl (lv_at hl 1 rfl) ?_
          refine va_get (D := (dC, dI)) (ci := 6) (v := .ref (a 8)) (C := R_OS) (T := F_OS) (N := 8) hx hb hts (fun w h => List.mem_cons_of_mem _ (in_OS w h)) hown hK hP 0 rfl rfl 2 (by decide) (hts _ (List.mem_cons_of_mem _ k_1_112)) (fun _ h9 => h9) rfl d_OS_replaceOutputs_94 ?_
          refine lv_iload hx hb d_OS_replaceOutputs_97 (lv_at hl 0 rfl) ?_
          obtain ⟨u5, hu5, hf⟩ := z_b hf
          have hPc := zP_cut (wc := (w_LT (fun i => a (8 + i)) (fun i => k (5 + i)) zoutputs_contents' zoutputs_makers' zoutputs_executables' zoutputs_lazies')) 8 13 hP rfl
          have hDc := zD_cut (wc := (w_LT (fun i => a (8 + i)) (fun i => k (5 + i)) zoutputs_contents' zoutputs_makers' zoutputs_executables' zoutputs_lazies')) 8 13 hD rfl
          have hKc := hK.sub (tys' := (t_LT (fun i => k (5 + i)))) [5, 6, 7, 8] rfl
          refine z_ci (va_runV (As := [.int u3]) (rest := []) ⟨hx, hb, hml, hown, hts⟩ (c_LT_has l dC dI N (fun i => a (8 + i)) (fun i => k (5 + i)) zoutputs_contents' zoutputs_makers' zoutputs_executables' zoutputs_lazies' u3 hu5 H.size) (cwV 1 hts (zGV zsub_c k_1_215 k_1_200 k_1_201 k_1_4 kc_LT_has) rfl rfl rfl (by decide +kernel) ⟨Nat.le_of_ble_eq_true rfl, Nat.le_of_ble_eq_true rfl⟩) ⟨z_bl, va_recv hKc hPc (ci := 2) (q0 := 0) rfl rfl, fun U hU hW => ⟨rfl, z_pre hN hKc hPc hDc U hU hW⟩⟩ rfl rfl hl.1 rfl (lv_room (Nat.le_of_ble_eq_true rfl)) d_OS_replaceOutputs_99 ⟨Nat.zero_le _, Nat.zero_le _⟩) 8 13 (w_OS a k zpaths_outer zpaths_count zsteps_targets zsteps_configurations zsteps_runs zsteps_opened zsteps_count zoutputs_contents' zoutputs_makers' zoutputs_executables' zoutputs_lazies' zstaged_contents zstaged_makers zstaged_executables zstaged_lazies zcached_contents zcached_count zholds_contents zholds_count zdirtyMarks_marks zdifferent) hP hD hS hA rfl rfl (fun H locs hP hD hS => ?_)
          refine lv_if_eq (tgt := 127) hx hb d_OS_replaceOutputs_102 (by decide) (fun c3 => ?_) (fun c3 => ?_)
          · have hf := z_t c3 hf
            refine lv_iinc (v := (x5 + (1 : Int32))) (lv' := [(5, .int (x5 + (1 : Int32))), (6, .int u3), (0, .ref (a 0)), (1, .int p1), (2, .int u0), (3, .int u1), (4, .int x4)]) hx hb d_OS_replaceOutputs_127 hl (k := 6) rfl rfl (by decide) rfl (fun ls hl => ?_)
            refine lv_goto (tgt := 24) hx hb d_OS_replaceOutputs_130 (by decide) ?_
            exact ih24 zoutputs_contents' zoutputs_makers' zoutputs_executables' zoutputs_lazies' x4 (x5 + (1 : Int32)) hf H locs ls hP hD hS (lv_sub hl [2, 3, 4, 5, 6, 0] rfl)
          · have hf := z_f c3 hf
            refine lv_aload_n hx hb d_OS_replaceOutputs_105 rfl (lv_at hl 1 rfl) ?_
            refine lv_iload hx hb d_OS_replaceOutputs_106 (lv_at hl 0 rfl) ?_
            obtain ⟨u6, hu6, hf⟩ := z_b hf
            have hPc := hP
            have hDc := hD
            have hKc := hK
            refine z_cwi (va_runV (As := [.int u3]) (rest := []) ⟨hx, hb, hml, hown, hts⟩ (c_OS_targetAt l dC dI N a k zpaths_outer zpaths_count zsteps_targets zsteps_configurations zsteps_runs zsteps_opened zsteps_count zoutputs_contents' zoutputs_makers' zoutputs_executables' zoutputs_lazies' zstaged_contents zstaged_makers zstaged_executables zstaged_lazies zcached_contents zcached_count zholds_contents zholds_count zdirtyMarks_marks zdifferent u3 hu6 H.size) (cwV 1 hts (zGV zsub_c k_1_216 k_1_218 s_OS_targetAt k_1_1 kc_OS_targetAt) rfl rfl rfl (by decide +kernel) ⟨Nat.le_of_ble_eq_true rfl, Nat.le_of_ble_eq_true rfl⟩) ⟨z_bl, va_recv hKc hPc (ci := 6) (q0 := 0) rfl rfl, fun U hU hW => ⟨rfl, z_pre hN hKc hPc hDc U hU hW⟩⟩ rfl rfl hl.1 rfl (lv_room (Nat.le_of_ble_eq_true rfl)) d_OS_replaceOutputs_108 ⟨Nat.zero_le _, Nat.zero_le _⟩) hD hS hA (fun H locs hP hD hS => ?_)
            refine lv_iload_n hx hb d_OS_replaceOutputs_111 rfl (lv_at hl 4 rfl) ?_
            refine lv_icmp_ne (tgt := 127) hx hb d_OS_replaceOutputs_112 (by decide) (fun c4 => ?_) (fun c4 => ?_)
            · have hf := z_t c4 hf
              refine lv_iinc (v := (x5 + (1 : Int32))) (lv' := [(5, .int (x5 + (1 : Int32))), (6, .int u3), (0, .ref (a 0)), (1, .int p1), (2, .int u0), (3, .int u1), (4, .int x4)]) hx hb d_OS_replaceOutputs_127 hl (k := 6) rfl rfl (by decide) rfl (fun ls hl => ?_)
              refine lv_goto (tgt := 24) hx hb d_OS_replaceOutputs_130 (by decide) ?_
              exact ih24 zoutputs_contents' zoutputs_makers' zoutputs_executables' zoutputs_lazies' x4 (x5 + (1 : Int32)) hf H locs ls hP hD hS (lv_sub hl [2, 3, 4, 5, 6, 0] rfl)
            · have hf := z_fn c4 hf
              refine lv_aload_n hx hb d_OS_replaceOutputs_115 rfl (lv_at hl 1 rfl) ?_
              refine va_get (D := (dC, dI)) (ci := 6) (v := .ref (a 8)) (C := R_OS) (T := F_OS) (N := 8) hx hb hts (fun w h => List.mem_cons_of_mem _ (in_OS w h)) hown hK hP 0 rfl rfl 2 (by decide) (hts _ (List.mem_cons_of_mem _ k_1_112)) (fun _ h9 => h9) rfl d_OS_replaceOutputs_116 ?_
              refine lv_iload hx hb d_OS_replaceOutputs_119 (lv_at hl 0 rfl) ?_
              obtain ⟨u7, hu7, hf⟩ := z_b hf
              have hPc := zP_cut (wc := (w_LT (fun i => a (8 + i)) (fun i => k (5 + i)) zoutputs_contents' zoutputs_makers' zoutputs_executables' zoutputs_lazies')) 8 13 hP rfl
              have hDc := zD_cut (wc := (w_LT (fun i => a (8 + i)) (fun i => k (5 + i)) zoutputs_contents' zoutputs_makers' zoutputs_executables' zoutputs_lazies')) 8 13 hD rfl
              have hKc := hK.sub (tys' := (t_LT (fun i => k (5 + i)))) [5, 6, 7, 8] rfl
              refine z_cv (va_runV (As := [.int u3]) (rest := []) ⟨hx, hb, hml, hown, hts⟩ (c_LT_drop l dC dI N (fun i => a (8 + i)) (fun i => k (5 + i)) zoutputs_contents' zoutputs_makers' zoutputs_executables' zoutputs_lazies' u3 hu7 H.size) (cwV 1 hts (zGV zsub_c k_2_31 k_2_32 k_2_33 k_1_4 kc_LT_drop) rfl rfl rfl (by decide +kernel) ⟨Nat.le_of_ble_eq_true rfl, Nat.le_of_ble_eq_true rfl⟩) ⟨z_bl, va_recv hKc hPc (ci := 2) (q0 := 0) rfl rfl, fun U hU hW => ⟨rfl, z_pre hN hKc hPc hDc U hU hW⟩⟩ rfl rfl hl.1 rfl (lv_room (Nat.le_of_ble_eq_true rfl)) d_OS_replaceOutputs_121 ⟨Nat.zero_le _, Nat.zero_le _⟩) 8 13 (w_OS a k zpaths_outer zpaths_count zsteps_targets zsteps_configurations zsteps_runs zsteps_opened zsteps_count u7 zoutputs_makers' zoutputs_executables' zoutputs_lazies' zstaged_contents zstaged_makers zstaged_executables zstaged_lazies zcached_contents zcached_count zholds_contents zholds_count zdirtyMarks_marks zdifferent) hP hD hS hA rfl rfl (fun H locs hP hD hS => ?_)
              refine lv_iinc (v := (x4 + (1 : Int32))) (lv' := [(4, .int (x4 + (1 : Int32))), (6, .int u3), (0, .ref (a 0)), (1, .int p1), (2, .int u0), (3, .int u1), (5, .int x5)]) hx hb d_OS_replaceOutputs_124 hl (k := 5) rfl rfl (by decide) rfl (fun ls hl => ?_)
              refine lv_iinc (v := (x5 + (1 : Int32))) (lv' := [(5, .int (x5 + (1 : Int32))), (4, .int (x4 + (1 : Int32))), (6, .int u3), (0, .ref (a 0)), (1, .int p1), (2, .int u0), (3, .int u1)]) hx hb d_OS_replaceOutputs_127 hl (k := 6) rfl rfl (by decide) rfl (fun ls hl => ?_)
              refine lv_goto (tgt := 24) hx hb d_OS_replaceOutputs_130 (by decide) ?_
              exact ih24 u7 zoutputs_makers' zoutputs_executables' zoutputs_lazies' (x4 + (1 : Int32)) (x5 + (1 : Int32)) hf H locs ls hP hD hS (lv_sub hl [3, 4, 5, 6, 1, 0] rfl)
        · have hf := z_f c2 hf
          refine lv_aload_n hx hb d_OS_replaceOutputs_53 rfl (lv_at hl 1 rfl) ?_
          refine va_get (D := (dC, dI)) (ci := 6) (v := .ref (a 8)) (C := R_OS) (T := F_OS) (N := 8) hx hb hts (fun w h => List.mem_cons_of_mem _ (in_OS w h)) hown hK hP 0 rfl rfl 2 (by decide) (hts _ (List.mem_cons_of_mem _ k_1_112)) (fun _ h9 => h9) rfl d_OS_replaceOutputs_54 ?_
          refine lv_iload hx hb d_OS_replaceOutputs_57 (lv_at hl 0 rfl) ?_
          refine lv_iload_n hx hb d_OS_replaceOutputs_59 rfl (lv_at hl 2 rfl) ?_
          refine lv_aload_n hx hb d_OS_replaceOutputs_60 rfl (lv_at hl 1 rfl) ?_
          refine va_get (D := (dC, dI)) (ci := 6) (v := .ref (a 13)) (C := R_OS) (T := F_OS) (N := 8) hx hb hts (fun w h => List.mem_cons_of_mem _ (in_OS w h)) hown hK hP 0 rfl rfl 3 (by decide) (hts _ (List.mem_cons_of_mem _ k_1_113)) (fun _ h9 => h9) rfl d_OS_replaceOutputs_61 ?_
          refine lv_iload hx hb d_OS_replaceOutputs_64 (lv_at hl 0 rfl) ?_
          obtain ⟨u8, hu8, hf⟩ := z_b hf
          have hPc := zP_cut (wc := (w_LT (fun i => a (13 + i)) (fun i => k (9 + i)) zstaged_contents zstaged_makers zstaged_executables zstaged_lazies)) 13 18 hP rfl
          have hDc := zD_cut (wc := (w_LT (fun i => a (13 + i)) (fun i => k (9 + i)) zstaged_contents zstaged_makers zstaged_executables zstaged_lazies)) 13 18 hD rfl
          have hKc := hK.sub (tys' := (t_LT (fun i => k (9 + i)))) [9, 10, 11, 12] rfl
          refine z_cl (va_runV (As := [.int u3]) (rest := [.int p1, .int u3, .ref (a 8)]) ⟨hx, hb, hml, hown, hts⟩ (c_LT_contentAt l dC dI N (fun i => a (13 + i)) (fun i => k (9 + i)) zstaged_contents zstaged_makers zstaged_executables zstaged_lazies u3 hu8 H.size) (cwV 1 hts (zGV zsub_c k_2_19 k_2_20 k_2_21 k_1_4 kc_LT_contentAt) rfl rfl rfl (by decide +kernel) ⟨Nat.le_of_ble_eq_true rfl, Nat.le_of_ble_eq_true rfl⟩) ⟨z_bl, va_recv hKc hPc (ci := 2) (q0 := 0) rfl rfl, fun U hU hW => ⟨rfl, z_pre hN hKc hPc hDc U hU hW⟩⟩ rfl rfl hl.1 rfl (lv_room (Nat.le_of_ble_eq_true rfl)) d_OS_replaceOutputs_66 ⟨Nat.zero_le _, Nat.zero_le _⟩) 13 18 (w_OS a k zpaths_outer zpaths_count zsteps_targets zsteps_configurations zsteps_runs zsteps_opened zsteps_count zoutputs_contents' zoutputs_makers' zoutputs_executables' zoutputs_lazies' zstaged_contents zstaged_makers zstaged_executables zstaged_lazies zcached_contents zcached_count zholds_contents zholds_count zdirtyMarks_marks zdifferent) hP hD hS hA rfl rfl (fun H locs hP hD hS => ?_)
          refine lv_aload_n hx hb d_OS_replaceOutputs_69 rfl (lv_at hl 1 rfl) ?_
          refine va_get (D := (dC, dI)) (ci := 6) (v := .ref (a 13)) (C := R_OS) (T := F_OS) (N := 8) hx hb hts (fun w h => List.mem_cons_of_mem _ (in_OS w h)) hown hK hP 0 rfl rfl 3 (by decide) (hts _ (List.mem_cons_of_mem _ k_1_113)) (fun _ h9 => h9) rfl d_OS_replaceOutputs_70 ?_
          refine lv_iload hx hb d_OS_replaceOutputs_73 (lv_at hl 0 rfl) ?_
          obtain ⟨u9, hu9, hf⟩ := z_b hf
          have hPc := zP_cut (wc := (w_LT (fun i => a (13 + i)) (fun i => k (9 + i)) zstaged_contents zstaged_makers zstaged_executables zstaged_lazies)) 13 18 hP rfl
          have hDc := zD_cut (wc := (w_LT (fun i => a (13 + i)) (fun i => k (9 + i)) zstaged_contents zstaged_makers zstaged_executables zstaged_lazies)) 13 18 hD rfl
          have hKc := hK.sub (tys' := (t_LT (fun i => k (9 + i)))) [9, 10, 11, 12] rfl
          refine z_ci (va_runV (As := [.int u3]) (rest := [.long u8, .int p1, .int u3, .ref (a 8)]) ⟨hx, hb, hml, hown, hts⟩ (c_LT_isExecutable l dC dI N (fun i => a (13 + i)) (fun i => k (9 + i)) zstaged_contents zstaged_makers zstaged_executables zstaged_lazies u3 hu9 H.size) (cwV 1 hts (zGV zsub_c k_2_23 k_2_24 k_2_25 k_1_4 kc_LT_isExecutable) rfl rfl rfl (by decide +kernel) ⟨Nat.le_of_ble_eq_true rfl, Nat.le_of_ble_eq_true rfl⟩) ⟨z_bl, va_recv hKc hPc (ci := 2) (q0 := 0) rfl rfl, fun U hU hW => ⟨rfl, z_pre hN hKc hPc hDc U hU hW⟩⟩ rfl rfl hl.1 rfl (lv_room (Nat.le_of_ble_eq_true rfl)) d_OS_replaceOutputs_75 ⟨Nat.zero_le _, Nat.zero_le _⟩) 13 18 (w_OS a k zpaths_outer zpaths_count zsteps_targets zsteps_configurations zsteps_runs zsteps_opened zsteps_count zoutputs_contents' zoutputs_makers' zoutputs_executables' zoutputs_lazies' zstaged_contents zstaged_makers zstaged_executables zstaged_lazies zcached_contents zcached_count zholds_contents zholds_count zdirtyMarks_marks zdifferent) hP hD hS hA rfl rfl (fun H locs hP hD hS => ?_)
          refine lv_aload_n hx hb d_OS_replaceOutputs_78 rfl (lv_at hl 1 rfl) ?_
          refine va_get (D := (dC, dI)) (ci := 6) (v := .ref (a 13)) (C := R_OS) (T := F_OS) (N := 8) hx hb hts (fun w h => List.mem_cons_of_mem _ (in_OS w h)) hown hK hP 0 rfl rfl 3 (by decide) (hts _ (List.mem_cons_of_mem _ k_1_113)) (fun _ h9 => h9) rfl d_OS_replaceOutputs_79 ?_
          refine lv_iload hx hb d_OS_replaceOutputs_82 (lv_at hl 0 rfl) ?_
          obtain ⟨u10, hu10, hf⟩ := z_b hf
          have hPc := zP_cut (wc := (w_LT (fun i => a (13 + i)) (fun i => k (9 + i)) zstaged_contents zstaged_makers zstaged_executables zstaged_lazies)) 13 18 hP rfl
          have hDc := zD_cut (wc := (w_LT (fun i => a (13 + i)) (fun i => k (9 + i)) zstaged_contents zstaged_makers zstaged_executables zstaged_lazies)) 13 18 hD rfl
          have hKc := hK.sub (tys' := (t_LT (fun i => k (9 + i)))) [9, 10, 11, 12] rfl
          refine z_ci (va_runV (As := [.int u3]) (rest := [.int u9, .long u8, .int p1, .int u3, .ref (a 8)]) ⟨hx, hb, hml, hown, hts⟩ (c_LT_isLazy l dC dI N (fun i => a (13 + i)) (fun i => k (9 + i)) zstaged_contents zstaged_makers zstaged_executables zstaged_lazies u3 hu10 H.size) (cwV 1 hts (zGV zsub_c k_2_27 k_2_28 k_2_29 k_1_4 kc_LT_isLazy) rfl rfl rfl (by decide +kernel) ⟨Nat.le_of_ble_eq_true rfl, Nat.le_of_ble_eq_true rfl⟩) ⟨z_bl, va_recv hKc hPc (ci := 2) (q0 := 0) rfl rfl, fun U hU hW => ⟨rfl, z_pre hN hKc hPc hDc U hU hW⟩⟩ rfl rfl hl.1 rfl (lv_room (Nat.le_of_ble_eq_true rfl)) d_OS_replaceOutputs_84 ⟨Nat.zero_le _, Nat.zero_le _⟩) 13 18 (w_OS a k zpaths_outer zpaths_count zsteps_targets zsteps_configurations zsteps_runs zsteps_opened zsteps_count zoutputs_contents' zoutputs_makers' zoutputs_executables' zoutputs_lazies' zstaged_contents zstaged_makers zstaged_executables zstaged_lazies zcached_contents zcached_count zholds_contents zholds_count zdirtyMarks_marks zdifferent) hP hD hS hA rfl rfl (fun H locs hP hD hS => ?_)
          obtain ⟨u11, hu11, hf⟩ := z_b hf
          have hPc := zP_cut (wc := (w_LT (fun i => a (8 + i)) (fun i => k (5 + i)) zoutputs_contents' zoutputs_makers' zoutputs_executables' zoutputs_lazies')) 8 13 hP rfl
          have hDc := zD_cut (wc := (w_LT (fun i => a (8 + i)) (fun i => k (5 + i)) zoutputs_contents' zoutputs_makers' zoutputs_executables' zoutputs_lazies')) 8 13 hD rfl
          have hKc := hK.sub (tys' := (t_LT (fun i => k (5 + i)))) [5, 6, 7, 8] rfl
          refine z_cv (va_runV (As := [.int u3, .int p1, .long u8, .int u9, .int u10]) (rest := []) ⟨hx, hb, hml, hown, hts⟩ (c_LT_put l dC dI N (fun i => a (8 + i)) (fun i => k (5 + i)) zoutputs_contents' zoutputs_makers' zoutputs_executables' zoutputs_lazies' u3 p1 u8 u9 u10 hu11 H.size) (cwV 5 hts (zGV zsub_c k_2_7 k_2_8 k_2_9 k_1_4 kc_LT_put) rfl rfl rfl (by decide +kernel) ⟨Nat.le_of_ble_eq_true rfl, Nat.le_of_ble_eq_true rfl⟩) ⟨z_bl, va_recv hKc hPc (ci := 2) (q0 := 0) rfl rfl, fun U hU hW => ⟨rfl, z_pre hN hKc hPc hDc U hU hW⟩⟩ rfl rfl hl.1 rfl (lv_room (Nat.le_of_ble_eq_true rfl)) d_OS_replaceOutputs_87 ⟨Nat.zero_le _, Nat.zero_le _⟩) 8 13 (w_OS a k zpaths_outer zpaths_count zsteps_targets zsteps_configurations zsteps_runs zsteps_opened zsteps_count u11.1 u11.2.1 u11.2.2.1 u11.2.2.2 zstaged_contents zstaged_makers zstaged_executables zstaged_lazies zcached_contents zcached_count zholds_contents zholds_count zdirtyMarks_marks zdifferent) hP hD hS hA rfl rfl (fun H locs hP hD hS => ?_)
          refine lv_goto (tgt := 127) hx hb d_OS_replaceOutputs_90 (by decide) ?_
          refine lv_iinc (v := (x5 + (1 : Int32))) (lv' := [(5, .int (x5 + (1 : Int32))), (6, .int u3), (0, .ref (a 0)), (1, .int p1), (2, .int u0), (3, .int u1), (4, .int x4)]) hx hb d_OS_replaceOutputs_127 hl (k := 6) rfl rfl (by decide) rfl (fun ls hl => ?_)
          refine lv_goto (tgt := 24) hx hb d_OS_replaceOutputs_130 (by decide) ?_
          exact ih24 u11.1 u11.2.1 u11.2.2.1 u11.2.2.2 x4 (x5 + (1 : Int32)) hf H locs ls hP hD hS (lv_sub hl [2, 3, 4, 5, 6, 0] rfl)
  exact loop24 N zoutputs_contents zoutputs_makers zoutputs_executables zoutputs_lazies (0 : Int32) (0 : Int32) hf H locs ls hP hD hS (lv_sub hl [4, 5, 3, 2, 1, 0] rfl)
set_option maxHeartbeats 4000000 in
set_option maxRecDepth 100000 in
theorem c_OS_countStaged (l : Launch) (dC : Nat → ClassId) (dI : Nat → Nat → Nat) (N : Nat) (a : Nat → Nat) (k : Nat → ClassId) (zpaths_outer : Nat → Int32) (zpaths_count : Int32) (zsteps_targets : Nat → Int32) (zsteps_configurations : Nat → Int32) (zsteps_runs : Nat → Int32) (zsteps_opened : Nat → Int32) (zsteps_count : Int32) (zoutputs_contents : Nat → Int64) (zoutputs_makers : Nat → Int32) (zoutputs_executables : Nat → Int32) (zoutputs_lazies : Nat → Int32) (zstaged_contents : Nat → Int64) (zstaged_makers : Nat → Int32) (zstaged_executables : Nat → Int32) (zstaged_lazies : Nat → Int32) (zcached_contents : Nat → Int64) (zcached_count : Int32) (zholds_contents : Nat → Int64) (zholds_count : Int32) (zdirtyMarks_marks : Nat → Int32) (zdifferent : Nat → Int64) (p1 : Int32) {y : (Int32)} (hf : pf_OS_countStaged N zpaths_count zsteps_configurations zsteps_count zstaged_contents zstaged_makers p1 = some y) (sz : Nat) : Met l y_OS_countStaged ww_OS_countStaged ({ frames := 2, cells := 0, slots := 0, locals := 43 }) (va_Pc [.ref (a 0), .int p1] (zB (dC, dI) zCl (t_OS k) (w_OS a k zpaths_outer zpaths_count zsteps_targets zsteps_configurations zsteps_runs zsteps_opened zsteps_count zoutputs_contents zoutputs_makers zoutputs_executables zoutputs_lazies zstaged_contents zstaged_makers zstaged_executables zstaged_lazies zcached_contents zcached_count zholds_contents zholds_count zdirtyMarks_marks zdifferent) sz)) (zQi (dC, dI) zCl (w_OS a k zpaths_outer zpaths_count zsteps_targets zsteps_configurations zsteps_runs zsteps_opened zsteps_count zoutputs_contents zoutputs_makers zoutputs_executables zoutputs_lazies zstaged_contents zstaged_makers zstaged_executables zstaged_lazies zcached_contents zcached_count zholds_contents zholds_count zdirtyMarks_marks zdifferent) sz y (w_OS a k zpaths_outer zpaths_count zsteps_targets zsteps_configurations zsteps_runs zsteps_opened zsteps_count zoutputs_contents zoutputs_makers zoutputs_executables zoutputs_lazies zstaged_contents zstaged_makers zstaged_executables zstaged_lazies zcached_contents zcached_count zholds_contents zholds_count zdirtyMarks_marks zdifferent)) 0 0 (va_A (w_OS a k zpaths_outer zpaths_count zsteps_targets zsteps_configurations zsteps_runs zsteps_opened zsteps_count zoutputs_contents zoutputs_makers zoutputs_executables zoutputs_lazies zstaged_contents zstaged_makers zstaged_executables zstaged_lazies zcached_contents zcached_count zholds_contents zholds_count zdirtyMarks_marks zdifferent) sz) := by
  refine Met.ofW (cc := b_OS_countStaged) (maxL := 5) (ret := (some .int)) (by decide) rfl ?_
  intro p e s m args below meth c s₁ B hml hv
  obtain ⟨rfl, rfl, hP, hK, hD, hN⟩ := hv
  have hx := B.exec
  have hb := B.bytes
  have hr := B.returns
  have hts := atoms_spec (ws := ww_OS_countStaged) B.pre
  have hown : s.vm.findClass R_OS = some m.cls := findClass_of_methodNamed B.named
  have hlocks := B.notSynchronized
  have hA : ∀ q : Nat, s.heap.size ≤ q → va_A (w_OS a k zpaths_outer zpaths_count zsteps_targets zsteps_configurations zsteps_runs zsteps_opened zsteps_count zoutputs_contents zoutputs_makers zoutputs_executables zoutputs_lazies zstaged_contents zstaged_makers zstaged_executables zstaged_lazies zcached_contents zcached_count zholds_contents zholds_count zdirtyMarks_marks zdifferent) s.heap.size q := fun q h => Or.inr h
  refine z_start (lv := [(0, .ref (a 0)), (1, .int p1)]) (Nat.le_of_ble_eq_true rfl) rfl hP hD (fun H locs ls hP hD hS hl => ?_)
  unfold pf_OS_countStaged at hf
  refine lv_aload_n hx hb d_OS_countStaged_0 rfl (lv_at hl 0 rfl) ?_
  refine va_get (D := (dC, dI)) (ci := 6) (v := .ref (a 3)) (C := R_OS) (T := F_OS) (N := 8) hx hb hts (fun w h => List.mem_cons_of_mem _ (in_OS w h)) hown hK hP 0 rfl rfl 1 (by decide) (hts _ (List.mem_cons_of_mem _ k_1_111)) (fun _ h9 => h9) rfl d_OS_countStaged_1 ?_
  refine lv_iload_n hx hb d_OS_countStaged_4 rfl (lv_at hl 1 rfl) ?_
  obtain ⟨u0, hu0, hf⟩ := z_b hf
  have hPc := zP_cut (wc := (w_SB (fun i => a (3 + i)) (fun i => k (1 + i)) zsteps_targets zsteps_configurations zsteps_runs zsteps_opened zsteps_count)) 3 8 hP rfl
  have hDc := zD_cut (wc := (w_SB (fun i => a (3 + i)) (fun i => k (1 + i)) zsteps_targets zsteps_configurations zsteps_runs zsteps_opened zsteps_count)) 3 8 hD rfl
  have hKc := hK.sub (tys' := (t_SB (fun i => k (1 + i)))) [1, 2, 3, 4] rfl
  refine z_ci (va_runV (As := [.int p1]) (rest := []) ⟨hx, hb, hml, hown, hts⟩ (c_SB_configurationOf l dC dI N (fun i => a (3 + i)) (fun i => k (1 + i)) zsteps_targets zsteps_configurations zsteps_runs zsteps_opened zsteps_count p1 hu0 H.size) (cwV 1 hts (zGV zsub_c k_1_187 k_1_188 k_1_189 k_1_3 kc_SB_configurationOf) rfl rfl rfl (by decide +kernel) ⟨Nat.le_of_ble_eq_true rfl, Nat.le_of_ble_eq_true rfl⟩) ⟨z_bl, va_recv hKc hPc (ci := 1) (q0 := 0) rfl rfl, fun U hU hW => ⟨rfl, z_pre hN hKc hPc hDc U hU hW⟩⟩ rfl rfl hl.1 rfl (lv_room (Nat.le_of_ble_eq_true rfl)) d_OS_countStaged_5 ⟨Nat.zero_le _, Nat.zero_le _⟩) 3 8 (w_OS a k zpaths_outer zpaths_count zsteps_targets zsteps_configurations zsteps_runs zsteps_opened zsteps_count zoutputs_contents zoutputs_makers zoutputs_executables zoutputs_lazies zstaged_contents zstaged_makers zstaged_executables zstaged_lazies zcached_contents zcached_count zholds_contents zholds_count zdirtyMarks_marks zdifferent) hP hD hS hA rfl rfl (fun H locs hP hD hS => ?_)
  refine lv_istore_n (lv' := [(2, .int u0), (0, .ref (a 0)), (1, .int p1)]) hx hb d_OS_countStaged_8 rfl hl (by decide) rfl (fun ls hl => ?_)
  refine lv_iconst (v := (0 : Int32)) hx hb d_OS_countStaged_9 (by decide) ?_
  refine lv_istore_n (lv' := [(3, .int (0 : Int32)), (2, .int u0), (0, .ref (a 0)), (1, .int p1)]) hx hb d_OS_countStaged_10 rfl hl (by decide) rfl (fun ls hl => ?_)
  refine lv_iconst (v := (0 : Int32)) hx hb d_OS_countStaged_11 (by decide) ?_
  refine lv_istore (lv' := [(4, .int (0 : Int32)), (3, .int (0 : Int32)), (2, .int u0), (0, .ref (a 0)), (1, .int p1)]) hx hb d_OS_countStaged_12 hl (by decide) rfl (fun ls hl => ?_)
  have loop14 : ∀ (n : Nat) (x3 : Int32) (x4 : Int32), pf_OS_countStaged_L14 N zpaths_count zstaged_contents zstaged_makers p1 u0 n x3 x4 = some y → ∀ (H : Heap) (locs : List Loc) (ls : Array Slot), va_P (dC, dI) zCl (w_OS a k zpaths_outer zpaths_count zsteps_targets zsteps_configurations zsteps_runs zsteps_opened zsteps_count zoutputs_contents zoutputs_makers zoutputs_executables zoutputs_lazies zstaged_contents zstaged_makers zstaged_executables zstaged_lazies zcached_contents zcached_count zholds_contents zholds_count zdirtyMarks_marks zdifferent) H → va_D (va_A (w_OS a k zpaths_outer zpaths_count zsteps_targets zsteps_configurations zsteps_runs zsteps_opened zsteps_count zoutputs_contents zoutputs_makers zoutputs_executables zoutputs_lazies zstaged_contents zstaged_makers zstaged_executables zstaged_lazies zcached_contents zcached_count zholds_contents zholds_count zdirtyMarks_marks zdifferent) s.heap.size) (w_OS a k zpaths_outer zpaths_count zsteps_targets zsteps_configurations zsteps_runs zsteps_opened zsteps_count zoutputs_contents zoutputs_makers zoutputs_executables zoutputs_lazies zstaged_contents zstaged_makers zstaged_executables zstaged_lazies zcached_contents zcached_count zholds_contents zholds_count zdirtyMarks_marks zdifferent) → va_S (va_A (w_OS a k zpaths_outer zpaths_count zsteps_targets zsteps_configurations zsteps_runs zsteps_opened zsteps_count zoutputs_contents zoutputs_makers zoutputs_executables zoutputs_lazies zstaged_contents zstaged_makers zstaged_executables zstaged_lazies zcached_contents zcached_count zholds_contents zholds_count zdirtyMarks_marks zdifferent) s.heap.size) s.heap H locs → lv_has ls 5 [(0, .ref (a 0)), (1, .int p1), (2, .int u0), (3, .int x3), (4, .int x4)] → W p l e (headSpec ww_OS_countStaged ({ frames := 2, cells := 0, slots := 0, locals := 43 })).room s m ([.ref (a 0), .int p1] : List Value).toArray below meth c H locs 0 0 (MQ below (zQi (dC, dI) zCl (w_OS a k zpaths_outer zpaths_count zsteps_targets zsteps_configurations zsteps_runs zsteps_opened zsteps_count zoutputs_contents zoutputs_makers zoutputs_executables zoutputs_lazies zstaged_contents zstaged_makers zstaged_executables zstaged_lazies zcached_contents zcached_count zholds_contents zholds_count zdirtyMarks_marks zdifferent) s.heap.size y (w_OS a k zpaths_outer zpaths_count zsteps_targets zsteps_configurations zsteps_runs zsteps_opened zsteps_count zoutputs_contents zoutputs_makers zoutputs_executables zoutputs_lazies zstaged_contents zstaged_makers zstaged_executables zstaged_lazies zcached_contents zcached_count zholds_contents zholds_count zdirtyMarks_marks zdifferent)) ([.ref (a 0), .int p1] : List Value).toArray s 0 0 (va_A (w_OS a k zpaths_outer zpaths_count zsteps_targets zsteps_configurations zsteps_runs zsteps_opened zsteps_count zoutputs_contents zoutputs_makers zoutputs_executables zoutputs_lazies zstaged_contents zstaged_makers zstaged_executables zstaged_lazies zcached_contents zcached_count zholds_contents zholds_count zdirtyMarks_marks zdifferent) s.heap.size)) (F0 m 14 ls []) := by
    intro n14
    induction n14 with
    | zero => intro x3 x4 hf; rw [pf_OS_countStaged_L14.eq_1] at hf; cases hf
    | succ n14 ih14 =>
      intro x3 x4 hf H locs ls hP hD hS hl
      rw [pf_OS_countStaged_L14.eq_2] at hf
      refine lv_iload hx hb d_OS_countStaged_14 (lv_at hl 4 rfl) ?_
      refine lv_bipush (v := (nI 40)) hx hb d_OS_countStaged_16 (by decide) ?_
      refine lv_icmp_ge (tgt := 48) hx hb d_OS_countStaged_18 (by decide) (fun c1 => ?_) (fun c1 => ?_)
      · have hf := z_t c1 hf
        refine lv_iload_n hx hb d_OS_countStaged_48 rfl (lv_at hl 3 rfl) ?_
        obtain rfl := Option.some.inj hf
        exact z_iret hx hb hr hP hD hS d_OS_countStaged_49 hlocks
      · have hf := z_f c1 hf
        refine lv_aload_n hx hb d_OS_countStaged_21 rfl (lv_at hl 0 rfl) ?_
        refine va_get (D := (dC, dI)) (ci := 6) (v := .ref (a 13)) (C := R_OS) (T := F_OS) (N := 8) hx hb hts (fun w h => List.mem_cons_of_mem _ (in_OS w h)) hown hK hP 0 rfl rfl 3 (by decide) (hts _ (List.mem_cons_of_mem _ k_1_113)) (fun _ h9 => h9) rfl d_OS_countStaged_22 ?_
        refine lv_aload_n hx hb d_OS_countStaged_25 rfl (lv_at hl 0 rfl) ?_
        refine lv_iload_n hx hb d_OS_countStaged_26 rfl (lv_at hl 2 rfl) ?_
        refine lv_iload hx hb d_OS_countStaged_27 (lv_at hl 4 rfl) ?_
        obtain ⟨u1, hu1, hf⟩ := z_b hf
        have hPc := hP
        have hDc := hD
        have hKc := hK
        refine z_cwi (va_runV (As := [.int u0, .int x4]) (rest := [.ref (a 13)]) ⟨hx, hb, hml, hown, hts⟩ (c_OS_slotOf l dC dI N a k zpaths_outer zpaths_count zsteps_targets zsteps_configurations zsteps_runs zsteps_opened zsteps_count zoutputs_contents zoutputs_makers zoutputs_executables zoutputs_lazies zstaged_contents zstaged_makers zstaged_executables zstaged_lazies zcached_contents zcached_count zholds_contents zholds_count zdirtyMarks_marks zdifferent u0 x4 hu1 H.size) (cwV 2 hts (zGV zsub_c k_1_191 k_1_193 s_OS_slotOf k_1_1 kc_OS_slotOf) rfl rfl rfl (by decide +kernel) ⟨Nat.le_of_ble_eq_true rfl, Nat.le_of_ble_eq_true rfl⟩) ⟨z_bl, va_recv hKc hPc (ci := 6) (q0 := 0) rfl rfl, fun U hU hW => ⟨rfl, z_pre hN hKc hPc hDc U hU hW⟩⟩ rfl rfl hl.1 rfl (lv_room (Nat.le_of_ble_eq_true rfl)) d_OS_countStaged_29 ⟨Nat.zero_le _, Nat.zero_le _⟩) hD hS hA (fun H locs hP hD hS => ?_)
        refine lv_iload_n hx hb d_OS_countStaged_32 rfl (lv_at hl 1 rfl) ?_
        obtain ⟨u2, hu2, hf⟩ := z_b hf
        have hPc := zP_cut (wc := (w_LT (fun i => a (13 + i)) (fun i => k (9 + i)) zstaged_contents zstaged_makers zstaged_executables zstaged_lazies)) 13 18 hP rfl
        have hDc := zD_cut (wc := (w_LT (fun i => a (13 + i)) (fun i => k (9 + i)) zstaged_contents zstaged_makers zstaged_executables zstaged_lazies)) 13 18 hD rfl
        have hKc := hK.sub (tys' := (t_LT (fun i => k (9 + i)))) [9, 10, 11, 12] rfl
        refine z_ci (va_runV (As := [.int u1, .int p1]) (rest := []) ⟨hx, hb, hml, hown, hts⟩ (c_LT_isOfStep l dC dI N (fun i => a (13 + i)) (fun i => k (9 + i)) zstaged_contents zstaged_makers zstaged_executables zstaged_lazies u1 p1 hu2 H.size) (cwV 2 hts (zGV zsub_c k_1_195 k_1_196 k_1_197 k_1_4 kc_LT_isOfStep) rfl rfl rfl (by decide +kernel) ⟨Nat.le_of_ble_eq_true rfl, Nat.le_of_ble_eq_true rfl⟩) ⟨z_bl, va_recv hKc hPc (ci := 2) (q0 := 0) rfl rfl, fun U hU hW => ⟨rfl, z_pre hN hKc hPc hDc U hU hW⟩⟩ rfl rfl hl.1 rfl (lv_room (Nat.le_of_ble_eq_true rfl)) d_OS_countStaged_33 ⟨Nat.zero_le _, Nat.zero_le _⟩) 13 18 (w_OS a k zpaths_outer zpaths_count zsteps_targets zsteps_configurations zsteps_runs zsteps_opened zsteps_count zoutputs_contents zoutputs_makers zoutputs_executables zoutputs_lazies zstaged_contents zstaged_makers zstaged_executables zstaged_lazies zcached_contents zcached_count zholds_contents zholds_count zdirtyMarks_marks zdifferent) hP hD hS hA rfl rfl (fun H locs hP hD hS => ?_)
        refine lv_if_eq (tgt := 42) hx hb d_OS_countStaged_36 (by decide) (fun c2 => ?_) (fun c2 => ?_)
        · have hf := z_t c2 hf
          refine lv_iinc (v := (x4 + (1 : Int32))) (lv' := [(4, .int (x4 + (1 : Int32))), (0, .ref (a 0)), (1, .int p1), (2, .int u0), (3, .int x3)]) hx hb d_OS_countStaged_42 hl (k := 4) rfl rfl (by decide) rfl (fun ls hl => ?_)
          refine lv_goto (tgt := 14) hx hb d_OS_countStaged_45 (by decide) ?_
          exact ih14 x3 (x4 + (1 : Int32)) hf H locs ls hP hD hS (lv_sub hl [1, 2, 3, 4, 0] rfl)
        · have hf := z_f c2 hf
          refine lv_iinc (v := (x3 + (1 : Int32))) (lv' := [(3, .int (x3 + (1 : Int32))), (0, .ref (a 0)), (1, .int p1), (2, .int u0), (4, .int x4)]) hx hb d_OS_countStaged_39 hl (k := 3) rfl rfl (by decide) rfl (fun ls hl => ?_)
          refine lv_iinc (v := (x4 + (1 : Int32))) (lv' := [(4, .int (x4 + (1 : Int32))), (3, .int (x3 + (1 : Int32))), (0, .ref (a 0)), (1, .int p1), (2, .int u0)]) hx hb d_OS_countStaged_42 hl (k := 4) rfl rfl (by decide) rfl (fun ls hl => ?_)
          refine lv_goto (tgt := 14) hx hb d_OS_countStaged_45 (by decide) ?_
          exact ih14 (x3 + (1 : Int32)) (x4 + (1 : Int32)) hf H locs ls hP hD hS (lv_sub hl [2, 3, 4, 1, 0] rfl)
  exact loop14 N (0 : Int32) (0 : Int32) hf H locs ls hP hD hS (lv_sub hl [3, 4, 2, 1, 0] rfl)
set_option maxHeartbeats 4000000 in
set_option maxRecDepth 100000 in
theorem c_OS_isStagedAgainst (l : Launch) (dC : Nat → ClassId) (dI : Nat → Nat → Nat) (N : Nat) (a : Nat → Nat) (k : Nat → ClassId) (zpaths_outer : Nat → Int32) (zpaths_count : Int32) (zsteps_targets : Nat → Int32) (zsteps_configurations : Nat → Int32) (zsteps_runs : Nat → Int32) (zsteps_opened : Nat → Int32) (zsteps_count : Int32) (zoutputs_contents : Nat → Int64) (zoutputs_makers : Nat → Int32) (zoutputs_executables : Nat → Int32) (zoutputs_lazies : Nat → Int32) (zstaged_contents : Nat → Int64) (zstaged_makers : Nat → Int32) (zstaged_executables : Nat → Int32) (zstaged_lazies : Nat → Int32) (zcached_contents : Nat → Int64) (zcached_count : Int32) (zholds_contents : Nat → Int64) (zholds_count : Int32) (zdirtyMarks_marks : Nat → Int32) (zdifferent : Nat → Int64) (p1 : Int32) (p2 : Int32) (p3 : Int32) {y : (Int32)} (hf : pf_OS_isStagedAgainst N zstaged_contents zstaged_makers p1 p2 p3 = some y) (sz : Nat) : Met l y_OS_isStagedAgainst ww_OS_isStagedAgainst ({ frames := 2, cells := 0, slots := 0, locals := 43 }) (va_Pc [.ref (a 0), .int p1, .int p2, .int p3] (zB (dC, dI) zCl (t_OS k) (w_OS a k zpaths_outer zpaths_count zsteps_targets zsteps_configurations zsteps_runs zsteps_opened zsteps_count zoutputs_contents zoutputs_makers zoutputs_executables zoutputs_lazies zstaged_contents zstaged_makers zstaged_executables zstaged_lazies zcached_contents zcached_count zholds_contents zholds_count zdirtyMarks_marks zdifferent) sz)) (zQi (dC, dI) zCl (w_OS a k zpaths_outer zpaths_count zsteps_targets zsteps_configurations zsteps_runs zsteps_opened zsteps_count zoutputs_contents zoutputs_makers zoutputs_executables zoutputs_lazies zstaged_contents zstaged_makers zstaged_executables zstaged_lazies zcached_contents zcached_count zholds_contents zholds_count zdirtyMarks_marks zdifferent) sz y (w_OS a k zpaths_outer zpaths_count zsteps_targets zsteps_configurations zsteps_runs zsteps_opened zsteps_count zoutputs_contents zoutputs_makers zoutputs_executables zoutputs_lazies zstaged_contents zstaged_makers zstaged_executables zstaged_lazies zcached_contents zcached_count zholds_contents zholds_count zdirtyMarks_marks zdifferent)) 0 0 (va_A (w_OS a k zpaths_outer zpaths_count zsteps_targets zsteps_configurations zsteps_runs zsteps_opened zsteps_count zoutputs_contents zoutputs_makers zoutputs_executables zoutputs_lazies zstaged_contents zstaged_makers zstaged_executables zstaged_lazies zcached_contents zcached_count zholds_contents zholds_count zdirtyMarks_marks zdifferent) sz) := by
  refine Met.ofW (cc := b_OS_isStagedAgainst) (maxL := 4) (ret := (some .boolean)) (by decide) rfl ?_
  intro p e s m args below meth c s₁ B hml hv
  obtain ⟨rfl, rfl, hP, hK, hD, hN⟩ := hv
  have hx := B.exec
  have hb := B.bytes
  have hr := B.returns
  have hts := atoms_spec (ws := ww_OS_isStagedAgainst) B.pre
  have hown : s.vm.findClass R_OS = some m.cls := findClass_of_methodNamed B.named
  have hlocks := B.notSynchronized
  have hA : ∀ q : Nat, s.heap.size ≤ q → va_A (w_OS a k zpaths_outer zpaths_count zsteps_targets zsteps_configurations zsteps_runs zsteps_opened zsteps_count zoutputs_contents zoutputs_makers zoutputs_executables zoutputs_lazies zstaged_contents zstaged_makers zstaged_executables zstaged_lazies zcached_contents zcached_count zholds_contents zholds_count zdirtyMarks_marks zdifferent) s.heap.size q := fun q h => Or.inr h
  refine z_start (lv := [(0, .ref (a 0)), (1, .int p1), (2, .int p2), (3, .int p3)]) (Nat.le_of_ble_eq_true rfl) rfl hP hD (fun H locs ls hP hD hS hl => ?_)
  unfold pf_OS_isStagedAgainst at hf
  refine lv_aload_n hx hb d_OS_isStagedAgainst_0 rfl (lv_at hl 0 rfl) ?_
  refine va_get (D := (dC, dI)) (ci := 6) (v := .ref (a 13)) (C := R_OS) (T := F_OS) (N := 8) hx hb hts (fun w h => List.mem_cons_of_mem _ (in_OS w h)) hown hK hP 0 rfl rfl 3 (by decide) (hts _ (List.mem_cons_of_mem _ k_1_113)) (fun _ h9 => h9) rfl d_OS_isStagedAgainst_1 ?_
  refine lv_iload_n hx hb d_OS_isStagedAgainst_4 rfl (lv_at hl 2 rfl) ?_
  obtain ⟨u0, hu0, hf⟩ := z_b hf
  have hPc := zP_cut (wc := (w_LT (fun i => a (13 + i)) (fun i => k (9 + i)) zstaged_contents zstaged_makers zstaged_executables zstaged_lazies)) 13 18 hP rfl
  have hDc := zD_cut (wc := (w_LT (fun i => a (13 + i)) (fun i => k (9 + i)) zstaged_contents zstaged_makers zstaged_executables zstaged_lazies)) 13 18 hD rfl
  have hKc := hK.sub (tys' := (t_LT (fun i => k (9 + i)))) [9, 10, 11, 12] rfl
  refine z_ci (va_runV (As := [.int p2]) (rest := []) ⟨hx, hb, hml, hown, hts⟩ (c_LT_has l dC dI N (fun i => a (13 + i)) (fun i => k (9 + i)) zstaged_contents zstaged_makers zstaged_executables zstaged_lazies p2 hu0 H.size) (cwV 1 hts (zGV zsub_c k_1_215 k_1_200 k_1_201 k_1_4 kc_LT_has) rfl rfl rfl (by decide +kernel) ⟨Nat.le_of_ble_eq_true rfl, Nat.le_of_ble_eq_true rfl⟩) ⟨z_bl, va_recv hKc hPc (ci := 2) (q0 := 0) rfl rfl, fun U hU hW => ⟨rfl, z_pre hN hKc hPc hDc U hU hW⟩⟩ rfl rfl hl.1 rfl (lv_room (Nat.le_of_ble_eq_true rfl)) d_OS_isStagedAgainst_5 ⟨Nat.zero_le _, Nat.zero_le _⟩) 13 18 (w_OS a k zpaths_outer zpaths_count zsteps_targets zsteps_configurations zsteps_runs zsteps_opened zsteps_count zoutputs_contents zoutputs_makers zoutputs_executables zoutputs_lazies zstaged_contents zstaged_makers zstaged_executables zstaged_lazies zcached_contents zcached_count zholds_contents zholds_count zdirtyMarks_marks zdifferent) hP hD hS hA rfl rfl (fun H locs hP hD hS => ?_)
  refine lv_if_eq (tgt := 31) hx hb d_OS_isStagedAgainst_8 (by decide) (fun c1 => ?_) (fun c1 => ?_)
  · have hf := z_t c1 hf
    refine lv_iconst (v := (0 : Int32)) hx hb d_OS_isStagedAgainst_31 (by decide) ?_
    obtain rfl := Option.some.inj hf
    exact z_zret hx hb hr (Or.inl rfl) hP hD hS d_OS_isStagedAgainst_32 hlocks
  · have hf := z_f c1 hf
    refine lv_iload_n hx hb d_OS_isStagedAgainst_11 rfl (lv_at hl 3 rfl) ?_
    refine lv_if_eq (tgt := 27) hx hb d_OS_isStagedAgainst_12 (by decide) (fun c2 => ?_) (fun c2 => ?_)
    · have hf := z_t c2 hf
      refine lv_iconst (v := (1 : Int32)) hx hb d_OS_isStagedAgainst_27 (by decide) ?_
      refine lv_goto (tgt := 32) hx hb d_OS_isStagedAgainst_28 (by decide) ?_
      obtain rfl := Option.some.inj hf
      exact z_zret hx hb hr (Or.inr rfl) hP hD hS d_OS_isStagedAgainst_32 hlocks
    · have hf := z_f c2 hf
      refine lv_aload_n hx hb d_OS_isStagedAgainst_15 rfl (lv_at hl 0 rfl) ?_
      refine va_get (D := (dC, dI)) (ci := 6) (v := .ref (a 13)) (C := R_OS) (T := F_OS) (N := 8) hx hb hts (fun w h => List.mem_cons_of_mem _ (in_OS w h)) hown hK hP 0 rfl rfl 3 (by decide) (hts _ (List.mem_cons_of_mem _ k_1_113)) (fun _ h9 => h9) rfl d_OS_isStagedAgainst_16 ?_
      refine lv_iload_n hx hb d_OS_isStagedAgainst_19 rfl (lv_at hl 2 rfl) ?_
      refine lv_iload_n hx hb d_OS_isStagedAgainst_20 rfl (lv_at hl 1 rfl) ?_
      obtain ⟨u1, hu1, hf⟩ := z_b hf
      have hPc := zP_cut (wc := (w_LT (fun i => a (13 + i)) (fun i => k (9 + i)) zstaged_contents zstaged_makers zstaged_executables zstaged_lazies)) 13 18 hP rfl
      have hDc := zD_cut (wc := (w_LT (fun i => a (13 + i)) (fun i => k (9 + i)) zstaged_contents zstaged_makers zstaged_executables zstaged_lazies)) 13 18 hD rfl
      have hKc := hK.sub (tys' := (t_LT (fun i => k (9 + i)))) [9, 10, 11, 12] rfl
      refine z_ci (va_runV (As := [.int p2, .int p1]) (rest := []) ⟨hx, hb, hml, hown, hts⟩ (c_LT_isOfStep l dC dI N (fun i => a (13 + i)) (fun i => k (9 + i)) zstaged_contents zstaged_makers zstaged_executables zstaged_lazies p2 p1 hu1 H.size) (cwV 2 hts (zGV zsub_c k_1_195 k_1_196 k_1_197 k_1_4 kc_LT_isOfStep) rfl rfl rfl (by decide +kernel) ⟨Nat.le_of_ble_eq_true rfl, Nat.le_of_ble_eq_true rfl⟩) ⟨z_bl, va_recv hKc hPc (ci := 2) (q0 := 0) rfl rfl, fun U hU hW => ⟨rfl, z_pre hN hKc hPc hDc U hU hW⟩⟩ rfl rfl hl.1 rfl (lv_room (Nat.le_of_ble_eq_true rfl)) d_OS_isStagedAgainst_21 ⟨Nat.zero_le _, Nat.zero_le _⟩) 13 18 (w_OS a k zpaths_outer zpaths_count zsteps_targets zsteps_configurations zsteps_runs zsteps_opened zsteps_count zoutputs_contents zoutputs_makers zoutputs_executables zoutputs_lazies zstaged_contents zstaged_makers zstaged_executables zstaged_lazies zcached_contents zcached_count zholds_contents zholds_count zdirtyMarks_marks zdifferent) hP hD hS hA rfl rfl (fun H locs hP hD hS => ?_)
      refine lv_if_ne (tgt := 31) hx hb d_OS_isStagedAgainst_24 (by decide) (fun c3 => ?_) (fun c3 => ?_)
      · have hf := z_t c3 hf
        refine lv_iconst (v := (0 : Int32)) hx hb d_OS_isStagedAgainst_31 (by decide) ?_
        obtain rfl := Option.some.inj hf
        exact z_zret hx hb hr (Or.inl rfl) hP hD hS d_OS_isStagedAgainst_32 hlocks
      · have hf := z_fn c3 hf
        refine lv_iconst (v := (1 : Int32)) hx hb d_OS_isStagedAgainst_27 (by decide) ?_
        refine lv_goto (tgt := 32) hx hb d_OS_isStagedAgainst_28 (by decide) ?_
        obtain rfl := Option.some.inj hf
        exact z_zret hx hb hr (Or.inr rfl) hP hD hS d_OS_isStagedAgainst_32 hlocks
set_option maxHeartbeats 4000000 in
set_option maxRecDepth 100000 in
theorem c_OS_isOutputOfAnother (l : Launch) (dC : Nat → ClassId) (dI : Nat → Nat → Nat) (N : Nat) (a : Nat → Nat) (k : Nat → ClassId) (zpaths_outer : Nat → Int32) (zpaths_count : Int32) (zsteps_targets : Nat → Int32) (zsteps_configurations : Nat → Int32) (zsteps_runs : Nat → Int32) (zsteps_opened : Nat → Int32) (zsteps_count : Int32) (zoutputs_contents : Nat → Int64) (zoutputs_makers : Nat → Int32) (zoutputs_executables : Nat → Int32) (zoutputs_lazies : Nat → Int32) (zstaged_contents : Nat → Int64) (zstaged_makers : Nat → Int32) (zstaged_executables : Nat → Int32) (zstaged_lazies : Nat → Int32) (zcached_contents : Nat → Int64) (zcached_count : Int32) (zholds_contents : Nat → Int64) (zholds_count : Int32) (zdirtyMarks_marks : Nat → Int32) (zdifferent : Nat → Int64) (p1 : Int32) (p2 : Int32) {y : (Int32)} (hf : pf_OS_isOutputOfAnother N zsteps_targets zsteps_count zoutputs_contents zoutputs_makers p1 p2 = some y) (sz : Nat) : Met l y_OS_isOutputOfAnother ww_OS_isOutputOfAnother ({ frames := 3, cells := 0, slots := 0, locals := 63 }) (va_Pc [.ref (a 0), .int p1, .int p2] (zB (dC, dI) zCl (t_OS k) (w_OS a k zpaths_outer zpaths_count zsteps_targets zsteps_configurations zsteps_runs zsteps_opened zsteps_count zoutputs_contents zoutputs_makers zoutputs_executables zoutputs_lazies zstaged_contents zstaged_makers zstaged_executables zstaged_lazies zcached_contents zcached_count zholds_contents zholds_count zdirtyMarks_marks zdifferent) sz)) (zQi (dC, dI) zCl (w_OS a k zpaths_outer zpaths_count zsteps_targets zsteps_configurations zsteps_runs zsteps_opened zsteps_count zoutputs_contents zoutputs_makers zoutputs_executables zoutputs_lazies zstaged_contents zstaged_makers zstaged_executables zstaged_lazies zcached_contents zcached_count zholds_contents zholds_count zdirtyMarks_marks zdifferent) sz y (w_OS a k zpaths_outer zpaths_count zsteps_targets zsteps_configurations zsteps_runs zsteps_opened zsteps_count zoutputs_contents zoutputs_makers zoutputs_executables zoutputs_lazies zstaged_contents zstaged_makers zstaged_executables zstaged_lazies zcached_contents zcached_count zholds_contents zholds_count zdirtyMarks_marks zdifferent)) 0 0 (va_A (w_OS a k zpaths_outer zpaths_count zsteps_targets zsteps_configurations zsteps_runs zsteps_opened zsteps_count zoutputs_contents zoutputs_makers zoutputs_executables zoutputs_lazies zstaged_contents zstaged_makers zstaged_executables zstaged_lazies zcached_contents zcached_count zholds_contents zholds_count zdirtyMarks_marks zdifferent) sz) := by
  refine Met.ofW (cc := b_OS_isOutputOfAnother) (maxL := 3) (ret := (some .boolean)) (by decide) rfl ?_
  intro p e s m args below meth c s₁ B hml hv
  obtain ⟨rfl, rfl, hP, hK, hD, hN⟩ := hv
  have hx := B.exec
  have hb := B.bytes
  have hr := B.returns
  have hts := atoms_spec (ws := ww_OS_isOutputOfAnother) B.pre
  have hown : s.vm.findClass R_OS = some m.cls := findClass_of_methodNamed B.named
  have hlocks := B.notSynchronized
  have hA : ∀ q : Nat, s.heap.size ≤ q → va_A (w_OS a k zpaths_outer zpaths_count zsteps_targets zsteps_configurations zsteps_runs zsteps_opened zsteps_count zoutputs_contents zoutputs_makers zoutputs_executables zoutputs_lazies zstaged_contents zstaged_makers zstaged_executables zstaged_lazies zcached_contents zcached_count zholds_contents zholds_count zdirtyMarks_marks zdifferent) s.heap.size q := fun q h => Or.inr h
  refine z_start (lv := [(0, .ref (a 0)), (1, .int p1), (2, .int p2)]) (Nat.le_of_ble_eq_true rfl) rfl hP hD (fun H locs ls hP hD hS hl => ?_)
  unfold pf_OS_isOutputOfAnother at hf
  refine lv_aload_n hx hb d_OS_isOutputOfAnother_0 rfl (lv_at hl 0 rfl) ?_
  refine va_get (D := (dC, dI)) (ci := 6) (v := .ref (a 8)) (C := R_OS) (T := F_OS) (N := 8) hx hb hts (fun w h => List.mem_cons_of_mem _ (in_OS w h)) hown hK hP 0 rfl rfl 2 (by decide) (hts _ (List.mem_cons_of_mem _ k_1_112)) (fun _ h9 => h9) rfl d_OS_isOutputOfAnother_1 ?_
  refine lv_iload_n hx hb d_OS_isOutputOfAnother_4 rfl (lv_at hl 2 rfl) ?_
  obtain ⟨u0, hu0, hf⟩ := z_b hf
  have hPc := zP_cut (wc := (w_LT (fun i => a (8 + i)) (fun i => k (5 + i)) zoutputs_contents zoutputs_makers zoutputs_executables zoutputs_lazies)) 8 13 hP rfl
  have hDc := zD_cut (wc := (w_LT (fun i => a (8 + i)) (fun i => k (5 + i)) zoutputs_contents zoutputs_makers zoutputs_executables zoutputs_lazies)) 8 13 hD rfl
  have hKc := hK.sub (tys' := (t_LT (fun i => k (5 + i)))) [5, 6, 7, 8] rfl
  refine z_ci (va_runV (As := [.int p2]) (rest := []) ⟨hx, hb, hml, hown, hts⟩ (c_LT_has l dC dI N (fun i => a (8 + i)) (fun i => k (5 + i)) zoutputs_contents zoutputs_makers zoutputs_executables zoutputs_lazies p2 hu0 H.size) (cwV 1 hts (zGV zsub_c k_1_215 k_1_200 k_1_201 k_1_4 kc_LT_has) rfl rfl rfl (by decide +kernel) ⟨Nat.le_of_ble_eq_true rfl, Nat.le_of_ble_eq_true rfl⟩) ⟨z_bl, va_recv hKc hPc (ci := 2) (q0 := 0) rfl rfl, fun U hU hW => ⟨rfl, z_pre hN hKc hPc hDc U hU hW⟩⟩ rfl rfl hl.1 rfl (lv_room (Nat.le_of_ble_eq_true rfl)) d_OS_isOutputOfAnother_5 ⟨Nat.zero_le _, Nat.zero_le _⟩) 8 13 (w_OS a k zpaths_outer zpaths_count zsteps_targets zsteps_configurations zsteps_runs zsteps_opened zsteps_count zoutputs_contents zoutputs_makers zoutputs_executables zoutputs_lazies zstaged_contents zstaged_makers zstaged_executables zstaged_lazies zcached_contents zcached_count zholds_contents zholds_count zdirtyMarks_marks zdifferent) hP hD hS hA rfl rfl (fun H locs hP hD hS => ?_)
  refine lv_if_eq (tgt := 31) hx hb d_OS_isOutputOfAnother_8 (by decide) (fun c1 => ?_) (fun c1 => ?_)
  · have hf := z_t c1 hf
    refine lv_iconst (v := (0 : Int32)) hx hb d_OS_isOutputOfAnother_31 (by decide) ?_
    obtain rfl := Option.some.inj hf
    exact z_zret hx hb hr (Or.inl rfl) hP hD hS d_OS_isOutputOfAnother_32 hlocks
  · have hf := z_f c1 hf
    refine lv_aload_n hx hb d_OS_isOutputOfAnother_11 rfl (lv_at hl 0 rfl) ?_
    refine lv_iload_n hx hb d_OS_isOutputOfAnother_12 rfl (lv_at hl 2 rfl) ?_
    obtain ⟨u1, hu1, hf⟩ := z_b hf
    have hPc := hP
    have hDc := hD
    have hKc := hK
    refine z_cwi (va_runV (As := [.int p2]) (rest := []) ⟨hx, hb, hml, hown, hts⟩ (c_OS_targetAt l dC dI N a k zpaths_outer zpaths_count zsteps_targets zsteps_configurations zsteps_runs zsteps_opened zsteps_count zoutputs_contents zoutputs_makers zoutputs_executables zoutputs_lazies zstaged_contents zstaged_makers zstaged_executables zstaged_lazies zcached_contents zcached_count zholds_contents zholds_count zdirtyMarks_marks zdifferent p2 hu1 H.size) (cwV 1 hts (zGV zsub_c k_1_216 k_1_218 s_OS_targetAt k_1_1 kc_OS_targetAt) rfl rfl rfl (by decide +kernel) ⟨Nat.le_of_ble_eq_true rfl, Nat.le_of_ble_eq_true rfl⟩) ⟨z_bl, va_recv hKc hPc (ci := 6) (q0 := 0) rfl rfl, fun U hU hW => ⟨rfl, z_pre hN hKc hPc hDc U hU hW⟩⟩ rfl rfl hl.1 rfl (lv_room (Nat.le_of_ble_eq_true rfl)) d_OS_isOutputOfAnother_13 ⟨Nat.zero_le _, Nat.zero_le _⟩) hD hS hA (fun H locs hP hD hS => ?_)
    refine lv_aload_n hx hb d_OS_isOutputOfAnother_16 rfl (lv_at hl 0 rfl) ?_
    refine va_get (D := (dC, dI)) (ci := 6) (v := .ref (a 3)) (C := R_OS) (T := F_OS) (N := 8) hx hb hts (fun w h => List.mem_cons_of_mem _ (in_OS w h)) hown hK hP 0 rfl rfl 1 (by decide) (hts _ (List.mem_cons_of_mem _ k_1_111)) (fun _ h9 => h9) rfl d_OS_isOutputOfAnother_17 ?_
    refine lv_iload_n hx hb d_OS_isOutputOfAnother_20 rfl (lv_at hl 1 rfl) ?_
    obtain ⟨u2, hu2, hf⟩ := z_b hf
    have hPc := zP_cut (wc := (w_SB (fun i => a (3 + i)) (fun i => k (1 + i)) zsteps_targets zsteps_configurations zsteps_runs zsteps_opened zsteps_count)) 3 8 hP rfl
    have hDc := zD_cut (wc := (w_SB (fun i => a (3 + i)) (fun i => k (1 + i)) zsteps_targets zsteps_configurations zsteps_runs zsteps_opened zsteps_count)) 3 8 hD rfl
    have hKc := hK.sub (tys' := (t_SB (fun i => k (1 + i)))) [1, 2, 3, 4] rfl
    refine z_ci (va_runV (As := [.int p1]) (rest := [.int u1]) ⟨hx, hb, hml, hown, hts⟩ (c_SB_targetOf l dC dI N (fun i => a (3 + i)) (fun i => k (1 + i)) zsteps_targets zsteps_configurations zsteps_runs zsteps_opened zsteps_count p1 hu2 H.size) (cwV 1 hts (zGV zsub_c k_1_224 k_1_225 k_1_226 k_1_3 kc_SB_targetOf) rfl rfl rfl (by decide +kernel) ⟨Nat.le_of_ble_eq_true rfl, Nat.le_of_ble_eq_true rfl⟩) ⟨z_bl, va_recv hKc hPc (ci := 1) (q0 := 0) rfl rfl, fun U hU hW => ⟨rfl, z_pre hN hKc hPc hDc U hU hW⟩⟩ rfl rfl hl.1 rfl (lv_room (Nat.le_of_ble_eq_true rfl)) d_OS_isOutputOfAnother_21 ⟨Nat.zero_le _, Nat.zero_le _⟩) 3 8 (w_OS a k zpaths_outer zpaths_count zsteps_targets zsteps_configurations zsteps_runs zsteps_opened zsteps_count zoutputs_contents zoutputs_makers zoutputs_executables zoutputs_lazies zstaged_contents zstaged_makers zstaged_executables zstaged_lazies zcached_contents zcached_count zholds_contents zholds_count zdirtyMarks_marks zdifferent) hP hD hS hA rfl rfl (fun H locs hP hD hS => ?_)
    refine lv_icmp_eq (tgt := 31) hx hb d_OS_isOutputOfAnother_24 (by decide) (fun c2 => ?_) (fun c2 => ?_)
    · have hf := z_t c2 hf
      refine lv_iconst (v := (0 : Int32)) hx hb d_OS_isOutputOfAnother_31 (by decide) ?_
      obtain rfl := Option.some.inj hf
      exact z_zret hx hb hr (Or.inl rfl) hP hD hS d_OS_isOutputOfAnother_32 hlocks
    · have hf := z_f c2 hf
      refine lv_iconst (v := (1 : Int32)) hx hb d_OS_isOutputOfAnother_27 (by decide) ?_
      refine lv_goto (tgt := 32) hx hb d_OS_isOutputOfAnother_28 (by decide) ?_
      obtain rfl := Option.some.inj hf
      exact z_zret hx hb hr (Or.inr rfl) hP hD hS d_OS_isOutputOfAnother_32 hlocks
set_option maxHeartbeats 4000000 in
set_option maxRecDepth 100000 in
theorem c_OS_isRefused (l : Launch) (dC : Nat → ClassId) (dI : Nat → Nat → Nat) (N : Nat) (a : Nat → Nat) (k : Nat → ClassId) (zpaths_outer : Nat → Int32) (zpaths_count : Int32) (zsteps_targets : Nat → Int32) (zsteps_configurations : Nat → Int32) (zsteps_runs : Nat → Int32) (zsteps_opened : Nat → Int32) (zsteps_count : Int32) (zoutputs_contents : Nat → Int64) (zoutputs_makers : Nat → Int32) (zoutputs_executables : Nat → Int32) (zoutputs_lazies : Nat → Int32) (zstaged_contents : Nat → Int64) (zstaged_makers : Nat → Int32) (zstaged_executables : Nat → Int32) (zstaged_lazies : Nat → Int32) (zcached_contents : Nat → Int64) (zcached_count : Int32) (zholds_contents : Nat → Int64) (zholds_count : Int32) (zdirtyMarks_marks : Nat → Int32) (zdifferent : Nat → Int64) (p1 : Int32) (p2 : Int32) {y : (Int32)} (hf : pf_OS_isRefused N zpaths_outer zpaths_count zsteps_targets zsteps_configurations zsteps_count zoutputs_contents zoutputs_makers zstaged_contents zstaged_makers p1 p2 = some y) (sz : Nat) : Met l y_OS_isRefused ww_OS_isRefused ({ frames := 4, cells := 0, slots := 0, locals := 85 }) (va_Pc [.ref (a 0), .int p1, .int p2] (zB (dC, dI) zCl (t_OS k) (w_OS a k zpaths_outer zpaths_count zsteps_targets zsteps_configurations zsteps_runs zsteps_opened zsteps_count zoutputs_contents zoutputs_makers zoutputs_executables zoutputs_lazies zstaged_contents zstaged_makers zstaged_executables zstaged_lazies zcached_contents zcached_count zholds_contents zholds_count zdirtyMarks_marks zdifferent) sz)) (zQi (dC, dI) zCl (w_OS a k zpaths_outer zpaths_count zsteps_targets zsteps_configurations zsteps_runs zsteps_opened zsteps_count zoutputs_contents zoutputs_makers zoutputs_executables zoutputs_lazies zstaged_contents zstaged_makers zstaged_executables zstaged_lazies zcached_contents zcached_count zholds_contents zholds_count zdirtyMarks_marks zdifferent) sz y (w_OS a k zpaths_outer zpaths_count zsteps_targets zsteps_configurations zsteps_runs zsteps_opened zsteps_count zoutputs_contents zoutputs_makers zoutputs_executables zoutputs_lazies zstaged_contents zstaged_makers zstaged_executables zstaged_lazies zcached_contents zcached_count zholds_contents zholds_count zdirtyMarks_marks zdifferent)) 0 0 (va_A (w_OS a k zpaths_outer zpaths_count zsteps_targets zsteps_configurations zsteps_runs zsteps_opened zsteps_count zoutputs_contents zoutputs_makers zoutputs_executables zoutputs_lazies zstaged_contents zstaged_makers zstaged_executables zstaged_lazies zcached_contents zcached_count zholds_contents zholds_count zdirtyMarks_marks zdifferent) sz) := by
  refine Met.ofW (cc := b_OS_isRefused) (maxL := 7) (ret := (some .boolean)) (by decide) rfl ?_
  intro p e s m args below meth c s₁ B hml hv
  obtain ⟨rfl, rfl, hP, hK, hD, hN⟩ := hv
  have hx := B.exec
  have hb := B.bytes
  have hr := B.returns
  have hts := atoms_spec (ws := ww_OS_isRefused) B.pre
  have hown : s.vm.findClass R_OS = some m.cls := findClass_of_methodNamed B.named
  have hlocks := B.notSynchronized
  have hA : ∀ q : Nat, s.heap.size ≤ q → va_A (w_OS a k zpaths_outer zpaths_count zsteps_targets zsteps_configurations zsteps_runs zsteps_opened zsteps_count zoutputs_contents zoutputs_makers zoutputs_executables zoutputs_lazies zstaged_contents zstaged_makers zstaged_executables zstaged_lazies zcached_contents zcached_count zholds_contents zholds_count zdirtyMarks_marks zdifferent) s.heap.size q := fun q h => Or.inr h
  refine z_start (lv := [(0, .ref (a 0)), (1, .int p1), (2, .int p2)]) (Nat.le_of_ble_eq_true rfl) rfl hP hD (fun H locs ls hP hD hS hl => ?_)
  unfold pf_OS_isRefused at hf
  refine lv_aload_n hx hb d_OS_isRefused_0 rfl (lv_at hl 0 rfl) ?_
  refine va_get (D := (dC, dI)) (ci := 6) (v := .ref (a 3)) (C := R_OS) (T := F_OS) (N := 8) hx hb hts (fun w h => List.mem_cons_of_mem _ (in_OS w h)) hown hK hP 0 rfl rfl 1 (by decide) (hts _ (List.mem_cons_of_mem _ k_1_111)) (fun _ h9 => h9) rfl d_OS_isRefused_1 ?_
  refine lv_iload_n hx hb d_OS_isRefused_4 rfl (lv_at hl 1 rfl) ?_
  obtain ⟨u0, hu0, hf⟩ := z_b hf
  have hPc := zP_cut (wc := (w_SB (fun i => a (3 + i)) (fun i => k (1 + i)) zsteps_targets zsteps_configurations zsteps_runs zsteps_opened zsteps_count)) 3 8 hP rfl
  have hDc := zD_cut (wc := (w_SB (fun i => a (3 + i)) (fun i => k (1 + i)) zsteps_targets zsteps_configurations zsteps_runs zsteps_opened zsteps_count)) 3 8 hD rfl
  have hKc := hK.sub (tys' := (t_SB (fun i => k (1 + i)))) [1, 2, 3, 4] rfl
  refine z_ci (va_runV (As := [.int p1]) (rest := []) ⟨hx, hb, hml, hown, hts⟩ (c_SB_configurationOf l dC dI N (fun i => a (3 + i)) (fun i => k (1 + i)) zsteps_targets zsteps_configurations zsteps_runs zsteps_opened zsteps_count p1 hu0 H.size) (cwV 1 hts (zGV zsub_c k_1_187 k_1_188 k_1_189 k_1_3 kc_SB_configurationOf) rfl rfl rfl (by decide +kernel) ⟨Nat.le_of_ble_eq_true rfl, Nat.le_of_ble_eq_true rfl⟩) ⟨z_bl, va_recv hKc hPc (ci := 1) (q0 := 0) rfl rfl, fun U hU hW => ⟨rfl, z_pre hN hKc hPc hDc U hU hW⟩⟩ rfl rfl hl.1 rfl (lv_room (Nat.le_of_ble_eq_true rfl)) d_OS_isRefused_5 ⟨Nat.zero_le _, Nat.zero_le _⟩) 3 8 (w_OS a k zpaths_outer zpaths_count zsteps_targets zsteps_configurations zsteps_runs zsteps_opened zsteps_count zoutputs_contents zoutputs_makers zoutputs_executables zoutputs_lazies zstaged_contents zstaged_makers zstaged_executables zstaged_lazies zcached_contents zcached_count zholds_contents zholds_count zdirtyMarks_marks zdifferent) hP hD hS hA rfl rfl (fun H locs hP hD hS => ?_)
  refine lv_istore_n (lv' := [(3, .int u0), (0, .ref (a 0)), (1, .int p1), (2, .int p2)]) hx hb d_OS_isRefused_8 rfl hl (by decide) rfl (fun ls hl => ?_)
  refine lv_iconst (v := (0 : Int32)) hx hb d_OS_isRefused_9 (by decide) ?_
  refine lv_istore (lv' := [(4, .int (0 : Int32)), (3, .int u0), (0, .ref (a 0)), (1, .int p1), (2, .int p2)]) hx hb d_OS_isRefused_10 hl (by decide) rfl (fun ls hl => ?_)
  have loop12 : ∀ (n : Nat) (x4 : Int32), pf_OS_isRefused_L12 N zpaths_outer zpaths_count zsteps_targets zsteps_count zoutputs_contents zoutputs_makers zstaged_contents zstaged_makers p1 p2 u0 n x4 = some y → ∀ (H : Heap) (locs : List Loc) (ls : Array Slot), va_P (dC, dI) zCl (w_OS a k zpaths_outer zpaths_count zsteps_targets zsteps_configurations zsteps_runs zsteps_opened zsteps_count zoutputs_contents zoutputs_makers zoutputs_executables zoutputs_lazies zstaged_contents zstaged_makers zstaged_executables zstaged_lazies zcached_contents zcached_count zholds_contents zholds_count zdirtyMarks_marks zdifferent) H → va_D (va_A (w_OS a k zpaths_outer zpaths_count zsteps_targets zsteps_configurations zsteps_runs zsteps_opened zsteps_count zoutputs_contents zoutputs_makers zoutputs_executables zoutputs_lazies zstaged_contents zstaged_makers zstaged_executables zstaged_lazies zcached_contents zcached_count zholds_contents zholds_count zdirtyMarks_marks zdifferent) s.heap.size) (w_OS a k zpaths_outer zpaths_count zsteps_targets zsteps_configurations zsteps_runs zsteps_opened zsteps_count zoutputs_contents zoutputs_makers zoutputs_executables zoutputs_lazies zstaged_contents zstaged_makers zstaged_executables zstaged_lazies zcached_contents zcached_count zholds_contents zholds_count zdirtyMarks_marks zdifferent) → va_S (va_A (w_OS a k zpaths_outer zpaths_count zsteps_targets zsteps_configurations zsteps_runs zsteps_opened zsteps_count zoutputs_contents zoutputs_makers zoutputs_executables zoutputs_lazies zstaged_contents zstaged_makers zstaged_executables zstaged_lazies zcached_contents zcached_count zholds_contents zholds_count zdirtyMarks_marks zdifferent) s.heap.size) s.heap H locs → lv_has ls 7 [(0, .ref (a 0)), (1, .int p1), (2, .int p2), (3, .int u0), (4, .int x4)] → W p l e (headSpec ww_OS_isRefused ({ frames := 4, cells := 0, slots := 0, locals := 85 })).room s m ([.ref (a 0), .int p1, .int p2] : List Value).toArray below meth c H locs 0 0 (MQ below (zQi (dC, dI) zCl (w_OS a k zpaths_outer zpaths_count zsteps_targets zsteps_configurations zsteps_runs zsteps_opened zsteps_count zoutputs_contents zoutputs_makers zoutputs_executables zoutputs_lazies zstaged_contents zstaged_makers zstaged_executables zstaged_lazies zcached_contents zcached_count zholds_contents zholds_count zdirtyMarks_marks zdifferent) s.heap.size y (w_OS a k zpaths_outer zpaths_count zsteps_targets zsteps_configurations zsteps_runs zsteps_opened zsteps_count zoutputs_contents zoutputs_makers zoutputs_executables zoutputs_lazies zstaged_contents zstaged_makers zstaged_executables zstaged_lazies zcached_contents zcached_count zholds_contents zholds_count zdirtyMarks_marks zdifferent)) ([.ref (a 0), .int p1, .int p2] : List Value).toArray s 0 0 (va_A (w_OS a k zpaths_outer zpaths_count zsteps_targets zsteps_configurations zsteps_runs zsteps_opened zsteps_count zoutputs_contents zoutputs_makers zoutputs_executables zoutputs_lazies zstaged_contents zstaged_makers zstaged_executables zstaged_lazies zcached_contents zcached_count zholds_contents zholds_count zdirtyMarks_marks zdifferent) s.heap.size)) (F0 m 12 ls []) := by
    intro n12
    induction n12 with
    | zero => intro x4 hf; rw [pf_OS_isRefused_L12.eq_1] at hf; cases hf
    | succ n12 ih12 =>
      intro x4 hf H locs ls hP hD hS hl
      rw [pf_OS_isRefused_L12.eq_2] at hf
      refine lv_iload hx hb d_OS_isRefused_12 (lv_at hl 4 rfl) ?_
      refine lv_bipush (v := (nI 40)) hx hb d_OS_isRefused_14 (by decide) ?_
      refine lv_icmp_ge (tgt := 92) hx hb d_OS_isRefused_16 (by decide) (fun c1 => ?_) (fun c1 => ?_)
      · have hf := z_t c1 hf
        refine lv_iconst (v := (0 : Int32)) hx hb d_OS_isRefused_92 (by decide) ?_
        obtain rfl := Option.some.inj hf
        exact z_zret hx hb hr (Or.inl rfl) hP hD hS d_OS_isRefused_93 hlocks
      · have hf := z_f c1 hf
        refine lv_aload_n hx hb d_OS_isRefused_19 rfl (lv_at hl 0 rfl) ?_
        refine lv_iload_n hx hb d_OS_isRefused_20 rfl (lv_at hl 3 rfl) ?_
        refine lv_iload hx hb d_OS_isRefused_21 (lv_at hl 4 rfl) ?_
        obtain ⟨u1, hu1, hf⟩ := z_b hf
        have hPc := hP
        have hDc := hD
        have hKc := hK
        refine z_cwi (va_runV (As := [.int u0, .int x4]) (rest := []) ⟨hx, hb, hml, hown, hts⟩ (c_OS_slotOf l dC dI N a k zpaths_outer zpaths_count zsteps_targets zsteps_configurations zsteps_runs zsteps_opened zsteps_count zoutputs_contents zoutputs_makers zoutputs_executables zoutputs_lazies zstaged_contents zstaged_makers zstaged_executables zstaged_lazies zcached_contents zcached_count zholds_contents zholds_count zdirtyMarks_marks zdifferent u0 x4 hu1 H.size) (cwV 2 hts (zGV zsub_c k_1_191 k_1_193 s_OS_slotOf k_1_1 kc_OS_slotOf) rfl rfl rfl (by decide +kernel) ⟨Nat.le_of_ble_eq_true rfl, Nat.le_of_ble_eq_true rfl⟩) ⟨z_bl, va_recv hKc hPc (ci := 6) (q0 := 0) rfl rfl, fun U hU hW => ⟨rfl, z_pre hN hKc hPc hDc U hU hW⟩⟩ rfl rfl hl.1 rfl (lv_room (Nat.le_of_ble_eq_true rfl)) d_OS_isRefused_23 ⟨Nat.zero_le _, Nat.zero_le _⟩) hD hS hA (fun H locs hP hD hS => ?_)
        refine lv_istore (lv' := [(5, .int u1), (0, .ref (a 0)), (1, .int p1), (2, .int p2), (3, .int u0), (4, .int x4)]) hx hb d_OS_isRefused_26 hl (by decide) rfl (fun ls hl => ?_)
        refine lv_aload_n hx hb d_OS_isRefused_28 rfl (lv_at hl 1 rfl) ?_
        refine lv_iload_n hx hb d_OS_isRefused_29 rfl (lv_at hl 2 rfl) ?_
        refine lv_iload hx hb d_OS_isRefused_30 (lv_at hl 0 rfl) ?_
        obtain ⟨u2, hu2, hf⟩ := z_b hf
        have hPc := hP
        have hDc := hD
        have hKc := hK
        refine z_cwi (va_runV (As := [.int p1, .int u1]) (rest := []) ⟨hx, hb, hml, hown, hts⟩ (c_OS_isOutputOfAnother l dC dI N a k zpaths_outer zpaths_count zsteps_targets zsteps_configurations zsteps_runs zsteps_opened zsteps_count zoutputs_contents zoutputs_makers zoutputs_executables zoutputs_lazies zstaged_contents zstaged_makers zstaged_executables zstaged_lazies zcached_contents zcached_count zholds_contents zholds_count zdirtyMarks_marks zdifferent p1 u1 hu2 H.size) (cwV 2 hts (zGV zsub_c k_1_211 k_1_213 s_OS_isOutputOfAnother k_1_1 kc_OS_isOutputOfAnother) rfl rfl rfl (by decide +kernel) ⟨Nat.le_of_ble_eq_true rfl, Nat.le_of_ble_eq_true rfl⟩) ⟨z_bl, va_recv hKc hPc (ci := 6) (q0 := 0) rfl rfl, fun U hU hW => ⟨rfl, z_pre hN hKc hPc hDc U hU hW⟩⟩ rfl rfl hl.1 rfl (lv_room (Nat.le_of_ble_eq_true rfl)) d_OS_isRefused_32 ⟨Nat.zero_le _, Nat.zero_le _⟩) hD hS hA (fun H locs hP hD hS => ?_)
        refine lv_if_ne (tgt := 59) hx hb d_OS_isRefused_35 (by decide) (fun c2 => ?_) (fun c2 => ?_)
        · have hf := z_t c2 hf
          refine lv_iconst (v := (1 : Int32)) hx hb d_OS_isRefused_59 (by decide) ?_
          refine lv_goto (tgt := 64) hx hb d_OS_isRefused_60 (by decide) ?_
          refine lv_istore (lv' := [(6, .int (1 : Int32)), (5, .int u1), (0, .ref (a 0)), (1, .int p1), (2, .int p2), (3, .int u0), (4, .int x4)]) hx hb d_OS_isRefused_64 hl (by decide) rfl (fun ls hl => ?_)
          refine lv_iload hx hb d_OS_isRefused_66 (lv_at hl 0 rfl) ?_
          refine lv_if_eq (tgt := 86) hx hb d_OS_isRefused_68 (by decide) (fun c3 => absurd c3 (by decide)) (fun c3 => ?_)
          refine lv_aload_n hx hb d_OS_isRefused_71 rfl (lv_at hl 2 rfl) ?_
          refine va_get (D := (dC, dI)) (ci := 6) (v := .ref (a 1)) (C := R_OS) (T := F_OS) (N := 8) hx hb hts (fun w h => List.mem_cons_of_mem _ (in_OS w h)) hown hK hP 0 rfl rfl 0 (by decide) (hts _ (List.mem_cons_of_mem _ k_1_110)) (fun _ h9 => h9) rfl d_OS_isRefused_72 ?_
          refine lv_iload_n hx hb d_OS_isRefused_75 rfl (lv_at hl 4 rfl) ?_
          refine lv_iload hx hb d_OS_isRefused_76 (lv_at hl 6 rfl) ?_
          obtain ⟨u3, hu3, hf⟩ := z_b hf
          have hPc := zP_cut (wc := (w_PT (fun i => a (1 + i)) (fun i => k (0 + i)) zpaths_outer zpaths_count)) 1 3 hP rfl
          have hDc := zD_cut (wc := (w_PT (fun i => a (1 + i)) (fun i => k (0 + i)) zpaths_outer zpaths_count)) 1 3 hD rfl
          have hKc := hK.sub (tys' := (t_PT (fun i => k (0 + i)))) [0] rfl
          refine z_ci (va_runV (As := [.int p2, .int x4]) (rest := []) ⟨hx, hb, hml, hown, hts⟩ (c_PT_meet l dC dI N (fun i => a (1 + i)) (fun i => k (0 + i)) zpaths_outer zpaths_count p2 x4 hu3 H.size) (cwV 2 hts (zGV zsub_c k_1_232 k_1_233 k_1_234 k_1_2 kc_PT_meet) rfl rfl rfl (by decide +kernel) ⟨Nat.le_of_ble_eq_true rfl, Nat.le_of_ble_eq_true rfl⟩) ⟨z_bl, va_recv hKc hPc (ci := 0) (q0 := 0) rfl rfl, fun U hU hW => ⟨rfl, z_pre hN hKc hPc hDc U hU hW⟩⟩ rfl rfl hl.1 rfl (lv_room (Nat.le_of_ble_eq_true rfl)) d_OS_isRefused_78 ⟨Nat.zero_le _, Nat.zero_le _⟩) 1 3 (w_OS a k zpaths_outer zpaths_count zsteps_targets zsteps_configurations zsteps_runs zsteps_opened zsteps_count zoutputs_contents zoutputs_makers zoutputs_executables zoutputs_lazies zstaged_contents zstaged_makers zstaged_executables zstaged_lazies zcached_contents zcached_count zholds_contents zholds_count zdirtyMarks_marks zdifferent) hP hD hS hA rfl rfl (fun H locs hP hD hS => ?_)
          refine lv_if_eq (tgt := 86) hx hb d_OS_isRefused_81 (by decide) (fun c4 => ?_) (fun c4 => ?_)
          · have hf := z_t c4 hf
            refine lv_iinc (v := (x4 + (1 : Int32))) (lv' := [(4, .int (x4 + (1 : Int32))), (6, .int (1 : Int32)), (5, .int u1), (0, .ref (a 0)), (1, .int p1), (2, .int p2), (3, .int u0)]) hx hb d_OS_isRefused_86 hl (k := 6) rfl rfl (by decide) rfl (fun ls hl => ?_)
            refine lv_goto (tgt := 12) hx hb d_OS_isRefused_89 (by decide) ?_
            exact ih12 (x4 + (1 : Int32)) hf H locs ls hP hD hS (lv_sub hl [3, 4, 5, 6, 0] rfl)
          · have hf := z_f c4 hf
            refine lv_iconst (v := (1 : Int32)) hx hb d_OS_isRefused_84 (by decide) ?_
            obtain rfl := Option.some.inj hf
            exact z_zret hx hb hr (Or.inr rfl) hP hD hS d_OS_isRefused_85 hlocks
        · have hf := z_fn c2 hf
          refine lv_aload_n hx hb d_OS_isRefused_38 rfl (lv_at hl 1 rfl) ?_
          refine lv_iload_n hx hb d_OS_isRefused_39 rfl (lv_at hl 2 rfl) ?_
          refine lv_iload hx hb d_OS_isRefused_40 (lv_at hl 0 rfl) ?_
          refine lv_iload_n hx hb d_OS_isRefused_42 rfl (lv_at hl 3 rfl) ?_
          refine lv_iload hx hb d_OS_isRefused_43 (lv_at hl 5 rfl) ?_
          refine lv_icmp_ne (tgt := 52) hx hb d_OS_isRefused_45 (by decide) (fun c5 => ?_) (fun c5 => ?_)
          · have hf := z_t c5 hf
            refine lv_iconst (v := (0 : Int32)) hx hb d_OS_isRefused_52 (by decide) ?_
            obtain ⟨u4, hu4, hf⟩ := z_b hf
            have hPc := hP
            have hDc := hD
            have hKc := hK
            refine z_cwi (va_runV (As := [.int p1, .int u1, .int (0 : Int32)]) (rest := []) ⟨hx, hb, hml, hown, hts⟩ (c_OS_isStagedAgainst l dC dI N a k zpaths_outer zpaths_count zsteps_targets zsteps_configurations zsteps_runs zsteps_opened zsteps_count zoutputs_contents zoutputs_makers zoutputs_executables zoutputs_lazies zstaged_contents zstaged_makers zstaged_executables zstaged_lazies zcached_contents zcached_count zholds_contents zholds_count zdirtyMarks_marks zdifferent p1 u1 (0 : Int32) hu4 H.size) (cwV 3 hts (zGV zsub_c k_1_228 k_1_230 s_OS_isStagedAgainst k_1_1 kc_OS_isStagedAgainst) rfl rfl rfl (by decide +kernel) ⟨Nat.le_of_ble_eq_true rfl, Nat.le_of_ble_eq_true rfl⟩) ⟨z_bl, va_recv hKc hPc (ci := 6) (q0 := 0) rfl rfl, fun U hU hW => ⟨rfl, z_pre hN hKc hPc hDc U hU hW⟩⟩ rfl rfl hl.1 rfl (lv_room (Nat.le_of_ble_eq_true rfl)) d_OS_isRefused_53 ⟨Nat.zero_le _, Nat.zero_le _⟩) hD hS hA (fun H locs hP hD hS => ?_)
            refine lv_if_eq (tgt := 63) hx hb d_OS_isRefused_56 (by decide) (fun c6 => ?_) (fun c6 => ?_)
            · have hf := z_t c6 hf
              refine lv_iconst (v := (0 : Int32)) hx hb d_OS_isRefused_63 (by decide) ?_
              refine lv_istore (lv' := [(6, .int (0 : Int32)), (5, .int u1), (0, .ref (a 0)), (1, .int p1), (2, .int p2), (3, .int u0), (4, .int x4)]) hx hb d_OS_isRefused_64 hl (by decide) rfl (fun ls hl => ?_)
              refine lv_iload hx hb d_OS_isRefused_66 (lv_at hl 0 rfl) ?_
              refine lv_if_eq (tgt := 86) hx hb d_OS_isRefused_68 (by decide) (fun c7 => ?_) (fun c7 => absurd (by decide) c7)
              refine lv_iinc (v := (x4 + (1 : Int32))) (lv' := [(4, .int (x4 + (1 : Int32))), (6, .int (0 : Int32)), (5, .int u1), (0, .ref (a 0)), (1, .int p1), (2, .int p2), (3, .int u0)]) hx hb d_OS_isRefused_86 hl (k := 6) rfl rfl (by decide) rfl (fun ls hl => ?_)
              refine lv_goto (tgt := 12) hx hb d_OS_isRefused_89 (by decide) ?_
              exact ih12 (x4 + (1 : Int32)) hf H locs ls hP hD hS (lv_sub hl [3, 4, 5, 6, 0] rfl)
            · have hf := z_f c6 hf
              refine lv_iconst (v := (1 : Int32)) hx hb d_OS_isRefused_59 (by decide) ?_
              refine lv_goto (tgt := 64) hx hb d_OS_isRefused_60 (by decide) ?_
              refine lv_istore (lv' := [(6, .int (1 : Int32)), (5, .int u1), (0, .ref (a 0)), (1, .int p1), (2, .int p2), (3, .int u0), (4, .int x4)]) hx hb d_OS_isRefused_64 hl (by decide) rfl (fun ls hl => ?_)
              refine lv_iload hx hb d_OS_isRefused_66 (lv_at hl 0 rfl) ?_
              refine lv_if_eq (tgt := 86) hx hb d_OS_isRefused_68 (by decide) (fun c8 => absurd c8 (by decide)) (fun c8 => ?_)
              refine lv_aload_n hx hb d_OS_isRefused_71 rfl (lv_at hl 2 rfl) ?_
              refine va_get (D := (dC, dI)) (ci := 6) (v := .ref (a 1)) (C := R_OS) (T := F_OS) (N := 8) hx hb hts (fun w h => List.mem_cons_of_mem _ (in_OS w h)) hown hK hP 0 rfl rfl 0 (by decide) (hts _ (List.mem_cons_of_mem _ k_1_110)) (fun _ h9 => h9) rfl d_OS_isRefused_72 ?_
              refine lv_iload_n hx hb d_OS_isRefused_75 rfl (lv_at hl 4 rfl) ?_
              refine lv_iload hx hb d_OS_isRefused_76 (lv_at hl 6 rfl) ?_
              obtain ⟨u5, hu5, hf⟩ := z_b hf
              have hPc := zP_cut (wc := (w_PT (fun i => a (1 + i)) (fun i => k (0 + i)) zpaths_outer zpaths_count)) 1 3 hP rfl
              have hDc := zD_cut (wc := (w_PT (fun i => a (1 + i)) (fun i => k (0 + i)) zpaths_outer zpaths_count)) 1 3 hD rfl
              have hKc := hK.sub (tys' := (t_PT (fun i => k (0 + i)))) [0] rfl
              refine z_ci (va_runV (As := [.int p2, .int x4]) (rest := []) ⟨hx, hb, hml, hown, hts⟩ (c_PT_meet l dC dI N (fun i => a (1 + i)) (fun i => k (0 + i)) zpaths_outer zpaths_count p2 x4 hu5 H.size) (cwV 2 hts (zGV zsub_c k_1_232 k_1_233 k_1_234 k_1_2 kc_PT_meet) rfl rfl rfl (by decide +kernel) ⟨Nat.le_of_ble_eq_true rfl, Nat.le_of_ble_eq_true rfl⟩) ⟨z_bl, va_recv hKc hPc (ci := 0) (q0 := 0) rfl rfl, fun U hU hW => ⟨rfl, z_pre hN hKc hPc hDc U hU hW⟩⟩ rfl rfl hl.1 rfl (lv_room (Nat.le_of_ble_eq_true rfl)) d_OS_isRefused_78 ⟨Nat.zero_le _, Nat.zero_le _⟩) 1 3 (w_OS a k zpaths_outer zpaths_count zsteps_targets zsteps_configurations zsteps_runs zsteps_opened zsteps_count zoutputs_contents zoutputs_makers zoutputs_executables zoutputs_lazies zstaged_contents zstaged_makers zstaged_executables zstaged_lazies zcached_contents zcached_count zholds_contents zholds_count zdirtyMarks_marks zdifferent) hP hD hS hA rfl rfl (fun H locs hP hD hS => ?_)
              refine lv_if_eq (tgt := 86) hx hb d_OS_isRefused_81 (by decide) (fun c9 => ?_) (fun c9 => ?_)
              · have hf := z_t c9 hf
                refine lv_iinc (v := (x4 + (1 : Int32))) (lv' := [(4, .int (x4 + (1 : Int32))), (6, .int (1 : Int32)), (5, .int u1), (0, .ref (a 0)), (1, .int p1), (2, .int p2), (3, .int u0)]) hx hb d_OS_isRefused_86 hl (k := 6) rfl rfl (by decide) rfl (fun ls hl => ?_)
                refine lv_goto (tgt := 12) hx hb d_OS_isRefused_89 (by decide) ?_
                exact ih12 (x4 + (1 : Int32)) hf H locs ls hP hD hS (lv_sub hl [3, 4, 5, 6, 0] rfl)
              · have hf := z_f c9 hf
                refine lv_iconst (v := (1 : Int32)) hx hb d_OS_isRefused_84 (by decide) ?_
                obtain rfl := Option.some.inj hf
                exact z_zret hx hb hr (Or.inr rfl) hP hD hS d_OS_isRefused_85 hlocks
          · have hf := z_fn c5 hf
            refine lv_iconst (v := (1 : Int32)) hx hb d_OS_isRefused_48 (by decide) ?_
            refine lv_goto (tgt := 53) hx hb d_OS_isRefused_49 (by decide) ?_
            obtain ⟨u6, hu6, hf⟩ := z_b hf
            have hPc := hP
            have hDc := hD
            have hKc := hK
            refine z_cwi (va_runV (As := [.int p1, .int u1, .int (1 : Int32)]) (rest := []) ⟨hx, hb, hml, hown, hts⟩ (c_OS_isStagedAgainst l dC dI N a k zpaths_outer zpaths_count zsteps_targets zsteps_configurations zsteps_runs zsteps_opened zsteps_count zoutputs_contents zoutputs_makers zoutputs_executables zoutputs_lazies zstaged_contents zstaged_makers zstaged_executables zstaged_lazies zcached_contents zcached_count zholds_contents zholds_count zdirtyMarks_marks zdifferent p1 u1 (1 : Int32) hu6 H.size) (cwV 3 hts (zGV zsub_c k_1_228 k_1_230 s_OS_isStagedAgainst k_1_1 kc_OS_isStagedAgainst) rfl rfl rfl (by decide +kernel) ⟨Nat.le_of_ble_eq_true rfl, Nat.le_of_ble_eq_true rfl⟩) ⟨z_bl, va_recv hKc hPc (ci := 6) (q0 := 0) rfl rfl, fun U hU hW => ⟨rfl, z_pre hN hKc hPc hDc U hU hW⟩⟩ rfl rfl hl.1 rfl (lv_room (Nat.le_of_ble_eq_true rfl)) d_OS_isRefused_53 ⟨Nat.zero_le _, Nat.zero_le _⟩) hD hS hA (fun H locs hP hD hS => ?_)
            refine lv_if_eq (tgt := 63) hx hb d_OS_isRefused_56 (by decide) (fun c10 => ?_) (fun c10 => ?_)
            · have hf := z_t c10 hf
              refine lv_iconst (v := (0 : Int32)) hx hb d_OS_isRefused_63 (by decide) ?_
              refine lv_istore (lv' := [(6, .int (0 : Int32)), (5, .int u1), (0, .ref (a 0)), (1, .int p1), (2, .int p2), (3, .int u0), (4, .int x4)]) hx hb d_OS_isRefused_64 hl (by decide) rfl (fun ls hl => ?_)
              refine lv_iload hx hb d_OS_isRefused_66 (lv_at hl 0 rfl) ?_
              refine lv_if_eq (tgt := 86) hx hb d_OS_isRefused_68 (by decide) (fun c11 => ?_) (fun c11 => absurd (by decide) c11)
              refine lv_iinc (v := (x4 + (1 : Int32))) (lv' := [(4, .int (x4 + (1 : Int32))), (6, .int (0 : Int32)), (5, .int u1), (0, .ref (a 0)), (1, .int p1), (2, .int p2), (3, .int u0)]) hx hb d_OS_isRefused_86 hl (k := 6) rfl rfl (by decide) rfl (fun ls hl => ?_)
              refine lv_goto (tgt := 12) hx hb d_OS_isRefused_89 (by decide) ?_
              exact ih12 (x4 + (1 : Int32)) hf H locs ls hP hD hS (lv_sub hl [3, 4, 5, 6, 0] rfl)
            · have hf := z_f c10 hf
              refine lv_iconst (v := (1 : Int32)) hx hb d_OS_isRefused_59 (by decide) ?_
              refine lv_goto (tgt := 64) hx hb d_OS_isRefused_60 (by decide) ?_
              refine lv_istore (lv' := [(6, .int (1 : Int32)), (5, .int u1), (0, .ref (a 0)), (1, .int p1), (2, .int p2), (3, .int u0), (4, .int x4)]) hx hb d_OS_isRefused_64 hl (by decide) rfl (fun ls hl => ?_)
              refine lv_iload hx hb d_OS_isRefused_66 (lv_at hl 0 rfl) ?_
              refine lv_if_eq (tgt := 86) hx hb d_OS_isRefused_68 (by decide) (fun c12 => absurd c12 (by decide)) (fun c12 => ?_)
              refine lv_aload_n hx hb d_OS_isRefused_71 rfl (lv_at hl 2 rfl) ?_
              refine va_get (D := (dC, dI)) (ci := 6) (v := .ref (a 1)) (C := R_OS) (T := F_OS) (N := 8) hx hb hts (fun w h => List.mem_cons_of_mem _ (in_OS w h)) hown hK hP 0 rfl rfl 0 (by decide) (hts _ (List.mem_cons_of_mem _ k_1_110)) (fun _ h9 => h9) rfl d_OS_isRefused_72 ?_
              refine lv_iload_n hx hb d_OS_isRefused_75 rfl (lv_at hl 4 rfl) ?_
              refine lv_iload hx hb d_OS_isRefused_76 (lv_at hl 6 rfl) ?_
              obtain ⟨u7, hu7, hf⟩ := z_b hf
              have hPc := zP_cut (wc := (w_PT (fun i => a (1 + i)) (fun i => k (0 + i)) zpaths_outer zpaths_count)) 1 3 hP rfl
              have hDc := zD_cut (wc := (w_PT (fun i => a (1 + i)) (fun i => k (0 + i)) zpaths_outer zpaths_count)) 1 3 hD rfl
              have hKc := hK.sub (tys' := (t_PT (fun i => k (0 + i)))) [0] rfl
              refine z_ci (va_runV (As := [.int p2, .int x4]) (rest := []) ⟨hx, hb, hml, hown, hts⟩ (c_PT_meet l dC dI N (fun i => a (1 + i)) (fun i => k (0 + i)) zpaths_outer zpaths_count p2 x4 hu7 H.size) (cwV 2 hts (zGV zsub_c k_1_232 k_1_233 k_1_234 k_1_2 kc_PT_meet) rfl rfl rfl (by decide +kernel) ⟨Nat.le_of_ble_eq_true rfl, Nat.le_of_ble_eq_true rfl⟩) ⟨z_bl, va_recv hKc hPc (ci := 0) (q0 := 0) rfl rfl, fun U hU hW => ⟨rfl, z_pre hN hKc hPc hDc U hU hW⟩⟩ rfl rfl hl.1 rfl (lv_room (Nat.le_of_ble_eq_true rfl)) d_OS_isRefused_78 ⟨Nat.zero_le _, Nat.zero_le _⟩) 1 3 (w_OS a k zpaths_outer zpaths_count zsteps_targets zsteps_configurations zsteps_runs zsteps_opened zsteps_count zoutputs_contents zoutputs_makers zoutputs_executables zoutputs_lazies zstaged_contents zstaged_makers zstaged_executables zstaged_lazies zcached_contents zcached_count zholds_contents zholds_count zdirtyMarks_marks zdifferent) hP hD hS hA rfl rfl (fun H locs hP hD hS => ?_)
              refine lv_if_eq (tgt := 86) hx hb d_OS_isRefused_81 (by decide) (fun c13 => ?_) (fun c13 => ?_)
              · have hf := z_t c13 hf
                refine lv_iinc (v := (x4 + (1 : Int32))) (lv' := [(4, .int (x4 + (1 : Int32))), (6, .int (1 : Int32)), (5, .int u1), (0, .ref (a 0)), (1, .int p1), (2, .int p2), (3, .int u0)]) hx hb d_OS_isRefused_86 hl (k := 6) rfl rfl (by decide) rfl (fun ls hl => ?_)
                refine lv_goto (tgt := 12) hx hb d_OS_isRefused_89 (by decide) ?_
                exact ih12 (x4 + (1 : Int32)) hf H locs ls hP hD hS (lv_sub hl [3, 4, 5, 6, 0] rfl)
              · have hf := z_f c13 hf
                refine lv_iconst (v := (1 : Int32)) hx hb d_OS_isRefused_84 (by decide) ?_
                obtain rfl := Option.some.inj hf
                exact z_zret hx hb hr (Or.inr rfl) hP hD hS d_OS_isRefused_85 hlocks
  exact loop12 N (0 : Int32) hf H locs ls hP hD hS (lv_sub hl [2, 3, 4, 1, 0] rfl)
set_option maxHeartbeats 4000000 in
set_option maxRecDepth 100000 in
theorem c_OS_storedAt (l : Launch) (dC : Nat → ClassId) (dI : Nat → Nat → Nat) (N : Nat) (a : Nat → Nat) (k : Nat → ClassId) (zpaths_outer : Nat → Int32) (zpaths_count : Int32) (zsteps_targets : Nat → Int32) (zsteps_configurations : Nat → Int32) (zsteps_runs : Nat → Int32) (zsteps_opened : Nat → Int32) (zsteps_count : Int32) (zoutputs_contents : Nat → Int64) (zoutputs_makers : Nat → Int32) (zoutputs_executables : Nat → Int32) (zoutputs_lazies : Nat → Int32) (zstaged_contents : Nat → Int64) (zstaged_makers : Nat → Int32) (zstaged_executables : Nat → Int32) (zstaged_lazies : Nat → Int32) (zcached_contents : Nat → Int64) (zcached_count : Int32) (zholds_contents : Nat → Int64) (zholds_count : Int32) (zdirtyMarks_marks : Nat → Int32) (zdifferent : Nat → Int64) (p1 : Int32) {y : (Int64)} (hf : pf_OS_storedAt N zoutputs_contents zoutputs_lazies zstaged_contents zstaged_lazies zholds_contents zholds_count p1 = some y) (sz : Nat) : Met l y_OS_storedAt ww_OS_storedAt ({ frames := 3, cells := 0, slots := 0, locals := 63 }) (va_Pc [.ref (a 0), .int p1] (zB (dC, dI) zCl (t_OS k) (w_OS a k zpaths_outer zpaths_count zsteps_targets zsteps_configurations zsteps_runs zsteps_opened zsteps_count zoutputs_contents zoutputs_makers zoutputs_executables zoutputs_lazies zstaged_contents zstaged_makers zstaged_executables zstaged_lazies zcached_contents zcached_count zholds_contents zholds_count zdirtyMarks_marks zdifferent) sz)) (zQl (dC, dI) zCl (w_OS a k zpaths_outer zpaths_count zsteps_targets zsteps_configurations zsteps_runs zsteps_opened zsteps_count zoutputs_contents zoutputs_makers zoutputs_executables zoutputs_lazies zstaged_contents zstaged_makers zstaged_executables zstaged_lazies zcached_contents zcached_count zholds_contents zholds_count zdirtyMarks_marks zdifferent) sz y (w_OS a k zpaths_outer zpaths_count zsteps_targets zsteps_configurations zsteps_runs zsteps_opened zsteps_count zoutputs_contents zoutputs_makers zoutputs_executables zoutputs_lazies zstaged_contents zstaged_makers zstaged_executables zstaged_lazies zcached_contents zcached_count zholds_contents zholds_count zdirtyMarks_marks zdifferent)) 0 0 (va_A (w_OS a k zpaths_outer zpaths_count zsteps_targets zsteps_configurations zsteps_runs zsteps_opened zsteps_count zoutputs_contents zoutputs_makers zoutputs_executables zoutputs_lazies zstaged_contents zstaged_makers zstaged_executables zstaged_lazies zcached_contents zcached_count zholds_contents zholds_count zdirtyMarks_marks zdifferent) sz) := by
  refine Met.ofW (cc := b_OS_storedAt) (maxL := 2) (ret := (some .long)) (by decide) rfl ?_
  intro p e s m args below meth c s₁ B hml hv
  obtain ⟨rfl, rfl, hP, hK, hD, hN⟩ := hv
  have hx := B.exec
  have hb := B.bytes
  have hr := B.returns
  have hts := atoms_spec (ws := ww_OS_storedAt) B.pre
  have hown : s.vm.findClass R_OS = some m.cls := findClass_of_methodNamed B.named
  have hlocks := B.notSynchronized
  have hA : ∀ q : Nat, s.heap.size ≤ q → va_A (w_OS a k zpaths_outer zpaths_count zsteps_targets zsteps_configurations zsteps_runs zsteps_opened zsteps_count zoutputs_contents zoutputs_makers zoutputs_executables zoutputs_lazies zstaged_contents zstaged_makers zstaged_executables zstaged_lazies zcached_contents zcached_count zholds_contents zholds_count zdirtyMarks_marks zdifferent) s.heap.size q := fun q h => Or.inr h
  refine z_start (lv := [(0, .ref (a 0)), (1, .int p1)]) (Nat.le_of_ble_eq_true rfl) rfl hP hD (fun H locs ls hP hD hS hl => ?_)
  unfold pf_OS_storedAt at hf
  refine lv_iload_n hx hb d_OS_storedAt_0 rfl (lv_at hl 1 rfl) ?_
  refine lv_sipush (v := (nI 160)) hx hb d_OS_storedAt_1 (by decide) ?_
  refine lv_icmp_ge (tgt := 16) hx hb d_OS_storedAt_4 (by decide) (fun c1 => ?_) (fun c1 => ?_)
  · have hf := z_t c1 hf
    refine lv_iload_n hx hb d_OS_storedAt_16 rfl (lv_at hl 1 rfl) ?_
    refine lv_sipush (v := (nI 320)) hx hb d_OS_storedAt_17 (by decide) ?_
    refine lv_icmp_ge (tgt := 36) hx hb d_OS_storedAt_20 (by decide) (fun c2 => ?_) (fun c2 => ?_)
    · have hf := z_t c2 hf
      refine lv_aload_n hx hb d_OS_storedAt_36 rfl (lv_at hl 0 rfl) ?_
      refine va_get (D := (dC, dI)) (ci := 6) (v := .ref (a 20)) (C := R_OS) (T := F_OS) (N := 8) hx hb hts (fun w h => List.mem_cons_of_mem _ (in_OS w h)) hown hK hP 0 rfl rfl 5 (by decide) (hts _ (List.mem_cons_of_mem _ k_1_115)) (fun _ h9 => h9) rfl d_OS_storedAt_37 ?_
      refine lv_iload_n hx hb d_OS_storedAt_40 rfl (lv_at hl 1 rfl) ?_
      refine lv_sipush (v := (nI 160)) hx hb d_OS_storedAt_41 (by decide) ?_
      refine lv_isub hx hb d_OS_storedAt_44 ?_
      refine lv_sipush (v := (nI 160)) hx hb d_OS_storedAt_45 (by decide) ?_
      refine lv_isub hx hb d_OS_storedAt_48 ?_
      obtain ⟨u0, hu0, hf⟩ := z_b hf
      have hPc := zP_cut (wc := (w_HB (fun i => a (20 + i)) (fun i => k (14 + i)) zholds_contents zholds_count)) 20 22 hP rfl
      have hDc := zD_cut (wc := (w_HB (fun i => a (20 + i)) (fun i => k (14 + i)) zholds_contents zholds_count)) 20 22 hD rfl
      have hKc := hK.sub (tys' := (t_HB (fun i => k (14 + i)))) [14] rfl
      refine z_cl (va_runV (As := [.int ((p1 - (nI 160)) - (nI 160))]) (rest := []) ⟨hx, hb, hml, hown, hts⟩ (c_HB_contentOf l dC dI N (fun i => a (20 + i)) (fun i => k (14 + i)) zholds_contents zholds_count ((p1 - (nI 160)) - (nI 160)) hu0 H.size) (cwV 1 hts (zGV zsub_c k_2_91 k_2_92 k_2_93 k_1_6 kc_HB_contentOf) rfl rfl rfl (by decide +kernel) ⟨Nat.le_of_ble_eq_true rfl, Nat.le_of_ble_eq_true rfl⟩) ⟨z_bl, va_recv hKc hPc (ci := 4) (q0 := 0) rfl rfl, fun U hU hW => ⟨rfl, z_pre hN hKc hPc hDc U hU hW⟩⟩ rfl rfl hl.1 rfl (lv_room (Nat.le_of_ble_eq_true rfl)) d_OS_storedAt_49 ⟨Nat.zero_le _, Nat.zero_le _⟩) 20 22 (w_OS a k zpaths_outer zpaths_count zsteps_targets zsteps_configurations zsteps_runs zsteps_opened zsteps_count zoutputs_contents zoutputs_makers zoutputs_executables zoutputs_lazies zstaged_contents zstaged_makers zstaged_executables zstaged_lazies zcached_contents zcached_count zholds_contents zholds_count zdirtyMarks_marks zdifferent) hP hD hS hA rfl rfl (fun H locs hP hD hS => ?_)
      obtain rfl := Option.some.inj hf
      exact z_lret hx hb hr hP hD hS d_OS_storedAt_52 hlocks
    · have hf := z_f c2 hf
      refine lv_aload_n hx hb d_OS_storedAt_23 rfl (lv_at hl 0 rfl) ?_
      refine va_get (D := (dC, dI)) (ci := 6) (v := .ref (a 13)) (C := R_OS) (T := F_OS) (N := 8) hx hb hts (fun w h => List.mem_cons_of_mem _ (in_OS w h)) hown hK hP 0 rfl rfl 3 (by decide) (hts _ (List.mem_cons_of_mem _ k_1_113)) (fun _ h9 => h9) rfl d_OS_storedAt_24 ?_
      refine lv_iload_n hx hb d_OS_storedAt_27 rfl (lv_at hl 1 rfl) ?_
      refine lv_sipush (v := (nI 160)) hx hb d_OS_storedAt_28 (by decide) ?_
      refine lv_isub hx hb d_OS_storedAt_31 ?_
      obtain ⟨u1, hu1, hf⟩ := z_b hf
      have hPc := zP_cut (wc := (w_LT (fun i => a (13 + i)) (fun i => k (9 + i)) zstaged_contents zstaged_makers zstaged_executables zstaged_lazies)) 13 18 hP rfl
      have hDc := zD_cut (wc := (w_LT (fun i => a (13 + i)) (fun i => k (9 + i)) zstaged_contents zstaged_makers zstaged_executables zstaged_lazies)) 13 18 hD rfl
      have hKc := hK.sub (tys' := (t_LT (fun i => k (9 + i)))) [9, 10, 11, 12] rfl
      refine z_cl (va_runV (As := [.int (p1 - (nI 160))]) (rest := []) ⟨hx, hb, hml, hown, hts⟩ (c_LT_storedIn l dC dI N (fun i => a (13 + i)) (fun i => k (9 + i)) zstaged_contents zstaged_makers zstaged_executables zstaged_lazies (p1 - (nI 160)) hu1 H.size) (cwV 1 hts (zGV zsub_c k_2_144 k_2_145 k_2_146 k_1_4 kc_LT_storedIn) rfl rfl rfl (by decide +kernel) ⟨Nat.le_of_ble_eq_true rfl, Nat.le_of_ble_eq_true rfl⟩) ⟨z_bl, va_recv hKc hPc (ci := 2) (q0 := 0) rfl rfl, fun U hU hW => ⟨rfl, z_pre hN hKc hPc hDc U hU hW⟩⟩ rfl rfl hl.1 rfl (lv_room (Nat.le_of_ble_eq_true rfl)) d_OS_storedAt_32 ⟨Nat.zero_le _, Nat.zero_le _⟩) 13 18 (w_OS a k zpaths_outer zpaths_count zsteps_targets zsteps_configurations zsteps_runs zsteps_opened zsteps_count zoutputs_contents zoutputs_makers zoutputs_executables zoutputs_lazies zstaged_contents zstaged_makers zstaged_executables zstaged_lazies zcached_contents zcached_count zholds_contents zholds_count zdirtyMarks_marks zdifferent) hP hD hS hA rfl rfl (fun H locs hP hD hS => ?_)
      obtain rfl := Option.some.inj hf
      exact z_lret hx hb hr hP hD hS d_OS_storedAt_35 hlocks
  · have hf := z_f c1 hf
    refine lv_aload_n hx hb d_OS_storedAt_7 rfl (lv_at hl 0 rfl) ?_
    refine va_get (D := (dC, dI)) (ci := 6) (v := .ref (a 8)) (C := R_OS) (T := F_OS) (N := 8) hx hb hts (fun w h => List.mem_cons_of_mem _ (in_OS w h)) hown hK hP 0 rfl rfl 2 (by decide) (hts _ (List.mem_cons_of_mem _ k_1_112)) (fun _ h9 => h9) rfl d_OS_storedAt_8 ?_
    refine lv_iload_n hx hb d_OS_storedAt_11 rfl (lv_at hl 1 rfl) ?_
    obtain ⟨u2, hu2, hf⟩ := z_b hf
    have hPc := zP_cut (wc := (w_LT (fun i => a (8 + i)) (fun i => k (5 + i)) zoutputs_contents zoutputs_makers zoutputs_executables zoutputs_lazies)) 8 13 hP rfl
    have hDc := zD_cut (wc := (w_LT (fun i => a (8 + i)) (fun i => k (5 + i)) zoutputs_contents zoutputs_makers zoutputs_executables zoutputs_lazies)) 8 13 hD rfl
    have hKc := hK.sub (tys' := (t_LT (fun i => k (5 + i)))) [5, 6, 7, 8] rfl
    refine z_cl (va_runV (As := [.int p1]) (rest := []) ⟨hx, hb, hml, hown, hts⟩ (c_LT_storedIn l dC dI N (fun i => a (8 + i)) (fun i => k (5 + i)) zoutputs_contents zoutputs_makers zoutputs_executables zoutputs_lazies p1 hu2 H.size) (cwV 1 hts (zGV zsub_c k_2_144 k_2_145 k_2_146 k_1_4 kc_LT_storedIn) rfl rfl rfl (by decide +kernel) ⟨Nat.le_of_ble_eq_true rfl, Nat.le_of_ble_eq_true rfl⟩) ⟨z_bl, va_recv hKc hPc (ci := 2) (q0 := 0) rfl rfl, fun U hU hW => ⟨rfl, z_pre hN hKc hPc hDc U hU hW⟩⟩ rfl rfl hl.1 rfl (lv_room (Nat.le_of_ble_eq_true rfl)) d_OS_storedAt_12 ⟨Nat.zero_le _, Nat.zero_le _⟩) 8 13 (w_OS a k zpaths_outer zpaths_count zsteps_targets zsteps_configurations zsteps_runs zsteps_opened zsteps_count zoutputs_contents zoutputs_makers zoutputs_executables zoutputs_lazies zstaged_contents zstaged_makers zstaged_executables zstaged_lazies zcached_contents zcached_count zholds_contents zholds_count zdirtyMarks_marks zdifferent) hP hD hS hA rfl rfl (fun H locs hP hD hS => ?_)
    obtain rfl := Option.some.inj hf
    exact z_lret hx hb hr hP hD hS d_OS_storedAt_15 hlocks
end
