section
-- ===== PART A: goes FIRST, ahead of the names: the tables' words, and 'selects' of the private methods out of them =====
/-- a private method of a class that the tables say can be made, by its rows of tables_1 -/
def lw_okq (q : MethodName × Nat) : Prop := (q.1.cls ≠ "java/lang/invoke/MethodHandle" ∧ q.1.cls ≠ "java/lang/invoke/VarHandle") ∧ Cond.instantiable q.1.cls q.2 ∈ tables_1 ∧ Cond.privateMethod q.1 ∈ tables_1 ∧ Cond.instanceMethod q.1 ∈ tables_1
theorem lw_p0 : lw_okq (⟨"OutputStore", "slotOf", "(II)I"⟩, 8) := ⟨⟨by decide +kernel, by decide +kernel⟩, List.mem_of_getElem? (i := 10) (by decide +kernel), List.mem_of_getElem? (i := 192) (by decide +kernel), List.mem_of_getElem? (i := 193) (by decide +kernel)⟩
theorem lw_p1 : lw_okq (⟨"OutputStore", "countStaged", "(I)I"⟩, 8) := ⟨⟨by decide +kernel, by decide +kernel⟩, List.mem_of_getElem? (i := 10) (by decide +kernel), List.mem_of_getElem? (i := 204) (by decide +kernel), List.mem_of_getElem? (i := 205) (by decide +kernel)⟩
theorem lw_p2 : lw_okq (⟨"OutputStore", "isRefused", "(II)Z"⟩, 8) := ⟨⟨by decide +kernel, by decide +kernel⟩, List.mem_of_getElem? (i := 10) (by decide +kernel), List.mem_of_getElem? (i := 208) (by decide +kernel), List.mem_of_getElem? (i := 209) (by decide +kernel)⟩
theorem lw_p3 : lw_okq (⟨"OutputStore", "isOutputOfAnother", "(II)Z"⟩, 8) := ⟨⟨by decide +kernel, by decide +kernel⟩, List.mem_of_getElem? (i := 10) (by decide +kernel), List.mem_of_getElem? (i := 212) (by decide +kernel), List.mem_of_getElem? (i := 213) (by decide +kernel)⟩
theorem lw_p4 : lw_okq (⟨"OutputStore", "targetAt", "(I)I"⟩, 8) := ⟨⟨by decide +kernel, by decide +kernel⟩, List.mem_of_getElem? (i := 10) (by decide +kernel), List.mem_of_getElem? (i := 217) (by decide +kernel), List.mem_of_getElem? (i := 218) (by decide +kernel)⟩
theorem lw_p5 : lw_okq (⟨"OutputStore", "isStagedAgainst", "(IIZ)Z"⟩, 8) := ⟨⟨by decide +kernel, by decide +kernel⟩, List.mem_of_getElem? (i := 10) (by decide +kernel), List.mem_of_getElem? (i := 229) (by decide +kernel), List.mem_of_getElem? (i := 230) (by decide +kernel)⟩
theorem lw_p6 : lw_okq (⟨"OutputStore", "replaceOutputs", "(I)I"⟩, 8) := ⟨⟨by decide +kernel, by decide +kernel⟩, List.mem_of_getElem? (i := 10) (by decide +kernel), List.mem_of_getElem? (i := 256) (by decide +kernel), List.mem_of_getElem? (i := 257) (by decide +kernel)⟩
theorem lw_p7 : lw_okq (⟨"OutputStore", "dropStaged", "(I)V"⟩, 8) := ⟨⟨by decide +kernel, by decide +kernel⟩, List.mem_of_getElem? (i := 10) (by decide +kernel), List.mem_of_getElem? (i := 282) (by decide +kernel), List.mem_of_getElem? (i := 283) (by decide +kernel)⟩
theorem lw_p8 : lw_okq (⟨"OutputStore", "storedAt", "(I)J"⟩, 8) := ⟨⟨by decide +kernel, by decide +kernel⟩, List.mem_of_getElem? (i := 10) (by decide +kernel), List.mem_of_getElem? (i := 381) (by decide +kernel), List.mem_of_getElem? (i := 382) (by decide +kernel)⟩
theorem lw_p9 : lw_okq (⟨"OutputStoreModel", "isPath", "(I)Z"⟩, 24) := ⟨⟨by decide +kernel, by decide +kernel⟩, List.mem_of_getElem? (i := 396) (by decide +kernel), List.mem_of_getElem? (i := 479) (by decide +kernel), List.mem_of_getElem? (i := 480) (by decide +kernel)⟩
theorem lw_p10 : lw_okq (⟨"OutputStoreModel", "isOpenStep", "(I)Z"⟩, 24) := ⟨⟨by decide +kernel, by decide +kernel⟩, List.mem_of_getElem? (i := 396) (by decide +kernel), List.mem_of_getElem? (i := 494) (by decide +kernel), List.mem_of_getElem? (i := 495) (by decide +kernel)⟩
theorem lw_p11 : lw_okq (⟨"OutputStoreModel", "placeOf", "(II)I"⟩, 24) := ⟨⟨by decide +kernel, by decide +kernel⟩, List.mem_of_getElem? (i := 396) (by decide +kernel), List.mem_of_getElem? (i := 498) (by decide +kernel), List.mem_of_getElem? (i := 499) (by decide +kernel)⟩
theorem lw_p12 : lw_okq (⟨"OutputStoreModel", "meetsOutput", "(II)Z"⟩, 24) := ⟨⟨by decide +kernel, by decide +kernel⟩, List.mem_of_getElem? (i := 396) (by decide +kernel), List.mem_of_getElem? (i := 502) (by decide +kernel), List.mem_of_getElem? (i := 503) (by decide +kernel)⟩
theorem lw_p13 : lw_okq (⟨"OutputStoreModel", "meet", "(II)Z"⟩, 24) := ⟨⟨by decide +kernel, by decide +kernel⟩, List.mem_of_getElem? (i := 396) (by decide +kernel), List.mem_of_getElem? (i := 506) (by decide +kernel), List.mem_of_getElem? (i := 507) (by decide +kernel)⟩
theorem lw_p14 : lw_okq (⟨"OutputStoreModel", "isWithin", "(II)Z"⟩, 24) := ⟨⟨by decide +kernel, by decide +kernel⟩, List.mem_of_getElem? (i := 396) (by decide +kernel), List.mem_of_getElem? (i := 510) (by decide +kernel), List.mem_of_getElem? (i := 511) (by decide +kernel)⟩
theorem lw_p15 : lw_okq (⟨"OutputStoreModel", "meetsStaged", "(II)Z"⟩, 24) := ⟨⟨by decide +kernel, by decide +kernel⟩, List.mem_of_getElem? (i := 396) (by decide +kernel), List.mem_of_getElem? (i := 514) (by decide +kernel), List.mem_of_getElem? (i := 515) (by decide +kernel)⟩
def lw_privs_1 : List (MethodName × Nat) := [(⟨"OutputStore", "slotOf", "(II)I"⟩, 8), (⟨"OutputStore", "countStaged", "(I)I"⟩, 8), (⟨"OutputStore", "isRefused", "(II)Z"⟩, 8), (⟨"OutputStore", "isOutputOfAnother", "(II)Z"⟩, 8), (⟨"OutputStore", "targetAt", "(I)I"⟩, 8), (⟨"OutputStore", "isStagedAgainst", "(IIZ)Z"⟩, 8), (⟨"OutputStore", "replaceOutputs", "(I)I"⟩, 8), (⟨"OutputStore", "dropStaged", "(I)V"⟩, 8), (⟨"OutputStore", "storedAt", "(I)J"⟩, 8), (⟨"OutputStoreModel", "isPath", "(I)Z"⟩, 24), (⟨"OutputStoreModel", "isOpenStep", "(I)Z"⟩, 24), (⟨"OutputStoreModel", "placeOf", "(II)I"⟩, 24), (⟨"OutputStoreModel", "meetsOutput", "(II)Z"⟩, 24), (⟨"OutputStoreModel", "meet", "(II)Z"⟩, 24), (⟨"OutputStoreModel", "isWithin", "(II)Z"⟩, 24), (⟨"OutputStoreModel", "meetsStaged", "(II)Z"⟩, 24)]
theorem lw_r1 : ∀ q ∈ lw_privs_1, lw_okq q := List.forall_mem_cons.mpr ⟨lw_p0, List.forall_mem_cons.mpr ⟨lw_p1, List.forall_mem_cons.mpr ⟨lw_p2, List.forall_mem_cons.mpr ⟨lw_p3, List.forall_mem_cons.mpr ⟨lw_p4, List.forall_mem_cons.mpr ⟨lw_p5, List.forall_mem_cons.mpr ⟨lw_p6, List.forall_mem_cons.mpr ⟨lw_p7, List.forall_mem_cons.mpr ⟨lw_p8, List.forall_mem_cons.mpr ⟨lw_p9, List.forall_mem_cons.mpr ⟨lw_p10, List.forall_mem_cons.mpr ⟨lw_p11, List.forall_mem_cons.mpr ⟨lw_p12, List.forall_mem_cons.mpr ⟨lw_p13, List.forall_mem_cons.mpr ⟨lw_p14, List.forall_mem_cons.mpr ⟨lw_p15, fun _ h => absurd h List.not_mem_nil⟩⟩⟩⟩⟩⟩⟩⟩⟩⟩⟩⟩⟩⟩⟩⟩
theorem lw_p16 : lw_okq (⟨"OutputStoreModel", "isCached", "(J)Z"⟩, 24) := ⟨⟨by decide +kernel, by decide +kernel⟩, List.mem_of_getElem? (i := 396) (by decide +kernel), List.mem_of_getElem? (i := 518) (by decide +kernel), List.mem_of_getElem? (i := 519) (by decide +kernel)⟩
theorem lw_p17 : lw_okq (⟨"OutputStoreModel", "goOld", "(I)I"⟩, 24) := ⟨⟨by decide +kernel, by decide +kernel⟩, List.mem_of_getElem? (i := 396) (by decide +kernel), List.mem_of_getElem? (i := 526) (by decide +kernel), List.mem_of_getElem? (i := 527) (by decide +kernel)⟩
theorem lw_p18 : lw_okq (⟨"OutputStoreModel", "isOutput", "(II)Z"⟩, 24) := ⟨⟨by decide +kernel, by decide +kernel⟩, List.mem_of_getElem? (i := 396) (by decide +kernel), List.mem_of_getElem? (i := 542) (by decide +kernel), List.mem_of_getElem? (i := 543) (by decide +kernel)⟩
theorem lw_p19 : lw_okq (⟨"OutputStoreModel", "gather", "()V"⟩, 24) := ⟨⟨by decide +kernel, by decide +kernel⟩, List.mem_of_getElem? (i := 396) (by decide +kernel), List.mem_of_getElem? (i := 578) (by decide +kernel), List.mem_of_getElem? (i := 579) (by decide +kernel)⟩
theorem lw_p20 : lw_okq (⟨"OutputStoreModel", "meets", "(J)V"⟩, 24) := ⟨⟨by decide +kernel, by decide +kernel⟩, List.mem_of_getElem? (i := 396) (by decide +kernel), List.mem_of_getElem? (i := 582) (by decide +kernel), List.mem_of_getElem? (i := 583) (by decide +kernel)⟩
def lw_privs_2 : List (MethodName × Nat) := [(⟨"OutputStoreModel", "isCached", "(J)Z"⟩, 24), (⟨"OutputStoreModel", "goOld", "(I)I"⟩, 24), (⟨"OutputStoreModel", "isOutput", "(II)Z"⟩, 24), (⟨"OutputStoreModel", "gather", "()V"⟩, 24), (⟨"OutputStoreModel", "meets", "(J)V"⟩, 24)]
theorem lw_r2 : ∀ q ∈ lw_privs_2, lw_okq q := List.forall_mem_cons.mpr ⟨lw_p16, List.forall_mem_cons.mpr ⟨lw_p17, List.forall_mem_cons.mpr ⟨lw_p18, List.forall_mem_cons.mpr ⟨lw_p19, List.forall_mem_cons.mpr ⟨lw_p20, fun _ h => absurd h List.not_mem_nil⟩⟩⟩⟩⟩
def lw_privs : List (MethodName × Nat) := lw_privs_1 ++ (lw_privs_2)
def lw_tbl : List Cond := k2_sels lw_privs ++ tables_1
theorem lw_privs_ok : ∀ q ∈ lw_privs, lw_okq q := by
  show ∀ q ∈ lw_privs_1 ++ (lw_privs_2), lw_okq q
  exact List.forall_mem_append.mpr ⟨lw_r1, lw_r2⟩
end
section
def R_PT : String := "OutputStore$PathTree"
def F_PT : u_T := fun k => match k with
  | 0 => ("OutputStore$PathTree", "outer", "[I", true)
  | _ => ("OutputStore$PathTree", "count", "I", false)
def ty_PT : Nat → FieldType := fun k => match k with
  | 0 => .array .int
  | _ => .int
theorem nm_PT : ∀ a, a < 2 → ∀ b, b < 2 → a ≠ b → (F_PT a).2.1 ≠ (F_PT b).2.1 := by decide +kernel
theorem ty_PT_ok : ∀ k, k < 2 → parseFieldDescriptor (F_PT k).2.2.1 = some (ty_PT k) := by decide +kernel
theorem df_PT : ∀ j, j < 2 → defaultValue (ty_PT j) = vp_V [.null, .int 0] j := by decide +kernel
def R_SB : String := "OutputStore$StepBook"
def F_SB : u_T := fun k => match k with
  | 0 => ("OutputStore$StepBook", "targets", "[I", true)
  | 1 => ("OutputStore$StepBook", "configurations", "[I", true)
  | 2 => ("OutputStore$StepBook", "runs", "[I", true)
  | 3 => ("OutputStore$StepBook", "opened", "[Z", true)
  | _ => ("OutputStore$StepBook", "count", "I", false)
def ty_SB : Nat → FieldType := fun k => match k with
  | 0 => .array .int
  | 1 => .array .int
  | 2 => .array .int
  | 3 => .array .boolean
  | _ => .int
theorem nm_SB : ∀ a, a < 5 → ∀ b, b < 5 → a ≠ b → (F_SB a).2.1 ≠ (F_SB b).2.1 := by decide +kernel
theorem ty_SB_ok : ∀ k, k < 5 → parseFieldDescriptor (F_SB k).2.2.1 = some (ty_SB k) := by decide +kernel
theorem df_SB : ∀ j, j < 5 → defaultValue (ty_SB j) = vp_V [.null, .null, .null, .null, .int 0] j := by decide +kernel
def R_LT : String := "OutputStore$LinkTable"
def F_LT : u_T := fun k => match k with
  | 0 => ("OutputStore$LinkTable", "contents", "[J", true)
  | 1 => ("OutputStore$LinkTable", "makers", "[I", true)
  | 2 => ("OutputStore$LinkTable", "executables", "[Z", true)
  | _ => ("OutputStore$LinkTable", "lazies", "[Z", true)
def ty_LT : Nat → FieldType := fun k => match k with
  | 0 => .array .long
  | 1 => .array .int
  | 2 => .array .boolean
  | _ => .array .boolean
theorem nm_LT : ∀ a, a < 4 → ∀ b, b < 4 → a ≠ b → (F_LT a).2.1 ≠ (F_LT b).2.1 := by decide +kernel
theorem ty_LT_ok : ∀ k, k < 4 → parseFieldDescriptor (F_LT k).2.2.1 = some (ty_LT k) := by decide +kernel
theorem df_LT : ∀ j, j < 4 → defaultValue (ty_LT j) = vp_V [.null, .null, .null, .null] j := by decide +kernel
def R_CS : String := "OutputStore$CachedSet"
def F_CS : u_T := fun k => match k with
  | 0 => ("OutputStore$CachedSet", "contents", "[J", true)
  | _ => ("OutputStore$CachedSet", "count", "I", false)
def ty_CS : Nat → FieldType := fun k => match k with
  | 0 => .array .long
  | _ => .int
theorem nm_CS : ∀ a, a < 2 → ∀ b, b < 2 → a ≠ b → (F_CS a).2.1 ≠ (F_CS b).2.1 := by decide +kernel
theorem ty_CS_ok : ∀ k, k < 2 → parseFieldDescriptor (F_CS k).2.2.1 = some (ty_CS k) := by decide +kernel
theorem df_CS : ∀ j, j < 2 → defaultValue (ty_CS j) = vp_V [.null, .int 0] j := by decide +kernel
def R_HB : String := "OutputStore$HoldBook"
def F_HB : u_T := fun k => match k with
  | 0 => ("OutputStore$HoldBook", "contents", "[J", true)
  | _ => ("OutputStore$HoldBook", "count", "I", false)
def ty_HB : Nat → FieldType := fun k => match k with
  | 0 => .array .long
  | _ => .int
theorem nm_HB : ∀ a, a < 2 → ∀ b, b < 2 → a ≠ b → (F_HB a).2.1 ≠ (F_HB b).2.1 := by decide +kernel
theorem ty_HB_ok : ∀ k, k < 2 → parseFieldDescriptor (F_HB k).2.2.1 = some (ty_HB k) := by decide +kernel
theorem df_HB : ∀ j, j < 2 → defaultValue (ty_HB j) = vp_V [.null, .int 0] j := by decide +kernel
def R_DM : String := "OutputStore$DirtyMarks"
def F_DM : u_T := fun k => match k with
  | _ => ("OutputStore$DirtyMarks", "marks", "[Z", true)
def ty_DM : Nat → FieldType := fun k => match k with
  | _ => .array .boolean
theorem nm_DM : ∀ a, a < 1 → ∀ b, b < 1 → a ≠ b → (F_DM a).2.1 ≠ (F_DM b).2.1 := by decide +kernel
theorem ty_DM_ok : ∀ k, k < 1 → parseFieldDescriptor (F_DM k).2.2.1 = some (ty_DM k) := by decide +kernel
theorem df_DM : ∀ j, j < 1 → defaultValue (ty_DM j) = vp_V [.null] j := by decide +kernel
def R_OS : String := "OutputStore"
def F_OS : u_T := fun k => match k with
  | 0 => ("OutputStore", "paths", "LOutputStore$PathTree;", true)
  | 1 => ("OutputStore", "steps", "LOutputStore$StepBook;", true)
  | 2 => ("OutputStore", "outputs", "LOutputStore$LinkTable;", true)
  | 3 => ("OutputStore", "staged", "LOutputStore$LinkTable;", true)
  | 4 => ("OutputStore", "cached", "LOutputStore$CachedSet;", true)
  | 5 => ("OutputStore", "holds", "LOutputStore$HoldBook;", true)
  | 6 => ("OutputStore", "dirtyMarks", "LOutputStore$DirtyMarks;", true)
  | _ => ("OutputStore", "different", "[J", true)
def ty_OS : Nat → FieldType := fun k => match k with
  | 0 => .object "OutputStore$PathTree"
  | 1 => .object "OutputStore$StepBook"
  | 2 => .object "OutputStore$LinkTable"
  | 3 => .object "OutputStore$LinkTable"
  | 4 => .object "OutputStore$CachedSet"
  | 5 => .object "OutputStore$HoldBook"
  | 6 => .object "OutputStore$DirtyMarks"
  | _ => .array .long
theorem nm_OS : ∀ a, a < 8 → ∀ b, b < 8 → a ≠ b → (F_OS a).2.1 ≠ (F_OS b).2.1 := by decide +kernel
theorem ty_OS_ok : ∀ k, k < 8 → parseFieldDescriptor (F_OS k).2.2.1 = some (ty_OS k) := by decide +kernel
theorem df_OS : ∀ j, j < 8 → defaultValue (ty_OS j) = vp_V [.null, .null, .null, .null, .null, .null, .null, .null] j := by decide +kernel
def R_MO : String := "OutputStoreModel"
def F_MO : u_T := fun k => match k with
  | 0 => ("OutputStoreModel", "paths", "I", false)
  | 1 => ("OutputStoreModel", "steps", "I", false)
  | 2 => ("OutputStoreModel", "cached", "I", false)
  | 3 => ("OutputStoreModel", "holds", "I", false)
  | 4 => ("OutputStoreModel", "inside", "[I", true)
  | 5 => ("OutputStoreModel", "owner", "[I", true)
  | 6 => ("OutputStoreModel", "maker", "[I", true)
  | 7 => ("OutputStoreModel", "content", "[J", true)
  | 8 => ("OutputStoreModel", "runs", "[Z", true)
  | 9 => ("OutputStoreModel", "isThere", "[Z", true)
  | 10 => ("OutputStoreModel", "target", "[I", true)
  | 11 => ("OutputStoreModel", "place", "[I", true)
  | 12 => ("OutputStoreModel", "run", "[I", true)
  | 13 => ("OutputStoreModel", "staged", "[I", true)
  | 14 => ("OutputStoreModel", "isOpen", "[Z", true)
  | 15 => ("OutputStoreModel", "stagedAt", "[I", true)
  | 16 => ("OutputStoreModel", "stagedContent", "[J", true)
  | 17 => ("OutputStoreModel", "stagedRuns", "[Z", true)
  | 18 => ("OutputStoreModel", "stagedLazy", "[Z", true)
  | 19 => ("OutputStoreModel", "isDirty", "[Z", true)
  | 20 => ("OutputStoreModel", "cache", "[J", true)
  | 21 => ("OutputStoreModel", "hold", "[J", true)
  | 22 => ("OutputStoreModel", "met", "I", false)
  | _ => ("OutputStoreModel", "row", "[J", true)
def ty_MO : Nat → FieldType := fun k => match k with
  | 0 => .int
  | 1 => .int
  | 2 => .int
  | 3 => .int
  | 4 => .array .int
  | 5 => .array .int
  | 6 => .array .int
  | 7 => .array .long
  | 8 => .array .boolean
  | 9 => .array .boolean
  | 10 => .array .int
  | 11 => .array .int
  | 12 => .array .int
  | 13 => .array .int
  | 14 => .array .boolean
  | 15 => .array .int
  | 16 => .array .long
  | 17 => .array .boolean
  | 18 => .array .boolean
  | 19 => .array .boolean
  | 20 => .array .long
  | 21 => .array .long
  | 22 => .int
  | _ => .array .long
theorem nm_MO : ∀ a, a < 24 → ∀ b, b < 24 → a ≠ b → (F_MO a).2.1 ≠ (F_MO b).2.1 := by decide +kernel
theorem ty_MO_ok : ∀ k, k < 24 → parseFieldDescriptor (F_MO k).2.2.1 = some (ty_MO k) := by decide +kernel
theorem df_MO : ∀ j, j < 24 → defaultValue (ty_MO j) = vp_V [.int 0, .int 0, .int 0, .int 0, .null, .null, .null, .null, .null, .null, .null, .null, .null, .null, .null, .null, .null, .null, .null, .null, .null, .null, .int 0, .null] j := by decide +kernel
abbrev zCl : List vw_C := [(R_PT, F_PT, 2), (R_SB, F_SB, 5), (R_LT, F_LT, 4), (R_CS, F_CS, 2), (R_HB, F_HB, 2), (R_DM, F_DM, 1), (R_OS, F_OS, 8), (R_MO, F_MO, 24)]
/-- the words that every method may use: those of the tables that stay -/
def zW : List Cond := lw_tbl.filter goodWord
theorem zW_in {w : Cond} (h : w ∈ zW) : w ∈ lw_tbl := (List.mem_filter.mp h).1
theorem zW_good {w : Cond} (h : w ∈ zW) : goodWord w = true := (List.mem_filter.mp h).2
theorem zin_1 {w : Cond} (h : w ∈ tables_1_1) (g : goodWord w = true) : w ∈ zW := List.mem_filter.mpr ⟨List.mem_append_right _ (show w ∈ tables_1 from List.mem_append_left _ h), g⟩
theorem zin_2 {w : Cond} (h : w ∈ tables_1_2) (g : goodWord w = true) : w ∈ zW := List.mem_filter.mpr ⟨List.mem_append_right _ (show w ∈ tables_1 from List.mem_append_right _ (List.mem_append_left _ h)), g⟩
theorem zin_3 {w : Cond} (h : w ∈ tables_1_3) (g : goodWord w = true) : w ∈ zW := List.mem_filter.mpr ⟨List.mem_append_right _ (show w ∈ tables_1 from List.mem_append_right _ (List.mem_append_right _ h)), g⟩
theorem zin_0 {w : Cond} (h : w ∈ k2_sels lw_privs) (g : goodWord w = true) : w ∈ zW := List.mem_filter.mpr ⟨List.mem_append_left _ h, g⟩
theorem zsub_c {h : Cond} : ∀ w ∈ zW, w ∈ h :: zW := fun _ h => List.mem_cons_of_mem _ h
theorem zsub_l : ∀ w ∈ zW, w ∈ lw_tbl := fun _ h => zW_in h
theorem zG {big xs : List Cond} (hs : ∀ w ∈ zW, w ∈ big) (h : ∀ w ∈ xs, w ∈ zW) : GoodIn big xs := fun w hw => ⟨hs w (h w hw), good_of_word (zW_good (h w hw))⟩
theorem zGN {big : List Cond} {c : Cond} (hs : ∀ w ∈ zW, w ∈ big) (hc : c ∈ zW) : GoodIn big (c :: zW) := zG hs (fun w hw => by
  rcases List.mem_cons.mp hw with rfl | h
  · exact hc
  · exact h)
theorem zGV {big : List Cond} {own C : String} {idx : Nat} {y : MethodName} {c : Cond} (hs : ∀ w ∈ zW, w ∈ big) (h1 : Cond.methodLink own idx y ∈ zW) (h2 : Cond.instanceMethod y ∈ zW) (h3 : Cond.selects C y y ∈ zW) (h4 : Cond.initialized C ∈ zW) (hc : c ∈ zW) : GoodIn big (wsV own idx C y (c :: zW)) := zG hs (fun w hw => by
  rcases List.mem_append.mp hw with h | h
  · simp only [List.mem_cons, List.not_mem_nil, or_false] at h
    rcases h with rfl | rfl | rfl | rfl <;> assumption
  · rcases List.mem_cons.mp h with rfl | h
    · exact hc
    · exact h)
theorem zGS {big : List Cond} {own : String} {idx : Nat} {y : MethodName} {c : Cond} (hs : ∀ w ∈ zW, w ∈ big) (h1 : Cond.methodLink own idx y ∈ zW) (h2 : Cond.static y ∈ zW) (h3 : Cond.initialized own ∈ zW) (hc : c ∈ zW) : GoodIn big (wsS own idx y (c :: zW)) := zG hs (fun w hw => by
  rcases List.mem_append.mp hw with h | h
  · simp only [List.mem_cons, List.not_mem_nil, or_false] at h
    rcases h with rfl | rfl | rfl <;> assumption
  · rcases List.mem_cons.mp h with rfl | h
    · exact hc
    · exact h)
def zNests : List (String × Nat × MethodName × String) := [("OutputStore", 11, ⟨"OutputStore$PathTree", "<init>", "()V"⟩, "OutputStore"), ("OutputStore", 18, ⟨"OutputStore$StepBook", "<init>", "()V"⟩, "OutputStore"), ("OutputStore", 25, ⟨"OutputStore$LinkTable", "<init>", "()V"⟩, "OutputStore"), ("OutputStore", 35, ⟨"OutputStore$CachedSet", "<init>", "()V"⟩, "OutputStore"), ("OutputStore", 42, ⟨"OutputStore$HoldBook", "<init>", "()V"⟩, "OutputStore"), ("OutputStore", 49, ⟨"OutputStore$DirtyMarks", "<init>", "()V"⟩, "OutputStore"), ("OutputStore$CachedSet", 19, ⟨"OutputStore", "find", "([JIJ)I"⟩, "OutputStore"), ("OutputStore$DirtyMarks", 15, ⟨"OutputStore", "isTarget", "(I)Z"⟩, "OutputStore"), ("OutputStore$DirtyMarks", 19, ⟨"OutputStore", "isConfiguration", "(I)Z"⟩, "OutputStore")]
abbrev b_PT_init : ByteArray := prog_6_method_1_code
def y_PT_init : MethodName := ⟨R_PT, "<init>", "()V"⟩
def ww_PT_init : List Cond := .code y_PT_init b_PT_init 1 none :: zW
theorem kc_PT_init : Cond.code y_PT_init b_PT_init 1 none ∈ zW := zin_1 (List.mem_of_getElem? (i := 21) rfl) rfl
abbrev b_SB_init : ByteArray := prog_7_method_1_code
def y_SB_init : MethodName := ⟨R_SB, "<init>", "()V"⟩
def ww_SB_init : List Cond := .code y_SB_init b_SB_init 1 none :: zW
theorem kc_SB_init : Cond.code y_SB_init b_SB_init 1 none ∈ zW := zin_1 (List.mem_of_getElem? (i := 35) rfl) rfl
abbrev b_LT_init : ByteArray := prog_5_method_1_code
def y_LT_init : MethodName := ⟨R_LT, "<init>", "()V"⟩
def ww_LT_init : List Cond := .code y_LT_init b_LT_init 1 none :: zW
theorem kc_LT_init : Cond.code y_LT_init b_LT_init 1 none ∈ zW := zin_1 (List.mem_of_getElem? (i := 58) rfl) rfl
abbrev b_CS_init : ByteArray := prog_2_method_1_code
def y_CS_init : MethodName := ⟨R_CS, "<init>", "()V"⟩
def ww_CS_init : List Cond := .code y_CS_init b_CS_init 1 none :: zW
theorem kc_CS_init : Cond.code y_CS_init b_CS_init 1 none ∈ zW := zin_1 (List.mem_of_getElem? (i := 78) rfl) rfl
abbrev b_HB_init : ByteArray := prog_4_method_1_code
def y_HB_init : MethodName := ⟨R_HB, "<init>", "()V"⟩
def ww_HB_init : List Cond := .code y_HB_init b_HB_init 1 none :: zW
theorem kc_HB_init : Cond.code y_HB_init b_HB_init 1 none ∈ zW := zin_1 (List.mem_of_getElem? (i := 91) rfl) rfl
abbrev b_DM_init : ByteArray := prog_3_method_1_code
def y_DM_init : MethodName := ⟨R_DM, "<init>", "()V"⟩
def ww_DM_init : List Cond := .code y_DM_init b_DM_init 1 none :: zW
theorem kc_DM_init : Cond.code y_DM_init b_DM_init 1 none ∈ zW := zin_1 (List.mem_of_getElem? (i := 104) rfl) rfl
abbrev b_OS_init : ByteArray := prog_1_method_1_code
def y_OS_init : MethodName := ⟨R_OS, "<init>", "()V"⟩
def ww_OS_init : List Cond := .code y_OS_init b_OS_init 1 none :: zW
theorem kc_OS_init : Cond.code y_OS_init b_OS_init 1 none ∈ zW := zin_1 (List.mem_of_getElem? (i := 13) rfl) rfl
abbrev b_MO_init : ByteArray := prog_9_method_1_code
def y_MO_init : MethodName := ⟨R_MO, "<init>", "()V"⟩
def ww_MO_init : List Cond := .code y_MO_init b_MO_init 1 none :: zW
theorem kc_MO_init : Cond.code y_MO_init b_MO_init 1 none ∈ zW := zin_2 (List.mem_of_getElem? (i := 159) rfl) rfl
abbrev b_PT_has : ByteArray := prog_6_method_2_code
def y_PT_has : MethodName := ⟨R_PT, "has", "(I)Z"⟩
def ww_PT_has : List Cond := .code y_PT_has b_PT_has 2 (some .boolean) :: zW
theorem kc_PT_has : Cond.code y_PT_has b_PT_has 2 (some .boolean) ∈ zW := zin_1 (List.mem_of_getElem? (i := 146) rfl) rfl
abbrev b_PT_grow : ByteArray := prog_6_method_3_code
def y_PT_grow : MethodName := ⟨R_PT, "grow", "(I)I"⟩
def ww_PT_grow : List Cond := .code y_PT_grow b_PT_grow 2 (some .int) :: zW
theorem kc_PT_grow : Cond.code y_PT_grow b_PT_grow 2 (some .int) ∈ zW := zin_1 (List.mem_of_getElem? (i := 142) rfl) rfl
abbrev b_PT_isAtOrWithin : ByteArray := prog_6_method_5_code
def y_PT_isAtOrWithin : MethodName := ⟨R_PT, "isAtOrWithin", "(II)Z"⟩
def ww_PT_isAtOrWithin : List Cond := .code y_PT_isAtOrWithin b_PT_isAtOrWithin 5 (some .boolean) :: zW
theorem kc_PT_isAtOrWithin : Cond.code y_PT_isAtOrWithin b_PT_isAtOrWithin 5 (some .boolean) ∈ zW := zin_1 (List.mem_of_getElem? (i := 239) rfl) rfl
abbrev b_PT_meet : ByteArray := prog_6_method_4_code
def y_PT_meet : MethodName := ⟨R_PT, "meet", "(II)Z"⟩
def ww_PT_meet : List Cond := .code y_PT_meet b_PT_meet 3 (some .boolean) :: zW
theorem kc_PT_meet : Cond.code y_PT_meet b_PT_meet 3 (some .boolean) ∈ zW := zin_1 (List.mem_of_getElem? (i := 235) rfl) rfl
abbrev b_SB_isFull : ByteArray := prog_7_method_2_code
def y_SB_isFull : MethodName := ⟨R_SB, "isFull", "()Z"⟩
def ww_SB_isFull : List Cond := .code y_SB_isFull b_SB_isFull 1 (some .boolean) :: zW
theorem kc_SB_isFull : Cond.code y_SB_isFull b_SB_isFull 1 (some .boolean) ∈ zW := zin_1 (List.mem_of_getElem? (i := 163) rfl) rfl
abbrev b_SB_has : ByteArray := prog_7_method_3_code
def y_SB_has : MethodName := ⟨R_SB, "has", "(I)Z"⟩
def ww_SB_has : List Cond := .code y_SB_has b_SB_has 2 (some .boolean) :: zW
theorem kc_SB_has : Cond.code y_SB_has b_SB_has 2 (some .boolean) ∈ zW := zin_1 (List.mem_of_getElem? (i := 175) rfl) rfl
abbrev b_SB_isOpen : ByteArray := prog_7_method_4_code
def y_SB_isOpen : MethodName := ⟨R_SB, "isOpen", "(I)Z"⟩
def ww_SB_isOpen : List Cond := .code y_SB_isOpen b_SB_isOpen 2 (some .boolean) :: zW
theorem kc_SB_isOpen : Cond.code y_SB_isOpen b_SB_isOpen 2 (some .boolean) ∈ zW := zin_1 (List.mem_of_getElem? (i := 171) rfl) rfl
abbrev b_SB_open : ByteArray := prog_7_method_5_code
def y_SB_open : MethodName := ⟨R_SB, "open", "(III)I"⟩
def ww_SB_open : List Cond := .code y_SB_open b_SB_open 4 (some .int) :: zW
theorem kc_SB_open : Cond.code y_SB_open b_SB_open 4 (some .int) ∈ zW := zin_1 (List.mem_of_getElem? (i := 179) rfl) rfl
abbrev b_SB_close : ByteArray := prog_7_method_6_code
def y_SB_close : MethodName := ⟨R_SB, "close", "(I)V"⟩
def ww_SB_close : List Cond := .code y_SB_close b_SB_close 2 none :: zW
theorem kc_SB_close : Cond.code y_SB_close b_SB_close 2 none ∈ zW := zin_2 (List.mem_of_getElem? (i := 48) rfl) rfl
abbrev b_SB_targetOf : ByteArray := prog_7_method_7_code
def y_SB_targetOf : MethodName := ⟨R_SB, "targetOf", "(I)I"⟩
def ww_SB_targetOf : List Cond := .code y_SB_targetOf b_SB_targetOf 2 (some .int) :: zW
theorem kc_SB_targetOf : Cond.code y_SB_targetOf b_SB_targetOf 2 (some .int) ∈ zW := zin_1 (List.mem_of_getElem? (i := 227) rfl) rfl
abbrev b_SB_configurationOf : ByteArray := prog_7_method_8_code
def y_SB_configurationOf : MethodName := ⟨R_SB, "configurationOf", "(I)I"⟩
def ww_SB_configurationOf : List Cond := .code y_SB_configurationOf b_SB_configurationOf 2 (some .int) :: zW
theorem kc_SB_configurationOf : Cond.code y_SB_configurationOf b_SB_configurationOf 2 (some .int) ∈ zW := zin_1 (List.mem_of_getElem? (i := 190) rfl) rfl
abbrev b_SB_runOf : ByteArray := prog_7_method_9_code
def y_SB_runOf : MethodName := ⟨R_SB, "runOf", "(I)I"⟩
def ww_SB_runOf : List Cond := .code y_SB_runOf b_SB_runOf 2 (some .int) :: zW
theorem kc_SB_runOf : Cond.code y_SB_runOf b_SB_runOf 2 (some .int) ∈ zW := zin_2 (List.mem_of_getElem? (i := 56) rfl) rfl
abbrev b_SB_hasOpenOne : ByteArray := prog_7_method_10_code
def y_SB_hasOpenOne : MethodName := ⟨R_SB, "hasOpenOne", "(II)Z"⟩
def ww_SB_hasOpenOne : List Cond := .code y_SB_hasOpenOne b_SB_hasOpenOne 4 (some .boolean) :: zW
theorem kc_SB_hasOpenOne : Cond.code y_SB_hasOpenOne b_SB_hasOpenOne 4 (some .boolean) ∈ zW := zin_1 (List.mem_of_getElem? (i := 167) rfl) rfl
abbrev b_SB_hasOpenOneIn : ByteArray := prog_7_method_11_code
def y_SB_hasOpenOneIn : MethodName := ⟨R_SB, "hasOpenOneIn", "(I)Z"⟩
def ww_SB_hasOpenOneIn : List Cond := .code y_SB_hasOpenOneIn b_SB_hasOpenOneIn 3 (some .boolean) :: zW
theorem kc_SB_hasOpenOneIn : Cond.code y_SB_hasOpenOneIn b_SB_hasOpenOneIn 3 (some .boolean) ∈ zW := zin_2 (List.mem_of_getElem? (i := 135) rfl) rfl
abbrev b_LT_has : ByteArray := prog_5_method_2_code
def y_LT_has : MethodName := ⟨R_LT, "has", "(I)Z"⟩
def ww_LT_has : List Cond := .code y_LT_has b_LT_has 2 (some .boolean) :: zW
theorem kc_LT_has : Cond.code y_LT_has b_LT_has 2 (some .boolean) ∈ zW := zin_1 (List.mem_of_getElem? (i := 202) rfl) rfl
abbrev b_LT_put : ByteArray := prog_5_method_3_code
def y_LT_put : MethodName := ⟨R_LT, "put", "(IIJZZ)V"⟩
def ww_LT_put : List Cond := .code y_LT_put b_LT_put 7 none :: zW
theorem kc_LT_put : Cond.code y_LT_put b_LT_put 7 none ∈ zW := zin_2 (List.mem_of_getElem? (i := 10) rfl) rfl
abbrev b_LT_drop : ByteArray := prog_5_method_4_code
def y_LT_drop : MethodName := ⟨R_LT, "drop", "(I)V"⟩
def ww_LT_drop : List Cond := .code y_LT_drop b_LT_drop 2 none :: zW
theorem kc_LT_drop : Cond.code y_LT_drop b_LT_drop 2 none ∈ zW := zin_2 (List.mem_of_getElem? (i := 34) rfl) rfl
abbrev b_LT_makeThere : ByteArray := prog_5_method_5_code
def y_LT_makeThere : MethodName := ⟨R_LT, "makeThere", "(I)V"⟩
def ww_LT_makeThere : List Cond := .code y_LT_makeThere b_LT_makeThere 2 none :: zW
theorem kc_LT_makeThere : Cond.code y_LT_makeThere b_LT_makeThere 2 none ∈ zW := zin_2 (List.mem_of_getElem? (i := 81) rfl) rfl
abbrev b_LT_contentAt : ByteArray := prog_5_method_6_code
def y_LT_contentAt : MethodName := ⟨R_LT, "contentAt", "(I)J"⟩
def ww_LT_contentAt : List Cond := .code y_LT_contentAt b_LT_contentAt 2 (some .long) :: zW
theorem kc_LT_contentAt : Cond.code y_LT_contentAt b_LT_contentAt 2 (some .long) ∈ zW := zin_2 (List.mem_of_getElem? (i := 22) rfl) rfl
abbrev b_LT_isLazy : ByteArray := prog_5_method_11_code
def y_LT_isLazy : MethodName := ⟨R_LT, "isLazy", "(I)Z"⟩
def ww_LT_isLazy : List Cond := .code y_LT_isLazy b_LT_isLazy 2 (some .boolean) :: zW
theorem kc_LT_isLazy : Cond.code y_LT_isLazy b_LT_isLazy 2 (some .boolean) ∈ zW := zin_2 (List.mem_of_getElem? (i := 30) rfl) rfl
abbrev b_LT_storedIn : ByteArray := prog_5_method_7_code
def y_LT_storedIn : MethodName := ⟨R_LT, "storedIn", "(I)J"⟩
def ww_LT_storedIn : List Cond := .code y_LT_storedIn b_LT_storedIn 2 (some .long) :: zW
theorem kc_LT_storedIn : Cond.code y_LT_storedIn b_LT_storedIn 2 (some .long) ∈ zW := zin_2 (List.mem_of_getElem? (i := 147) rfl) rfl
abbrev b_LT_stepAt : ByteArray := prog_5_method_8_code
def y_LT_stepAt : MethodName := ⟨R_LT, "stepAt", "(I)I"⟩
def ww_LT_stepAt : List Cond := .code y_LT_stepAt b_LT_stepAt 2 (some .int) :: zW
theorem kc_LT_stepAt : Cond.code y_LT_stepAt b_LT_stepAt 2 (some .int) ∈ zW := zin_1 (List.mem_of_getElem? (i := 223) rfl) rfl
abbrev b_LT_isOfStep : ByteArray := prog_5_method_9_code
def y_LT_isOfStep : MethodName := ⟨R_LT, "isOfStep", "(II)Z"⟩
def ww_LT_isOfStep : List Cond := .code y_LT_isOfStep b_LT_isOfStep 3 (some .boolean) :: zW
theorem kc_LT_isOfStep : Cond.code y_LT_isOfStep b_LT_isOfStep 3 (some .boolean) ∈ zW := zin_1 (List.mem_of_getElem? (i := 198) rfl) rfl
abbrev b_LT_isExecutable : ByteArray := prog_5_method_10_code
def y_LT_isExecutable : MethodName := ⟨R_LT, "isExecutable", "(I)Z"⟩
def ww_LT_isExecutable : List Cond := .code y_LT_isExecutable b_LT_isExecutable 2 (some .boolean) :: zW
theorem kc_LT_isExecutable : Cond.code y_LT_isExecutable b_LT_isExecutable 2 (some .boolean) ∈ zW := zin_2 (List.mem_of_getElem? (i := 26) rfl) rfl
abbrev b_OS_isTarget : ByteArray := prog_1_method_27_code
def y_OS_isTarget : MethodName := ⟨R_OS, "isTarget", "(I)Z"⟩
def ww_OS_isTarget : List Cond := .code y_OS_isTarget b_OS_isTarget 1 (some .boolean) :: zW
theorem kc_OS_isTarget : Cond.code y_OS_isTarget b_OS_isTarget 1 (some .boolean) ∈ zW := zin_1 (List.mem_of_getElem? (i := 153) rfl) rfl
abbrev b_OS_isConfiguration : ByteArray := prog_1_method_28_code
def y_OS_isConfiguration : MethodName := ⟨R_OS, "isConfiguration", "(I)Z"⟩
def ww_OS_isConfiguration : List Cond := .code y_OS_isConfiguration b_OS_isConfiguration 1 (some .boolean) :: zW
theorem kc_OS_isConfiguration : Cond.code y_OS_isConfiguration b_OS_isConfiguration 1 (some .boolean) ∈ zW := zin_1 (List.mem_of_getElem? (i := 156) rfl) rfl
abbrev b_OS_isRun : ByteArray := prog_1_method_29_code
def y_OS_isRun : MethodName := ⟨R_OS, "isRun", "(I)Z"⟩
def ww_OS_isRun : List Cond := .code y_OS_isRun b_OS_isRun 1 (some .boolean) :: zW
theorem kc_OS_isRun : Cond.code y_OS_isRun b_OS_isRun 1 (some .boolean) ∈ zW := zin_1 (List.mem_of_getElem? (i := 159) rfl) rfl
abbrev b_OS_find : ByteArray := prog_1_method_30_code
def y_OS_find : MethodName := ⟨R_OS, "find", "([JIJ)I"⟩
def ww_OS_find : List Cond := .code y_OS_find b_OS_find 5 (some .int) :: zW
theorem kc_OS_find : Cond.code y_OS_find b_OS_find 5 (some .int) ∈ zW := zin_2 (List.mem_of_getElem? (i := 6) rfl) rfl
abbrev b_CS_has : ByteArray := prog_2_method_2_code
def y_CS_has : MethodName := ⟨R_CS, "has", "(J)Z"⟩
def ww_CS_has : List Cond := .code y_CS_has b_CS_has 3 (some .boolean) :: zW
theorem kc_CS_has : Cond.code y_CS_has b_CS_has 3 (some .boolean) ∈ zW := zin_2 (List.mem_of_getElem? (i := 3) rfl) rfl
abbrev b_CS_include : ByteArray := prog_2_method_3_code
def y_CS_include : MethodName := ⟨R_CS, "include", "(J)Z"⟩
def ww_CS_include : List Cond := .code y_CS_include b_CS_include 3 (some .boolean) :: zW
theorem kc_CS_include : Cond.code y_CS_include b_CS_include 3 (some .boolean) ∈ zW := zin_2 (List.mem_of_getElem? (i := 64) rfl) rfl
abbrev b_CS_exclude : ByteArray := prog_2_method_4_code
def y_CS_exclude : MethodName := ⟨R_CS, "exclude", "(J)V"⟩
def ww_CS_exclude : List Cond := .code y_CS_exclude b_CS_exclude 4 none :: zW
theorem kc_CS_exclude : Cond.code y_CS_exclude b_CS_exclude 4 none ∈ zW := zin_2 (List.mem_of_getElem? (i := 69) rfl) rfl
abbrev b_HB_isFull : ByteArray := prog_4_method_2_code
def y_HB_isFull : MethodName := ⟨R_HB, "isFull", "()Z"⟩
def ww_HB_isFull : List Cond := .code y_HB_isFull b_HB_isFull 1 (some .boolean) :: zW
theorem kc_HB_isFull : Cond.code y_HB_isFull b_HB_isFull 1 (some .boolean) ∈ zW := zin_2 (List.mem_of_getElem? (i := 77) rfl) rfl
abbrev b_HB_take : ByteArray := prog_4_method_3_code
def y_HB_take : MethodName := ⟨R_HB, "take", "(J)I"⟩
def ww_HB_take : List Cond := .code y_HB_take b_HB_take 3 (some .int) :: zW
theorem kc_HB_take : Cond.code y_HB_take b_HB_take 3 (some .int) ∈ zW := zin_2 (List.mem_of_getElem? (i := 85) rfl) rfl
abbrev b_HB_has : ByteArray := prog_4_method_4_code
def y_HB_has : MethodName := ⟨R_HB, "has", "(I)Z"⟩
def ww_HB_has : List Cond := .code y_HB_has b_HB_has 2 (some .boolean) :: zW
theorem kc_HB_has : Cond.code y_HB_has b_HB_has 2 (some .boolean) ∈ zW := zin_2 (List.mem_of_getElem? (i := 98) rfl) rfl
abbrev b_HB_contentOf : ByteArray := prog_4_method_5_code
def y_HB_contentOf : MethodName := ⟨R_HB, "contentOf", "(I)J"⟩
def ww_HB_contentOf : List Cond := .code y_HB_contentOf b_HB_contentOf 2 (some .long) :: zW
theorem kc_HB_contentOf : Cond.code y_HB_contentOf b_HB_contentOf 2 (some .long) ∈ zW := zin_2 (List.mem_of_getElem? (i := 94) rfl) rfl
abbrev b_HB_release : ByteArray := prog_4_method_6_code
def y_HB_release : MethodName := ⟨R_HB, "release", "(I)Z"⟩
def ww_HB_release : List Cond := .code y_HB_release b_HB_release 2 (some .boolean) :: zW
theorem kc_HB_release : Cond.code y_HB_release b_HB_release 2 (some .boolean) ∈ zW := zin_2 (List.mem_of_getElem? (i := 106) rfl) rfl
abbrev b_DM_get : ByteArray := prog_3_method_2_code
def y_DM_get : MethodName := ⟨R_DM, "get", "(II)Z"⟩
def ww_DM_get : List Cond := .code y_DM_get b_DM_get 3 (some .boolean) :: zW
theorem kc_DM_get : Cond.code y_DM_get b_DM_get 3 (some .boolean) ∈ zW := zin_2 (List.mem_of_getElem? (i := 127) rfl) rfl
abbrev b_DM_set : ByteArray := prog_3_method_3_code
def y_DM_set : MethodName := ⟨R_DM, "set", "(IIZ)V"⟩
def ww_DM_set : List Cond := .code y_DM_set b_DM_set 4 none :: zW
theorem kc_DM_set : Cond.code y_DM_set b_DM_set 4 none ∈ zW := zin_2 (List.mem_of_getElem? (i := 38) rfl) rfl
abbrev b_OS_slotOf : ByteArray := prog_1_method_26_code
def y_OS_slotOf : MethodName := ⟨R_OS, "slotOf", "(II)I"⟩
def ww_OS_slotOf : List Cond := .code y_OS_slotOf b_OS_slotOf 3 (some .int) :: zW
theorem kc_OS_slotOf : Cond.code y_OS_slotOf b_OS_slotOf 3 (some .int) ∈ zW := zin_1 (List.mem_of_getElem? (i := 194) rfl) rfl
abbrev b_OS_targetAt : ByteArray := prog_1_method_25_code
def y_OS_targetAt : MethodName := ⟨R_OS, "targetAt", "(I)I"⟩
def ww_OS_targetAt : List Cond := .code y_OS_targetAt b_OS_targetAt 2 (some .int) :: zW
theorem kc_OS_targetAt : Cond.code y_OS_targetAt b_OS_targetAt 2 (some .int) ∈ zW := zin_1 (List.mem_of_getElem? (i := 219) rfl) rfl
abbrev b_OS_dropStaged : ByteArray := prog_1_method_24_code
def y_OS_dropStaged : MethodName := ⟨R_OS, "dropStaged", "(I)V"⟩
def ww_OS_dropStaged : List Cond := .code y_OS_dropStaged b_OS_dropStaged 5 none :: zW
theorem kc_OS_dropStaged : Cond.code y_OS_dropStaged b_OS_dropStaged 5 none ∈ zW := zin_2 (List.mem_of_getElem? (i := 44) rfl) rfl
abbrev b_OS_replaceOutputs : ByteArray := prog_1_method_23_code
def y_OS_replaceOutputs : MethodName := ⟨R_OS, "replaceOutputs", "(I)I"⟩
def ww_OS_replaceOutputs : List Cond := .code y_OS_replaceOutputs b_OS_replaceOutputs 7 (some .int) :: zW
theorem kc_OS_replaceOutputs : Cond.code y_OS_replaceOutputs b_OS_replaceOutputs 7 (some .int) ∈ zW := zin_2 (List.mem_of_getElem? (i := 18) rfl) rfl
abbrev b_OS_countStaged : ByteArray := prog_1_method_22_code
def y_OS_countStaged : MethodName := ⟨R_OS, "countStaged", "(I)I"⟩
def ww_OS_countStaged : List Cond := .code y_OS_countStaged b_OS_countStaged 5 (some .int) :: zW
theorem kc_OS_countStaged : Cond.code y_OS_countStaged b_OS_countStaged 5 (some .int) ∈ zW := zin_1 (List.mem_of_getElem? (i := 206) rfl) rfl
abbrev b_OS_isStagedAgainst : ByteArray := prog_1_method_21_code
def y_OS_isStagedAgainst : MethodName := ⟨R_OS, "isStagedAgainst", "(IIZ)Z"⟩
def ww_OS_isStagedAgainst : List Cond := .code y_OS_isStagedAgainst b_OS_isStagedAgainst 4 (some .boolean) :: zW
theorem kc_OS_isStagedAgainst : Cond.code y_OS_isStagedAgainst b_OS_isStagedAgainst 4 (some .boolean) ∈ zW := zin_1 (List.mem_of_getElem? (i := 231) rfl) rfl
abbrev b_OS_isOutputOfAnother : ByteArray := prog_1_method_20_code
def y_OS_isOutputOfAnother : MethodName := ⟨R_OS, "isOutputOfAnother", "(II)Z"⟩
def ww_OS_isOutputOfAnother : List Cond := .code y_OS_isOutputOfAnother b_OS_isOutputOfAnother 3 (some .boolean) :: zW
theorem kc_OS_isOutputOfAnother : Cond.code y_OS_isOutputOfAnother b_OS_isOutputOfAnother 3 (some .boolean) ∈ zW := zin_1 (List.mem_of_getElem? (i := 214) rfl) rfl
abbrev b_OS_isRefused : ByteArray := prog_1_method_19_code
def y_OS_isRefused : MethodName := ⟨R_OS, "isRefused", "(II)Z"⟩
def ww_OS_isRefused : List Cond := .code y_OS_isRefused b_OS_isRefused 7 (some .boolean) :: zW
theorem kc_OS_isRefused : Cond.code y_OS_isRefused b_OS_isRefused 7 (some .boolean) ∈ zW := zin_1 (List.mem_of_getElem? (i := 210) rfl) rfl
abbrev b_OS_storedAt : ByteArray := prog_1_method_18_code
def y_OS_storedAt : MethodName := ⟨R_OS, "storedAt", "(I)J"⟩
def ww_OS_storedAt : List Cond := .code y_OS_storedAt b_OS_storedAt 2 (some .long) :: zW
theorem kc_OS_storedAt : Cond.code y_OS_storedAt b_OS_storedAt 2 (some .long) ∈ zW := zin_2 (List.mem_of_getElem? (i := 143) rfl) rfl
abbrev b_OS_path : ByteArray := prog_1_method_2_code
def y_OS_path : MethodName := ⟨R_OS, "path", "(I)I"⟩
def ww_OS_path : List Cond := .code y_OS_path b_OS_path 2 (some .int) :: zW
theorem kc_OS_path : Cond.code y_OS_path b_OS_path 2 (some .int) ∈ zW := zin_1 (List.mem_of_getElem? (i := 138) rfl) rfl
abbrev b_OS_begin : ByteArray := prog_1_method_3_code
def y_OS_begin : MethodName := ⟨R_OS, "begin", "(III)I"⟩
def ww_OS_begin : List Cond := .code y_OS_begin b_OS_begin 4 (some .int) :: zW
theorem kc_OS_begin : Cond.code y_OS_begin b_OS_begin 4 (some .int) ∈ zW := zin_1 (List.mem_of_getElem? (i := 150) rfl) rfl
abbrev b_OS_stage : ByteArray := prog_1_method_4_code
def y_OS_stage : MethodName := ⟨R_OS, "stage", "(IIJZZ)I"⟩
def ww_OS_stage : List Cond := .code y_OS_stage b_OS_stage 8 (some .int) :: zW
theorem kc_OS_stage : Cond.code y_OS_stage b_OS_stage 8 (some .int) ∈ zW := zin_1 (List.mem_of_getElem? (i := 184) rfl) rfl
abbrev b_OS_end : ByteArray := prog_1_method_5_code
def y_OS_end : MethodName := ⟨R_OS, "end", "(IZ)I"⟩
def ww_OS_end : List Cond := .code y_OS_end b_OS_end 4 (some .int) :: zW
theorem kc_OS_end : Cond.code y_OS_end b_OS_end 4 (some .int) ∈ zW := zin_2 (List.mem_of_getElem? (i := 14) rfl) rfl
abbrev b_OS_abandon : ByteArray := prog_1_method_6_code
def y_OS_abandon : MethodName := ⟨R_OS, "abandon", "(I)I"⟩
def ww_OS_abandon : List Cond := .code y_OS_abandon b_OS_abandon 4 (some .int) :: zW
theorem kc_OS_abandon : Cond.code y_OS_abandon b_OS_abandon 4 (some .int) ∈ zW := zin_2 (List.mem_of_getElem? (i := 52) rfl) rfl
abbrev b_OS_cache : ByteArray := prog_1_method_7_code
def y_OS_cache : MethodName := ⟨R_OS, "cache", "(JZ)Z"⟩
def ww_OS_cache : List Cond := .code y_OS_cache b_OS_cache 4 (some .boolean) :: zW
theorem kc_OS_cache : Cond.code y_OS_cache b_OS_cache 4 (some .boolean) ∈ zW := zin_2 (List.mem_of_getElem? (i := 60) rfl) rfl
abbrev b_OS_read : ByteArray := prog_1_method_8_code
def y_OS_read : MethodName := ⟨R_OS, "read", "(II)I"⟩
def ww_OS_read : List Cond := .code y_OS_read b_OS_read 6 (some .int) :: zW
theorem kc_OS_read : Cond.code y_OS_read b_OS_read 6 (some .int) ∈ zW := zin_2 (List.mem_of_getElem? (i := 73) rfl) rfl
abbrev b_OS_held : ByteArray := prog_1_method_9_code
def y_OS_held : MethodName := ⟨R_OS, "held", "(I)J"⟩
def ww_OS_held : List Cond := .code y_OS_held b_OS_held 2 (some .long) :: zW
theorem kc_OS_held : Cond.code y_OS_held b_OS_held 2 (some .long) ∈ zW := zin_2 (List.mem_of_getElem? (i := 90) rfl) rfl
abbrev b_OS_letGo : ByteArray := prog_1_method_10_code
def y_OS_letGo : MethodName := ⟨R_OS, "letGo", "(I)Z"⟩
def ww_OS_letGo : List Cond := .code y_OS_letGo b_OS_letGo 2 (some .boolean) :: zW
theorem kc_OS_letGo : Cond.code y_OS_letGo b_OS_letGo 2 (some .boolean) ∈ zW := zin_2 (List.mem_of_getElem? (i := 102) rfl) rfl
abbrev b_OS_content : ByteArray := prog_1_method_11_code
def y_OS_content : MethodName := ⟨R_OS, "content", "(II)J"⟩
def ww_OS_content : List Cond := .code y_OS_content b_OS_content 3 (some .long) :: zW
theorem kc_OS_content : Cond.code y_OS_content b_OS_content 3 (some .long) ∈ zW := zin_2 (List.mem_of_getElem? (i := 110) rfl) rfl
abbrev b_OS_about : ByteArray := prog_1_method_12_code
def y_OS_about : MethodName := ⟨R_OS, "about", "(III)I"⟩
def ww_OS_about : List Cond := .code y_OS_about b_OS_about 5 (some .int) :: zW
theorem kc_OS_about : Cond.code y_OS_about b_OS_about 5 (some .int) ∈ zW := zin_2 (List.mem_of_getElem? (i := 114) rfl) rfl
abbrev b_OS_list : ByteArray := prog_1_method_13_code
def y_OS_list : MethodName := ⟨R_OS, "list", "(III)I"⟩
def ww_OS_list : List Cond := .code y_OS_list b_OS_list 6 (some .int) :: zW
theorem kc_OS_list : Cond.code y_OS_list b_OS_list 6 (some .int) ∈ zW := zin_2 (List.mem_of_getElem? (i := 118) rfl) rfl
abbrev b_OS_dirty : ByteArray := prog_1_method_14_code
def y_OS_dirty : MethodName := ⟨R_OS, "dirty", "(II)Z"⟩
def ww_OS_dirty : List Cond := .code y_OS_dirty b_OS_dirty 3 (some .boolean) :: zW
theorem kc_OS_dirty : Cond.code y_OS_dirty b_OS_dirty 3 (some .boolean) ∈ zW := zin_2 (List.mem_of_getElem? (i := 123) rfl) rfl
abbrev b_OS_clear : ByteArray := prog_1_method_15_code
def y_OS_clear : MethodName := ⟨R_OS, "clear", "(I)I"⟩
def ww_OS_clear : List Cond := .code y_OS_clear b_OS_clear 5 (some .int) :: zW
theorem kc_OS_clear : Cond.code y_OS_clear b_OS_clear 5 (some .int) ∈ zW := zin_2 (List.mem_of_getElem? (i := 131) rfl) rfl
abbrev b_OS_copies : ByteArray := prog_1_method_16_code
def y_OS_copies : MethodName := ⟨R_OS, "copies", "(J)I"⟩
def ww_OS_copies : List Cond := .code y_OS_copies b_OS_copies 5 (some .int) :: zW
theorem kc_OS_copies : Cond.code y_OS_copies b_OS_copies 5 (some .int) ∈ zW := zin_2 (List.mem_of_getElem? (i := 139) rfl) rfl
abbrev b_OS_stored : ByteArray := prog_1_method_17_code
def y_OS_stored : MethodName := ⟨R_OS, "stored", "()I"⟩
def ww_OS_stored : List Cond := .code y_OS_stored b_OS_stored 5 (some .int) :: zW
theorem kc_OS_stored : Cond.code y_OS_stored b_OS_stored 5 (some .int) ∈ zW := zin_2 (List.mem_of_getElem? (i := 153) rfl) rfl
abbrev b_MO_within : ByteArray := prog_9_method_3_code
def y_MO_within : MethodName := ⟨R_MO, "within", "(II)Z"⟩
def ww_MO_within : List Cond := .code y_MO_within b_MO_within 2 (some .boolean) :: zW
theorem kc_MO_within : Cond.code y_MO_within b_MO_within 2 (some .boolean) ∈ zW := zin_3 (List.mem_of_getElem? (i := 8) rfl) rfl
abbrev b_MO_isPath : ByteArray := prog_9_method_4_code
def y_MO_isPath : MethodName := ⟨R_MO, "isPath", "(I)Z"⟩
def ww_MO_isPath : List Cond := .code y_MO_isPath b_MO_isPath 2 (some .boolean) :: zW
theorem kc_MO_isPath : Cond.code y_MO_isPath b_MO_isPath 2 (some .boolean) ∈ zW := zin_3 (List.mem_of_getElem? (i := 1) rfl) rfl
abbrev b_MO_isOpenStep : ByteArray := prog_9_method_5_code
def y_MO_isOpenStep : MethodName := ⟨R_MO, "isOpenStep", "(I)Z"⟩
def ww_MO_isOpenStep : List Cond := .code y_MO_isOpenStep b_MO_isOpenStep 2 (some .boolean) :: zW
theorem kc_MO_isOpenStep : Cond.code y_MO_isOpenStep b_MO_isOpenStep 2 (some .boolean) ∈ zW := zin_3 (List.mem_of_getElem? (i := 16) rfl) rfl
abbrev b_MO_path : ByteArray := prog_9_method_6_code
def y_MO_path : MethodName := ⟨R_MO, "path", "(I)I"⟩
def ww_MO_path : List Cond := .code y_MO_path b_MO_path 2 (some .int) :: zW
theorem kc_MO_path : Cond.code y_MO_path b_MO_path 2 (some .int) ∈ zW := zin_2 (List.mem_of_getElem? (i := 237) rfl) rfl
abbrev b_MO_isWithin : ByteArray := prog_9_method_7_code
def y_MO_isWithin : MethodName := ⟨R_MO, "isWithin", "(II)Z"⟩
def ww_MO_isWithin : List Cond := .code y_MO_isWithin b_MO_isWithin 4 (some .boolean) :: zW
theorem kc_MO_isWithin : Cond.code y_MO_isWithin b_MO_isWithin 4 (some .boolean) ∈ zW := zin_3 (List.mem_of_getElem? (i := 32) rfl) rfl
abbrev b_MO_meet : ByteArray := prog_9_method_8_code
def y_MO_meet : MethodName := ⟨R_MO, "meet", "(II)Z"⟩
def ww_MO_meet : List Cond := .code y_MO_meet b_MO_meet 3 (some .boolean) :: zW
theorem kc_MO_meet : Cond.code y_MO_meet b_MO_meet 3 (some .boolean) ∈ zW := zin_3 (List.mem_of_getElem? (i := 28) rfl) rfl
abbrev b_MO_begin : ByteArray := prog_9_method_9_code
def y_MO_begin : MethodName := ⟨R_MO, "begin", "(III)I"⟩
def ww_MO_begin : List Cond := .code y_MO_begin b_MO_begin 5 (some .int) :: zW
theorem kc_MO_begin : Cond.code y_MO_begin b_MO_begin 5 (some .int) ∈ zW := zin_3 (List.mem_of_getElem? (i := 5) rfl) rfl
abbrev b_MO_placeOf : ByteArray := prog_9_method_10_code
def y_MO_placeOf : MethodName := ⟨R_MO, "placeOf", "(II)I"⟩
def ww_MO_placeOf : List Cond := .code y_MO_placeOf b_MO_placeOf 5 (some .int) :: zW
theorem kc_MO_placeOf : Cond.code y_MO_placeOf b_MO_placeOf 5 (some .int) ∈ zW := zin_3 (List.mem_of_getElem? (i := 20) rfl) rfl
abbrev b_MO_meetsOutput : ByteArray := prog_9_method_11_code
def y_MO_meetsOutput : MethodName := ⟨R_MO, "meetsOutput", "(II)Z"⟩
def ww_MO_meetsOutput : List Cond := .code y_MO_meetsOutput b_MO_meetsOutput 5 (some .boolean) :: zW
theorem kc_MO_meetsOutput : Cond.code y_MO_meetsOutput b_MO_meetsOutput 5 (some .boolean) ∈ zW := zin_3 (List.mem_of_getElem? (i := 24) rfl) rfl
abbrev b_MO_meetsStaged : ByteArray := prog_9_method_12_code
def y_MO_meetsStaged : MethodName := ⟨R_MO, "meetsStaged", "(II)Z"⟩
def ww_MO_meetsStaged : List Cond := .code y_MO_meetsStaged b_MO_meetsStaged 6 (some .boolean) :: zW
theorem kc_MO_meetsStaged : Cond.code y_MO_meetsStaged b_MO_meetsStaged 6 (some .boolean) ∈ zW := zin_3 (List.mem_of_getElem? (i := 36) rfl) rfl
abbrev b_MO_isCached : ByteArray := prog_9_method_13_code
def y_MO_isCached : MethodName := ⟨R_MO, "isCached", "(J)Z"⟩
def ww_MO_isCached : List Cond := .code y_MO_isCached b_MO_isCached 5 (some .boolean) :: zW
theorem kc_MO_isCached : Cond.code y_MO_isCached b_MO_isCached 5 (some .boolean) ∈ zW := zin_3 (List.mem_of_getElem? (i := 40) rfl) rfl
abbrev b_MO_stage : ByteArray := prog_9_method_14_code
def y_MO_stage : MethodName := ⟨R_MO, "stage", "(IIJZZ)I"⟩
def ww_MO_stage : List Cond := .code y_MO_stage b_MO_stage 8 (some .int) :: zW
theorem kc_MO_stage : Cond.code y_MO_stage b_MO_stage 8 (some .int) ∈ zW := zin_3 (List.mem_of_getElem? (i := 12) rfl) rfl
abbrev b_MO_goOld : ByteArray := prog_9_method_15_code
def y_MO_goOld : MethodName := ⟨R_MO, "goOld", "(I)I"⟩
def ww_MO_goOld : List Cond := .code y_MO_goOld b_MO_goOld 5 (some .int) :: zW
theorem kc_MO_goOld : Cond.code y_MO_goOld b_MO_goOld 5 (some .int) ∈ zW := zin_3 (List.mem_of_getElem? (i := 48) rfl) rfl
abbrev b_MO_end : ByteArray := prog_9_method_16_code
def y_MO_end : MethodName := ⟨R_MO, "end", "(IZ)I"⟩
def ww_MO_end : List Cond := .code y_MO_end b_MO_end 6 (some .int) :: zW
theorem kc_MO_end : Cond.code y_MO_end b_MO_end 6 (some .int) ∈ zW := zin_3 (List.mem_of_getElem? (i := 44) rfl) rfl
abbrev b_MO_abandon : ByteArray := prog_9_method_17_code
def y_MO_abandon : MethodName := ⟨R_MO, "abandon", "(I)I"⟩
def ww_MO_abandon : List Cond := .code y_MO_abandon b_MO_abandon 4 (some .int) :: zW
theorem kc_MO_abandon : Cond.code y_MO_abandon b_MO_abandon 4 (some .int) ∈ zW := zin_3 (List.mem_of_getElem? (i := 52) rfl) rfl
abbrev b_MO_cache : ByteArray := prog_9_method_18_code
def y_MO_cache : MethodName := ⟨R_MO, "cache", "(JZ)Z"⟩
def ww_MO_cache : List Cond := .code y_MO_cache b_MO_cache 5 (some .boolean) :: zW
theorem kc_MO_cache : Cond.code y_MO_cache b_MO_cache 5 (some .boolean) ∈ zW := zin_3 (List.mem_of_getElem? (i := 56) rfl) rfl
abbrev b_MO_isOutput : ByteArray := prog_9_method_19_code
def y_MO_isOutput : MethodName := ⟨R_MO, "isOutput", "(II)Z"⟩
def ww_MO_isOutput : List Cond := .code y_MO_isOutput b_MO_isOutput 3 (some .boolean) :: zW
theorem kc_MO_isOutput : Cond.code y_MO_isOutput b_MO_isOutput 3 (some .boolean) ∈ zW := zin_3 (List.mem_of_getElem? (i := 64) rfl) rfl
abbrev b_MO_read : ByteArray := prog_9_method_20_code
def y_MO_read : MethodName := ⟨R_MO, "read", "(II)I"⟩
def ww_MO_read : List Cond := .code y_MO_read b_MO_read 4 (some .int) :: zW
theorem kc_MO_read : Cond.code y_MO_read b_MO_read 4 (some .int) ∈ zW := zin_3 (List.mem_of_getElem? (i := 60) rfl) rfl
abbrev b_MO_held : ByteArray := prog_9_method_21_code
def y_MO_held : MethodName := ⟨R_MO, "held", "(I)J"⟩
def ww_MO_held : List Cond := .code y_MO_held b_MO_held 2 (some .long) :: zW
theorem kc_MO_held : Cond.code y_MO_held b_MO_held 2 (some .long) ∈ zW := zin_3 (List.mem_of_getElem? (i := 68) rfl) rfl
abbrev b_MO_letGo : ByteArray := prog_9_method_22_code
def y_MO_letGo : MethodName := ⟨R_MO, "letGo", "(I)Z"⟩
def ww_MO_letGo : List Cond := .code y_MO_letGo b_MO_letGo 2 (some .boolean) :: zW
theorem kc_MO_letGo : Cond.code y_MO_letGo b_MO_letGo 2 (some .boolean) ∈ zW := zin_3 (List.mem_of_getElem? (i := 72) rfl) rfl
abbrev b_MO_content : ByteArray := prog_9_method_23_code
def y_MO_content : MethodName := ⟨R_MO, "content", "(II)J"⟩
def ww_MO_content : List Cond := .code y_MO_content b_MO_content 3 (some .long) :: zW
theorem kc_MO_content : Cond.code y_MO_content b_MO_content 3 (some .long) ∈ zW := zin_3 (List.mem_of_getElem? (i := 76) rfl) rfl
abbrev b_MO_about : ByteArray := prog_9_method_24_code
def y_MO_about : MethodName := ⟨R_MO, "about", "(III)I"⟩
def ww_MO_about : List Cond := .code y_MO_about b_MO_about 5 (some .int) :: zW
theorem kc_MO_about : Cond.code y_MO_about b_MO_about 5 (some .int) ∈ zW := zin_3 (List.mem_of_getElem? (i := 80) rfl) rfl
abbrev b_MO_list : ByteArray := prog_9_method_25_code
def y_MO_list : MethodName := ⟨R_MO, "list", "(III)I"⟩
def ww_MO_list : List Cond := .code y_MO_list b_MO_list 6 (some .int) :: zW
theorem kc_MO_list : Cond.code y_MO_list b_MO_list 6 (some .int) ∈ zW := zin_3 (List.mem_of_getElem? (i := 84) rfl) rfl
abbrev b_MO_dirty : ByteArray := prog_9_method_26_code
def y_MO_dirty : MethodName := ⟨R_MO, "dirty", "(II)Z"⟩
def ww_MO_dirty : List Cond := .code y_MO_dirty b_MO_dirty 3 (some .boolean) :: zW
theorem kc_MO_dirty : Cond.code y_MO_dirty b_MO_dirty 3 (some .boolean) ∈ zW := zin_3 (List.mem_of_getElem? (i := 88) rfl) rfl
abbrev b_MO_clear : ByteArray := prog_9_method_27_code
def y_MO_clear : MethodName := ⟨R_MO, "clear", "(I)I"⟩
def ww_MO_clear : List Cond := .code y_MO_clear b_MO_clear 4 (some .int) :: zW
theorem kc_MO_clear : Cond.code y_MO_clear b_MO_clear 4 (some .int) ∈ zW := zin_3 (List.mem_of_getElem? (i := 92) rfl) rfl
abbrev b_MO_meets : ByteArray := prog_9_method_28_code
def y_MO_meets : MethodName := ⟨R_MO, "meets", "(J)V"⟩
def ww_MO_meets : List Cond := .code y_MO_meets b_MO_meets 3 none :: zW
theorem kc_MO_meets : Cond.code y_MO_meets b_MO_meets 3 none ∈ zW := zin_3 (List.mem_of_getElem? (i := 104) rfl) rfl
abbrev b_MO_gather : ByteArray := prog_9_method_29_code
def y_MO_gather : MethodName := ⟨R_MO, "gather", "()V"⟩
def ww_MO_gather : List Cond := .code y_MO_gather b_MO_gather 3 none :: zW
theorem kc_MO_gather : Cond.code y_MO_gather b_MO_gather 3 none ∈ zW := zin_3 (List.mem_of_getElem? (i := 100) rfl) rfl
abbrev b_MO_copies : ByteArray := prog_9_method_30_code
def y_MO_copies : MethodName := ⟨R_MO, "copies", "(J)I"⟩
def ww_MO_copies : List Cond := .code y_MO_copies b_MO_copies 5 (some .int) :: zW
theorem kc_MO_copies : Cond.code y_MO_copies b_MO_copies 5 (some .int) ∈ zW := zin_3 (List.mem_of_getElem? (i := 96) rfl) rfl
abbrev b_MO_stored : ByteArray := prog_9_method_31_code
def y_MO_stored : MethodName := ⟨R_MO, "stored", "()I"⟩
def ww_MO_stored : List Cond := .code y_MO_stored b_MO_stored 5 (some .int) :: zW
theorem kc_MO_stored : Cond.code y_MO_stored b_MO_stored 5 (some .int) ∈ zW := zin_3 (List.mem_of_getElem? (i := 108) rfl) rfl
end
section
theorem s_OS_slotOf : Cond.selects R_OS y_OS_slotOf y_OS_slotOf ∈ zW := zin_0 (List.mem_of_getElem? (i := 0) rfl) rfl
theorem s_OS_countStaged : Cond.selects R_OS y_OS_countStaged y_OS_countStaged ∈ zW := zin_0 (List.mem_of_getElem? (i := 1) rfl) rfl
theorem s_OS_isRefused : Cond.selects R_OS y_OS_isRefused y_OS_isRefused ∈ zW := zin_0 (List.mem_of_getElem? (i := 2) rfl) rfl
theorem s_OS_isOutputOfAnother : Cond.selects R_OS y_OS_isOutputOfAnother y_OS_isOutputOfAnother ∈ zW := zin_0 (List.mem_of_getElem? (i := 3) rfl) rfl
theorem s_OS_targetAt : Cond.selects R_OS y_OS_targetAt y_OS_targetAt ∈ zW := zin_0 (List.mem_of_getElem? (i := 4) rfl) rfl
theorem s_OS_isStagedAgainst : Cond.selects R_OS y_OS_isStagedAgainst y_OS_isStagedAgainst ∈ zW := zin_0 (List.mem_of_getElem? (i := 5) rfl) rfl
theorem s_OS_replaceOutputs : Cond.selects R_OS y_OS_replaceOutputs y_OS_replaceOutputs ∈ zW := zin_0 (List.mem_of_getElem? (i := 6) rfl) rfl
theorem s_OS_dropStaged : Cond.selects R_OS y_OS_dropStaged y_OS_dropStaged ∈ zW := zin_0 (List.mem_of_getElem? (i := 7) rfl) rfl
theorem s_OS_storedAt : Cond.selects R_OS y_OS_storedAt y_OS_storedAt ∈ zW := zin_0 (List.mem_of_getElem? (i := 8) rfl) rfl
theorem s_MO_isPath : Cond.selects R_MO y_MO_isPath y_MO_isPath ∈ zW := zin_0 (List.mem_of_getElem? (i := 9) rfl) rfl
theorem s_MO_isOpenStep : Cond.selects R_MO y_MO_isOpenStep y_MO_isOpenStep ∈ zW := zin_0 (List.mem_of_getElem? (i := 10) rfl) rfl
theorem s_MO_placeOf : Cond.selects R_MO y_MO_placeOf y_MO_placeOf ∈ zW := zin_0 (List.mem_of_getElem? (i := 11) rfl) rfl
theorem s_MO_meetsOutput : Cond.selects R_MO y_MO_meetsOutput y_MO_meetsOutput ∈ zW := zin_0 (List.mem_of_getElem? (i := 12) rfl) rfl
theorem s_MO_meet : Cond.selects R_MO y_MO_meet y_MO_meet ∈ zW := zin_0 (List.mem_of_getElem? (i := 13) rfl) rfl
theorem s_MO_isWithin : Cond.selects R_MO y_MO_isWithin y_MO_isWithin ∈ zW := zin_0 (List.mem_of_getElem? (i := 14) rfl) rfl
theorem s_MO_meetsStaged : Cond.selects R_MO y_MO_meetsStaged y_MO_meetsStaged ∈ zW := zin_0 (List.mem_of_getElem? (i := 15) rfl) rfl
theorem s_MO_isCached : Cond.selects R_MO y_MO_isCached y_MO_isCached ∈ zW := zin_0 (List.mem_of_getElem? (i := 16) rfl) rfl
theorem s_MO_goOld : Cond.selects R_MO y_MO_goOld y_MO_goOld ∈ zW := zin_0 (List.mem_of_getElem? (i := 17) rfl) rfl
theorem s_MO_isOutput : Cond.selects R_MO y_MO_isOutput y_MO_isOutput ∈ zW := zin_0 (List.mem_of_getElem? (i := 18) rfl) rfl
theorem s_MO_gather : Cond.selects R_MO y_MO_gather y_MO_gather ∈ zW := zin_0 (List.mem_of_getElem? (i := 19) rfl) rfl
theorem s_MO_meets : Cond.selects R_MO y_MO_meets y_MO_meets ∈ zW := zin_0 (List.mem_of_getElem? (i := 20) rfl) rfl
theorem in_PT : ∀ w ∈ u_ws R_PT F_PT 2, w ∈ zW := by decide +kernel
theorem in_SB : ∀ w ∈ u_ws R_SB F_SB 5, w ∈ zW := by decide +kernel
theorem in_LT : ∀ w ∈ u_ws R_LT F_LT 4, w ∈ zW := by decide +kernel
theorem in_CS : ∀ w ∈ u_ws R_CS F_CS 2, w ∈ zW := by decide +kernel
theorem in_HB : ∀ w ∈ u_ws R_HB F_HB 2, w ∈ zW := by decide +kernel
theorem in_DM : ∀ w ∈ u_ws R_DM F_DM 1, w ∈ zW := by decide +kernel
theorem in_OS : ∀ w ∈ u_ws R_OS F_OS 8, w ∈ zW := by decide +kernel
theorem in_MO : ∀ w ∈ u_ws R_MO F_MO 24, w ∈ zW := by decide +kernel
theorem k_1_1 : Cond.initialized "OutputStore" ∈ zW := zin_1 (List.mem_of_getElem? (i := 1) rfl) rfl
theorem k_1_2 : Cond.initialized "OutputStore$PathTree" ∈ zW := zin_1 (List.mem_of_getElem? (i := 2) rfl) rfl
theorem k_1_3 : Cond.initialized "OutputStore$StepBook" ∈ zW := zin_1 (List.mem_of_getElem? (i := 3) rfl) rfl
theorem k_1_4 : Cond.initialized "OutputStore$LinkTable" ∈ zW := zin_1 (List.mem_of_getElem? (i := 4) rfl) rfl
theorem k_1_5 : Cond.initialized "OutputStore$CachedSet" ∈ zW := zin_1 (List.mem_of_getElem? (i := 5) rfl) rfl
theorem k_1_6 : Cond.initialized "OutputStore$HoldBook" ∈ zW := zin_1 (List.mem_of_getElem? (i := 6) rfl) rfl
theorem k_1_7 : Cond.initialized "OutputStore$DirtyMarks" ∈ zW := zin_1 (List.mem_of_getElem? (i := 7) rfl) rfl
theorem k_1_8 : Cond.initialized "OutputStoreModel" ∈ zW := zin_1 (List.mem_of_getElem? (i := 8) rfl) rfl
theorem k_1_14 : Cond.methodLink "OutputStore" 3 (⟨"java/lang/Object", "<init>", "()V"⟩ : MethodName) ∈ zW := zin_1 (List.mem_of_getElem? (i := 14) rfl) rfl
theorem k_1_15 : Cond.instanceMethod (⟨"java/lang/Object", "<init>", "()V"⟩ : MethodName) ∈ zW := zin_1 (List.mem_of_getElem? (i := 15) rfl) rfl
theorem k_1_16 : Cond.code (⟨"java/lang/Object", "<init>", "()V"⟩ : MethodName) object_method_1_code 1 (Option.none : Option Jvm.ClassFile.FieldType) ∈ zW := zin_1 (List.mem_of_getElem? (i := 16) rfl) rfl
theorem k_1_17 : Cond.classLink "OutputStore" 9 "OutputStore$PathTree" ∈ zW := zin_1 (List.mem_of_getElem? (i := 17) rfl) rfl
theorem k_1_18 : Cond.instantiable "OutputStore$PathTree" 2 ∈ zW := zin_1 (List.mem_of_getElem? (i := 18) rfl) rfl
theorem k_1_20 : Cond.instanceMethod (⟨"OutputStore$PathTree", "<init>", "()V"⟩ : MethodName) ∈ zW := zin_1 (List.mem_of_getElem? (i := 20) rfl) rfl
theorem k_1_22 : Cond.methodLink "OutputStore$PathTree" 3 (⟨"java/lang/Object", "<init>", "()V"⟩ : MethodName) ∈ zW := zin_1 (List.mem_of_getElem? (i := 22) rfl) rfl
theorem k_1_23 : Cond.fieldLink "OutputStore$PathTree" 9 "OutputStore$PathTree" "outer" "[I" ∈ zW := zin_1 (List.mem_of_getElem? (i := 23) rfl) rfl
theorem k_1_24 : Cond.fieldLink "OutputStore$PathTree" 15 "OutputStore$PathTree" "count" "I" ∈ zW := zin_1 (List.mem_of_getElem? (i := 24) rfl) rfl
theorem k_1_30 : Cond.arrayClass Jvm.ClassFile.FieldType.int ∈ zW := zin_1 (List.mem_of_getElem? (i := 30) rfl) rfl
theorem k_1_31 : Cond.classLink "OutputStore" 16 "OutputStore$StepBook" ∈ zW := zin_1 (List.mem_of_getElem? (i := 31) rfl) rfl
theorem k_1_32 : Cond.instantiable "OutputStore$StepBook" 5 ∈ zW := zin_1 (List.mem_of_getElem? (i := 32) rfl) rfl
theorem k_1_34 : Cond.instanceMethod (⟨"OutputStore$StepBook", "<init>", "()V"⟩ : MethodName) ∈ zW := zin_1 (List.mem_of_getElem? (i := 34) rfl) rfl
theorem k_1_36 : Cond.methodLink "OutputStore$StepBook" 3 (⟨"java/lang/Object", "<init>", "()V"⟩ : MethodName) ∈ zW := zin_1 (List.mem_of_getElem? (i := 36) rfl) rfl
theorem k_1_37 : Cond.fieldLink "OutputStore$StepBook" 9 "OutputStore$StepBook" "targets" "[I" ∈ zW := zin_1 (List.mem_of_getElem? (i := 37) rfl) rfl
theorem k_1_38 : Cond.fieldLink "OutputStore$StepBook" 15 "OutputStore$StepBook" "configurations" "[I" ∈ zW := zin_1 (List.mem_of_getElem? (i := 38) rfl) rfl
theorem k_1_39 : Cond.fieldLink "OutputStore$StepBook" 18 "OutputStore$StepBook" "runs" "[I" ∈ zW := zin_1 (List.mem_of_getElem? (i := 39) rfl) rfl
theorem k_1_40 : Cond.fieldLink "OutputStore$StepBook" 21 "OutputStore$StepBook" "opened" "[Z" ∈ zW := zin_1 (List.mem_of_getElem? (i := 40) rfl) rfl
theorem k_1_41 : Cond.fieldLink "OutputStore$StepBook" 25 "OutputStore$StepBook" "count" "I" ∈ zW := zin_1 (List.mem_of_getElem? (i := 41) rfl) rfl
theorem k_1_53 : Cond.arrayClass Jvm.ClassFile.FieldType.boolean ∈ zW := zin_1 (List.mem_of_getElem? (i := 53) rfl) rfl
theorem k_1_54 : Cond.classLink "OutputStore" 23 "OutputStore$LinkTable" ∈ zW := zin_1 (List.mem_of_getElem? (i := 54) rfl) rfl
theorem k_1_55 : Cond.instantiable "OutputStore$LinkTable" 4 ∈ zW := zin_1 (List.mem_of_getElem? (i := 55) rfl) rfl
theorem k_1_57 : Cond.instanceMethod (⟨"OutputStore$LinkTable", "<init>", "()V"⟩ : MethodName) ∈ zW := zin_1 (List.mem_of_getElem? (i := 57) rfl) rfl
theorem k_1_59 : Cond.methodLink "OutputStore$LinkTable" 3 (⟨"java/lang/Object", "<init>", "()V"⟩ : MethodName) ∈ zW := zin_1 (List.mem_of_getElem? (i := 59) rfl) rfl
theorem k_1_60 : Cond.fieldLink "OutputStore$LinkTable" 9 "OutputStore$LinkTable" "contents" "[J" ∈ zW := zin_1 (List.mem_of_getElem? (i := 60) rfl) rfl
theorem k_1_61 : Cond.fieldLink "OutputStore$LinkTable" 15 "OutputStore$LinkTable" "makers" "[I" ∈ zW := zin_1 (List.mem_of_getElem? (i := 61) rfl) rfl
theorem k_1_62 : Cond.fieldLink "OutputStore$LinkTable" 19 "OutputStore$LinkTable" "executables" "[Z" ∈ zW := zin_1 (List.mem_of_getElem? (i := 62) rfl) rfl
theorem k_1_63 : Cond.fieldLink "OutputStore$LinkTable" 23 "OutputStore$LinkTable" "lazies" "[Z" ∈ zW := zin_1 (List.mem_of_getElem? (i := 63) rfl) rfl
theorem k_1_73 : Cond.arrayClass Jvm.ClassFile.FieldType.long ∈ zW := zin_1 (List.mem_of_getElem? (i := 73) rfl) rfl
theorem k_1_74 : Cond.classLink "OutputStore" 33 "OutputStore$CachedSet" ∈ zW := zin_1 (List.mem_of_getElem? (i := 74) rfl) rfl
theorem k_1_75 : Cond.instantiable "OutputStore$CachedSet" 2 ∈ zW := zin_1 (List.mem_of_getElem? (i := 75) rfl) rfl
theorem k_1_77 : Cond.instanceMethod (⟨"OutputStore$CachedSet", "<init>", "()V"⟩ : MethodName) ∈ zW := zin_1 (List.mem_of_getElem? (i := 77) rfl) rfl
theorem k_1_79 : Cond.methodLink "OutputStore$CachedSet" 3 (⟨"java/lang/Object", "<init>", "()V"⟩ : MethodName) ∈ zW := zin_1 (List.mem_of_getElem? (i := 79) rfl) rfl
theorem k_1_80 : Cond.fieldLink "OutputStore$CachedSet" 9 "OutputStore$CachedSet" "contents" "[J" ∈ zW := zin_1 (List.mem_of_getElem? (i := 80) rfl) rfl
theorem k_1_81 : Cond.fieldLink "OutputStore$CachedSet" 15 "OutputStore$CachedSet" "count" "I" ∈ zW := zin_1 (List.mem_of_getElem? (i := 81) rfl) rfl
theorem k_1_87 : Cond.classLink "OutputStore" 40 "OutputStore$HoldBook" ∈ zW := zin_1 (List.mem_of_getElem? (i := 87) rfl) rfl
theorem k_1_88 : Cond.instantiable "OutputStore$HoldBook" 2 ∈ zW := zin_1 (List.mem_of_getElem? (i := 88) rfl) rfl
theorem k_1_90 : Cond.instanceMethod (⟨"OutputStore$HoldBook", "<init>", "()V"⟩ : MethodName) ∈ zW := zin_1 (List.mem_of_getElem? (i := 90) rfl) rfl
theorem k_1_92 : Cond.methodLink "OutputStore$HoldBook" 3 (⟨"java/lang/Object", "<init>", "()V"⟩ : MethodName) ∈ zW := zin_1 (List.mem_of_getElem? (i := 92) rfl) rfl
theorem k_1_93 : Cond.fieldLink "OutputStore$HoldBook" 9 "OutputStore$HoldBook" "contents" "[J" ∈ zW := zin_1 (List.mem_of_getElem? (i := 93) rfl) rfl
theorem k_1_94 : Cond.fieldLink "OutputStore$HoldBook" 15 "OutputStore$HoldBook" "count" "I" ∈ zW := zin_1 (List.mem_of_getElem? (i := 94) rfl) rfl
theorem k_1_100 : Cond.classLink "OutputStore" 47 "OutputStore$DirtyMarks" ∈ zW := zin_1 (List.mem_of_getElem? (i := 100) rfl) rfl
theorem k_1_101 : Cond.instantiable "OutputStore$DirtyMarks" 1 ∈ zW := zin_1 (List.mem_of_getElem? (i := 101) rfl) rfl
theorem k_1_103 : Cond.instanceMethod (⟨"OutputStore$DirtyMarks", "<init>", "()V"⟩ : MethodName) ∈ zW := zin_1 (List.mem_of_getElem? (i := 103) rfl) rfl
theorem k_1_105 : Cond.methodLink "OutputStore$DirtyMarks" 3 (⟨"java/lang/Object", "<init>", "()V"⟩ : MethodName) ∈ zW := zin_1 (List.mem_of_getElem? (i := 105) rfl) rfl
theorem k_1_106 : Cond.fieldLink "OutputStore$DirtyMarks" 9 "OutputStore$DirtyMarks" "marks" "[Z" ∈ zW := zin_1 (List.mem_of_getElem? (i := 106) rfl) rfl
theorem k_1_110 : Cond.fieldLink "OutputStore" 12 "OutputStore" "paths" "LOutputStore$PathTree;" ∈ zW := zin_1 (List.mem_of_getElem? (i := 110) rfl) rfl
theorem k_1_111 : Cond.fieldLink "OutputStore" 19 "OutputStore" "steps" "LOutputStore$StepBook;" ∈ zW := zin_1 (List.mem_of_getElem? (i := 111) rfl) rfl
theorem k_1_112 : Cond.fieldLink "OutputStore" 26 "OutputStore" "outputs" "LOutputStore$LinkTable;" ∈ zW := zin_1 (List.mem_of_getElem? (i := 112) rfl) rfl
theorem k_1_113 : Cond.fieldLink "OutputStore" 30 "OutputStore" "staged" "LOutputStore$LinkTable;" ∈ zW := zin_1 (List.mem_of_getElem? (i := 113) rfl) rfl
theorem k_1_114 : Cond.fieldLink "OutputStore" 36 "OutputStore" "cached" "LOutputStore$CachedSet;" ∈ zW := zin_1 (List.mem_of_getElem? (i := 114) rfl) rfl
theorem k_1_115 : Cond.fieldLink "OutputStore" 43 "OutputStore" "holds" "LOutputStore$HoldBook;" ∈ zW := zin_1 (List.mem_of_getElem? (i := 115) rfl) rfl
theorem k_1_116 : Cond.fieldLink "OutputStore" 50 "OutputStore" "dirtyMarks" "LOutputStore$DirtyMarks;" ∈ zW := zin_1 (List.mem_of_getElem? (i := 116) rfl) rfl
theorem k_1_117 : Cond.fieldLink "OutputStore" 54 "OutputStore" "different" "[J" ∈ zW := zin_1 (List.mem_of_getElem? (i := 117) rfl) rfl
theorem k_1_139 : Cond.methodLink "OutputStore" 58 (⟨"OutputStore$PathTree", "grow", "(I)I"⟩ : MethodName) ∈ zW := zin_1 (List.mem_of_getElem? (i := 139) rfl) rfl
theorem k_1_140 : Cond.instanceMethod (⟨"OutputStore$PathTree", "grow", "(I)I"⟩ : MethodName) ∈ zW := zin_1 (List.mem_of_getElem? (i := 140) rfl) rfl
theorem k_1_141 : Cond.selects "OutputStore$PathTree" (⟨"OutputStore$PathTree", "grow", "(I)I"⟩ : MethodName) (⟨"OutputStore$PathTree", "grow", "(I)I"⟩ : MethodName) ∈ zW := zin_1 (List.mem_of_getElem? (i := 141) rfl) rfl
theorem k_1_143 : Cond.methodLink "OutputStore$PathTree" 19 (⟨"OutputStore$PathTree", "has", "(I)Z"⟩ : MethodName) ∈ zW := zin_1 (List.mem_of_getElem? (i := 143) rfl) rfl
theorem k_1_144 : Cond.instanceMethod (⟨"OutputStore$PathTree", "has", "(I)Z"⟩ : MethodName) ∈ zW := zin_1 (List.mem_of_getElem? (i := 144) rfl) rfl
theorem k_1_145 : Cond.selects "OutputStore$PathTree" (⟨"OutputStore$PathTree", "has", "(I)Z"⟩ : MethodName) (⟨"OutputStore$PathTree", "has", "(I)Z"⟩ : MethodName) ∈ zW := zin_1 (List.mem_of_getElem? (i := 145) rfl) rfl
theorem k_1_151 : Cond.methodLink "OutputStore" 62 (⟨"OutputStore", "isTarget", "(I)Z"⟩ : MethodName) ∈ zW := zin_1 (List.mem_of_getElem? (i := 151) rfl) rfl
theorem k_1_152 : Cond.static (⟨"OutputStore", "isTarget", "(I)Z"⟩ : MethodName) ∈ zW := zin_1 (List.mem_of_getElem? (i := 152) rfl) rfl
theorem k_1_154 : Cond.methodLink "OutputStore" 66 (⟨"OutputStore", "isConfiguration", "(I)Z"⟩ : MethodName) ∈ zW := zin_1 (List.mem_of_getElem? (i := 154) rfl) rfl
theorem k_1_155 : Cond.static (⟨"OutputStore", "isConfiguration", "(I)Z"⟩ : MethodName) ∈ zW := zin_1 (List.mem_of_getElem? (i := 155) rfl) rfl
theorem k_1_157 : Cond.methodLink "OutputStore" 69 (⟨"OutputStore", "isRun", "(I)Z"⟩ : MethodName) ∈ zW := zin_1 (List.mem_of_getElem? (i := 157) rfl) rfl
theorem k_1_158 : Cond.static (⟨"OutputStore", "isRun", "(I)Z"⟩ : MethodName) ∈ zW := zin_1 (List.mem_of_getElem? (i := 158) rfl) rfl
theorem k_1_160 : Cond.methodLink "OutputStore" 72 (⟨"OutputStore$StepBook", "isFull", "()Z"⟩ : MethodName) ∈ zW := zin_1 (List.mem_of_getElem? (i := 160) rfl) rfl
theorem k_1_161 : Cond.instanceMethod (⟨"OutputStore$StepBook", "isFull", "()Z"⟩ : MethodName) ∈ zW := zin_1 (List.mem_of_getElem? (i := 161) rfl) rfl
theorem k_1_162 : Cond.selects "OutputStore$StepBook" (⟨"OutputStore$StepBook", "isFull", "()Z"⟩ : MethodName) (⟨"OutputStore$StepBook", "isFull", "()Z"⟩ : MethodName) ∈ zW := zin_1 (List.mem_of_getElem? (i := 162) rfl) rfl
theorem k_1_164 : Cond.methodLink "OutputStore" 76 (⟨"OutputStore$StepBook", "hasOpenOne", "(II)Z"⟩ : MethodName) ∈ zW := zin_1 (List.mem_of_getElem? (i := 164) rfl) rfl
theorem k_1_165 : Cond.instanceMethod (⟨"OutputStore$StepBook", "hasOpenOne", "(II)Z"⟩ : MethodName) ∈ zW := zin_1 (List.mem_of_getElem? (i := 165) rfl) rfl
theorem k_1_166 : Cond.selects "OutputStore$StepBook" (⟨"OutputStore$StepBook", "hasOpenOne", "(II)Z"⟩ : MethodName) (⟨"OutputStore$StepBook", "hasOpenOne", "(II)Z"⟩ : MethodName) ∈ zW := zin_1 (List.mem_of_getElem? (i := 166) rfl) rfl
theorem k_1_168 : Cond.methodLink "OutputStore$StepBook" 37 (⟨"OutputStore$StepBook", "isOpen", "(I)Z"⟩ : MethodName) ∈ zW := zin_1 (List.mem_of_getElem? (i := 168) rfl) rfl
theorem k_1_169 : Cond.instanceMethod (⟨"OutputStore$StepBook", "isOpen", "(I)Z"⟩ : MethodName) ∈ zW := zin_1 (List.mem_of_getElem? (i := 169) rfl) rfl
theorem k_1_170 : Cond.selects "OutputStore$StepBook" (⟨"OutputStore$StepBook", "isOpen", "(I)Z"⟩ : MethodName) (⟨"OutputStore$StepBook", "isOpen", "(I)Z"⟩ : MethodName) ∈ zW := zin_1 (List.mem_of_getElem? (i := 170) rfl) rfl
theorem k_1_172 : Cond.methodLink "OutputStore$StepBook" 29 (⟨"OutputStore$StepBook", "has", "(I)Z"⟩ : MethodName) ∈ zW := zin_1 (List.mem_of_getElem? (i := 172) rfl) rfl
theorem k_1_173 : Cond.instanceMethod (⟨"OutputStore$StepBook", "has", "(I)Z"⟩ : MethodName) ∈ zW := zin_1 (List.mem_of_getElem? (i := 173) rfl) rfl
theorem k_1_174 : Cond.selects "OutputStore$StepBook" (⟨"OutputStore$StepBook", "has", "(I)Z"⟩ : MethodName) (⟨"OutputStore$StepBook", "has", "(I)Z"⟩ : MethodName) ∈ zW := zin_1 (List.mem_of_getElem? (i := 174) rfl) rfl
theorem k_1_176 : Cond.methodLink "OutputStore" 80 (⟨"OutputStore$StepBook", "open", "(III)I"⟩ : MethodName) ∈ zW := zin_1 (List.mem_of_getElem? (i := 176) rfl) rfl
theorem k_1_177 : Cond.instanceMethod (⟨"OutputStore$StepBook", "open", "(III)I"⟩ : MethodName) ∈ zW := zin_1 (List.mem_of_getElem? (i := 177) rfl) rfl
theorem k_1_178 : Cond.selects "OutputStore$StepBook" (⟨"OutputStore$StepBook", "open", "(III)I"⟩ : MethodName) (⟨"OutputStore$StepBook", "open", "(III)I"⟩ : MethodName) ∈ zW := zin_1 (List.mem_of_getElem? (i := 178) rfl) rfl
theorem k_1_180 : Cond.methodLink "OutputStore$StepBook" 33 (⟨"OutputStore$StepBook", "isFull", "()Z"⟩ : MethodName) ∈ zW := zin_1 (List.mem_of_getElem? (i := 180) rfl) rfl
theorem k_1_185 : Cond.methodLink "OutputStore" 84 (⟨"OutputStore$StepBook", "isOpen", "(I)Z"⟩ : MethodName) ∈ zW := zin_1 (List.mem_of_getElem? (i := 185) rfl) rfl
theorem k_1_186 : Cond.methodLink "OutputStore" 87 (⟨"OutputStore$PathTree", "has", "(I)Z"⟩ : MethodName) ∈ zW := zin_1 (List.mem_of_getElem? (i := 186) rfl) rfl
theorem k_1_187 : Cond.methodLink "OutputStore" 90 (⟨"OutputStore$StepBook", "configurationOf", "(I)I"⟩ : MethodName) ∈ zW := zin_1 (List.mem_of_getElem? (i := 187) rfl) rfl
theorem k_1_188 : Cond.instanceMethod (⟨"OutputStore$StepBook", "configurationOf", "(I)I"⟩ : MethodName) ∈ zW := zin_1 (List.mem_of_getElem? (i := 188) rfl) rfl
theorem k_1_189 : Cond.selects "OutputStore$StepBook" (⟨"OutputStore$StepBook", "configurationOf", "(I)I"⟩ : MethodName) (⟨"OutputStore$StepBook", "configurationOf", "(I)I"⟩ : MethodName) ∈ zW := zin_1 (List.mem_of_getElem? (i := 189) rfl) rfl
theorem k_1_191 : Cond.methodLink "OutputStore" 93 (⟨"OutputStore", "slotOf", "(II)I"⟩ : MethodName) ∈ zW := zin_1 (List.mem_of_getElem? (i := 191) rfl) rfl
theorem k_1_193 : Cond.instanceMethod (⟨"OutputStore", "slotOf", "(II)I"⟩ : MethodName) ∈ zW := zin_1 (List.mem_of_getElem? (i := 193) rfl) rfl
theorem k_1_195 : Cond.methodLink "OutputStore" 97 (⟨"OutputStore$LinkTable", "isOfStep", "(II)Z"⟩ : MethodName) ∈ zW := zin_1 (List.mem_of_getElem? (i := 195) rfl) rfl
theorem k_1_196 : Cond.instanceMethod (⟨"OutputStore$LinkTable", "isOfStep", "(II)Z"⟩ : MethodName) ∈ zW := zin_1 (List.mem_of_getElem? (i := 196) rfl) rfl
theorem k_1_197 : Cond.selects "OutputStore$LinkTable" (⟨"OutputStore$LinkTable", "isOfStep", "(II)Z"⟩ : MethodName) (⟨"OutputStore$LinkTable", "isOfStep", "(II)Z"⟩ : MethodName) ∈ zW := zin_1 (List.mem_of_getElem? (i := 197) rfl) rfl
theorem k_1_199 : Cond.methodLink "OutputStore$LinkTable" 26 (⟨"OutputStore$LinkTable", "has", "(I)Z"⟩ : MethodName) ∈ zW := zin_1 (List.mem_of_getElem? (i := 199) rfl) rfl
theorem k_1_200 : Cond.instanceMethod (⟨"OutputStore$LinkTable", "has", "(I)Z"⟩ : MethodName) ∈ zW := zin_1 (List.mem_of_getElem? (i := 200) rfl) rfl
theorem k_1_201 : Cond.selects "OutputStore$LinkTable" (⟨"OutputStore$LinkTable", "has", "(I)Z"⟩ : MethodName) (⟨"OutputStore$LinkTable", "has", "(I)Z"⟩ : MethodName) ∈ zW := zin_1 (List.mem_of_getElem? (i := 201) rfl) rfl
theorem k_1_203 : Cond.methodLink "OutputStore" 100 (⟨"OutputStore", "countStaged", "(I)I"⟩ : MethodName) ∈ zW := zin_1 (List.mem_of_getElem? (i := 203) rfl) rfl
theorem k_1_205 : Cond.instanceMethod (⟨"OutputStore", "countStaged", "(I)I"⟩ : MethodName) ∈ zW := zin_1 (List.mem_of_getElem? (i := 205) rfl) rfl
theorem k_1_207 : Cond.methodLink "OutputStore" 103 (⟨"OutputStore", "isRefused", "(II)Z"⟩ : MethodName) ∈ zW := zin_1 (List.mem_of_getElem? (i := 207) rfl) rfl
theorem k_1_209 : Cond.instanceMethod (⟨"OutputStore", "isRefused", "(II)Z"⟩ : MethodName) ∈ zW := zin_1 (List.mem_of_getElem? (i := 209) rfl) rfl
theorem k_1_211 : Cond.methodLink "OutputStore" 190 (⟨"OutputStore", "isOutputOfAnother", "(II)Z"⟩ : MethodName) ∈ zW := zin_1 (List.mem_of_getElem? (i := 211) rfl) rfl
theorem k_1_213 : Cond.instanceMethod (⟨"OutputStore", "isOutputOfAnother", "(II)Z"⟩ : MethodName) ∈ zW := zin_1 (List.mem_of_getElem? (i := 213) rfl) rfl
theorem k_1_215 : Cond.methodLink "OutputStore" 134 (⟨"OutputStore$LinkTable", "has", "(I)Z"⟩ : MethodName) ∈ zW := zin_1 (List.mem_of_getElem? (i := 215) rfl) rfl
theorem k_1_216 : Cond.methodLink "OutputStore" 142 (⟨"OutputStore", "targetAt", "(I)I"⟩ : MethodName) ∈ zW := zin_1 (List.mem_of_getElem? (i := 216) rfl) rfl
theorem k_1_218 : Cond.instanceMethod (⟨"OutputStore", "targetAt", "(I)I"⟩ : MethodName) ∈ zW := zin_1 (List.mem_of_getElem? (i := 218) rfl) rfl
theorem k_1_220 : Cond.methodLink "OutputStore" 168 (⟨"OutputStore$LinkTable", "stepAt", "(I)I"⟩ : MethodName) ∈ zW := zin_1 (List.mem_of_getElem? (i := 220) rfl) rfl
theorem k_1_221 : Cond.instanceMethod (⟨"OutputStore$LinkTable", "stepAt", "(I)I"⟩ : MethodName) ∈ zW := zin_1 (List.mem_of_getElem? (i := 221) rfl) rfl
theorem k_1_222 : Cond.selects "OutputStore$LinkTable" (⟨"OutputStore$LinkTable", "stepAt", "(I)I"⟩ : MethodName) (⟨"OutputStore$LinkTable", "stepAt", "(I)I"⟩ : MethodName) ∈ zW := zin_1 (List.mem_of_getElem? (i := 222) rfl) rfl
theorem k_1_224 : Cond.methodLink "OutputStore" 200 (⟨"OutputStore$StepBook", "targetOf", "(I)I"⟩ : MethodName) ∈ zW := zin_1 (List.mem_of_getElem? (i := 224) rfl) rfl
theorem k_1_225 : Cond.instanceMethod (⟨"OutputStore$StepBook", "targetOf", "(I)I"⟩ : MethodName) ∈ zW := zin_1 (List.mem_of_getElem? (i := 225) rfl) rfl
theorem k_1_226 : Cond.selects "OutputStore$StepBook" (⟨"OutputStore$StepBook", "targetOf", "(I)I"⟩ : MethodName) (⟨"OutputStore$StepBook", "targetOf", "(I)I"⟩ : MethodName) ∈ zW := zin_1 (List.mem_of_getElem? (i := 226) rfl) rfl
theorem k_1_228 : Cond.methodLink "OutputStore" 193 (⟨"OutputStore", "isStagedAgainst", "(IIZ)Z"⟩ : MethodName) ∈ zW := zin_1 (List.mem_of_getElem? (i := 228) rfl) rfl
theorem k_1_230 : Cond.instanceMethod (⟨"OutputStore", "isStagedAgainst", "(IIZ)Z"⟩ : MethodName) ∈ zW := zin_1 (List.mem_of_getElem? (i := 230) rfl) rfl
theorem k_1_232 : Cond.methodLink "OutputStore" 197 (⟨"OutputStore$PathTree", "meet", "(II)Z"⟩ : MethodName) ∈ zW := zin_1 (List.mem_of_getElem? (i := 232) rfl) rfl
theorem k_1_233 : Cond.instanceMethod (⟨"OutputStore$PathTree", "meet", "(II)Z"⟩ : MethodName) ∈ zW := zin_1 (List.mem_of_getElem? (i := 233) rfl) rfl
theorem k_1_234 : Cond.selects "OutputStore$PathTree" (⟨"OutputStore$PathTree", "meet", "(II)Z"⟩ : MethodName) (⟨"OutputStore$PathTree", "meet", "(II)Z"⟩ : MethodName) ∈ zW := zin_1 (List.mem_of_getElem? (i := 234) rfl) rfl
theorem k_1_236 : Cond.methodLink "OutputStore$PathTree" 23 (⟨"OutputStore$PathTree", "isAtOrWithin", "(II)Z"⟩ : MethodName) ∈ zW := zin_1 (List.mem_of_getElem? (i := 236) rfl) rfl
theorem k_1_237 : Cond.instanceMethod (⟨"OutputStore$PathTree", "isAtOrWithin", "(II)Z"⟩ : MethodName) ∈ zW := zin_1 (List.mem_of_getElem? (i := 237) rfl) rfl
theorem k_1_238 : Cond.selects "OutputStore$PathTree" (⟨"OutputStore$PathTree", "isAtOrWithin", "(II)Z"⟩ : MethodName) (⟨"OutputStore$PathTree", "isAtOrWithin", "(II)Z"⟩ : MethodName) ∈ zW := zin_1 (List.mem_of_getElem? (i := 238) rfl) rfl
theorem k_2_0 : Cond.methodLink "OutputStore" 106 (⟨"OutputStore$CachedSet", "has", "(J)Z"⟩ : MethodName) ∈ zW := zin_2 (List.mem_of_getElem? (i := 0) rfl) rfl
theorem k_2_1 : Cond.instanceMethod (⟨"OutputStore$CachedSet", "has", "(J)Z"⟩ : MethodName) ∈ zW := zin_2 (List.mem_of_getElem? (i := 1) rfl) rfl
theorem k_2_2 : Cond.selects "OutputStore$CachedSet" (⟨"OutputStore$CachedSet", "has", "(J)Z"⟩ : MethodName) (⟨"OutputStore$CachedSet", "has", "(J)Z"⟩ : MethodName) ∈ zW := zin_2 (List.mem_of_getElem? (i := 2) rfl) rfl
theorem k_2_5 : Cond.static (⟨"OutputStore", "find", "([JIJ)I"⟩ : MethodName) ∈ zW := zin_2 (List.mem_of_getElem? (i := 5) rfl) rfl
theorem k_2_7 : Cond.methodLink "OutputStore" 109 (⟨"OutputStore$LinkTable", "put", "(IIJZZ)V"⟩ : MethodName) ∈ zW := zin_2 (List.mem_of_getElem? (i := 7) rfl) rfl
theorem k_2_8 : Cond.instanceMethod (⟨"OutputStore$LinkTable", "put", "(IIJZZ)V"⟩ : MethodName) ∈ zW := zin_2 (List.mem_of_getElem? (i := 8) rfl) rfl
theorem k_2_9 : Cond.selects "OutputStore$LinkTable" (⟨"OutputStore$LinkTable", "put", "(IIJZZ)V"⟩ : MethodName) (⟨"OutputStore$LinkTable", "put", "(IIJZZ)V"⟩ : MethodName) ∈ zW := zin_2 (List.mem_of_getElem? (i := 9) rfl) rfl
theorem k_2_15 : Cond.methodLink "OutputStore" 113 (⟨"OutputStore", "replaceOutputs", "(I)I"⟩ : MethodName) ∈ zW := zin_2 (List.mem_of_getElem? (i := 15) rfl) rfl
theorem k_2_17 : Cond.instanceMethod (⟨"OutputStore", "replaceOutputs", "(I)I"⟩ : MethodName) ∈ zW := zin_2 (List.mem_of_getElem? (i := 17) rfl) rfl
theorem k_2_19 : Cond.methodLink "OutputStore" 135 (⟨"OutputStore$LinkTable", "contentAt", "(I)J"⟩ : MethodName) ∈ zW := zin_2 (List.mem_of_getElem? (i := 19) rfl) rfl
theorem k_2_20 : Cond.instanceMethod (⟨"OutputStore$LinkTable", "contentAt", "(I)J"⟩ : MethodName) ∈ zW := zin_2 (List.mem_of_getElem? (i := 20) rfl) rfl
theorem k_2_21 : Cond.selects "OutputStore$LinkTable" (⟨"OutputStore$LinkTable", "contentAt", "(I)J"⟩ : MethodName) (⟨"OutputStore$LinkTable", "contentAt", "(I)J"⟩ : MethodName) ∈ zW := zin_2 (List.mem_of_getElem? (i := 21) rfl) rfl
theorem k_2_23 : Cond.methodLink "OutputStore" 165 (⟨"OutputStore$LinkTable", "isExecutable", "(I)Z"⟩ : MethodName) ∈ zW := zin_2 (List.mem_of_getElem? (i := 23) rfl) rfl
theorem k_2_24 : Cond.instanceMethod (⟨"OutputStore$LinkTable", "isExecutable", "(I)Z"⟩ : MethodName) ∈ zW := zin_2 (List.mem_of_getElem? (i := 24) rfl) rfl
theorem k_2_25 : Cond.selects "OutputStore$LinkTable" (⟨"OutputStore$LinkTable", "isExecutable", "(I)Z"⟩ : MethodName) (⟨"OutputStore$LinkTable", "isExecutable", "(I)Z"⟩ : MethodName) ∈ zW := zin_2 (List.mem_of_getElem? (i := 25) rfl) rfl
theorem k_2_27 : Cond.methodLink "OutputStore" 139 (⟨"OutputStore$LinkTable", "isLazy", "(I)Z"⟩ : MethodName) ∈ zW := zin_2 (List.mem_of_getElem? (i := 27) rfl) rfl
theorem k_2_28 : Cond.instanceMethod (⟨"OutputStore$LinkTable", "isLazy", "(I)Z"⟩ : MethodName) ∈ zW := zin_2 (List.mem_of_getElem? (i := 28) rfl) rfl
theorem k_2_29 : Cond.selects "OutputStore$LinkTable" (⟨"OutputStore$LinkTable", "isLazy", "(I)Z"⟩ : MethodName) (⟨"OutputStore$LinkTable", "isLazy", "(I)Z"⟩ : MethodName) ∈ zW := zin_2 (List.mem_of_getElem? (i := 29) rfl) rfl
theorem k_2_31 : Cond.methodLink "OutputStore" 149 (⟨"OutputStore$LinkTable", "drop", "(I)V"⟩ : MethodName) ∈ zW := zin_2 (List.mem_of_getElem? (i := 31) rfl) rfl
theorem k_2_32 : Cond.instanceMethod (⟨"OutputStore$LinkTable", "drop", "(I)V"⟩ : MethodName) ∈ zW := zin_2 (List.mem_of_getElem? (i := 32) rfl) rfl
theorem k_2_33 : Cond.selects "OutputStore$LinkTable" (⟨"OutputStore$LinkTable", "drop", "(I)V"⟩ : MethodName) (⟨"OutputStore$LinkTable", "drop", "(I)V"⟩ : MethodName) ∈ zW := zin_2 (List.mem_of_getElem? (i := 33) rfl) rfl
theorem k_2_35 : Cond.methodLink "OutputStore" 145 (⟨"OutputStore$DirtyMarks", "set", "(IIZ)V"⟩ : MethodName) ∈ zW := zin_2 (List.mem_of_getElem? (i := 35) rfl) rfl
theorem k_2_36 : Cond.instanceMethod (⟨"OutputStore$DirtyMarks", "set", "(IIZ)V"⟩ : MethodName) ∈ zW := zin_2 (List.mem_of_getElem? (i := 36) rfl) rfl
theorem k_2_37 : Cond.selects "OutputStore$DirtyMarks" (⟨"OutputStore$DirtyMarks", "set", "(IIZ)V"⟩ : MethodName) (⟨"OutputStore$DirtyMarks", "set", "(IIZ)V"⟩ : MethodName) ∈ zW := zin_2 (List.mem_of_getElem? (i := 37) rfl) rfl
theorem k_2_41 : Cond.methodLink "OutputStore" 116 (⟨"OutputStore", "dropStaged", "(I)V"⟩ : MethodName) ∈ zW := zin_2 (List.mem_of_getElem? (i := 41) rfl) rfl
theorem k_2_43 : Cond.instanceMethod (⟨"OutputStore", "dropStaged", "(I)V"⟩ : MethodName) ∈ zW := zin_2 (List.mem_of_getElem? (i := 43) rfl) rfl
theorem k_2_45 : Cond.methodLink "OutputStore" 120 (⟨"OutputStore$StepBook", "close", "(I)V"⟩ : MethodName) ∈ zW := zin_2 (List.mem_of_getElem? (i := 45) rfl) rfl
theorem k_2_46 : Cond.instanceMethod (⟨"OutputStore$StepBook", "close", "(I)V"⟩ : MethodName) ∈ zW := zin_2 (List.mem_of_getElem? (i := 46) rfl) rfl
theorem k_2_47 : Cond.selects "OutputStore$StepBook" (⟨"OutputStore$StepBook", "close", "(I)V"⟩ : MethodName) (⟨"OutputStore$StepBook", "close", "(I)V"⟩ : MethodName) ∈ zW := zin_2 (List.mem_of_getElem? (i := 47) rfl) rfl
theorem k_2_53 : Cond.methodLink "OutputStore" 123 (⟨"OutputStore$StepBook", "runOf", "(I)I"⟩ : MethodName) ∈ zW := zin_2 (List.mem_of_getElem? (i := 53) rfl) rfl
theorem k_2_54 : Cond.instanceMethod (⟨"OutputStore$StepBook", "runOf", "(I)I"⟩ : MethodName) ∈ zW := zin_2 (List.mem_of_getElem? (i := 54) rfl) rfl
theorem k_2_55 : Cond.selects "OutputStore$StepBook" (⟨"OutputStore$StepBook", "runOf", "(I)I"⟩ : MethodName) (⟨"OutputStore$StepBook", "runOf", "(I)I"⟩ : MethodName) ∈ zW := zin_2 (List.mem_of_getElem? (i := 55) rfl) rfl
theorem k_2_61 : Cond.methodLink "OutputStore" 126 (⟨"OutputStore$CachedSet", "include", "(J)Z"⟩ : MethodName) ∈ zW := zin_2 (List.mem_of_getElem? (i := 61) rfl) rfl
theorem k_2_62 : Cond.instanceMethod (⟨"OutputStore$CachedSet", "include", "(J)Z"⟩ : MethodName) ∈ zW := zin_2 (List.mem_of_getElem? (i := 62) rfl) rfl
theorem k_2_63 : Cond.selects "OutputStore$CachedSet" (⟨"OutputStore$CachedSet", "include", "(J)Z"⟩ : MethodName) (⟨"OutputStore$CachedSet", "include", "(J)Z"⟩ : MethodName) ∈ zW := zin_2 (List.mem_of_getElem? (i := 63) rfl) rfl
theorem k_2_65 : Cond.methodLink "OutputStore$CachedSet" 23 (⟨"OutputStore$CachedSet", "has", "(J)Z"⟩ : MethodName) ∈ zW := zin_2 (List.mem_of_getElem? (i := 65) rfl) rfl
theorem k_2_66 : Cond.methodLink "OutputStore" 129 (⟨"OutputStore$CachedSet", "exclude", "(J)V"⟩ : MethodName) ∈ zW := zin_2 (List.mem_of_getElem? (i := 66) rfl) rfl
theorem k_2_67 : Cond.instanceMethod (⟨"OutputStore$CachedSet", "exclude", "(J)V"⟩ : MethodName) ∈ zW := zin_2 (List.mem_of_getElem? (i := 67) rfl) rfl
theorem k_2_68 : Cond.selects "OutputStore$CachedSet" (⟨"OutputStore$CachedSet", "exclude", "(J)V"⟩ : MethodName) (⟨"OutputStore$CachedSet", "exclude", "(J)V"⟩ : MethodName) ∈ zW := zin_2 (List.mem_of_getElem? (i := 68) rfl) rfl
theorem k_2_74 : Cond.methodLink "OutputStore" 133 (⟨"OutputStore$HoldBook", "isFull", "()Z"⟩ : MethodName) ∈ zW := zin_2 (List.mem_of_getElem? (i := 74) rfl) rfl
theorem k_2_75 : Cond.instanceMethod (⟨"OutputStore$HoldBook", "isFull", "()Z"⟩ : MethodName) ∈ zW := zin_2 (List.mem_of_getElem? (i := 75) rfl) rfl
theorem k_2_76 : Cond.selects "OutputStore$HoldBook" (⟨"OutputStore$HoldBook", "isFull", "()Z"⟩ : MethodName) (⟨"OutputStore$HoldBook", "isFull", "()Z"⟩ : MethodName) ∈ zW := zin_2 (List.mem_of_getElem? (i := 76) rfl) rfl
theorem k_2_78 : Cond.methodLink "OutputStore" 152 (⟨"OutputStore$LinkTable", "makeThere", "(I)V"⟩ : MethodName) ∈ zW := zin_2 (List.mem_of_getElem? (i := 78) rfl) rfl
theorem k_2_79 : Cond.instanceMethod (⟨"OutputStore$LinkTable", "makeThere", "(I)V"⟩ : MethodName) ∈ zW := zin_2 (List.mem_of_getElem? (i := 79) rfl) rfl
theorem k_2_80 : Cond.selects "OutputStore$LinkTable" (⟨"OutputStore$LinkTable", "makeThere", "(I)V"⟩ : MethodName) (⟨"OutputStore$LinkTable", "makeThere", "(I)V"⟩ : MethodName) ∈ zW := zin_2 (List.mem_of_getElem? (i := 80) rfl) rfl
theorem k_2_82 : Cond.methodLink "OutputStore" 155 (⟨"OutputStore$HoldBook", "take", "(J)I"⟩ : MethodName) ∈ zW := zin_2 (List.mem_of_getElem? (i := 82) rfl) rfl
theorem k_2_83 : Cond.instanceMethod (⟨"OutputStore$HoldBook", "take", "(J)I"⟩ : MethodName) ∈ zW := zin_2 (List.mem_of_getElem? (i := 83) rfl) rfl
theorem k_2_84 : Cond.selects "OutputStore$HoldBook" (⟨"OutputStore$HoldBook", "take", "(J)I"⟩ : MethodName) (⟨"OutputStore$HoldBook", "take", "(J)I"⟩ : MethodName) ∈ zW := zin_2 (List.mem_of_getElem? (i := 84) rfl) rfl
theorem k_2_86 : Cond.methodLink "OutputStore$HoldBook" 19 (⟨"OutputStore$HoldBook", "isFull", "()Z"⟩ : MethodName) ∈ zW := zin_2 (List.mem_of_getElem? (i := 86) rfl) rfl
theorem k_2_91 : Cond.methodLink "OutputStore" 159 (⟨"OutputStore$HoldBook", "contentOf", "(I)J"⟩ : MethodName) ∈ zW := zin_2 (List.mem_of_getElem? (i := 91) rfl) rfl
theorem k_2_92 : Cond.instanceMethod (⟨"OutputStore$HoldBook", "contentOf", "(I)J"⟩ : MethodName) ∈ zW := zin_2 (List.mem_of_getElem? (i := 92) rfl) rfl
theorem k_2_93 : Cond.selects "OutputStore$HoldBook" (⟨"OutputStore$HoldBook", "contentOf", "(I)J"⟩ : MethodName) (⟨"OutputStore$HoldBook", "contentOf", "(I)J"⟩ : MethodName) ∈ zW := zin_2 (List.mem_of_getElem? (i := 93) rfl) rfl
theorem k_2_95 : Cond.methodLink "OutputStore$HoldBook" 23 (⟨"OutputStore$HoldBook", "has", "(I)Z"⟩ : MethodName) ∈ zW := zin_2 (List.mem_of_getElem? (i := 95) rfl) rfl
theorem k_2_96 : Cond.instanceMethod (⟨"OutputStore$HoldBook", "has", "(I)Z"⟩ : MethodName) ∈ zW := zin_2 (List.mem_of_getElem? (i := 96) rfl) rfl
theorem k_2_97 : Cond.selects "OutputStore$HoldBook" (⟨"OutputStore$HoldBook", "has", "(I)Z"⟩ : MethodName) (⟨"OutputStore$HoldBook", "has", "(I)Z"⟩ : MethodName) ∈ zW := zin_2 (List.mem_of_getElem? (i := 97) rfl) rfl
theorem k_2_103 : Cond.methodLink "OutputStore" 162 (⟨"OutputStore$HoldBook", "release", "(I)Z"⟩ : MethodName) ∈ zW := zin_2 (List.mem_of_getElem? (i := 103) rfl) rfl
theorem k_2_104 : Cond.instanceMethod (⟨"OutputStore$HoldBook", "release", "(I)Z"⟩ : MethodName) ∈ zW := zin_2 (List.mem_of_getElem? (i := 104) rfl) rfl
theorem k_2_105 : Cond.selects "OutputStore$HoldBook" (⟨"OutputStore$HoldBook", "release", "(I)Z"⟩ : MethodName) (⟨"OutputStore$HoldBook", "release", "(I)Z"⟩ : MethodName) ∈ zW := zin_2 (List.mem_of_getElem? (i := 105) rfl) rfl
theorem k_2_119 : Cond.methodLink "OutputStore" 171 (⟨"OutputStore$PathTree", "isAtOrWithin", "(II)Z"⟩ : MethodName) ∈ zW := zin_2 (List.mem_of_getElem? (i := 119) rfl) rfl
theorem k_2_124 : Cond.methodLink "OutputStore" 174 (⟨"OutputStore$DirtyMarks", "get", "(II)Z"⟩ : MethodName) ∈ zW := zin_2 (List.mem_of_getElem? (i := 124) rfl) rfl
theorem k_2_125 : Cond.instanceMethod (⟨"OutputStore$DirtyMarks", "get", "(II)Z"⟩ : MethodName) ∈ zW := zin_2 (List.mem_of_getElem? (i := 125) rfl) rfl
theorem k_2_126 : Cond.selects "OutputStore$DirtyMarks" (⟨"OutputStore$DirtyMarks", "get", "(II)Z"⟩ : MethodName) (⟨"OutputStore$DirtyMarks", "get", "(II)Z"⟩ : MethodName) ∈ zW := zin_2 (List.mem_of_getElem? (i := 126) rfl) rfl
theorem k_2_132 : Cond.methodLink "OutputStore" 177 (⟨"OutputStore$StepBook", "hasOpenOneIn", "(I)Z"⟩ : MethodName) ∈ zW := zin_2 (List.mem_of_getElem? (i := 132) rfl) rfl
theorem k_2_133 : Cond.instanceMethod (⟨"OutputStore$StepBook", "hasOpenOneIn", "(I)Z"⟩ : MethodName) ∈ zW := zin_2 (List.mem_of_getElem? (i := 133) rfl) rfl
theorem k_2_134 : Cond.selects "OutputStore$StepBook" (⟨"OutputStore$StepBook", "hasOpenOneIn", "(I)Z"⟩ : MethodName) (⟨"OutputStore$StepBook", "hasOpenOneIn", "(I)Z"⟩ : MethodName) ∈ zW := zin_2 (List.mem_of_getElem? (i := 134) rfl) rfl
theorem k_2_140 : Cond.methodLink "OutputStore" 180 (⟨"OutputStore", "storedAt", "(I)J"⟩ : MethodName) ∈ zW := zin_2 (List.mem_of_getElem? (i := 140) rfl) rfl
theorem k_2_142 : Cond.instanceMethod (⟨"OutputStore", "storedAt", "(I)J"⟩ : MethodName) ∈ zW := zin_2 (List.mem_of_getElem? (i := 142) rfl) rfl
theorem k_2_144 : Cond.methodLink "OutputStore" 187 (⟨"OutputStore$LinkTable", "storedIn", "(I)J"⟩ : MethodName) ∈ zW := zin_2 (List.mem_of_getElem? (i := 144) rfl) rfl
theorem k_2_145 : Cond.instanceMethod (⟨"OutputStore$LinkTable", "storedIn", "(I)J"⟩ : MethodName) ∈ zW := zin_2 (List.mem_of_getElem? (i := 145) rfl) rfl
theorem k_2_146 : Cond.selects "OutputStore$LinkTable" (⟨"OutputStore$LinkTable", "storedIn", "(I)J"⟩ : MethodName) (⟨"OutputStore$LinkTable", "storedIn", "(I)J"⟩ : MethodName) ∈ zW := zin_2 (List.mem_of_getElem? (i := 146) rfl) rfl
theorem k_2_148 : Cond.methodLink "OutputStore$LinkTable" 30 (⟨"OutputStore$LinkTable", "isLazy", "(I)Z"⟩ : MethodName) ∈ zW := zin_2 (List.mem_of_getElem? (i := 148) rfl) rfl
theorem k_2_149 : Cond.methodLink "OutputStore$LinkTable" 33 (⟨"OutputStore$LinkTable", "contentAt", "(I)J"⟩ : MethodName) ∈ zW := zin_2 (List.mem_of_getElem? (i := 149) rfl) rfl
theorem k_2_154 : Cond.methodLink "OutputStore" 183 (⟨"OutputStore", "find", "([JIJ)I"⟩ : MethodName) ∈ zW := zin_2 (List.mem_of_getElem? (i := 154) rfl) rfl
theorem k_2_160 : Cond.methodLink "OutputStoreModel" 1 (⟨"java/lang/Object", "<init>", "()V"⟩ : MethodName) ∈ zW := zin_2 (List.mem_of_getElem? (i := 160) rfl) rfl
theorem k_2_161 : Cond.fieldLink "OutputStoreModel" 69 "OutputStoreModel" "paths" "I" ∈ zW := zin_2 (List.mem_of_getElem? (i := 161) rfl) rfl
theorem k_2_162 : Cond.fieldLink "OutputStoreModel" 73 "OutputStoreModel" "steps" "I" ∈ zW := zin_2 (List.mem_of_getElem? (i := 162) rfl) rfl
theorem k_2_163 : Cond.fieldLink "OutputStoreModel" 90 "OutputStoreModel" "cached" "I" ∈ zW := zin_2 (List.mem_of_getElem? (i := 163) rfl) rfl
theorem k_2_164 : Cond.fieldLink "OutputStoreModel" 114 "OutputStoreModel" "holds" "I" ∈ zW := zin_2 (List.mem_of_getElem? (i := 164) rfl) rfl
theorem k_2_165 : Cond.fieldLink "OutputStoreModel" 7 "OutputStoreModel" "inside" "[I" ∈ zW := zin_2 (List.mem_of_getElem? (i := 165) rfl) rfl
theorem k_2_166 : Cond.fieldLink "OutputStoreModel" 13 "OutputStoreModel" "owner" "[I" ∈ zW := zin_2 (List.mem_of_getElem? (i := 166) rfl) rfl
theorem k_2_167 : Cond.fieldLink "OutputStoreModel" 16 "OutputStoreModel" "maker" "[I" ∈ zW := zin_2 (List.mem_of_getElem? (i := 167) rfl) rfl
theorem k_2_168 : Cond.fieldLink "OutputStoreModel" 19 "OutputStoreModel" "content" "[J" ∈ zW := zin_2 (List.mem_of_getElem? (i := 168) rfl) rfl
theorem k_2_169 : Cond.fieldLink "OutputStoreModel" 23 "OutputStoreModel" "runs" "[Z" ∈ zW := zin_2 (List.mem_of_getElem? (i := 169) rfl) rfl
theorem k_2_170 : Cond.fieldLink "OutputStoreModel" 27 "OutputStoreModel" "isThere" "[Z" ∈ zW := zin_2 (List.mem_of_getElem? (i := 170) rfl) rfl
theorem k_2_171 : Cond.fieldLink "OutputStoreModel" 30 "OutputStoreModel" "target" "[I" ∈ zW := zin_2 (List.mem_of_getElem? (i := 171) rfl) rfl
theorem k_2_172 : Cond.fieldLink "OutputStoreModel" 33 "OutputStoreModel" "place" "[I" ∈ zW := zin_2 (List.mem_of_getElem? (i := 172) rfl) rfl
theorem k_2_173 : Cond.fieldLink "OutputStoreModel" 36 "OutputStoreModel" "run" "[I" ∈ zW := zin_2 (List.mem_of_getElem? (i := 173) rfl) rfl
theorem k_2_174 : Cond.fieldLink "OutputStoreModel" 39 "OutputStoreModel" "staged" "[I" ∈ zW := zin_2 (List.mem_of_getElem? (i := 174) rfl) rfl
theorem k_2_175 : Cond.fieldLink "OutputStoreModel" 42 "OutputStoreModel" "isOpen" "[Z" ∈ zW := zin_2 (List.mem_of_getElem? (i := 175) rfl) rfl
theorem k_2_176 : Cond.fieldLink "OutputStoreModel" 45 "OutputStoreModel" "stagedAt" "[I" ∈ zW := zin_2 (List.mem_of_getElem? (i := 176) rfl) rfl
theorem k_2_177 : Cond.fieldLink "OutputStoreModel" 48 "OutputStoreModel" "stagedContent" "[J" ∈ zW := zin_2 (List.mem_of_getElem? (i := 177) rfl) rfl
theorem k_2_178 : Cond.fieldLink "OutputStoreModel" 51 "OutputStoreModel" "stagedRuns" "[Z" ∈ zW := zin_2 (List.mem_of_getElem? (i := 178) rfl) rfl
theorem k_2_179 : Cond.fieldLink "OutputStoreModel" 54 "OutputStoreModel" "stagedLazy" "[Z" ∈ zW := zin_2 (List.mem_of_getElem? (i := 179) rfl) rfl
theorem k_2_180 : Cond.fieldLink "OutputStoreModel" 57 "OutputStoreModel" "isDirty" "[Z" ∈ zW := zin_2 (List.mem_of_getElem? (i := 180) rfl) rfl
theorem k_2_181 : Cond.fieldLink "OutputStoreModel" 60 "OutputStoreModel" "cache" "[J" ∈ zW := zin_2 (List.mem_of_getElem? (i := 181) rfl) rfl
theorem k_2_182 : Cond.fieldLink "OutputStoreModel" 63 "OutputStoreModel" "hold" "[J" ∈ zW := zin_2 (List.mem_of_getElem? (i := 182) rfl) rfl
theorem k_2_183 : Cond.fieldLink "OutputStoreModel" 120 "OutputStoreModel" "met" "I" ∈ zW := zin_2 (List.mem_of_getElem? (i := 183) rfl) rfl
theorem k_2_184 : Cond.fieldLink "OutputStoreModel" 66 "OutputStoreModel" "row" "[J" ∈ zW := zin_2 (List.mem_of_getElem? (i := 184) rfl) rfl
theorem k_2_238 : Cond.methodLink "OutputStoreModel" 76 (⟨"OutputStoreModel", "isPath", "(I)Z"⟩ : MethodName) ∈ zW := zin_2 (List.mem_of_getElem? (i := 238) rfl) rfl
theorem k_3_0 : Cond.instanceMethod (⟨"OutputStoreModel", "isPath", "(I)Z"⟩ : MethodName) ∈ zW := zin_3 (List.mem_of_getElem? (i := 0) rfl) rfl
theorem k_3_6 : Cond.methodLink "OutputStoreModel" 84 (⟨"OutputStoreModel", "within", "(II)Z"⟩ : MethodName) ∈ zW := zin_3 (List.mem_of_getElem? (i := 6) rfl) rfl
theorem k_3_7 : Cond.static (⟨"OutputStoreModel", "within", "(II)Z"⟩ : MethodName) ∈ zW := zin_3 (List.mem_of_getElem? (i := 7) rfl) rfl
theorem k_3_13 : Cond.methodLink "OutputStoreModel" 93 (⟨"OutputStoreModel", "isOpenStep", "(I)Z"⟩ : MethodName) ∈ zW := zin_3 (List.mem_of_getElem? (i := 13) rfl) rfl
theorem k_3_15 : Cond.instanceMethod (⟨"OutputStoreModel", "isOpenStep", "(I)Z"⟩ : MethodName) ∈ zW := zin_3 (List.mem_of_getElem? (i := 15) rfl) rfl
theorem k_3_17 : Cond.methodLink "OutputStoreModel" 96 (⟨"OutputStoreModel", "placeOf", "(II)I"⟩ : MethodName) ∈ zW := zin_3 (List.mem_of_getElem? (i := 17) rfl) rfl
theorem k_3_19 : Cond.instanceMethod (⟨"OutputStoreModel", "placeOf", "(II)I"⟩ : MethodName) ∈ zW := zin_3 (List.mem_of_getElem? (i := 19) rfl) rfl
theorem k_3_21 : Cond.methodLink "OutputStoreModel" 100 (⟨"OutputStoreModel", "meetsOutput", "(II)Z"⟩ : MethodName) ∈ zW := zin_3 (List.mem_of_getElem? (i := 21) rfl) rfl
theorem k_3_23 : Cond.instanceMethod (⟨"OutputStoreModel", "meetsOutput", "(II)Z"⟩ : MethodName) ∈ zW := zin_3 (List.mem_of_getElem? (i := 23) rfl) rfl
theorem k_3_25 : Cond.methodLink "OutputStoreModel" 87 (⟨"OutputStoreModel", "meet", "(II)Z"⟩ : MethodName) ∈ zW := zin_3 (List.mem_of_getElem? (i := 25) rfl) rfl
theorem k_3_27 : Cond.instanceMethod (⟨"OutputStoreModel", "meet", "(II)Z"⟩ : MethodName) ∈ zW := zin_3 (List.mem_of_getElem? (i := 27) rfl) rfl
theorem k_3_29 : Cond.methodLink "OutputStoreModel" 80 (⟨"OutputStoreModel", "isWithin", "(II)Z"⟩ : MethodName) ∈ zW := zin_3 (List.mem_of_getElem? (i := 29) rfl) rfl
theorem k_3_31 : Cond.instanceMethod (⟨"OutputStoreModel", "isWithin", "(II)Z"⟩ : MethodName) ∈ zW := zin_3 (List.mem_of_getElem? (i := 31) rfl) rfl
theorem k_3_33 : Cond.methodLink "OutputStoreModel" 103 (⟨"OutputStoreModel", "meetsStaged", "(II)Z"⟩ : MethodName) ∈ zW := zin_3 (List.mem_of_getElem? (i := 33) rfl) rfl
theorem k_3_35 : Cond.instanceMethod (⟨"OutputStoreModel", "meetsStaged", "(II)Z"⟩ : MethodName) ∈ zW := zin_3 (List.mem_of_getElem? (i := 35) rfl) rfl
theorem k_3_37 : Cond.methodLink "OutputStoreModel" 106 (⟨"OutputStoreModel", "isCached", "(J)Z"⟩ : MethodName) ∈ zW := zin_3 (List.mem_of_getElem? (i := 37) rfl) rfl
theorem k_3_39 : Cond.instanceMethod (⟨"OutputStoreModel", "isCached", "(J)Z"⟩ : MethodName) ∈ zW := zin_3 (List.mem_of_getElem? (i := 39) rfl) rfl
theorem k_3_45 : Cond.methodLink "OutputStoreModel" 110 (⟨"OutputStoreModel", "goOld", "(I)I"⟩ : MethodName) ∈ zW := zin_3 (List.mem_of_getElem? (i := 45) rfl) rfl
theorem k_3_47 : Cond.instanceMethod (⟨"OutputStoreModel", "goOld", "(I)I"⟩ : MethodName) ∈ zW := zin_3 (List.mem_of_getElem? (i := 47) rfl) rfl
theorem k_3_61 : Cond.methodLink "OutputStoreModel" 117 (⟨"OutputStoreModel", "isOutput", "(II)Z"⟩ : MethodName) ∈ zW := zin_3 (List.mem_of_getElem? (i := 61) rfl) rfl
theorem k_3_63 : Cond.instanceMethod (⟨"OutputStoreModel", "isOutput", "(II)Z"⟩ : MethodName) ∈ zW := zin_3 (List.mem_of_getElem? (i := 63) rfl) rfl
theorem k_3_97 : Cond.methodLink "OutputStoreModel" 127 (⟨"OutputStoreModel", "gather", "()V"⟩ : MethodName) ∈ zW := zin_3 (List.mem_of_getElem? (i := 97) rfl) rfl
theorem k_3_99 : Cond.instanceMethod (⟨"OutputStoreModel", "gather", "()V"⟩ : MethodName) ∈ zW := zin_3 (List.mem_of_getElem? (i := 99) rfl) rfl
theorem k_3_101 : Cond.methodLink "OutputStoreModel" 123 (⟨"OutputStoreModel", "meets", "(J)V"⟩ : MethodName) ∈ zW := zin_3 (List.mem_of_getElem? (i := 101) rfl) rfl
theorem k_3_103 : Cond.instanceMethod (⟨"OutputStoreModel", "meets", "(J)V"⟩ : MethodName) ∈ zW := zin_3 (List.mem_of_getElem? (i := 103) rfl) rfl
end
section
-- ===== the roads of a method as a pure function: guards, branches, calls =====
/-- an index that is looked at: the road goes on only inside the row -/
def gz {α : Type} (i : Int32) (n : Nat) (x : Option α) : Option α := if 0 ≤ i.toInt ∧ i.toInt < (n : Int) then x else none
/-- an answer that is a boolean -/
def zb {α : Type} (v : Int32) (x : Option α) : Option α := if v = 0 ∨ v = 1 then x else none
theorem z_gz {α : Type} {i : Int32} {n : Nat} {x : Option α} {y : α} (h : gz i n x = some y) : vp_in i n ∧ x = some y := by
  unfold gz at h
  by_cases c : 0 ≤ i.toInt ∧ i.toInt < (n : Int)
  · rw [if_pos c] at h
    exact ⟨vp_in_iff.mpr c, h⟩
  · rw [if_neg c] at h
    cases h
theorem z_zb {α : Type} {v : Int32} {x : Option α} {y : α} (h : zb v x = some y) : (v = 0 ∨ v = 1) ∧ x = some y := by
  unfold zb at h
  by_cases c : v = 0 ∨ v = 1
  · rw [if_pos c] at h
    exact ⟨c, h⟩
  · rw [if_neg c] at h
    cases h
theorem z_t {α : Type} {c : Prop} [Decidable c] {a b : Option α} {y : α} (h : c) (hf : (if c then a else b) = some y) : a = some y := by
  rw [if_pos h] at hf
  exact hf
theorem z_f {α : Type} {c : Prop} [Decidable c] {a b : Option α} {y : α} (h : ¬ c) (hf : (if c then a else b) = some y) : b = some y := by
  rw [if_neg h] at hf
  exact hf
theorem z_b {α β : Type} {x : Option α} {f : α → Option β} {y : β} (h : x.bind f = some y) : ∃ u, x = some u ∧ f u = some y := by
  cases x with
  | none => cases h
  | some u => exact ⟨u, rfl, h⟩
theorem z_ne {x : Int32} {k : Nat} (h : ¬ x = nI k) (hk : k < 2 ^ 31) : ¬ x.toInt = (k : Int) := fun q => h (Int32.toInt_inj.mp (by rw [nI_toInt hk]; exact q))
theorem z_sw4 {x : Int32} (h0 : ¬ x = 0) (h1 : ¬ x = 1) (h2 : ¬ x = 2) (h3 : ¬ x = 3) : x.toInt < 0 ∨ 3 < x.toInt := by
  have a0 := z_ne (k := 0) h0 (by decide)
  have a1 := z_ne (k := 1) h1 (by decide)
  have a2 := z_ne (k := 2) h2 (by decide)
  have a3 := z_ne (k := 3) h3 (by decide)
  omega
-- ===== worlds by their members =====
theorem zP_iff {D : va_G} {cl : List vw_C} {ws : va_W} {H : Heap} : va_P D cl ws H ↔ ∀ q ∈ ws, va_at D cl q H :=
  ⟨fun h q hq => by obtain ⟨k, hk⟩ := List.mem_iff_getElem?.mp hq; exact h k q hk, fun h k q hk => h q (List.mem_of_getElem? hk)⟩
theorem zD_iff {A : Nat → Prop} {ws : va_W} : va_D A ws ↔ ws.Pairwise (fun p q => p.1 ≠ q.1) ∧ ∀ q ∈ ws, A q.1 := by
  constructor
  · intro h
    refine ⟨List.pairwise_iff_getElem.mpr ?_, fun q hq => by obtain ⟨k, hk⟩ := List.mem_iff_getElem?.mp hq; exact h.2 k q hk⟩
    intro i j hi hj hij e
    have := h.1 i j _ _ (List.getElem?_eq_getElem hi) (List.getElem?_eq_getElem hj) e
    omega
  · intro h
    refine ⟨?_, fun k q hk => h.2 q (List.mem_of_getElem? hk)⟩
    intro i j p q hp hq e
    obtain ⟨hi, ei⟩ := List.getElem?_eq_some_iff.mp hp
    obtain ⟨hj, ej⟩ := List.getElem?_eq_some_iff.mp hq
    have hpw := List.pairwise_iff_getElem.mp h.1
    rcases Nat.lt_trichotomy i j with c | c | c
    · exact absurd (by rw [ei, ej]; exact e) (hpw i j hi hj c)
    · exact c
    · exact absurd (by rw [ei, ej]; exact e.symm) (hpw j i hj hi c)
theorem zP_mid {D : va_G} {cl : List vw_C} {x y z : va_W} {H : Heap} (h : va_P D cl (x ++ (y ++ z)) H) : va_P D cl y H := zP_iff.mpr fun q hq => zP_iff.mp h q (by simp [hq])
theorem zD_mid {A : Nat → Prop} {x y z : va_W} (h : va_D A (x ++ (y ++ z))) : va_D A y := by
  obtain ⟨h1, h2⟩ := zD_iff.mp h
  exact zD_iff.mpr ⟨(List.pairwise_append.mp (List.pairwise_append.mp h1).2.1).1, fun q hq => h2 q (by simp [hq])⟩
theorem zP_cut {D : va_G} {cl : List vw_C} {ws wc : va_W} {H : Heap} (i j : Nat) (h : va_P D cl ws H) (e : ws = ws.take i ++ (wc ++ ws.drop j)) : va_P D cl wc H := by
  rw [e] at h
  exact zP_mid h
theorem zD_cut {A : Nat → Prop} {ws wc : va_W} (i j : Nat) (h : va_D A ws) (e : ws = ws.take i ++ (wc ++ ws.drop j)) : va_D A wc := by
  rw [e] at h
  exact zD_mid h
theorem zA_iff {w : va_W} {sz q : Nat} : va_A w sz q ↔ (∃ e : va_E, (q, e) ∈ w) ∨ sz ≤ q := by
  constructor
  · rintro (⟨k, e, h⟩ | h)
    · exact Or.inl ⟨e, List.mem_of_getElem? h⟩
    · exact Or.inr h
  · rintro (⟨e, h⟩ | h)
    · obtain ⟨k, hk⟩ := List.mem_iff_getElem?.mp h
      exact Or.inl ⟨k, e, hk⟩
    · exact Or.inr h
/-- the frame rule: the middle cells come back as w1, the rest is unchanged -/
theorem z_frame {A : Nat → Prop} {D : va_G} {cl : List vw_C} {x wc z w1 : va_W} {H H1 : Heap} (hP : va_P D cl (x ++ (wc ++ z)) H) (hD : va_D A (x ++ (wc ++ z)))
    (hk : ∀ q : Nat, q < H.size → ¬ va_A wc H.size q → H1[q]? = H[q]?) (hF : ∀ q, va_A wc H.size q → A q) (hP1 : va_P D cl w1 H1) (hD1 : va_D (va_A wc H.size) w1) :
    va_P D cl (x ++ (w1 ++ z)) H1 ∧ va_D A (x ++ (w1 ++ z)) := by
  have hP' := zP_iff.mp hP
  obtain ⟨hp, hA⟩ := zD_iff.mp hD
  obtain ⟨hpx, hpr, hxr⟩ := List.pairwise_append.mp hp
  obtain ⟨hpc, hpz, hcz⟩ := List.pairwise_append.mp hpr
  obtain ⟨h1p, h1A⟩ := zD_iff.mp hD1
  have hP1' := zP_iff.mp hP1
  have ax : ∀ q ∈ x, q.1 < H.size ∧ ¬ va_A wc H.size q.1 := by
    intro q hq
    have hl := (hP' q (by simp [hq])).lt
    refine ⟨hl, fun h => ?_⟩
    rcases zA_iff.mp h with ⟨e, he⟩ | h
    · exact hxr q hq (q.1, e) (by simp [he]) rfl
    · omega
  have az : ∀ q ∈ z, q.1 < H.size ∧ ¬ va_A wc H.size q.1 := by
    intro q hq
    have hl := (hP' q (by simp [hq])).lt
    refine ⟨hl, fun h => ?_⟩
    rcases zA_iff.mp h with ⟨e, he⟩ | h
    · exact hcz (q.1, e) he q hq rfl
    · omega
  refine ⟨zP_iff.mpr fun q hq => ?_, zD_iff.mpr ⟨List.pairwise_append.mpr ⟨hpx, List.pairwise_append.mpr ⟨h1p, hpz, fun p hp q hq e => ?_⟩, fun p hp q hq e => ?_⟩, fun q hq => ?_⟩⟩
  · rcases List.mem_append.mp hq with h | h
    · exact (hP' q (by simp [h])).kept (hk q.1 (ax q h).1 (ax q h).2)
    · rcases List.mem_append.mp h with h | h
      · exact hP1' q h
      · exact (hP' q (by simp [h])).kept (hk q.1 (az q h).1 (az q h).2)
  · exact (az q hq).2 (by rw [← e]; exact h1A p hp)
  · rcases List.mem_append.mp hq with h | h
    · exact (ax p hp).2 (by rw [e]; exact h1A q h)
    · exact hxr p hp q (by simp [h]) e
  · rcases List.mem_append.mp hq with h | h
    · exact hA q (by simp [h])
    · rcases List.mem_append.mp h with h | h
      · exact hF q.1 (h1A q h)
      · exact hA q (by simp [h])
-- ===== a contract's start and end =====
/-- the words of calls between nest mates -/
def zN (U : State) : Prop := ∀ q ∈ zNests, va_Nw (.methodLinkNest q.1 q.2.1 q.2.2.1 q.2.2.2) U
def zB (D : va_G) (cl : List vw_C) (tys : List (ClassId × FieldType)) (w : va_W) (sz : Nat) : State → Prop := fun U => U.heap.size = sz ∧ va_P D cl w U.heap ∧ va_K D cl tys U ∧ va_D (fun _ => True) w ∧ zN U
def zQi (D : va_G) (cl : List vw_C) (w : va_W) (sz : Nat) (r : Int32) (w1 : va_W) : Array Value → State → Outcome → State → Prop := va_Qi (fun (x : Int32) (_ : Unit) => x = r) (fun _ t => va_P D cl w1 t.heap ∧ va_D (va_A w sz) w1) (va_A w sz)
def zQl (D : va_G) (cl : List vw_C) (w : va_W) (sz : Nat) (r : Int64) (w1 : va_W) : Array Value → State → Outcome → State → Prop := va_Ql (fun (x : Int64) (_ : Unit) => x = r) (fun _ t => va_P D cl w1 t.heap ∧ va_D (va_A w sz) w1) (va_A w sz)
def zQv (D : va_G) (cl : List vw_C) (w : va_W) (sz : Nat) (w1 : va_W) : Array Value → State → Outcome → State → Prop := va_Qv (fun (_ : Unit) => True) (fun _ t => va_P D cl w1 t.heap ∧ va_D (va_A w sz) w1) (va_A w sz)
theorem z_bl {D : va_G} {cl : List vw_C} {tys : List (ClassId × FieldType)} {w : va_W} {sz : Nat} {av : List Value} : FrameBlind (va_Pc av (zB D cl tys w sz)) := fun a U g mk q => by
  obtain ⟨q0, q1, q2, q3, q4, q5⟩ := q
  exact ⟨q0, q1, q2, va_K.moved (u := U) (U := U.calling g mk a) (Vm.Alike.refl U.vm) q3, q4, fun n hn => va_Nw.same rfl (u := U) (U := U.calling g mk a) rfl (q5 n hn)⟩
theorem z_pre {s : State} {H : Heap} {A : Nat → Prop} {D : va_G} {cl : List vw_C} {tys : List (ClassId × FieldType)} {wc : va_W} (hN : zN s) (hK : va_K D cl tys s) (hP : va_P D cl wc H) (hD : va_D A wc) (U : State) (hU : U.heap = H) (hW : s.WarmedH U.vm) : zB D cl tys wc H.size U :=
  ⟨by rw [hU], by rw [hU]; exact hP, va_K.moved hW.alike hK, hD.weaken (fun _ _ _ _ => trivial), fun n hn => va_Nw.warmM hW (hN n hn)⟩
section ZR
variable {p : Program} {l : Launch} {e : Env} {R : Room} {s : State} {m : MethodId} {args : Array Value} {below : List Frame} {meth : Method} {c : Code} {H : Heap} {locs : List Loc} {cells slots : Nat} {Q : State → Prop}
variable {cc : ByteArray} {pc : Nat} {ls : Array Slot} {rest st0 : List Value} {D : va_G} {cl : List vw_C} {A : Nat → Prop} {H0 : Heap} {w w1 wc ws : va_W} {aa : Array Value}
theorem z_start {vs : List Value} {n : Nat} {lv : List (Nat × Value)} (h : (lg_sl vs).length ≤ n) (hlv : lv_args 0 vs = lv) (hP : va_P D cl w s.heap) (hD : va_D (fun _ => True) w)
    (kk : ∀ (H : Heap) (locs : List Loc) (ls : Array Slot), va_P D cl w H → va_D (va_A w s.heap.size) w → va_S (va_A w s.heap.size) s.heap H locs → lv_has ls n lv → W p l e R s m args below meth c H locs cells slots Q (F0 m 0 ls [])) :
    W p l e R s m args below meth c s.heap [] cells slots Q (entryFrame m vs.toArray n) := by
  rw [lg_entry_eq]
  exact kk s.heap [] _ hP (hD.self) va_S.rf (hlv ▸ lv_entry vs h)
theorem z_iret {v : Int32} (hx : p.tables.exec = Jvm.exec) (hb : c.code = cc) (hr : meth.sig.returnType = some .int) (hP : va_P D cl w1 H) (hD : va_D (va_A w s.heap.size) w1) (hS : va_S (va_A w s.heap.size) s.heap H locs) (hdg : decode cc pc = .ok (.ireturn, 1)) (hlocks : meth.locks = false) :
    W p l e R s m args below meth c H locs cells slots (MQ below (zQi D cl w s.heap.size v w1) args s cells slots (va_A w s.heap.size)) (F0 m pc ls [.int v]) :=
  W.iret (v := v) hx hb hr (fun t ht _ => ⟨⟨v, (), rfl, rfl, by rw [ht]; exact hP, hD⟩, hS.F ht⟩) hS.2.2 hdg hlocks
theorem z_zret {v : Int32} (hx : p.tables.exec = Jvm.exec) (hb : c.code = cc) (hr : meth.sig.returnType = some .boolean) (hv : v = 0 ∨ v = 1) (hP : va_P D cl w1 H) (hD : va_D (va_A w s.heap.size) w1) (hS : va_S (va_A w s.heap.size) s.heap H locs) (hdg : decode cc pc = .ok (.ireturn, 1)) (hlocks : meth.locks = false) :
    W p l e R s m args below meth c H locs cells slots (MQ below (zQi D cl w s.heap.size v w1) args s cells slots (va_A w s.heap.size)) (F0 m pc ls [.int v]) :=
  W.zret (v := v) hx hb hr (by rcases hv with rfl | rfl <;> rfl) (fun t ht _ => ⟨⟨v, (), rfl, rfl, by rw [ht]; exact hP, hD⟩, hS.F ht⟩) hS.2.2 hdg hlocks
theorem z_lret {v : Int64} (hx : p.tables.exec = Jvm.exec) (hb : c.code = cc) (hr : meth.sig.returnType = some .long) (hP : va_P D cl w1 H) (hD : va_D (va_A w s.heap.size) w1) (hS : va_S (va_A w s.heap.size) s.heap H locs) (hdg : decode cc pc = .ok (.lreturn, 1)) (hlocks : meth.locks = false) :
    W p l e R s m args below meth c H locs cells slots (MQ below (zQl D cl w s.heap.size v w1) args s cells slots (va_A w s.heap.size)) (F0 m pc ls [.long v]) :=
  W.lret (v := v) hx hb hr (fun t ht _ => ⟨⟨v, (), rfl, rfl, by rw [ht]; exact hP, hD⟩, hS.F ht⟩) hS.2.2 hdg hlocks
theorem z_vret (hx : p.tables.exec = Jvm.exec) (hb : c.code = cc) (hr : meth.sig.returnType = none) (hP : va_P D cl w1 H) (hD : va_D (va_A w s.heap.size) w1) (hS : va_S (va_A w s.heap.size) s.heap H locs) (hdg : decode cc pc = .ok (.return_, 1)) (hlocks : meth.locks = false) :
    W p l e R s m args below meth c H locs cells slots (MQ below (zQv D cl w s.heap.size w1) args s cells slots (va_A w s.heap.size)) (F0 m pc ls []) :=
  W.vret hx hb hr (fun t ht _ => ⟨⟨(), rfl, trivial, by rw [ht]; exact hP, hD⟩, hS.F ht⟩) hS.2.2 hdg hlocks
theorem z_fr {i j : Nat} {ws2 : va_W} {H1 : Heap} (hP : va_P D cl ws H) (hD : va_D A ws) (h1 : ws = ws.take i ++ (wc ++ ws.drop j)) (h2 : ws.take i ++ (w1 ++ ws.drop j) = ws2)
    (hk : ∀ q : Nat, q < H.size → ¬ va_A wc H.size q → H1[q]? = H[q]?) (hF : ∀ q, va_A wc H.size q → A q) (hP1 : va_P D cl w1 H1) (hD1 : va_D (va_A wc H.size) w1) : va_P D cl ws2 H1 ∧ va_D A ws2 := by
  rw [← h2]
  rw [h1] at hP hD
  exact z_frame hP hD hk hF hP1 hD1
theorem z_free {i j : Nat} (hD : va_D A ws) (hS : va_S A H0 H locs) (hA : ∀ q, H0.size ≤ q → A q) (h1 : ws = ws.take i ++ (wc ++ ws.drop j)) : ∀ q, va_A wc H.size q → A q := by
  intro q hq
  rcases zA_iff.mp hq with ⟨e, he⟩ | h
  · exact (zD_iff.mp (zD_cut i j hD h1)).2 (q, e) he
  · exact hA q (Nat.le_trans hS.1 h)
theorem z_ci {r : Int32} (hr : va_Run p l e R s m args below meth c H locs cells slots 0 0 (F0 m pc ls st0) rest (zQi D cl wc H.size r w1 aa) (va_A wc H.size)) (i j : Nat) (ws2 : va_W) (hP : va_P D cl ws H) (hD : va_D A ws) (hS : va_S A H0 H locs) (hA : ∀ q, H0.size ≤ q → A q)
    (h1 : ws = ws.take i ++ (wc ++ ws.drop j)) (h2 : ws.take i ++ (w1 ++ ws.drop j) = ws2)
    (kk : ∀ (H : Heap) (locs : List Loc), va_P D cl ws2 H → va_D A ws2 → va_S A H0 H locs → W p l e R s m args below meth c H locs cells slots Q (F0 m (pc + 3) ls (.int r :: rest))) : W p l e R s m args below meth c H locs cells slots Q (F0 m pc ls st0) := by
  have hF := z_free hD hS hA h1
  refine va_calli hr hS (fun q _ h => hF q h) hF (fun x u t H1 locs1 ht hvm hw hB hz1 hk1 hS1 => ?_)
  obtain ⟨hP1, hD1⟩ := hB
  rw [ht] at hP1
  subst hw
  obtain ⟨hP2, hD2⟩ := z_fr hP hD h1 h2 hk1 hF hP1 hD1
  exact kk H1 locs1 hP2 hD2 hS1
theorem z_cl {r : Int64} (hr : va_Run p l e R s m args below meth c H locs cells slots 0 0 (F0 m pc ls st0) rest (zQl D cl wc H.size r w1 aa) (va_A wc H.size)) (i j : Nat) (ws2 : va_W) (hP : va_P D cl ws H) (hD : va_D A ws) (hS : va_S A H0 H locs) (hA : ∀ q, H0.size ≤ q → A q)
    (h1 : ws = ws.take i ++ (wc ++ ws.drop j)) (h2 : ws.take i ++ (w1 ++ ws.drop j) = ws2)
    (kk : ∀ (H : Heap) (locs : List Loc), va_P D cl ws2 H → va_D A ws2 → va_S A H0 H locs → W p l e R s m args below meth c H locs cells slots Q (F0 m (pc + 3) ls (.long r :: rest))) : W p l e R s m args below meth c H locs cells slots Q (F0 m pc ls st0) := by
  have hF := z_free hD hS hA h1
  refine va_calll hr hS (fun q _ h => hF q h) hF (fun x u t H1 locs1 ht hvm hw hB hz1 hk1 hS1 => ?_)
  obtain ⟨hP1, hD1⟩ := hB
  rw [ht] at hP1
  subst hw
  obtain ⟨hP2, hD2⟩ := z_fr hP hD h1 h2 hk1 hF hP1 hD1
  exact kk H1 locs1 hP2 hD2 hS1
theorem z_cv (hr : va_Run p l e R s m args below meth c H locs cells slots 0 0 (F0 m pc ls st0) rest (zQv D cl wc H.size w1 aa) (va_A wc H.size)) (i j : Nat) (ws2 : va_W) (hP : va_P D cl ws H) (hD : va_D A ws) (hS : va_S A H0 H locs) (hA : ∀ q, H0.size ≤ q → A q)
    (h1 : ws = ws.take i ++ (wc ++ ws.drop j)) (h2 : ws.take i ++ (w1 ++ ws.drop j) = ws2)
    (kk : ∀ (H : Heap) (locs : List Loc), va_P D cl ws2 H → va_D A ws2 → va_S A H0 H locs → W p l e R s m args below meth c H locs cells slots Q (F0 m (pc + 3) ls rest)) : W p l e R s m args below meth c H locs cells slots Q (F0 m pc ls st0) := by
  have hF := z_free hD hS hA h1
  refine va_callv hr hS (fun q _ h => hF q h) hF (fun u t H1 locs1 ht hvm hw hB hz1 hk1 hS1 => ?_)
  obtain ⟨hP1, hD1⟩ := hB
  rw [ht] at hP1
  obtain ⟨hP2, hD2⟩ := z_fr hP hD h1 h2 hk1 hF hP1 hD1
  exact kk H1 locs1 hP2 hD2 hS1
theorem z_freew (hD : va_D A wc) (hS : va_S A H0 H locs) (hA : ∀ q, H0.size ≤ q → A q) : ∀ q, va_A wc H.size q → A q := by
  intro q hq
  rcases zA_iff.mp hq with ⟨e, he⟩ | h
  · exact (zD_iff.mp hD).2 (q, e) he
  · exact hA q (Nat.le_trans hS.1 h)
theorem z_cwi {r : Int32} (hr : va_Run p l e R s m args below meth c H locs cells slots 0 0 (F0 m pc ls st0) rest (zQi D cl wc H.size r w1 aa) (va_A wc H.size)) (hD : va_D A wc) (hS : va_S A H0 H locs) (hA : ∀ q, H0.size ≤ q → A q)
    (kk : ∀ (H : Heap) (locs : List Loc), va_P D cl w1 H → va_D A w1 → va_S A H0 H locs → W p l e R s m args below meth c H locs cells slots Q (F0 m (pc + 3) ls (.int r :: rest))) : W p l e R s m args below meth c H locs cells slots Q (F0 m pc ls st0) := by
  have hF := z_freew hD hS hA
  refine va_calli hr hS (fun q _ h => hF q h) hF (fun x u t H1 locs1 ht hvm hw hB hz1 hk1 hS1 => ?_)
  obtain ⟨hP1, hD1⟩ := hB
  rw [ht] at hP1
  subst hw
  exact kk H1 locs1 hP1 (hD1.weaken (fun _ q _ h => hF q.1 h)) hS1
theorem z_cwl {r : Int64} (hr : va_Run p l e R s m args below meth c H locs cells slots 0 0 (F0 m pc ls st0) rest (zQl D cl wc H.size r w1 aa) (va_A wc H.size)) (hD : va_D A wc) (hS : va_S A H0 H locs) (hA : ∀ q, H0.size ≤ q → A q)
    (kk : ∀ (H : Heap) (locs : List Loc), va_P D cl w1 H → va_D A w1 → va_S A H0 H locs → W p l e R s m args below meth c H locs cells slots Q (F0 m (pc + 3) ls (.long r :: rest))) : W p l e R s m args below meth c H locs cells slots Q (F0 m pc ls st0) := by
  have hF := z_freew hD hS hA
  refine va_calll hr hS (fun q _ h => hF q h) hF (fun x u t H1 locs1 ht hvm hw hB hz1 hk1 hS1 => ?_)
  obtain ⟨hP1, hD1⟩ := hB
  rw [ht] at hP1
  subst hw
  exact kk H1 locs1 hP1 (hD1.weaken (fun _ q _ h => hF q.1 h)) hS1
theorem z_cwv (hr : va_Run p l e R s m args below meth c H locs cells slots 0 0 (F0 m pc ls st0) rest (zQv D cl wc H.size w1 aa) (va_A wc H.size)) (hD : va_D A wc) (hS : va_S A H0 H locs) (hA : ∀ q, H0.size ≤ q → A q)
    (kk : ∀ (H : Heap) (locs : List Loc), va_P D cl w1 H → va_D A w1 → va_S A H0 H locs → W p l e R s m args below meth c H locs cells slots Q (F0 m (pc + 3) ls rest)) : W p l e R s m args below meth c H locs cells slots Q (F0 m pc ls st0) := by
  have hF := z_freew hD hS hA
  refine va_callv hr hS (fun q _ h => hF q h) hF (fun u t H1 locs1 ht hvm hw hB hz1 hk1 hS1 => ?_)
  obtain ⟨hP1, hD1⟩ := hB
  rw [ht] at hP1
  exact kk H1 locs1 hP1 (hD1.weaken (fun _ q _ h => hF q.1 h)) hS1
end ZR
-- ===== constructors: the world that comes is at addresses that nobody knows before =====
def zQn (D : va_G) (cl : List vw_C) (w : va_W) (sz h0 : Nat) (W1 : (Nat → Nat) → (Nat → ClassId) → va_W) (T1 : (Nat → ClassId) → List (ClassId × FieldType)) : Array Value → State → Outcome → State → Prop :=
  va_Qv (fun (u : (Nat → Nat) × (Nat → ClassId)) => u.1 0 = h0) (fun u t => va_P D cl (W1 u.1 u.2) t.heap ∧ va_K D cl (T1 u.2) t ∧ va_D (va_A w sz) (W1 u.1 u.2)) (va_A w sz)
theorem zP_end {D : va_G} {cl : List vw_C} {x y : va_W} {H : Heap} (h : va_P D cl (x ++ y) H) : va_P D cl y H := zP_iff.mpr fun q hq => zP_iff.mp h q (by simp [hq])
theorem zD_end {A : Nat → Prop} {x y : va_W} (h : va_D A (x ++ y)) : va_D A y := by
  obtain ⟨h1, h2⟩ := zD_iff.mp h
  exact zD_iff.mpr ⟨(List.pairwise_append.mp h1).2.1, fun q hq => h2 q (by simp [hq])⟩
section ZN
variable {p : Program} {l : Launch} {e : Env} {R : Room} {s : State} {m : MethodId} {args : Array Value} {below : List Frame} {meth : Method} {c : Code} {H : Heap} {locs : List Loc} {cells slots : Nat} {Q : State → Prop}
variable {cc : ByteArray} {pc : Nat} {ls : Array Slot} {rest st0 : List Value} {D : va_G} {cl : List vw_C} {A : Nat → Prop} {H0 : Heap} {w wc x : va_W} {aa : Array Value}
theorem z_nret {h0 : Nat} {u : (Nat → Nat) × (Nat → ClassId)} {W1 : (Nat → Nat) → (Nat → ClassId) → va_W} {T1 : (Nat → ClassId) → List (ClassId × FieldType)} (hx : p.tables.exec = Jvm.exec) (hb : c.code = cc) (hr : meth.sig.returnType = none) (hu : u.1 0 = h0) (hP : va_P D cl (W1 u.1 u.2) H) (hD : va_D (va_A w s.heap.size) (W1 u.1 u.2)) (hK : va_K D cl (T1 u.2) s) (hS : va_S (va_A w s.heap.size) s.heap H locs) (hdg : decode cc pc = .ok (.return_, 1)) (hlocks : meth.locks = false) :
    W p l e R s m args below meth c H locs cells slots (MQ below (zQn D cl w s.heap.size h0 W1 T1) args s cells slots (va_A w s.heap.size)) (F0 m pc ls []) :=
  W.vret hx hb hr (fun t ht hW => ⟨⟨u, rfl, hu, by rw [ht]; exact hP, va_K.moved hW.alike hK, hD⟩, hS.F ht⟩) hS.2.2 hdg hlocks
theorem z_cn {mc ms h0 : Nat} {tys : List (ClassId × FieldType)} {W1 : (Nat → Nat) → (Nat → ClassId) → va_W} {T1 : (Nat → ClassId) → List (ClassId × FieldType)}
    (hr : va_Run p l e R s m args below meth c H locs cells slots mc ms (F0 m pc ls st0) rest (zQn D cl wc H.size h0 W1 T1 aa) (va_A wc H.size)) (hP : va_P D cl (x ++ wc) H) (hD : va_D A (x ++ wc)) (hS : va_S A H0 H locs) (hA : ∀ q, H0.size ≤ q → A q) (hK : va_K D cl tys s)
    (kk : ∀ (u : (Nat → Nat) × (Nat → ClassId)) (H : Heap) (locs : List Loc), u.1 0 = h0 → va_P D cl (x ++ W1 u.1 u.2) H → va_D A (x ++ W1 u.1 u.2) → va_K D cl (tys ++ T1 u.2) s → va_S A H0 H locs → W p l e R s m args below meth c H locs (cells + mc) (slots + ms) Q (F0 m (pc + 3) ls rest)) : W p l e R s m args below meth c H locs cells slots Q (F0 m pc ls st0) := by
  have hP' : va_P D cl (x ++ (wc ++ [])) H := by rw [List.append_nil]; exact hP
  have hD' : va_D A (x ++ (wc ++ [])) := by rw [List.append_nil]; exact hD
  have hF : ∀ q, va_A wc H.size q → A q := z_freew (zD_end hD) hS hA
  refine va_callv hr hS (fun q _ h => hF q h) hF (fun u t H1 locs1 ht hvm hw hB hz1 hk1 hS1 => ?_)
  obtain ⟨hP1, hK1, hD1⟩ := hB
  rw [ht] at hP1
  obtain ⟨hP2, hD2⟩ := z_frame hP' hD' hk1 hF hP1 hD1
  rw [List.append_nil] at hP2 hD2
  exact kk u H1 locs1 hw hP2 hD2 (hK.app (va_K.moved hvm.symm hK1)) hS1
end ZN
end
