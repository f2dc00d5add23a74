/-! THE CLAIM OUT OF ONE WALK OF THE LAW'S BODY. Your part is whole_start (and what it stands on); all else here is the same for every law, but numbers. -/
def R_law : String := "OutputStoreLaw"
def lw_P (b : Addr) (xs : List Int32) (args : Array Value) (s : State) : Prop := args = #[.ref b] ∧ s.IntsAt b xs ∧ xs.length ≤ 3584 ∧ (Jvm.Cond.and given_1 narrow_1).before args s = true
def lw_Q (_ : Array Value) (s : State) (o : Outcome) (t : State) : Prop := o = .returned (some (.int 1)) ∧ Framed s o t [] 45 8828
def lw_Z (below : List Frame) (a : Array Value) (s : State) : State → Prop := fun t => ∃ o, t.status = .running ∧ Ended t below o ∧ lw_Q a s o t
/-- the law's own end, with 1 on the stack, nothing written that was there before, its room as the claim has it -/
theorem lw_ret {p : Program} {l : Launch} {e : Env} {s : State} {m : MethodId} {below : List Frame} {meth : Method} {c : Code} {b : Nat} (hx : p.tables.exec = Jvm.exec) (hb : c.code = code) (hr : meth.sig.returnType = ret) (hlocks : meth.locks = false) {pc : Nat} {H : Heap} {ls : Array Slot} (hdg : decode code pc = .ok (.ireturn, 1)) : W p l e room_1 s m #[Value.ref b] below meth c H [] 45 8828 (lw_Z below #[Value.ref b] s) (F0 m pc ls [.int 1]) := by
  intro T hT X
  obtain ⟨fs, hret, hrun, hended, hW, hframe⟩ := X.leave (v := some (.int 1)) (hlocks := hlocks) (fun h => by rw [hr] at h; cases h)
  have hmeth' : T.vm.method? m = some meth := X.method'
  refine ⟨T.setFrames fs, ?_, .returned (some (.int 1)), hrun, hended, rfl, ⟨_, rfl⟩, hW, hframe⟩
  jvm_step X.here [X.here.top, hx, hb, hdg, hmeth', hr, ret, narrow_b1]
  (try refine ⟨rfl, ?_⟩); (try refine ⟨rfl, ?_⟩)
  first | (intro acts; rw [hret _ acts rfl rfl rfl]) | rw [hret _ _ rfl rfl rfl]
  exact Steps.refl _
/-- what holds at the law's entry: the machine, the code, the tables' words (any of lw_tbl by 'hts w (by decide +kernel)'), the script of L ints xs at the cell b, what the Statement gives of the start (any of its parts by flat_of_before) -/
def lw_At (p : Program) (s : State) (m : MethodId) (meth : Method) (c : Code) (b L : Nat) (xs : Nat → Int32) : Prop :=
  p.tables.exec = Jvm.exec ∧ c.code = code ∧ meth.sig.returnType = ret ∧ c.maxLocals = 4 ∧ s.vm.findClass R_law = some m.cls ∧ (∀ w ∈ lw_tbl, w.before #[Value.ref b] s = true) ∧ va_X b L xs s s.heap ∧ b < s.heap.size ∧ meth.locks = false ∧ (Jvm.Cond.and given_1 narrow_1).before #[Value.ref b] s = true
theorem z_sw16 {x : Int32} (h0 : ¬ x = 0) (h1 : ¬ x = 1) (h2 : ¬ x = 2) (h3 : ¬ x = 3) (h4 : ¬ x = 4) (h5 : ¬ x = 5) (h6 : ¬ x = 6) (h7 : ¬ x = 7) (h8 : ¬ x = 8) (h9 : ¬ x = 9) (h10 : ¬ x = 10) (h11 : ¬ x = 11) (h12 : ¬ x = 12) (h13 : ¬ x = 13) (h14 : ¬ x = 14) (h15 : ¬ x = 15) : x.toInt < 0 ∨ 15 < x.toInt := by
  have a0 := z_ne (k := 0) h0 (by decide)
  have a1 := z_ne (k := 1) h1 (by decide)
  have a2 := z_ne (k := 2) h2 (by decide)
  have a3 := z_ne (k := 3) h3 (by decide)
  have a4 := z_ne (k := 4) h4 (by decide)
  have a5 := z_ne (k := 5) h5 (by decide)
  have a6 := z_ne (k := 6) h6 (by decide)
  have a7 := z_ne (k := 7) h7 (by decide)
  have a8 := z_ne (k := 8) h8 (by decide)
  have a9 := z_ne (k := 9) h9 (by decide)
  have a10 := z_ne (k := 10) h10 (by decide)
  have a11 := z_ne (k := 11) h11 (by decide)
  have a12 := z_ne (k := 12) h12 (by decide)
  have a13 := z_ne (k := 13) h13 (by decide)
  have a14 := z_ne (k := 14) h14 (by decide)
  have a15 := z_ne (k := 15) h15 (by decide)
  omega
theorem zP_fst {D : va_G} {cl : List vw_C} {x y : va_W} {H : Heap} (h : va_P D cl (x ++ y) H) : va_P D cl x H := zP_iff.mpr fun q hq => zP_iff.mp h q (by simp [hq])
theorem zD_fst {A : Nat → Prop} {x y : va_W} (h : va_D A (x ++ y)) : va_D A x := by
  obtain ⟨h1, h2⟩ := zD_iff.mp h
  exact zD_iff.mpr ⟨(List.pairwise_append.mp h1).1, fun q hq => h2 q (by simp [hq])⟩
section ZL
variable {p : Program} {l : Launch} {e : Env} {R : Room} {s : State} {m : MethodId} {args : Array Value} {below : List Frame} {meth : Method} {c : Code} {H : Heap} {locs : List Loc} {cells slots : Nat} {Q : State → Prop}
variable {pc : Nat} {ls : Array Slot} {rest st0 : List Value} {D : va_G} {cl : List vw_C} {A : Nat → Prop} {H0 : Heap} {w1 wc x z : va_W} {aa : Array Value}
theorem z_frA {H1 : Heap} (hP : va_P D cl (wc ++ z) H) (hD : va_D A (wc ++ z)) (hk : ∀ q : Nat, q < H.size → ¬ va_A wc H.size q → H1[q]? = H[q]?) (hF : ∀ q, va_A wc H.size q → A q) (hP1 : va_P D cl w1 H1) (hD1 : va_D (va_A wc H.size) w1) : va_P D cl (w1 ++ z) H1 ∧ va_D A (w1 ++ z) := z_frame (x := []) hP hD hk hF hP1 hD1
theorem z_frB {H1 : Heap} (hP : va_P D cl (x ++ wc) H) (hD : va_D A (x ++ wc)) (hk : ∀ q : Nat, q < H.size → ¬ va_A wc H.size q → H1[q]? = H[q]?) (hF : ∀ q, va_A wc H.size q → A q) (hP1 : va_P D cl w1 H1) (hD1 : va_D (va_A wc H.size) w1) : va_P D cl (x ++ w1) H1 ∧ va_D A (x ++ w1) := by
  have h := z_frame (z := []) (x := x) (wc := wc) (w1 := w1) (by rw [List.append_nil]; exact hP) (by rw [List.append_nil]; exact hD) hk hF hP1 hD1
  rw [List.append_nil] at h
  exact h
theorem z_lai {r : Int32} (hr : va_Run p l e R s m args below meth c H locs cells slots 0 0 (F0 m pc ls st0) rest (zQi D cl wc H.size r w1 aa) (va_A wc H.size)) (hP : va_P D cl (wc ++ z) H) (hD : va_D A (wc ++ z)) (hS : va_S A H0 H locs) (hA : ∀ q, H0.size ≤ q → A q)
    (kk : ∀ (H : Heap) (locs : List Loc), va_P D cl (w1 ++ z) H → va_D A (w1 ++ z) → va_S A H0 H locs → W p l e R s m args below meth c H locs cells slots Q (F0 m (pc + 3) ls (.int r :: rest))) : W p l e R s m args below meth c H locs cells slots Q (F0 m pc ls st0) := by
  have hF := z_freew (zD_fst hD) hS hA
  refine va_calli hr hS (fun q _ h => hF q h) hF (fun y u t H1 locs1 ht hvm hw hB hz1 hk1 hS1 => ?_)
  obtain ⟨hP1, hD1⟩ := hB
  rw [ht] at hP1
  subst hw
  obtain ⟨hP2, hD2⟩ := z_frA hP hD hk1 hF hP1 hD1
  exact kk H1 locs1 hP2 hD2 hS1
theorem z_lal {r : Int64} (hr : va_Run p l e R s m args below meth c H locs cells slots 0 0 (F0 m pc ls st0) rest (zQl D cl wc H.size r w1 aa) (va_A wc H.size)) (hP : va_P D cl (wc ++ z) H) (hD : va_D A (wc ++ z)) (hS : va_S A H0 H locs) (hA : ∀ q, H0.size ≤ q → A q)
    (kk : ∀ (H : Heap) (locs : List Loc), va_P D cl (w1 ++ z) H → va_D A (w1 ++ z) → va_S A H0 H locs → W p l e R s m args below meth c H locs cells slots Q (F0 m (pc + 3) ls (.long r :: rest))) : W p l e R s m args below meth c H locs cells slots Q (F0 m pc ls st0) := by
  have hF := z_freew (zD_fst hD) hS hA
  refine va_calll hr hS (fun q _ h => hF q h) hF (fun y u t H1 locs1 ht hvm hw hB hz1 hk1 hS1 => ?_)
  obtain ⟨hP1, hD1⟩ := hB
  rw [ht] at hP1
  subst hw
  obtain ⟨hP2, hD2⟩ := z_frA hP hD hk1 hF hP1 hD1
  exact kk H1 locs1 hP2 hD2 hS1
theorem z_lbi {r : Int32} (hr : va_Run p l e R s m args below meth c H locs cells slots 0 0 (F0 m pc ls st0) rest (zQi D cl wc H.size r w1 aa) (va_A wc H.size)) (hP : va_P D cl (x ++ wc) H) (hD : va_D A (x ++ wc)) (hS : va_S A H0 H locs) (hA : ∀ q, H0.size ≤ q → A q)
    (kk : ∀ (H : Heap) (locs : List Loc), va_P D cl (x ++ w1) H → va_D A (x ++ w1) → va_S A H0 H locs → W p l e R s m args below meth c H locs cells slots Q (F0 m (pc + 3) ls (.int r :: rest))) : W p l e R s m args below meth c H locs cells slots Q (F0 m pc ls st0) := by
  have hF := z_freew (zD_end hD) hS hA
  refine va_calli hr hS (fun q _ h => hF q h) hF (fun y u t H1 locs1 ht hvm hw hB hz1 hk1 hS1 => ?_)
  obtain ⟨hP1, hD1⟩ := hB
  rw [ht] at hP1
  subst hw
  obtain ⟨hP2, hD2⟩ := z_frB hP hD hk1 hF hP1 hD1
  exact kk H1 locs1 hP2 hD2 hS1
theorem z_lbl {r : Int64} (hr : va_Run p l e R s m args below meth c H locs cells slots 0 0 (F0 m pc ls st0) rest (zQl D cl wc H.size r w1 aa) (va_A wc H.size)) (hP : va_P D cl (x ++ wc) H) (hD : va_D A (x ++ wc)) (hS : va_S A H0 H locs) (hA : ∀ q, H0.size ≤ q → A q)
    (kk : ∀ (H : Heap) (locs : List Loc), va_P D cl (x ++ w1) H → va_D A (x ++ w1) → va_S A H0 H locs → W p l e R s m args below meth c H locs cells slots Q (F0 m (pc + 3) ls (.long r :: rest))) : W p l e R s m args below meth c H locs cells slots Q (F0 m pc ls st0) := by
  have hF := z_freew (zD_end hD) hS hA
  refine va_calll hr hS (fun q _ h => hF q h) hF (fun y u t H1 locs1 ht hvm hw hB hz1 hk1 hS1 => ?_)
  obtain ⟨hP1, hD1⟩ := hB
  rw [ht] at hP1
  subst hw
  obtain ⟨hP2, hD2⟩ := z_frB hP hD hk1 hF hP1 hD1
  exact kk H1 locs1 hP2 hD2 hS1
end ZL
theorem k_1_135 : Cond.methodLink "OutputStoreLaw" 13 (⟨"OutputStore", "path", "(I)I"⟩ : MethodName) ∈ zW := zin_1 (List.mem_of_getElem? (i := 135) rfl) rfl
theorem k_1_136 : Cond.instanceMethod (⟨"OutputStore", "path", "(I)I"⟩ : MethodName) ∈ zW := zin_1 (List.mem_of_getElem? (i := 136) rfl) rfl
theorem k_1_137 : Cond.selects "OutputStore" (⟨"OutputStore", "path", "(I)I"⟩ : MethodName) (⟨"OutputStore", "path", "(I)I"⟩ : MethodName) ∈ zW := zin_1 (List.mem_of_getElem? (i := 137) rfl) rfl
theorem k_1_147 : Cond.methodLink "OutputStoreLaw" 18 (⟨"OutputStore", "begin", "(III)I"⟩ : MethodName) ∈ zW := zin_1 (List.mem_of_getElem? (i := 147) rfl) rfl
theorem k_1_148 : Cond.instanceMethod (⟨"OutputStore", "begin", "(III)I"⟩ : MethodName) ∈ zW := zin_1 (List.mem_of_getElem? (i := 148) rfl) rfl
theorem k_1_149 : Cond.selects "OutputStore" (⟨"OutputStore", "begin", "(III)I"⟩ : MethodName) (⟨"OutputStore", "begin", "(III)I"⟩ : MethodName) ∈ zW := zin_1 (List.mem_of_getElem? (i := 149) rfl) rfl
theorem k_1_181 : Cond.methodLink "OutputStoreLaw" 25 (⟨"OutputStore", "stage", "(IIJZZ)I"⟩ : MethodName) ∈ zW := zin_1 (List.mem_of_getElem? (i := 181) rfl) rfl
theorem k_1_182 : Cond.instanceMethod (⟨"OutputStore", "stage", "(IIJZZ)I"⟩ : MethodName) ∈ zW := zin_1 (List.mem_of_getElem? (i := 182) rfl) rfl
theorem k_1_183 : Cond.selects "OutputStore" (⟨"OutputStore", "stage", "(IIJZZ)I"⟩ : MethodName) (⟨"OutputStore", "stage", "(IIJZZ)I"⟩ : MethodName) ∈ zW := zin_1 (List.mem_of_getElem? (i := 183) rfl) rfl
theorem k_2_11 : Cond.methodLink "OutputStoreLaw" 30 (⟨"OutputStore", "end", "(IZ)I"⟩ : MethodName) ∈ zW := zin_2 (List.mem_of_getElem? (i := 11) rfl) rfl
theorem k_2_12 : Cond.instanceMethod (⟨"OutputStore", "end", "(IZ)I"⟩ : MethodName) ∈ zW := zin_2 (List.mem_of_getElem? (i := 12) rfl) rfl
theorem k_2_13 : Cond.selects "OutputStore" (⟨"OutputStore", "end", "(IZ)I"⟩ : MethodName) (⟨"OutputStore", "end", "(IZ)I"⟩ : MethodName) ∈ zW := zin_2 (List.mem_of_getElem? (i := 13) rfl) rfl
theorem k_2_49 : Cond.methodLink "OutputStoreLaw" 35 (⟨"OutputStore", "abandon", "(I)I"⟩ : MethodName) ∈ zW := zin_2 (List.mem_of_getElem? (i := 49) rfl) rfl
theorem k_2_50 : Cond.instanceMethod (⟨"OutputStore", "abandon", "(I)I"⟩ : MethodName) ∈ zW := zin_2 (List.mem_of_getElem? (i := 50) rfl) rfl
theorem k_2_51 : Cond.selects "OutputStore" (⟨"OutputStore", "abandon", "(I)I"⟩ : MethodName) (⟨"OutputStore", "abandon", "(I)I"⟩ : MethodName) ∈ zW := zin_2 (List.mem_of_getElem? (i := 51) rfl) rfl
theorem k_2_57 : Cond.methodLink "OutputStoreLaw" 39 (⟨"OutputStore", "cache", "(JZ)Z"⟩ : MethodName) ∈ zW := zin_2 (List.mem_of_getElem? (i := 57) rfl) rfl
theorem k_2_58 : Cond.instanceMethod (⟨"OutputStore", "cache", "(JZ)Z"⟩ : MethodName) ∈ zW := zin_2 (List.mem_of_getElem? (i := 58) rfl) rfl
theorem k_2_59 : Cond.selects "OutputStore" (⟨"OutputStore", "cache", "(JZ)Z"⟩ : MethodName) (⟨"OutputStore", "cache", "(JZ)Z"⟩ : MethodName) ∈ zW := zin_2 (List.mem_of_getElem? (i := 59) rfl) rfl
theorem k_2_70 : Cond.methodLink "OutputStoreLaw" 44 (⟨"OutputStore", "read", "(II)I"⟩ : MethodName) ∈ zW := zin_2 (List.mem_of_getElem? (i := 70) rfl) rfl
theorem k_2_71 : Cond.instanceMethod (⟨"OutputStore", "read", "(II)I"⟩ : MethodName) ∈ zW := zin_2 (List.mem_of_getElem? (i := 71) rfl) rfl
theorem k_2_72 : Cond.selects "OutputStore" (⟨"OutputStore", "read", "(II)I"⟩ : MethodName) (⟨"OutputStore", "read", "(II)I"⟩ : MethodName) ∈ zW := zin_2 (List.mem_of_getElem? (i := 72) rfl) rfl
theorem k_2_87 : Cond.methodLink "OutputStoreLaw" 49 (⟨"OutputStore", "held", "(I)J"⟩ : MethodName) ∈ zW := zin_2 (List.mem_of_getElem? (i := 87) rfl) rfl
theorem k_2_88 : Cond.instanceMethod (⟨"OutputStore", "held", "(I)J"⟩ : MethodName) ∈ zW := zin_2 (List.mem_of_getElem? (i := 88) rfl) rfl
theorem k_2_89 : Cond.selects "OutputStore" (⟨"OutputStore", "held", "(I)J"⟩ : MethodName) (⟨"OutputStore", "held", "(I)J"⟩ : MethodName) ∈ zW := zin_2 (List.mem_of_getElem? (i := 89) rfl) rfl
theorem k_2_99 : Cond.methodLink "OutputStoreLaw" 54 (⟨"OutputStore", "letGo", "(I)Z"⟩ : MethodName) ∈ zW := zin_2 (List.mem_of_getElem? (i := 99) rfl) rfl
theorem k_2_100 : Cond.instanceMethod (⟨"OutputStore", "letGo", "(I)Z"⟩ : MethodName) ∈ zW := zin_2 (List.mem_of_getElem? (i := 100) rfl) rfl
theorem k_2_101 : Cond.selects "OutputStore" (⟨"OutputStore", "letGo", "(I)Z"⟩ : MethodName) (⟨"OutputStore", "letGo", "(I)Z"⟩ : MethodName) ∈ zW := zin_2 (List.mem_of_getElem? (i := 101) rfl) rfl
theorem k_2_107 : Cond.methodLink "OutputStoreLaw" 59 (⟨"OutputStore", "content", "(II)J"⟩ : MethodName) ∈ zW := zin_2 (List.mem_of_getElem? (i := 107) rfl) rfl
theorem k_2_108 : Cond.instanceMethod (⟨"OutputStore", "content", "(II)J"⟩ : MethodName) ∈ zW := zin_2 (List.mem_of_getElem? (i := 108) rfl) rfl
theorem k_2_109 : Cond.selects "OutputStore" (⟨"OutputStore", "content", "(II)J"⟩ : MethodName) (⟨"OutputStore", "content", "(II)J"⟩ : MethodName) ∈ zW := zin_2 (List.mem_of_getElem? (i := 109) rfl) rfl
theorem k_2_111 : Cond.methodLink "OutputStoreLaw" 64 (⟨"OutputStore", "about", "(III)I"⟩ : MethodName) ∈ zW := zin_2 (List.mem_of_getElem? (i := 111) rfl) rfl
theorem k_2_112 : Cond.instanceMethod (⟨"OutputStore", "about", "(III)I"⟩ : MethodName) ∈ zW := zin_2 (List.mem_of_getElem? (i := 112) rfl) rfl
theorem k_2_113 : Cond.selects "OutputStore" (⟨"OutputStore", "about", "(III)I"⟩ : MethodName) (⟨"OutputStore", "about", "(III)I"⟩ : MethodName) ∈ zW := zin_2 (List.mem_of_getElem? (i := 113) rfl) rfl
theorem k_2_115 : Cond.methodLink "OutputStoreLaw" 68 (⟨"OutputStore", "list", "(III)I"⟩ : MethodName) ∈ zW := zin_2 (List.mem_of_getElem? (i := 115) rfl) rfl
theorem k_2_116 : Cond.instanceMethod (⟨"OutputStore", "list", "(III)I"⟩ : MethodName) ∈ zW := zin_2 (List.mem_of_getElem? (i := 116) rfl) rfl
theorem k_2_117 : Cond.selects "OutputStore" (⟨"OutputStore", "list", "(III)I"⟩ : MethodName) (⟨"OutputStore", "list", "(III)I"⟩ : MethodName) ∈ zW := zin_2 (List.mem_of_getElem? (i := 117) rfl) rfl
theorem k_2_120 : Cond.methodLink "OutputStoreLaw" 72 (⟨"OutputStore", "dirty", "(II)Z"⟩ : MethodName) ∈ zW := zin_2 (List.mem_of_getElem? (i := 120) rfl) rfl
theorem k_2_121 : Cond.instanceMethod (⟨"OutputStore", "dirty", "(II)Z"⟩ : MethodName) ∈ zW := zin_2 (List.mem_of_getElem? (i := 121) rfl) rfl
theorem k_2_122 : Cond.selects "OutputStore" (⟨"OutputStore", "dirty", "(II)Z"⟩ : MethodName) (⟨"OutputStore", "dirty", "(II)Z"⟩ : MethodName) ∈ zW := zin_2 (List.mem_of_getElem? (i := 122) rfl) rfl
theorem k_2_128 : Cond.methodLink "OutputStoreLaw" 77 (⟨"OutputStore", "clear", "(I)I"⟩ : MethodName) ∈ zW := zin_2 (List.mem_of_getElem? (i := 128) rfl) rfl
theorem k_2_129 : Cond.instanceMethod (⟨"OutputStore", "clear", "(I)I"⟩ : MethodName) ∈ zW := zin_2 (List.mem_of_getElem? (i := 129) rfl) rfl
theorem k_2_130 : Cond.selects "OutputStore" (⟨"OutputStore", "clear", "(I)I"⟩ : MethodName) (⟨"OutputStore", "clear", "(I)I"⟩ : MethodName) ∈ zW := zin_2 (List.mem_of_getElem? (i := 130) rfl) rfl
theorem k_2_136 : Cond.methodLink "OutputStoreLaw" 81 (⟨"OutputStore", "copies", "(J)I"⟩ : MethodName) ∈ zW := zin_2 (List.mem_of_getElem? (i := 136) rfl) rfl
theorem k_2_137 : Cond.instanceMethod (⟨"OutputStore", "copies", "(J)I"⟩ : MethodName) ∈ zW := zin_2 (List.mem_of_getElem? (i := 137) rfl) rfl
theorem k_2_138 : Cond.selects "OutputStore" (⟨"OutputStore", "copies", "(J)I"⟩ : MethodName) (⟨"OutputStore", "copies", "(J)I"⟩ : MethodName) ∈ zW := zin_2 (List.mem_of_getElem? (i := 138) rfl) rfl
theorem k_2_150 : Cond.methodLink "OutputStoreLaw" 86 (⟨"OutputStore", "stored", "()I"⟩ : MethodName) ∈ zW := zin_2 (List.mem_of_getElem? (i := 150) rfl) rfl
theorem k_2_151 : Cond.instanceMethod (⟨"OutputStore", "stored", "()I"⟩ : MethodName) ∈ zW := zin_2 (List.mem_of_getElem? (i := 151) rfl) rfl
theorem k_2_152 : Cond.selects "OutputStore" (⟨"OutputStore", "stored", "()I"⟩ : MethodName) (⟨"OutputStore", "stored", "()I"⟩ : MethodName) ∈ zW := zin_2 (List.mem_of_getElem? (i := 152) rfl) rfl
theorem k_2_234 : Cond.methodLink "OutputStoreLaw" 17 (⟨"OutputStoreModel", "path", "(I)I"⟩ : MethodName) ∈ zW := zin_2 (List.mem_of_getElem? (i := 234) rfl) rfl
theorem k_2_235 : Cond.instanceMethod (⟨"OutputStoreModel", "path", "(I)I"⟩ : MethodName) ∈ zW := zin_2 (List.mem_of_getElem? (i := 235) rfl) rfl
theorem k_2_236 : Cond.selects "OutputStoreModel" (⟨"OutputStoreModel", "path", "(I)I"⟩ : MethodName) (⟨"OutputStoreModel", "path", "(I)I"⟩ : MethodName) ∈ zW := zin_2 (List.mem_of_getElem? (i := 236) rfl) rfl
theorem k_3_2 : Cond.methodLink "OutputStoreLaw" 22 (⟨"OutputStoreModel", "begin", "(III)I"⟩ : MethodName) ∈ zW := zin_3 (List.mem_of_getElem? (i := 2) rfl) rfl
theorem k_3_3 : Cond.instanceMethod (⟨"OutputStoreModel", "begin", "(III)I"⟩ : MethodName) ∈ zW := zin_3 (List.mem_of_getElem? (i := 3) rfl) rfl
theorem k_3_4 : Cond.selects "OutputStoreModel" (⟨"OutputStoreModel", "begin", "(III)I"⟩ : MethodName) (⟨"OutputStoreModel", "begin", "(III)I"⟩ : MethodName) ∈ zW := zin_3 (List.mem_of_getElem? (i := 4) rfl) rfl
theorem k_3_9 : Cond.methodLink "OutputStoreLaw" 29 (⟨"OutputStoreModel", "stage", "(IIJZZ)I"⟩ : MethodName) ∈ zW := zin_3 (List.mem_of_getElem? (i := 9) rfl) rfl
theorem k_3_10 : Cond.instanceMethod (⟨"OutputStoreModel", "stage", "(IIJZZ)I"⟩ : MethodName) ∈ zW := zin_3 (List.mem_of_getElem? (i := 10) rfl) rfl
theorem k_3_11 : Cond.selects "OutputStoreModel" (⟨"OutputStoreModel", "stage", "(IIJZZ)I"⟩ : MethodName) (⟨"OutputStoreModel", "stage", "(IIJZZ)I"⟩ : MethodName) ∈ zW := zin_3 (List.mem_of_getElem? (i := 11) rfl) rfl
theorem k_3_41 : Cond.methodLink "OutputStoreLaw" 34 (⟨"OutputStoreModel", "end", "(IZ)I"⟩ : MethodName) ∈ zW := zin_3 (List.mem_of_getElem? (i := 41) rfl) rfl
theorem k_3_42 : Cond.instanceMethod (⟨"OutputStoreModel", "end", "(IZ)I"⟩ : MethodName) ∈ zW := zin_3 (List.mem_of_getElem? (i := 42) rfl) rfl
theorem k_3_43 : Cond.selects "OutputStoreModel" (⟨"OutputStoreModel", "end", "(IZ)I"⟩ : MethodName) (⟨"OutputStoreModel", "end", "(IZ)I"⟩ : MethodName) ∈ zW := zin_3 (List.mem_of_getElem? (i := 43) rfl) rfl
theorem k_3_49 : Cond.methodLink "OutputStoreLaw" 38 (⟨"OutputStoreModel", "abandon", "(I)I"⟩ : MethodName) ∈ zW := zin_3 (List.mem_of_getElem? (i := 49) rfl) rfl
theorem k_3_50 : Cond.instanceMethod (⟨"OutputStoreModel", "abandon", "(I)I"⟩ : MethodName) ∈ zW := zin_3 (List.mem_of_getElem? (i := 50) rfl) rfl
theorem k_3_51 : Cond.selects "OutputStoreModel" (⟨"OutputStoreModel", "abandon", "(I)I"⟩ : MethodName) (⟨"OutputStoreModel", "abandon", "(I)I"⟩ : MethodName) ∈ zW := zin_3 (List.mem_of_getElem? (i := 51) rfl) rfl
theorem k_3_53 : Cond.methodLink "OutputStoreLaw" 43 (⟨"OutputStoreModel", "cache", "(JZ)Z"⟩ : MethodName) ∈ zW := zin_3 (List.mem_of_getElem? (i := 53) rfl) rfl
theorem k_3_54 : Cond.instanceMethod (⟨"OutputStoreModel", "cache", "(JZ)Z"⟩ : MethodName) ∈ zW := zin_3 (List.mem_of_getElem? (i := 54) rfl) rfl
theorem k_3_55 : Cond.selects "OutputStoreModel" (⟨"OutputStoreModel", "cache", "(JZ)Z"⟩ : MethodName) (⟨"OutputStoreModel", "cache", "(JZ)Z"⟩ : MethodName) ∈ zW := zin_3 (List.mem_of_getElem? (i := 55) rfl) rfl
theorem k_3_57 : Cond.methodLink "OutputStoreLaw" 48 (⟨"OutputStoreModel", "read", "(II)I"⟩ : MethodName) ∈ zW := zin_3 (List.mem_of_getElem? (i := 57) rfl) rfl
theorem k_3_58 : Cond.instanceMethod (⟨"OutputStoreModel", "read", "(II)I"⟩ : MethodName) ∈ zW := zin_3 (List.mem_of_getElem? (i := 58) rfl) rfl
theorem k_3_59 : Cond.selects "OutputStoreModel" (⟨"OutputStoreModel", "read", "(II)I"⟩ : MethodName) (⟨"OutputStoreModel", "read", "(II)I"⟩ : MethodName) ∈ zW := zin_3 (List.mem_of_getElem? (i := 59) rfl) rfl
theorem k_3_65 : Cond.methodLink "OutputStoreLaw" 53 (⟨"OutputStoreModel", "held", "(I)J"⟩ : MethodName) ∈ zW := zin_3 (List.mem_of_getElem? (i := 65) rfl) rfl
theorem k_3_66 : Cond.instanceMethod (⟨"OutputStoreModel", "held", "(I)J"⟩ : MethodName) ∈ zW := zin_3 (List.mem_of_getElem? (i := 66) rfl) rfl
theorem k_3_67 : Cond.selects "OutputStoreModel" (⟨"OutputStoreModel", "held", "(I)J"⟩ : MethodName) (⟨"OutputStoreModel", "held", "(I)J"⟩ : MethodName) ∈ zW := zin_3 (List.mem_of_getElem? (i := 67) rfl) rfl
theorem k_3_69 : Cond.methodLink "OutputStoreLaw" 58 (⟨"OutputStoreModel", "letGo", "(I)Z"⟩ : MethodName) ∈ zW := zin_3 (List.mem_of_getElem? (i := 69) rfl) rfl
theorem k_3_70 : Cond.instanceMethod (⟨"OutputStoreModel", "letGo", "(I)Z"⟩ : MethodName) ∈ zW := zin_3 (List.mem_of_getElem? (i := 70) rfl) rfl
theorem k_3_71 : Cond.selects "OutputStoreModel" (⟨"OutputStoreModel", "letGo", "(I)Z"⟩ : MethodName) (⟨"OutputStoreModel", "letGo", "(I)Z"⟩ : MethodName) ∈ zW := zin_3 (List.mem_of_getElem? (i := 71) rfl) rfl
theorem k_3_73 : Cond.methodLink "OutputStoreLaw" 63 (⟨"OutputStoreModel", "content", "(II)J"⟩ : MethodName) ∈ zW := zin_3 (List.mem_of_getElem? (i := 73) rfl) rfl
theorem k_3_74 : Cond.instanceMethod (⟨"OutputStoreModel", "content", "(II)J"⟩ : MethodName) ∈ zW := zin_3 (List.mem_of_getElem? (i := 74) rfl) rfl
theorem k_3_75 : Cond.selects "OutputStoreModel" (⟨"OutputStoreModel", "content", "(II)J"⟩ : MethodName) (⟨"OutputStoreModel", "content", "(II)J"⟩ : MethodName) ∈ zW := zin_3 (List.mem_of_getElem? (i := 75) rfl) rfl
theorem k_3_77 : Cond.methodLink "OutputStoreLaw" 67 (⟨"OutputStoreModel", "about", "(III)I"⟩ : MethodName) ∈ zW := zin_3 (List.mem_of_getElem? (i := 77) rfl) rfl
theorem k_3_78 : Cond.instanceMethod (⟨"OutputStoreModel", "about", "(III)I"⟩ : MethodName) ∈ zW := zin_3 (List.mem_of_getElem? (i := 78) rfl) rfl
theorem k_3_79 : Cond.selects "OutputStoreModel" (⟨"OutputStoreModel", "about", "(III)I"⟩ : MethodName) (⟨"OutputStoreModel", "about", "(III)I"⟩ : MethodName) ∈ zW := zin_3 (List.mem_of_getElem? (i := 79) rfl) rfl
theorem k_3_81 : Cond.methodLink "OutputStoreLaw" 71 (⟨"OutputStoreModel", "list", "(III)I"⟩ : MethodName) ∈ zW := zin_3 (List.mem_of_getElem? (i := 81) rfl) rfl
theorem k_3_82 : Cond.instanceMethod (⟨"OutputStoreModel", "list", "(III)I"⟩ : MethodName) ∈ zW := zin_3 (List.mem_of_getElem? (i := 82) rfl) rfl
theorem k_3_83 : Cond.selects "OutputStoreModel" (⟨"OutputStoreModel", "list", "(III)I"⟩ : MethodName) (⟨"OutputStoreModel", "list", "(III)I"⟩ : MethodName) ∈ zW := zin_3 (List.mem_of_getElem? (i := 83) rfl) rfl
theorem k_3_85 : Cond.methodLink "OutputStoreLaw" 76 (⟨"OutputStoreModel", "dirty", "(II)Z"⟩ : MethodName) ∈ zW := zin_3 (List.mem_of_getElem? (i := 85) rfl) rfl
theorem k_3_86 : Cond.instanceMethod (⟨"OutputStoreModel", "dirty", "(II)Z"⟩ : MethodName) ∈ zW := zin_3 (List.mem_of_getElem? (i := 86) rfl) rfl
theorem k_3_87 : Cond.selects "OutputStoreModel" (⟨"OutputStoreModel", "dirty", "(II)Z"⟩ : MethodName) (⟨"OutputStoreModel", "dirty", "(II)Z"⟩ : MethodName) ∈ zW := zin_3 (List.mem_of_getElem? (i := 87) rfl) rfl
theorem k_3_89 : Cond.methodLink "OutputStoreLaw" 80 (⟨"OutputStoreModel", "clear", "(I)I"⟩ : MethodName) ∈ zW := zin_3 (List.mem_of_getElem? (i := 89) rfl) rfl
theorem k_3_90 : Cond.instanceMethod (⟨"OutputStoreModel", "clear", "(I)I"⟩ : MethodName) ∈ zW := zin_3 (List.mem_of_getElem? (i := 90) rfl) rfl
theorem k_3_91 : Cond.selects "OutputStoreModel" (⟨"OutputStoreModel", "clear", "(I)I"⟩ : MethodName) (⟨"OutputStoreModel", "clear", "(I)I"⟩ : MethodName) ∈ zW := zin_3 (List.mem_of_getElem? (i := 91) rfl) rfl
theorem k_3_93 : Cond.methodLink "OutputStoreLaw" 85 (⟨"OutputStoreModel", "copies", "(J)I"⟩ : MethodName) ∈ zW := zin_3 (List.mem_of_getElem? (i := 93) rfl) rfl
theorem k_3_94 : Cond.instanceMethod (⟨"OutputStoreModel", "copies", "(J)I"⟩ : MethodName) ∈ zW := zin_3 (List.mem_of_getElem? (i := 94) rfl) rfl
theorem k_3_95 : Cond.selects "OutputStoreModel" (⟨"OutputStoreModel", "copies", "(J)I"⟩ : MethodName) (⟨"OutputStoreModel", "copies", "(J)I"⟩ : MethodName) ∈ zW := zin_3 (List.mem_of_getElem? (i := 95) rfl) rfl
theorem k_3_105 : Cond.methodLink "OutputStoreLaw" 90 (⟨"OutputStoreModel", "stored", "()I"⟩ : MethodName) ∈ zW := zin_3 (List.mem_of_getElem? (i := 105) rfl) rfl
theorem k_3_106 : Cond.instanceMethod (⟨"OutputStoreModel", "stored", "()I"⟩ : MethodName) ∈ zW := zin_3 (List.mem_of_getElem? (i := 106) rfl) rfl
theorem k_3_107 : Cond.selects "OutputStoreModel" (⟨"OutputStoreModel", "stored", "()I"⟩ : MethodName) (⟨"OutputStoreModel", "stored", "()I"⟩ : MethodName) ∈ zW := zin_3 (List.mem_of_getElem? (i := 107) rfl) rfl
theorem k_3_109 : Cond.constantLong "OutputStoreLaw" 23 4294967295 ∈ zW := zin_3 (List.mem_of_getElem? (i := 109) rfl) rfl
