-- ===== the roads of a method as a pure function: guards, branches, calls =====
/-- an index that is looked at: the road goes on only inside the row -/
def gz {α : Type} (i : Int32) (n : Nat) (x : Option α) : Option α := if 0 ≤ i.toInt ∧ i.toInt < (n : Int) then x else none
/-- an answer that is a boolean -/
def zb {α : Type} (v : Int32) (x : Option α) : Option α := if v = 0 ∨ v = 1 then x else none
theorem z_gz {α : Type} {i : Int32} {n : Nat} {x : Option α} {y : α} (h : gz i n x = some y) : vp_in i n ∧ x = some y := by
  unfold gz at h
  by_cases c : 0 ≤ i.toInt ∧ i.toInt < (n : Int)
  · rw [if_pos c] at h
    exact ⟨vp_in_iff.mpr c, h⟩
  · rw [if_neg c] at h
    cases h
theorem z_zb {α : Type} {v : Int32} {x : Option α} {y : α} (h : zb v x = some y) : (v = 0 ∨ v = 1) ∧ x = some y := by
  unfold zb at h
  by_cases c : v = 0 ∨ v = 1
  · rw [if_pos c] at h
    exact ⟨c, h⟩
  · rw [if_neg c] at h
    cases h
theorem z_t {α : Type} {c : Prop} [Decidable c] {a b : Option α} {y : α} (h : c) (hf : (if c then a else b) = some y) : a = some y := by
  rw [if_pos h] at hf
  exact hf
theorem z_f {α : Type} {c : Prop} [Decidable c] {a b : Option α} {y : α} (h : ¬ c) (hf : (if c then a else b) = some y) : b = some y := by
  rw [if_neg h] at hf
  exact hf
theorem z_fn {α : Type} {c : Prop} [Decidable c] {a b : Option α} {y : α} (h : c) (hf : (if ¬ c then a else b) = some y) : b = some y := by
  rw [if_neg (fun q => q h)] at hf
  exact hf
theorem z_b {α β : Type} {x : Option α} {f : α → Option β} {y : β} (h : x.bind f = some y) : ∃ u, x = some u ∧ f u = some y := by
  cases x with
  | none => cases h
  | some u => exact ⟨u, rfl, h⟩
theorem z_ne {x : Int32} {k : Nat} (h : ¬ x = nI k) (hk : k < 2 ^ 31) : ¬ x.toInt = (k : Int) := fun q => h (Int32.toInt_inj.mp (by rw [nI_toInt hk]; exact q))
theorem z_sw4 {x : Int32} (h0 : ¬ x = 0) (h1 : ¬ x = 1) (h2 : ¬ x = 2) (h3 : ¬ x = 3) : x.toInt < 0 ∨ 3 < x.toInt := by
  have a0 := z_ne (k := 0) h0 (by decide)
  have a1 := z_ne (k := 1) h1 (by decide)
  have a2 := z_ne (k := 2) h2 (by decide)
  have a3 := z_ne (k := 3) h3 (by decide)
  omega
-- ===== worlds by their members =====
theorem zP_iff {D : va_G} {cl : List vw_C} {ws : va_W} {H : Heap} : va_P D cl ws H ↔ ∀ q ∈ ws, va_at D cl q H :=
  ⟨fun h q hq => by obtain ⟨k, hk⟩ := List.mem_iff_getElem?.mp hq; exact h k q hk, fun h k q hk => h q (List.mem_of_getElem? hk)⟩
theorem zD_iff {A : Nat → Prop} {ws : va_W} : va_D A ws ↔ ws.Pairwise (fun p q => p.1 ≠ q.1) ∧ ∀ q ∈ ws, A q.1 := by
  constructor
  · intro h
    refine ⟨List.pairwise_iff_getElem.mpr ?_, fun q hq => by obtain ⟨k, hk⟩ := List.mem_iff_getElem?.mp hq; exact h.2 k q hk⟩
    intro i j hi hj hij e
    have := h.1 i j _ _ (List.getElem?_eq_getElem hi) (List.getElem?_eq_getElem hj) e
    omega
  · intro h
    refine ⟨?_, fun k q hk => h.2 q (List.mem_of_getElem? hk)⟩
    intro i j p q hp hq e
    obtain ⟨hi, ei⟩ := List.getElem?_eq_some_iff.mp hp
    obtain ⟨hj, ej⟩ := List.getElem?_eq_some_iff.mp hq
    have hpw := List.pairwise_iff_getElem.mp h.1
    rcases Nat.lt_trichotomy i j with c | c | c
    · exact absurd (by rw [ei, ej]; exact e) (hpw i j hi hj c)
    · exact c
    · exact absurd (by rw [ei, ej]; exact e.symm) (hpw j i hj hi c)
theorem zP_mid {D : va_G} {cl : List vw_C} {x y z : va_W} {H : Heap} (h : va_P D cl (x ++ (y ++ z)) H) : va_P D cl y H := zP_iff.mpr fun q hq => zP_iff.mp h q (by simp [hq])
theorem zD_mid {A : Nat → Prop} {x y z : va_W} (h : va_D A (x ++ (y ++ z))) : va_D A y := by
  obtain ⟨h1, h2⟩ := zD_iff.mp h
  exact zD_iff.mpr ⟨(List.pairwise_append.mp (List.pairwise_append.mp h1).2.1).1, fun q hq => h2 q (by simp [hq])⟩
theorem zP_cut {D : va_G} {cl : List vw_C} {ws wc : va_W} {H : Heap} (i j : Nat) (h : va_P D cl ws H) (e : ws = ws.take i ++ (wc ++ ws.drop j)) : va_P D cl wc H := by
  rw [e] at h
  exact zP_mid h
theorem zD_cut {A : Nat → Prop} {ws wc : va_W} (i j : Nat) (h : va_D A ws) (e : ws = ws.take i ++ (wc ++ ws.drop j)) : va_D A wc := by
  rw [e] at h
  exact zD_mid h
theorem zA_iff {w : va_W} {sz q : Nat} : va_A w sz q ↔ (∃ e : va_E, (q, e) ∈ w) ∨ sz ≤ q := by
  constructor
  · rintro (⟨k, e, h⟩ | h)
    · exact Or.inl ⟨e, List.mem_of_getElem? h⟩
    · exact Or.inr h
  · rintro (⟨e, h⟩ | h)
    · obtain ⟨k, hk⟩ := List.mem_iff_getElem?.mp h
      exact Or.inl ⟨k, e, hk⟩
    · exact Or.inr h
/-- the frame rule: the middle cells come back as w1, the rest is unchanged -/
theorem z_frame {A : Nat → Prop} {D : va_G} {cl : List vw_C} {x wc z w1 : va_W} {H H1 : Heap} (hP : va_P D cl (x ++ (wc ++ z)) H) (hD : va_D A (x ++ (wc ++ z)))
    (hk : ∀ q : Nat, q < H.size → ¬ va_A wc H.size q → H1[q]? = H[q]?) (hF : ∀ q, va_A wc H.size q → A q) (hP1 : va_P D cl w1 H1) (hD1 : va_D (va_A wc H.size) w1) :
    va_P D cl (x ++ (w1 ++ z)) H1 ∧ va_D A (x ++ (w1 ++ z)) := by
  have hP' := zP_iff.mp hP
  obtain ⟨hp, hA⟩ := zD_iff.mp hD
  obtain ⟨hpx, hpr, hxr⟩ := List.pairwise_append.mp hp
  obtain ⟨hpc, hpz, hcz⟩ := List.pairwise_append.mp hpr
  obtain ⟨h1p, h1A⟩ := zD_iff.mp hD1
  have hP1' := zP_iff.mp hP1
  have ax : ∀ q ∈ x, q.1 < H.size ∧ ¬ va_A wc H.size q.1 := by
    intro q hq
    have hl := (hP' q (by simp [hq])).lt
    refine ⟨hl, fun h => ?_⟩
    rcases zA_iff.mp h with ⟨e, he⟩ | h
    · exact hxr q hq (q.1, e) (by simp [he]) rfl
    · omega
  have az : ∀ q ∈ z, q.1 < H.size ∧ ¬ va_A wc H.size q.1 := by
    intro q hq
    have hl := (hP' q (by simp [hq])).lt
    refine ⟨hl, fun h => ?_⟩
    rcases zA_iff.mp h with ⟨e, he⟩ | h
    · exact hcz (q.1, e) he q hq rfl
    · omega
  refine ⟨zP_iff.mpr fun q hq => ?_, zD_iff.mpr ⟨List.pairwise_append.mpr ⟨hpx, List.pairwise_append.mpr ⟨h1p, hpz, fun p hp q hq e => ?_⟩, fun p hp q hq e => ?_⟩, fun q hq => ?_⟩⟩
  · rcases List.mem_append.mp hq with h | h
    · exact (hP' q (by simp [h])).kept (hk q.1 (ax q h).1 (ax q h).2)
    · rcases List.mem_append.mp h with h | h
      · exact hP1' q h
      · exact (hP' q (by simp [h])).kept (hk q.1 (az q h).1 (az q h).2)
  · exact (az q hq).2 (by rw [← e]; exact h1A p hp)
  · rcases List.mem_append.mp hq with h | h
    · exact (ax p hp).2 (by rw [e]; exact h1A q h)
    · exact hxr p hp q (by simp [h]) e
  · rcases List.mem_append.mp hq with h | h
    · exact hA q (by simp [h])
    · rcases List.mem_append.mp h with h | h
      · exact hF q.1 (h1A q h)
      · exact hA q (by simp [h])
-- ===== a contract's start and end =====
/-- the words of calls between nest mates -/
def zN (U : State) : Prop := ∀ q ∈ zNests, va_Nw (.methodLinkNest q.1 q.2.1 q.2.2.1 q.2.2.2) U
def zB (D : va_G) (cl : List vw_C) (tys : List (ClassId × FieldType)) (w : va_W) (sz : Nat) : State → Prop := fun U => U.heap.size = sz ∧ va_P D cl w U.heap ∧ va_K D cl tys U ∧ va_D (fun _ => True) w ∧ zN U
def zQi (D : va_G) (cl : List vw_C) (w : va_W) (sz : Nat) (r : Int32) (w1 : va_W) : Array Value → State → Outcome → State → Prop := va_Qi (fun (x : Int32) (_ : Unit) => x = r) (fun _ t => va_P D cl w1 t.heap ∧ va_D (va_A w sz) w1) (va_A w sz)
def zQl (D : va_G) (cl : List vw_C) (w : va_W) (sz : Nat) (r : Int64) (w1 : va_W) : Array Value → State → Outcome → State → Prop := va_Ql (fun (x : Int64) (_ : Unit) => x = r) (fun _ t => va_P D cl w1 t.heap ∧ va_D (va_A w sz) w1) (va_A w sz)
def zQv (D : va_G) (cl : List vw_C) (w : va_W) (sz : Nat) (w1 : va_W) : Array Value → State → Outcome → State → Prop := va_Qv (fun (_ : Unit) => True) (fun _ t => va_P D cl w1 t.heap ∧ va_D (va_A w sz) w1) (va_A w sz)
theorem z_bl {D : va_G} {cl : List vw_C} {tys : List (ClassId × FieldType)} {w : va_W} {sz : Nat} {av : List Value} : FrameBlind (va_Pc av (zB D cl tys w sz)) := fun a U g mk q => by
  obtain ⟨q0, q1, q2, q3, q4, q5⟩ := q
  exact ⟨q0, q1, q2, va_K.moved (u := U) (U := U.calling g mk a) (Vm.Alike.refl U.vm) q3, q4, fun n hn => va_Nw.same rfl (u := U) (U := U.calling g mk a) rfl (q5 n hn)⟩
theorem z_pre {s : State} {H : Heap} {A : Nat → Prop} {D : va_G} {cl : List vw_C} {tys : List (ClassId × FieldType)} {wc : va_W} (hN : zN s) (hK : va_K D cl tys s) (hP : va_P D cl wc H) (hD : va_D A wc) (U : State) (hU : U.heap = H) (hW : s.WarmedH U.vm) : zB D cl tys wc H.size U :=
  ⟨by rw [hU], by rw [hU]; exact hP, va_K.moved hW.alike hK, hD.weaken (fun _ _ _ _ => trivial), fun n hn => va_Nw.warmM hW (hN n hn)⟩
section ZR
variable {p : Program} {l : Launch} {e : Env} {R : Room} {s : State} {m : MethodId} {args : Array Value} {below : List Frame} {meth : Method} {c : Code} {H : Heap} {locs : List Loc} {cells slots : Nat} {Q : State → Prop}
variable {cc : ByteArray} {pc : Nat} {ls : Array Slot} {rest st0 : List Value} {D : va_G} {cl : List vw_C} {A : Nat → Prop} {H0 : Heap} {w w1 wc ws : va_W} {aa : Array Value}
theorem z_start {vs : List Value} {n : Nat} {lv : List (Nat × Value)} (h : (lg_sl vs).length ≤ n) (hlv : lv_args 0 vs = lv) (hP : va_P D cl w s.heap) (hD : va_D (fun _ => True) w)
    (kk : ∀ (H : Heap) (locs : List Loc) (ls : Array Slot), va_P D cl w H → va_D (va_A w s.heap.size) w → va_S (va_A w s.heap.size) s.heap H locs → lv_has ls n lv → W p l e R s m args below meth c H locs cells slots Q (F0 m 0 ls [])) :
    W p l e R s m args below meth c s.heap [] cells slots Q (entryFrame m vs.toArray n) := by
  rw [lg_entry_eq]
  exact kk s.heap [] _ hP (hD.self) va_S.rf (hlv ▸ lv_entry vs h)
theorem z_iret {v : Int32} (hx : p.tables.exec = Jvm.exec) (hb : c.code = cc) (hr : meth.sig.returnType = some .int) (hP : va_P D cl w1 H) (hD : va_D (va_A w s.heap.size) w1) (hS : va_S (va_A w s.heap.size) s.heap H locs) (hdg : decode cc pc = .ok (.ireturn, 1)) (hlocks : meth.locks = false) :
    W p l e R s m args below meth c H locs cells slots (MQ below (zQi D cl w s.heap.size v w1) args s cells slots (va_A w s.heap.size)) (F0 m pc ls [.int v]) :=
  W.iret (v := v) hx hb hr (fun t ht _ => ⟨⟨v, (), rfl, rfl, by rw [ht]; exact hP, hD⟩, hS.F ht⟩) hS.2.2 hdg hlocks
theorem z_zret {v : Int32} (hx : p.tables.exec = Jvm.exec) (hb : c.code = cc) (hr : meth.sig.returnType = some .boolean) (hv : v = 0 ∨ v = 1) (hP : va_P D cl w1 H) (hD : va_D (va_A w s.heap.size) w1) (hS : va_S (va_A w s.heap.size) s.heap H locs) (hdg : decode cc pc = .ok (.ireturn, 1)) (hlocks : meth.locks = false) :
    W p l e R s m args below meth c H locs cells slots (MQ below (zQi D cl w s.heap.size v w1) args s cells slots (va_A w s.heap.size)) (F0 m pc ls [.int v]) :=
  W.zret (v := v) hx hb hr (by rcases hv with rfl | rfl <;> rfl) (fun t ht _ => ⟨⟨v, (), rfl, rfl, by rw [ht]; exact hP, hD⟩, hS.F ht⟩) hS.2.2 hdg hlocks
theorem z_lret {v : Int64} (hx : p.tables.exec = Jvm.exec) (hb : c.code = cc) (hr : meth.sig.returnType = some .long) (hP : va_P D cl w1 H) (hD : va_D (va_A w s.heap.size) w1) (hS : va_S (va_A w s.heap.size) s.heap H locs) (hdg : decode cc pc = .ok (.lreturn, 1)) (hlocks : meth.locks = false) :
    W p l e R s m args below meth c H locs cells slots (MQ below (zQl D cl w s.heap.size v w1) args s cells slots (va_A w s.heap.size)) (F0 m pc ls [.long v]) :=
  W.lret (v := v) hx hb hr (fun t ht _ => ⟨⟨v, (), rfl, rfl, by rw [ht]; exact hP, hD⟩, hS.F ht⟩) hS.2.2 hdg hlocks
theorem z_vret (hx : p.tables.exec = Jvm.exec) (hb : c.code = cc) (hr : meth.sig.returnType = none) (hP : va_P D cl w1 H) (hD : va_D (va_A w s.heap.size) w1) (hS : va_S (va_A w s.heap.size) s.heap H locs) (hdg : decode cc pc = .ok (.return_, 1)) (hlocks : meth.locks = false) :
    W p l e R s m args below meth c H locs cells slots (MQ below (zQv D cl w s.heap.size w1) args s cells slots (va_A w s.heap.size)) (F0 m pc ls []) :=
  W.vret hx hb hr (fun t ht _ => ⟨⟨(), rfl, trivial, by rw [ht]; exact hP, hD⟩, hS.F ht⟩) hS.2.2 hdg hlocks
theorem z_fr {i j : Nat} {ws2 : va_W} {H1 : Heap} (hP : va_P D cl ws H) (hD : va_D A ws) (h1 : ws = ws.take i ++ (wc ++ ws.drop j)) (h2 : ws.take i ++ (w1 ++ ws.drop j) = ws2)
    (hk : ∀ q : Nat, q < H.size → ¬ va_A wc H.size q → H1[q]? = H[q]?) (hF : ∀ q, va_A wc H.size q → A q) (hP1 : va_P D cl w1 H1) (hD1 : va_D (va_A wc H.size) w1) : va_P D cl ws2 H1 ∧ va_D A ws2 := by
  rw [← h2]
  rw [h1] at hP hD
  exact z_frame hP hD hk hF hP1 hD1
theorem z_free {i j : Nat} (hD : va_D A ws) (hS : va_S A H0 H locs) (hA : ∀ q, H0.size ≤ q → A q) (h1 : ws = ws.take i ++ (wc ++ ws.drop j)) : ∀ q, va_A wc H.size q → A q := by
  intro q hq
  rcases zA_iff.mp hq with ⟨e, he⟩ | h
  · exact (zD_iff.mp (zD_cut i j hD h1)).2 (q, e) he
  · exact hA q (Nat.le_trans hS.1 h)
theorem z_ci {r : Int32} (hr : va_Run p l e R s m args below meth c H locs cells slots 0 0 (F0 m pc ls st0) rest (zQi D cl wc H.size r w1 aa) (va_A wc H.size)) (i j : Nat) (ws2 : va_W) (hP : va_P D cl ws H) (hD : va_D A ws) (hS : va_S A H0 H locs) (hA : ∀ q, H0.size ≤ q → A q)
    (h1 : ws = ws.take i ++ (wc ++ ws.drop j)) (h2 : ws.take i ++ (w1 ++ ws.drop j) = ws2)
    (kk : ∀ (H : Heap) (locs : List Loc), va_P D cl ws2 H → va_D A ws2 → va_S A H0 H locs → W p l e R s m args below meth c H locs cells slots Q (F0 m (pc + 3) ls (.int r :: rest))) : W p l e R s m args below meth c H locs cells slots Q (F0 m pc ls st0) := by
  have hF := z_free hD hS hA h1
  refine va_calli hr hS (fun q _ h => hF q h) hF (fun x u t H1 locs1 ht hvm hw hB hz1 hk1 hS1 => ?_)
  obtain ⟨hP1, hD1⟩ := hB
  rw [ht] at hP1
  subst hw
  obtain ⟨hP2, hD2⟩ := z_fr hP hD h1 h2 hk1 hF hP1 hD1
  exact kk H1 locs1 hP2 hD2 hS1
theorem z_cl {r : Int64} (hr : va_Run p l e R s m args below meth c H locs cells slots 0 0 (F0 m pc ls st0) rest (zQl D cl wc H.size r w1 aa) (va_A wc H.size)) (i j : Nat) (ws2 : va_W) (hP : va_P D cl ws H) (hD : va_D A ws) (hS : va_S A H0 H locs) (hA : ∀ q, H0.size ≤ q → A q)
    (h1 : ws = ws.take i ++ (wc ++ ws.drop j)) (h2 : ws.take i ++ (w1 ++ ws.drop j) = ws2)
    (kk : ∀ (H : Heap) (locs : List Loc), va_P D cl ws2 H → va_D A ws2 → va_S A H0 H locs → W p l e R s m args below meth c H locs cells slots Q (F0 m (pc + 3) ls (.long r :: rest))) : W p l e R s m args below meth c H locs cells slots Q (F0 m pc ls st0) := by
  have hF := z_free hD hS hA h1
  refine va_calll hr hS (fun q _ h => hF q h) hF (fun x u t H1 locs1 ht hvm hw hB hz1 hk1 hS1 => ?_)
  obtain ⟨hP1, hD1⟩ := hB
  rw [ht] at hP1
  subst hw
  obtain ⟨hP2, hD2⟩ := z_fr hP hD h1 h2 hk1 hF hP1 hD1
  exact kk H1 locs1 hP2 hD2 hS1
theorem z_cv (hr : va_Run p l e R s m args below meth c H locs cells slots 0 0 (F0 m pc ls st0) rest (zQv D cl wc H.size w1 aa) (va_A wc H.size)) (i j : Nat) (ws2 : va_W) (hP : va_P D cl ws H) (hD : va_D A ws) (hS : va_S A H0 H locs) (hA : ∀ q, H0.size ≤ q → A q)
    (h1 : ws = ws.take i ++ (wc ++ ws.drop j)) (h2 : ws.take i ++ (w1 ++ ws.drop j) = ws2)
    (kk : ∀ (H : Heap) (locs : List Loc), va_P D cl ws2 H → va_D A ws2 → va_S A H0 H locs → W p l e R s m args below meth c H locs cells slots Q (F0 m (pc + 3) ls rest)) : W p l e R s m args below meth c H locs cells slots Q (F0 m pc ls st0) := by
  have hF := z_free hD hS hA h1
  refine va_callv hr hS (fun q _ h => hF q h) hF (fun u t H1 locs1 ht hvm hw hB hz1 hk1 hS1 => ?_)
  obtain ⟨hP1, hD1⟩ := hB
  rw [ht] at hP1
  obtain ⟨hP2, hD2⟩ := z_fr hP hD h1 h2 hk1 hF hP1 hD1
  exact kk H1 locs1 hP2 hD2 hS1
theorem z_freew (hD : va_D A wc) (hS : va_S A H0 H locs) (hA : ∀ q, H0.size ≤ q → A q) : ∀ q, va_A wc H.size q → A q := by
  intro q hq
  rcases zA_iff.mp hq with ⟨e, he⟩ | h
  · exact (zD_iff.mp hD).2 (q, e) he
  · exact hA q (Nat.le_trans hS.1 h)
theorem z_cwi {r : Int32} (hr : va_Run p l e R s m args below meth c H locs cells slots 0 0 (F0 m pc ls st0) rest (zQi D cl wc H.size r w1 aa) (va_A wc H.size)) (hD : va_D A wc) (hS : va_S A H0 H locs) (hA : ∀ q, H0.size ≤ q → A q)
    (kk : ∀ (H : Heap) (locs : List Loc), va_P D cl w1 H → va_D A w1 → va_S A H0 H locs → W p l e R s m args below meth c H locs cells slots Q (F0 m (pc + 3) ls (.int r :: rest))) : W p l e R s m args below meth c H locs cells slots Q (F0 m pc ls st0) := by
  have hF := z_freew hD hS hA
  refine va_calli hr hS (fun q _ h => hF q h) hF (fun x u t H1 locs1 ht hvm hw hB hz1 hk1 hS1 => ?_)
  obtain ⟨hP1, hD1⟩ := hB
  rw [ht] at hP1
  subst hw
  exact kk H1 locs1 hP1 (hD1.weaken (fun _ q _ h => hF q.1 h)) hS1
theorem z_cwl {r : Int64} (hr : va_Run p l e R s m args below meth c H locs cells slots 0 0 (F0 m pc ls st0) rest (zQl D cl wc H.size r w1 aa) (va_A wc H.size)) (hD : va_D A wc) (hS : va_S A H0 H locs) (hA : ∀ q, H0.size ≤ q → A q)
    (kk : ∀ (H : Heap) (locs : List Loc), va_P D cl w1 H → va_D A w1 → va_S A H0 H locs → W p l e R s m args below meth c H locs cells slots Q (F0 m (pc + 3) ls (.long r :: rest))) : W p l e R s m args below meth c H locs cells slots Q (F0 m pc ls st0) := by
  have hF := z_freew hD hS hA
  refine va_calll hr hS (fun q _ h => hF q h) hF (fun x u t H1 locs1 ht hvm hw hB hz1 hk1 hS1 => ?_)
  obtain ⟨hP1, hD1⟩ := hB
  rw [ht] at hP1
  subst hw
  exact kk H1 locs1 hP1 (hD1.weaken (fun _ q _ h => hF q.1 h)) hS1
theorem z_cwv (hr : va_Run p l e R s m args below meth c H locs cells slots 0 0 (F0 m pc ls st0) rest (zQv D cl wc H.size w1 aa) (va_A wc H.size)) (hD : va_D A wc) (hS : va_S A H0 H locs) (hA : ∀ q, H0.size ≤ q → A q)
    (kk : ∀ (H : Heap) (locs : List Loc), va_P D cl w1 H → va_D A w1 → va_S A H0 H locs → W p l e R s m args below meth c H locs cells slots Q (F0 m (pc + 3) ls rest)) : W p l e R s m args below meth c H locs cells slots Q (F0 m pc ls st0) := by
  have hF := z_freew hD hS hA
  refine va_callv hr hS (fun q _ h => hF q h) hF (fun u t H1 locs1 ht hvm hw hB hz1 hk1 hS1 => ?_)
  obtain ⟨hP1, hD1⟩ := hB
  rw [ht] at hP1
  exact kk H1 locs1 hP1 (hD1.weaken (fun _ q _ h => hF q.1 h)) hS1
end ZR
-- ===== constructors: the world that comes is at addresses that nobody knows before =====
def zQn (D : va_G) (cl : List vw_C) (w : va_W) (sz h0 : Nat) (W1 : (Nat → Nat) → (Nat → ClassId) → va_W) (T1 : (Nat → ClassId) → List (ClassId × FieldType)) : Array Value → State → Outcome → State → Prop :=
  va_Qv (fun (u : (Nat → Nat) × (Nat → ClassId)) => u.1 0 = h0) (fun u t => va_P D cl (W1 u.1 u.2) t.heap ∧ va_K D cl (T1 u.2) t ∧ va_D (va_A w sz) (W1 u.1 u.2)) (va_A w sz)
theorem zP_end {D : va_G} {cl : List vw_C} {x y : va_W} {H : Heap} (h : va_P D cl (x ++ y) H) : va_P D cl y H := zP_iff.mpr fun q hq => zP_iff.mp h q (by simp [hq])
theorem zD_end {A : Nat → Prop} {x y : va_W} (h : va_D A (x ++ y)) : va_D A y := by
  obtain ⟨h1, h2⟩ := zD_iff.mp h
  exact zD_iff.mpr ⟨(List.pairwise_append.mp h1).2.1, fun q hq => h2 q (by simp [hq])⟩
section ZN
variable {p : Program} {l : Launch} {e : Env} {R : Room} {s : State} {m : MethodId} {args : Array Value} {below : List Frame} {meth : Method} {c : Code} {H : Heap} {locs : List Loc} {cells slots : Nat} {Q : State → Prop}
variable {cc : ByteArray} {pc : Nat} {ls : Array Slot} {rest st0 : List Value} {D : va_G} {cl : List vw_C} {A : Nat → Prop} {H0 : Heap} {w wc x : va_W} {aa : Array Value}
theorem z_nret {h0 : Nat} {u : (Nat → Nat) × (Nat → ClassId)} {W1 : (Nat → Nat) → (Nat → ClassId) → va_W} {T1 : (Nat → ClassId) → List (ClassId × FieldType)} (hx : p.tables.exec = Jvm.exec) (hb : c.code = cc) (hr : meth.sig.returnType = none) (hu : u.1 0 = h0) (hP : va_P D cl (W1 u.1 u.2) H) (hD : va_D (va_A w s.heap.size) (W1 u.1 u.2)) (hK : va_K D cl (T1 u.2) s) (hS : va_S (va_A w s.heap.size) s.heap H locs) (hdg : decode cc pc = .ok (.return_, 1)) (hlocks : meth.locks = false) :
    W p l e R s m args below meth c H locs cells slots (MQ below (zQn D cl w s.heap.size h0 W1 T1) args s cells slots (va_A w s.heap.size)) (F0 m pc ls []) :=
  W.vret hx hb hr (fun t ht hW => ⟨⟨u, rfl, hu, by rw [ht]; exact hP, va_K.moved hW.alike hK, hD⟩, hS.F ht⟩) hS.2.2 hdg hlocks
theorem z_cn {mc ms h0 : Nat} {tys : List (ClassId × FieldType)} {W1 : (Nat → Nat) → (Nat → ClassId) → va_W} {T1 : (Nat → ClassId) → List (ClassId × FieldType)}
    (hr : va_Run p l e R s m args below meth c H locs cells slots mc ms (F0 m pc ls st0) rest (zQn D cl wc H.size h0 W1 T1 aa) (va_A wc H.size)) (hP : va_P D cl (x ++ wc) H) (hD : va_D A (x ++ wc)) (hS : va_S A H0 H locs) (hA : ∀ q, H0.size ≤ q → A q) (hK : va_K D cl tys s)
    (kk : ∀ (u : (Nat → Nat) × (Nat → ClassId)) (H : Heap) (locs : List Loc), u.1 0 = h0 → va_P D cl (x ++ W1 u.1 u.2) H → va_D A (x ++ W1 u.1 u.2) → va_K D cl (tys ++ T1 u.2) s → va_S A H0 H locs → W p l e R s m args below meth c H locs (cells + mc) (slots + ms) Q (F0 m (pc + 3) ls rest)) : W p l e R s m args below meth c H locs cells slots Q (F0 m pc ls st0) := by
  have hP' : va_P D cl (x ++ (wc ++ [])) H := by rw [List.append_nil]; exact hP
  have hD' : va_D A (x ++ (wc ++ [])) := by rw [List.append_nil]; exact hD
  have hF : ∀ q, va_A wc H.size q → A q := z_freew (zD_end hD) hS hA
  refine va_callv hr hS (fun q _ h => hF q h) hF (fun u t H1 locs1 ht hvm hw hB hz1 hk1 hS1 => ?_)
  obtain ⟨hP1, hK1, hD1⟩ := hB
  rw [ht] at hP1
  obtain ⟨hP2, hD2⟩ := z_frame hP' hD' hk1 hF hP1 hD1
  rw [List.append_nil] at hP2 hD2
  exact kk u H1 locs1 hw hP2 hD2 (hK.app (va_K.moved hvm.symm hK1)) hS1
end ZN
