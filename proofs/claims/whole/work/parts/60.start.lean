theorem k_1_9 : Cond.classLink "OutputStoreLaw" 7 "OutputStore" ∈ zW := zin_1 (List.mem_of_getElem? (i := 9) rfl) rfl
theorem k_1_10 : Cond.instantiable "OutputStore" 8 ∈ zW := zin_1 (List.mem_of_getElem? (i := 10) rfl) rfl
theorem k_1_11 : Cond.methodLink "OutputStoreLaw" 9 (⟨"OutputStore", "<init>", "()V"⟩ : MethodName) ∈ zW := zin_1 (List.mem_of_getElem? (i := 11) rfl) rfl
theorem k_1_12 : Cond.instanceMethod (⟨"OutputStore", "<init>", "()V"⟩ : MethodName) ∈ zW := zin_1 (List.mem_of_getElem? (i := 12) rfl) rfl
theorem k_2_155 : Cond.classLink "OutputStoreLaw" 10 "OutputStoreModel" ∈ zW := zin_2 (List.mem_of_getElem? (i := 155) rfl) rfl
theorem k_2_156 : Cond.instantiable "OutputStoreModel" 24 ∈ zW := zin_2 (List.mem_of_getElem? (i := 156) rfl) rfl
theorem k_2_157 : Cond.methodLink "OutputStoreLaw" 12 (⟨"OutputStoreModel", "<init>", "()V"⟩ : MethodName) ∈ zW := zin_2 (List.mem_of_getElem? (i := 157) rfl) rfl
theorem k_2_158 : Cond.instanceMethod (⟨"OutputStoreModel", "<init>", "()V"⟩ : MethodName) ∈ zW := zin_2 (List.mem_of_getElem? (i := 158) rfl) rfl
theorem nests_in : ∀ q ∈ zNests, Cond.methodLinkNest q.1 q.2.1 q.2.2.1 q.2.2.2 ∈ lw_tbl := by decide +kernel
theorem zK_fst {D : va_G} {cl : List vw_C} {a b : List (ClassId × FieldType)} {U : State} (h : va_K D cl (a ++ b) U) : va_K D cl a U := ⟨h.1, fun k q hk => h.2 k q (by rw [List.getElem?_append_left (List.getElem?_eq_some_iff.mp hk).1]; exact hk)⟩
theorem zK_end {D : va_G} {cl : List vw_C} {a b : List (ClassId × FieldType)} {U : State} (h : va_K D cl (a ++ b) U) : va_K D cl b U := ⟨h.1, fun k q hk => h.2 (a.length + k) q (by rw [List.getElem?_append_right (by omega), Nat.add_sub_cancel_left]; exact hk)⟩
set_option maxHeartbeats 16000000 in
set_option maxRecDepth 100000 in
theorem whole_start {p : Program} {e : Env} {s : State} {m : MethodId} {below : List Frame} {meth : Method} {c : Code} (l : Launch) {b L : Nat} {xs : Nat → Int32} (hL : L ≤ 3584) (C0 : lw_At p s m meth c b L xs) : W p l e room_1 s m #[Value.ref b] below meth c s.heap [] 0 0 (lw_Z below #[Value.ref b] s) (entryFrame m ([Value.ref b] : List Value).toArray 4) := by
  obtain ⟨hx, hb, hr, hml, hown, hts, hX, hbl, hlocks, hgv⟩ := id C0
  have hA : ∀ q : Nat, s.heap.size ≤ q → (fun q : Nat => s.heap.size ≤ q) q := fun _ h => h
  obtain ⟨c0, iS0, hKn0⟩ := u_known (C := R_PT) (T := F_PT) (N := 2) (n := 2) hts (fun w h => zW_in (in_PT w h)) (hts _ (zW_in k_1_18))
  obtain ⟨c1, iS1, hKn1⟩ := u_known (C := R_SB) (T := F_SB) (N := 5) (n := 5) hts (fun w h => zW_in (in_SB w h)) (hts _ (zW_in k_1_32))
  obtain ⟨c2, iS2, hKn2⟩ := u_known (C := R_LT) (T := F_LT) (N := 4) (n := 4) hts (fun w h => zW_in (in_LT w h)) (hts _ (zW_in k_1_55))
  obtain ⟨c3, iS3, hKn3⟩ := u_known (C := R_CS) (T := F_CS) (N := 2) (n := 2) hts (fun w h => zW_in (in_CS w h)) (hts _ (zW_in k_1_75))
  obtain ⟨c4, iS4, hKn4⟩ := u_known (C := R_HB) (T := F_HB) (N := 2) (n := 2) hts (fun w h => zW_in (in_HB w h)) (hts _ (zW_in k_1_88))
  obtain ⟨c5, iS5, hKn5⟩ := u_known (C := R_DM) (T := F_DM) (N := 1) (n := 1) hts (fun w h => zW_in (in_DM w h)) (hts _ (zW_in k_1_101))
  obtain ⟨c6, iS6, hKn6⟩ := u_known (C := R_OS) (T := F_OS) (N := 8) (n := 8) hts (fun w h => zW_in (in_OS w h)) (hts _ (zW_in k_1_10))
  obtain ⟨c7, iS7, hKn7⟩ := u_known (C := R_MO) (T := F_MO) (N := 24) (n := 24) hts (fun w h => zW_in (in_MO w h)) (hts _ (zW_in k_2_156))
  obtain ⟨dC, dI, hKc0⟩ : ∃ (dC : Nat → ClassId) (dI : Nat → Nat → Nat), ∀ (k : Nat) (q : vw_C), zCl[k]? = some q → u_Kn s q.1 q.2.1 q.2.2 (dC k) (dI k) := by
    refine ⟨fun k => [c0, c1, c2, c3, c4, c5, c6, c7].getD k 0, fun k => [iS0, iS1, iS2, iS3, iS4, iS5, iS6, iS7].getD k (fun _ => 0), ?_⟩
    intro k q hq
    match k, hq with
    | 0, hq => cases hq; exact hKn0
    | 1, hq => cases hq; exact hKn1
    | 2, hq => cases hq; exact hKn2
    | 3, hq => cases hq; exact hKn3
    | 4, hq => cases hq; exact hKn4
    | 5, hq => cases hq; exact hKn5
    | 6, hq => cases hq; exact hKn6
    | 7, hq => cases hq; exact hKn7
    | k + 8, hq => simp [zCl] at hq
  have hN : zN s := fun q hq => va_Nw.of rfl (hts _ (nests_in q hq))
  have hS : va_S (fun q : Nat => s.heap.size ≤ q) s.heap s.heap [] := va_S.rf
  have hK : va_K (dC, dI) zCl [] s := ⟨hKc0, fun k q h => by simp at h⟩
  have hP : va_P (dC, dI) zCl [] s.heap := fun k q h => by simp at h
  have hD : va_D (fun q : Nat => s.heap.size ≤ q) [] := ⟨fun i j p q h => by simp at h, fun k q h => by simp at h⟩
  have hl := lv_entry ([.ref b]) (n := 4) (Nat.le_of_ble_eq_true rfl)
  rw [lg_entry_eq]
  generalize (lg_sl ([.ref b]) ++ List.replicate (4 - (lg_sl ([.ref b])).length) Slot.unset).toArray = ls at hl ⊢
  have hl : lv_has ls 4 [(0, .ref b)] := hl
  refine va_new (ci := 6) (fs := [.null, .null, .null, .null, .null, .null, .null, .null]) (C := R_OS) (T := F_OS) (N := 8) hx hb hts (fun w h => zW_in (in_OS w h)) ty_OS ty_OS_ok hown (hts _ (zW_in k_1_9)) (hts _ (zW_in k_1_10)) (hts _ (zW_in k_1_1)) hK hP hD hS hA rfl (fun j hj => df_OS j hj) (Nat.le_of_ble_eq_true rfl) (Nat.le_of_ble_eq_true rfl) d_L_law_0 (fun qa H hP hD hS => ?_)
  refine lv_dup hx hb d_L_law_3 rfl ?_
  have hPc := zP_end hP
  have hDc := zD_end hD
  have hKc := hK.sub (tys' := []) [] rfl
  refine z_cn (va_runI (As := []) (rest := [.ref qa]) ⟨hx, hb, hml, hown, hts⟩ (i_OS l dC dI qa H.size) (cwI 0 hts (zGN zsub_l kc_OS_init) rfl rfl rfl (hts _ (zW_in k_1_1)) (hts _ (zW_in k_1_11)) (hts _ (zW_in k_1_12)) rfl (by decide +kernel) ⟨Nat.le_of_ble_eq_true rfl, Nat.le_of_ble_eq_true rfl⟩) ⟨z_bl, fun U hU hW => ⟨rfl, z_pre hN hKc hPc hDc U hU hW⟩⟩ rfl rfl hl.1 rfl (lv_room (Nat.le_of_ble_eq_true rfl)) d_L_law_4 ⟨Nat.le_of_ble_eq_true rfl, Nat.le_of_ble_eq_true rfl⟩) hP hD hS hA hK (fun uqa H locs hu hPn hDn hK hS => ?_)
  subst hu
  have hP := hPn
  have hD := hDn
  refine lv_astore_n (lv' := [(1, .ref (uqa.1 0)), (0, .ref b)]) hx hb d_L_law_7 rfl hl (by decide) rfl (fun ls hl => ?_)
  refine va_new (ci := 7) (fs := [.int 0, .int 0, .int 0, .int 0, .null, .null, .null, .null, .null, .null, .null, .null, .null, .null, .null, .null, .null, .null, .null, .null, .null, .null, .int 0, .null]) (C := R_MO) (T := F_MO) (N := 24) hx hb hts (fun w h => zW_in (in_MO w h)) ty_MO ty_MO_ok hown (hts _ (zW_in k_2_155)) (hts _ (zW_in k_2_156)) (hts _ (zW_in k_1_8)) hK hP hD hS hA rfl (fun j hj => df_MO j hj) (Nat.le_of_ble_eq_true rfl) (Nat.le_of_ble_eq_true rfl) d_L_law_8 (fun qb H hP hD hS => ?_)
  refine lv_dup hx hb d_L_law_11 rfl ?_
  have hPc := zP_end hP
  have hDc := zD_end hD
  have hKc := hK.sub (tys' := []) [] rfl
  refine z_cn (va_runI (As := []) (rest := [.ref qb]) ⟨hx, hb, hml, hown, hts⟩ (i_MO l dC dI qb H.size) (cwI 0 hts (zGN zsub_l kc_MO_init) rfl rfl rfl (hts _ (zW_in k_1_8)) (hts _ (zW_in k_2_157)) (hts _ (zW_in k_2_158)) rfl (by decide +kernel) ⟨Nat.le_of_ble_eq_true rfl, Nat.le_of_ble_eq_true rfl⟩) ⟨z_bl, fun U hU hW => ⟨rfl, z_pre hN hKc hPc hDc U hU hW⟩⟩ rfl rfl hl.1 rfl (lv_room (Nat.le_of_ble_eq_true rfl)) d_L_law_12 ⟨Nat.le_of_ble_eq_true rfl, Nat.le_of_ble_eq_true rfl⟩) hP hD hS hA hK (fun uqb H locs hu hPn hDn hK hS => ?_)
  subst hu
  have hP := hPn
  have hD := hDn
  refine lv_astore_n (lv' := [(2, .ref (uqb.1 0)), (1, .ref (uqa.1 0)), (0, .ref b)]) hx hb d_L_law_15 rfl hl (by decide) rfl (fun ls hl => ?_)
  refine lv_iconst (v := 0) hx hb d_L_law_16 (by decide) ?_
  refine lv_istore_n (lv' := [(3, .int 0), (2, .ref (uqb.1 0)), (1, .ref (uqa.1 0)), (0, .ref b)]) hx hb d_L_law_17 rfl hl (by decide) rfl (fun ls hl => ?_)
  refine W.widen (k := 45) (n := 8828) (by decide) (by decide) ?_
  exact law_loop C0 hN 2000 uqa.1 uqa.2 uqb.1 uqb.2 (zK_fst hK) (zK_end hK) (L + 1) (fun _ => 0) (0 : Int32) (fun _ => 0) (fun _ => 0) (fun _ => 0) (fun _ => 0) (0 : Int32) (fun _ => 0) (fun _ => 0) (fun _ => 0) (fun _ => 0) (fun _ => 0) (fun _ => 0) (fun _ => 0) (fun _ => 0) (fun _ => 0) (0 : Int32) (fun _ => 0) (0 : Int32) (fun _ => 0) (fun _ => 0) (0 : Int32) (0 : Int32) (0 : Int32) (0 : Int32) (fun _ => 0) (fun _ => 0) (fun _ => 0) (fun _ => 0) (fun _ => 0) (fun _ => 0) (fun _ => 0) (fun _ => 0) (fun _ => 0) (fun _ => 0) (fun _ => 0) (fun _ => 0) (fun _ => 0) (fun _ => 0) (fun _ => 0) (fun _ => 0) (fun _ => 0) (fun _ => 0) (0 : Int32) (fun _ => 0) 0 (law_sim0 hL) _ _ ls hP hD hS (lv_sub hl [3, 2, 1, 0] rfl)
