set_option maxHeartbeats 4000000 in
set_option maxRecDepth 100000 in
theorem c_OS_slotOf (l : Launch) (dC : Nat → ClassId) (dI : Nat → Nat → Nat) (N : Nat) (a : Nat → Nat) (k : Nat → ClassId) (zpaths_outer : Nat → Int32) (zpaths_count : Int32) (zsteps_targets : Nat → Int32) (zsteps_configurations : Nat → Int32) (zsteps_runs : Nat → Int32) (zsteps_opened : Nat → Int32) (zsteps_count : Int32) (zoutputs_contents : Nat → Int64) (zoutputs_makers : Nat → Int32) (zoutputs_executables : Nat → Int32) (zoutputs_lazies : Nat → Int32) (zstaged_contents : Nat → Int64) (zstaged_makers : Nat → Int32) (zstaged_executables : Nat → Int32) (zstaged_lazies : Nat → Int32) (zcached_contents : Nat → Int64) (zcached_count : Int32) (zholds_contents : Nat → Int64) (zholds_count : Int32) (zdirtyMarks_marks : Nat → Int32) (zdifferent : Nat → Int64) (p1 : Int32) (p2 : Int32) {y : (Int32)} (hf : pf_OS_slotOf N zpaths_count p1 p2 = some y) (sz : Nat) : Met l y_OS_slotOf ww_OS_slotOf ({ frames := 1, cells := 0, slots := 0, locals := 21 }) (va_Pc [.ref (a 0), .int p1, .int p2] (zB (dC, dI) zCl (t_OS k) (w_OS a k zpaths_outer zpaths_count zsteps_targets zsteps_configurations zsteps_runs zsteps_opened zsteps_count zoutputs_contents zoutputs_makers zoutputs_executables zoutputs_lazies zstaged_contents zstaged_makers zstaged_executables zstaged_lazies zcached_contents zcached_count zholds_contents zholds_count zdirtyMarks_marks zdifferent) sz)) (zQi (dC, dI) zCl (w_OS a k zpaths_outer zpaths_count zsteps_targets zsteps_configurations zsteps_runs zsteps_opened zsteps_count zoutputs_contents zoutputs_makers zoutputs_executables zoutputs_lazies zstaged_contents zstaged_makers zstaged_executables zstaged_lazies zcached_contents zcached_count zholds_contents zholds_count zdirtyMarks_marks zdifferent) sz y (w_OS a k zpaths_outer zpaths_count zsteps_targets zsteps_configurations zsteps_runs zsteps_opened zsteps_count zoutputs_contents zoutputs_makers zoutputs_executables zoutputs_lazies zstaged_contents zstaged_makers zstaged_executables zstaged_lazies zcached_contents zcached_count zholds_contents zholds_count zdirtyMarks_marks zdifferent)) 0 0 (va_A (w_OS a k zpaths_outer zpaths_count zsteps_targets zsteps_configurations zsteps_runs zsteps_opened zsteps_count zoutputs_contents zoutputs_makers zoutputs_executables zoutputs_lazies zstaged_contents zstaged_makers zstaged_executables zstaged_lazies zcached_contents zcached_count zholds_contents zholds_count zdirtyMarks_marks zdifferent) sz) := by
  refine Met.ofW (cc := b_OS_slotOf) (maxL := 3) (ret := (some .int)) (by decide) rfl ?_
  intro p e s m args below meth c s₁ B hml hv
  obtain ⟨rfl, rfl, hP, hK, hD, hN⟩ := hv
  have hx := B.exec
  have hb := B.bytes
  have hr := B.returns
  have hts := atoms_spec (ws := ww_OS_slotOf) B.pre
  have hown : s.vm.findClass R_OS = some m.cls := findClass_of_methodNamed B.named
  have hlocks := B.notSynchronized
  have hA : ∀ q : Nat, s.heap.size ≤ q → va_A (w_OS a k zpaths_outer zpaths_count zsteps_targets zsteps_configurations zsteps_runs zsteps_opened zsteps_count zoutputs_contents zoutputs_makers zoutputs_executables zoutputs_lazies zstaged_contents zstaged_makers zstaged_executables zstaged_lazies zcached_contents zcached_count zholds_contents zholds_count zdirtyMarks_marks zdifferent) s.heap.size q := fun q h => Or.inr h
  refine z_start (lv := [(0, .ref (a 0)), (1, .int p1), (2, .int p2)]) (Nat.le_of_ble_eq_true rfl) rfl hP hD (fun H locs ls hP hD hS hl => ?_)
  unfold pf_OS_slotOf at hf
  refine lv_iload_n hx hb d_OS_slotOf_0 rfl (lv_at hl 1 rfl) ?_
  obtain ⟨u0, hu0, hf⟩ := z_b hf
  have hPc := zP_cut (wc := ([] : va_W)) 0 0 hP rfl
  have hDc := zD_cut (wc := ([] : va_W)) 0 0 hD rfl
  have hKc := hK.sub (tys' := ([] : List (ClassId × FieldType))) [] rfl
  refine z_ci (va_runS (As := [.int p1]) (rest := []) ⟨hx, hb, hml, hown, hts⟩ (c_OS_isConfiguration l dC dI N (fun i => a (0 + i)) (fun i => k (0 + i)) p1 hu0 H.size) (cwS 1 hts (zGS zsub_c k_1_154 k_1_155 k_1_1 kc_OS_isConfiguration) rfl rfl rfl (by decide +kernel) ⟨Nat.le_of_ble_eq_true rfl, Nat.le_of_ble_eq_true rfl⟩) ⟨z_bl, fun U hU hW => ⟨rfl, z_pre hN hKc hPc hDc U hU hW⟩⟩ rfl rfl hl.1 rfl (lv_room (Nat.le_of_ble_eq_true rfl)) d_OS_slotOf_1 ⟨Nat.zero_le _, Nat.zero_le _⟩) 0 0 (w_OS a k zpaths_outer zpaths_count zsteps_targets zsteps_configurations zsteps_runs zsteps_opened zsteps_count zoutputs_contents zoutputs_makers zoutputs_executables zoutputs_lazies zstaged_contents zstaged_makers zstaged_executables zstaged_lazies zcached_contents zcached_count zholds_contents zholds_count zdirtyMarks_marks zdifferent) hP hD hS hA rfl rfl (fun H locs hP hD hS => ?_)
  refine lv_if_eq (tgt := 18) hx hb d_OS_slotOf_4 (by decide) (fun c1 => ?_) (fun c1 => ?_)
  · have hf := z_t c1 hf
    refine lv_iconst (v := (-1 : Int32)) hx hb d_OS_slotOf_18 (by decide) ?_
    obtain rfl := Option.some.inj hf
    exact z_iret hx hb hr hP hD hS d_OS_slotOf_19 hlocks
  · have hf := z_f c1 hf
    refine lv_aload_n hx hb d_OS_slotOf_7 rfl (lv_at hl 0 rfl) ?_
    refine va_get (D := (dC, dI)) (ci := 6) (v := .ref (a 1)) (C := R_OS) (T := F_OS) (N := 8) hx hb hts (fun w h => List.mem_cons_of_mem _ (in_OS w h)) hown hK hP 0 rfl rfl 0 (by decide) (hts _ (List.mem_cons_of_mem _ k_1_110)) (fun _ h9 => h9) rfl d_OS_slotOf_8 ?_
    refine lv_iload_n hx hb d_OS_slotOf_11 rfl (lv_at hl 2 rfl) ?_
    obtain ⟨u1, hu1, hf⟩ := z_b hf
    have hPc := zP_cut (wc := (w_PT (fun i => a (1 + i)) (fun i => k (0 + i)) zpaths_outer zpaths_count)) 1 3 hP rfl
    have hDc := zD_cut (wc := (w_PT (fun i => a (1 + i)) (fun i => k (0 + i)) zpaths_outer zpaths_count)) 1 3 hD rfl
    have hKc := hK.sub (tys' := (t_PT (fun i => k (0 + i)))) [0] rfl
    refine z_ci (va_runV (As := [.int p2]) (rest := []) ⟨hx, hb, hml, hown, hts⟩ (c_PT_has l dC dI N (fun i => a (1 + i)) (fun i => k (0 + i)) zpaths_outer zpaths_count p2 hu1 H.size) (cwV 1 hts (zGV zsub_c k_1_186 k_1_144 k_1_145 k_1_2 kc_PT_has) rfl rfl rfl (by decide +kernel) ⟨Nat.le_of_ble_eq_true rfl, Nat.le_of_ble_eq_true rfl⟩) ⟨z_bl, va_recv hKc hPc (ci := 0) (q0 := 0) rfl rfl, fun U hU hW => ⟨rfl, z_pre hN hKc hPc hDc U hU hW⟩⟩ rfl rfl hl.1 rfl (lv_room (Nat.le_of_ble_eq_true rfl)) d_OS_slotOf_12 ⟨Nat.zero_le _, Nat.zero_le _⟩) 1 3 (w_OS a k zpaths_outer zpaths_count zsteps_targets zsteps_configurations zsteps_runs zsteps_opened zsteps_count zoutputs_contents zoutputs_makers zoutputs_executables zoutputs_lazies zstaged_contents zstaged_makers zstaged_executables zstaged_lazies zcached_contents zcached_count zholds_contents zholds_count zdirtyMarks_marks zdifferent) hP hD hS hA rfl rfl (fun H locs hP hD hS => ?_)
    refine lv_if_ne (tgt := 20) hx hb d_OS_slotOf_15 (by decide) (fun c2 => ?_) (fun c2 => ?_)
    · have hf := z_t c2 hf
      refine lv_iload_n hx hb d_OS_slotOf_20 rfl (lv_at hl 1 rfl) ?_
      refine lv_bipush (v := (nI 40)) hx hb d_OS_slotOf_21 (by decide) ?_
      refine lv_imul hx hb d_OS_slotOf_23 ?_
      refine lv_iload_n hx hb d_OS_slotOf_24 rfl (lv_at hl 2 rfl) ?_
      refine lv_iadd hx hb d_OS_slotOf_25 ?_
      obtain rfl := Option.some.inj hf
      exact z_iret hx hb hr hP hD hS d_OS_slotOf_26 hlocks
    · have hf := z_fn c2 hf
      refine lv_iconst (v := (-1 : Int32)) hx hb d_OS_slotOf_18 (by decide) ?_
      obtain rfl := Option.some.inj hf
      exact z_iret hx hb hr hP hD hS d_OS_slotOf_19 hlocks
set_option maxHeartbeats 4000000 in
set_option maxRecDepth 100000 in
theorem c_OS_targetAt (l : Launch) (dC : Nat → ClassId) (dI : Nat → Nat → Nat) (N : Nat) (a : Nat → Nat) (k : Nat → ClassId) (zpaths_outer : Nat → Int32) (zpaths_count : Int32) (zsteps_targets : Nat → Int32) (zsteps_configurations : Nat → Int32) (zsteps_runs : Nat → Int32) (zsteps_opened : Nat → Int32) (zsteps_count : Int32) (zoutputs_contents : Nat → Int64) (zoutputs_makers : Nat → Int32) (zoutputs_executables : Nat → Int32) (zoutputs_lazies : Nat → Int32) (zstaged_contents : Nat → Int64) (zstaged_makers : Nat → Int32) (zstaged_executables : Nat → Int32) (zstaged_lazies : Nat → Int32) (zcached_contents : Nat → Int64) (zcached_count : Int32) (zholds_contents : Nat → Int64) (zholds_count : Int32) (zdirtyMarks_marks : Nat → Int32) (zdifferent : Nat → Int64) (p1 : Int32) {y : (Int32)} (hf : pf_OS_targetAt N zsteps_targets zsteps_count zoutputs_contents zoutputs_makers p1 = some y) (sz : Nat) : Met l y_OS_targetAt ww_OS_targetAt ({ frames := 2, cells := 0, slots := 0, locals := 42 }) (va_Pc [.ref (a 0), .int p1] (zB (dC, dI) zCl (t_OS k) (w_OS a k zpaths_outer zpaths_count zsteps_targets zsteps_configurations zsteps_runs zsteps_opened zsteps_count zoutputs_contents zoutputs_makers zoutputs_executables zoutputs_lazies zstaged_contents zstaged_makers zstaged_executables zstaged_lazies zcached_contents zcached_count zholds_contents zholds_count zdirtyMarks_marks zdifferent) sz)) (zQi (dC, dI) zCl (w_OS a k zpaths_outer zpaths_count zsteps_targets zsteps_configurations zsteps_runs zsteps_opened zsteps_count zoutputs_contents zoutputs_makers zoutputs_executables zoutputs_lazies zstaged_contents zstaged_makers zstaged_executables zstaged_lazies zcached_contents zcached_count zholds_contents zholds_count zdirtyMarks_marks zdifferent) sz y (w_OS a k zpaths_outer zpaths_count zsteps_targets zsteps_configurations zsteps_runs zsteps_opened zsteps_count zoutputs_contents zoutputs_makers zoutputs_executables zoutputs_lazies zstaged_contents zstaged_makers zstaged_executables zstaged_lazies zcached_contents zcached_count zholds_contents zholds_count zdirtyMarks_marks zdifferent)) 0 0 (va_A (w_OS a k zpaths_outer zpaths_count zsteps_targets zsteps_configurations zsteps_runs zsteps_opened zsteps_count zoutputs_contents zoutputs_makers zoutputs_executables zoutputs_lazies zstaged_contents zstaged_makers zstaged_executables zstaged_lazies zcached_contents zcached_count zholds_contents zholds_count zdirtyMarks_marks zdifferent) sz) := by
  refine Met.ofW (cc := b_OS_targetAt) (maxL := 2) (ret := (some .int)) (by decide) rfl ?_
  intro p e s m args below meth c s₁ B hml hv
  obtain ⟨rfl, rfl, hP, hK, hD, hN⟩ := hv
  have hx := B.exec
  have hb := B.bytes
  have hr := B.returns
  have hts := atoms_spec (ws := ww_OS_targetAt) B.pre
  have hown : s.vm.findClass R_OS = some m.cls := findClass_of_methodNamed B.named
  have hlocks := B.notSynchronized
  have hA : ∀ q : Nat, s.heap.size ≤ q → va_A (w_OS a k zpaths_outer zpaths_count zsteps_targets zsteps_configurations zsteps_runs zsteps_opened zsteps_count zoutputs_contents zoutputs_makers zoutputs_executables zoutputs_lazies zstaged_contents zstaged_makers zstaged_executables zstaged_lazies zcached_contents zcached_count zholds_contents zholds_count zdirtyMarks_marks zdifferent) s.heap.size q := fun q h => Or.inr h
  refine z_start (lv := [(0, .ref (a 0)), (1, .int p1)]) (Nat.le_of_ble_eq_true rfl) rfl hP hD (fun H locs ls hP hD hS hl => ?_)
  unfold pf_OS_targetAt at hf
  refine lv_aload_n hx hb d_OS_targetAt_0 rfl (lv_at hl 0 rfl) ?_
  refine va_get (D := (dC, dI)) (ci := 6) (v := .ref (a 3)) (C := R_OS) (T := F_OS) (N := 8) hx hb hts (fun w h => List.mem_cons_of_mem _ (in_OS w h)) hown hK hP 0 rfl rfl 1 (by decide) (hts _ (List.mem_cons_of_mem _ k_1_111)) (fun _ h9 => h9) rfl d_OS_targetAt_1 ?_
  refine lv_aload_n hx hb d_OS_targetAt_4 rfl (lv_at hl 0 rfl) ?_
  refine va_get (D := (dC, dI)) (ci := 6) (v := .ref (a 8)) (C := R_OS) (T := F_OS) (N := 8) hx hb hts (fun w h => List.mem_cons_of_mem _ (in_OS w h)) hown hK hP 0 rfl rfl 2 (by decide) (hts _ (List.mem_cons_of_mem _ k_1_112)) (fun _ h9 => h9) rfl d_OS_targetAt_5 ?_
  refine lv_iload_n hx hb d_OS_targetAt_8 rfl (lv_at hl 1 rfl) ?_
  obtain ⟨u0, hu0, hf⟩ := z_b hf
  have hPc := zP_cut (wc := (w_LT (fun i => a (8 + i)) (fun i => k (5 + i)) zoutputs_contents zoutputs_makers zoutputs_executables zoutputs_lazies)) 8 13 hP rfl
  have hDc := zD_cut (wc := (w_LT (fun i => a (8 + i)) (fun i => k (5 + i)) zoutputs_contents zoutputs_makers zoutputs_executables zoutputs_lazies)) 8 13 hD rfl
  have hKc := hK.sub (tys' := (t_LT (fun i => k (5 + i)))) [5, 6, 7, 8] rfl
  refine z_ci (va_runV (As := [.int p1]) (rest := [.ref (a 3)]) ⟨hx, hb, hml, hown, hts⟩ (c_LT_stepAt l dC dI N (fun i => a (8 + i)) (fun i => k (5 + i)) zoutputs_contents zoutputs_makers zoutputs_executables zoutputs_lazies p1 hu0 H.size) (cwV 1 hts (zGV zsub_c k_1_220 k_1_221 k_1_222 k_1_4 kc_LT_stepAt) rfl rfl rfl (by decide +kernel) ⟨Nat.le_of_ble_eq_true rfl, Nat.le_of_ble_eq_true rfl⟩) ⟨z_bl, va_recv hKc hPc (ci := 2) (q0 := 0) rfl rfl, fun U hU hW => ⟨rfl, z_pre hN hKc hPc hDc U hU hW⟩⟩ rfl rfl hl.1 rfl (lv_room (Nat.le_of_ble_eq_true rfl)) d_OS_targetAt_9 ⟨Nat.zero_le _, Nat.zero_le _⟩) 8 13 (w_OS a k zpaths_outer zpaths_count zsteps_targets zsteps_configurations zsteps_runs zsteps_opened zsteps_count zoutputs_contents zoutputs_makers zoutputs_executables zoutputs_lazies zstaged_contents zstaged_makers zstaged_executables zstaged_lazies zcached_contents zcached_count zholds_contents zholds_count zdirtyMarks_marks zdifferent) hP hD hS hA rfl rfl (fun H locs hP hD hS => ?_)
  obtain ⟨u1, hu1, hf⟩ := z_b hf
  have hPc := zP_cut (wc := (w_SB (fun i => a (3 + i)) (fun i => k (1 + i)) zsteps_targets zsteps_configurations zsteps_runs zsteps_opened zsteps_count)) 3 8 hP rfl
  have hDc := zD_cut (wc := (w_SB (fun i => a (3 + i)) (fun i => k (1 + i)) zsteps_targets zsteps_configurations zsteps_runs zsteps_opened zsteps_count)) 3 8 hD rfl
  have hKc := hK.sub (tys' := (t_SB (fun i => k (1 + i)))) [1, 2, 3, 4] rfl
  refine z_ci (va_runV (As := [.int u0]) (rest := []) ⟨hx, hb, hml, hown, hts⟩ (c_SB_targetOf l dC dI N (fun i => a (3 + i)) (fun i => k (1 + i)) zsteps_targets zsteps_configurations zsteps_runs zsteps_opened zsteps_count u0 hu1 H.size) (cwV 1 hts (zGV zsub_c k_1_224 k_1_225 k_1_226 k_1_3 kc_SB_targetOf) rfl rfl rfl (by decide +kernel) ⟨Nat.le_of_ble_eq_true rfl, Nat.le_of_ble_eq_true rfl⟩) ⟨z_bl, va_recv hKc hPc (ci := 1) (q0 := 0) rfl rfl, fun U hU hW => ⟨rfl, z_pre hN hKc hPc hDc U hU hW⟩⟩ rfl rfl hl.1 rfl (lv_room (Nat.le_of_ble_eq_true rfl)) d_OS_targetAt_12 ⟨Nat.zero_le _, Nat.zero_le _⟩) 3 8 (w_OS a k zpaths_outer zpaths_count zsteps_targets zsteps_configurations zsteps_runs zsteps_opened zsteps_count zoutputs_contents zoutputs_makers zoutputs_executables zoutputs_lazies zstaged_contents zstaged_makers zstaged_executables zstaged_lazies zcached_contents zcached_count zholds_contents zholds_count zdirtyMarks_marks zdifferent) hP hD hS hA rfl rfl (fun H locs hP hD hS => ?_)
  obtain rfl := Option.some.inj hf
  exact z_iret hx hb hr hP hD hS d_OS_targetAt_15 hlocks
set_option maxHeartbeats 4000000 in
set_option maxRecDepth 100000 in
theorem c_OS_dropStaged (l : Launch) (dC : Nat → ClassId) (dI : Nat → Nat → Nat) (N : Nat) (a : Nat → Nat) (k : Nat → ClassId) (zpaths_outer : Nat → Int32) (zpaths_count : Int32) (zsteps_targets : Nat → Int32) (zsteps_configurations : Nat → Int32) (zsteps_runs : Nat → Int32) (zsteps_opened : Nat → Int32) (zsteps_count : Int32) (zoutputs_contents : Nat → Int64) (zoutputs_makers : Nat → Int32) (zoutputs_executables : Nat → Int32) (zoutputs_lazies : Nat → Int32) (zstaged_contents : Nat → Int64) (zstaged_makers : Nat → Int32) (zstaged_executables : Nat → Int32) (zstaged_lazies : Nat → Int32) (zcached_contents : Nat → Int64) (zcached_count : Int32) (zholds_contents : Nat → Int64) (zholds_count : Int32) (zdirtyMarks_marks : Nat → Int32) (zdifferent : Nat → Int64) (p1 : Int32) {y : ((Nat → Int64))} (hf : pf_OS_dropStaged N zpaths_count zsteps_configurations zsteps_count zstaged_contents zstaged_makers p1 = some y) (sz : Nat) : Met l y_OS_dropStaged ww_OS_dropStaged ({ frames := 2, cells := 0, slots := 0, locals := 43 }) (va_Pc [.ref (a 0), .int p1] (zB (dC, dI) zCl (t_OS k) (w_OS a k zpaths_outer zpaths_count zsteps_targets zsteps_configurations zsteps_runs zsteps_opened zsteps_count zoutputs_contents zoutputs_makers zoutputs_executables zoutputs_lazies zstaged_contents zstaged_makers zstaged_executables zstaged_lazies zcached_contents zcached_count zholds_contents zholds_count zdirtyMarks_marks zdifferent) sz)) (zQv (dC, dI) zCl (w_OS a k zpaths_outer zpaths_count zsteps_targets zsteps_configurations zsteps_runs zsteps_opened zsteps_count zoutputs_contents zoutputs_makers zoutputs_executables zoutputs_lazies zstaged_contents zstaged_makers zstaged_executables zstaged_lazies zcached_contents zcached_count zholds_contents zholds_count zdirtyMarks_marks zdifferent) sz (w_OS a k zpaths_outer zpaths_count zsteps_targets zsteps_configurations zsteps_runs zsteps_opened zsteps_count zoutputs_contents zoutputs_makers zoutputs_executables zoutputs_lazies y zstaged_makers zstaged_executables zstaged_lazies zcached_contents zcached_count zholds_contents zholds_count zdirtyMarks_marks zdifferent)) 0 0 (va_A (w_OS a k zpaths_outer zpaths_count zsteps_targets zsteps_configurations zsteps_runs zsteps_opened zsteps_count zoutputs_contents zoutputs_makers zoutputs_executables zoutputs_lazies zstaged_contents zstaged_makers zstaged_executables zstaged_lazies zcached_contents zcached_count zholds_contents zholds_count zdirtyMarks_marks zdifferent) sz) := by
  refine Met.ofW (cc := b_OS_dropStaged) (maxL := 5) (ret := none) (by decide) rfl ?_
  intro p e s m args below meth c s₁ B hml hv
  obtain ⟨rfl, rfl, hP, hK, hD, hN⟩ := hv
  have hx := B.exec
  have hb := B.bytes
  have hr := B.returns
  have hts := atoms_spec (ws := ww_OS_dropStaged) B.pre
  have hown : s.vm.findClass R_OS = some m.cls := findClass_of_methodNamed B.named
  have hlocks := B.notSynchronized
  have hA : ∀ q : Nat, s.heap.size ≤ q → va_A (w_OS a k zpaths_outer zpaths_count zsteps_targets zsteps_configurations zsteps_runs zsteps_opened zsteps_count zoutputs_contents zoutputs_makers zoutputs_executables zoutputs_lazies zstaged_contents zstaged_makers zstaged_executables zstaged_lazies zcached_contents zcached_count zholds_contents zholds_count zdirtyMarks_marks zdifferent) s.heap.size q := fun q h => Or.inr h
  refine z_start (lv := [(0, .ref (a 0)), (1, .int p1)]) (Nat.le_of_ble_eq_true rfl) rfl hP hD (fun H locs ls hP hD hS hl => ?_)
  unfold pf_OS_dropStaged at hf
  refine lv_aload_n hx hb d_OS_dropStaged_0 rfl (lv_at hl 0 rfl) ?_
  refine va_get (D := (dC, dI)) (ci := 6) (v := .ref (a 3)) (C := R_OS) (T := F_OS) (N := 8) hx hb hts (fun w h => List.mem_cons_of_mem _ (in_OS w h)) hown hK hP 0 rfl rfl 1 (by decide) (hts _ (List.mem_cons_of_mem _ k_1_111)) (fun _ h9 => h9) rfl d_OS_dropStaged_1 ?_
  refine lv_iload_n hx hb d_OS_dropStaged_4 rfl (lv_at hl 1 rfl) ?_
  obtain ⟨u0, hu0, hf⟩ := z_b hf
  have hPc := zP_cut (wc := (w_SB (fun i => a (3 + i)) (fun i => k (1 + i)) zsteps_targets zsteps_configurations zsteps_runs zsteps_opened zsteps_count)) 3 8 hP rfl
  have hDc := zD_cut (wc := (w_SB (fun i => a (3 + i)) (fun i => k (1 + i)) zsteps_targets zsteps_configurations zsteps_runs zsteps_opened zsteps_count)) 3 8 hD rfl
  have hKc := hK.sub (tys' := (t_SB (fun i => k (1 + i)))) [1, 2, 3, 4] rfl
  refine z_ci (va_runV (As := [.int p1]) (rest := []) ⟨hx, hb, hml, hown, hts⟩ (c_SB_configurationOf l dC dI N (fun i => a (3 + i)) (fun i => k (1 + i)) zsteps_targets zsteps_configurations zsteps_runs zsteps_opened zsteps_count p1 hu0 H.size) (cwV 1 hts (zGV zsub_c k_1_187 k_1_188 k_1_189 k_1_3 kc_SB_configurationOf) rfl rfl rfl (by decide +kernel) ⟨Nat.le_of_ble_eq_true rfl, Nat.le_of_ble_eq_true rfl⟩) ⟨z_bl, va_recv hKc hPc (ci := 1) (q0 := 0) rfl rfl, fun U hU hW => ⟨rfl, z_pre hN hKc hPc hDc U hU hW⟩⟩ rfl rfl hl.1 rfl (lv_room (Nat.le_of_ble_eq_true rfl)) d_OS_dropStaged_5 ⟨Nat.zero_le _, Nat.zero_le _⟩) 3 8 (w_OS a k zpaths_outer zpaths_count zsteps_targets zsteps_configurations zsteps_runs zsteps_opened zsteps_count zoutputs_contents zoutputs_makers zoutputs_executables zoutputs_lazies zstaged_contents zstaged_makers zstaged_executables zstaged_lazies zcached_contents zcached_count zholds_contents zholds_count zdirtyMarks_marks zdifferent) hP hD hS hA rfl rfl (fun H locs hP hD hS => ?_)
  refine lv_istore_n (lv' := [(2, .int u0), (0, .ref (a 0)), (1, .int p1)]) hx hb d_OS_dropStaged_8 rfl hl (by decide) rfl (fun ls hl => ?_)
  refine lv_iconst (v := (0 : Int32)) hx hb d_OS_dropStaged_9 (by decide) ?_
  refine lv_istore_n (lv' := [(3, .int (0 : Int32)), (2, .int u0), (0, .ref (a 0)), (1, .int p1)]) hx hb d_OS_dropStaged_10 rfl hl (by decide) rfl (fun ls hl => ?_)
  have loop11 : ∀ (n : Nat) (zstaged_contents' : Nat → Int64) (x3 : Int32), pf_OS_dropStaged_L11 N zpaths_count zstaged_makers p1 u0 n zstaged_contents' x3 = some y → ∀ (H : Heap) (locs : List Loc) (ls : Array Slot), va_P (dC, dI) zCl (w_OS a k zpaths_outer zpaths_count zsteps_targets zsteps_configurations zsteps_runs zsteps_opened zsteps_count zoutputs_contents zoutputs_makers zoutputs_executables zoutputs_lazies zstaged_contents' zstaged_makers zstaged_executables zstaged_lazies zcached_contents zcached_count zholds_contents zholds_count zdirtyMarks_marks zdifferent) H → va_D (va_A (w_OS a k zpaths_outer zpaths_count zsteps_targets zsteps_configurations zsteps_runs zsteps_opened zsteps_count zoutputs_contents zoutputs_makers zoutputs_executables zoutputs_lazies zstaged_contents zstaged_makers zstaged_executables zstaged_lazies zcached_contents zcached_count zholds_contents zholds_count zdirtyMarks_marks zdifferent) s.heap.size) (w_OS a k zpaths_outer zpaths_count zsteps_targets zsteps_configurations zsteps_runs zsteps_opened zsteps_count zoutputs_contents zoutputs_makers zoutputs_executables zoutputs_lazies zstaged_contents' zstaged_makers zstaged_executables zstaged_lazies zcached_contents zcached_count zholds_contents zholds_count zdirtyMarks_marks zdifferent) → va_S (va_A (w_OS a k zpaths_outer zpaths_count zsteps_targets zsteps_configurations zsteps_runs zsteps_opened zsteps_count zoutputs_contents zoutputs_makers zoutputs_executables zoutputs_lazies zstaged_contents zstaged_makers zstaged_executables zstaged_lazies zcached_contents zcached_count zholds_contents zholds_count zdirtyMarks_marks zdifferent) s.heap.size) s.heap H locs → lv_has ls 5 [(0, .ref (a 0)), (1, .int p1), (2, .int u0), (3, .int x3)] → W p l e (headSpec ww_OS_dropStaged ({ frames := 2, cells := 0, slots := 0, locals := 43 })).room s m ([.ref (a 0), .int p1] : List Value).toArray below meth c H locs 0 0 (MQ below (zQv (dC, dI) zCl (w_OS a k zpaths_outer zpaths_count zsteps_targets zsteps_configurations zsteps_runs zsteps_opened zsteps_count zoutputs_contents zoutputs_makers zoutputs_executables zoutputs_lazies zstaged_contents zstaged_makers zstaged_executables zstaged_lazies zcached_contents zcached_count zholds_contents zholds_count zdirtyMarks_marks zdifferent) s.heap.size (w_OS a k zpaths_outer zpaths_count zsteps_targets zsteps_configurations zsteps_runs zsteps_opened zsteps_count zoutputs_contents zoutputs_makers zoutputs_executables zoutputs_lazies y zstaged_makers zstaged_executables zstaged_lazies zcached_contents zcached_count zholds_contents zholds_count zdirtyMarks_marks zdifferent)) ([.ref (a 0), .int p1] : List Value).toArray s 0 0 (va_A (w_OS a k zpaths_outer zpaths_count zsteps_targets zsteps_configurations zsteps_runs zsteps_opened zsteps_count zoutputs_contents zoutputs_makers zoutputs_executables zoutputs_lazies zstaged_contents zstaged_makers zstaged_executables zstaged_lazies zcached_contents zcached_count zholds_contents zholds_count zdirtyMarks_marks zdifferent) s.heap.size)) (F0 m 11 ls []) := by
    intro n11
    induction n11 with
    | zero => intro zstaged_contents' x3 hf; rw [pf_OS_dropStaged_L11.eq_1] at hf; cases hf
    | succ n11 ih11 =>
      intro zstaged_contents' x3 hf H locs ls hP hD hS hl
      rw [pf_OS_dropStaged_L11.eq_2] at hf
      refine lv_iload_n hx hb d_OS_dropStaged_11 rfl (lv_at hl 3 rfl) ?_
      refine lv_bipush (v := (nI 40)) hx hb d_OS_dropStaged_12 (by decide) ?_
      refine lv_icmp_ge (tgt := 53) hx hb d_OS_dropStaged_14 (by decide) (fun c1 => ?_) (fun c1 => ?_)
      · have hf := z_t c1 hf
        obtain rfl := Option.some.inj hf
        exact z_vret hx hb hr hP hD hS d_OS_dropStaged_53 hlocks
      · have hf := z_f c1 hf
        refine lv_aload_n hx hb d_OS_dropStaged_17 rfl (lv_at hl 0 rfl) ?_
        refine lv_iload_n hx hb d_OS_dropStaged_18 rfl (lv_at hl 2 rfl) ?_
        refine lv_iload_n hx hb d_OS_dropStaged_19 rfl (lv_at hl 3 rfl) ?_
        obtain ⟨u1, hu1, hf⟩ := z_b hf
        have hPc := hP
        have hDc := hD
        have hKc := hK
        refine z_cwi (va_runV (As := [.int u0, .int x3]) (rest := []) ⟨hx, hb, hml, hown, hts⟩ (c_OS_slotOf l dC dI N a k zpaths_outer zpaths_count zsteps_targets zsteps_configurations zsteps_runs zsteps_opened zsteps_count zoutputs_contents zoutputs_makers zoutputs_executables zoutputs_lazies zstaged_contents' zstaged_makers zstaged_executables zstaged_lazies zcached_contents zcached_count zholds_contents zholds_count zdirtyMarks_marks zdifferent u0 x3 hu1 H.size) (cwV 2 hts (zGV zsub_c k_1_191 k_1_193 s_OS_slotOf k_1_1 kc_OS_slotOf) rfl rfl rfl (by decide +kernel) ⟨Nat.le_of_ble_eq_true rfl, Nat.le_of_ble_eq_true rfl⟩) ⟨z_bl, va_recv hKc hPc (ci := 6) (q0 := 0) rfl rfl, fun U hU hW => ⟨rfl, z_pre hN hKc hPc hDc U hU hW⟩⟩ rfl rfl hl.1 rfl (lv_room (Nat.le_of_ble_eq_true rfl)) d_OS_dropStaged_20 ⟨Nat.zero_le _, Nat.zero_le _⟩) hD hS hA (fun H locs hP hD hS => ?_)
        refine lv_istore (lv' := [(4, .int u1), (0, .ref (a 0)), (1, .int p1), (2, .int u0), (3, .int x3)]) hx hb d_OS_dropStaged_23 hl (by decide) rfl (fun ls hl => ?_)
        refine lv_aload_n hx hb d_OS_dropStaged_25 rfl (lv_at hl 1 rfl) ?_
        refine va_get (D := (dC, dI)) (ci := 6) (v := .ref (a 13)) (C := R_OS) (T := F_OS) (N := 8) hx hb hts (fun w h => List.mem_cons_of_mem _ (in_OS w h)) hown hK hP 0 rfl rfl 3 (by decide) (hts _ (List.mem_cons_of_mem _ k_1_113)) (fun _ h9 => h9) rfl d_OS_dropStaged_26 ?_
        refine lv_iload hx hb d_OS_dropStaged_29 (lv_at hl 0 rfl) ?_
        refine lv_iload_n hx hb d_OS_dropStaged_31 rfl (lv_at hl 2 rfl) ?_
        obtain ⟨u2, hu2, hf⟩ := z_b hf
        have hPc := zP_cut (wc := (w_LT (fun i => a (13 + i)) (fun i => k (9 + i)) zstaged_contents' zstaged_makers zstaged_executables zstaged_lazies)) 13 18 hP rfl
        have hDc := zD_cut (wc := (w_LT (fun i => a (13 + i)) (fun i => k (9 + i)) zstaged_contents' zstaged_makers zstaged_executables zstaged_lazies)) 13 18 hD rfl
        have hKc := hK.sub (tys' := (t_LT (fun i => k (9 + i)))) [9, 10, 11, 12] rfl
        refine z_ci (va_runV (As := [.int u1, .int p1]) (rest := []) ⟨hx, hb, hml, hown, hts⟩ (c_LT_isOfStep l dC dI N (fun i => a (13 + i)) (fun i => k (9 + i)) zstaged_contents' zstaged_makers zstaged_executables zstaged_lazies u1 p1 hu2 H.size) (cwV 2 hts (zGV zsub_c k_1_195 k_1_196 k_1_197 k_1_4 kc_LT_isOfStep) rfl rfl rfl (by decide +kernel) ⟨Nat.le_of_ble_eq_true rfl, Nat.le_of_ble_eq_true rfl⟩) ⟨z_bl, va_recv hKc hPc (ci := 2) (q0 := 0) rfl rfl, fun U hU hW => ⟨rfl, z_pre hN hKc hPc hDc U hU hW⟩⟩ rfl rfl hl.1 rfl (lv_room (Nat.le_of_ble_eq_true rfl)) d_OS_dropStaged_32 ⟨Nat.zero_le _, Nat.zero_le _⟩) 13 18 (w_OS a k zpaths_outer zpaths_count zsteps_targets zsteps_configurations zsteps_runs zsteps_opened zsteps_count zoutputs_contents zoutputs_makers zoutputs_executables zoutputs_lazies zstaged_contents' zstaged_makers zstaged_executables zstaged_lazies zcached_contents zcached_count zholds_contents zholds_count zdirtyMarks_marks zdifferent) hP hD hS hA rfl rfl (fun H locs hP hD hS => ?_)
        refine lv_if_eq (tgt := 47) hx hb d_OS_dropStaged_35 (by decide) (fun c2 => ?_) (fun c2 => ?_)
        · have hf := z_t c2 hf
          refine lv_iinc (v := (x3 + (1 : Int32))) (lv' := [(3, .int (x3 + (1 : Int32))), (4, .int u1), (0, .ref (a 0)), (1, .int p1), (2, .int u0)]) hx hb d_OS_dropStaged_47 hl (k := 4) rfl rfl (by decide) rfl (fun ls hl => ?_)
          refine lv_goto (tgt := 11) hx hb d_OS_dropStaged_50 (by decide) ?_
          exact ih11 zstaged_contents' (x3 + (1 : Int32)) hf H locs ls hP hD hS (lv_sub hl [2, 3, 4, 0] rfl)
        · have hf := z_f c2 hf
          refine lv_aload_n hx hb d_OS_dropStaged_38 rfl (lv_at hl 1 rfl) ?_
          refine va_get (D := (dC, dI)) (ci := 6) (v := .ref (a 13)) (C := R_OS) (T := F_OS) (N := 8) hx hb hts (fun w h => List.mem_cons_of_mem _ (in_OS w h)) hown hK hP 0 rfl rfl 3 (by decide) (hts _ (List.mem_cons_of_mem _ k_1_113)) (fun _ h9 => h9) rfl d_OS_dropStaged_39 ?_
          refine lv_iload hx hb d_OS_dropStaged_42 (lv_at hl 0 rfl) ?_
          obtain ⟨u3, hu3, hf⟩ := z_b hf
          have hPc := zP_cut (wc := (w_LT (fun i => a (13 + i)) (fun i => k (9 + i)) zstaged_contents' zstaged_makers zstaged_executables zstaged_lazies)) 13 18 hP rfl
          have hDc := zD_cut (wc := (w_LT (fun i => a (13 + i)) (fun i => k (9 + i)) zstaged_contents' zstaged_makers zstaged_executables zstaged_lazies)) 13 18 hD rfl
          have hKc := hK.sub (tys' := (t_LT (fun i => k (9 + i)))) [9, 10, 11, 12] rfl
          refine z_cv (va_runV (As := [.int u1]) (rest := []) ⟨hx, hb, hml, hown, hts⟩ (c_LT_drop l dC dI N (fun i => a (13 + i)) (fun i => k (9 + i)) zstaged_contents' zstaged_makers zstaged_executables zstaged_lazies u1 hu3 H.size) (cwV 1 hts (zGV zsub_c k_2_31 k_2_32 k_2_33 k_1_4 kc_LT_drop) rfl rfl rfl (by decide +kernel) ⟨Nat.le_of_ble_eq_true rfl, Nat.le_of_ble_eq_true rfl⟩) ⟨z_bl, va_recv hKc hPc (ci := 2) (q0 := 0) rfl rfl, fun U hU hW => ⟨rfl, z_pre hN hKc hPc hDc U hU hW⟩⟩ rfl rfl hl.1 rfl (lv_room (Nat.le_of_ble_eq_true rfl)) d_OS_dropStaged_44 ⟨Nat.zero_le _, Nat.zero_le _⟩) 13 18 (w_OS a k zpaths_outer zpaths_count zsteps_targets zsteps_configurations zsteps_runs zsteps_opened zsteps_count zoutputs_contents zoutputs_makers zoutputs_executables zoutputs_lazies u3 zstaged_makers zstaged_executables zstaged_lazies zcached_contents zcached_count zholds_contents zholds_count zdirtyMarks_marks zdifferent) hP hD hS hA rfl rfl (fun H locs hP hD hS => ?_)
          refine lv_iinc (v := (x3 + (1 : Int32))) (lv' := [(3, .int (x3 + (1 : Int32))), (4, .int u1), (0, .ref (a 0)), (1, .int p1), (2, .int u0)]) hx hb d_OS_dropStaged_47 hl (k := 4) rfl rfl (by decide) rfl (fun ls hl => ?_)
          refine lv_goto (tgt := 11) hx hb d_OS_dropStaged_50 (by decide) ?_
          exact ih11 u3 (x3 + (1 : Int32)) hf H locs ls hP hD hS (lv_sub hl [2, 3, 4, 0] rfl)
  exact loop11 N zstaged_contents (0 : Int32) hf H locs ls hP hD hS (lv_sub hl [2, 3, 1, 0] rfl)
set_option maxHeartbeats 4000000 in
set_option maxRecDepth 100000 in
theorem c_OS_replaceOutputs (l : Launch) (dC : Nat → ClassId) (dI : Nat → Nat → Nat) (N : Nat) (a : Nat → Nat) (k : Nat → ClassId) (zpaths_outer : Nat → Int32) (zpaths_count : Int32) (zsteps_targets : Nat → Int32) (zsteps_configurations : Nat → Int32) (zsteps_runs : Nat → Int32) (zsteps_opened : Nat → Int32) (zsteps_count : Int32) (zoutputs_contents : Nat → Int64) (zoutputs_makers : Nat → Int32) (zoutputs_executables : Nat → Int32) (zoutputs_lazies : Nat → Int32) (zstaged_contents : Nat → Int64) (zstaged_makers : Nat → Int32) (zstaged_executables : Nat → Int32) (zstaged_lazies : Nat → Int32) (zcached_contents : Nat → Int64) (zcached_count : Int32) (zholds_contents : Nat → Int64) (zholds_count : Int32) (zdirtyMarks_marks : Nat → Int32) (zdifferent : Nat → Int64) (p1 : Int32) {y : (Int32 × (Nat → Int64) × (Nat → Int32) × (Nat → Int32) × (Nat → Int32) × (Nat → Int32))} (hf : pf_OS_replaceOutputs N zpaths_count zsteps_targets zsteps_configurations zsteps_count zoutputs_contents zoutputs_makers zoutputs_executables zoutputs_lazies zstaged_contents zstaged_makers zstaged_executables zstaged_lazies zdirtyMarks_marks p1 = some y) (sz : Nat) : Met l y_OS_replaceOutputs ww_OS_replaceOutputs ({ frames := 3, cells := 0, slots := 0, locals := 63 }) (va_Pc [.ref (a 0), .int p1] (zB (dC, dI) zCl (t_OS k) (w_OS a k zpaths_outer zpaths_count zsteps_targets zsteps_configurations zsteps_runs zsteps_opened zsteps_count zoutputs_contents zoutputs_makers zoutputs_executables zoutputs_lazies zstaged_contents zstaged_makers zstaged_executables zstaged_lazies zcached_contents zcached_count zholds_contents zholds_count zdirtyMarks_marks zdifferent) sz)) (zQi (dC, dI) zCl (w_OS a k zpaths_outer zpaths_count zsteps_targets zsteps_configurations zsteps_runs zsteps_opened zsteps_count zoutputs_contents zoutputs_makers zoutputs_executables zoutputs_lazies zstaged_contents zstaged_makers zstaged_executables zstaged_lazies zcached_contents zcached_count zholds_contents zholds_count zdirtyMarks_marks zdifferent) sz y.1 (w_OS a k zpaths_outer zpaths_count zsteps_targets zsteps_configurations zsteps_runs zsteps_opened zsteps_count y.2.1 y.2.2.1 y.2.2.2.1 y.2.2.2.2.1 zstaged_contents zstaged_makers zstaged_executables zstaged_lazies zcached_contents zcached_count zholds_contents zholds_count y.2.2.2.2.2 zdifferent)) 0 0 (va_A (w_OS a k zpaths_outer zpaths_count zsteps_targets zsteps_configurations zsteps_runs zsteps_opened zsteps_count zoutputs_contents zoutputs_makers zoutputs_executables zoutputs_lazies zstaged_contents zstaged_makers zstaged_executables zstaged_lazies zcached_contents zcached_count zholds_contents zholds_count zdirtyMarks_marks zdifferent) sz) := by
  refine Met.ofW (cc := b_OS_replaceOutputs) (maxL := 7) (ret := (some .int)) (by decide) rfl ?_
  intro p e s m args below meth c s₁ B hml hv
  obtain ⟨rfl, rfl, hP, hK, hD, hN⟩ := hv
  have hx := B.exec
  have hb := B.bytes
  have hr := B.returns
  have hts := atoms_spec (ws := ww_OS_replaceOutputs) B.pre
  have hown : s.vm.findClass R_OS = some m.cls := findClass_of_methodNamed B.named
  have hlocks := B.notSynchronized
  have hA : ∀ q : Nat, s.heap.size ≤ q → va_A (w_OS a k zpaths_outer zpaths_count zsteps_targets zsteps_configurations zsteps_runs zsteps_opened zsteps_count zoutputs_contents zoutputs_makers zoutputs_executables zoutputs_lazies zstaged_contents zstaged_makers zstaged_executables zstaged_lazies zcached_contents zcached_count zholds_contents zholds_count zdirtyMarks_marks zdifferent) s.heap.size q := fun q h => Or.inr h
  refine z_start (lv := [(0, .ref (a 0)), (1, .int p1)]) (Nat.le_of_ble_eq_true rfl) rfl hP hD (fun H locs ls hP hD hS hl => ?_)
  unfold pf_OS_replaceOutputs at hf
  refine lv_aload_n hx hb d_OS_replaceOutputs_0 rfl (lv_at hl 0 rfl) ?_
  refine va_get (D := (dC, dI)) (ci := 6) (v := .ref (a 3)) (C := R_OS) (T := F_OS) (N := 8) hx hb hts (fun w h => List.mem_cons_of_mem _ (in_OS w h)) hown hK hP 0 rfl rfl 1 (by decide) (hts _ (List.mem_cons_of_mem _ k_1_111)) (fun _ h9 => h9) rfl d_OS_replaceOutputs_1 ?_
  refine lv_iload_n hx hb d_OS_replaceOutputs_4 rfl (lv_at hl 1 rfl) ?_
  obtain ⟨u0, hu0, hf⟩ := z_b hf
  have hPc := zP_cut (wc := (w_SB (fun i => a (3 + i)) (fun i => k (1 + i)) zsteps_targets zsteps_configurations zsteps_runs zsteps_opened zsteps_count)) 3 8 hP rfl
  have hDc := zD_cut (wc := (w_SB (fun i => a (3 + i)) (fun i => k (1 + i)) zsteps_targets zsteps_configurations zsteps_runs zsteps_opened zsteps_count)) 3 8 hD rfl
  have hKc := hK.sub (tys' := (t_SB (fun i => k (1 + i)))) [1, 2, 3, 4] rfl
  refine z_ci (va_runV (As := [.int p1]) (rest := []) ⟨hx, hb, hml, hown, hts⟩ (c_SB_configurationOf l dC dI N (fun i => a (3 + i)) (fun i => k (1 + i)) zsteps_targets zsteps_configurations zsteps_runs zsteps_opened zsteps_count p1 hu0 H.size) (cwV 1 hts (zGV zsub_c k_1_187 k_1_188 k_1_189 k_1_3 kc_SB_configurationOf) rfl rfl rfl (by decide +kernel) ⟨Nat.le_of_ble_eq_true rfl, Nat.le_of_ble_eq_true rfl⟩) ⟨z_bl, va_recv hKc hPc (ci := 1) (q0 := 0) rfl rfl, fun U hU hW => ⟨rfl, z_pre hN hKc hPc hDc U hU hW⟩⟩ rfl rfl hl.1 rfl (lv_room (Nat.le_of_ble_eq_true rfl)) d_OS_replaceOutputs_5 ⟨Nat.zero_le _, Nat.zero_le _⟩) 3 8 (w_OS a k zpaths_outer zpaths_count zsteps_targets zsteps_configurations zsteps_runs zsteps_opened zsteps_count zoutputs_contents zoutputs_makers zoutputs_executables zoutputs_lazies zstaged_contents zstaged_makers zstaged_executables zstaged_lazies zcached_contents zcached_count zholds_contents zholds_count zdirtyMarks_marks zdifferent) hP hD hS hA rfl rfl (fun H locs hP hD hS => ?_)
  refine lv_istore_n (lv' := [(2, .int u0), (0, .ref (a 0)), (1, .int p1)]) hx hb d_OS_replaceOutputs_8 rfl hl (by decide) rfl (fun ls hl => ?_)
  refine lv_aload_n hx hb d_OS_replaceOutputs_9 rfl (lv_at hl 1 rfl) ?_
  refine va_get (D := (dC, dI)) (ci := 6) (v := .ref (a 3)) (C := R_OS) (T := F_OS) (N := 8) hx hb hts (fun w h => List.mem_cons_of_mem _ (in_OS w h)) hown hK hP 0 rfl rfl 1 (by decide) (hts _ (List.mem_cons_of_mem _ k_1_111)) (fun _ h9 => h9) rfl d_OS_replaceOutputs_10 ?_
  refine lv_iload_n hx hb d_OS_replaceOutputs_13 rfl (lv_at hl 2 rfl) ?_
  obtain ⟨u1, hu1, hf⟩ := z_b hf
  have hPc := zP_cut (wc := (w_SB (fun i => a (3 + i)) (fun i => k (1 + i)) zsteps_targets zsteps_configurations zsteps_runs zsteps_opened zsteps_count)) 3 8 hP rfl
  have hDc := zD_cut (wc := (w_SB (fun i => a (3 + i)) (fun i => k (1 + i)) zsteps_targets zsteps_configurations zsteps_runs zsteps_opened zsteps_count)) 3 8 hD rfl
  have hKc := hK.sub (tys' := (t_SB (fun i => k (1 + i)))) [1, 2, 3, 4] rfl
  refine z_ci (va_runV (As := [.int p1]) (rest := []) ⟨hx, hb, hml, hown, hts⟩ (c_SB_targetOf l dC dI N (fun i => a (3 + i)) (fun i => k (1 + i)) zsteps_targets zsteps_configurations zsteps_runs zsteps_opened zsteps_count p1 hu1 H.size) (cwV 1 hts (zGV zsub_c k_1_224 k_1_225 k_1_226 k_1_3 kc_SB_targetOf) rfl rfl rfl (by decide +kernel) ⟨Nat.le_of_ble_eq_true rfl, Nat.le_of_ble_eq_true rfl⟩) ⟨z_bl, va_recv hKc hPc (ci := 1) (q0 := 0) rfl rfl, fun U hU hW => ⟨rfl, z_pre hN hKc hPc hDc U hU hW⟩⟩ rfl rfl hl.1 rfl (lv_room (Nat.le_of_ble_eq_true rfl)) d_OS_replaceOutputs_14 ⟨Nat.zero_le _, Nat.zero_le _⟩) 3 8 (w_OS a k zpaths_outer zpaths_count zsteps_targets zsteps_configurations zsteps_runs zsteps_opened zsteps_count zoutputs_contents zoutputs_makers zoutputs_executables zoutputs_lazies zstaged_contents zstaged_makers zstaged_executables zstaged_lazies zcached_contents zcached_count zholds_contents zholds_count zdirtyMarks_marks zdifferent) hP hD hS hA rfl rfl (fun H locs hP hD hS => ?_)
  refine lv_istore_n (lv' := [(3, .int u1), (2, .int u0), (0, .ref (a 0)), (1, .int p1)]) hx hb d_OS_replaceOutputs_17 rfl hl (by decide) rfl (fun ls hl => ?_)
  refine lv_iconst (v := (0 : Int32)) hx hb d_OS_replaceOutputs_18 (by decide) ?_
  refine lv_istore (lv' := [(4, .int (0 : Int32)), (3, .int u1), (2, .int u0), (0, .ref (a 0)), (1, .int p1)]) hx hb d_OS_replaceOutputs_19 hl (by decide) rfl (fun ls hl => ?_)
  refine lv_iconst (v := (0 : Int32)) hx hb d_OS_replaceOutputs_21 (by decide) ?_
  refine lv_istore (lv' := [(5, .int (0 : Int32)), (4, .int (0 : Int32)), (3, .int u1), (2, .int u0), (0, .ref (a 0)), (1, .int p1)]) hx hb d_OS_replaceOutputs_22 hl (by decide) rfl (fun ls hl => ?_)
  have loop24 : ∀ (n : Nat) (zoutputs_contents' : Nat → Int64) (zoutputs_makers' : Nat → Int32) (zoutputs_executables' : Nat → Int32) (zoutputs_lazies' : Nat → Int32) (x4 : Int32) (x5 : Int32), pf_OS_replaceOutputs_L24 N zpaths_count zsteps_targets zsteps_count zstaged_contents zstaged_makers zstaged_executables zstaged_lazies zdirtyMarks_marks p1 u0 u1 n zoutputs_contents' zoutputs_makers' zoutputs_executables' zoutputs_lazies' x4 x5 = some y → ∀ (H : Heap) (locs : List Loc) (ls : Array Slot), va_P (dC, dI) zCl (w_OS a k zpaths_outer zpaths_count zsteps_targets zsteps_configurations zsteps_runs zsteps_opened zsteps_count zoutputs_contents' zoutputs_makers' zoutputs_executables' zoutputs_lazies' zstaged_contents zstaged_makers zstaged_executables zstaged_lazies zcached_contents zcached_count zholds_contents zholds_count zdirtyMarks_marks zdifferent) H → va_D (va_A (w_OS a k zpaths_outer zpaths_count zsteps_targets zsteps_configurations zsteps_runs zsteps_opened zsteps_count zoutputs_contents zoutputs_makers zoutputs_executables zoutputs_lazies zstaged_contents zstaged_makers zstaged_executables zstaged_lazies zcached_contents zcached_count zholds_contents zholds_count zdirtyMarks_marks zdifferent) s.heap.size) (w_OS a k zpaths_outer zpaths_count zsteps_targets zsteps_configurations zsteps_runs zsteps_opened zsteps_count zoutputs_contents' zoutputs_makers' zoutputs_executables' zoutputs_lazies' zstaged_contents zstaged_makers zstaged_executables zstaged_lazies zcached_contents zcached_count zholds_contents zholds_count zdirtyMarks_marks zdifferent) → va_S (va_A (w_OS a k zpaths_outer zpaths_count zsteps_targets zsteps_configurations zsteps_runs zsteps_opened zsteps_count zoutputs_contents zoutputs_makers zoutputs_executables zoutputs_lazies zstaged_contents zstaged_makers zstaged_executables zstaged_lazies zcached_contents zcached_count zholds_contents zholds_count zdirtyMarks_marks zdifferent) s.heap.size) s.heap H locs → lv_has ls 7 [(0, .ref (a 0)), (1, .int p1), (2, .int u0), (3, .int u1), (4, .int x4), (5, .int x5)] → W p l e (headSpec ww_OS_replaceOutputs ({ frames := 3, cells := 0, slots := 0, locals := 63 })).room s m ([.ref (a 0), .int p1] : List Value).toArray below meth c H locs 0 0 (MQ below (zQi (dC, dI) zCl (w_OS a k zpaths_outer zpaths_count zsteps_targets zsteps_configurations zsteps_runs zsteps_opened zsteps_count zoutputs_contents zoutputs_makers zoutputs_executables zoutputs_lazies zstaged_contents zstaged_makers zstaged_executables zstaged_lazies zcached_contents zcached_count zholds_contents zholds_count zdirtyMarks_marks zdifferent) s.heap.size y.1 (w_OS a k zpaths_outer zpaths_count zsteps_targets zsteps_configurations zsteps_runs zsteps_opened zsteps_count y.2.1 y.2.2.1 y.2.2.2.1 y.2.2.2.2.1 zstaged_contents zstaged_makers zstaged_executables zstaged_lazies zcached_contents zcached_count zholds_contents zholds_count y.2.2.2.2.2 zdifferent)) ([.ref (a 0), .int p1] : List Value).toArray s 0 0 (va_A (w_OS a k zpaths_outer zpaths_count zsteps_targets zsteps_configurations zsteps_runs zsteps_opened zsteps_count zoutputs_contents zoutputs_makers zoutputs_executables zoutputs_lazies zstaged_contents zstaged_makers zstaged_executables zstaged_lazies zcached_contents zcached_count zholds_contents zholds_count zdirtyMarks_marks zdifferent) s.heap.size)) (F0 m 24 ls []) := by
    intro n24
    induction n24 with
    | zero => intro zoutputs_contents' zoutputs_makers' zoutputs_executables' zoutputs_lazies' x4 x5 hf; rw [pf_OS_replaceOutputs_L24.eq_1] at hf; cases hf
    | succ n24 ih24 =>
      intro zoutputs_contents' zoutputs_makers' zoutputs_executables' zoutputs_lazies' x4 x5 hf H locs ls hP hD hS hl
      rw [pf_OS_replaceOutputs_L24.eq_2] at hf
      refine lv_iload hx hb d_OS_replaceOutputs_24 (lv_at hl 5 rfl) ?_
      refine lv_bipush (v := (nI 40)) hx hb d_OS_replaceOutputs_26 (by decide) ?_
      refine lv_icmp_ge (tgt := 133) hx hb d_OS_replaceOutputs_28 (by decide) (fun c1 => ?_) (fun c1 => ?_)
      · have hf := z_t c1 hf
        refine lv_aload_n hx hb d_OS_replaceOutputs_133 rfl (lv_at hl 0 rfl) ?_
        refine va_get (D := (dC, dI)) (ci := 6) (v := .ref (a 22)) (C := R_OS) (T := F_OS) (N := 8) hx hb hts (fun w h => List.mem_cons_of_mem _ (in_OS w h)) hown hK hP 0 rfl rfl 6 (by decide) (hts _ (List.mem_cons_of_mem _ k_1_116)) (fun _ h9 => h9) rfl d_OS_replaceOutputs_134 ?_
        refine lv_iload_n hx hb d_OS_replaceOutputs_137 rfl (lv_at hl 3 rfl) ?_
        refine lv_iload_n hx hb d_OS_replaceOutputs_138 rfl (lv_at hl 2 rfl) ?_
        refine lv_iconst (v := (0 : Int32)) hx hb d_OS_replaceOutputs_139 (by decide) ?_
        obtain ⟨u2, hu2, hf⟩ := z_b hf
        have hPc := zP_cut (wc := (w_DM (fun i => a (22 + i)) (fun i => k (15 + i)) zdirtyMarks_marks)) 22 24 hP rfl
        have hDc := zD_cut (wc := (w_DM (fun i => a (22 + i)) (fun i => k (15 + i)) zdirtyMarks_marks)) 22 24 hD rfl
        have hKc := hK.sub (tys' := (t_DM (fun i => k (15 + i)))) [15] rfl
        refine z_cv (va_runV (As := [.int u1, .int u0, .int (0 : Int32)]) (rest := []) ⟨hx, hb, hml, hown, hts⟩ (c_DM_set l dC dI N (fun i => a (22 + i)) (fun i => k (15 + i)) zdirtyMarks_marks u1 u0 (0 : Int32) hu2 H.size) (cwV 3 hts (zGV zsub_c k_2_35 k_2_36 k_2_37 k_1_7 kc_DM_set) rfl rfl rfl (by decide +kernel) ⟨Nat.le_of_ble_eq_true rfl, Nat.le_of_ble_eq_true rfl⟩) ⟨z_bl, va_recv hKc hPc (ci := 5) (q0 := 0) rfl rfl, fun U hU hW => ⟨rfl, z_pre hN hKc hPc hDc U hU hW⟩⟩ rfl rfl hl.1 rfl (lv_room (Nat.le_of_ble_eq_true rfl)) d_OS_replaceOutputs_140 ⟨Nat.zero_le _, Nat.zero_le _⟩) 22 24 (w_OS a k zpaths_outer zpaths_count zsteps_targets zsteps_configurations zsteps_runs zsteps_opened zsteps_count zoutputs_contents' zoutputs_makers' zoutputs_executables' zoutputs_lazies' zstaged_contents zstaged_makers zstaged_executables zstaged_lazies zcached_contents zcached_count zholds_contents zholds_count u2 zdifferent) hP hD hS hA rfl rfl (fun H locs hP hD hS => ?_)
        refine lv_iload hx hb d_OS_replaceOutputs_143 (lv_at hl 4 rfl) ?_
        obtain rfl := Option.some.inj hf
        exact z_iret hx hb hr hP hD hS d_OS_replaceOutputs_145 hlocks
      · have hf := z_f c1 hf
        refine lv_aload_n hx hb d_OS_replaceOutputs_31 rfl (lv_at hl 0 rfl) ?_
        refine lv_iload_n hx hb d_OS_replaceOutputs_32 rfl (lv_at hl 2 rfl) ?_
        refine lv_iload hx hb d_OS_replaceOutputs_33 (lv_at hl 5 rfl) ?_
        obtain ⟨u3, hu3, hf⟩ := z_b hf
        have hPc := hP
        have hDc := hD
        have hKc := hK
        refine z_cwi (va_runV (As := [.int u0, .int x5]) (rest := []) ⟨hx, hb, hml, hown, hts⟩ (c_OS_slotOf l dC dI N a k zpaths_outer zpaths_count zsteps_targets zsteps_configurations zsteps_runs zsteps_opened zsteps_count zoutputs_contents' zoutputs_makers' zoutputs_executables' zoutputs_lazies' zstaged_contents zstaged_makers zstaged_executables zstaged_lazies zcached_contents zcached_count zholds_contents zholds_count zdirtyMarks_marks zdifferent u0 x5 hu3 H.size) (cwV 2 hts (zGV zsub_c k_1_191 k_1_193 s_OS_slotOf k_1_1 kc_OS_slotOf) rfl rfl rfl (by decide +kernel) ⟨Nat.le_of_ble_eq_true rfl, Nat.le_of_ble_eq_true rfl⟩) ⟨z_bl, va_recv hKc hPc (ci := 6) (q0 := 0) rfl rfl, fun U hU hW => ⟨rfl, z_pre hN hKc hPc hDc U hU hW⟩⟩ rfl rfl hl.1 rfl (lv_room (Nat.le_of_ble_eq_true rfl)) d_OS_replaceOutputs_35 ⟨Nat.zero_le _, Nat.zero_le _⟩) hD hS hA (fun H locs hP hD hS => ?_)
        refine lv_istore (lv' := [(6, .int u3), (0, .ref (a 0)), (1, .int p1), (2, .int u0), (3, .int u1), (4, .int x4), (5, .int x5)]) hx hb d_OS_replaceOutputs_38 hl (by decide) rfl (fun ls hl => ?_)
        refine lv_aload_n hx hb d_OS_replaceOutputs_40 rfl (lv_at hl 1 rfl) ?_
        refine va_get (D := (dC, dI)) (ci := 6) (v := .ref (a 13)) (C := R_OS) (T := F_OS) (N := 8) hx hb hts (fun w h => List.mem_cons_of_mem _ (in_OS w h)) hown hK hP 0 rfl rfl 3 (by decide) (hts _ (List.mem_cons_of_mem _ k_1_113)) (fun _ h9 => h9) rfl d_OS_replaceOutputs_41 ?_
        refine lv_iload hx hb d_OS_replaceOutputs_44 (lv_at hl 0 rfl) ?_
        refine lv_iload_n hx hb d_OS_replaceOutputs_46 rfl (lv_at hl 2 rfl) ?_
        obtain ⟨u4, hu4, hf⟩ := z_b hf
        have hPc := zP_cut (wc := (w_LT (fun i => a (13 + i)) (fun i => k (9 + i)) zstaged_contents zstaged_makers zstaged_executables zstaged_lazies)) 13 18 hP rfl
        have hDc := zD_cut (wc := (w_LT (fun i => a (13 + i)) (fun i => k (9 + i)) zstaged_contents zstaged_makers zstaged_executables zstaged_lazies)) 13 18 hD rfl
        have hKc := hK.sub (tys' := (t_LT (fun i => k (9 + i)))) [9, 10, 11, 12] rfl
        refine z_ci (va_runV (As := [.int u3, .int p1]) (rest := []) ⟨hx, hb, hml, hown, hts⟩ (c_LT_isOfStep l dC dI N (fun i => a (13 + i)) (fun i => k (9 + i)) zstaged_contents zstaged_makers zstaged_executables zstaged_lazies u3 p1 hu4 H.size) (cwV 2 hts (zGV zsub_c k_1_195 k_1_196 k_1_197 k_1_4 kc_LT_isOfStep) rfl rfl rfl (by decide +kernel) ⟨Nat.le_of_ble_eq_true rfl, Nat.le_of_ble_eq_true rfl⟩) ⟨z_bl, va_recv hKc hPc (ci := 2) (q0 := 0) rfl rfl, fun U hU hW => ⟨rfl, z_pre hN hKc hPc hDc U hU hW⟩⟩ rfl rfl hl.1 rfl (lv_room (Nat.le_of_ble_eq_true rfl)) d_OS_replaceOutputs_47 ⟨Nat.zero_le _, Nat.zero_le _⟩) 13 18 (w_OS a k zpaths_outer zpaths_count zsteps_targets zsteps_configurations zsteps_runs zsteps_opened zsteps_count zoutputs_contents' zoutputs_makers' zoutputs_executables' zoutputs_lazies' zstaged_contents zstaged_makers zstaged_executables zstaged_lazies zcached_contents zcached_count zholds_contents zholds_count zdirtyMarks_marks zdifferent) hP hD hS hA rfl rfl (fun H locs hP hD hS => ?_)
        refine lv_if_eq (tgt := 93) hx hb d_OS_replaceOutputs_50 (by decide) (fun c2 => ?_) (fun c2 => ?_)
        · have hf := z_t c2 hf
          refine lv_aload_n hx hb d_OS_replaceOutputs_93 rfl (lv_at hl 1 rfl) ?_
          refine va_get (D := (dC, dI)) (ci := 6) (v := .ref (a 8)) (C := R_OS) (T := F_OS) (N := 8) hx hb hts (fun w h => List.mem_cons_of_mem _ (in_OS w h)) hown hK hP 0 rfl rfl 2 (by decide) (hts _ (List.mem_cons_of_mem _ k_1_112)) (fun _ h9 => h9) rfl d_OS_replaceOutputs_94 ?_
          refine lv_iload hx hb d_OS_replaceOutputs_97 (lv_at hl 0 rfl) ?_
          obtain ⟨u5, hu5, hf⟩ := z_b hf
          have hPc := zP_cut (wc := (w_LT (fun i => a (8 + i)) (fun i => k (5 + i)) zoutputs_contents' zoutputs_makers' zoutputs_executables' zoutputs_lazies')) 8 13 hP rfl
          have hDc := zD_cut (wc := (w_LT (fun i => a (8 + i)) (fun i => k (5 + i)) zoutputs_contents' zoutputs_makers' zoutputs_executables' zoutputs_lazies')) 8 13 hD rfl
          have hKc := hK.sub (tys' := (t_LT (fun i => k (5 + i)))) [5, 6, 7, 8] rfl
          refine z_ci (va_runV (As := [.int u3]) (rest := []) ⟨hx, hb, hml, hown, hts⟩ (c_LT_has l dC dI N (fun i => a (8 + i)) (fun i => k (5 + i)) zoutputs_contents' zoutputs_makers' zoutputs_executables' zoutputs_lazies' u3 hu5 H.size) (cwV 1 hts (zGV zsub_c k_1_215 k_1_200 k_1_201 k_1_4 kc_LT_has) rfl rfl rfl (by decide +kernel) ⟨Nat.le_of_ble_eq_true rfl, Nat.le_of_ble_eq_true rfl⟩) ⟨z_bl, va_recv hKc hPc (ci := 2) (q0 := 0) rfl rfl, fun U hU hW => ⟨rfl, z_pre hN hKc hPc hDc U hU hW⟩⟩ rfl rfl hl.1 rfl (lv_room (Nat.le_of_ble_eq_true rfl)) d_OS_replaceOutputs_99 ⟨Nat.zero_le _, Nat.zero_le _⟩) 8 13 (w_OS a k zpaths_outer zpaths_count zsteps_targets zsteps_configurations zsteps_runs zsteps_opened zsteps_count zoutputs_contents' zoutputs_makers' zoutputs_executables' zoutputs_lazies' zstaged_contents zstaged_makers zstaged_executables zstaged_lazies zcached_contents zcached_count zholds_contents zholds_count zdirtyMarks_marks zdifferent) hP hD hS hA rfl rfl (fun H locs hP hD hS => ?_)
          refine lv_if_eq (tgt := 127) hx hb d_OS_replaceOutputs_102 (by decide) (fun c3 => ?_) (fun c3 => ?_)
          · have hf := z_t c3 hf
            refine lv_iinc (v := (x5 + (1 : Int32))) (lv' := [(5, .int (x5 + (1 : Int32))), (6, .int u3), (0, .ref (a 0)), (1, .int p1), (2, .int u0), (3, .int u1), (4, .int x4)]) hx hb d_OS_replaceOutputs_127 hl (k := 6) rfl rfl (by decide) rfl (fun ls hl => ?_)
            refine lv_goto (tgt := 24) hx hb d_OS_replaceOutputs_130 (by decide) ?_
            exact ih24 zoutputs_contents' zoutputs_makers' zoutputs_executables' zoutputs_lazies' x4 (x5 + (1 : Int32)) hf H locs ls hP hD hS (lv_sub hl [2, 3, 4, 5, 6, 0] rfl)
          · have hf := z_f c3 hf
            refine lv_aload_n hx hb d_OS_replaceOutputs_105 rfl (lv_at hl 1 rfl) ?_
            refine lv_iload hx hb d_OS_replaceOutputs_106 (lv_at hl 0 rfl) ?_
            obtain ⟨u6, hu6, hf⟩ := z_b hf
            have hPc := hP
            have hDc := hD
            have hKc := hK
            refine z_cwi (va_runV (As := [.int u3]) (rest := []) ⟨hx, hb, hml, hown, hts⟩ (c_OS_targetAt l dC dI N a k zpaths_outer zpaths_count zsteps_targets zsteps_configurations zsteps_runs zsteps_opened zsteps_count zoutputs_contents' zoutputs_makers' zoutputs_executables' zoutputs_lazies' zstaged_contents zstaged_makers zstaged_executables zstaged_lazies zcached_contents zcached_count zholds_contents zholds_count zdirtyMarks_marks zdifferent u3 hu6 H.size) (cwV 1 hts (zGV zsub_c k_1_216 k_1_218 s_OS_targetAt k_1_1 kc_OS_targetAt) rfl rfl rfl (by decide +kernel) ⟨Nat.le_of_ble_eq_true rfl, Nat.le_of_ble_eq_true rfl⟩) ⟨z_bl, va_recv hKc hPc (ci := 6) (q0 := 0) rfl rfl, fun U hU hW => ⟨rfl, z_pre hN hKc hPc hDc U hU hW⟩⟩ rfl rfl hl.1 rfl (lv_room (Nat.le_of_ble_eq_true rfl)) d_OS_replaceOutputs_108 ⟨Nat.zero_le _, Nat.zero_le _⟩) hD hS hA (fun H locs hP hD hS => ?_)
            refine lv_iload_n hx hb d_OS_replaceOutputs_111 rfl (lv_at hl 4 rfl) ?_
            refine lv_icmp_ne (tgt := 127) hx hb d_OS_replaceOutputs_112 (by decide) (fun c4 => ?_) (fun c4 => ?_)
            · have hf := z_t c4 hf
              refine lv_iinc (v := (x5 + (1 : Int32))) (lv' := [(5, .int (x5 + (1 : Int32))), (6, .int u3), (0, .ref (a 0)), (1, .int p1), (2, .int u0), (3, .int u1), (4, .int x4)]) hx hb d_OS_replaceOutputs_127 hl (k := 6) rfl rfl (by decide) rfl (fun ls hl => ?_)
              refine lv_goto (tgt := 24) hx hb d_OS_replaceOutputs_130 (by decide) ?_
              exact ih24 zoutputs_contents' zoutputs_makers' zoutputs_executables' zoutputs_lazies' x4 (x5 + (1 : Int32)) hf H locs ls hP hD hS (lv_sub hl [2, 3, 4, 5, 6, 0] rfl)
            · have hf := z_fn c4 hf
              refine lv_aload_n hx hb d_OS_replaceOutputs_115 rfl (lv_at hl 1 rfl) ?_
              refine va_get (D := (dC, dI)) (ci := 6) (v := .ref (a 8)) (C := R_OS) (T := F_OS) (N := 8) hx hb hts (fun w h => List.mem_cons_of_mem _ (in_OS w h)) hown hK hP 0 rfl rfl 2 (by decide) (hts _ (List.mem_cons_of_mem _ k_1_112)) (fun _ h9 => h9) rfl d_OS_replaceOutputs_116 ?_
              refine lv_iload hx hb d_OS_replaceOutputs_119 (lv_at hl 0 rfl) ?_
              obtain ⟨u7, hu7, hf⟩ := z_b hf
              have hPc := zP_cut (wc := (w_LT (fun i => a (8 + i)) (fun i => k (5 + i)) zoutputs_contents' zoutputs_makers' zoutputs_executables' zoutputs_lazies')) 8 13 hP rfl
              have hDc := zD_cut (wc := (w_LT (fun i => a (8 + i)) (fun i => k (5 + i)) zoutputs_contents' zoutputs_makers' zoutputs_executables' zoutputs_lazies')) 8 13 hD rfl
              have hKc := hK.sub (tys' := (t_LT (fun i => k (5 + i)))) [5, 6, 7, 8] rfl
              refine z_cv (va_runV (As := [.int u3]) (rest := []) ⟨hx, hb, hml, hown, hts⟩ (c_LT_drop l dC dI N (fun i => a (8 + i)) (fun i => k (5 + i)) zoutputs_contents' zoutputs_makers' zoutputs_executables' zoutputs_lazies' u3 hu7 H.size) (cwV 1 hts (zGV zsub_c k_2_31 k_2_32 k_2_33 k_1_4 kc_LT_drop) rfl rfl rfl (by decide +kernel) ⟨Nat.le_of_ble_eq_true rfl, Nat.le_of_ble_eq_true rfl⟩) ⟨z_bl, va_recv hKc hPc (ci := 2) (q0 := 0) rfl rfl, fun U hU hW => ⟨rfl, z_pre hN hKc hPc hDc U hU hW⟩⟩ rfl rfl hl.1 rfl (lv_room (Nat.le_of_ble_eq_true rfl)) d_OS_replaceOutputs_121 ⟨Nat.zero_le _, Nat.zero_le _⟩) 8 13 (w_OS a k zpaths_outer zpaths_count zsteps_targets zsteps_configurations zsteps_runs zsteps_opened zsteps_count u7 zoutputs_makers' zoutputs_executables' zoutputs_lazies' zstaged_contents zstaged_makers zstaged_executables zstaged_lazies zcached_contents zcached_count zholds_contents zholds_count zdirtyMarks_marks zdifferent) hP hD hS hA rfl rfl (fun H locs hP hD hS => ?_)
              refine lv_iinc (v := (x4 + (1 : Int32))) (lv' := [(4, .int (x4 + (1 : Int32))), (6, .int u3), (0, .ref (a 0)), (1, .int p1), (2, .int u0), (3, .int u1), (5, .int x5)]) hx hb d_OS_replaceOutputs_124 hl (k := 5) rfl rfl (by decide) rfl (fun ls hl => ?_)
              refine lv_iinc (v := (x5 + (1 : Int32))) (lv' := [(5, .int (x5 + (1 : Int32))), (4, .int (x4 + (1 : Int32))), (6, .int u3), (0, .ref (a 0)), (1, .int p1), (2, .int u0), (3, .int u1)]) hx hb d_OS_replaceOutputs_127 hl (k := 6) rfl rfl (by decide) rfl (fun ls hl => ?_)
              refine lv_goto (tgt := 24) hx hb d_OS_replaceOutputs_130 (by decide) ?_
              exact ih24 u7 zoutputs_makers' zoutputs_executables' zoutputs_lazies' (x4 + (1 : Int32)) (x5 + (1 : Int32)) hf H locs ls hP hD hS (lv_sub hl [3, 4, 5, 6, 1, 0] rfl)
        · have hf := z_f c2 hf
          refine lv_aload_n hx hb d_OS_replaceOutputs_53 rfl (lv_at hl 1 rfl) ?_
          refine va_get (D := (dC, dI)) (ci := 6) (v := .ref (a 8)) (C := R_OS) (T := F_OS) (N := 8) hx hb hts (fun w h => List.mem_cons_of_mem _ (in_OS w h)) hown hK hP 0 rfl rfl 2 (by decide) (hts _ (List.mem_cons_of_mem _ k_1_112)) (fun _ h9 => h9) rfl d_OS_replaceOutputs_54 ?_
          refine lv_iload hx hb d_OS_replaceOutputs_57 (lv_at hl 0 rfl) ?_
          refine lv_iload_n hx hb d_OS_replaceOutputs_59 rfl (lv_at hl 2 rfl) ?_
          refine lv_aload_n hx hb d_OS_replaceOutputs_60 rfl (lv_at hl 1 rfl) ?_
          refine va_get (D := (dC, dI)) (ci := 6) (v := .ref (a 13)) (C := R_OS) (T := F_OS) (N := 8) hx hb hts (fun w h => List.mem_cons_of_mem _ (in_OS w h)) hown hK hP 0 rfl rfl 3 (by decide) (hts _ (List.mem_cons_of_mem _ k_1_113)) (fun _ h9 => h9) rfl d_OS_replaceOutputs_61 ?_
          refine lv_iload hx hb d_OS_replaceOutputs_64 (lv_at hl 0 rfl) ?_
          obtain ⟨u8, hu8, hf⟩ := z_b hf
          have hPc := zP_cut (wc := (w_LT (fun i => a (13 + i)) (fun i => k (9 + i)) zstaged_contents zstaged_makers zstaged_executables zstaged_lazies)) 13 18 hP rfl
          have hDc := zD_cut (wc := (w_LT (fun i => a (13 + i)) (fun i => k (9 + i)) zstaged_contents zstaged_makers zstaged_executables zstaged_lazies)) 13 18 hD rfl
          have hKc := hK.sub (tys' := (t_LT (fun i => k (9 + i)))) [9, 10, 11, 12] rfl
          refine z_cl (va_runV (As := [.int u3]) (rest := [.int p1, .int u3, .ref (a 8)]) ⟨hx, hb, hml, hown, hts⟩ (c_LT_contentAt l dC dI N (fun i => a (13 + i)) (fun i => k (9 + i)) zstaged_contents zstaged_makers zstaged_executables zstaged_lazies u3 hu8 H.size) (cwV 1 hts (zGV zsub_c k_2_19 k_2_20 k_2_21 k_1_4 kc_LT_contentAt) rfl rfl rfl (by decide +kernel) ⟨Nat.le_of_ble_eq_true rfl, Nat.le_of_ble_eq_true rfl⟩) ⟨z_bl, va_recv hKc hPc (ci := 2) (q0 := 0) rfl rfl, fun U hU hW => ⟨rfl, z_pre hN hKc hPc hDc U hU hW⟩⟩ rfl rfl hl.1 rfl (lv_room (Nat.le_of_ble_eq_true rfl)) d_OS_replaceOutputs_66 ⟨Nat.zero_le _, Nat.zero_le _⟩) 13 18 (w_OS a k zpaths_outer zpaths_count zsteps_targets zsteps_configurations zsteps_runs zsteps_opened zsteps_count zoutputs_contents' zoutputs_makers' zoutputs_executables' zoutputs_lazies' zstaged_contents zstaged_makers zstaged_executables zstaged_lazies zcached_contents zcached_count zholds_contents zholds_count zdirtyMarks_marks zdifferent) hP hD hS hA rfl rfl (fun H locs hP hD hS => ?_)
          refine lv_aload_n hx hb d_OS_replaceOutputs_69 rfl (lv_at hl 1 rfl) ?_
          refine va_get (D := (dC, dI)) (ci := 6) (v := .ref (a 13)) (C := R_OS) (T := F_OS) (N := 8) hx hb hts (fun w h => List.mem_cons_of_mem _ (in_OS w h)) hown hK hP 0 rfl rfl 3 (by decide) (hts _ (List.mem_cons_of_mem _ k_1_113)) (fun _ h9 => h9) rfl d_OS_replaceOutputs_70 ?_
          refine lv_iload hx hb d_OS_replaceOutputs_73 (lv_at hl 0 rfl) ?_
          obtain ⟨u9, hu9, hf⟩ := z_b hf
          have hPc := zP_cut (wc := (w_LT (fun i => a (13 + i)) (fun i => k (9 + i)) zstaged_contents zstaged_makers zstaged_executables zstaged_lazies)) 13 18 hP rfl
          have hDc := zD_cut (wc := (w_LT (fun i => a (13 + i)) (fun i => k (9 + i)) zstaged_contents zstaged_makers zstaged_executables zstaged_lazies)) 13 18 hD rfl
          have hKc := hK.sub (tys' := (t_LT (fun i => k (9 + i)))) [9, 10, 11, 12] rfl
          refine z_ci (va_runV (As := [.int u3]) (rest := [.long u8, .int p1, .int u3, .ref (a 8)]) ⟨hx, hb, hml, hown, hts⟩ (c_LT_isExecutable l dC dI N (fun i => a (13 + i)) (fun i => k (9 + i)) zstaged_contents zstaged_makers zstaged_executables zstaged_lazies u3 hu9 H.size) (cwV 1 hts (zGV zsub_c k_2_23 k_2_24 k_2_25 k_1_4 kc_LT_isExecutable) rfl rfl rfl (by decide +kernel) ⟨Nat.le_of_ble_eq_true rfl, Nat.le_of_ble_eq_true rfl⟩) ⟨z_bl, va_recv hKc hPc (ci := 2) (q0 := 0) rfl rfl, fun U hU hW => ⟨rfl, z_pre hN hKc hPc hDc U hU hW⟩⟩ rfl rfl hl.1 rfl (lv_room (Nat.le_of_ble_eq_true rfl)) d_OS_replaceOutputs_75 ⟨Nat.zero_le _, Nat.zero_le _⟩) 13 18 (w_OS a k zpaths_outer zpaths_count zsteps_targets zsteps_configurations zsteps_runs zsteps_opened zsteps_count zoutputs_contents' zoutputs_makers' zoutputs_executables' zoutputs_lazies' zstaged_contents zstaged_makers zstaged_executables zstaged_lazies zcached_contents zcached_count zholds_contents zholds_count zdirtyMarks_marks zdifferent) hP hD hS hA rfl rfl (fun H locs hP hD hS => ?_)
          refine lv_aload_n hx hb d_OS_replaceOutputs_78 rfl (lv_at hl 1 rfl) ?_
          refine va_get (D := (dC, dI)) (ci := 6) (v := .ref (a 13)) (C := R_OS) (T := F_OS) (N := 8) hx hb hts (fun w h => List.mem_cons_of_mem _ (in_OS w h)) hown hK hP 0 rfl rfl 3 (by decide) (hts _ (List.mem_cons_of_mem _ k_1_113)) (fun _ h9 => h9) rfl d_OS_replaceOutputs_79 ?_
          refine lv_iload hx hb d_OS_replaceOutputs_82 (lv_at hl 0 rfl) ?_
          obtain ⟨u10, hu10, hf⟩ := z_b hf
          have hPc := zP_cut (wc := (w_LT (fun i => a (13 + i)) (fun i => k (9 + i)) zstaged_contents zstaged_makers zstaged_executables zstaged_lazies)) 13 18 hP rfl
          have hDc := zD_cut (wc := (w_LT (fun i => a (13 + i)) (fun i => k (9 + i)) zstaged_contents zstaged_makers zstaged_executables zstaged_lazies)) 13 18 hD rfl
          have hKc := hK.sub (tys' := (t_LT (fun i => k (9 + i)))) [9, 10, 11, 12] rfl
          refine z_ci (va_runV (As := [.int u3]) (rest := [.int u9, .long u8, .int p1, .int u3, .ref (a 8)]) ⟨hx, hb, hml, hown, hts⟩ (c_LT_isLazy l dC dI N (fun i => a (13 + i)) (fun i => k (9 + i)) zstaged_contents zstaged_makers zstaged_executables zstaged_lazies u3 hu10 H.size) (cwV 1 hts (zGV zsub_c k_2_27 k_2_28 k_2_29 k_1_4 kc_LT_isLazy) rfl rfl rfl (by decide +kernel) ⟨Nat.le_of_ble_eq_true rfl, Nat.le_of_ble_eq_true rfl⟩) ⟨z_bl, va_recv hKc hPc (ci := 2) (q0 := 0) rfl rfl, fun U hU hW => ⟨rfl, z_pre hN hKc hPc hDc U hU hW⟩⟩ rfl rfl hl.1 rfl (lv_room (Nat.le_of_ble_eq_true rfl)) d_OS_replaceOutputs_84 ⟨Nat.zero_le _, Nat.zero_le _⟩) 13 18 (w_OS a k zpaths_outer zpaths_count zsteps_targets zsteps_configurations zsteps_runs zsteps_opened zsteps_count zoutputs_contents' zoutputs_makers' zoutputs_executables' zoutputs_lazies' zstaged_contents zstaged_makers zstaged_executables zstaged_lazies zcached_contents zcached_count zholds_contents zholds_count zdirtyMarks_marks zdifferent) hP hD hS hA rfl rfl (fun H locs hP hD hS => ?_)
          obtain ⟨u11, hu11, hf⟩ := z_b hf
          have hPc := zP_cut (wc := (w_LT (fun i => a (8 + i)) (fun i => k (5 + i)) zoutputs_contents' zoutputs_makers' zoutputs_executables' zoutputs_lazies')) 8 13 hP rfl
          have hDc := zD_cut (wc := (w_LT (fun i => a (8 + i)) (fun i => k (5 + i)) zoutputs_contents' zoutputs_makers' zoutputs_executables' zoutputs_lazies')) 8 13 hD rfl
          have hKc := hK.sub (tys' := (t_LT (fun i => k (5 + i)))) [5, 6, 7, 8] rfl
          refine z_cv (va_runV (As := [.int u3, .int p1, .long u8, .int u9, .int u10]) (rest := []) ⟨hx, hb, hml, hown, hts⟩ (c_LT_put l dC dI N (fun i => a (8 + i)) (fun i => k (5 + i)) zoutputs_contents' zoutputs_makers' zoutputs_executables' zoutputs_lazies' u3 p1 u8 u9 u10 hu11 H.size) (cwV 5 hts (zGV zsub_c k_2_7 k_2_8 k_2_9 k_1_4 kc_LT_put) rfl rfl rfl (by decide +kernel) ⟨Nat.le_of_ble_eq_true rfl, Nat.le_of_ble_eq_true rfl⟩) ⟨z_bl, va_recv hKc hPc (ci := 2) (q0 := 0) rfl rfl, fun U hU hW => ⟨rfl, z_pre hN hKc hPc hDc U hU hW⟩⟩ rfl rfl hl.1 rfl (lv_room (Nat.le_of_ble_eq_true rfl)) d_OS_replaceOutputs_87 ⟨Nat.zero_le _, Nat.zero_le _⟩) 8 13 (w_OS a k zpaths_outer zpaths_count zsteps_targets zsteps_configurations zsteps_runs zsteps_opened zsteps_count u11.1 u11.2.1 u11.2.2.1 u11.2.2.2 zstaged_contents zstaged_makers zstaged_executables zstaged_lazies zcached_contents zcached_count zholds_contents zholds_count zdirtyMarks_marks zdifferent) hP hD hS hA rfl rfl (fun H locs hP hD hS => ?_)
          refine lv_goto (tgt := 127) hx hb d_OS_replaceOutputs_90 (by decide) ?_
          refine lv_iinc (v := (x5 + (1 : Int32))) (lv' := [(5, .int (x5 + (1 : Int32))), (6, .int u3), (0, .ref (a 0)), (1, .int p1), (2, .int u0), (3, .int u1), (4, .int x4)]) hx hb d_OS_replaceOutputs_127 hl (k := 6) rfl rfl (by decide) rfl (fun ls hl => ?_)
          refine lv_goto (tgt := 24) hx hb d_OS_replaceOutputs_130 (by decide) ?_
          exact ih24 u11.1 u11.2.1 u11.2.2.1 u11.2.2.2 x4 (x5 + (1 : Int32)) hf H locs ls hP hD hS (lv_sub hl [2, 3, 4, 5, 6, 0] rfl)
  exact loop24 N zoutputs_contents zoutputs_makers zoutputs_executables zoutputs_lazies (0 : Int32) (0 : Int32) hf H locs ls hP hD hS (lv_sub hl [4, 5, 3, 2, 1, 0] rfl)
set_option maxHeartbeats 4000000 in
set_option maxRecDepth 100000 in
theorem c_OS_countStaged (l : Launch) (dC : Nat → ClassId) (dI : Nat → Nat → Nat) (N : Nat) (a : Nat → Nat) (k : Nat → ClassId) (zpaths_outer : Nat → Int32) (zpaths_count : Int32) (zsteps_targets : Nat → Int32) (zsteps_configurations : Nat → Int32) (zsteps_runs : Nat → Int32) (zsteps_opened : Nat → Int32) (zsteps_count : Int32) (zoutputs_contents : Nat → Int64) (zoutputs_makers : Nat → Int32) (zoutputs_executables : Nat → Int32) (zoutputs_lazies : Nat → Int32) (zstaged_contents : Nat → Int64) (zstaged_makers : Nat → Int32) (zstaged_executables : Nat → Int32) (zstaged_lazies : Nat → Int32) (zcached_contents : Nat → Int64) (zcached_count : Int32) (zholds_contents : Nat → Int64) (zholds_count : Int32) (zdirtyMarks_marks : Nat → Int32) (zdifferent : Nat → Int64) (p1 : Int32) {y : (Int32)} (hf : pf_OS_countStaged N zpaths_count zsteps_configurations zsteps_count zstaged_contents zstaged_makers p1 = some y) (sz : Nat) : Met l y_OS_countStaged ww_OS_countStaged ({ frames := 2, cells := 0, slots := 0, locals := 43 }) (va_Pc [.ref (a 0), .int p1] (zB (dC, dI) zCl (t_OS k) (w_OS a k zpaths_outer zpaths_count zsteps_targets zsteps_configurations zsteps_runs zsteps_opened zsteps_count zoutputs_contents zoutputs_makers zoutputs_executables zoutputs_lazies zstaged_contents zstaged_makers zstaged_executables zstaged_lazies zcached_contents zcached_count zholds_contents zholds_count zdirtyMarks_marks zdifferent) sz)) (zQi (dC, dI) zCl (w_OS a k zpaths_outer zpaths_count zsteps_targets zsteps_configurations zsteps_runs zsteps_opened zsteps_count zoutputs_contents zoutputs_makers zoutputs_executables zoutputs_lazies zstaged_contents zstaged_makers zstaged_executables zstaged_lazies zcached_contents zcached_count zholds_contents zholds_count zdirtyMarks_marks zdifferent) sz y (w_OS a k zpaths_outer zpaths_count zsteps_targets zsteps_configurations zsteps_runs zsteps_opened zsteps_count zoutputs_contents zoutputs_makers zoutputs_executables zoutputs_lazies zstaged_contents zstaged_makers zstaged_executables zstaged_lazies zcached_contents zcached_count zholds_contents zholds_count zdirtyMarks_marks zdifferent)) 0 0 (va_A (w_OS a k zpaths_outer zpaths_count zsteps_targets zsteps_configurations zsteps_runs zsteps_opened zsteps_count zoutputs_contents zoutputs_makers zoutputs_executables zoutputs_lazies zstaged_contents zstaged_makers zstaged_executables zstaged_lazies zcached_contents zcached_count zholds_contents zholds_count zdirtyMarks_marks zdifferent) sz) := by
  refine Met.ofW (cc := b_OS_countStaged) (maxL := 5) (ret := (some .int)) (by decide) rfl ?_
  intro p e s m args below meth c s₁ B hml hv
  obtain ⟨rfl, rfl, hP, hK, hD, hN⟩ := hv
  have hx := B.exec
  have hb := B.bytes
  have hr := B.returns
  have hts := atoms_spec (ws := ww_OS_countStaged) B.pre
  have hown : s.vm.findClass R_OS = some m.cls := findClass_of_methodNamed B.named
  have hlocks := B.notSynchronized
  have hA : ∀ q : Nat, s.heap.size ≤ q → va_A (w_OS a k zpaths_outer zpaths_count zsteps_targets zsteps_configurations zsteps_runs zsteps_opened zsteps_count zoutputs_contents zoutputs_makers zoutputs_executables zoutputs_lazies zstaged_contents zstaged_makers zstaged_executables zstaged_lazies zcached_contents zcached_count zholds_contents zholds_count zdirtyMarks_marks zdifferent) s.heap.size q := fun q h => Or.inr h
  refine z_start (lv := [(0, .ref (a 0)), (1, .int p1)]) (Nat.le_of_ble_eq_true rfl) rfl hP hD (fun H locs ls hP hD hS hl => ?_)
  unfold pf_OS_countStaged at hf
  refine lv_aload_n hx hb d_OS_countStaged_0 rfl (lv_at hl 0 rfl) ?_
  refine va_get (D := (dC, dI)) (ci := 6) (v := .ref (a 3)) (C := R_OS) (T := F_OS) (N := 8) hx hb hts (fun w h => List.mem_cons_of_mem _ (in_OS w h)) hown hK hP 0 rfl rfl 1 (by decide) (hts _ (List.mem_cons_of_mem _ k_1_111)) (fun _ h9 => h9) rfl d_OS_countStaged_1 ?_
  refine lv_iload_n hx hb d_OS_countStaged_4 rfl (lv_at hl 1 rfl) ?_
  obtain ⟨u0, hu0, hf⟩ := z_b hf
  have hPc := zP_cut (wc := (w_SB (fun i => a (3 + i)) (fun i => k (1 + i)) zsteps_targets zsteps_configurations zsteps_runs zsteps_opened zsteps_count)) 3 8 hP rfl
  have hDc := zD_cut (wc := (w_SB (fun i => a (3 + i)) (fun i => k (1 + i)) zsteps_targets zsteps_configurations zsteps_runs zsteps_opened zsteps_count)) 3 8 hD rfl
  have hKc := hK.sub (tys' := (t_SB (fun i => k (1 + i)))) [1, 2, 3, 4] rfl
  refine z_ci (va_runV (As := [.int p1]) (rest := []) ⟨hx, hb, hml, hown, hts⟩ (c_SB_configurationOf l dC dI N (fun i => a (3 + i)) (fun i => k (1 + i)) zsteps_targets zsteps_configurations zsteps_runs zsteps_opened zsteps_count p1 hu0 H.size) (cwV 1 hts (zGV zsub_c k_1_187 k_1_188 k_1_189 k_1_3 kc_SB_configurationOf) rfl rfl rfl (by decide +kernel) ⟨Nat.le_of_ble_eq_true rfl, Nat.le_of_ble_eq_true rfl⟩) ⟨z_bl, va_recv hKc hPc (ci := 1) (q0 := 0) rfl rfl, fun U hU hW => ⟨rfl, z_pre hN hKc hPc hDc U hU hW⟩⟩ rfl rfl hl.1 rfl (lv_room (Nat.le_of_ble_eq_true rfl)) d_OS_countStaged_5 ⟨Nat.zero_le _, Nat.zero_le _⟩) 3 8 (w_OS a k zpaths_outer zpaths_count zsteps_targets zsteps_configurations zsteps_runs zsteps_opened zsteps_count zoutputs_contents zoutputs_makers zoutputs_executables zoutputs_lazies zstaged_contents zstaged_makers zstaged_executables zstaged_lazies zcached_contents zcached_count zholds_contents zholds_count zdirtyMarks_marks zdifferent) hP hD hS hA rfl rfl (fun H locs hP hD hS => ?_)
  refine lv_istore_n (lv' := [(2, .int u0), (0, .ref (a 0)), (1, .int p1)]) hx hb d_OS_countStaged_8 rfl hl (by decide) rfl (fun ls hl => ?_)
  refine lv_iconst (v := (0 : Int32)) hx hb d_OS_countStaged_9 (by decide) ?_
  refine lv_istore_n (lv' := [(3, .int (0 : Int32)), (2, .int u0), (0, .ref (a 0)), (1, .int p1)]) hx hb d_OS_countStaged_10 rfl hl (by decide) rfl (fun ls hl => ?_)
  refine lv_iconst (v := (0 : Int32)) hx hb d_OS_countStaged_11 (by decide) ?_
  refine lv_istore (lv' := [(4, .int (0 : Int32)), (3, .int (0 : Int32)), (2, .int u0), (0, .ref (a 0)), (1, .int p1)]) hx hb d_OS_countStaged_12 hl (by decide) rfl (fun ls hl => ?_)
  have loop14 : ∀ (n : Nat) (x3 : Int32) (x4 : Int32), pf_OS_countStaged_L14 N zpaths_count zstaged_contents zstaged_makers p1 u0 n x3 x4 = some y → ∀ (H : Heap) (locs : List Loc) (ls : Array Slot), va_P (dC, dI) zCl (w_OS a k zpaths_outer zpaths_count zsteps_targets zsteps_configurations zsteps_runs zsteps_opened zsteps_count zoutputs_contents zoutputs_makers zoutputs_executables zoutputs_lazies zstaged_contents zstaged_makers zstaged_executables zstaged_lazies zcached_contents zcached_count zholds_contents zholds_count zdirtyMarks_marks zdifferent) H → va_D (va_A (w_OS a k zpaths_outer zpaths_count zsteps_targets zsteps_configurations zsteps_runs zsteps_opened zsteps_count zoutputs_contents zoutputs_makers zoutputs_executables zoutputs_lazies zstaged_contents zstaged_makers zstaged_executables zstaged_lazies zcached_contents zcached_count zholds_contents zholds_count zdirtyMarks_marks zdifferent) s.heap.size) (w_OS a k zpaths_outer zpaths_count zsteps_targets zsteps_configurations zsteps_runs zsteps_opened zsteps_count zoutputs_contents zoutputs_makers zoutputs_executables zoutputs_lazies zstaged_contents zstaged_makers zstaged_executables zstaged_lazies zcached_contents zcached_count zholds_contents zholds_count zdirtyMarks_marks zdifferent) → va_S (va_A (w_OS a k zpaths_outer zpaths_count zsteps_targets zsteps_configurations zsteps_runs zsteps_opened zsteps_count zoutputs_contents zoutputs_makers zoutputs_executables zoutputs_lazies zstaged_contents zstaged_makers zstaged_executables zstaged_lazies zcached_contents zcached_count zholds_contents zholds_count zdirtyMarks_marks zdifferent) s.heap.size) s.heap H locs → lv_has ls 5 [(0, .ref (a 0)), (1, .int p1), (2, .int u0), (3, .int x3), (4, .int x4)] → W p l e (headSpec ww_OS_countStaged ({ frames := 2, cells := 0, slots := 0, locals := 43 })).room s m ([.ref (a 0), .int p1] : List Value).toArray below meth c H locs 0 0 (MQ below (zQi (dC, dI) zCl (w_OS a k zpaths_outer zpaths_count zsteps_targets zsteps_configurations zsteps_runs zsteps_opened zsteps_count zoutputs_contents zoutputs_makers zoutputs_executables zoutputs_lazies zstaged_contents zstaged_makers zstaged_executables zstaged_lazies zcached_contents zcached_count zholds_contents zholds_count zdirtyMarks_marks zdifferent) s.heap.size y (w_OS a k zpaths_outer zpaths_count zsteps_targets zsteps_configurations zsteps_runs zsteps_opened zsteps_count zoutputs_contents zoutputs_makers zoutputs_executables zoutputs_lazies zstaged_contents zstaged_makers zstaged_executables zstaged_lazies zcached_contents zcached_count zholds_contents zholds_count zdirtyMarks_marks zdifferent)) ([.ref (a 0), .int p1] : List Value).toArray s 0 0 (va_A (w_OS a k zpaths_outer zpaths_count zsteps_targets zsteps_configurations zsteps_runs zsteps_opened zsteps_count zoutputs_contents zoutputs_makers zoutputs_executables zoutputs_lazies zstaged_contents zstaged_makers zstaged_executables zstaged_lazies zcached_contents zcached_count zholds_contents zholds_count zdirtyMarks_marks zdifferent) s.heap.size)) (F0 m 14 ls []) := by
    intro n14
    induction n14 with
    | zero => intro x3 x4 hf; rw [pf_OS_countStaged_L14.eq_1] at hf; cases hf
    | succ n14 ih14 =>
      intro x3 x4 hf H locs ls hP hD hS hl
      rw [pf_OS_countStaged_L14.eq_2] at hf
      refine lv_iload hx hb d_OS_countStaged_14 (lv_at hl 4 rfl) ?_
      refine lv_bipush (v := (nI 40)) hx hb d_OS_countStaged_16 (by decide) ?_
      refine lv_icmp_ge (tgt := 48) hx hb d_OS_countStaged_18 (by decide) (fun c1 => ?_) (fun c1 => ?_)
      · have hf := z_t c1 hf
        refine lv_iload_n hx hb d_OS_countStaged_48 rfl (lv_at hl 3 rfl) ?_
        obtain rfl := Option.some.inj hf
        exact z_iret hx hb hr hP hD hS d_OS_countStaged_49 hlocks
      · have hf := z_f c1 hf
        refine lv_aload_n hx hb d_OS_countStaged_21 rfl (lv_at hl 0 rfl) ?_
        refine va_get (D := (dC, dI)) (ci := 6) (v := .ref (a 13)) (C := R_OS) (T := F_OS) (N := 8) hx hb hts (fun w h => List.mem_cons_of_mem _ (in_OS w h)) hown hK hP 0 rfl rfl 3 (by decide) (hts _ (List.mem_cons_of_mem _ k_1_113)) (fun _ h9 => h9) rfl d_OS_countStaged_22 ?_
        refine lv_aload_n hx hb d_OS_countStaged_25 rfl (lv_at hl 0 rfl) ?_
        refine lv_iload_n hx hb d_OS_countStaged_26 rfl (lv_at hl 2 rfl) ?_
        refine lv_iload hx hb d_OS_countStaged_27 (lv_at hl 4 rfl) ?_
        obtain ⟨u1, hu1, hf⟩ := z_b hf
        have hPc := hP
        have hDc := hD
        have hKc := hK
        refine z_cwi (va_runV (As := [.int u0, .int x4]) (rest := [.ref (a 13)]) ⟨hx, hb, hml, hown, hts⟩ (c_OS_slotOf l dC dI N a k zpaths_outer zpaths_count zsteps_targets zsteps_configurations zsteps_runs zsteps_opened zsteps_count zoutputs_contents zoutputs_makers zoutputs_executables zoutputs_lazies zstaged_contents zstaged_makers zstaged_executables zstaged_lazies zcached_contents zcached_count zholds_contents zholds_count zdirtyMarks_marks zdifferent u0 x4 hu1 H.size) (cwV 2 hts (zGV zsub_c k_1_191 k_1_193 s_OS_slotOf k_1_1 kc_OS_slotOf) rfl rfl rfl (by decide +kernel) ⟨Nat.le_of_ble_eq_true rfl, Nat.le_of_ble_eq_true rfl⟩) ⟨z_bl, va_recv hKc hPc (ci := 6) (q0 := 0) rfl rfl, fun U hU hW => ⟨rfl, z_pre hN hKc hPc hDc U hU hW⟩⟩ rfl rfl hl.1 rfl (lv_room (Nat.le_of_ble_eq_true rfl)) d_OS_countStaged_29 ⟨Nat.zero_le _, Nat.zero_le _⟩) hD hS hA (fun H locs hP hD hS => ?_)
        refine lv_iload_n hx hb d_OS_countStaged_32 rfl (lv_at hl 1 rfl) ?_
        obtain ⟨u2, hu2, hf⟩ := z_b hf
        have hPc := zP_cut (wc := (w_LT (fun i => a (13 + i)) (fun i => k (9 + i)) zstaged_contents zstaged_makers zstaged_executables zstaged_lazies)) 13 18 hP rfl
        have hDc := zD_cut (wc := (w_LT (fun i => a (13 + i)) (fun i => k (9 + i)) zstaged_contents zstaged_makers zstaged_executables zstaged_lazies)) 13 18 hD rfl
        have hKc := hK.sub (tys' := (t_LT (fun i => k (9 + i)))) [9, 10, 11, 12] rfl
        refine z_ci (va_runV (As := [.int u1, .int p1]) (rest := []) ⟨hx, hb, hml, hown, hts⟩ (c_LT_isOfStep l dC dI N (fun i => a (13 + i)) (fun i => k (9 + i)) zstaged_contents zstaged_makers zstaged_executables zstaged_lazies u1 p1 hu2 H.size) (cwV 2 hts (zGV zsub_c k_1_195 k_1_196 k_1_197 k_1_4 kc_LT_isOfStep) rfl rfl rfl (by decide +kernel) ⟨Nat.le_of_ble_eq_true rfl, Nat.le_of_ble_eq_true rfl⟩) ⟨z_bl, va_recv hKc hPc (ci := 2) (q0 := 0) rfl rfl, fun U hU hW => ⟨rfl, z_pre hN hKc hPc hDc U hU hW⟩⟩ rfl rfl hl.1 rfl (lv_room (Nat.le_of_ble_eq_true rfl)) d_OS_countStaged_33 ⟨Nat.zero_le _, Nat.zero_le _⟩) 13 18 (w_OS a k zpaths_outer zpaths_count zsteps_targets zsteps_configurations zsteps_runs zsteps_opened zsteps_count zoutputs_contents zoutputs_makers zoutputs_executables zoutputs_lazies zstaged_contents zstaged_makers zstaged_executables zstaged_lazies zcached_contents zcached_count zholds_contents zholds_count zdirtyMarks_marks zdifferent) hP hD hS hA rfl rfl (fun H locs hP hD hS => ?_)
        refine lv_if_eq (tgt := 42) hx hb d_OS_countStaged_36 (by decide) (fun c2 => ?_) (fun c2 => ?_)
        · have hf := z_t c2 hf
          refine lv_iinc (v := (x4 + (1 : Int32))) (lv' := [(4, .int (x4 + (1 : Int32))), (0, .ref (a 0)), (1, .int p1), (2, .int u0), (3, .int x3)]) hx hb d_OS_countStaged_42 hl (k := 4) rfl rfl (by decide) rfl (fun ls hl => ?_)
          refine lv_goto (tgt := 14) hx hb d_OS_countStaged_45 (by decide) ?_
          exact ih14 x3 (x4 + (1 : Int32)) hf H locs ls hP hD hS (lv_sub hl [1, 2, 3, 4, 0] rfl)
        · have hf := z_f c2 hf
          refine lv_iinc (v := (x3 + (1 : Int32))) (lv' := [(3, .int (x3 + (1 : Int32))), (0, .ref (a 0)), (1, .int p1), (2, .int u0), (4, .int x4)]) hx hb d_OS_countStaged_39 hl (k := 3) rfl rfl (by decide) rfl (fun ls hl => ?_)
          refine lv_iinc (v := (x4 + (1 : Int32))) (lv' := [(4, .int (x4 + (1 : Int32))), (3, .int (x3 + (1 : Int32))), (0, .ref (a 0)), (1, .int p1), (2, .int u0)]) hx hb d_OS_countStaged_42 hl (k := 4) rfl rfl (by decide) rfl (fun ls hl => ?_)
          refine lv_goto (tgt := 14) hx hb d_OS_countStaged_45 (by decide) ?_
          exact ih14 (x3 + (1 : Int32)) (x4 + (1 : Int32)) hf H locs ls hP hD hS (lv_sub hl [2, 3, 4, 1, 0] rfl)
  exact loop14 N (0 : Int32) (0 : Int32) hf H locs ls hP hD hS (lv_sub hl [3, 4, 2, 1, 0] rfl)
set_option maxHeartbeats 4000000 in
set_option maxRecDepth 100000 in
theorem c_OS_isStagedAgainst (l : Launch) (dC : Nat → ClassId) (dI : Nat → Nat → Nat) (N : Nat) (a : Nat → Nat) (k : Nat → ClassId) (zpaths_outer : Nat → Int32) (zpaths_count : Int32) (zsteps_targets : Nat → Int32) (zsteps_configurations : Nat → Int32) (zsteps_runs : Nat → Int32) (zsteps_opened : Nat → Int32) (zsteps_count : Int32) (zoutputs_contents : Nat → Int64) (zoutputs_makers : Nat → Int32) (zoutputs_executables : Nat → Int32) (zoutputs_lazies : Nat → Int32) (zstaged_contents : Nat → Int64) (zstaged_makers : Nat → Int32) (zstaged_executables : Nat → Int32) (zstaged_lazies : Nat → Int32) (zcached_contents : Nat → Int64) (zcached_count : Int32) (zholds_contents : Nat → Int64) (zholds_count : Int32) (zdirtyMarks_marks : Nat → Int32) (zdifferent : Nat → Int64) (p1 : Int32) (p2 : Int32) (p3 : Int32) {y : (Int32)} (hf : pf_OS_isStagedAgainst N zstaged_contents zstaged_makers p1 p2 p3 = some y) (sz : Nat) : Met l y_OS_isStagedAgainst ww_OS_isStagedAgainst ({ frames := 2, cells := 0, slots := 0, locals := 43 }) (va_Pc [.ref (a 0), .int p1, .int p2, .int p3] (zB (dC, dI) zCl (t_OS k) (w_OS a k zpaths_outer zpaths_count zsteps_targets zsteps_configurations zsteps_runs zsteps_opened zsteps_count zoutputs_contents zoutputs_makers zoutputs_executables zoutputs_lazies zstaged_contents zstaged_makers zstaged_executables zstaged_lazies zcached_contents zcached_count zholds_contents zholds_count zdirtyMarks_marks zdifferent) sz)) (zQi (dC, dI) zCl (w_OS a k zpaths_outer zpaths_count zsteps_targets zsteps_configurations zsteps_runs zsteps_opened zsteps_count zoutputs_contents zoutputs_makers zoutputs_executables zoutputs_lazies zstaged_contents zstaged_makers zstaged_executables zstaged_lazies zcached_contents zcached_count zholds_contents zholds_count zdirtyMarks_marks zdifferent) sz y (w_OS a k zpaths_outer zpaths_count zsteps_targets zsteps_configurations zsteps_runs zsteps_opened zsteps_count zoutputs_contents zoutputs_makers zoutputs_executables zoutputs_lazies zstaged_contents zstaged_makers zstaged_executables zstaged_lazies zcached_contents zcached_count zholds_contents zholds_count zdirtyMarks_marks zdifferent)) 0 0 (va_A (w_OS a k zpaths_outer zpaths_count zsteps_targets zsteps_configurations zsteps_runs zsteps_opened zsteps_count zoutputs_contents zoutputs_makers zoutputs_executables zoutputs_lazies zstaged_contents zstaged_makers zstaged_executables zstaged_lazies zcached_contents zcached_count zholds_contents zholds_count zdirtyMarks_marks zdifferent) sz) := by
  refine Met.ofW (cc := b_OS_isStagedAgainst) (maxL := 4) (ret := (some .boolean)) (by decide) rfl ?_
  intro p e s m args below meth c s₁ B hml hv
  obtain ⟨rfl, rfl, hP, hK, hD, hN⟩ := hv
  have hx := B.exec
  have hb := B.bytes
  have hr := B.returns
  have hts := atoms_spec (ws := ww_OS_isStagedAgainst) B.pre
  have hown : s.vm.findClass R_OS = some m.cls := findClass_of_methodNamed B.named
  have hlocks := B.notSynchronized
  have hA : ∀ q : Nat, s.heap.size ≤ q → va_A (w_OS a k zpaths_outer zpaths_count zsteps_targets zsteps_configurations zsteps_runs zsteps_opened zsteps_count zoutputs_contents zoutputs_makers zoutputs_executables zoutputs_lazies zstaged_contents zstaged_makers zstaged_executables zstaged_lazies zcached_contents zcached_count zholds_contents zholds_count zdirtyMarks_marks zdifferent) s.heap.size q := fun q h => Or.inr h
  refine z_start (lv := [(0, .ref (a 0)), (1, .int p1), (2, .int p2), (3, .int p3)]) (Nat.le_of_ble_eq_true rfl) rfl hP hD (fun H locs ls hP hD hS hl => ?_)
  unfold pf_OS_isStagedAgainst at hf
  refine lv_aload_n hx hb d_OS_isStagedAgainst_0 rfl (lv_at hl 0 rfl) ?_
  refine va_get (D := (dC, dI)) (ci := 6) (v := .ref (a 13)) (C := R_OS) (T := F_OS) (N := 8) hx hb hts (fun w h => List.mem_cons_of_mem _ (in_OS w h)) hown hK hP 0 rfl rfl 3 (by decide) (hts _ (List.mem_cons_of_mem _ k_1_113)) (fun _ h9 => h9) rfl d_OS_isStagedAgainst_1 ?_
  refine lv_iload_n hx hb d_OS_isStagedAgainst_4 rfl (lv_at hl 2 rfl) ?_
  obtain ⟨u0, hu0, hf⟩ := z_b hf
  have hPc := zP_cut (wc := (w_LT (fun i => a (13 + i)) (fun i => k (9 + i)) zstaged_contents zstaged_makers zstaged_executables zstaged_lazies)) 13 18 hP rfl
  have hDc := zD_cut (wc := (w_LT (fun i => a (13 + i)) (fun i => k (9 + i)) zstaged_contents zstaged_makers zstaged_executables zstaged_lazies)) 13 18 hD rfl
  have hKc := hK.sub (tys' := (t_LT (fun i => k (9 + i)))) [9, 10, 11, 12] rfl
  refine z_ci (va_runV (As := [.int p2]) (rest := []) ⟨hx, hb, hml, hown, hts⟩ (c_LT_has l dC dI N (fun i => a (13 + i)) (fun i => k (9 + i)) zstaged_contents zstaged_makers zstaged_executables zstaged_lazies p2 hu0 H.size) (cwV 1 hts (zGV zsub_c k_1_215 k_1_200 k_1_201 k_1_4 kc_LT_has) rfl rfl rfl (by decide +kernel) ⟨Nat.le_of_ble_eq_true rfl, Nat.le_of_ble_eq_true rfl⟩) ⟨z_bl, va_recv hKc hPc (ci := 2) (q0 := 0) rfl rfl, fun U hU hW => ⟨rfl, z_pre hN hKc hPc hDc U hU hW⟩⟩ rfl rfl hl.1 rfl (lv_room (Nat.le_of_ble_eq_true rfl)) d_OS_isStagedAgainst_5 ⟨Nat.zero_le _, Nat.zero_le _⟩) 13 18 (w_OS a k zpaths_outer zpaths_count zsteps_targets zsteps_configurations zsteps_runs zsteps_opened zsteps_count zoutputs_contents zoutputs_makers zoutputs_executables zoutputs_lazies zstaged_contents zstaged_makers zstaged_executables zstaged_lazies zcached_contents zcached_count zholds_contents zholds_count zdirtyMarks_marks zdifferent) hP hD hS hA rfl rfl (fun H locs hP hD hS => ?_)
  refine lv_if_eq (tgt := 31) hx hb d_OS_isStagedAgainst_8 (by decide) (fun c1 => ?_) (fun c1 => ?_)
  · have hf := z_t c1 hf
    refine lv_iconst (v := (0 : Int32)) hx hb d_OS_isStagedAgainst_31 (by decide) ?_
    obtain rfl := Option.some.inj hf
    exact z_zret hx hb hr (Or.inl rfl) hP hD hS d_OS_isStagedAgainst_32 hlocks
  · have hf := z_f c1 hf
    refine lv_iload_n hx hb d_OS_isStagedAgainst_11 rfl (lv_at hl 3 rfl) ?_
    refine lv_if_eq (tgt := 27) hx hb d_OS_isStagedAgainst_12 (by decide) (fun c2 => ?_) (fun c2 => ?_)
    · have hf := z_t c2 hf
      refine lv_iconst (v := (1 : Int32)) hx hb d_OS_isStagedAgainst_27 (by decide) ?_
      refine lv_goto (tgt := 32) hx hb d_OS_isStagedAgainst_28 (by decide) ?_
      obtain rfl := Option.some.inj hf
      exact z_zret hx hb hr (Or.inr rfl) hP hD hS d_OS_isStagedAgainst_32 hlocks
    · have hf := z_f c2 hf
      refine lv_aload_n hx hb d_OS_isStagedAgainst_15 rfl (lv_at hl 0 rfl) ?_
      refine va_get (D := (dC, dI)) (ci := 6) (v := .ref (a 13)) (C := R_OS) (T := F_OS) (N := 8) hx hb hts (fun w h => List.mem_cons_of_mem _ (in_OS w h)) hown hK hP 0 rfl rfl 3 (by decide) (hts _ (List.mem_cons_of_mem _ k_1_113)) (fun _ h9 => h9) rfl d_OS_isStagedAgainst_16 ?_
      refine lv_iload_n hx hb d_OS_isStagedAgainst_19 rfl (lv_at hl 2 rfl) ?_
      refine lv_iload_n hx hb d_OS_isStagedAgainst_20 rfl (lv_at hl 1 rfl) ?_
      obtain ⟨u1, hu1, hf⟩ := z_b hf
      have hPc := zP_cut (wc := (w_LT (fun i => a (13 + i)) (fun i => k (9 + i)) zstaged_contents zstaged_makers zstaged_executables zstaged_lazies)) 13 18 hP rfl
      have hDc := zD_cut (wc := (w_LT (fun i => a (13 + i)) (fun i => k (9 + i)) zstaged_contents zstaged_makers zstaged_executables zstaged_lazies)) 13 18 hD rfl
      have hKc := hK.sub (tys' := (t_LT (fun i => k (9 + i)))) [9, 10, 11, 12] rfl
      refine z_ci (va_runV (As := [.int p2, .int p1]) (rest := []) ⟨hx, hb, hml, hown, hts⟩ (c_LT_isOfStep l dC dI N (fun i => a (13 + i)) (fun i => k (9 + i)) zstaged_contents zstaged_makers zstaged_executables zstaged_lazies p2 p1 hu1 H.size) (cwV 2 hts (zGV zsub_c k_1_195 k_1_196 k_1_197 k_1_4 kc_LT_isOfStep) rfl rfl rfl (by decide +kernel) ⟨Nat.le_of_ble_eq_true rfl, Nat.le_of_ble_eq_true rfl⟩) ⟨z_bl, va_recv hKc hPc (ci := 2) (q0 := 0) rfl rfl, fun U hU hW => ⟨rfl, z_pre hN hKc hPc hDc U hU hW⟩⟩ rfl rfl hl.1 rfl (lv_room (Nat.le_of_ble_eq_true rfl)) d_OS_isStagedAgainst_21 ⟨Nat.zero_le _, Nat.zero_le _⟩) 13 18 (w_OS a k zpaths_outer zpaths_count zsteps_targets zsteps_configurations zsteps_runs zsteps_opened zsteps_count zoutputs_contents zoutputs_makers zoutputs_executables zoutputs_lazies zstaged_contents zstaged_makers zstaged_executables zstaged_lazies zcached_contents zcached_count zholds_contents zholds_count zdirtyMarks_marks zdifferent) hP hD hS hA rfl rfl (fun H locs hP hD hS => ?_)
      refine lv_if_ne (tgt := 31) hx hb d_OS_isStagedAgainst_24 (by decide) (fun c3 => ?_) (fun c3 => ?_)
      · have hf := z_t c3 hf
        refine lv_iconst (v := (0 : Int32)) hx hb d_OS_isStagedAgainst_31 (by decide) ?_
        obtain rfl := Option.some.inj hf
        exact z_zret hx hb hr (Or.inl rfl) hP hD hS d_OS_isStagedAgainst_32 hlocks
      · have hf := z_fn c3 hf
        refine lv_iconst (v := (1 : Int32)) hx hb d_OS_isStagedAgainst_27 (by decide) ?_
        refine lv_goto (tgt := 32) hx hb d_OS_isStagedAgainst_28 (by decide) ?_
        obtain rfl := Option.some.inj hf
        exact z_zret hx hb hr (Or.inr rfl) hP hD hS d_OS_isStagedAgainst_32 hlocks
set_option maxHeartbeats 4000000 in
set_option maxRecDepth 100000 in
theorem c_OS_isOutputOfAnother (l : Launch) (dC : Nat → ClassId) (dI : Nat → Nat → Nat) (N : Nat) (a : Nat → Nat) (k : Nat → ClassId) (zpaths_outer : Nat → Int32) (zpaths_count : Int32) (zsteps_targets : Nat → Int32) (zsteps_configurations : Nat → Int32) (zsteps_runs : Nat → Int32) (zsteps_opened : Nat → Int32) (zsteps_count : Int32) (zoutputs_contents : Nat → Int64) (zoutputs_makers : Nat → Int32) (zoutputs_executables : Nat → Int32) (zoutputs_lazies : Nat → Int32) (zstaged_contents : Nat → Int64) (zstaged_makers : Nat → Int32) (zstaged_executables : Nat → Int32) (zstaged_lazies : Nat → Int32) (zcached_contents : Nat → Int64) (zcached_count : Int32) (zholds_contents : Nat → Int64) (zholds_count : Int32) (zdirtyMarks_marks : Nat → Int32) (zdifferent : Nat → Int64) (p1 : Int32) (p2 : Int32) {y : (Int32)} (hf : pf_OS_isOutputOfAnother N zsteps_targets zsteps_count zoutputs_contents zoutputs_makers p1 p2 = some y) (sz : Nat) : Met l y_OS_isOutputOfAnother ww_OS_isOutputOfAnother ({ frames := 3, cells := 0, slots := 0, locals := 63 }) (va_Pc [.ref (a 0), .int p1, .int p2] (zB (dC, dI) zCl (t_OS k) (w_OS a k zpaths_outer zpaths_count zsteps_targets zsteps_configurations zsteps_runs zsteps_opened zsteps_count zoutputs_contents zoutputs_makers zoutputs_executables zoutputs_lazies zstaged_contents zstaged_makers zstaged_executables zstaged_lazies zcached_contents zcached_count zholds_contents zholds_count zdirtyMarks_marks zdifferent) sz)) (zQi (dC, dI) zCl (w_OS a k zpaths_outer zpaths_count zsteps_targets zsteps_configurations zsteps_runs zsteps_opened zsteps_count zoutputs_contents zoutputs_makers zoutputs_executables zoutputs_lazies zstaged_contents zstaged_makers zstaged_executables zstaged_lazies zcached_contents zcached_count zholds_contents zholds_count zdirtyMarks_marks zdifferent) sz y (w_OS a k zpaths_outer zpaths_count zsteps_targets zsteps_configurations zsteps_runs zsteps_opened zsteps_count zoutputs_contents zoutputs_makers zoutputs_executables zoutputs_lazies zstaged_contents zstaged_makers zstaged_executables zstaged_lazies zcached_contents zcached_count zholds_contents zholds_count zdirtyMarks_marks zdifferent)) 0 0 (va_A (w_OS a k zpaths_outer zpaths_count zsteps_targets zsteps_configurations zsteps_runs zsteps_opened zsteps_count zoutputs_contents zoutputs_makers zoutputs_executables zoutputs_lazies zstaged_contents zstaged_makers zstaged_executables zstaged_lazies zcached_contents zcached_count zholds_contents zholds_count zdirtyMarks_marks zdifferent) sz) := by
  refine Met.ofW (cc := b_OS_isOutputOfAnother) (maxL := 3) (ret := (some .boolean)) (by decide) rfl ?_
  intro p e s m args below meth c s₁ B hml hv
  obtain ⟨rfl, rfl, hP, hK, hD, hN⟩ := hv
  have hx := B.exec
  have hb := B.bytes
  have hr := B.returns
  have hts := atoms_spec (ws := ww_OS_isOutputOfAnother) B.pre
  have hown : s.vm.findClass R_OS = some m.cls := findClass_of_methodNamed B.named
  have hlocks := B.notSynchronized
  have hA : ∀ q : Nat, s.heap.size ≤ q → va_A (w_OS a k zpaths_outer zpaths_count zsteps_targets zsteps_configurations zsteps_runs zsteps_opened zsteps_count zoutputs_contents zoutputs_makers zoutputs_executables zoutputs_lazies zstaged_contents zstaged_makers zstaged_executables zstaged_lazies zcached_contents zcached_count zholds_contents zholds_count zdirtyMarks_marks zdifferent) s.heap.size q := fun q h => Or.inr h
  refine z_start (lv := [(0, .ref (a 0)), (1, .int p1), (2, .int p2)]) (Nat.le_of_ble_eq_true rfl) rfl hP hD (fun H locs ls hP hD hS hl => ?_)
  unfold pf_OS_isOutputOfAnother at hf
  refine lv_aload_n hx hb d_OS_isOutputOfAnother_0 rfl (lv_at hl 0 rfl) ?_
  refine va_get (D := (dC, dI)) (ci := 6) (v := .ref (a 8)) (C := R_OS) (T := F_OS) (N := 8) hx hb hts (fun w h => List.mem_cons_of_mem _ (in_OS w h)) hown hK hP 0 rfl rfl 2 (by decide) (hts _ (List.mem_cons_of_mem _ k_1_112)) (fun _ h9 => h9) rfl d_OS_isOutputOfAnother_1 ?_
  refine lv_iload_n hx hb d_OS_isOutputOfAnother_4 rfl (lv_at hl 2 rfl) ?_
  obtain ⟨u0, hu0, hf⟩ := z_b hf
  have hPc := zP_cut (wc := (w_LT (fun i => a (8 + i)) (fun i => k (5 + i)) zoutputs_contents zoutputs_makers zoutputs_executables zoutputs_lazies)) 8 13 hP rfl
  have hDc := zD_cut (wc := (w_LT (fun i => a (8 + i)) (fun i => k (5 + i)) zoutputs_contents zoutputs_makers zoutputs_executables zoutputs_lazies)) 8 13 hD rfl
  have hKc := hK.sub (tys' := (t_LT (fun i => k (5 + i)))) [5, 6, 7, 8] rfl
  refine z_ci (va_runV (As := [.int p2]) (rest := []) ⟨hx, hb, hml, hown, hts⟩ (c_LT_has l dC dI N (fun i => a (8 + i)) (fun i => k (5 + i)) zoutputs_contents zoutputs_makers zoutputs_executables zoutputs_lazies p2 hu0 H.size) (cwV 1 hts (zGV zsub_c k_1_215 k_1_200 k_1_201 k_1_4 kc_LT_has) rfl rfl rfl (by decide +kernel) ⟨Nat.le_of_ble_eq_true rfl, Nat.le_of_ble_eq_true rfl⟩) ⟨z_bl, va_recv hKc hPc (ci := 2) (q0 := 0) rfl rfl, fun U hU hW => ⟨rfl, z_pre hN hKc hPc hDc U hU hW⟩⟩ rfl rfl hl.1 rfl (lv_room (Nat.le_of_ble_eq_true rfl)) d_OS_isOutputOfAnother_5 ⟨Nat.zero_le _, Nat.zero_le _⟩) 8 13 (w_OS a k zpaths_outer zpaths_count zsteps_targets zsteps_configurations zsteps_runs zsteps_opened zsteps_count zoutputs_contents zoutputs_makers zoutputs_executables zoutputs_lazies zstaged_contents zstaged_makers zstaged_executables zstaged_lazies zcached_contents zcached_count zholds_contents zholds_count zdirtyMarks_marks zdifferent) hP hD hS hA rfl rfl (fun H locs hP hD hS => ?_)
  refine lv_if_eq (tgt := 31) hx hb d_OS_isOutputOfAnother_8 (by decide) (fun c1 => ?_) (fun c1 => ?_)
  · have hf := z_t c1 hf
    refine lv_iconst (v := (0 : Int32)) hx hb d_OS_isOutputOfAnother_31 (by decide) ?_
    obtain rfl := Option.some.inj hf
    exact z_zret hx hb hr (Or.inl rfl) hP hD hS d_OS_isOutputOfAnother_32 hlocks
  · have hf := z_f c1 hf
    refine lv_aload_n hx hb d_OS_isOutputOfAnother_11 rfl (lv_at hl 0 rfl) ?_
    refine lv_iload_n hx hb d_OS_isOutputOfAnother_12 rfl (lv_at hl 2 rfl) ?_
    obtain ⟨u1, hu1, hf⟩ := z_b hf
    have hPc := hP
    have hDc := hD
    have hKc := hK
    refine z_cwi (va_runV (As := [.int p2]) (rest := []) ⟨hx, hb, hml, hown, hts⟩ (c_OS_targetAt l dC dI N a k zpaths_outer zpaths_count zsteps_targets zsteps_configurations zsteps_runs zsteps_opened zsteps_count zoutputs_contents zoutputs_makers zoutputs_executables zoutputs_lazies zstaged_contents zstaged_makers zstaged_executables zstaged_lazies zcached_contents zcached_count zholds_contents zholds_count zdirtyMarks_marks zdifferent p2 hu1 H.size) (cwV 1 hts (zGV zsub_c k_1_216 k_1_218 s_OS_targetAt k_1_1 kc_OS_targetAt) rfl rfl rfl (by decide +kernel) ⟨Nat.le_of_ble_eq_true rfl, Nat.le_of_ble_eq_true rfl⟩) ⟨z_bl, va_recv hKc hPc (ci := 6) (q0 := 0) rfl rfl, fun U hU hW => ⟨rfl, z_pre hN hKc hPc hDc U hU hW⟩⟩ rfl rfl hl.1 rfl (lv_room (Nat.le_of_ble_eq_true rfl)) d_OS_isOutputOfAnother_13 ⟨Nat.zero_le _, Nat.zero_le _⟩) hD hS hA (fun H locs hP hD hS => ?_)
    refine lv_aload_n hx hb d_OS_isOutputOfAnother_16 rfl (lv_at hl 0 rfl) ?_
    refine va_get (D := (dC, dI)) (ci := 6) (v := .ref (a 3)) (C := R_OS) (T := F_OS) (N := 8) hx hb hts (fun w h => List.mem_cons_of_mem _ (in_OS w h)) hown hK hP 0 rfl rfl 1 (by decide) (hts _ (List.mem_cons_of_mem _ k_1_111)) (fun _ h9 => h9) rfl d_OS_isOutputOfAnother_17 ?_
    refine lv_iload_n hx hb d_OS_isOutputOfAnother_20 rfl (lv_at hl 1 rfl) ?_
    obtain ⟨u2, hu2, hf⟩ := z_b hf
    have hPc := zP_cut (wc := (w_SB (fun i => a (3 + i)) (fun i => k (1 + i)) zsteps_targets zsteps_configurations zsteps_runs zsteps_opened zsteps_count)) 3 8 hP rfl
    have hDc := zD_cut (wc := (w_SB (fun i => a (3 + i)) (fun i => k (1 + i)) zsteps_targets zsteps_configurations zsteps_runs zsteps_opened zsteps_count)) 3 8 hD rfl
    have hKc := hK.sub (tys' := (t_SB (fun i => k (1 + i)))) [1, 2, 3, 4] rfl
    refine z_ci (va_runV (As := [.int p1]) (rest := [.int u1]) ⟨hx, hb, hml, hown, hts⟩ (c_SB_targetOf l dC dI N (fun i => a (3 + i)) (fun i => k (1 + i)) zsteps_targets zsteps_configurations zsteps_runs zsteps_opened zsteps_count p1 hu2 H.size) (cwV 1 hts (zGV zsub_c k_1_224 k_1_225 k_1_226 k_1_3 kc_SB_targetOf) rfl rfl rfl (by decide +kernel) ⟨Nat.le_of_ble_eq_true rfl, Nat.le_of_ble_eq_true rfl⟩) ⟨z_bl, va_recv hKc hPc (ci := 1) (q0 := 0) rfl rfl, fun U hU hW => ⟨rfl, z_pre hN hKc hPc hDc U hU hW⟩⟩ rfl rfl hl.1 rfl (lv_room (Nat.le_of_ble_eq_true rfl)) d_OS_isOutputOfAnother_21 ⟨Nat.zero_le _, Nat.zero_le _⟩) 3 8 (w_OS a k zpaths_outer zpaths_count zsteps_targets zsteps_configurations zsteps_runs zsteps_opened zsteps_count zoutputs_contents zoutputs_makers zoutputs_executables zoutputs_lazies zstaged_contents zstaged_makers zstaged_executables zstaged_lazies zcached_contents zcached_count zholds_contents zholds_count zdirtyMarks_marks zdifferent) hP hD hS hA rfl rfl (fun H locs hP hD hS => ?_)
    refine lv_icmp_eq (tgt := 31) hx hb d_OS_isOutputOfAnother_24 (by decide) (fun c2 => ?_) (fun c2 => ?_)
    · have hf := z_t c2 hf
      refine lv_iconst (v := (0 : Int32)) hx hb d_OS_isOutputOfAnother_31 (by decide) ?_
      obtain rfl := Option.some.inj hf
      exact z_zret hx hb hr (Or.inl rfl) hP hD hS d_OS_isOutputOfAnother_32 hlocks
    · have hf := z_f c2 hf
      refine lv_iconst (v := (1 : Int32)) hx hb d_OS_isOutputOfAnother_27 (by decide) ?_
      refine lv_goto (tgt := 32) hx hb d_OS_isOutputOfAnother_28 (by decide) ?_
      obtain rfl := Option.some.inj hf
      exact z_zret hx hb hr (Or.inr rfl) hP hD hS d_OS_isOutputOfAnother_32 hlocks
set_option maxHeartbeats 4000000 in
set_option maxRecDepth 100000 in
theorem c_OS_isRefused (l : Launch) (dC : Nat → ClassId) (dI : Nat → Nat → Nat) (N : Nat) (a : Nat → Nat) (k : Nat → ClassId) (zpaths_outer : Nat → Int32) (zpaths_count : Int32) (zsteps_targets : Nat → Int32) (zsteps_configurations : Nat → Int32) (zsteps_runs : Nat → Int32) (zsteps_opened : Nat → Int32) (zsteps_count : Int32) (zoutputs_contents : Nat → Int64) (zoutputs_makers : Nat → Int32) (zoutputs_executables : Nat → Int32) (zoutputs_lazies : Nat → Int32) (zstaged_contents : Nat → Int64) (zstaged_makers : Nat → Int32) (zstaged_executables : Nat → Int32) (zstaged_lazies : Nat → Int32) (zcached_contents : Nat → Int64) (zcached_count : Int32) (zholds_contents : Nat → Int64) (zholds_count : Int32) (zdirtyMarks_marks : Nat → Int32) (zdifferent : Nat → Int64) (p1 : Int32) (p2 : Int32) {y : (Int32)} (hf : pf_OS_isRefused N zpaths_outer zpaths_count zsteps_targets zsteps_configurations zsteps_count zoutputs_contents zoutputs_makers zstaged_contents zstaged_makers p1 p2 = some y) (sz : Nat) : Met l y_OS_isRefused ww_OS_isRefused ({ frames := 4, cells := 0, slots := 0, locals := 85 }) (va_Pc [.ref (a 0), .int p1, .int p2] (zB (dC, dI) zCl (t_OS k) (w_OS a k zpaths_outer zpaths_count zsteps_targets zsteps_configurations zsteps_runs zsteps_opened zsteps_count zoutputs_contents zoutputs_makers zoutputs_executables zoutputs_lazies zstaged_contents zstaged_makers zstaged_executables zstaged_lazies zcached_contents zcached_count zholds_contents zholds_count zdirtyMarks_marks zdifferent) sz)) (zQi (dC, dI) zCl (w_OS a k zpaths_outer zpaths_count zsteps_targets zsteps_configurations zsteps_runs zsteps_opened zsteps_count zoutputs_contents zoutputs_makers zoutputs_executables zoutputs_lazies zstaged_contents zstaged_makers zstaged_executables zstaged_lazies zcached_contents zcached_count zholds_contents zholds_count zdirtyMarks_marks zdifferent) sz y (w_OS a k zpaths_outer zpaths_count zsteps_targets zsteps_configurations zsteps_runs zsteps_opened zsteps_count zoutputs_contents zoutputs_makers zoutputs_executables zoutputs_lazies zstaged_contents zstaged_makers zstaged_executables zstaged_lazies zcached_contents zcached_count zholds_contents zholds_count zdirtyMarks_marks zdifferent)) 0 0 (va_A (w_OS a k zpaths_outer zpaths_count zsteps_targets zsteps_configurations zsteps_runs zsteps_opened zsteps_count zoutputs_contents zoutputs_makers zoutputs_executables zoutputs_lazies zstaged_contents zstaged_makers zstaged_executables zstaged_lazies zcached_contents zcached_count zholds_contents zholds_count zdirtyMarks_marks zdifferent) sz) := by
  refine Met.ofW (cc := b_OS_isRefused) (maxL := 7) (ret := (some .boolean)) (by decide) rfl ?_
  intro p e s m args below meth c s₁ B hml hv
  obtain ⟨rfl, rfl, hP, hK, hD, hN⟩ := hv
  have hx := B.exec
  have hb := B.bytes
  have hr := B.returns
  have hts := atoms_spec (ws := ww_OS_isRefused) B.pre
  have hown : s.vm.findClass R_OS = some m.cls := findClass_of_methodNamed B.named
  have hlocks := B.notSynchronized
  have hA : ∀ q : Nat, s.heap.size ≤ q → va_A (w_OS a k zpaths_outer zpaths_count zsteps_targets zsteps_configurations zsteps_runs zsteps_opened zsteps_count zoutputs_contents zoutputs_makers zoutputs_executables zoutputs_lazies zstaged_contents zstaged_makers zstaged_executables zstaged_lazies zcached_contents zcached_count zholds_contents zholds_count zdirtyMarks_marks zdifferent) s.heap.size q := fun q h => Or.inr h
  refine z_start (lv := [(0, .ref (a 0)), (1, .int p1), (2, .int p2)]) (Nat.le_of_ble_eq_true rfl) rfl hP hD (fun H locs ls hP hD hS hl => ?_)
  unfold pf_OS_isRefused at hf
  refine lv_aload_n hx hb d_OS_isRefused_0 rfl (lv_at hl 0 rfl) ?_
  refine va_get (D := (dC, dI)) (ci := 6) (v := .ref (a 3)) (C := R_OS) (T := F_OS) (N := 8) hx hb hts (fun w h => List.mem_cons_of_mem _ (in_OS w h)) hown hK hP 0 rfl rfl 1 (by decide) (hts _ (List.mem_cons_of_mem _ k_1_111)) (fun _ h9 => h9) rfl d_OS_isRefused_1 ?_
  refine lv_iload_n hx hb d_OS_isRefused_4 rfl (lv_at hl 1 rfl) ?_
  obtain ⟨u0, hu0, hf⟩ := z_b hf
  have hPc := zP_cut (wc := (w_SB (fun i => a (3 + i)) (fun i => k (1 + i)) zsteps_targets zsteps_configurations zsteps_runs zsteps_opened zsteps_count)) 3 8 hP rfl
  have hDc := zD_cut (wc := (w_SB (fun i => a (3 + i)) (fun i => k (1 + i)) zsteps_targets zsteps_configurations zsteps_runs zsteps_opened zsteps_count)) 3 8 hD rfl
  have hKc := hK.sub (tys' := (t_SB (fun i => k (1 + i)))) [1, 2, 3, 4] rfl
  refine z_ci (va_runV (As := [.int p1]) (rest := []) ⟨hx, hb, hml, hown, hts⟩ (c_SB_configurationOf l dC dI N (fun i => a (3 + i)) (fun i => k (1 + i)) zsteps_targets zsteps_configurations zsteps_runs zsteps_opened zsteps_count p1 hu0 H.size) (cwV 1 hts (zGV zsub_c k_1_187 k_1_188 k_1_189 k_1_3 kc_SB_configurationOf) rfl rfl rfl (by decide +kernel) ⟨Nat.le_of_ble_eq_true rfl, Nat.le_of_ble_eq_true rfl⟩) ⟨z_bl, va_recv hKc hPc (ci := 1) (q0 := 0) rfl rfl, fun U hU hW => ⟨rfl, z_pre hN hKc hPc hDc U hU hW⟩⟩ rfl rfl hl.1 rfl (lv_room (Nat.le_of_ble_eq_true rfl)) d_OS_isRefused_5 ⟨Nat.zero_le _, Nat.zero_le _⟩) 3 8 (w_OS a k zpaths_outer zpaths_count zsteps_targets zsteps_configurations zsteps_runs zsteps_opened zsteps_count zoutputs_contents zoutputs_makers zoutputs_executables zoutputs_lazies zstaged_contents zstaged_makers zstaged_executables zstaged_lazies zcached_contents zcached_count zholds_contents zholds_count zdirtyMarks_marks zdifferent) hP hD hS hA rfl rfl (fun H locs hP hD hS => ?_)
  refine lv_istore_n (lv' := [(3, .int u0), (0, .ref (a 0)), (1, .int p1), (2, .int p2)]) hx hb d_OS_isRefused_8 rfl hl (by decide) rfl (fun ls hl => ?_)
  refine lv_iconst (v := (0 : Int32)) hx hb d_OS_isRefused_9 (by decide) ?_
  refine lv_istore (lv' := [(4, .int (0 : Int32)), (3, .int u0), (0, .ref (a 0)), (1, .int p1), (2, .int p2)]) hx hb d_OS_isRefused_10 hl (by decide) rfl (fun ls hl => ?_)
  have loop12 : ∀ (n : Nat) (x4 : Int32), pf_OS_isRefused_L12 N zpaths_outer zpaths_count zsteps_targets zsteps_count zoutputs_contents zoutputs_makers zstaged_contents zstaged_makers p1 p2 u0 n x4 = some y → ∀ (H : Heap) (locs : List Loc) (ls : Array Slot), va_P (dC, dI) zCl (w_OS a k zpaths_outer zpaths_count zsteps_targets zsteps_configurations zsteps_runs zsteps_opened zsteps_count zoutputs_contents zoutputs_makers zoutputs_executables zoutputs_lazies zstaged_contents zstaged_makers zstaged_executables zstaged_lazies zcached_contents zcached_count zholds_contents zholds_count zdirtyMarks_marks zdifferent) H → va_D (va_A (w_OS a k zpaths_outer zpaths_count zsteps_targets zsteps_configurations zsteps_runs zsteps_opened zsteps_count zoutputs_contents zoutputs_makers zoutputs_executables zoutputs_lazies zstaged_contents zstaged_makers zstaged_executables zstaged_lazies zcached_contents zcached_count zholds_contents zholds_count zdirtyMarks_marks zdifferent) s.heap.size) (w_OS a k zpaths_outer zpaths_count zsteps_targets zsteps_configurations zsteps_runs zsteps_opened zsteps_count zoutputs_contents zoutputs_makers zoutputs_executables zoutputs_lazies zstaged_contents zstaged_makers zstaged_executables zstaged_lazies zcached_contents zcached_count zholds_contents zholds_count zdirtyMarks_marks zdifferent) → va_S (va_A (w_OS a k zpaths_outer zpaths_count zsteps_targets zsteps_configurations zsteps_runs zsteps_opened zsteps_count zoutputs_contents zoutputs_makers zoutputs_executables zoutputs_lazies zstaged_contents zstaged_makers zstaged_executables zstaged_lazies zcached_contents zcached_count zholds_contents zholds_count zdirtyMarks_marks zdifferent) s.heap.size) s.heap H locs → lv_has ls 7 [(0, .ref (a 0)), (1, .int p1), (2, .int p2), (3, .int u0), (4, .int x4)] → W p l e (headSpec ww_OS_isRefused ({ frames := 4, cells := 0, slots := 0, locals := 85 })).room s m ([.ref (a 0), .int p1, .int p2] : List Value).toArray below meth c H locs 0 0 (MQ below (zQi (dC, dI) zCl (w_OS a k zpaths_outer zpaths_count zsteps_targets zsteps_configurations zsteps_runs zsteps_opened zsteps_count zoutputs_contents zoutputs_makers zoutputs_executables zoutputs_lazies zstaged_contents zstaged_makers zstaged_executables zstaged_lazies zcached_contents zcached_count zholds_contents zholds_count zdirtyMarks_marks zdifferent) s.heap.size y (w_OS a k zpaths_outer zpaths_count zsteps_targets zsteps_configurations zsteps_runs zsteps_opened zsteps_count zoutputs_contents zoutputs_makers zoutputs_executables zoutputs_lazies zstaged_contents zstaged_makers zstaged_executables zstaged_lazies zcached_contents zcached_count zholds_contents zholds_count zdirtyMarks_marks zdifferent)) ([.ref (a 0), .int p1, .int p2] : List Value).toArray s 0 0 (va_A (w_OS a k zpaths_outer zpaths_count zsteps_targets zsteps_configurations zsteps_runs zsteps_opened zsteps_count zoutputs_contents zoutputs_makers zoutputs_executables zoutputs_lazies zstaged_contents zstaged_makers zstaged_executables zstaged_lazies zcached_contents zcached_count zholds_contents zholds_count zdirtyMarks_marks zdifferent) s.heap.size)) (F0 m 12 ls []) := by
    intro n12
    induction n12 with
    | zero => intro x4 hf; rw [pf_OS_isRefused_L12.eq_1] at hf; cases hf
    | succ n12 ih12 =>
      intro x4 hf H locs ls hP hD hS hl
      rw [pf_OS_isRefused_L12.eq_2] at hf
      refine lv_iload hx hb d_OS_isRefused_12 (lv_at hl 4 rfl) ?_
      refine lv_bipush (v := (nI 40)) hx hb d_OS_isRefused_14 (by decide) ?_
      refine lv_icmp_ge (tgt := 92) hx hb d_OS_isRefused_16 (by decide) (fun c1 => ?_) (fun c1 => ?_)
      · have hf := z_t c1 hf
        refine lv_iconst (v := (0 : Int32)) hx hb d_OS_isRefused_92 (by decide) ?_
        obtain rfl := Option.some.inj hf
        exact z_zret hx hb hr (Or.inl rfl) hP hD hS d_OS_isRefused_93 hlocks
      · have hf := z_f c1 hf
        refine lv_aload_n hx hb d_OS_isRefused_19 rfl (lv_at hl 0 rfl) ?_
        refine lv_iload_n hx hb d_OS_isRefused_20 rfl (lv_at hl 3 rfl) ?_
        refine lv_iload hx hb d_OS_isRefused_21 (lv_at hl 4 rfl) ?_
        obtain ⟨u1, hu1, hf⟩ := z_b hf
        have hPc := hP
        have hDc := hD
        have hKc := hK
        refine z_cwi (va_runV (As := [.int u0, .int x4]) (rest := []) ⟨hx, hb, hml, hown, hts⟩ (c_OS_slotOf l dC dI N a k zpaths_outer zpaths_count zsteps_targets zsteps_configurations zsteps_runs zsteps_opened zsteps_count zoutputs_contents zoutputs_makers zoutputs_executables zoutputs_lazies zstaged_contents zstaged_makers zstaged_executables zstaged_lazies zcached_contents zcached_count zholds_contents zholds_count zdirtyMarks_marks zdifferent u0 x4 hu1 H.size) (cwV 2 hts (zGV zsub_c k_1_191 k_1_193 s_OS_slotOf k_1_1 kc_OS_slotOf) rfl rfl rfl (by decide +kernel) ⟨Nat.le_of_ble_eq_true rfl, Nat.le_of_ble_eq_true rfl⟩) ⟨z_bl, va_recv hKc hPc (ci := 6) (q0 := 0) rfl rfl, fun U hU hW => ⟨rfl, z_pre hN hKc hPc hDc U hU hW⟩⟩ rfl rfl hl.1 rfl (lv_room (Nat.le_of_ble_eq_true rfl)) d_OS_isRefused_23 ⟨Nat.zero_le _, Nat.zero_le _⟩) hD hS hA (fun H locs hP hD hS => ?_)
        refine lv_istore (lv' := [(5, .int u1), (0, .ref (a 0)), (1, .int p1), (2, .int p2), (3, .int u0), (4, .int x4)]) hx hb d_OS_isRefused_26 hl (by decide) rfl (fun ls hl => ?_)
        refine lv_aload_n hx hb d_OS_isRefused_28 rfl (lv_at hl 1 rfl) ?_
        refine lv_iload_n hx hb d_OS_isRefused_29 rfl (lv_at hl 2 rfl) ?_
        refine lv_iload hx hb d_OS_isRefused_30 (lv_at hl 0 rfl) ?_
        obtain ⟨u2, hu2, hf⟩ := z_b hf
        have hPc := hP
        have hDc := hD
        have hKc := hK
        refine z_cwi (va_runV (As := [.int p1, .int u1]) (rest := []) ⟨hx, hb, hml, hown, hts⟩ (c_OS_isOutputOfAnother l dC dI N a k zpaths_outer zpaths_count zsteps_targets zsteps_configurations zsteps_runs zsteps_opened zsteps_count zoutputs_contents zoutputs_makers zoutputs_executables zoutputs_lazies zstaged_contents zstaged_makers zstaged_executables zstaged_lazies zcached_contents zcached_count zholds_contents zholds_count zdirtyMarks_marks zdifferent p1 u1 hu2 H.size) (cwV 2 hts (zGV zsub_c k_1_211 k_1_213 s_OS_isOutputOfAnother k_1_1 kc_OS_isOutputOfAnother) rfl rfl rfl (by decide +kernel) ⟨Nat.le_of_ble_eq_true rfl, Nat.le_of_ble_eq_true rfl⟩) ⟨z_bl, va_recv hKc hPc (ci := 6) (q0 := 0) rfl rfl, fun U hU hW => ⟨rfl, z_pre hN hKc hPc hDc U hU hW⟩⟩ rfl rfl hl.1 rfl (lv_room (Nat.le_of_ble_eq_true rfl)) d_OS_isRefused_32 ⟨Nat.zero_le _, Nat.zero_le _⟩) hD hS hA (fun H locs hP hD hS => ?_)
        refine lv_if_ne (tgt := 59) hx hb d_OS_isRefused_35 (by decide) (fun c2 => ?_) (fun c2 => ?_)
        · have hf := z_t c2 hf
          refine lv_iconst (v := (1 : Int32)) hx hb d_OS_isRefused_59 (by decide) ?_
          refine lv_goto (tgt := 64) hx hb d_OS_isRefused_60 (by decide) ?_
          refine lv_istore (lv' := [(6, .int (1 : Int32)), (5, .int u1), (0, .ref (a 0)), (1, .int p1), (2, .int p2), (3, .int u0), (4, .int x4)]) hx hb d_OS_isRefused_64 hl (by decide) rfl (fun ls hl => ?_)
          refine lv_iload hx hb d_OS_isRefused_66 (lv_at hl 0 rfl) ?_
          refine lv_if_eq (tgt := 86) hx hb d_OS_isRefused_68 (by decide) (fun c3 => absurd c3 (by decide)) (fun c3 => ?_)
          refine lv_aload_n hx hb d_OS_isRefused_71 rfl (lv_at hl 2 rfl) ?_
          refine va_get (D := (dC, dI)) (ci := 6) (v := .ref (a 1)) (C := R_OS) (T := F_OS) (N := 8) hx hb hts (fun w h => List.mem_cons_of_mem _ (in_OS w h)) hown hK hP 0 rfl rfl 0 (by decide) (hts _ (List.mem_cons_of_mem _ k_1_110)) (fun _ h9 => h9) rfl d_OS_isRefused_72 ?_
          refine lv_iload_n hx hb d_OS_isRefused_75 rfl (lv_at hl 4 rfl) ?_
          refine lv_iload hx hb d_OS_isRefused_76 (lv_at hl 6 rfl) ?_
          obtain ⟨u3, hu3, hf⟩ := z_b hf
          have hPc := zP_cut (wc := (w_PT (fun i => a (1 + i)) (fun i => k (0 + i)) zpaths_outer zpaths_count)) 1 3 hP rfl
          have hDc := zD_cut (wc := (w_PT (fun i => a (1 + i)) (fun i => k (0 + i)) zpaths_outer zpaths_count)) 1 3 hD rfl
          have hKc := hK.sub (tys' := (t_PT (fun i => k (0 + i)))) [0] rfl
          refine z_ci (va_runV (As := [.int p2, .int x4]) (rest := []) ⟨hx, hb, hml, hown, hts⟩ (c_PT_meet l dC dI N (fun i => a (1 + i)) (fun i => k (0 + i)) zpaths_outer zpaths_count p2 x4 hu3 H.size) (cwV 2 hts (zGV zsub_c k_1_232 k_1_233 k_1_234 k_1_2 kc_PT_meet) rfl rfl rfl (by decide +kernel) ⟨Nat.le_of_ble_eq_true rfl, Nat.le_of_ble_eq_true rfl⟩) ⟨z_bl, va_recv hKc hPc (ci := 0) (q0 := 0) rfl rfl, fun U hU hW => ⟨rfl, z_pre hN hKc hPc hDc U hU hW⟩⟩ rfl rfl hl.1 rfl (lv_room (Nat.le_of_ble_eq_true rfl)) d_OS_isRefused_78 ⟨Nat.zero_le _, Nat.zero_le _⟩) 1 3 (w_OS a k zpaths_outer zpaths_count zsteps_targets zsteps_configurations zsteps_runs zsteps_opened zsteps_count zoutputs_contents zoutputs_makers zoutputs_executables zoutputs_lazies zstaged_contents zstaged_makers zstaged_executables zstaged_lazies zcached_contents zcached_count zholds_contents zholds_count zdirtyMarks_marks zdifferent) hP hD hS hA rfl rfl (fun H locs hP hD hS => ?_)
          refine lv_if_eq (tgt := 86) hx hb d_OS_isRefused_81 (by decide) (fun c4 => ?_) (fun c4 => ?_)
          · have hf := z_t c4 hf
            refine lv_iinc (v := (x4 + (1 : Int32))) (lv' := [(4, .int (x4 + (1 : Int32))), (6, .int (1 : Int32)), (5, .int u1), (0, .ref (a 0)), (1, .int p1), (2, .int p2), (3, .int u0)]) hx hb d_OS_isRefused_86 hl (k := 6) rfl rfl (by decide) rfl (fun ls hl => ?_)
            refine lv_goto (tgt := 12) hx hb d_OS_isRefused_89 (by decide) ?_
            exact ih12 (x4 + (1 : Int32)) hf H locs ls hP hD hS (lv_sub hl [3, 4, 5, 6, 0] rfl)
          · have hf := z_f c4 hf
            refine lv_iconst (v := (1 : Int32)) hx hb d_OS_isRefused_84 (by decide) ?_
            obtain rfl := Option.some.inj hf
            exact z_zret hx hb hr (Or.inr rfl) hP hD hS d_OS_isRefused_85 hlocks
        · have hf := z_fn c2 hf
          refine lv_aload_n hx hb d_OS_isRefused_38 rfl (lv_at hl 1 rfl) ?_
          refine lv_iload_n hx hb d_OS_isRefused_39 rfl (lv_at hl 2 rfl) ?_
          refine lv_iload hx hb d_OS_isRefused_40 (lv_at hl 0 rfl) ?_
          refine lv_iload_n hx hb d_OS_isRefused_42 rfl (lv_at hl 3 rfl) ?_
          refine lv_iload hx hb d_OS_isRefused_43 (lv_at hl 5 rfl) ?_
          refine lv_icmp_ne (tgt := 52) hx hb d_OS_isRefused_45 (by decide) (fun c5 => ?_) (fun c5 => ?_)
          · have hf := z_t c5 hf
            refine lv_iconst (v := (0 : Int32)) hx hb d_OS_isRefused_52 (by decide) ?_
            obtain ⟨u4, hu4, hf⟩ := z_b hf
            have hPc := hP
            have hDc := hD
            have hKc := hK
            refine z_cwi (va_runV (As := [.int p1, .int u1, .int (0 : Int32)]) (rest := []) ⟨hx, hb, hml, hown, hts⟩ (c_OS_isStagedAgainst l dC dI N a k zpaths_outer zpaths_count zsteps_targets zsteps_configurations zsteps_runs zsteps_opened zsteps_count zoutputs_contents zoutputs_makers zoutputs_executables zoutputs_lazies zstaged_contents zstaged_makers zstaged_executables zstaged_lazies zcached_contents zcached_count zholds_contents zholds_count zdirtyMarks_marks zdifferent p1 u1 (0 : Int32) hu4 H.size) (cwV 3 hts (zGV zsub_c k_1_228 k_1_230 s_OS_isStagedAgainst k_1_1 kc_OS_isStagedAgainst) rfl rfl rfl (by decide +kernel) ⟨Nat.le_of_ble_eq_true rfl, Nat.le_of_ble_eq_true rfl⟩) ⟨z_bl, va_recv hKc hPc (ci := 6) (q0 := 0) rfl rfl, fun U hU hW => ⟨rfl, z_pre hN hKc hPc hDc U hU hW⟩⟩ rfl rfl hl.1 rfl (lv_room (Nat.le_of_ble_eq_true rfl)) d_OS_isRefused_53 ⟨Nat.zero_le _, Nat.zero_le _⟩) hD hS hA (fun H locs hP hD hS => ?_)
            refine lv_if_eq (tgt := 63) hx hb d_OS_isRefused_56 (by decide) (fun c6 => ?_) (fun c6 => ?_)
            · have hf := z_t c6 hf
              refine lv_iconst (v := (0 : Int32)) hx hb d_OS_isRefused_63 (by decide) ?_
              refine lv_istore (lv' := [(6, .int (0 : Int32)), (5, .int u1), (0, .ref (a 0)), (1, .int p1), (2, .int p2), (3, .int u0), (4, .int x4)]) hx hb d_OS_isRefused_64 hl (by decide) rfl (fun ls hl => ?_)
              refine lv_iload hx hb d_OS_isRefused_66 (lv_at hl 0 rfl) ?_
              refine lv_if_eq (tgt := 86) hx hb d_OS_isRefused_68 (by decide) (fun c7 => ?_) (fun c7 => absurd (by decide) c7)
              refine lv_iinc (v := (x4 + (1 : Int32))) (lv' := [(4, .int (x4 + (1 : Int32))), (6, .int (0 : Int32)), (5, .int u1), (0, .ref (a 0)), (1, .int p1), (2, .int p2), (3, .int u0)]) hx hb d_OS_isRefused_86 hl (k := 6) rfl rfl (by decide) rfl (fun ls hl => ?_)
              refine lv_goto (tgt := 12) hx hb d_OS_isRefused_89 (by decide) ?_
              exact ih12 (x4 + (1 : Int32)) hf H locs ls hP hD hS (lv_sub hl [3, 4, 5, 6, 0] rfl)
            · have hf := z_f c6 hf
              refine lv_iconst (v := (1 : Int32)) hx hb d_OS_isRefused_59 (by decide) ?_
              refine lv_goto (tgt := 64) hx hb d_OS_isRefused_60 (by decide) ?_
              refine lv_istore (lv' := [(6, .int (1 : Int32)), (5, .int u1), (0, .ref (a 0)), (1, .int p1), (2, .int p2), (3, .int u0), (4, .int x4)]) hx hb d_OS_isRefused_64 hl (by decide) rfl (fun ls hl => ?_)
              refine lv_iload hx hb d_OS_isRefused_66 (lv_at hl 0 rfl) ?_
              refine lv_if_eq (tgt := 86) hx hb d_OS_isRefused_68 (by decide) (fun c8 => absurd c8 (by decide)) (fun c8 => ?_)
              refine lv_aload_n hx hb d_OS_isRefused_71 rfl (lv_at hl 2 rfl) ?_
              refine va_get (D := (dC, dI)) (ci := 6) (v := .ref (a 1)) (C := R_OS) (T := F_OS) (N := 8) hx hb hts (fun w h => List.mem_cons_of_mem _ (in_OS w h)) hown hK hP 0 rfl rfl 0 (by decide) (hts _ (List.mem_cons_of_mem _ k_1_110)) (fun _ h9 => h9) rfl d_OS_isRefused_72 ?_
              refine lv_iload_n hx hb d_OS_isRefused_75 rfl (lv_at hl 4 rfl) ?_
              refine lv_iload hx hb d_OS_isRefused_76 (lv_at hl 6 rfl) ?_
              obtain ⟨u5, hu5, hf⟩ := z_b hf
              have hPc := zP_cut (wc := (w_PT (fun i => a (1 + i)) (fun i => k (0 + i)) zpaths_outer zpaths_count)) 1 3 hP rfl
              have hDc := zD_cut (wc := (w_PT (fun i => a (1 + i)) (fun i => k (0 + i)) zpaths_outer zpaths_count)) 1 3 hD rfl
              have hKc := hK.sub (tys' := (t_PT (fun i => k (0 + i)))) [0] rfl
              refine z_ci (va_runV (As := [.int p2, .int x4]) (rest := []) ⟨hx, hb, hml, hown, hts⟩ (c_PT_meet l dC dI N (fun i => a (1 + i)) (fun i => k (0 + i)) zpaths_outer zpaths_count p2 x4 hu5 H.size) (cwV 2 hts (zGV zsub_c k_1_232 k_1_233 k_1_234 k_1_2 kc_PT_meet) rfl rfl rfl (by decide +kernel) ⟨Nat.le_of_ble_eq_true rfl, Nat.le_of_ble_eq_true rfl⟩) ⟨z_bl, va_recv hKc hPc (ci := 0) (q0 := 0) rfl rfl, fun U hU hW => ⟨rfl, z_pre hN hKc hPc hDc U hU hW⟩⟩ rfl rfl hl.1 rfl (lv_room (Nat.le_of_ble_eq_true rfl)) d_OS_isRefused_78 ⟨Nat.zero_le _, Nat.zero_le _⟩) 1 3 (w_OS a k zpaths_outer zpaths_count zsteps_targets zsteps_configurations zsteps_runs zsteps_opened zsteps_count zoutputs_contents zoutputs_makers zoutputs_executables zoutputs_lazies zstaged_contents zstaged_makers zstaged_executables zstaged_lazies zcached_contents zcached_count zholds_contents zholds_count zdirtyMarks_marks zdifferent) hP hD hS hA rfl rfl (fun H locs hP hD hS => ?_)
              refine lv_if_eq (tgt := 86) hx hb d_OS_isRefused_81 (by decide) (fun c9 => ?_) (fun c9 => ?_)
              · have hf := z_t c9 hf
                refine lv_iinc (v := (x4 + (1 : Int32))) (lv' := [(4, .int (x4 + (1 : Int32))), (6, .int (1 : Int32)), (5, .int u1), (0, .ref (a 0)), (1, .int p1), (2, .int p2), (3, .int u0)]) hx hb d_OS_isRefused_86 hl (k := 6) rfl rfl (by decide) rfl (fun ls hl => ?_)
                refine lv_goto (tgt := 12) hx hb d_OS_isRefused_89 (by decide) ?_
                exact ih12 (x4 + (1 : Int32)) hf H locs ls hP hD hS (lv_sub hl [3, 4, 5, 6, 0] rfl)
              · have hf := z_f c9 hf
                refine lv_iconst (v := (1 : Int32)) hx hb d_OS_isRefused_84 (by decide) ?_
                obtain rfl := Option.some.inj hf
                exact z_zret hx hb hr (Or.inr rfl) hP hD hS d_OS_isRefused_85 hlocks
          · have hf := z_fn c5 hf
            refine lv_iconst (v := (1 : Int32)) hx hb d_OS_isRefused_48 (by decide) ?_
            refine lv_goto (tgt := 53) hx hb d_OS_isRefused_49 (by decide) ?_
            obtain ⟨u6, hu6, hf⟩ := z_b hf
            have hPc := hP
            have hDc := hD
            have hKc := hK
            refine z_cwi (va_runV (As := [.int p1, .int u1, .int (1 : Int32)]) (rest := []) ⟨hx, hb, hml, hown, hts⟩ (c_OS_isStagedAgainst l dC dI N a k zpaths_outer zpaths_count zsteps_targets zsteps_configurations zsteps_runs zsteps_opened zsteps_count zoutputs_contents zoutputs_makers zoutputs_executables zoutputs_lazies zstaged_contents zstaged_makers zstaged_executables zstaged_lazies zcached_contents zcached_count zholds_contents zholds_count zdirtyMarks_marks zdifferent p1 u1 (1 : Int32) hu6 H.size) (cwV 3 hts (zGV zsub_c k_1_228 k_1_230 s_OS_isStagedAgainst k_1_1 kc_OS_isStagedAgainst) rfl rfl rfl (by decide +kernel) ⟨Nat.le_of_ble_eq_true rfl, Nat.le_of_ble_eq_true rfl⟩) ⟨z_bl, va_recv hKc hPc (ci := 6) (q0 := 0) rfl rfl, fun U hU hW => ⟨rfl, z_pre hN hKc hPc hDc U hU hW⟩⟩ rfl rfl hl.1 rfl (lv_room (Nat.le_of_ble_eq_true rfl)) d_OS_isRefused_53 ⟨Nat.zero_le _, Nat.zero_le _⟩) hD hS hA (fun H locs hP hD hS => ?_)
            refine lv_if_eq (tgt := 63) hx hb d_OS_isRefused_56 (by decide) (fun c10 => ?_) (fun c10 => ?_)
            · have hf := z_t c10 hf
              refine lv_iconst (v := (0 : Int32)) hx hb d_OS_isRefused_63 (by decide) ?_
              refine lv_istore (lv' := [(6, .int (0 : Int32)), (5, .int u1), (0, .ref (a 0)), (1, .int p1), (2, .int p2), (3, .int u0), (4, .int x4)]) hx hb d_OS_isRefused_64 hl (by decide) rfl (fun ls hl => ?_)
              refine lv_iload hx hb d_OS_isRefused_66 (lv_at hl 0 rfl) ?_
              refine lv_if_eq (tgt := 86) hx hb d_OS_isRefused_68 (by decide) (fun c11 => ?_) (fun c11 => absurd (by decide) c11)
              refine lv_iinc (v := (x4 + (1 : Int32))) (lv' := [(4, .int (x4 + (1 : Int32))), (6, .int (0 : Int32)), (5, .int u1), (0, .ref (a 0)), (1, .int p1), (2, .int p2), (3, .int u0)]) hx hb d_OS_isRefused_86 hl (k := 6) rfl rfl (by decide) rfl (fun ls hl => ?_)
              refine lv_goto (tgt := 12) hx hb d_OS_isRefused_89 (by decide) ?_
              exact ih12 (x4 + (1 : Int32)) hf H locs ls hP hD hS (lv_sub hl [3, 4, 5, 6, 0] rfl)
            · have hf := z_f c10 hf
              refine lv_iconst (v := (1 : Int32)) hx hb d_OS_isRefused_59 (by decide) ?_
              refine lv_goto (tgt := 64) hx hb d_OS_isRefused_60 (by decide) ?_
              refine lv_istore (lv' := [(6, .int (1 : Int32)), (5, .int u1), (0, .ref (a 0)), (1, .int p1), (2, .int p2), (3, .int u0), (4, .int x4)]) hx hb d_OS_isRefused_64 hl (by decide) rfl (fun ls hl => ?_)
              refine lv_iload hx hb d_OS_isRefused_66 (lv_at hl 0 rfl) ?_
              refine lv_if_eq (tgt := 86) hx hb d_OS_isRefused_68 (by decide) (fun c12 => absurd c12 (by decide)) (fun c12 => ?_)
              refine lv_aload_n hx hb d_OS_isRefused_71 rfl (lv_at hl 2 rfl) ?_
              refine va_get (D := (dC, dI)) (ci := 6) (v := .ref (a 1)) (C := R_OS) (T := F_OS) (N := 8) hx hb hts (fun w h => List.mem_cons_of_mem _ (in_OS w h)) hown hK hP 0 rfl rfl 0 (by decide) (hts _ (List.mem_cons_of_mem _ k_1_110)) (fun _ h9 => h9) rfl d_OS_isRefused_72 ?_
              refine lv_iload_n hx hb d_OS_isRefused_75 rfl (lv_at hl 4 rfl) ?_
              refine lv_iload hx hb d_OS_isRefused_76 (lv_at hl 6 rfl) ?_
              obtain ⟨u7, hu7, hf⟩ := z_b hf
              have hPc := zP_cut (wc := (w_PT (fun i => a (1 + i)) (fun i => k (0 + i)) zpaths_outer zpaths_count)) 1 3 hP rfl
              have hDc := zD_cut (wc := (w_PT (fun i => a (1 + i)) (fun i => k (0 + i)) zpaths_outer zpaths_count)) 1 3 hD rfl
              have hKc := hK.sub (tys' := (t_PT (fun i => k (0 + i)))) [0] rfl
              refine z_ci (va_runV (As := [.int p2, .int x4]) (rest := []) ⟨hx, hb, hml, hown, hts⟩ (c_PT_meet l dC dI N (fun i => a (1 + i)) (fun i => k (0 + i)) zpaths_outer zpaths_count p2 x4 hu7 H.size) (cwV 2 hts (zGV zsub_c k_1_232 k_1_233 k_1_234 k_1_2 kc_PT_meet) rfl rfl rfl (by decide +kernel) ⟨Nat.le_of_ble_eq_true rfl, Nat.le_of_ble_eq_true rfl⟩) ⟨z_bl, va_recv hKc hPc (ci := 0) (q0 := 0) rfl rfl, fun U hU hW => ⟨rfl, z_pre hN hKc hPc hDc U hU hW⟩⟩ rfl rfl hl.1 rfl (lv_room (Nat.le_of_ble_eq_true rfl)) d_OS_isRefused_78 ⟨Nat.zero_le _, Nat.zero_le _⟩) 1 3 (w_OS a k zpaths_outer zpaths_count zsteps_targets zsteps_configurations zsteps_runs zsteps_opened zsteps_count zoutputs_contents zoutputs_makers zoutputs_executables zoutputs_lazies zstaged_contents zstaged_makers zstaged_executables zstaged_lazies zcached_contents zcached_count zholds_contents zholds_count zdirtyMarks_marks zdifferent) hP hD hS hA rfl rfl (fun H locs hP hD hS => ?_)
              refine lv_if_eq (tgt := 86) hx hb d_OS_isRefused_81 (by decide) (fun c13 => ?_) (fun c13 => ?_)
              · have hf := z_t c13 hf
                refine lv_iinc (v := (x4 + (1 : Int32))) (lv' := [(4, .int (x4 + (1 : Int32))), (6, .int (1 : Int32)), (5, .int u1), (0, .ref (a 0)), (1, .int p1), (2, .int p2), (3, .int u0)]) hx hb d_OS_isRefused_86 hl (k := 6) rfl rfl (by decide) rfl (fun ls hl => ?_)
                refine lv_goto (tgt := 12) hx hb d_OS_isRefused_89 (by decide) ?_
                exact ih12 (x4 + (1 : Int32)) hf H locs ls hP hD hS (lv_sub hl [3, 4, 5, 6, 0] rfl)
              · have hf := z_f c13 hf
                refine lv_iconst (v := (1 : Int32)) hx hb d_OS_isRefused_84 (by decide) ?_
                obtain rfl := Option.some.inj hf
                exact z_zret hx hb hr (Or.inr rfl) hP hD hS d_OS_isRefused_85 hlocks
  exact loop12 N (0 : Int32) hf H locs ls hP hD hS (lv_sub hl [2, 3, 4, 1, 0] rfl)
set_option maxHeartbeats 4000000 in
set_option maxRecDepth 100000 in
theorem c_OS_storedAt (l : Launch) (dC : Nat → ClassId) (dI : Nat → Nat → Nat) (N : Nat) (a : Nat → Nat) (k : Nat → ClassId) (zpaths_outer : Nat → Int32) (zpaths_count : Int32) (zsteps_targets : Nat → Int32) (zsteps_configurations : Nat → Int32) (zsteps_runs : Nat → Int32) (zsteps_opened : Nat → Int32) (zsteps_count : Int32) (zoutputs_contents : Nat → Int64) (zoutputs_makers : Nat → Int32) (zoutputs_executables : Nat → Int32) (zoutputs_lazies : Nat → Int32) (zstaged_contents : Nat → Int64) (zstaged_makers : Nat → Int32) (zstaged_executables : Nat → Int32) (zstaged_lazies : Nat → Int32) (zcached_contents : Nat → Int64) (zcached_count : Int32) (zholds_contents : Nat → Int64) (zholds_count : Int32) (zdirtyMarks_marks : Nat → Int32) (zdifferent : Nat → Int64) (p1 : Int32) {y : (Int64)} (hf : pf_OS_storedAt N zoutputs_contents zoutputs_lazies zstaged_contents zstaged_lazies zholds_contents zholds_count p1 = some y) (sz : Nat) : Met l y_OS_storedAt ww_OS_storedAt ({ frames := 3, cells := 0, slots := 0, locals := 63 }) (va_Pc [.ref (a 0), .int p1] (zB (dC, dI) zCl (t_OS k) (w_OS a k zpaths_outer zpaths_count zsteps_targets zsteps_configurations zsteps_runs zsteps_opened zsteps_count zoutputs_contents zoutputs_makers zoutputs_executables zoutputs_lazies zstaged_contents zstaged_makers zstaged_executables zstaged_lazies zcached_contents zcached_count zholds_contents zholds_count zdirtyMarks_marks zdifferent) sz)) (zQl (dC, dI) zCl (w_OS a k zpaths_outer zpaths_count zsteps_targets zsteps_configurations zsteps_runs zsteps_opened zsteps_count zoutputs_contents zoutputs_makers zoutputs_executables zoutputs_lazies zstaged_contents zstaged_makers zstaged_executables zstaged_lazies zcached_contents zcached_count zholds_contents zholds_count zdirtyMarks_marks zdifferent) sz y (w_OS a k zpaths_outer zpaths_count zsteps_targets zsteps_configurations zsteps_runs zsteps_opened zsteps_count zoutputs_contents zoutputs_makers zoutputs_executables zoutputs_lazies zstaged_contents zstaged_makers zstaged_executables zstaged_lazies zcached_contents zcached_count zholds_contents zholds_count zdirtyMarks_marks zdifferent)) 0 0 (va_A (w_OS a k zpaths_outer zpaths_count zsteps_targets zsteps_configurations zsteps_runs zsteps_opened zsteps_count zoutputs_contents zoutputs_makers zoutputs_executables zoutputs_lazies zstaged_contents zstaged_makers zstaged_executables zstaged_lazies zcached_contents zcached_count zholds_contents zholds_count zdirtyMarks_marks zdifferent) sz) := by
  refine Met.ofW (cc := b_OS_storedAt) (maxL := 2) (ret := (some .long)) (by decide) rfl ?_
  intro p e s m args below meth c s₁ B hml hv
  obtain ⟨rfl, rfl, hP, hK, hD, hN⟩ := hv
  have hx := B.exec
  have hb := B.bytes
  have hr := B.returns
  have hts := atoms_spec (ws := ww_OS_storedAt) B.pre
  have hown : s.vm.findClass R_OS = some m.cls := findClass_of_methodNamed B.named
  have hlocks := B.notSynchronized
  have hA : ∀ q : Nat, s.heap.size ≤ q → va_A (w_OS a k zpaths_outer zpaths_count zsteps_targets zsteps_configurations zsteps_runs zsteps_opened zsteps_count zoutputs_contents zoutputs_makers zoutputs_executables zoutputs_lazies zstaged_contents zstaged_makers zstaged_executables zstaged_lazies zcached_contents zcached_count zholds_contents zholds_count zdirtyMarks_marks zdifferent) s.heap.size q := fun q h => Or.inr h
  refine z_start (lv := [(0, .ref (a 0)), (1, .int p1)]) (Nat.le_of_ble_eq_true rfl) rfl hP hD (fun H locs ls hP hD hS hl => ?_)
  unfold pf_OS_storedAt at hf
  refine lv_iload_n hx hb d_OS_storedAt_0 rfl (lv_at hl 1 rfl) ?_
  refine lv_sipush (v := (nI 160)) hx hb d_OS_storedAt_1 (by decide) ?_
  refine lv_icmp_ge (tgt := 16) hx hb d_OS_storedAt_4 (by decide) (fun c1 => ?_) (fun c1 => ?_)
  · have hf := z_t c1 hf
    refine lv_iload_n hx hb d_OS_storedAt_16 rfl (lv_at hl 1 rfl) ?_
    refine lv_sipush (v := (nI 320)) hx hb d_OS_storedAt_17 (by decide) ?_
    refine lv_icmp_ge (tgt := 36) hx hb d_OS_storedAt_20 (by decide) (fun c2 => ?_) (fun c2 => ?_)
    · have hf := z_t c2 hf
      refine lv_aload_n hx hb d_OS_storedAt_36 rfl (lv_at hl 0 rfl) ?_
      refine va_get (D := (dC, dI)) (ci := 6) (v := .ref (a 20)) (C := R_OS) (T := F_OS) (N := 8) hx hb hts (fun w h => List.mem_cons_of_mem _ (in_OS w h)) hown hK hP 0 rfl rfl 5 (by decide) (hts _ (List.mem_cons_of_mem _ k_1_115)) (fun _ h9 => h9) rfl d_OS_storedAt_37 ?_
      refine lv_iload_n hx hb d_OS_storedAt_40 rfl (lv_at hl 1 rfl) ?_
      refine lv_sipush (v := (nI 160)) hx hb d_OS_storedAt_41 (by decide) ?_
      refine lv_isub hx hb d_OS_storedAt_44 ?_
      refine lv_sipush (v := (nI 160)) hx hb d_OS_storedAt_45 (by decide) ?_
      refine lv_isub hx hb d_OS_storedAt_48 ?_
      obtain ⟨u0, hu0, hf⟩ := z_b hf
      have hPc := zP_cut (wc := (w_HB (fun i => a (20 + i)) (fun i => k (14 + i)) zholds_contents zholds_count)) 20 22 hP rfl
      have hDc := zD_cut (wc := (w_HB (fun i => a (20 + i)) (fun i => k (14 + i)) zholds_contents zholds_count)) 20 22 hD rfl
      have hKc := hK.sub (tys' := (t_HB (fun i => k (14 + i)))) [14] rfl
      refine z_cl (va_runV (As := [.int ((p1 - (nI 160)) - (nI 160))]) (rest := []) ⟨hx, hb, hml, hown, hts⟩ (c_HB_contentOf l dC dI N (fun i => a (20 + i)) (fun i => k (14 + i)) zholds_contents zholds_count ((p1 - (nI 160)) - (nI 160)) hu0 H.size) (cwV 1 hts (zGV zsub_c k_2_91 k_2_92 k_2_93 k_1_6 kc_HB_contentOf) rfl rfl rfl (by decide +kernel) ⟨Nat.le_of_ble_eq_true rfl, Nat.le_of_ble_eq_true rfl⟩) ⟨z_bl, va_recv hKc hPc (ci := 4) (q0 := 0) rfl rfl, fun U hU hW => ⟨rfl, z_pre hN hKc hPc hDc U hU hW⟩⟩ rfl rfl hl.1 rfl (lv_room (Nat.le_of_ble_eq_true rfl)) d_OS_storedAt_49 ⟨Nat.zero_le _, Nat.zero_le _⟩) 20 22 (w_OS a k zpaths_outer zpaths_count zsteps_targets zsteps_configurations zsteps_runs zsteps_opened zsteps_count zoutputs_contents zoutputs_makers zoutputs_executables zoutputs_lazies zstaged_contents zstaged_makers zstaged_executables zstaged_lazies zcached_contents zcached_count zholds_contents zholds_count zdirtyMarks_marks zdifferent) hP hD hS hA rfl rfl (fun H locs hP hD hS => ?_)
      obtain rfl := Option.some.inj hf
      exact z_lret hx hb hr hP hD hS d_OS_storedAt_52 hlocks
    · have hf := z_f c2 hf
      refine lv_aload_n hx hb d_OS_storedAt_23 rfl (lv_at hl 0 rfl) ?_
      refine va_get (D := (dC, dI)) (ci := 6) (v := .ref (a 13)) (C := R_OS) (T := F_OS) (N := 8) hx hb hts (fun w h => List.mem_cons_of_mem _ (in_OS w h)) hown hK hP 0 rfl rfl 3 (by decide) (hts _ (List.mem_cons_of_mem _ k_1_113)) (fun _ h9 => h9) rfl d_OS_storedAt_24 ?_
      refine lv_iload_n hx hb d_OS_storedAt_27 rfl (lv_at hl 1 rfl) ?_
      refine lv_sipush (v := (nI 160)) hx hb d_OS_storedAt_28 (by decide) ?_
      refine lv_isub hx hb d_OS_storedAt_31 ?_
      obtain ⟨u1, hu1, hf⟩ := z_b hf
      have hPc := zP_cut (wc := (w_LT (fun i => a (13 + i)) (fun i => k (9 + i)) zstaged_contents zstaged_makers zstaged_executables zstaged_lazies)) 13 18 hP rfl
      have hDc := zD_cut (wc := (w_LT (fun i => a (13 + i)) (fun i => k (9 + i)) zstaged_contents zstaged_makers zstaged_executables zstaged_lazies)) 13 18 hD rfl
      have hKc := hK.sub (tys' := (t_LT (fun i => k (9 + i)))) [9, 10, 11, 12] rfl
      refine z_cl (va_runV (As := [.int (p1 - (nI 160))]) (rest := []) ⟨hx, hb, hml, hown, hts⟩ (c_LT_storedIn l dC dI N (fun i => a (13 + i)) (fun i => k (9 + i)) zstaged_contents zstaged_makers zstaged_executables zstaged_lazies (p1 - (nI 160)) hu1 H.size) (cwV 1 hts (zGV zsub_c k_2_144 k_2_145 k_2_146 k_1_4 kc_LT_storedIn) rfl rfl rfl (by decide +kernel) ⟨Nat.le_of_ble_eq_true rfl, Nat.le_of_ble_eq_true rfl⟩) ⟨z_bl, va_recv hKc hPc (ci := 2) (q0 := 0) rfl rfl, fun U hU hW => ⟨rfl, z_pre hN hKc hPc hDc U hU hW⟩⟩ rfl rfl hl.1 rfl (lv_room (Nat.le_of_ble_eq_true rfl)) d_OS_storedAt_32 ⟨Nat.zero_le _, Nat.zero_le _⟩) 13 18 (w_OS a k zpaths_outer zpaths_count zsteps_targets zsteps_configurations zsteps_runs zsteps_opened zsteps_count zoutputs_contents zoutputs_makers zoutputs_executables zoutputs_lazies zstaged_contents zstaged_makers zstaged_executables zstaged_lazies zcached_contents zcached_count zholds_contents zholds_count zdirtyMarks_marks zdifferent) hP hD hS hA rfl rfl (fun H locs hP hD hS => ?_)
      obtain rfl := Option.some.inj hf
      exact z_lret hx hb hr hP hD hS d_OS_storedAt_35 hlocks
  · have hf := z_f c1 hf
    refine lv_aload_n hx hb d_OS_storedAt_7 rfl (lv_at hl 0 rfl) ?_
    refine va_get (D := (dC, dI)) (ci := 6) (v := .ref (a 8)) (C := R_OS) (T := F_OS) (N := 8) hx hb hts (fun w h => List.mem_cons_of_mem _ (in_OS w h)) hown hK hP 0 rfl rfl 2 (by decide) (hts _ (List.mem_cons_of_mem _ k_1_112)) (fun _ h9 => h9) rfl d_OS_storedAt_8 ?_
    refine lv_iload_n hx hb d_OS_storedAt_11 rfl (lv_at hl 1 rfl) ?_
    obtain ⟨u2, hu2, hf⟩ := z_b hf
    have hPc := zP_cut (wc := (w_LT (fun i => a (8 + i)) (fun i => k (5 + i)) zoutputs_contents zoutputs_makers zoutputs_executables zoutputs_lazies)) 8 13 hP rfl
    have hDc := zD_cut (wc := (w_LT (fun i => a (8 + i)) (fun i => k (5 + i)) zoutputs_contents zoutputs_makers zoutputs_executables zoutputs_lazies)) 8 13 hD rfl
    have hKc := hK.sub (tys' := (t_LT (fun i => k (5 + i)))) [5, 6, 7, 8] rfl
    refine z_cl (va_runV (As := [.int p1]) (rest := []) ⟨hx, hb, hml, hown, hts⟩ (c_LT_storedIn l dC dI N (fun i => a (8 + i)) (fun i => k (5 + i)) zoutputs_contents zoutputs_makers zoutputs_executables zoutputs_lazies p1 hu2 H.size) (cwV 1 hts (zGV zsub_c k_2_144 k_2_145 k_2_146 k_1_4 kc_LT_storedIn) rfl rfl rfl (by decide +kernel) ⟨Nat.le_of_ble_eq_true rfl, Nat.le_of_ble_eq_true rfl⟩) ⟨z_bl, va_recv hKc hPc (ci := 2) (q0 := 0) rfl rfl, fun U hU hW => ⟨rfl, z_pre hN hKc hPc hDc U hU hW⟩⟩ rfl rfl hl.1 rfl (lv_room (Nat.le_of_ble_eq_true rfl)) d_OS_storedAt_12 ⟨Nat.zero_le _, Nat.zero_le _⟩) 8 13 (w_OS a k zpaths_outer zpaths_count zsteps_targets zsteps_configurations zsteps_runs zsteps_opened zsteps_count zoutputs_contents zoutputs_makers zoutputs_executables zoutputs_lazies zstaged_contents zstaged_makers zstaged_executables zstaged_lazies zcached_contents zcached_count zholds_contents zholds_count zdirtyMarks_marks zdifferent) hP hD hS hA rfl rfl (fun H locs hP hD hS => ?_)
    obtain rfl := Option.some.inj hf
    exact z_lret hx hb hr hP hD hS d_OS_storedAt_15 hlocks
