set_option maxHeartbeats 4000000 in
set_option maxRecDepth 100000 in
theorem c_OS_path (l : Launch) (dC : Nat → ClassId) (dI : Nat → Nat → Nat) (N : Nat) (a : Nat → Nat) (k : Nat → ClassId) (zpaths_outer : Nat → Int32) (zpaths_count : Int32) (zsteps_targets : Nat → Int32) (zsteps_configurations : Nat → Int32) (zsteps_runs : Nat → Int32) (zsteps_opened : Nat → Int32) (zsteps_count : Int32) (zoutputs_contents : Nat → Int64) (zoutputs_makers : Nat → Int32) (zoutputs_executables : Nat → Int32) (zoutputs_lazies : Nat → Int32) (zstaged_contents : Nat → Int64) (zstaged_makers : Nat → Int32) (zstaged_executables : Nat → Int32) (zstaged_lazies : Nat → Int32) (zcached_contents : Nat → Int64) (zcached_count : Int32) (zholds_contents : Nat → Int64) (zholds_count : Int32) (zdirtyMarks_marks : Nat → Int32) (zdifferent : Nat → Int64) (p1 : Int32) {y : (Int32 × (Nat → Int32) × Int32)} (hf : pf_OS_path N zpaths_outer zpaths_count p1 = some y) (sz : Nat) : Met l y_OS_path ww_OS_path ({ frames := 2, cells := 0, slots := 0, locals := 42 }) (va_Pc [.ref (a 0), .int p1] (zB (dC, dI) zCl (t_OS k) (w_OS a k zpaths_outer zpaths_count zsteps_targets zsteps_configurations zsteps_runs zsteps_opened zsteps_count zoutputs_contents zoutputs_makers zoutputs_executables zoutputs_lazies zstaged_contents zstaged_makers zstaged_executables zstaged_lazies zcached_contents zcached_count zholds_contents zholds_count zdirtyMarks_marks zdifferent) sz)) (zQi (dC, dI) zCl (w_OS a k zpaths_outer zpaths_count zsteps_targets zsteps_configurations zsteps_runs zsteps_opened zsteps_count zoutputs_contents zoutputs_makers zoutputs_executables zoutputs_lazies zstaged_contents zstaged_makers zstaged_executables zstaged_lazies zcached_contents zcached_count zholds_contents zholds_count zdirtyMarks_marks zdifferent) sz y.1 (w_OS a k y.2.1 y.2.2 zsteps_targets zsteps_configurations zsteps_runs zsteps_opened zsteps_count zoutputs_contents zoutputs_makers zoutputs_executables zoutputs_lazies zstaged_contents zstaged_makers zstaged_executables zstaged_lazies zcached_contents zcached_count zholds_contents zholds_count zdirtyMarks_marks zdifferent)) 0 0 (va_A (w_OS a k zpaths_outer zpaths_count zsteps_targets zsteps_configurations zsteps_runs zsteps_opened zsteps_count zoutputs_contents zoutputs_makers zoutputs_executables zoutputs_lazies zstaged_contents zstaged_makers zstaged_executables zstaged_lazies zcached_contents zcached_count zholds_contents zholds_count zdirtyMarks_marks zdifferent) sz) := by
  refine Met.ofW (cc := b_OS_path) (maxL := 2) (ret := (some .int)) (by decide) rfl ?_
  intro p e s m args below meth c s₁ B hml hv
  obtain ⟨rfl, rfl, hP, hK, hD, hN⟩ := hv
  have hx := B.exec
  have hb := B.bytes
  have hr := B.returns
  have hts := atoms_spec (ws := ww_OS_path) B.pre
  have hown : s.vm.findClass R_OS = some m.cls := findClass_of_methodNamed B.named
  have hlocks := B.notSynchronized
  have hA : ∀ q : Nat, s.heap.size ≤ q → va_A (w_OS a k zpaths_outer zpaths_count zsteps_targets zsteps_configurations zsteps_runs zsteps_opened zsteps_count zoutputs_contents zoutputs_makers zoutputs_executables zoutputs_lazies zstaged_contents zstaged_makers zstaged_executables zstaged_lazies zcached_contents zcached_count zholds_contents zholds_count zdirtyMarks_marks zdifferent) s.heap.size q := fun q h => Or.inr h
  refine z_start (lv := [(0, .ref (a 0)), (1, .int p1)]) (Nat.le_of_ble_eq_true rfl) rfl hP hD (fun H locs ls hP hD hS hl => ?_)
  unfold pf_OS_path at hf
  refine lv_aload_n hx hb d_OS_path_0 rfl (lv_at hl 0 rfl) ?_
  refine va_get (D := (dC, dI)) (ci := 6) (v := .ref (a 1)) (C := R_OS) (T := F_OS) (N := 8) hx hb hts (fun w h => List.mem_cons_of_mem _ (in_OS w h)) hown hK hP 0 rfl rfl 0 (by decide) (hts _ (List.mem_cons_of_mem _ k_1_110)) (fun _ h9 => h9) rfl d_OS_path_1 ?_
  refine lv_iload_n hx hb d_OS_path_4 rfl (lv_at hl 1 rfl) ?_
  obtain ⟨u0, hu0, hf⟩ := z_b hf
  have hPc := zP_cut (wc := (w_PT (fun i => a (1 + i)) (fun i => k (0 + i)) zpaths_outer zpaths_count)) 1 3 hP rfl
  have hDc := zD_cut (wc := (w_PT (fun i => a (1 + i)) (fun i => k (0 + i)) zpaths_outer zpaths_count)) 1 3 hD rfl
  have hKc := hK.sub (tys' := (t_PT (fun i => k (0 + i)))) [0] rfl
  refine z_ci (va_runV (As := [.int p1]) (rest := []) ⟨hx, hb, hml, hown, hts⟩ (c_PT_grow l dC dI N (fun i => a (1 + i)) (fun i => k (0 + i)) zpaths_outer zpaths_count p1 hu0 H.size) (cwV 1 hts (zGV zsub_c k_1_139 k_1_140 k_1_141 k_1_2 kc_PT_grow) rfl rfl rfl (by decide +kernel) ⟨Nat.le_of_ble_eq_true rfl, Nat.le_of_ble_eq_true rfl⟩) ⟨z_bl, va_recv hKc hPc (ci := 0) (q0 := 0) rfl rfl, fun U hU hW => ⟨rfl, z_pre hN hKc hPc hDc U hU hW⟩⟩ rfl rfl hl.1 rfl (lv_room (Nat.le_of_ble_eq_true rfl)) d_OS_path_5 ⟨Nat.zero_le _, Nat.zero_le _⟩) 1 3 (w_OS a k u0.2.1 u0.2.2 zsteps_targets zsteps_configurations zsteps_runs zsteps_opened zsteps_count zoutputs_contents zoutputs_makers zoutputs_executables zoutputs_lazies zstaged_contents zstaged_makers zstaged_executables zstaged_lazies zcached_contents zcached_count zholds_contents zholds_count zdirtyMarks_marks zdifferent) hP hD hS hA rfl rfl (fun H locs hP hD hS => ?_)
  obtain rfl := Option.some.inj hf
  exact z_iret hx hb hr hP hD hS d_OS_path_8 hlocks
set_option maxHeartbeats 4000000 in
set_option maxRecDepth 100000 in
theorem c_OS_begin (l : Launch) (dC : Nat → ClassId) (dI : Nat → Nat → Nat) (N : Nat) (a : Nat → Nat) (k : Nat → ClassId) (zpaths_outer : Nat → Int32) (zpaths_count : Int32) (zsteps_targets : Nat → Int32) (zsteps_configurations : Nat → Int32) (zsteps_runs : Nat → Int32) (zsteps_opened : Nat → Int32) (zsteps_count : Int32) (zoutputs_contents : Nat → Int64) (zoutputs_makers : Nat → Int32) (zoutputs_executables : Nat → Int32) (zoutputs_lazies : Nat → Int32) (zstaged_contents : Nat → Int64) (zstaged_makers : Nat → Int32) (zstaged_executables : Nat → Int32) (zstaged_lazies : Nat → Int32) (zcached_contents : Nat → Int64) (zcached_count : Int32) (zholds_contents : Nat → Int64) (zholds_count : Int32) (zdirtyMarks_marks : Nat → Int32) (zdifferent : Nat → Int64) (p1 : Int32) (p2 : Int32) (p3 : Int32) {y : (Int32 × (Nat → Int32) × (Nat → Int32) × (Nat → Int32) × (Nat → Int32) × Int32)} (hf : pf_OS_begin N zsteps_targets zsteps_configurations zsteps_runs zsteps_opened zsteps_count p1 p2 p3 = some y) (sz : Nat) : Met l y_OS_begin ww_OS_begin ({ frames := 3, cells := 0, slots := 0, locals := 65 }) (va_Pc [.ref (a 0), .int p1, .int p2, .int p3] (zB (dC, dI) zCl (t_OS k) (w_OS a k zpaths_outer zpaths_count zsteps_targets zsteps_configurations zsteps_runs zsteps_opened zsteps_count zoutputs_contents zoutputs_makers zoutputs_executables zoutputs_lazies zstaged_contents zstaged_makers zstaged_executables zstaged_lazies zcached_contents zcached_count zholds_contents zholds_count zdirtyMarks_marks zdifferent) sz)) (zQi (dC, dI) zCl (w_OS a k zpaths_outer zpaths_count zsteps_targets zsteps_configurations zsteps_runs zsteps_opened zsteps_count zoutputs_contents zoutputs_makers zoutputs_executables zoutputs_lazies zstaged_contents zstaged_makers zstaged_executables zstaged_lazies zcached_contents zcached_count zholds_contents zholds_count zdirtyMarks_marks zdifferent) sz y.1 (w_OS a k zpaths_outer zpaths_count y.2.1 y.2.2.1 y.2.2.2.1 y.2.2.2.2.1 y.2.2.2.2.2 zoutputs_contents zoutputs_makers zoutputs_executables zoutputs_lazies zstaged_contents zstaged_makers zstaged_executables zstaged_lazies zcached_contents zcached_count zholds_contents zholds_count zdirtyMarks_marks zdifferent)) 0 0 (va_A (w_OS a k zpaths_outer zpaths_count zsteps_targets zsteps_configurations zsteps_runs zsteps_opened zsteps_count zoutputs_contents zoutputs_makers zoutputs_executables zoutputs_lazies zstaged_contents zstaged_makers zstaged_executables zstaged_lazies zcached_contents zcached_count zholds_contents zholds_count zdirtyMarks_marks zdifferent) sz) := by
  refine Met.ofW (cc := b_OS_begin) (maxL := 4) (ret := (some .int)) (by decide) rfl ?_
  intro p e s m args below meth c s₁ B hml hv
  obtain ⟨rfl, rfl, hP, hK, hD, hN⟩ := hv
  have hx := B.exec
  have hb := B.bytes
  have hr := B.returns
  have hts := atoms_spec (ws := ww_OS_begin) B.pre
  have hown : s.vm.findClass R_OS = some m.cls := findClass_of_methodNamed B.named
  have hlocks := B.notSynchronized
  have hA : ∀ q : Nat, s.heap.size ≤ q → va_A (w_OS a k zpaths_outer zpaths_count zsteps_targets zsteps_configurations zsteps_runs zsteps_opened zsteps_count zoutputs_contents zoutputs_makers zoutputs_executables zoutputs_lazies zstaged_contents zstaged_makers zstaged_executables zstaged_lazies zcached_contents zcached_count zholds_contents zholds_count zdirtyMarks_marks zdifferent) s.heap.size q := fun q h => Or.inr h
  refine z_start (lv := [(0, .ref (a 0)), (1, .int p1), (2, .int p2), (3, .int p3)]) (Nat.le_of_ble_eq_true rfl) rfl hP hD (fun H locs ls hP hD hS hl => ?_)
  unfold pf_OS_begin at hf
  refine lv_iload_n hx hb d_OS_begin_0 rfl (lv_at hl 1 rfl) ?_
  obtain ⟨u0, hu0, hf⟩ := z_b hf
  have hPc := zP_cut (wc := ([] : va_W)) 0 0 hP rfl
  have hDc := zD_cut (wc := ([] : va_W)) 0 0 hD rfl
  have hKc := hK.sub (tys' := ([] : List (ClassId × FieldType))) [] rfl
  refine z_ci (va_runS (As := [.int p1]) (rest := []) ⟨hx, hb, hml, hown, hts⟩ (c_OS_isTarget l dC dI N (fun i => a (0 + i)) (fun i => k (0 + i)) p1 hu0 H.size) (cwS 1 hts (zGS zsub_c k_1_151 k_1_152 k_1_1 kc_OS_isTarget) rfl rfl rfl (by decide +kernel) ⟨Nat.le_of_ble_eq_true rfl, Nat.le_of_ble_eq_true rfl⟩) ⟨z_bl, fun U hU hW => ⟨rfl, z_pre hN hKc hPc hDc U hU hW⟩⟩ rfl rfl hl.1 rfl (lv_room (Nat.le_of_ble_eq_true rfl)) d_OS_begin_1 ⟨Nat.zero_le _, Nat.zero_le _⟩) 0 0 (w_OS a k zpaths_outer zpaths_count zsteps_targets zsteps_configurations zsteps_runs zsteps_opened zsteps_count zoutputs_contents zoutputs_makers zoutputs_executables zoutputs_lazies zstaged_contents zstaged_makers zstaged_executables zstaged_lazies zcached_contents zcached_count zholds_contents zholds_count zdirtyMarks_marks zdifferent) hP hD hS hA rfl rfl (fun H locs hP hD hS => ?_)
  refine lv_if_eq (tgt := 31) hx hb d_OS_begin_4 (by decide) (fun c1 => ?_) (fun c1 => ?_)
  · have hf := z_t c1 hf
    refine lv_iconst (v := (-1 : Int32)) hx hb d_OS_begin_31 (by decide) ?_
    obtain rfl := Option.some.inj hf
    exact z_iret hx hb hr hP hD hS d_OS_begin_32 hlocks
  · have hf := z_f c1 hf
    refine lv_iload_n hx hb d_OS_begin_7 rfl (lv_at hl 2 rfl) ?_
    obtain ⟨u1, hu1, hf⟩ := z_b hf
    have hPc := zP_cut (wc := ([] : va_W)) 0 0 hP rfl
    have hDc := zD_cut (wc := ([] : va_W)) 0 0 hD rfl
    have hKc := hK.sub (tys' := ([] : List (ClassId × FieldType))) [] rfl
    refine z_ci (va_runS (As := [.int p2]) (rest := []) ⟨hx, hb, hml, hown, hts⟩ (c_OS_isConfiguration l dC dI N (fun i => a (0 + i)) (fun i => k (0 + i)) p2 hu1 H.size) (cwS 1 hts (zGS zsub_c k_1_154 k_1_155 k_1_1 kc_OS_isConfiguration) rfl rfl rfl (by decide +kernel) ⟨Nat.le_of_ble_eq_true rfl, Nat.le_of_ble_eq_true rfl⟩) ⟨z_bl, fun U hU hW => ⟨rfl, z_pre hN hKc hPc hDc U hU hW⟩⟩ rfl rfl hl.1 rfl (lv_room (Nat.le_of_ble_eq_true rfl)) d_OS_begin_8 ⟨Nat.zero_le _, Nat.zero_le _⟩) 0 0 (w_OS a k zpaths_outer zpaths_count zsteps_targets zsteps_configurations zsteps_runs zsteps_opened zsteps_count zoutputs_contents zoutputs_makers zoutputs_executables zoutputs_lazies zstaged_contents zstaged_makers zstaged_executables zstaged_lazies zcached_contents zcached_count zholds_contents zholds_count zdirtyMarks_marks zdifferent) hP hD hS hA rfl rfl (fun H locs hP hD hS => ?_)
    refine lv_if_eq (tgt := 31) hx hb d_OS_begin_11 (by decide) (fun c2 => ?_) (fun c2 => ?_)
    · have hf := z_t c2 hf
      refine lv_iconst (v := (-1 : Int32)) hx hb d_OS_begin_31 (by decide) ?_
      obtain rfl := Option.some.inj hf
      exact z_iret hx hb hr hP hD hS d_OS_begin_32 hlocks
    · have hf := z_f c2 hf
      refine lv_iload_n hx hb d_OS_begin_14 rfl (lv_at hl 3 rfl) ?_
      obtain ⟨u2, hu2, hf⟩ := z_b hf
      have hPc := zP_cut (wc := ([] : va_W)) 0 0 hP rfl
      have hDc := zD_cut (wc := ([] : va_W)) 0 0 hD rfl
      have hKc := hK.sub (tys' := ([] : List (ClassId × FieldType))) [] rfl
      refine z_ci (va_runS (As := [.int p3]) (rest := []) ⟨hx, hb, hml, hown, hts⟩ (c_OS_isRun l dC dI N (fun i => a (0 + i)) (fun i => k (0 + i)) p3 hu2 H.size) (cwS 1 hts (zGS zsub_c k_1_157 k_1_158 k_1_1 kc_OS_isRun) rfl rfl rfl (by decide +kernel) ⟨Nat.le_of_ble_eq_true rfl, Nat.le_of_ble_eq_true rfl⟩) ⟨z_bl, fun U hU hW => ⟨rfl, z_pre hN hKc hPc hDc U hU hW⟩⟩ rfl rfl hl.1 rfl (lv_room (Nat.le_of_ble_eq_true rfl)) d_OS_begin_15 ⟨Nat.zero_le _, Nat.zero_le _⟩) 0 0 (w_OS a k zpaths_outer zpaths_count zsteps_targets zsteps_configurations zsteps_runs zsteps_opened zsteps_count zoutputs_contents zoutputs_makers zoutputs_executables zoutputs_lazies zstaged_contents zstaged_makers zstaged_executables zstaged_lazies zcached_contents zcached_count zholds_contents zholds_count zdirtyMarks_marks zdifferent) hP hD hS hA rfl rfl (fun H locs hP hD hS => ?_)
      refine lv_if_eq (tgt := 31) hx hb d_OS_begin_18 (by decide) (fun c3 => ?_) (fun c3 => ?_)
      · have hf := z_t c3 hf
        refine lv_iconst (v := (-1 : Int32)) hx hb d_OS_begin_31 (by decide) ?_
        obtain rfl := Option.some.inj hf
        exact z_iret hx hb hr hP hD hS d_OS_begin_32 hlocks
      · have hf := z_f c3 hf
        refine lv_aload_n hx hb d_OS_begin_21 rfl (lv_at hl 0 rfl) ?_
        refine va_get (D := (dC, dI)) (ci := 6) (v := .ref (a 3)) (C := R_OS) (T := F_OS) (N := 8) hx hb hts (fun w h => List.mem_cons_of_mem _ (in_OS w h)) hown hK hP 0 rfl rfl 1 (by decide) (hts _ (List.mem_cons_of_mem _ k_1_111)) (fun _ h9 => h9) rfl d_OS_begin_22 ?_
        obtain ⟨u3, hu3, hf⟩ := z_b hf
        have hPc := zP_cut (wc := (w_SB (fun i => a (3 + i)) (fun i => k (1 + i)) zsteps_targets zsteps_configurations zsteps_runs zsteps_opened zsteps_count)) 3 8 hP rfl
        have hDc := zD_cut (wc := (w_SB (fun i => a (3 + i)) (fun i => k (1 + i)) zsteps_targets zsteps_configurations zsteps_runs zsteps_opened zsteps_count)) 3 8 hD rfl
        have hKc := hK.sub (tys' := (t_SB (fun i => k (1 + i)))) [1, 2, 3, 4] rfl
        refine z_ci (va_runV (As := []) (rest := []) ⟨hx, hb, hml, hown, hts⟩ (c_SB_isFull l dC dI N (fun i => a (3 + i)) (fun i => k (1 + i)) zsteps_targets zsteps_configurations zsteps_runs zsteps_opened zsteps_count hu3 H.size) (cwV 0 hts (zGV zsub_c k_1_160 k_1_161 k_1_162 k_1_3 kc_SB_isFull) rfl rfl rfl (by decide +kernel) ⟨Nat.le_of_ble_eq_true rfl, Nat.le_of_ble_eq_true rfl⟩) ⟨z_bl, va_recv hKc hPc (ci := 1) (q0 := 0) rfl rfl, fun U hU hW => ⟨rfl, z_pre hN hKc hPc hDc U hU hW⟩⟩ rfl rfl hl.1 rfl (lv_room (Nat.le_of_ble_eq_true rfl)) d_OS_begin_25 ⟨Nat.zero_le _, Nat.zero_le _⟩) 3 8 (w_OS a k zpaths_outer zpaths_count zsteps_targets zsteps_configurations zsteps_runs zsteps_opened zsteps_count zoutputs_contents zoutputs_makers zoutputs_executables zoutputs_lazies zstaged_contents zstaged_makers zstaged_executables zstaged_lazies zcached_contents zcached_count zholds_contents zholds_count zdirtyMarks_marks zdifferent) hP hD hS hA rfl rfl (fun H locs hP hD hS => ?_)
        refine lv_if_eq (tgt := 33) hx hb d_OS_begin_28 (by decide) (fun c4 => ?_) (fun c4 => ?_)
        · have hf := z_t c4 hf
          refine lv_aload_n hx hb d_OS_begin_33 rfl (lv_at hl 0 rfl) ?_
          refine va_get (D := (dC, dI)) (ci := 6) (v := .ref (a 3)) (C := R_OS) (T := F_OS) (N := 8) hx hb hts (fun w h => List.mem_cons_of_mem _ (in_OS w h)) hown hK hP 0 rfl rfl 1 (by decide) (hts _ (List.mem_cons_of_mem _ k_1_111)) (fun _ h9 => h9) rfl d_OS_begin_34 ?_
          refine lv_iload_n hx hb d_OS_begin_37 rfl (lv_at hl 1 rfl) ?_
          refine lv_iload_n hx hb d_OS_begin_38 rfl (lv_at hl 2 rfl) ?_
          obtain ⟨u4, hu4, hf⟩ := z_b hf
          have hPc := zP_cut (wc := (w_SB (fun i => a (3 + i)) (fun i => k (1 + i)) zsteps_targets zsteps_configurations zsteps_runs zsteps_opened zsteps_count)) 3 8 hP rfl
          have hDc := zD_cut (wc := (w_SB (fun i => a (3 + i)) (fun i => k (1 + i)) zsteps_targets zsteps_configurations zsteps_runs zsteps_opened zsteps_count)) 3 8 hD rfl
          have hKc := hK.sub (tys' := (t_SB (fun i => k (1 + i)))) [1, 2, 3, 4] rfl
          refine z_ci (va_runV (As := [.int p1, .int p2]) (rest := []) ⟨hx, hb, hml, hown, hts⟩ (c_SB_hasOpenOne l dC dI N (fun i => a (3 + i)) (fun i => k (1 + i)) zsteps_targets zsteps_configurations zsteps_runs zsteps_opened zsteps_count p1 p2 hu4 H.size) (cwV 2 hts (zGV zsub_c k_1_164 k_1_165 k_1_166 k_1_3 kc_SB_hasOpenOne) rfl rfl rfl (by decide +kernel) ⟨Nat.le_of_ble_eq_true rfl, Nat.le_of_ble_eq_true rfl⟩) ⟨z_bl, va_recv hKc hPc (ci := 1) (q0 := 0) rfl rfl, fun U hU hW => ⟨rfl, z_pre hN hKc hPc hDc U hU hW⟩⟩ rfl rfl hl.1 rfl (lv_room (Nat.le_of_ble_eq_true rfl)) d_OS_begin_39 ⟨Nat.zero_le _, Nat.zero_le _⟩) 3 8 (w_OS a k zpaths_outer zpaths_count zsteps_targets zsteps_configurations zsteps_runs zsteps_opened zsteps_count zoutputs_contents zoutputs_makers zoutputs_executables zoutputs_lazies zstaged_contents zstaged_makers zstaged_executables zstaged_lazies zcached_contents zcached_count zholds_contents zholds_count zdirtyMarks_marks zdifferent) hP hD hS hA rfl rfl (fun H locs hP hD hS => ?_)
          refine lv_if_eq (tgt := 48) hx hb d_OS_begin_42 (by decide) (fun c5 => ?_) (fun c5 => ?_)
          · have hf := z_t c5 hf
            refine lv_aload_n hx hb d_OS_begin_48 rfl (lv_at hl 0 rfl) ?_
            refine va_get (D := (dC, dI)) (ci := 6) (v := .ref (a 3)) (C := R_OS) (T := F_OS) (N := 8) hx hb hts (fun w h => List.mem_cons_of_mem _ (in_OS w h)) hown hK hP 0 rfl rfl 1 (by decide) (hts _ (List.mem_cons_of_mem _ k_1_111)) (fun _ h9 => h9) rfl d_OS_begin_49 ?_
            refine lv_iload_n hx hb d_OS_begin_52 rfl (lv_at hl 1 rfl) ?_
            refine lv_iload_n hx hb d_OS_begin_53 rfl (lv_at hl 2 rfl) ?_
            refine lv_iload_n hx hb d_OS_begin_54 rfl (lv_at hl 3 rfl) ?_
            obtain ⟨u5, hu5, hf⟩ := z_b hf
            have hPc := zP_cut (wc := (w_SB (fun i => a (3 + i)) (fun i => k (1 + i)) zsteps_targets zsteps_configurations zsteps_runs zsteps_opened zsteps_count)) 3 8 hP rfl
            have hDc := zD_cut (wc := (w_SB (fun i => a (3 + i)) (fun i => k (1 + i)) zsteps_targets zsteps_configurations zsteps_runs zsteps_opened zsteps_count)) 3 8 hD rfl
            have hKc := hK.sub (tys' := (t_SB (fun i => k (1 + i)))) [1, 2, 3, 4] rfl
            refine z_ci (va_runV (As := [.int p1, .int p2, .int p3]) (rest := []) ⟨hx, hb, hml, hown, hts⟩ (c_SB_open l dC dI N (fun i => a (3 + i)) (fun i => k (1 + i)) zsteps_targets zsteps_configurations zsteps_runs zsteps_opened zsteps_count p1 p2 p3 hu5 H.size) (cwV 3 hts (zGV zsub_c k_1_176 k_1_177 k_1_178 k_1_3 kc_SB_open) rfl rfl rfl (by decide +kernel) ⟨Nat.le_of_ble_eq_true rfl, Nat.le_of_ble_eq_true rfl⟩) ⟨z_bl, va_recv hKc hPc (ci := 1) (q0 := 0) rfl rfl, fun U hU hW => ⟨rfl, z_pre hN hKc hPc hDc U hU hW⟩⟩ rfl rfl hl.1 rfl (lv_room (Nat.le_of_ble_eq_true rfl)) d_OS_begin_55 ⟨Nat.zero_le _, Nat.zero_le _⟩) 3 8 (w_OS a k zpaths_outer zpaths_count u5.2.1 u5.2.2.1 u5.2.2.2.1 u5.2.2.2.2.1 u5.2.2.2.2.2 zoutputs_contents zoutputs_makers zoutputs_executables zoutputs_lazies zstaged_contents zstaged_makers zstaged_executables zstaged_lazies zcached_contents zcached_count zholds_contents zholds_count zdirtyMarks_marks zdifferent) hP hD hS hA rfl rfl (fun H locs hP hD hS => ?_)
            obtain rfl := Option.some.inj hf
            exact z_iret hx hb hr hP hD hS d_OS_begin_58 hlocks
          · have hf := z_f c5 hf
            refine lv_bipush (v := (-2 : Int32)) hx hb d_OS_begin_45 (by decide) ?_
            obtain rfl := Option.some.inj hf
            exact z_iret hx hb hr hP hD hS d_OS_begin_47 hlocks
        · have hf := z_f c4 hf
          refine lv_iconst (v := (-1 : Int32)) hx hb d_OS_begin_31 (by decide) ?_
          obtain rfl := Option.some.inj hf
          exact z_iret hx hb hr hP hD hS d_OS_begin_32 hlocks
set_option maxHeartbeats 4000000 in
set_option maxRecDepth 100000 in
theorem c_OS_stage (l : Launch) (dC : Nat → ClassId) (dI : Nat → Nat → Nat) (N : Nat) (a : Nat → Nat) (k : Nat → ClassId) (zpaths_outer : Nat → Int32) (zpaths_count : Int32) (zsteps_targets : Nat → Int32) (zsteps_configurations : Nat → Int32) (zsteps_runs : Nat → Int32) (zsteps_opened : Nat → Int32) (zsteps_count : Int32) (zoutputs_contents : Nat → Int64) (zoutputs_makers : Nat → Int32) (zoutputs_executables : Nat → Int32) (zoutputs_lazies : Nat → Int32) (zstaged_contents : Nat → Int64) (zstaged_makers : Nat → Int32) (zstaged_executables : Nat → Int32) (zstaged_lazies : Nat → Int32) (zcached_contents : Nat → Int64) (zcached_count : Int32) (zholds_contents : Nat → Int64) (zholds_count : Int32) (zdirtyMarks_marks : Nat → Int32) (zdifferent : Nat → Int64) (p1 : Int32) (p2 : Int32) (p3 : Int64) (p5 : Int32) (p6 : Int32) {y : (Int32 × (Nat → Int64) × (Nat → Int32) × (Nat → Int32) × (Nat → Int32))} (hf : pf_OS_stage N zpaths_outer zpaths_count zsteps_targets zsteps_configurations zsteps_opened zsteps_count zoutputs_contents zoutputs_makers zstaged_contents zstaged_makers zstaged_executables zstaged_lazies zcached_contents zcached_count p1 p2 p3 p5 p6 = some y) (sz : Nat) : Met l y_OS_stage ww_OS_stage ({ frames := 5, cells := 0, slots := 0, locals := 111 }) (va_Pc [.ref (a 0), .int p1, .int p2, .long p3, .int p5, .int p6] (zB (dC, dI) zCl (t_OS k) (w_OS a k zpaths_outer zpaths_count zsteps_targets zsteps_configurations zsteps_runs zsteps_opened zsteps_count zoutputs_contents zoutputs_makers zoutputs_executables zoutputs_lazies zstaged_contents zstaged_makers zstaged_executables zstaged_lazies zcached_contents zcached_count zholds_contents zholds_count zdirtyMarks_marks zdifferent) sz)) (zQi (dC, dI) zCl (w_OS a k zpaths_outer zpaths_count zsteps_targets zsteps_configurations zsteps_runs zsteps_opened zsteps_count zoutputs_contents zoutputs_makers zoutputs_executables zoutputs_lazies zstaged_contents zstaged_makers zstaged_executables zstaged_lazies zcached_contents zcached_count zholds_contents zholds_count zdirtyMarks_marks zdifferent) sz y.1 (w_OS a k zpaths_outer zpaths_count zsteps_targets zsteps_configurations zsteps_runs zsteps_opened zsteps_count zoutputs_contents zoutputs_makers zoutputs_executables zoutputs_lazies y.2.1 y.2.2.1 y.2.2.2.1 y.2.2.2.2 zcached_contents zcached_count zholds_contents zholds_count zdirtyMarks_marks zdifferent)) 0 0 (va_A (w_OS a k zpaths_outer zpaths_count zsteps_targets zsteps_configurations zsteps_runs zsteps_opened zsteps_count zoutputs_contents zoutputs_makers zoutputs_executables zoutputs_lazies zstaged_contents zstaged_makers zstaged_executables zstaged_lazies zcached_contents zcached_count zholds_contents zholds_count zdirtyMarks_marks zdifferent) sz) := by
  refine Met.ofW (cc := b_OS_stage) (maxL := 8) (ret := (some .int)) (by decide) rfl ?_
  intro p e s m args below meth c s₁ B hml hv
  obtain ⟨rfl, rfl, hP, hK, hD, hN⟩ := hv
  have hx := B.exec
  have hb := B.bytes
  have hr := B.returns
  have hts := atoms_spec (ws := ww_OS_stage) B.pre
  have hown : s.vm.findClass R_OS = some m.cls := findClass_of_methodNamed B.named
  have hlocks := B.notSynchronized
  have hA : ∀ q : Nat, s.heap.size ≤ q → va_A (w_OS a k zpaths_outer zpaths_count zsteps_targets zsteps_configurations zsteps_runs zsteps_opened zsteps_count zoutputs_contents zoutputs_makers zoutputs_executables zoutputs_lazies zstaged_contents zstaged_makers zstaged_executables zstaged_lazies zcached_contents zcached_count zholds_contents zholds_count zdirtyMarks_marks zdifferent) s.heap.size q := fun q h => Or.inr h
  refine z_start (lv := [(0, .ref (a 0)), (1, .int p1), (2, .int p2), (3, .long p3), (5, .int p5), (6, .int p6)]) (Nat.le_of_ble_eq_true rfl) rfl hP hD (fun H locs ls hP hD hS hl => ?_)
  unfold pf_OS_stage at hf
  refine lv_aload_n hx hb d_OS_stage_0 rfl (lv_at hl 0 rfl) ?_
  refine va_get (D := (dC, dI)) (ci := 6) (v := .ref (a 3)) (C := R_OS) (T := F_OS) (N := 8) hx hb hts (fun w h => List.mem_cons_of_mem _ (in_OS w h)) hown hK hP 0 rfl rfl 1 (by decide) (hts _ (List.mem_cons_of_mem _ k_1_111)) (fun _ h9 => h9) rfl d_OS_stage_1 ?_
  refine lv_iload_n hx hb d_OS_stage_4 rfl (lv_at hl 1 rfl) ?_
  obtain ⟨u0, hu0, hf⟩ := z_b hf
  have hPc := zP_cut (wc := (w_SB (fun i => a (3 + i)) (fun i => k (1 + i)) zsteps_targets zsteps_configurations zsteps_runs zsteps_opened zsteps_count)) 3 8 hP rfl
  have hDc := zD_cut (wc := (w_SB (fun i => a (3 + i)) (fun i => k (1 + i)) zsteps_targets zsteps_configurations zsteps_runs zsteps_opened zsteps_count)) 3 8 hD rfl
  have hKc := hK.sub (tys' := (t_SB (fun i => k (1 + i)))) [1, 2, 3, 4] rfl
  refine z_ci (va_runV (As := [.int p1]) (rest := []) ⟨hx, hb, hml, hown, hts⟩ (c_SB_isOpen l dC dI N (fun i => a (3 + i)) (fun i => k (1 + i)) zsteps_targets zsteps_configurations zsteps_runs zsteps_opened zsteps_count p1 hu0 H.size) (cwV 1 hts (zGV zsub_c k_1_185 k_1_169 k_1_170 k_1_3 kc_SB_isOpen) rfl rfl rfl (by decide +kernel) ⟨Nat.le_of_ble_eq_true rfl, Nat.le_of_ble_eq_true rfl⟩) ⟨z_bl, va_recv hKc hPc (ci := 1) (q0 := 0) rfl rfl, fun U hU hW => ⟨rfl, z_pre hN hKc hPc hDc U hU hW⟩⟩ rfl rfl hl.1 rfl (lv_room (Nat.le_of_ble_eq_true rfl)) d_OS_stage_5 ⟨Nat.zero_le _, Nat.zero_le _⟩) 3 8 (w_OS a k zpaths_outer zpaths_count zsteps_targets zsteps_configurations zsteps_runs zsteps_opened zsteps_count zoutputs_contents zoutputs_makers zoutputs_executables zoutputs_lazies zstaged_contents zstaged_makers zstaged_executables zstaged_lazies zcached_contents zcached_count zholds_contents zholds_count zdirtyMarks_marks zdifferent) hP hD hS hA rfl rfl (fun H locs hP hD hS => ?_)
  refine lv_if_eq (tgt := 28) hx hb d_OS_stage_8 (by decide) (fun c1 => ?_) (fun c1 => ?_)
  · have hf := z_t c1 hf
    refine lv_iconst (v := (-1 : Int32)) hx hb d_OS_stage_28 (by decide) ?_
    obtain rfl := Option.some.inj hf
    exact z_iret hx hb hr hP hD hS d_OS_stage_29 hlocks
  · have hf := z_f c1 hf
    refine lv_aload_n hx hb d_OS_stage_11 rfl (lv_at hl 0 rfl) ?_
    refine va_get (D := (dC, dI)) (ci := 6) (v := .ref (a 1)) (C := R_OS) (T := F_OS) (N := 8) hx hb hts (fun w h => List.mem_cons_of_mem _ (in_OS w h)) hown hK hP 0 rfl rfl 0 (by decide) (hts _ (List.mem_cons_of_mem _ k_1_110)) (fun _ h9 => h9) rfl d_OS_stage_12 ?_
    refine lv_iload_n hx hb d_OS_stage_15 rfl (lv_at hl 2 rfl) ?_
    obtain ⟨u1, hu1, hf⟩ := z_b hf
    have hPc := zP_cut (wc := (w_PT (fun i => a (1 + i)) (fun i => k (0 + i)) zpaths_outer zpaths_count)) 1 3 hP rfl
    have hDc := zD_cut (wc := (w_PT (fun i => a (1 + i)) (fun i => k (0 + i)) zpaths_outer zpaths_count)) 1 3 hD rfl
    have hKc := hK.sub (tys' := (t_PT (fun i => k (0 + i)))) [0] rfl
    refine z_ci (va_runV (As := [.int p2]) (rest := []) ⟨hx, hb, hml, hown, hts⟩ (c_PT_has l dC dI N (fun i => a (1 + i)) (fun i => k (0 + i)) zpaths_outer zpaths_count p2 hu1 H.size) (cwV 1 hts (zGV zsub_c k_1_186 k_1_144 k_1_145 k_1_2 kc_PT_has) rfl rfl rfl (by decide +kernel) ⟨Nat.le_of_ble_eq_true rfl, Nat.le_of_ble_eq_true rfl⟩) ⟨z_bl, va_recv hKc hPc (ci := 0) (q0 := 0) rfl rfl, fun U hU hW => ⟨rfl, z_pre hN hKc hPc hDc U hU hW⟩⟩ rfl rfl hl.1 rfl (lv_room (Nat.le_of_ble_eq_true rfl)) d_OS_stage_16 ⟨Nat.zero_le _, Nat.zero_le _⟩) 1 3 (w_OS a k zpaths_outer zpaths_count zsteps_targets zsteps_configurations zsteps_runs zsteps_opened zsteps_count zoutputs_contents zoutputs_makers zoutputs_executables zoutputs_lazies zstaged_contents zstaged_makers zstaged_executables zstaged_lazies zcached_contents zcached_count zholds_contents zholds_count zdirtyMarks_marks zdifferent) hP hD hS hA rfl rfl (fun H locs hP hD hS => ?_)
    refine lv_if_eq (tgt := 28) hx hb d_OS_stage_19 (by decide) (fun c2 => ?_) (fun c2 => ?_)
    · have hf := z_t c2 hf
      refine lv_iconst (v := (-1 : Int32)) hx hb d_OS_stage_28 (by decide) ?_
      obtain rfl := Option.some.inj hf
      exact z_iret hx hb hr hP hD hS d_OS_stage_29 hlocks
    · have hf := z_f c2 hf
      refine lv_lload_n hx hb d_OS_stage_22 rfl (lv_at hl 3 rfl) ?_
      refine lv_lconst (v := 0) hx hb d_OS_stage_23 (by decide) ?_
      refine W.lcmp hx hb d_OS_stage_24 ?_
      refine lv_if_ne (tgt := 30) hx hb d_OS_stage_25 (by decide) (fun c3 => ?_) (fun c3 => ?_)
      · have hf := z_t c3 hf
        refine lv_aload_n hx hb d_OS_stage_30 rfl (lv_at hl 0 rfl) ?_
        refine lv_aload_n hx hb d_OS_stage_31 rfl (lv_at hl 0 rfl) ?_
        refine va_get (D := (dC, dI)) (ci := 6) (v := .ref (a 3)) (C := R_OS) (T := F_OS) (N := 8) hx hb hts (fun w h => List.mem_cons_of_mem _ (in_OS w h)) hown hK hP 0 rfl rfl 1 (by decide) (hts _ (List.mem_cons_of_mem _ k_1_111)) (fun _ h9 => h9) rfl d_OS_stage_32 ?_
        refine lv_iload_n hx hb d_OS_stage_35 rfl (lv_at hl 1 rfl) ?_
        obtain ⟨u2, hu2, hf⟩ := z_b hf
        have hPc := zP_cut (wc := (w_SB (fun i => a (3 + i)) (fun i => k (1 + i)) zsteps_targets zsteps_configurations zsteps_runs zsteps_opened zsteps_count)) 3 8 hP rfl
        have hDc := zD_cut (wc := (w_SB (fun i => a (3 + i)) (fun i => k (1 + i)) zsteps_targets zsteps_configurations zsteps_runs zsteps_opened zsteps_count)) 3 8 hD rfl
        have hKc := hK.sub (tys' := (t_SB (fun i => k (1 + i)))) [1, 2, 3, 4] rfl
        refine z_ci (va_runV (As := [.int p1]) (rest := [.ref (a 0)]) ⟨hx, hb, hml, hown, hts⟩ (c_SB_configurationOf l dC dI N (fun i => a (3 + i)) (fun i => k (1 + i)) zsteps_targets zsteps_configurations zsteps_runs zsteps_opened zsteps_count p1 hu2 H.size) (cwV 1 hts (zGV zsub_c k_1_187 k_1_188 k_1_189 k_1_3 kc_SB_configurationOf) rfl rfl rfl (by decide +kernel) ⟨Nat.le_of_ble_eq_true rfl, Nat.le_of_ble_eq_true rfl⟩) ⟨z_bl, va_recv hKc hPc (ci := 1) (q0 := 0) rfl rfl, fun U hU hW => ⟨rfl, z_pre hN hKc hPc hDc U hU hW⟩⟩ rfl rfl hl.1 rfl (lv_room (Nat.le_of_ble_eq_true rfl)) d_OS_stage_36 ⟨Nat.zero_le _, Nat.zero_le _⟩) 3 8 (w_OS a k zpaths_outer zpaths_count zsteps_targets zsteps_configurations zsteps_runs zsteps_opened zsteps_count zoutputs_contents zoutputs_makers zoutputs_executables zoutputs_lazies zstaged_contents zstaged_makers zstaged_executables zstaged_lazies zcached_contents zcached_count zholds_contents zholds_count zdirtyMarks_marks zdifferent) hP hD hS hA rfl rfl (fun H locs hP hD hS => ?_)
        refine lv_iload_n hx hb d_OS_stage_39 rfl (lv_at hl 2 rfl) ?_
        obtain ⟨u3, hu3, hf⟩ := z_b hf
        have hPc := hP
        have hDc := hD
        have hKc := hK
        refine z_cwi (va_runV (As := [.int u2, .int p2]) (rest := []) ⟨hx, hb, hml, hown, hts⟩ (c_OS_slotOf l dC dI N a k zpaths_outer zpaths_count zsteps_targets zsteps_configurations zsteps_runs zsteps_opened zsteps_count zoutputs_contents zoutputs_makers zoutputs_executables zoutputs_lazies zstaged_contents zstaged_makers zstaged_executables zstaged_lazies zcached_contents zcached_count zholds_contents zholds_count zdirtyMarks_marks zdifferent u2 p2 hu3 H.size) (cwV 2 hts (zGV zsub_c k_1_191 k_1_193 s_OS_slotOf k_1_1 kc_OS_slotOf) rfl rfl rfl (by decide +kernel) ⟨Nat.le_of_ble_eq_true rfl, Nat.le_of_ble_eq_true rfl⟩) ⟨z_bl, va_recv hKc hPc (ci := 6) (q0 := 0) rfl rfl, fun U hU hW => ⟨rfl, z_pre hN hKc hPc hDc U hU hW⟩⟩ rfl rfl hl.1 rfl (lv_room (Nat.le_of_ble_eq_true rfl)) d_OS_stage_40 ⟨Nat.zero_le _, Nat.zero_le _⟩) hD hS hA (fun H locs hP hD hS => ?_)
        refine lv_istore (lv' := [(7, .int u3), (0, .ref (a 0)), (1, .int p1), (2, .int p2), (3, .long p3), (5, .int p5), (6, .int p6)]) hx hb d_OS_stage_43 hl (by decide) rfl (fun ls hl => ?_)
        refine lv_aload_n hx hb d_OS_stage_45 rfl (lv_at hl 1 rfl) ?_
        refine va_get (D := (dC, dI)) (ci := 6) (v := .ref (a 13)) (C := R_OS) (T := F_OS) (N := 8) hx hb hts (fun w h => List.mem_cons_of_mem _ (in_OS w h)) hown hK hP 0 rfl rfl 3 (by decide) (hts _ (List.mem_cons_of_mem _ k_1_113)) (fun _ h9 => h9) rfl d_OS_stage_46 ?_
        refine lv_iload hx hb d_OS_stage_49 (lv_at hl 0 rfl) ?_
        refine lv_iload_n hx hb d_OS_stage_51 rfl (lv_at hl 2 rfl) ?_
        obtain ⟨u4, hu4, hf⟩ := z_b hf
        have hPc := zP_cut (wc := (w_LT (fun i => a (13 + i)) (fun i => k (9 + i)) zstaged_contents zstaged_makers zstaged_executables zstaged_lazies)) 13 18 hP rfl
        have hDc := zD_cut (wc := (w_LT (fun i => a (13 + i)) (fun i => k (9 + i)) zstaged_contents zstaged_makers zstaged_executables zstaged_lazies)) 13 18 hD rfl
        have hKc := hK.sub (tys' := (t_LT (fun i => k (9 + i)))) [9, 10, 11, 12] rfl
        refine z_ci (va_runV (As := [.int u3, .int p1]) (rest := []) ⟨hx, hb, hml, hown, hts⟩ (c_LT_isOfStep l dC dI N (fun i => a (13 + i)) (fun i => k (9 + i)) zstaged_contents zstaged_makers zstaged_executables zstaged_lazies u3 p1 hu4 H.size) (cwV 2 hts (zGV zsub_c k_1_195 k_1_196 k_1_197 k_1_4 kc_LT_isOfStep) rfl rfl rfl (by decide +kernel) ⟨Nat.le_of_ble_eq_true rfl, Nat.le_of_ble_eq_true rfl⟩) ⟨z_bl, va_recv hKc hPc (ci := 2) (q0 := 0) rfl rfl, fun U hU hW => ⟨rfl, z_pre hN hKc hPc hDc U hU hW⟩⟩ rfl rfl hl.1 rfl (lv_room (Nat.le_of_ble_eq_true rfl)) d_OS_stage_52 ⟨Nat.zero_le _, Nat.zero_le _⟩) 13 18 (w_OS a k zpaths_outer zpaths_count zsteps_targets zsteps_configurations zsteps_runs zsteps_opened zsteps_count zoutputs_contents zoutputs_makers zoutputs_executables zoutputs_lazies zstaged_contents zstaged_makers zstaged_executables zstaged_lazies zcached_contents zcached_count zholds_contents zholds_count zdirtyMarks_marks zdifferent) hP hD hS hA rfl rfl (fun H locs hP hD hS => ?_)
        refine lv_if_ne (tgt := 70) hx hb d_OS_stage_55 (by decide) (fun c4 => ?_) (fun c4 => ?_)
        · have hf := z_t c4 hf
          refine lv_aload_n hx hb d_OS_stage_70 rfl (lv_at hl 1 rfl) ?_
          refine lv_iload_n hx hb d_OS_stage_71 rfl (lv_at hl 2 rfl) ?_
          refine lv_iload_n hx hb d_OS_stage_72 rfl (lv_at hl 3 rfl) ?_
          obtain ⟨u5, hu5, hf⟩ := z_b hf
          have hPc := hP
          have hDc := hD
          have hKc := hK
          refine z_cwi (va_runV (As := [.int p1, .int p2]) (rest := []) ⟨hx, hb, hml, hown, hts⟩ (c_OS_isRefused l dC dI N a k zpaths_outer zpaths_count zsteps_targets zsteps_configurations zsteps_runs zsteps_opened zsteps_count zoutputs_contents zoutputs_makers zoutputs_executables zoutputs_lazies zstaged_contents zstaged_makers zstaged_executables zstaged_lazies zcached_contents zcached_count zholds_contents zholds_count zdirtyMarks_marks zdifferent p1 p2 hu5 H.size) (cwV 2 hts (zGV zsub_c k_1_207 k_1_209 s_OS_isRefused k_1_1 kc_OS_isRefused) rfl rfl rfl (by decide +kernel) ⟨Nat.le_of_ble_eq_true rfl, Nat.le_of_ble_eq_true rfl⟩) ⟨z_bl, va_recv hKc hPc (ci := 6) (q0 := 0) rfl rfl, fun U hU hW => ⟨rfl, z_pre hN hKc hPc hDc U hU hW⟩⟩ rfl rfl hl.1 rfl (lv_room (Nat.le_of_ble_eq_true rfl)) d_OS_stage_73 ⟨Nat.zero_le _, Nat.zero_le _⟩) hD hS hA (fun H locs hP hD hS => ?_)
          refine lv_if_eq (tgt := 82) hx hb d_OS_stage_76 (by decide) (fun c5 => ?_) (fun c5 => ?_)
          · have hf := z_t c5 hf
            refine lv_iload hx hb d_OS_stage_82 (lv_at hl 6 rfl) ?_
            refine lv_if_eq (tgt := 101) hx hb d_OS_stage_84 (by decide) (fun c6 => ?_) (fun c6 => ?_)
            · have hf := z_t c6 hf
              refine lv_aload_n hx hb d_OS_stage_101 rfl (lv_at hl 1 rfl) ?_
              refine va_get (D := (dC, dI)) (ci := 6) (v := .ref (a 13)) (C := R_OS) (T := F_OS) (N := 8) hx hb hts (fun w h => List.mem_cons_of_mem _ (in_OS w h)) hown hK hP 0 rfl rfl 3 (by decide) (hts _ (List.mem_cons_of_mem _ k_1_113)) (fun _ h9 => h9) rfl d_OS_stage_102 ?_
              refine lv_iload hx hb d_OS_stage_105 (lv_at hl 0 rfl) ?_
              refine lv_iload_n hx hb d_OS_stage_107 rfl (lv_at hl 2 rfl) ?_
              refine lv_lload_n hx hb d_OS_stage_108 rfl (lv_at hl 4 rfl) ?_
              refine lv_iload hx hb d_OS_stage_109 (lv_at hl 5 rfl) ?_
              refine lv_iload hx hb d_OS_stage_111 (lv_at hl 6 rfl) ?_
              obtain ⟨u6, hu6, hf⟩ := z_b hf
              have hPc := zP_cut (wc := (w_LT (fun i => a (13 + i)) (fun i => k (9 + i)) zstaged_contents zstaged_makers zstaged_executables zstaged_lazies)) 13 18 hP rfl
              have hDc := zD_cut (wc := (w_LT (fun i => a (13 + i)) (fun i => k (9 + i)) zstaged_contents zstaged_makers zstaged_executables zstaged_lazies)) 13 18 hD rfl
              have hKc := hK.sub (tys' := (t_LT (fun i => k (9 + i)))) [9, 10, 11, 12] rfl
              refine z_cv (va_runV (As := [.int u3, .int p1, .long p3, .int p5, .int p6]) (rest := []) ⟨hx, hb, hml, hown, hts⟩ (c_LT_put l dC dI N (fun i => a (13 + i)) (fun i => k (9 + i)) zstaged_contents zstaged_makers zstaged_executables zstaged_lazies u3 p1 p3 p5 p6 hu6 H.size) (cwV 5 hts (zGV zsub_c k_2_7 k_2_8 k_2_9 k_1_4 kc_LT_put) rfl rfl rfl (by decide +kernel) ⟨Nat.le_of_ble_eq_true rfl, Nat.le_of_ble_eq_true rfl⟩) ⟨z_bl, va_recv hKc hPc (ci := 2) (q0 := 0) rfl rfl, fun U hU hW => ⟨rfl, z_pre hN hKc hPc hDc U hU hW⟩⟩ rfl rfl hl.1 rfl (lv_room (Nat.le_of_ble_eq_true rfl)) d_OS_stage_113 ⟨Nat.zero_le _, Nat.zero_le _⟩) 13 18 (w_OS a k zpaths_outer zpaths_count zsteps_targets zsteps_configurations zsteps_runs zsteps_opened zsteps_count zoutputs_contents zoutputs_makers zoutputs_executables zoutputs_lazies u6.1 u6.2.1 u6.2.2.1 u6.2.2.2 zcached_contents zcached_count zholds_contents zholds_count zdirtyMarks_marks zdifferent) hP hD hS hA rfl rfl (fun H locs hP hD hS => ?_)
              refine lv_iconst (v := (1 : Int32)) hx hb d_OS_stage_116 (by decide) ?_
              obtain rfl := Option.some.inj hf
              exact z_iret hx hb hr hP hD hS d_OS_stage_117 hlocks
            · have hf := z_f c6 hf
              refine lv_aload_n hx hb d_OS_stage_87 rfl (lv_at hl 1 rfl) ?_
              refine va_get (D := (dC, dI)) (ci := 6) (v := .ref (a 18)) (C := R_OS) (T := F_OS) (N := 8) hx hb hts (fun w h => List.mem_cons_of_mem _ (in_OS w h)) hown hK hP 0 rfl rfl 4 (by decide) (hts _ (List.mem_cons_of_mem _ k_1_114)) (fun _ h9 => h9) rfl d_OS_stage_88 ?_
              refine lv_lload_n hx hb d_OS_stage_91 rfl (lv_at hl 4 rfl) ?_
              obtain ⟨u7, hu7, hf⟩ := z_b hf
              have hPc := zP_cut (wc := (w_CS (fun i => a (18 + i)) (fun i => k (13 + i)) zcached_contents zcached_count)) 18 20 hP rfl
              have hDc := zD_cut (wc := (w_CS (fun i => a (18 + i)) (fun i => k (13 + i)) zcached_contents zcached_count)) 18 20 hD rfl
              have hKc := hK.sub (tys' := (t_CS (fun i => k (13 + i)))) [13] rfl
              refine z_ci (va_runV (As := [.long p3]) (rest := []) ⟨hx, hb, hml, hown, hts⟩ (c_CS_has l dC dI N (fun i => a (18 + i)) (fun i => k (13 + i)) zcached_contents zcached_count p3 hu7 H.size) (cwV 1 hts (zGV zsub_c k_2_0 k_2_1 k_2_2 k_1_5 kc_CS_has) rfl rfl rfl (by decide +kernel) ⟨Nat.le_of_ble_eq_true rfl, Nat.le_of_ble_eq_true rfl⟩) ⟨z_bl, va_recv hKc hPc (ci := 3) (q0 := 0) rfl rfl, fun U hU hW => ⟨rfl, z_pre hN hKc hPc hDc U hU hW⟩⟩ rfl rfl hl.1 rfl (lv_room (Nat.le_of_ble_eq_true rfl)) d_OS_stage_92 ⟨Nat.zero_le _, Nat.zero_le _⟩) 18 20 (w_OS a k zpaths_outer zpaths_count zsteps_targets zsteps_configurations zsteps_runs zsteps_opened zsteps_count zoutputs_contents zoutputs_makers zoutputs_executables zoutputs_lazies zstaged_contents zstaged_makers zstaged_executables zstaged_lazies zcached_contents zcached_count zholds_contents zholds_count zdirtyMarks_marks zdifferent) hP hD hS hA rfl rfl (fun H locs hP hD hS => ?_)
              refine lv_if_ne (tgt := 101) hx hb d_OS_stage_95 (by decide) (fun c7 => ?_) (fun c7 => ?_)
              · have hf := z_t c7 hf
                refine lv_aload_n hx hb d_OS_stage_101 rfl (lv_at hl 1 rfl) ?_
                refine va_get (D := (dC, dI)) (ci := 6) (v := .ref (a 13)) (C := R_OS) (T := F_OS) (N := 8) hx hb hts (fun w h => List.mem_cons_of_mem _ (in_OS w h)) hown hK hP 0 rfl rfl 3 (by decide) (hts _ (List.mem_cons_of_mem _ k_1_113)) (fun _ h9 => h9) rfl d_OS_stage_102 ?_
                refine lv_iload hx hb d_OS_stage_105 (lv_at hl 0 rfl) ?_
                refine lv_iload_n hx hb d_OS_stage_107 rfl (lv_at hl 2 rfl) ?_
                refine lv_lload_n hx hb d_OS_stage_108 rfl (lv_at hl 4 rfl) ?_
                refine lv_iload hx hb d_OS_stage_109 (lv_at hl 5 rfl) ?_
                refine lv_iload hx hb d_OS_stage_111 (lv_at hl 6 rfl) ?_
                obtain ⟨u8, hu8, hf⟩ := z_b hf
                have hPc := zP_cut (wc := (w_LT (fun i => a (13 + i)) (fun i => k (9 + i)) zstaged_contents zstaged_makers zstaged_executables zstaged_lazies)) 13 18 hP rfl
                have hDc := zD_cut (wc := (w_LT (fun i => a (13 + i)) (fun i => k (9 + i)) zstaged_contents zstaged_makers zstaged_executables zstaged_lazies)) 13 18 hD rfl
                have hKc := hK.sub (tys' := (t_LT (fun i => k (9 + i)))) [9, 10, 11, 12] rfl
                refine z_cv (va_runV (As := [.int u3, .int p1, .long p3, .int p5, .int p6]) (rest := []) ⟨hx, hb, hml, hown, hts⟩ (c_LT_put l dC dI N (fun i => a (13 + i)) (fun i => k (9 + i)) zstaged_contents zstaged_makers zstaged_executables zstaged_lazies u3 p1 p3 p5 p6 hu8 H.size) (cwV 5 hts (zGV zsub_c k_2_7 k_2_8 k_2_9 k_1_4 kc_LT_put) rfl rfl rfl (by decide +kernel) ⟨Nat.le_of_ble_eq_true rfl, Nat.le_of_ble_eq_true rfl⟩) ⟨z_bl, va_recv hKc hPc (ci := 2) (q0 := 0) rfl rfl, fun U hU hW => ⟨rfl, z_pre hN hKc hPc hDc U hU hW⟩⟩ rfl rfl hl.1 rfl (lv_room (Nat.le_of_ble_eq_true rfl)) d_OS_stage_113 ⟨Nat.zero_le _, Nat.zero_le _⟩) 13 18 (w_OS a k zpaths_outer zpaths_count zsteps_targets zsteps_configurations zsteps_runs zsteps_opened zsteps_count zoutputs_contents zoutputs_makers zoutputs_executables zoutputs_lazies u8.1 u8.2.1 u8.2.2.1 u8.2.2.2 zcached_contents zcached_count zholds_contents zholds_count zdirtyMarks_marks zdifferent) hP hD hS hA rfl rfl (fun H locs hP hD hS => ?_)
                refine lv_iconst (v := (1 : Int32)) hx hb d_OS_stage_116 (by decide) ?_
                obtain rfl := Option.some.inj hf
                exact z_iret hx hb hr hP hD hS d_OS_stage_117 hlocks
              · have hf := z_fn c7 hf
                refine lv_bipush (v := (-3 : Int32)) hx hb d_OS_stage_98 (by decide) ?_
                obtain rfl := Option.some.inj hf
                exact z_iret hx hb hr hP hD hS d_OS_stage_100 hlocks
          · have hf := z_f c5 hf
            refine lv_bipush (v := (-2 : Int32)) hx hb d_OS_stage_79 (by decide) ?_
            obtain rfl := Option.some.inj hf
            exact z_iret hx hb hr hP hD hS d_OS_stage_81 hlocks
        · have hf := z_fn c4 hf
          refine lv_aload_n hx hb d_OS_stage_58 rfl (lv_at hl 1 rfl) ?_
          refine lv_iload_n hx hb d_OS_stage_59 rfl (lv_at hl 2 rfl) ?_
          obtain ⟨u9, hu9, hf⟩ := z_b hf
          have hPc := hP
          have hDc := hD
          have hKc := hK
          refine z_cwi (va_runV (As := [.int p1]) (rest := []) ⟨hx, hb, hml, hown, hts⟩ (c_OS_countStaged l dC dI N a k zpaths_outer zpaths_count zsteps_targets zsteps_configurations zsteps_runs zsteps_opened zsteps_count zoutputs_contents zoutputs_makers zoutputs_executables zoutputs_lazies zstaged_contents zstaged_makers zstaged_executables zstaged_lazies zcached_contents zcached_count zholds_contents zholds_count zdirtyMarks_marks zdifferent p1 hu9 H.size) (cwV 1 hts (zGV zsub_c k_1_203 k_1_205 s_OS_countStaged k_1_1 kc_OS_countStaged) rfl rfl rfl (by decide +kernel) ⟨Nat.le_of_ble_eq_true rfl, Nat.le_of_ble_eq_true rfl⟩) ⟨z_bl, va_recv hKc hPc (ci := 6) (q0 := 0) rfl rfl, fun U hU hW => ⟨rfl, z_pre hN hKc hPc hDc U hU hW⟩⟩ rfl rfl hl.1 rfl (lv_room (Nat.le_of_ble_eq_true rfl)) d_OS_stage_60 ⟨Nat.zero_le _, Nat.zero_le _⟩) hD hS hA (fun H locs hP hD hS => ?_)
          refine lv_bipush (v := (nI 12)) hx hb d_OS_stage_63 (by decide) ?_
          refine lv_icmp_lt (tgt := 70) hx hb d_OS_stage_65 (by decide) (fun c8 => ?_) (fun c8 => ?_)
          · have hf := z_t c8 hf
            refine lv_aload_n hx hb d_OS_stage_70 rfl (lv_at hl 1 rfl) ?_
            refine lv_iload_n hx hb d_OS_stage_71 rfl (lv_at hl 2 rfl) ?_
            refine lv_iload_n hx hb d_OS_stage_72 rfl (lv_at hl 3 rfl) ?_
            obtain ⟨u10, hu10, hf⟩ := z_b hf
            have hPc := hP
            have hDc := hD
            have hKc := hK
            refine z_cwi (va_runV (As := [.int p1, .int p2]) (rest := []) ⟨hx, hb, hml, hown, hts⟩ (c_OS_isRefused l dC dI N a k zpaths_outer zpaths_count zsteps_targets zsteps_configurations zsteps_runs zsteps_opened zsteps_count zoutputs_contents zoutputs_makers zoutputs_executables zoutputs_lazies zstaged_contents zstaged_makers zstaged_executables zstaged_lazies zcached_contents zcached_count zholds_contents zholds_count zdirtyMarks_marks zdifferent p1 p2 hu10 H.size) (cwV 2 hts (zGV zsub_c k_1_207 k_1_209 s_OS_isRefused k_1_1 kc_OS_isRefused) rfl rfl rfl (by decide +kernel) ⟨Nat.le_of_ble_eq_true rfl, Nat.le_of_ble_eq_true rfl⟩) ⟨z_bl, va_recv hKc hPc (ci := 6) (q0 := 0) rfl rfl, fun U hU hW => ⟨rfl, z_pre hN hKc hPc hDc U hU hW⟩⟩ rfl rfl hl.1 rfl (lv_room (Nat.le_of_ble_eq_true rfl)) d_OS_stage_73 ⟨Nat.zero_le _, Nat.zero_le _⟩) hD hS hA (fun H locs hP hD hS => ?_)
            refine lv_if_eq (tgt := 82) hx hb d_OS_stage_76 (by decide) (fun c9 => ?_) (fun c9 => ?_)
            · have hf := z_t c9 hf
              refine lv_iload hx hb d_OS_stage_82 (lv_at hl 6 rfl) ?_
              refine lv_if_eq (tgt := 101) hx hb d_OS_stage_84 (by decide) (fun c10 => ?_) (fun c10 => ?_)
              · have hf := z_t c10 hf
                refine lv_aload_n hx hb d_OS_stage_101 rfl (lv_at hl 1 rfl) ?_
                refine va_get (D := (dC, dI)) (ci := 6) (v := .ref (a 13)) (C := R_OS) (T := F_OS) (N := 8) hx hb hts (fun w h => List.mem_cons_of_mem _ (in_OS w h)) hown hK hP 0 rfl rfl 3 (by decide) (hts _ (List.mem_cons_of_mem _ k_1_113)) (fun _ h9 => h9) rfl d_OS_stage_102 ?_
                refine lv_iload hx hb d_OS_stage_105 (lv_at hl 0 rfl) ?_
                refine lv_iload_n hx hb d_OS_stage_107 rfl (lv_at hl 2 rfl) ?_
                refine lv_lload_n hx hb d_OS_stage_108 rfl (lv_at hl 4 rfl) ?_
                refine lv_iload hx hb d_OS_stage_109 (lv_at hl 5 rfl) ?_
                refine lv_iload hx hb d_OS_stage_111 (lv_at hl 6 rfl) ?_
                obtain ⟨u11, hu11, hf⟩ := z_b hf
                have hPc := zP_cut (wc := (w_LT (fun i => a (13 + i)) (fun i => k (9 + i)) zstaged_contents zstaged_makers zstaged_executables zstaged_lazies)) 13 18 hP rfl
                have hDc := zD_cut (wc := (w_LT (fun i => a (13 + i)) (fun i => k (9 + i)) zstaged_contents zstaged_makers zstaged_executables zstaged_lazies)) 13 18 hD rfl
                have hKc := hK.sub (tys' := (t_LT (fun i => k (9 + i)))) [9, 10, 11, 12] rfl
                refine z_cv (va_runV (As := [.int u3, .int p1, .long p3, .int p5, .int p6]) (rest := []) ⟨hx, hb, hml, hown, hts⟩ (c_LT_put l dC dI N (fun i => a (13 + i)) (fun i => k (9 + i)) zstaged_contents zstaged_makers zstaged_executables zstaged_lazies u3 p1 p3 p5 p6 hu11 H.size) (cwV 5 hts (zGV zsub_c k_2_7 k_2_8 k_2_9 k_1_4 kc_LT_put) rfl rfl rfl (by decide +kernel) ⟨Nat.le_of_ble_eq_true rfl, Nat.le_of_ble_eq_true rfl⟩) ⟨z_bl, va_recv hKc hPc (ci := 2) (q0 := 0) rfl rfl, fun U hU hW => ⟨rfl, z_pre hN hKc hPc hDc U hU hW⟩⟩ rfl rfl hl.1 rfl (lv_room (Nat.le_of_ble_eq_true rfl)) d_OS_stage_113 ⟨Nat.zero_le _, Nat.zero_le _⟩) 13 18 (w_OS a k zpaths_outer zpaths_count zsteps_targets zsteps_configurations zsteps_runs zsteps_opened zsteps_count zoutputs_contents zoutputs_makers zoutputs_executables zoutputs_lazies u11.1 u11.2.1 u11.2.2.1 u11.2.2.2 zcached_contents zcached_count zholds_contents zholds_count zdirtyMarks_marks zdifferent) hP hD hS hA rfl rfl (fun H locs hP hD hS => ?_)
                refine lv_iconst (v := (1 : Int32)) hx hb d_OS_stage_116 (by decide) ?_
                obtain rfl := Option.some.inj hf
                exact z_iret hx hb hr hP hD hS d_OS_stage_117 hlocks
              · have hf := z_f c10 hf
                refine lv_aload_n hx hb d_OS_stage_87 rfl (lv_at hl 1 rfl) ?_
                refine va_get (D := (dC, dI)) (ci := 6) (v := .ref (a 18)) (C := R_OS) (T := F_OS) (N := 8) hx hb hts (fun w h => List.mem_cons_of_mem _ (in_OS w h)) hown hK hP 0 rfl rfl 4 (by decide) (hts _ (List.mem_cons_of_mem _ k_1_114)) (fun _ h9 => h9) rfl d_OS_stage_88 ?_
                refine lv_lload_n hx hb d_OS_stage_91 rfl (lv_at hl 4 rfl) ?_
                obtain ⟨u12, hu12, hf⟩ := z_b hf
                have hPc := zP_cut (wc := (w_CS (fun i => a (18 + i)) (fun i => k (13 + i)) zcached_contents zcached_count)) 18 20 hP rfl
                have hDc := zD_cut (wc := (w_CS (fun i => a (18 + i)) (fun i => k (13 + i)) zcached_contents zcached_count)) 18 20 hD rfl
                have hKc := hK.sub (tys' := (t_CS (fun i => k (13 + i)))) [13] rfl
                refine z_ci (va_runV (As := [.long p3]) (rest := []) ⟨hx, hb, hml, hown, hts⟩ (c_CS_has l dC dI N (fun i => a (18 + i)) (fun i => k (13 + i)) zcached_contents zcached_count p3 hu12 H.size) (cwV 1 hts (zGV zsub_c k_2_0 k_2_1 k_2_2 k_1_5 kc_CS_has) rfl rfl rfl (by decide +kernel) ⟨Nat.le_of_ble_eq_true rfl, Nat.le_of_ble_eq_true rfl⟩) ⟨z_bl, va_recv hKc hPc (ci := 3) (q0 := 0) rfl rfl, fun U hU hW => ⟨rfl, z_pre hN hKc hPc hDc U hU hW⟩⟩ rfl rfl hl.1 rfl (lv_room (Nat.le_of_ble_eq_true rfl)) d_OS_stage_92 ⟨Nat.zero_le _, Nat.zero_le _⟩) 18 20 (w_OS a k zpaths_outer zpaths_count zsteps_targets zsteps_configurations zsteps_runs zsteps_opened zsteps_count zoutputs_contents zoutputs_makers zoutputs_executables zoutputs_lazies zstaged_contents zstaged_makers zstaged_executables zstaged_lazies zcached_contents zcached_count zholds_contents zholds_count zdirtyMarks_marks zdifferent) hP hD hS hA rfl rfl (fun H locs hP hD hS => ?_)
                refine lv_if_ne (tgt := 101) hx hb d_OS_stage_95 (by decide) (fun c11 => ?_) (fun c11 => ?_)
                · have hf := z_t c11 hf
                  refine lv_aload_n hx hb d_OS_stage_101 rfl (lv_at hl 1 rfl) ?_
                  refine va_get (D := (dC, dI)) (ci := 6) (v := .ref (a 13)) (C := R_OS) (T := F_OS) (N := 8) hx hb hts (fun w h => List.mem_cons_of_mem _ (in_OS w h)) hown hK hP 0 rfl rfl 3 (by decide) (hts _ (List.mem_cons_of_mem _ k_1_113)) (fun _ h9 => h9) rfl d_OS_stage_102 ?_
                  refine lv_iload hx hb d_OS_stage_105 (lv_at hl 0 rfl) ?_
                  refine lv_iload_n hx hb d_OS_stage_107 rfl (lv_at hl 2 rfl) ?_
                  refine lv_lload_n hx hb d_OS_stage_108 rfl (lv_at hl 4 rfl) ?_
                  refine lv_iload hx hb d_OS_stage_109 (lv_at hl 5 rfl) ?_
                  refine lv_iload hx hb d_OS_stage_111 (lv_at hl 6 rfl) ?_
                  obtain ⟨u13, hu13, hf⟩ := z_b hf
                  have hPc := zP_cut (wc := (w_LT (fun i => a (13 + i)) (fun i => k (9 + i)) zstaged_contents zstaged_makers zstaged_executables zstaged_lazies)) 13 18 hP rfl
                  have hDc := zD_cut (wc := (w_LT (fun i => a (13 + i)) (fun i => k (9 + i)) zstaged_contents zstaged_makers zstaged_executables zstaged_lazies)) 13 18 hD rfl
                  have hKc := hK.sub (tys' := (t_LT (fun i => k (9 + i)))) [9, 10, 11, 12] rfl
                  refine z_cv (va_runV (As := [.int u3, .int p1, .long p3, .int p5, .int p6]) (rest := []) ⟨hx, hb, hml, hown, hts⟩ (c_LT_put l dC dI N (fun i => a (13 + i)) (fun i => k (9 + i)) zstaged_contents zstaged_makers zstaged_executables zstaged_lazies u3 p1 p3 p5 p6 hu13 H.size) (cwV 5 hts (zGV zsub_c k_2_7 k_2_8 k_2_9 k_1_4 kc_LT_put) rfl rfl rfl (by decide +kernel) ⟨Nat.le_of_ble_eq_true rfl, Nat.le_of_ble_eq_true rfl⟩) ⟨z_bl, va_recv hKc hPc (ci := 2) (q0 := 0) rfl rfl, fun U hU hW => ⟨rfl, z_pre hN hKc hPc hDc U hU hW⟩⟩ rfl rfl hl.1 rfl (lv_room (Nat.le_of_ble_eq_true rfl)) d_OS_stage_113 ⟨Nat.zero_le _, Nat.zero_le _⟩) 13 18 (w_OS a k zpaths_outer zpaths_count zsteps_targets zsteps_configurations zsteps_runs zsteps_opened zsteps_count zoutputs_contents zoutputs_makers zoutputs_executables zoutputs_lazies u13.1 u13.2.1 u13.2.2.1 u13.2.2.2 zcached_contents zcached_count zholds_contents zholds_count zdirtyMarks_marks zdifferent) hP hD hS hA rfl rfl (fun H locs hP hD hS => ?_)
                  refine lv_iconst (v := (1 : Int32)) hx hb d_OS_stage_116 (by decide) ?_
                  obtain rfl := Option.some.inj hf
                  exact z_iret hx hb hr hP hD hS d_OS_stage_117 hlocks
                · have hf := z_fn c11 hf
                  refine lv_bipush (v := (-3 : Int32)) hx hb d_OS_stage_98 (by decide) ?_
                  obtain rfl := Option.some.inj hf
                  exact z_iret hx hb hr hP hD hS d_OS_stage_100 hlocks
            · have hf := z_f c9 hf
              refine lv_bipush (v := (-2 : Int32)) hx hb d_OS_stage_79 (by decide) ?_
              obtain rfl := Option.some.inj hf
              exact z_iret hx hb hr hP hD hS d_OS_stage_81 hlocks
          · have hf := z_f c8 hf
            refine lv_iconst (v := (-1 : Int32)) hx hb d_OS_stage_68 (by decide) ?_
            obtain rfl := Option.some.inj hf
            exact z_iret hx hb hr hP hD hS d_OS_stage_69 hlocks
      · have hf := z_fn c3 hf
        refine lv_iconst (v := (-1 : Int32)) hx hb d_OS_stage_28 (by decide) ?_
        obtain rfl := Option.some.inj hf
        exact z_iret hx hb hr hP hD hS d_OS_stage_29 hlocks
set_option maxHeartbeats 4000000 in
set_option maxRecDepth 100000 in
theorem c_OS_end (l : Launch) (dC : Nat → ClassId) (dI : Nat → Nat → Nat) (N : Nat) (a : Nat → Nat) (k : Nat → ClassId) (zpaths_outer : Nat → Int32) (zpaths_count : Int32) (zsteps_targets : Nat → Int32) (zsteps_configurations : Nat → Int32) (zsteps_runs : Nat → Int32) (zsteps_opened : Nat → Int32) (zsteps_count : Int32) (zoutputs_contents : Nat → Int64) (zoutputs_makers : Nat → Int32) (zoutputs_executables : Nat → Int32) (zoutputs_lazies : Nat → Int32) (zstaged_contents : Nat → Int64) (zstaged_makers : Nat → Int32) (zstaged_executables : Nat → Int32) (zstaged_lazies : Nat → Int32) (zcached_contents : Nat → Int64) (zcached_count : Int32) (zholds_contents : Nat → Int64) (zholds_count : Int32) (zdirtyMarks_marks : Nat → Int32) (zdifferent : Nat → Int64) (p1 : Int32) (p2 : Int32) {y : (Int32 × (Nat → Int32) × (Nat → Int64) × (Nat → Int32) × (Nat → Int32) × (Nat → Int32) × (Nat → Int64) × (Nat → Int32))} (hf : pf_OS_end N zpaths_count zsteps_targets zsteps_configurations zsteps_opened zsteps_count zoutputs_contents zoutputs_makers zoutputs_executables zoutputs_lazies zstaged_contents zstaged_makers zstaged_executables zstaged_lazies zdirtyMarks_marks p1 p2 = some y) (sz : Nat) : Met l y_OS_end ww_OS_end ({ frames := 4, cells := 0, slots := 0, locals := 89 }) (va_Pc [.ref (a 0), .int p1, .int p2] (zB (dC, dI) zCl (t_OS k) (w_OS a k zpaths_outer zpaths_count zsteps_targets zsteps_configurations zsteps_runs zsteps_opened zsteps_count zoutputs_contents zoutputs_makers zoutputs_executables zoutputs_lazies zstaged_contents zstaged_makers zstaged_executables zstaged_lazies zcached_contents zcached_count zholds_contents zholds_count zdirtyMarks_marks zdifferent) sz)) (zQi (dC, dI) zCl (w_OS a k zpaths_outer zpaths_count zsteps_targets zsteps_configurations zsteps_runs zsteps_opened zsteps_count zoutputs_contents zoutputs_makers zoutputs_executables zoutputs_lazies zstaged_contents zstaged_makers zstaged_executables zstaged_lazies zcached_contents zcached_count zholds_contents zholds_count zdirtyMarks_marks zdifferent) sz y.1 (w_OS a k zpaths_outer zpaths_count zsteps_targets zsteps_configurations zsteps_runs y.2.1 zsteps_count y.2.2.1 y.2.2.2.1 y.2.2.2.2.1 y.2.2.2.2.2.1 y.2.2.2.2.2.2.1 zstaged_makers zstaged_executables zstaged_lazies zcached_contents zcached_count zholds_contents zholds_count y.2.2.2.2.2.2.2 zdifferent)) 0 0 (va_A (w_OS a k zpaths_outer zpaths_count zsteps_targets zsteps_configurations zsteps_runs zsteps_opened zsteps_count zoutputs_contents zoutputs_makers zoutputs_executables zoutputs_lazies zstaged_contents zstaged_makers zstaged_executables zstaged_lazies zcached_contents zcached_count zholds_contents zholds_count zdirtyMarks_marks zdifferent) sz) := by
  refine Met.ofW (cc := b_OS_end) (maxL := 4) (ret := (some .int)) (by decide) rfl ?_
  intro p e s m args below meth c s₁ B hml hv
  obtain ⟨rfl, rfl, hP, hK, hD, hN⟩ := hv
  have hx := B.exec
  have hb := B.bytes
  have hr := B.returns
  have hts := atoms_spec (ws := ww_OS_end) B.pre
  have hown : s.vm.findClass R_OS = some m.cls := findClass_of_methodNamed B.named
  have hlocks := B.notSynchronized
  have hA : ∀ q : Nat, s.heap.size ≤ q → va_A (w_OS a k zpaths_outer zpaths_count zsteps_targets zsteps_configurations zsteps_runs zsteps_opened zsteps_count zoutputs_contents zoutputs_makers zoutputs_executables zoutputs_lazies zstaged_contents zstaged_makers zstaged_executables zstaged_lazies zcached_contents zcached_count zholds_contents zholds_count zdirtyMarks_marks zdifferent) s.heap.size q := fun q h => Or.inr h
  refine z_start (lv := [(0, .ref (a 0)), (1, .int p1), (2, .int p2)]) (Nat.le_of_ble_eq_true rfl) rfl hP hD (fun H locs ls hP hD hS hl => ?_)
  unfold pf_OS_end at hf
  refine lv_aload_n hx hb d_OS_end_0 rfl (lv_at hl 0 rfl) ?_
  refine va_get (D := (dC, dI)) (ci := 6) (v := .ref (a 3)) (C := R_OS) (T := F_OS) (N := 8) hx hb hts (fun w h => List.mem_cons_of_mem _ (in_OS w h)) hown hK hP 0 rfl rfl 1 (by decide) (hts _ (List.mem_cons_of_mem _ k_1_111)) (fun _ h9 => h9) rfl d_OS_end_1 ?_
  refine lv_iload_n hx hb d_OS_end_4 rfl (lv_at hl 1 rfl) ?_
  obtain ⟨u0, hu0, hf⟩ := z_b hf
  have hPc := zP_cut (wc := (w_SB (fun i => a (3 + i)) (fun i => k (1 + i)) zsteps_targets zsteps_configurations zsteps_runs zsteps_opened zsteps_count)) 3 8 hP rfl
  have hDc := zD_cut (wc := (w_SB (fun i => a (3 + i)) (fun i => k (1 + i)) zsteps_targets zsteps_configurations zsteps_runs zsteps_opened zsteps_count)) 3 8 hD rfl
  have hKc := hK.sub (tys' := (t_SB (fun i => k (1 + i)))) [1, 2, 3, 4] rfl
  refine z_ci (va_runV (As := [.int p1]) (rest := []) ⟨hx, hb, hml, hown, hts⟩ (c_SB_isOpen l dC dI N (fun i => a (3 + i)) (fun i => k (1 + i)) zsteps_targets zsteps_configurations zsteps_runs zsteps_opened zsteps_count p1 hu0 H.size) (cwV 1 hts (zGV zsub_c k_1_185 k_1_169 k_1_170 k_1_3 kc_SB_isOpen) rfl rfl rfl (by decide +kernel) ⟨Nat.le_of_ble_eq_true rfl, Nat.le_of_ble_eq_true rfl⟩) ⟨z_bl, va_recv hKc hPc (ci := 1) (q0 := 0) rfl rfl, fun U hU hW => ⟨rfl, z_pre hN hKc hPc hDc U hU hW⟩⟩ rfl rfl hl.1 rfl (lv_room (Nat.le_of_ble_eq_true rfl)) d_OS_end_5 ⟨Nat.zero_le _, Nat.zero_le _⟩) 3 8 (w_OS a k zpaths_outer zpaths_count zsteps_targets zsteps_configurations zsteps_runs zsteps_opened zsteps_count zoutputs_contents zoutputs_makers zoutputs_executables zoutputs_lazies zstaged_contents zstaged_makers zstaged_executables zstaged_lazies zcached_contents zcached_count zholds_contents zholds_count zdirtyMarks_marks zdifferent) hP hD hS hA rfl rfl (fun H locs hP hD hS => ?_)
  refine lv_if_ne (tgt := 13) hx hb d_OS_end_8 (by decide) (fun c1 => ?_) (fun c1 => ?_)
  · have hf := z_t c1 hf
    refine lv_iload_n hx hb d_OS_end_13 rfl (lv_at hl 2 rfl) ?_
    refine lv_if_eq (tgt := 25) hx hb d_OS_end_14 (by decide) (fun c2 => ?_) (fun c2 => ?_)
    · have hf := z_t c2 hf
      refine lv_iconst (v := (0 : Int32)) hx hb d_OS_end_25 (by decide) ?_
      refine lv_istore_n (lv' := [(3, .int (0 : Int32)), (0, .ref (a 0)), (1, .int p1), (2, .int p2)]) hx hb d_OS_end_26 rfl hl (by decide) rfl (fun ls hl => ?_)
      refine lv_aload_n hx hb d_OS_end_27 rfl (lv_at hl 1 rfl) ?_
      refine lv_iload_n hx hb d_OS_end_28 rfl (lv_at hl 2 rfl) ?_
      obtain ⟨u1, hu1, hf⟩ := z_b hf
      have hPc := hP
      have hDc := hD
      have hKc := hK
      refine z_cwv (va_runV (As := [.int p1]) (rest := []) ⟨hx, hb, hml, hown, hts⟩ (c_OS_dropStaged l dC dI N a k zpaths_outer zpaths_count zsteps_targets zsteps_configurations zsteps_runs zsteps_opened zsteps_count zoutputs_contents zoutputs_makers zoutputs_executables zoutputs_lazies zstaged_contents zstaged_makers zstaged_executables zstaged_lazies zcached_contents zcached_count zholds_contents zholds_count zdirtyMarks_marks zdifferent p1 hu1 H.size) (cwV 1 hts (zGV zsub_c k_2_41 k_2_43 s_OS_dropStaged k_1_1 kc_OS_dropStaged) rfl rfl rfl (by decide +kernel) ⟨Nat.le_of_ble_eq_true rfl, Nat.le_of_ble_eq_true rfl⟩) ⟨z_bl, va_recv hKc hPc (ci := 6) (q0 := 0) rfl rfl, fun U hU hW => ⟨rfl, z_pre hN hKc hPc hDc U hU hW⟩⟩ rfl rfl hl.1 rfl (lv_room (Nat.le_of_ble_eq_true rfl)) d_OS_end_29 ⟨Nat.zero_le _, Nat.zero_le _⟩) hD hS hA (fun H locs hP hD hS => ?_)
      refine lv_aload_n hx hb d_OS_end_32 rfl (lv_at hl 1 rfl) ?_
      refine va_get (D := (dC, dI)) (ci := 6) (v := .ref (a 3)) (C := R_OS) (T := F_OS) (N := 8) hx hb hts (fun w h => List.mem_cons_of_mem _ (in_OS w h)) hown hK hP 0 rfl rfl 1 (by decide) (hts _ (List.mem_cons_of_mem _ k_1_111)) (fun _ h9 => h9) rfl d_OS_end_33 ?_
      refine lv_iload_n hx hb d_OS_end_36 rfl (lv_at hl 2 rfl) ?_
      obtain ⟨u2, hu2, hf⟩ := z_b hf
      have hPc := zP_cut (wc := (w_SB (fun i => a (3 + i)) (fun i => k (1 + i)) zsteps_targets zsteps_configurations zsteps_runs zsteps_opened zsteps_count)) 3 8 hP rfl
      have hDc := zD_cut (wc := (w_SB (fun i => a (3 + i)) (fun i => k (1 + i)) zsteps_targets zsteps_configurations zsteps_runs zsteps_opened zsteps_count)) 3 8 hD rfl
      have hKc := hK.sub (tys' := (t_SB (fun i => k (1 + i)))) [1, 2, 3, 4] rfl
      refine z_cv (va_runV (As := [.int p1]) (rest := []) ⟨hx, hb, hml, hown, hts⟩ (c_SB_close l dC dI N (fun i => a (3 + i)) (fun i => k (1 + i)) zsteps_targets zsteps_configurations zsteps_runs zsteps_opened zsteps_count p1 hu2 H.size) (cwV 1 hts (zGV zsub_c k_2_45 k_2_46 k_2_47 k_1_3 kc_SB_close) rfl rfl rfl (by decide +kernel) ⟨Nat.le_of_ble_eq_true rfl, Nat.le_of_ble_eq_true rfl⟩) ⟨z_bl, va_recv hKc hPc (ci := 1) (q0 := 0) rfl rfl, fun U hU hW => ⟨rfl, z_pre hN hKc hPc hDc U hU hW⟩⟩ rfl rfl hl.1 rfl (lv_room (Nat.le_of_ble_eq_true rfl)) d_OS_end_37 ⟨Nat.zero_le _, Nat.zero_le _⟩) 3 8 (w_OS a k zpaths_outer zpaths_count zsteps_targets zsteps_configurations zsteps_runs u2 zsteps_count zoutputs_contents zoutputs_makers zoutputs_executables zoutputs_lazies u1 zstaged_makers zstaged_executables zstaged_lazies zcached_contents zcached_count zholds_contents zholds_count zdirtyMarks_marks zdifferent) hP hD hS hA rfl rfl (fun H locs hP hD hS => ?_)
      refine lv_iload_n hx hb d_OS_end_40 rfl (lv_at hl 0 rfl) ?_
      obtain rfl := Option.some.inj hf
      exact z_iret hx hb hr hP hD hS d_OS_end_41 hlocks
    · have hf := z_f c2 hf
      refine lv_aload_n hx hb d_OS_end_17 rfl (lv_at hl 0 rfl) ?_
      refine lv_iload_n hx hb d_OS_end_18 rfl (lv_at hl 1 rfl) ?_
      obtain ⟨u3, hu3, hf⟩ := z_b hf
      have hPc := hP
      have hDc := hD
      have hKc := hK
      refine z_cwi (va_runV (As := [.int p1]) (rest := []) ⟨hx, hb, hml, hown, hts⟩ (c_OS_replaceOutputs l dC dI N a k zpaths_outer zpaths_count zsteps_targets zsteps_configurations zsteps_runs zsteps_opened zsteps_count zoutputs_contents zoutputs_makers zoutputs_executables zoutputs_lazies zstaged_contents zstaged_makers zstaged_executables zstaged_lazies zcached_contents zcached_count zholds_contents zholds_count zdirtyMarks_marks zdifferent p1 hu3 H.size) (cwV 1 hts (zGV zsub_c k_2_15 k_2_17 s_OS_replaceOutputs k_1_1 kc_OS_replaceOutputs) rfl rfl rfl (by decide +kernel) ⟨Nat.le_of_ble_eq_true rfl, Nat.le_of_ble_eq_true rfl⟩) ⟨z_bl, va_recv hKc hPc (ci := 6) (q0 := 0) rfl rfl, fun U hU hW => ⟨rfl, z_pre hN hKc hPc hDc U hU hW⟩⟩ rfl rfl hl.1 rfl (lv_room (Nat.le_of_ble_eq_true rfl)) d_OS_end_19 ⟨Nat.zero_le _, Nat.zero_le _⟩) hD hS hA (fun H locs hP hD hS => ?_)
      refine lv_goto (tgt := 26) hx hb d_OS_end_22 (by decide) ?_
      refine lv_istore_n (lv' := [(3, .int u3.1), (0, .ref (a 0)), (1, .int p1), (2, .int p2)]) hx hb d_OS_end_26 rfl hl (by decide) rfl (fun ls hl => ?_)
      refine lv_aload_n hx hb d_OS_end_27 rfl (lv_at hl 1 rfl) ?_
      refine lv_iload_n hx hb d_OS_end_28 rfl (lv_at hl 2 rfl) ?_
      obtain ⟨u4, hu4, hf⟩ := z_b hf
      have hPc := hP
      have hDc := hD
      have hKc := hK
      refine z_cwv (va_runV (As := [.int p1]) (rest := []) ⟨hx, hb, hml, hown, hts⟩ (c_OS_dropStaged l dC dI N a k zpaths_outer zpaths_count zsteps_targets zsteps_configurations zsteps_runs zsteps_opened zsteps_count u3.2.1 u3.2.2.1 u3.2.2.2.1 u3.2.2.2.2.1 zstaged_contents zstaged_makers zstaged_executables zstaged_lazies zcached_contents zcached_count zholds_contents zholds_count u3.2.2.2.2.2 zdifferent p1 hu4 H.size) (cwV 1 hts (zGV zsub_c k_2_41 k_2_43 s_OS_dropStaged k_1_1 kc_OS_dropStaged) rfl rfl rfl (by decide +kernel) ⟨Nat.le_of_ble_eq_true rfl, Nat.le_of_ble_eq_true rfl⟩) ⟨z_bl, va_recv hKc hPc (ci := 6) (q0 := 0) rfl rfl, fun U hU hW => ⟨rfl, z_pre hN hKc hPc hDc U hU hW⟩⟩ rfl rfl hl.1 rfl (lv_room (Nat.le_of_ble_eq_true rfl)) d_OS_end_29 ⟨Nat.zero_le _, Nat.zero_le _⟩) hD hS hA (fun H locs hP hD hS => ?_)
      refine lv_aload_n hx hb d_OS_end_32 rfl (lv_at hl 1 rfl) ?_
      refine va_get (D := (dC, dI)) (ci := 6) (v := .ref (a 3)) (C := R_OS) (T := F_OS) (N := 8) hx hb hts (fun w h => List.mem_cons_of_mem _ (in_OS w h)) hown hK hP 0 rfl rfl 1 (by decide) (hts _ (List.mem_cons_of_mem _ k_1_111)) (fun _ h9 => h9) rfl d_OS_end_33 ?_
      refine lv_iload_n hx hb d_OS_end_36 rfl (lv_at hl 2 rfl) ?_
      obtain ⟨u5, hu5, hf⟩ := z_b hf
      have hPc := zP_cut (wc := (w_SB (fun i => a (3 + i)) (fun i => k (1 + i)) zsteps_targets zsteps_configurations zsteps_runs zsteps_opened zsteps_count)) 3 8 hP rfl
      have hDc := zD_cut (wc := (w_SB (fun i => a (3 + i)) (fun i => k (1 + i)) zsteps_targets zsteps_configurations zsteps_runs zsteps_opened zsteps_count)) 3 8 hD rfl
      have hKc := hK.sub (tys' := (t_SB (fun i => k (1 + i)))) [1, 2, 3, 4] rfl
      refine z_cv (va_runV (As := [.int p1]) (rest := []) ⟨hx, hb, hml, hown, hts⟩ (c_SB_close l dC dI N (fun i => a (3 + i)) (fun i => k (1 + i)) zsteps_targets zsteps_configurations zsteps_runs zsteps_opened zsteps_count p1 hu5 H.size) (cwV 1 hts (zGV zsub_c k_2_45 k_2_46 k_2_47 k_1_3 kc_SB_close) rfl rfl rfl (by decide +kernel) ⟨Nat.le_of_ble_eq_true rfl, Nat.le_of_ble_eq_true rfl⟩) ⟨z_bl, va_recv hKc hPc (ci := 1) (q0 := 0) rfl rfl, fun U hU hW => ⟨rfl, z_pre hN hKc hPc hDc U hU hW⟩⟩ rfl rfl hl.1 rfl (lv_room (Nat.le_of_ble_eq_true rfl)) d_OS_end_37 ⟨Nat.zero_le _, Nat.zero_le _⟩) 3 8 (w_OS a k zpaths_outer zpaths_count zsteps_targets zsteps_configurations zsteps_runs u5 zsteps_count u3.2.1 u3.2.2.1 u3.2.2.2.1 u3.2.2.2.2.1 u4 zstaged_makers zstaged_executables zstaged_lazies zcached_contents zcached_count zholds_contents zholds_count u3.2.2.2.2.2 zdifferent) hP hD hS hA rfl rfl (fun H locs hP hD hS => ?_)
      refine lv_iload_n hx hb d_OS_end_40 rfl (lv_at hl 0 rfl) ?_
      obtain rfl := Option.some.inj hf
      exact z_iret hx hb hr hP hD hS d_OS_end_41 hlocks
  · have hf := z_fn c1 hf
    refine lv_iconst (v := (-1 : Int32)) hx hb d_OS_end_11 (by decide) ?_
    obtain rfl := Option.some.inj hf
    exact z_iret hx hb hr hP hD hS d_OS_end_12 hlocks
set_option maxHeartbeats 4000000 in
set_option maxRecDepth 100000 in
theorem c_OS_abandon (l : Launch) (dC : Nat → ClassId) (dI : Nat → Nat → Nat) (N : Nat) (a : Nat → Nat) (k : Nat → ClassId) (zpaths_outer : Nat → Int32) (zpaths_count : Int32) (zsteps_targets : Nat → Int32) (zsteps_configurations : Nat → Int32) (zsteps_runs : Nat → Int32) (zsteps_opened : Nat → Int32) (zsteps_count : Int32) (zoutputs_contents : Nat → Int64) (zoutputs_makers : Nat → Int32) (zoutputs_executables : Nat → Int32) (zoutputs_lazies : Nat → Int32) (zstaged_contents : Nat → Int64) (zstaged_makers : Nat → Int32) (zstaged_executables : Nat → Int32) (zstaged_lazies : Nat → Int32) (zcached_contents : Nat → Int64) (zcached_count : Int32) (zholds_contents : Nat → Int64) (zholds_count : Int32) (zdirtyMarks_marks : Nat → Int32) (zdifferent : Nat → Int64) (p1 : Int32) {y : (Int32 × (Nat → Int32) × (Nat → Int64))} (hf : pf_OS_abandon N zpaths_count zsteps_configurations zsteps_runs zsteps_opened zsteps_count zstaged_contents zstaged_makers p1 = some y) (sz : Nat) : Met l y_OS_abandon ww_OS_abandon ({ frames := 3, cells := 0, slots := 0, locals := 67 }) (va_Pc [.ref (a 0), .int p1] (zB (dC, dI) zCl (t_OS k) (w_OS a k zpaths_outer zpaths_count zsteps_targets zsteps_configurations zsteps_runs zsteps_opened zsteps_count zoutputs_contents zoutputs_makers zoutputs_executables zoutputs_lazies zstaged_contents zstaged_makers zstaged_executables zstaged_lazies zcached_contents zcached_count zholds_contents zholds_count zdirtyMarks_marks zdifferent) sz)) (zQi (dC, dI) zCl (w_OS a k zpaths_outer zpaths_count zsteps_targets zsteps_configurations zsteps_runs zsteps_opened zsteps_count zoutputs_contents zoutputs_makers zoutputs_executables zoutputs_lazies zstaged_contents zstaged_makers zstaged_executables zstaged_lazies zcached_contents zcached_count zholds_contents zholds_count zdirtyMarks_marks zdifferent) sz y.1 (w_OS a k zpaths_outer zpaths_count zsteps_targets zsteps_configurations zsteps_runs y.2.1 zsteps_count zoutputs_contents zoutputs_makers zoutputs_executables zoutputs_lazies y.2.2 zstaged_makers zstaged_executables zstaged_lazies zcached_contents zcached_count zholds_contents zholds_count zdirtyMarks_marks zdifferent)) 0 0 (va_A (w_OS a k zpaths_outer zpaths_count zsteps_targets zsteps_configurations zsteps_runs zsteps_opened zsteps_count zoutputs_contents zoutputs_makers zoutputs_executables zoutputs_lazies zstaged_contents zstaged_makers zstaged_executables zstaged_lazies zcached_contents zcached_count zholds_contents zholds_count zdirtyMarks_marks zdifferent) sz) := by
  refine Met.ofW (cc := b_OS_abandon) (maxL := 4) (ret := (some .int)) (by decide) rfl ?_
  intro p e s m args below meth c s₁ B hml hv
  obtain ⟨rfl, rfl, hP, hK, hD, hN⟩ := hv
  have hx := B.exec
  have hb := B.bytes
  have hr := B.returns
  have hts := atoms_spec (ws := ww_OS_abandon) B.pre
  have hown : s.vm.findClass R_OS = some m.cls := findClass_of_methodNamed B.named
  have hlocks := B.notSynchronized
  have hA : ∀ q : Nat, s.heap.size ≤ q → va_A (w_OS a k zpaths_outer zpaths_count zsteps_targets zsteps_configurations zsteps_runs zsteps_opened zsteps_count zoutputs_contents zoutputs_makers zoutputs_executables zoutputs_lazies zstaged_contents zstaged_makers zstaged_executables zstaged_lazies zcached_contents zcached_count zholds_contents zholds_count zdirtyMarks_marks zdifferent) s.heap.size q := fun q h => Or.inr h
  refine z_start (lv := [(0, .ref (a 0)), (1, .int p1)]) (Nat.le_of_ble_eq_true rfl) rfl hP hD (fun H locs ls hP hD hS hl => ?_)
  unfold pf_OS_abandon at hf
  refine lv_iload_n hx hb d_OS_abandon_0 rfl (lv_at hl 1 rfl) ?_
  obtain ⟨u0, hu0, hf⟩ := z_b hf
  have hPc := zP_cut (wc := ([] : va_W)) 0 0 hP rfl
  have hDc := zD_cut (wc := ([] : va_W)) 0 0 hD rfl
  have hKc := hK.sub (tys' := ([] : List (ClassId × FieldType))) [] rfl
  refine z_ci (va_runS (As := [.int p1]) (rest := []) ⟨hx, hb, hml, hown, hts⟩ (c_OS_isRun l dC dI N (fun i => a (0 + i)) (fun i => k (0 + i)) p1 hu0 H.size) (cwS 1 hts (zGS zsub_c k_1_157 k_1_158 k_1_1 kc_OS_isRun) rfl rfl rfl (by decide +kernel) ⟨Nat.le_of_ble_eq_true rfl, Nat.le_of_ble_eq_true rfl⟩) ⟨z_bl, fun U hU hW => ⟨rfl, z_pre hN hKc hPc hDc U hU hW⟩⟩ rfl rfl hl.1 rfl (lv_room (Nat.le_of_ble_eq_true rfl)) d_OS_abandon_1 ⟨Nat.zero_le _, Nat.zero_le _⟩) 0 0 (w_OS a k zpaths_outer zpaths_count zsteps_targets zsteps_configurations zsteps_runs zsteps_opened zsteps_count zoutputs_contents zoutputs_makers zoutputs_executables zoutputs_lazies zstaged_contents zstaged_makers zstaged_executables zstaged_lazies zcached_contents zcached_count zholds_contents zholds_count zdirtyMarks_marks zdifferent) hP hD hS hA rfl rfl (fun H locs hP hD hS => ?_)
  refine lv_if_ne (tgt := 9) hx hb d_OS_abandon_4 (by decide) (fun c1 => ?_) (fun c1 => ?_)
  · have hf := z_t c1 hf
    refine lv_iconst (v := (0 : Int32)) hx hb d_OS_abandon_9 (by decide) ?_
    refine lv_istore_n (lv' := [(2, .int (0 : Int32)), (0, .ref (a 0)), (1, .int p1)]) hx hb d_OS_abandon_10 rfl hl (by decide) rfl (fun ls hl => ?_)
    refine lv_iconst (v := (0 : Int32)) hx hb d_OS_abandon_11 (by decide) ?_
    refine lv_istore_n (lv' := [(3, .int (0 : Int32)), (2, .int (0 : Int32)), (0, .ref (a 0)), (1, .int p1)]) hx hb d_OS_abandon_12 rfl hl (by decide) rfl (fun ls hl => ?_)
    have loop13 : ∀ (n : Nat) (zsteps_opened' : Nat → Int32) (zstaged_contents' : Nat → Int64) (x2 : Int32) (x3 : Int32), pf_OS_abandon_L13 N zpaths_count zsteps_configurations zsteps_runs zsteps_count zstaged_makers p1 n zsteps_opened' zstaged_contents' x2 x3 = some y → ∀ (H : Heap) (locs : List Loc) (ls : Array Slot), va_P (dC, dI) zCl (w_OS a k zpaths_outer zpaths_count zsteps_targets zsteps_configurations zsteps_runs zsteps_opened' zsteps_count zoutputs_contents zoutputs_makers zoutputs_executables zoutputs_lazies zstaged_contents' zstaged_makers zstaged_executables zstaged_lazies zcached_contents zcached_count zholds_contents zholds_count zdirtyMarks_marks zdifferent) H → va_D (va_A (w_OS a k zpaths_outer zpaths_count zsteps_targets zsteps_configurations zsteps_runs zsteps_opened zsteps_count zoutputs_contents zoutputs_makers zoutputs_executables zoutputs_lazies zstaged_contents zstaged_makers zstaged_executables zstaged_lazies zcached_contents zcached_count zholds_contents zholds_count zdirtyMarks_marks zdifferent) s.heap.size) (w_OS a k zpaths_outer zpaths_count zsteps_targets zsteps_configurations zsteps_runs zsteps_opened' zsteps_count zoutputs_contents zoutputs_makers zoutputs_executables zoutputs_lazies zstaged_contents' zstaged_makers zstaged_executables zstaged_lazies zcached_contents zcached_count zholds_contents zholds_count zdirtyMarks_marks zdifferent) → va_S (va_A (w_OS a k zpaths_outer zpaths_count zsteps_targets zsteps_configurations zsteps_runs zsteps_opened zsteps_count zoutputs_contents zoutputs_makers zoutputs_executables zoutputs_lazies zstaged_contents zstaged_makers zstaged_executables zstaged_lazies zcached_contents zcached_count zholds_contents zholds_count zdirtyMarks_marks zdifferent) s.heap.size) s.heap H locs → lv_has ls 4 [(0, .ref (a 0)), (1, .int p1), (2, .int x2), (3, .int x3)] → W p l e (headSpec ww_OS_abandon ({ frames := 3, cells := 0, slots := 0, locals := 67 })).room s m ([.ref (a 0), .int p1] : List Value).toArray below meth c H locs 0 0 (MQ below (zQi (dC, dI) zCl (w_OS a k zpaths_outer zpaths_count zsteps_targets zsteps_configurations zsteps_runs zsteps_opened zsteps_count zoutputs_contents zoutputs_makers zoutputs_executables zoutputs_lazies zstaged_contents zstaged_makers zstaged_executables zstaged_lazies zcached_contents zcached_count zholds_contents zholds_count zdirtyMarks_marks zdifferent) s.heap.size y.1 (w_OS a k zpaths_outer zpaths_count zsteps_targets zsteps_configurations zsteps_runs y.2.1 zsteps_count zoutputs_contents zoutputs_makers zoutputs_executables zoutputs_lazies y.2.2 zstaged_makers zstaged_executables zstaged_lazies zcached_contents zcached_count zholds_contents zholds_count zdirtyMarks_marks zdifferent)) ([.ref (a 0), .int p1] : List Value).toArray s 0 0 (va_A (w_OS a k zpaths_outer zpaths_count zsteps_targets zsteps_configurations zsteps_runs zsteps_opened zsteps_count zoutputs_contents zoutputs_makers zoutputs_executables zoutputs_lazies zstaged_contents zstaged_makers zstaged_executables zstaged_lazies zcached_contents zcached_count zholds_contents zholds_count zdirtyMarks_marks zdifferent) s.heap.size)) (F0 m 13 ls []) := by
      intro n13
      induction n13 with
      | zero => intro zsteps_opened' zstaged_contents' x2 x3 hf; rw [pf_OS_abandon_L13.eq_1] at hf; cases hf
      | succ n13 ih13 =>
        intro zsteps_opened' zstaged_contents' x2 x3 hf H locs ls hP hD hS hl
        rw [pf_OS_abandon_L13.eq_2] at hf
        refine lv_iload_n hx hb d_OS_abandon_13 rfl (lv_at hl 3 rfl) ?_
        refine lv_bipush (v := (nI 80)) hx hb d_OS_abandon_14 (by decide) ?_
        refine lv_icmp_ge (tgt := 64) hx hb d_OS_abandon_16 (by decide) (fun c2 => ?_) (fun c2 => ?_)
        · have hf := z_t c2 hf
          refine lv_iload_n hx hb d_OS_abandon_64 rfl (lv_at hl 2 rfl) ?_
          obtain rfl := Option.some.inj hf
          exact z_iret hx hb hr hP hD hS d_OS_abandon_65 hlocks
        · have hf := z_f c2 hf
          refine lv_aload_n hx hb d_OS_abandon_19 rfl (lv_at hl 0 rfl) ?_
          refine va_get (D := (dC, dI)) (ci := 6) (v := .ref (a 3)) (C := R_OS) (T := F_OS) (N := 8) hx hb hts (fun w h => List.mem_cons_of_mem _ (in_OS w h)) hown hK hP 0 rfl rfl 1 (by decide) (hts _ (List.mem_cons_of_mem _ k_1_111)) (fun _ h9 => h9) rfl d_OS_abandon_20 ?_
          refine lv_iload_n hx hb d_OS_abandon_23 rfl (lv_at hl 3 rfl) ?_
          obtain ⟨u1, hu1, hf⟩ := z_b hf
          have hPc := zP_cut (wc := (w_SB (fun i => a (3 + i)) (fun i => k (1 + i)) zsteps_targets zsteps_configurations zsteps_runs zsteps_opened' zsteps_count)) 3 8 hP rfl
          have hDc := zD_cut (wc := (w_SB (fun i => a (3 + i)) (fun i => k (1 + i)) zsteps_targets zsteps_configurations zsteps_runs zsteps_opened' zsteps_count)) 3 8 hD rfl
          have hKc := hK.sub (tys' := (t_SB (fun i => k (1 + i)))) [1, 2, 3, 4] rfl
          refine z_ci (va_runV (As := [.int x3]) (rest := []) ⟨hx, hb, hml, hown, hts⟩ (c_SB_isOpen l dC dI N (fun i => a (3 + i)) (fun i => k (1 + i)) zsteps_targets zsteps_configurations zsteps_runs zsteps_opened' zsteps_count x3 hu1 H.size) (cwV 1 hts (zGV zsub_c k_1_185 k_1_169 k_1_170 k_1_3 kc_SB_isOpen) rfl rfl rfl (by decide +kernel) ⟨Nat.le_of_ble_eq_true rfl, Nat.le_of_ble_eq_true rfl⟩) ⟨z_bl, va_recv hKc hPc (ci := 1) (q0 := 0) rfl rfl, fun U hU hW => ⟨rfl, z_pre hN hKc hPc hDc U hU hW⟩⟩ rfl rfl hl.1 rfl (lv_room (Nat.le_of_ble_eq_true rfl)) d_OS_abandon_24 ⟨Nat.zero_le _, Nat.zero_le _⟩) 3 8 (w_OS a k zpaths_outer zpaths_count zsteps_targets zsteps_configurations zsteps_runs zsteps_opened' zsteps_count zoutputs_contents zoutputs_makers zoutputs_executables zoutputs_lazies zstaged_contents' zstaged_makers zstaged_executables zstaged_lazies zcached_contents zcached_count zholds_contents zholds_count zdirtyMarks_marks zdifferent) hP hD hS hA rfl rfl (fun H locs hP hD hS => ?_)
          refine lv_if_eq (tgt := 58) hx hb d_OS_abandon_27 (by decide) (fun c3 => ?_) (fun c3 => ?_)
          · have hf := z_t c3 hf
            refine lv_iinc (v := (x3 + (1 : Int32))) (lv' := [(3, .int (x3 + (1 : Int32))), (0, .ref (a 0)), (1, .int p1), (2, .int x2)]) hx hb d_OS_abandon_58 hl (k := 3) rfl rfl (by decide) rfl (fun ls hl => ?_)
            refine lv_goto (tgt := 13) hx hb d_OS_abandon_61 (by decide) ?_
            exact ih13 zsteps_opened' zstaged_contents' x2 (x3 + (1 : Int32)) hf H locs ls hP hD hS (lv_sub hl [1, 2, 3, 0] rfl)
          · have hf := z_f c3 hf
            refine lv_aload_n hx hb d_OS_abandon_30 rfl (lv_at hl 0 rfl) ?_
            refine va_get (D := (dC, dI)) (ci := 6) (v := .ref (a 3)) (C := R_OS) (T := F_OS) (N := 8) hx hb hts (fun w h => List.mem_cons_of_mem _ (in_OS w h)) hown hK hP 0 rfl rfl 1 (by decide) (hts _ (List.mem_cons_of_mem _ k_1_111)) (fun _ h9 => h9) rfl d_OS_abandon_31 ?_
            refine lv_iload_n hx hb d_OS_abandon_34 rfl (lv_at hl 3 rfl) ?_
            obtain ⟨u2, hu2, hf⟩ := z_b hf
            have hPc := zP_cut (wc := (w_SB (fun i => a (3 + i)) (fun i => k (1 + i)) zsteps_targets zsteps_configurations zsteps_runs zsteps_opened' zsteps_count)) 3 8 hP rfl
            have hDc := zD_cut (wc := (w_SB (fun i => a (3 + i)) (fun i => k (1 + i)) zsteps_targets zsteps_configurations zsteps_runs zsteps_opened' zsteps_count)) 3 8 hD rfl
            have hKc := hK.sub (tys' := (t_SB (fun i => k (1 + i)))) [1, 2, 3, 4] rfl
            refine z_ci (va_runV (As := [.int x3]) (rest := []) ⟨hx, hb, hml, hown, hts⟩ (c_SB_runOf l dC dI N (fun i => a (3 + i)) (fun i => k (1 + i)) zsteps_targets zsteps_configurations zsteps_runs zsteps_opened' zsteps_count x3 hu2 H.size) (cwV 1 hts (zGV zsub_c k_2_53 k_2_54 k_2_55 k_1_3 kc_SB_runOf) rfl rfl rfl (by decide +kernel) ⟨Nat.le_of_ble_eq_true rfl, Nat.le_of_ble_eq_true rfl⟩) ⟨z_bl, va_recv hKc hPc (ci := 1) (q0 := 0) rfl rfl, fun U hU hW => ⟨rfl, z_pre hN hKc hPc hDc U hU hW⟩⟩ rfl rfl hl.1 rfl (lv_room (Nat.le_of_ble_eq_true rfl)) d_OS_abandon_35 ⟨Nat.zero_le _, Nat.zero_le _⟩) 3 8 (w_OS a k zpaths_outer zpaths_count zsteps_targets zsteps_configurations zsteps_runs zsteps_opened' zsteps_count zoutputs_contents zoutputs_makers zoutputs_executables zoutputs_lazies zstaged_contents' zstaged_makers zstaged_executables zstaged_lazies zcached_contents zcached_count zholds_contents zholds_count zdirtyMarks_marks zdifferent) hP hD hS hA rfl rfl (fun H locs hP hD hS => ?_)
            refine lv_iload_n hx hb d_OS_abandon_38 rfl (lv_at hl 1 rfl) ?_
            refine lv_icmp_ne (tgt := 58) hx hb d_OS_abandon_39 (by decide) (fun c4 => ?_) (fun c4 => ?_)
            · have hf := z_t c4 hf
              refine lv_iinc (v := (x3 + (1 : Int32))) (lv' := [(3, .int (x3 + (1 : Int32))), (0, .ref (a 0)), (1, .int p1), (2, .int x2)]) hx hb d_OS_abandon_58 hl (k := 3) rfl rfl (by decide) rfl (fun ls hl => ?_)
              refine lv_goto (tgt := 13) hx hb d_OS_abandon_61 (by decide) ?_
              exact ih13 zsteps_opened' zstaged_contents' x2 (x3 + (1 : Int32)) hf H locs ls hP hD hS (lv_sub hl [1, 2, 3, 0] rfl)
            · have hf := z_fn c4 hf
              refine lv_aload_n hx hb d_OS_abandon_42 rfl (lv_at hl 0 rfl) ?_
              refine lv_iload_n hx hb d_OS_abandon_43 rfl (lv_at hl 3 rfl) ?_
              obtain ⟨u3, hu3, hf⟩ := z_b hf
              have hPc := hP
              have hDc := hD
              have hKc := hK
              refine z_cwv (va_runV (As := [.int x3]) (rest := []) ⟨hx, hb, hml, hown, hts⟩ (c_OS_dropStaged l dC dI N a k zpaths_outer zpaths_count zsteps_targets zsteps_configurations zsteps_runs zsteps_opened' zsteps_count zoutputs_contents zoutputs_makers zoutputs_executables zoutputs_lazies zstaged_contents' zstaged_makers zstaged_executables zstaged_lazies zcached_contents zcached_count zholds_contents zholds_count zdirtyMarks_marks zdifferent x3 hu3 H.size) (cwV 1 hts (zGV zsub_c k_2_41 k_2_43 s_OS_dropStaged k_1_1 kc_OS_dropStaged) rfl rfl rfl (by decide +kernel) ⟨Nat.le_of_ble_eq_true rfl, Nat.le_of_ble_eq_true rfl⟩) ⟨z_bl, va_recv hKc hPc (ci := 6) (q0 := 0) rfl rfl, fun U hU hW => ⟨rfl, z_pre hN hKc hPc hDc U hU hW⟩⟩ rfl rfl hl.1 rfl (lv_room (Nat.le_of_ble_eq_true rfl)) d_OS_abandon_44 ⟨Nat.zero_le _, Nat.zero_le _⟩) hD hS hA (fun H locs hP hD hS => ?_)
              refine lv_aload_n hx hb d_OS_abandon_47 rfl (lv_at hl 0 rfl) ?_
              refine va_get (D := (dC, dI)) (ci := 6) (v := .ref (a 3)) (C := R_OS) (T := F_OS) (N := 8) hx hb hts (fun w h => List.mem_cons_of_mem _ (in_OS w h)) hown hK hP 0 rfl rfl 1 (by decide) (hts _ (List.mem_cons_of_mem _ k_1_111)) (fun _ h9 => h9) rfl d_OS_abandon_48 ?_
              refine lv_iload_n hx hb d_OS_abandon_51 rfl (lv_at hl 3 rfl) ?_
              obtain ⟨u4, hu4, hf⟩ := z_b hf
              have hPc := zP_cut (wc := (w_SB (fun i => a (3 + i)) (fun i => k (1 + i)) zsteps_targets zsteps_configurations zsteps_runs zsteps_opened' zsteps_count)) 3 8 hP rfl
              have hDc := zD_cut (wc := (w_SB (fun i => a (3 + i)) (fun i => k (1 + i)) zsteps_targets zsteps_configurations zsteps_runs zsteps_opened' zsteps_count)) 3 8 hD rfl
              have hKc := hK.sub (tys' := (t_SB (fun i => k (1 + i)))) [1, 2, 3, 4] rfl
              refine z_cv (va_runV (As := [.int x3]) (rest := []) ⟨hx, hb, hml, hown, hts⟩ (c_SB_close l dC dI N (fun i => a (3 + i)) (fun i => k (1 + i)) zsteps_targets zsteps_configurations zsteps_runs zsteps_opened' zsteps_count x3 hu4 H.size) (cwV 1 hts (zGV zsub_c k_2_45 k_2_46 k_2_47 k_1_3 kc_SB_close) rfl rfl rfl (by decide +kernel) ⟨Nat.le_of_ble_eq_true rfl, Nat.le_of_ble_eq_true rfl⟩) ⟨z_bl, va_recv hKc hPc (ci := 1) (q0 := 0) rfl rfl, fun U hU hW => ⟨rfl, z_pre hN hKc hPc hDc U hU hW⟩⟩ rfl rfl hl.1 rfl (lv_room (Nat.le_of_ble_eq_true rfl)) d_OS_abandon_52 ⟨Nat.zero_le _, Nat.zero_le _⟩) 3 8 (w_OS a k zpaths_outer zpaths_count zsteps_targets zsteps_configurations zsteps_runs u4 zsteps_count zoutputs_contents zoutputs_makers zoutputs_executables zoutputs_lazies u3 zstaged_makers zstaged_executables zstaged_lazies zcached_contents zcached_count zholds_contents zholds_count zdirtyMarks_marks zdifferent) hP hD hS hA rfl rfl (fun H locs hP hD hS => ?_)
              refine lv_iinc (v := (x2 + (1 : Int32))) (lv' := [(2, .int (x2 + (1 : Int32))), (0, .ref (a 0)), (1, .int p1), (3, .int x3)]) hx hb d_OS_abandon_55 hl (k := 2) rfl rfl (by decide) rfl (fun ls hl => ?_)
              refine lv_iinc (v := (x3 + (1 : Int32))) (lv' := [(3, .int (x3 + (1 : Int32))), (2, .int (x2 + (1 : Int32))), (0, .ref (a 0)), (1, .int p1)]) hx hb d_OS_abandon_58 hl (k := 3) rfl rfl (by decide) rfl (fun ls hl => ?_)
              refine lv_goto (tgt := 13) hx hb d_OS_abandon_61 (by decide) ?_
              exact ih13 u4 u3 (x2 + (1 : Int32)) (x3 + (1 : Int32)) hf H locs ls hP hD hS (lv_sub hl [2, 3, 1, 0] rfl)
    exact loop13 N zsteps_opened zstaged_contents (0 : Int32) (0 : Int32) hf H locs ls hP hD hS (lv_sub hl [2, 3, 1, 0] rfl)
  · have hf := z_fn c1 hf
    refine lv_iconst (v := (-1 : Int32)) hx hb d_OS_abandon_7 (by decide) ?_
    obtain rfl := Option.some.inj hf
    exact z_iret hx hb hr hP hD hS d_OS_abandon_8 hlocks
set_option maxHeartbeats 4000000 in
set_option maxRecDepth 100000 in
theorem c_OS_cache (l : Launch) (dC : Nat → ClassId) (dI : Nat → Nat → Nat) (N : Nat) (a : Nat → Nat) (k : Nat → ClassId) (zpaths_outer : Nat → Int32) (zpaths_count : Int32) (zsteps_targets : Nat → Int32) (zsteps_configurations : Nat → Int32) (zsteps_runs : Nat → Int32) (zsteps_opened : Nat → Int32) (zsteps_count : Int32) (zoutputs_contents : Nat → Int64) (zoutputs_makers : Nat → Int32) (zoutputs_executables : Nat → Int32) (zoutputs_lazies : Nat → Int32) (zstaged_contents : Nat → Int64) (zstaged_makers : Nat → Int32) (zstaged_executables : Nat → Int32) (zstaged_lazies : Nat → Int32) (zcached_contents : Nat → Int64) (zcached_count : Int32) (zholds_contents : Nat → Int64) (zholds_count : Int32) (zdirtyMarks_marks : Nat → Int32) (zdifferent : Nat → Int64) (p1 : Int64) (p3 : Int32) {y : (Int32 × (Nat → Int64) × Int32)} (hf : pf_OS_cache N zcached_contents zcached_count p1 p3 = some y) (sz : Nat) : Met l y_OS_cache ww_OS_cache ({ frames := 3, cells := 0, slots := 0, locals := 68 }) (va_Pc [.ref (a 0), .long p1, .int p3] (zB (dC, dI) zCl (t_OS k) (w_OS a k zpaths_outer zpaths_count zsteps_targets zsteps_configurations zsteps_runs zsteps_opened zsteps_count zoutputs_contents zoutputs_makers zoutputs_executables zoutputs_lazies zstaged_contents zstaged_makers zstaged_executables zstaged_lazies zcached_contents zcached_count zholds_contents zholds_count zdirtyMarks_marks zdifferent) sz)) (zQi (dC, dI) zCl (w_OS a k zpaths_outer zpaths_count zsteps_targets zsteps_configurations zsteps_runs zsteps_opened zsteps_count zoutputs_contents zoutputs_makers zoutputs_executables zoutputs_lazies zstaged_contents zstaged_makers zstaged_executables zstaged_lazies zcached_contents zcached_count zholds_contents zholds_count zdirtyMarks_marks zdifferent) sz y.1 (w_OS a k zpaths_outer zpaths_count zsteps_targets zsteps_configurations zsteps_runs zsteps_opened zsteps_count zoutputs_contents zoutputs_makers zoutputs_executables zoutputs_lazies zstaged_contents zstaged_makers zstaged_executables zstaged_lazies y.2.1 y.2.2 zholds_contents zholds_count zdirtyMarks_marks zdifferent)) 0 0 (va_A (w_OS a k zpaths_outer zpaths_count zsteps_targets zsteps_configurations zsteps_runs zsteps_opened zsteps_count zoutputs_contents zoutputs_makers zoutputs_executables zoutputs_lazies zstaged_contents zstaged_makers zstaged_executables zstaged_lazies zcached_contents zcached_count zholds_contents zholds_count zdirtyMarks_marks zdifferent) sz) := by
  refine Met.ofW (cc := b_OS_cache) (maxL := 4) (ret := (some .boolean)) (by decide) rfl ?_
  intro p e s m args below meth c s₁ B hml hv
  obtain ⟨rfl, rfl, hP, hK, hD, hN⟩ := hv
  have hx := B.exec
  have hb := B.bytes
  have hr := B.returns
  have hts := atoms_spec (ws := ww_OS_cache) B.pre
  have hown : s.vm.findClass R_OS = some m.cls := findClass_of_methodNamed B.named
  have hlocks := B.notSynchronized
  have hA : ∀ q : Nat, s.heap.size ≤ q → va_A (w_OS a k zpaths_outer zpaths_count zsteps_targets zsteps_configurations zsteps_runs zsteps_opened zsteps_count zoutputs_contents zoutputs_makers zoutputs_executables zoutputs_lazies zstaged_contents zstaged_makers zstaged_executables zstaged_lazies zcached_contents zcached_count zholds_contents zholds_count zdirtyMarks_marks zdifferent) s.heap.size q := fun q h => Or.inr h
  refine z_start (lv := [(0, .ref (a 0)), (1, .long p1), (3, .int p3)]) (Nat.le_of_ble_eq_true rfl) rfl hP hD (fun H locs ls hP hD hS hl => ?_)
  unfold pf_OS_cache at hf
  refine lv_lload_n hx hb d_OS_cache_0 rfl (lv_at hl 1 rfl) ?_
  refine lv_lconst (v := 0) hx hb d_OS_cache_1 (by decide) ?_
  refine W.lcmp hx hb d_OS_cache_2 ?_
  refine lv_if_ne (tgt := 8) hx hb d_OS_cache_3 (by decide) (fun c1 => ?_) (fun c1 => ?_)
  · have hf := z_t c1 hf
    refine lv_iload_n hx hb d_OS_cache_8 rfl (lv_at hl 2 rfl) ?_
    refine lv_if_eq (tgt := 21) hx hb d_OS_cache_9 (by decide) (fun c2 => ?_) (fun c2 => ?_)
    · have hf := z_t c2 hf
      refine lv_aload_n hx hb d_OS_cache_21 rfl (lv_at hl 0 rfl) ?_
      refine va_get (D := (dC, dI)) (ci := 6) (v := .ref (a 18)) (C := R_OS) (T := F_OS) (N := 8) hx hb hts (fun w h => List.mem_cons_of_mem _ (in_OS w h)) hown hK hP 0 rfl rfl 4 (by decide) (hts _ (List.mem_cons_of_mem _ k_1_114)) (fun _ h9 => h9) rfl d_OS_cache_22 ?_
      refine lv_lload_n hx hb d_OS_cache_25 rfl (lv_at hl 1 rfl) ?_
      obtain ⟨u0, hu0, hf⟩ := z_b hf
      have hPc := zP_cut (wc := (w_CS (fun i => a (18 + i)) (fun i => k (13 + i)) zcached_contents zcached_count)) 18 20 hP rfl
      have hDc := zD_cut (wc := (w_CS (fun i => a (18 + i)) (fun i => k (13 + i)) zcached_contents zcached_count)) 18 20 hD rfl
      have hKc := hK.sub (tys' := (t_CS (fun i => k (13 + i)))) [13] rfl
      refine z_cv (va_runV (As := [.long p1]) (rest := []) ⟨hx, hb, hml, hown, hts⟩ (c_CS_exclude l dC dI N (fun i => a (18 + i)) (fun i => k (13 + i)) zcached_contents zcached_count p1 hu0 H.size) (cwV 1 hts (zGV zsub_c k_2_66 k_2_67 k_2_68 k_1_5 kc_CS_exclude) rfl rfl rfl (by decide +kernel) ⟨Nat.le_of_ble_eq_true rfl, Nat.le_of_ble_eq_true rfl⟩) ⟨z_bl, va_recv hKc hPc (ci := 3) (q0 := 0) rfl rfl, fun U hU hW => ⟨rfl, z_pre hN hKc hPc hDc U hU hW⟩⟩ rfl rfl hl.1 rfl (lv_room (Nat.le_of_ble_eq_true rfl)) d_OS_cache_26 ⟨Nat.zero_le _, Nat.zero_le _⟩) 18 20 (w_OS a k zpaths_outer zpaths_count zsteps_targets zsteps_configurations zsteps_runs zsteps_opened zsteps_count zoutputs_contents zoutputs_makers zoutputs_executables zoutputs_lazies zstaged_contents zstaged_makers zstaged_executables zstaged_lazies u0.1 u0.2 zholds_contents zholds_count zdirtyMarks_marks zdifferent) hP hD hS hA rfl rfl (fun H locs hP hD hS => ?_)
      refine lv_iconst (v := (1 : Int32)) hx hb d_OS_cache_29 (by decide) ?_
      obtain rfl := Option.some.inj hf
      exact z_zret hx hb hr (Or.inr rfl) hP hD hS d_OS_cache_30 hlocks
    · have hf := z_f c2 hf
      refine lv_aload_n hx hb d_OS_cache_12 rfl (lv_at hl 0 rfl) ?_
      refine va_get (D := (dC, dI)) (ci := 6) (v := .ref (a 18)) (C := R_OS) (T := F_OS) (N := 8) hx hb hts (fun w h => List.mem_cons_of_mem _ (in_OS w h)) hown hK hP 0 rfl rfl 4 (by decide) (hts _ (List.mem_cons_of_mem _ k_1_114)) (fun _ h9 => h9) rfl d_OS_cache_13 ?_
      refine lv_lload_n hx hb d_OS_cache_16 rfl (lv_at hl 1 rfl) ?_
      obtain ⟨u1, hu1, hf⟩ := z_b hf
      have hPc := zP_cut (wc := (w_CS (fun i => a (18 + i)) (fun i => k (13 + i)) zcached_contents zcached_count)) 18 20 hP rfl
      have hDc := zD_cut (wc := (w_CS (fun i => a (18 + i)) (fun i => k (13 + i)) zcached_contents zcached_count)) 18 20 hD rfl
      have hKc := hK.sub (tys' := (t_CS (fun i => k (13 + i)))) [13] rfl
      refine z_ci (va_runV (As := [.long p1]) (rest := []) ⟨hx, hb, hml, hown, hts⟩ (c_CS_include l dC dI N (fun i => a (18 + i)) (fun i => k (13 + i)) zcached_contents zcached_count p1 hu1 H.size) (cwV 1 hts (zGV zsub_c k_2_61 k_2_62 k_2_63 k_1_5 kc_CS_include) rfl rfl rfl (by decide +kernel) ⟨Nat.le_of_ble_eq_true rfl, Nat.le_of_ble_eq_true rfl⟩) ⟨z_bl, va_recv hKc hPc (ci := 3) (q0 := 0) rfl rfl, fun U hU hW => ⟨rfl, z_pre hN hKc hPc hDc U hU hW⟩⟩ rfl rfl hl.1 rfl (lv_room (Nat.le_of_ble_eq_true rfl)) d_OS_cache_17 ⟨Nat.zero_le _, Nat.zero_le _⟩) 18 20 (w_OS a k zpaths_outer zpaths_count zsteps_targets zsteps_configurations zsteps_runs zsteps_opened zsteps_count zoutputs_contents zoutputs_makers zoutputs_executables zoutputs_lazies zstaged_contents zstaged_makers zstaged_executables zstaged_lazies u1.2.1 u1.2.2 zholds_contents zholds_count zdirtyMarks_marks zdifferent) hP hD hS hA rfl rfl (fun H locs hP hD hS => ?_)
      obtain ⟨b3, hf⟩ := z_zb hf
      obtain rfl := Option.some.inj hf
      exact z_zret hx hb hr b3 hP hD hS d_OS_cache_20 hlocks
  · have hf := z_fn c1 hf
    refine lv_iconst (v := (0 : Int32)) hx hb d_OS_cache_6 (by decide) ?_
    obtain rfl := Option.some.inj hf
    exact z_zret hx hb hr (Or.inl rfl) hP hD hS d_OS_cache_7 hlocks
set_option maxHeartbeats 4000000 in
set_option maxRecDepth 100000 in
theorem c_OS_read (l : Launch) (dC : Nat → ClassId) (dI : Nat → Nat → Nat) (N : Nat) (a : Nat → Nat) (k : Nat → ClassId) (zpaths_outer : Nat → Int32) (zpaths_count : Int32) (zsteps_targets : Nat → Int32) (zsteps_configurations : Nat → Int32) (zsteps_runs : Nat → Int32) (zsteps_opened : Nat → Int32) (zsteps_count : Int32) (zoutputs_contents : Nat → Int64) (zoutputs_makers : Nat → Int32) (zoutputs_executables : Nat → Int32) (zoutputs_lazies : Nat → Int32) (zstaged_contents : Nat → Int64) (zstaged_makers : Nat → Int32) (zstaged_executables : Nat → Int32) (zstaged_lazies : Nat → Int32) (zcached_contents : Nat → Int64) (zcached_count : Int32) (zholds_contents : Nat → Int64) (zholds_count : Int32) (zdirtyMarks_marks : Nat → Int32) (zdifferent : Nat → Int64) (p1 : Int32) (p2 : Int32) {y : (Int32 × (Nat → Int64) × (Nat → Int32) × (Nat → Int64) × Int32 × (Nat → Int32))} (hf : pf_OS_read N zpaths_count zsteps_targets zsteps_count zoutputs_contents zoutputs_makers zoutputs_lazies zcached_contents zcached_count zholds_contents zholds_count zdirtyMarks_marks p1 p2 = some y) (sz : Nat) : Met l y_OS_read ww_OS_read ({ frames := 3, cells := 0, slots := 0, locals := 63 }) (va_Pc [.ref (a 0), .int p1, .int p2] (zB (dC, dI) zCl (t_OS k) (w_OS a k zpaths_outer zpaths_count zsteps_targets zsteps_configurations zsteps_runs zsteps_opened zsteps_count zoutputs_contents zoutputs_makers zoutputs_executables zoutputs_lazies zstaged_contents zstaged_makers zstaged_executables zstaged_lazies zcached_contents zcached_count zholds_contents zholds_count zdirtyMarks_marks zdifferent) sz)) (zQi (dC, dI) zCl (w_OS a k zpaths_outer zpaths_count zsteps_targets zsteps_configurations zsteps_runs zsteps_opened zsteps_count zoutputs_contents zoutputs_makers zoutputs_executables zoutputs_lazies zstaged_contents zstaged_makers zstaged_executables zstaged_lazies zcached_contents zcached_count zholds_contents zholds_count zdirtyMarks_marks zdifferent) sz y.1 (w_OS a k zpaths_outer zpaths_count zsteps_targets zsteps_configurations zsteps_runs zsteps_opened zsteps_count y.2.1 zoutputs_makers zoutputs_executables y.2.2.1 zstaged_contents zstaged_makers zstaged_executables zstaged_lazies zcached_contents zcached_count y.2.2.2.1 y.2.2.2.2.1 y.2.2.2.2.2 zdifferent)) 0 0 (va_A (w_OS a k zpaths_outer zpaths_count zsteps_targets zsteps_configurations zsteps_runs zsteps_opened zsteps_count zoutputs_contents zoutputs_makers zoutputs_executables zoutputs_lazies zstaged_contents zstaged_makers zstaged_executables zstaged_lazies zcached_contents zcached_count zholds_contents zholds_count zdirtyMarks_marks zdifferent) sz) := by
  refine Met.ofW (cc := b_OS_read) (maxL := 6) (ret := (some .int)) (by decide) rfl ?_
  intro p e s m args below meth c s₁ B hml hv
  obtain ⟨rfl, rfl, hP, hK, hD, hN⟩ := hv
  have hx := B.exec
  have hb := B.bytes
  have hr := B.returns
  have hts := atoms_spec (ws := ww_OS_read) B.pre
  have hown : s.vm.findClass R_OS = some m.cls := findClass_of_methodNamed B.named
  have hlocks := B.notSynchronized
  have hA : ∀ q : Nat, s.heap.size ≤ q → va_A (w_OS a k zpaths_outer zpaths_count zsteps_targets zsteps_configurations zsteps_runs zsteps_opened zsteps_count zoutputs_contents zoutputs_makers zoutputs_executables zoutputs_lazies zstaged_contents zstaged_makers zstaged_executables zstaged_lazies zcached_contents zcached_count zholds_contents zholds_count zdirtyMarks_marks zdifferent) s.heap.size q := fun q h => Or.inr h
  refine z_start (lv := [(0, .ref (a 0)), (1, .int p1), (2, .int p2)]) (Nat.le_of_ble_eq_true rfl) rfl hP hD (fun H locs ls hP hD hS hl => ?_)
  unfold pf_OS_read at hf
  refine lv_aload_n hx hb d_OS_read_0 rfl (lv_at hl 0 rfl) ?_
  refine lv_iload_n hx hb d_OS_read_1 rfl (lv_at hl 1 rfl) ?_
  refine lv_iload_n hx hb d_OS_read_2 rfl (lv_at hl 2 rfl) ?_
  obtain ⟨u0, hu0, hf⟩ := z_b hf
  have hPc := hP
  have hDc := hD
  have hKc := hK
  refine z_cwi (va_runV (As := [.int p1, .int p2]) (rest := []) ⟨hx, hb, hml, hown, hts⟩ (c_OS_slotOf l dC dI N a k zpaths_outer zpaths_count zsteps_targets zsteps_configurations zsteps_runs zsteps_opened zsteps_count zoutputs_contents zoutputs_makers zoutputs_executables zoutputs_lazies zstaged_contents zstaged_makers zstaged_executables zstaged_lazies zcached_contents zcached_count zholds_contents zholds_count zdirtyMarks_marks zdifferent p1 p2 hu0 H.size) (cwV 2 hts (zGV zsub_c k_1_191 k_1_193 s_OS_slotOf k_1_1 kc_OS_slotOf) rfl rfl rfl (by decide +kernel) ⟨Nat.le_of_ble_eq_true rfl, Nat.le_of_ble_eq_true rfl⟩) ⟨z_bl, va_recv hKc hPc (ci := 6) (q0 := 0) rfl rfl, fun U hU hW => ⟨rfl, z_pre hN hKc hPc hDc U hU hW⟩⟩ rfl rfl hl.1 rfl (lv_room (Nat.le_of_ble_eq_true rfl)) d_OS_read_3 ⟨Nat.zero_le _, Nat.zero_le _⟩) hD hS hA (fun H locs hP hD hS => ?_)
  refine lv_istore_n (lv' := [(3, .int u0), (0, .ref (a 0)), (1, .int p1), (2, .int p2)]) hx hb d_OS_read_6 rfl hl (by decide) rfl (fun ls hl => ?_)
  refine lv_iload_n hx hb d_OS_read_7 rfl (lv_at hl 0 rfl) ?_
  refine lv_iconst (v := (-1 : Int32)) hx hb d_OS_read_8 (by decide) ?_
  refine lv_icmp_eq (tgt := 22) hx hb d_OS_read_9 (by decide) (fun c1 => ?_) (fun c1 => ?_)
  · have hf := z_t c1 hf
    refine lv_iconst (v := (-1 : Int32)) hx hb d_OS_read_22 (by decide) ?_
    obtain rfl := Option.some.inj hf
    exact z_iret hx hb hr hP hD hS d_OS_read_23 hlocks
  · have hf := z_f c1 hf
    refine lv_aload_n hx hb d_OS_read_12 rfl (lv_at hl 1 rfl) ?_
    refine va_get (D := (dC, dI)) (ci := 6) (v := .ref (a 20)) (C := R_OS) (T := F_OS) (N := 8) hx hb hts (fun w h => List.mem_cons_of_mem _ (in_OS w h)) hown hK hP 0 rfl rfl 5 (by decide) (hts _ (List.mem_cons_of_mem _ k_1_115)) (fun _ h9 => h9) rfl d_OS_read_13 ?_
    obtain ⟨u1, hu1, hf⟩ := z_b hf
    have hPc := zP_cut (wc := (w_HB (fun i => a (20 + i)) (fun i => k (14 + i)) zholds_contents zholds_count)) 20 22 hP rfl
    have hDc := zD_cut (wc := (w_HB (fun i => a (20 + i)) (fun i => k (14 + i)) zholds_contents zholds_count)) 20 22 hD rfl
    have hKc := hK.sub (tys' := (t_HB (fun i => k (14 + i)))) [14] rfl
    refine z_ci (va_runV (As := []) (rest := []) ⟨hx, hb, hml, hown, hts⟩ (c_HB_isFull l dC dI N (fun i => a (20 + i)) (fun i => k (14 + i)) zholds_contents zholds_count hu1 H.size) (cwV 0 hts (zGV zsub_c k_2_74 k_2_75 k_2_76 k_1_6 kc_HB_isFull) rfl rfl rfl (by decide +kernel) ⟨Nat.le_of_ble_eq_true rfl, Nat.le_of_ble_eq_true rfl⟩) ⟨z_bl, va_recv hKc hPc (ci := 4) (q0 := 0) rfl rfl, fun U hU hW => ⟨rfl, z_pre hN hKc hPc hDc U hU hW⟩⟩ rfl rfl hl.1 rfl (lv_room (Nat.le_of_ble_eq_true rfl)) d_OS_read_16 ⟨Nat.zero_le _, Nat.zero_le _⟩) 20 22 (w_OS a k zpaths_outer zpaths_count zsteps_targets zsteps_configurations zsteps_runs zsteps_opened zsteps_count zoutputs_contents zoutputs_makers zoutputs_executables zoutputs_lazies zstaged_contents zstaged_makers zstaged_executables zstaged_lazies zcached_contents zcached_count zholds_contents zholds_count zdirtyMarks_marks zdifferent) hP hD hS hA rfl rfl (fun H locs hP hD hS => ?_)
    refine lv_if_eq (tgt := 24) hx hb d_OS_read_19 (by decide) (fun c2 => ?_) (fun c2 => ?_)
    · have hf := z_t c2 hf
      refine lv_aload_n hx hb d_OS_read_24 rfl (lv_at hl 1 rfl) ?_
      refine va_get (D := (dC, dI)) (ci := 6) (v := .ref (a 8)) (C := R_OS) (T := F_OS) (N := 8) hx hb hts (fun w h => List.mem_cons_of_mem _ (in_OS w h)) hown hK hP 0 rfl rfl 2 (by decide) (hts _ (List.mem_cons_of_mem _ k_1_112)) (fun _ h9 => h9) rfl d_OS_read_25 ?_
      refine lv_iload_n hx hb d_OS_read_28 rfl (lv_at hl 0 rfl) ?_
      obtain ⟨u2, hu2, hf⟩ := z_b hf
      have hPc := zP_cut (wc := (w_LT (fun i => a (8 + i)) (fun i => k (5 + i)) zoutputs_contents zoutputs_makers zoutputs_executables zoutputs_lazies)) 8 13 hP rfl
      have hDc := zD_cut (wc := (w_LT (fun i => a (8 + i)) (fun i => k (5 + i)) zoutputs_contents zoutputs_makers zoutputs_executables zoutputs_lazies)) 8 13 hD rfl
      have hKc := hK.sub (tys' := (t_LT (fun i => k (5 + i)))) [5, 6, 7, 8] rfl
      refine z_ci (va_runV (As := [.int u0]) (rest := []) ⟨hx, hb, hml, hown, hts⟩ (c_LT_has l dC dI N (fun i => a (8 + i)) (fun i => k (5 + i)) zoutputs_contents zoutputs_makers zoutputs_executables zoutputs_lazies u0 hu2 H.size) (cwV 1 hts (zGV zsub_c k_1_215 k_1_200 k_1_201 k_1_4 kc_LT_has) rfl rfl rfl (by decide +kernel) ⟨Nat.le_of_ble_eq_true rfl, Nat.le_of_ble_eq_true rfl⟩) ⟨z_bl, va_recv hKc hPc (ci := 2) (q0 := 0) rfl rfl, fun U hU hW => ⟨rfl, z_pre hN hKc hPc hDc U hU hW⟩⟩ rfl rfl hl.1 rfl (lv_room (Nat.le_of_ble_eq_true rfl)) d_OS_read_29 ⟨Nat.zero_le _, Nat.zero_le _⟩) 8 13 (w_OS a k zpaths_outer zpaths_count zsteps_targets zsteps_configurations zsteps_runs zsteps_opened zsteps_count zoutputs_contents zoutputs_makers zoutputs_executables zoutputs_lazies zstaged_contents zstaged_makers zstaged_executables zstaged_lazies zcached_contents zcached_count zholds_contents zholds_count zdirtyMarks_marks zdifferent) hP hD hS hA rfl rfl (fun H locs hP hD hS => ?_)
      refine lv_if_ne (tgt := 38) hx hb d_OS_read_32 (by decide) (fun c3 => ?_) (fun c3 => ?_)
      · have hf := z_t c3 hf
        refine lv_aload_n hx hb d_OS_read_38 rfl (lv_at hl 1 rfl) ?_
        refine va_get (D := (dC, dI)) (ci := 6) (v := .ref (a 8)) (C := R_OS) (T := F_OS) (N := 8) hx hb hts (fun w h => List.mem_cons_of_mem _ (in_OS w h)) hown hK hP 0 rfl rfl 2 (by decide) (hts _ (List.mem_cons_of_mem _ k_1_112)) (fun _ h9 => h9) rfl d_OS_read_39 ?_
        refine lv_iload_n hx hb d_OS_read_42 rfl (lv_at hl 0 rfl) ?_
        obtain ⟨u3, hu3, hf⟩ := z_b hf
        have hPc := zP_cut (wc := (w_LT (fun i => a (8 + i)) (fun i => k (5 + i)) zoutputs_contents zoutputs_makers zoutputs_executables zoutputs_lazies)) 8 13 hP rfl
        have hDc := zD_cut (wc := (w_LT (fun i => a (8 + i)) (fun i => k (5 + i)) zoutputs_contents zoutputs_makers zoutputs_executables zoutputs_lazies)) 8 13 hD rfl
        have hKc := hK.sub (tys' := (t_LT (fun i => k (5 + i)))) [5, 6, 7, 8] rfl
        refine z_cl (va_runV (As := [.int u0]) (rest := []) ⟨hx, hb, hml, hown, hts⟩ (c_LT_contentAt l dC dI N (fun i => a (8 + i)) (fun i => k (5 + i)) zoutputs_contents zoutputs_makers zoutputs_executables zoutputs_lazies u0 hu3 H.size) (cwV 1 hts (zGV zsub_c k_2_19 k_2_20 k_2_21 k_1_4 kc_LT_contentAt) rfl rfl rfl (by decide +kernel) ⟨Nat.le_of_ble_eq_true rfl, Nat.le_of_ble_eq_true rfl⟩) ⟨z_bl, va_recv hKc hPc (ci := 2) (q0 := 0) rfl rfl, fun U hU hW => ⟨rfl, z_pre hN hKc hPc hDc U hU hW⟩⟩ rfl rfl hl.1 rfl (lv_room (Nat.le_of_ble_eq_true rfl)) d_OS_read_43 ⟨Nat.zero_le _, Nat.zero_le _⟩) 8 13 (w_OS a k zpaths_outer zpaths_count zsteps_targets zsteps_configurations zsteps_runs zsteps_opened zsteps_count zoutputs_contents zoutputs_makers zoutputs_executables zoutputs_lazies zstaged_contents zstaged_makers zstaged_executables zstaged_lazies zcached_contents zcached_count zholds_contents zholds_count zdirtyMarks_marks zdifferent) hP hD hS hA rfl rfl (fun H locs hP hD hS => ?_)
        refine lv_lstore (lv' := [(4, .long u3), (3, .int u0), (0, .ref (a 0)), (1, .int p1), (2, .int p2)]) hx hb d_OS_read_46 hl (by decide) rfl (fun ls hl => ?_)
        refine lv_aload_n hx hb d_OS_read_48 rfl (lv_at hl 2 rfl) ?_
        refine va_get (D := (dC, dI)) (ci := 6) (v := .ref (a 8)) (C := R_OS) (T := F_OS) (N := 8) hx hb hts (fun w h => List.mem_cons_of_mem _ (in_OS w h)) hown hK hP 0 rfl rfl 2 (by decide) (hts _ (List.mem_cons_of_mem _ k_1_112)) (fun _ h9 => h9) rfl d_OS_read_49 ?_
        refine lv_iload_n hx hb d_OS_read_52 rfl (lv_at hl 1 rfl) ?_
        obtain ⟨u4, hu4, hf⟩ := z_b hf
        have hPc := zP_cut (wc := (w_LT (fun i => a (8 + i)) (fun i => k (5 + i)) zoutputs_contents zoutputs_makers zoutputs_executables zoutputs_lazies)) 8 13 hP rfl
        have hDc := zD_cut (wc := (w_LT (fun i => a (8 + i)) (fun i => k (5 + i)) zoutputs_contents zoutputs_makers zoutputs_executables zoutputs_lazies)) 8 13 hD rfl
        have hKc := hK.sub (tys' := (t_LT (fun i => k (5 + i)))) [5, 6, 7, 8] rfl
        refine z_ci (va_runV (As := [.int u0]) (rest := []) ⟨hx, hb, hml, hown, hts⟩ (c_LT_isLazy l dC dI N (fun i => a (8 + i)) (fun i => k (5 + i)) zoutputs_contents zoutputs_makers zoutputs_executables zoutputs_lazies u0 hu4 H.size) (cwV 1 hts (zGV zsub_c k_2_27 k_2_28 k_2_29 k_1_4 kc_LT_isLazy) rfl rfl rfl (by decide +kernel) ⟨Nat.le_of_ble_eq_true rfl, Nat.le_of_ble_eq_true rfl⟩) ⟨z_bl, va_recv hKc hPc (ci := 2) (q0 := 0) rfl rfl, fun U hU hW => ⟨rfl, z_pre hN hKc hPc hDc U hU hW⟩⟩ rfl rfl hl.1 rfl (lv_room (Nat.le_of_ble_eq_true rfl)) d_OS_read_53 ⟨Nat.zero_le _, Nat.zero_le _⟩) 8 13 (w_OS a k zpaths_outer zpaths_count zsteps_targets zsteps_configurations zsteps_runs zsteps_opened zsteps_count zoutputs_contents zoutputs_makers zoutputs_executables zoutputs_lazies zstaged_contents zstaged_makers zstaged_executables zstaged_lazies zcached_contents zcached_count zholds_contents zholds_count zdirtyMarks_marks zdifferent) hP hD hS hA rfl rfl (fun H locs hP hD hS => ?_)
        refine lv_if_eq (tgt := 96) hx hb d_OS_read_56 (by decide) (fun c4 => ?_) (fun c4 => ?_)
        · have hf := z_t c4 hf
          refine lv_aload_n hx hb d_OS_read_96 rfl (lv_at hl 2 rfl) ?_
          refine va_get (D := (dC, dI)) (ci := 6) (v := .ref (a 8)) (C := R_OS) (T := F_OS) (N := 8) hx hb hts (fun w h => List.mem_cons_of_mem _ (in_OS w h)) hown hK hP 0 rfl rfl 2 (by decide) (hts _ (List.mem_cons_of_mem _ k_1_112)) (fun _ h9 => h9) rfl d_OS_read_97 ?_
          refine lv_iload_n hx hb d_OS_read_100 rfl (lv_at hl 1 rfl) ?_
          obtain ⟨u5, hu5, hf⟩ := z_b hf
          have hPc := zP_cut (wc := (w_LT (fun i => a (8 + i)) (fun i => k (5 + i)) zoutputs_contents zoutputs_makers zoutputs_executables zoutputs_lazies)) 8 13 hP rfl
          have hDc := zD_cut (wc := (w_LT (fun i => a (8 + i)) (fun i => k (5 + i)) zoutputs_contents zoutputs_makers zoutputs_executables zoutputs_lazies)) 8 13 hD rfl
          have hKc := hK.sub (tys' := (t_LT (fun i => k (5 + i)))) [5, 6, 7, 8] rfl
          refine z_cv (va_runV (As := [.int u0]) (rest := []) ⟨hx, hb, hml, hown, hts⟩ (c_LT_makeThere l dC dI N (fun i => a (8 + i)) (fun i => k (5 + i)) zoutputs_contents zoutputs_makers zoutputs_executables zoutputs_lazies u0 hu5 H.size) (cwV 1 hts (zGV zsub_c k_2_78 k_2_79 k_2_80 k_1_4 kc_LT_makeThere) rfl rfl rfl (by decide +kernel) ⟨Nat.le_of_ble_eq_true rfl, Nat.le_of_ble_eq_true rfl⟩) ⟨z_bl, va_recv hKc hPc (ci := 2) (q0 := 0) rfl rfl, fun U hU hW => ⟨rfl, z_pre hN hKc hPc hDc U hU hW⟩⟩ rfl rfl hl.1 rfl (lv_room (Nat.le_of_ble_eq_true rfl)) d_OS_read_101 ⟨Nat.zero_le _, Nat.zero_le _⟩) 8 13 (w_OS a k zpaths_outer zpaths_count zsteps_targets zsteps_configurations zsteps_runs zsteps_opened zsteps_count zoutputs_contents zoutputs_makers zoutputs_executables u5 zstaged_contents zstaged_makers zstaged_executables zstaged_lazies zcached_contents zcached_count zholds_contents zholds_count zdirtyMarks_marks zdifferent) hP hD hS hA rfl rfl (fun H locs hP hD hS => ?_)
          refine lv_aload_n hx hb d_OS_read_104 rfl (lv_at hl 2 rfl) ?_
          refine va_get (D := (dC, dI)) (ci := 6) (v := .ref (a 20)) (C := R_OS) (T := F_OS) (N := 8) hx hb hts (fun w h => List.mem_cons_of_mem _ (in_OS w h)) hown hK hP 0 rfl rfl 5 (by decide) (hts _ (List.mem_cons_of_mem _ k_1_115)) (fun _ h9 => h9) rfl d_OS_read_105 ?_
          refine lv_lload hx hb d_OS_read_108 (lv_at hl 0 rfl) ?_
          obtain ⟨u6, hu6, hf⟩ := z_b hf
          have hPc := zP_cut (wc := (w_HB (fun i => a (20 + i)) (fun i => k (14 + i)) zholds_contents zholds_count)) 20 22 hP rfl
          have hDc := zD_cut (wc := (w_HB (fun i => a (20 + i)) (fun i => k (14 + i)) zholds_contents zholds_count)) 20 22 hD rfl
          have hKc := hK.sub (tys' := (t_HB (fun i => k (14 + i)))) [14] rfl
          refine z_ci (va_runV (As := [.long u3]) (rest := []) ⟨hx, hb, hml, hown, hts⟩ (c_HB_take l dC dI N (fun i => a (20 + i)) (fun i => k (14 + i)) zholds_contents zholds_count u3 hu6 H.size) (cwV 1 hts (zGV zsub_c k_2_82 k_2_83 k_2_84 k_1_6 kc_HB_take) rfl rfl rfl (by decide +kernel) ⟨Nat.le_of_ble_eq_true rfl, Nat.le_of_ble_eq_true rfl⟩) ⟨z_bl, va_recv hKc hPc (ci := 4) (q0 := 0) rfl rfl, fun U hU hW => ⟨rfl, z_pre hN hKc hPc hDc U hU hW⟩⟩ rfl rfl hl.1 rfl (lv_room (Nat.le_of_ble_eq_true rfl)) d_OS_read_110 ⟨Nat.zero_le _, Nat.zero_le _⟩) 20 22 (w_OS a k zpaths_outer zpaths_count zsteps_targets zsteps_configurations zsteps_runs zsteps_opened zsteps_count zoutputs_contents zoutputs_makers zoutputs_executables u5 zstaged_contents zstaged_makers zstaged_executables zstaged_lazies zcached_contents zcached_count u6.2.1 u6.2.2 zdirtyMarks_marks zdifferent) hP hD hS hA rfl rfl (fun H locs hP hD hS => ?_)
          obtain rfl := Option.some.inj hf
          exact z_iret hx hb hr hP hD hS d_OS_read_113 hlocks
        · have hf := z_f c4 hf
          refine lv_aload_n hx hb d_OS_read_59 rfl (lv_at hl 2 rfl) ?_
          refine va_get (D := (dC, dI)) (ci := 6) (v := .ref (a 18)) (C := R_OS) (T := F_OS) (N := 8) hx hb hts (fun w h => List.mem_cons_of_mem _ (in_OS w h)) hown hK hP 0 rfl rfl 4 (by decide) (hts _ (List.mem_cons_of_mem _ k_1_114)) (fun _ h9 => h9) rfl d_OS_read_60 ?_
          refine lv_lload hx hb d_OS_read_63 (lv_at hl 0 rfl) ?_
          obtain ⟨u7, hu7, hf⟩ := z_b hf
          have hPc := zP_cut (wc := (w_CS (fun i => a (18 + i)) (fun i => k (13 + i)) zcached_contents zcached_count)) 18 20 hP rfl
          have hDc := zD_cut (wc := (w_CS (fun i => a (18 + i)) (fun i => k (13 + i)) zcached_contents zcached_count)) 18 20 hD rfl
          have hKc := hK.sub (tys' := (t_CS (fun i => k (13 + i)))) [13] rfl
          refine z_ci (va_runV (As := [.long u3]) (rest := []) ⟨hx, hb, hml, hown, hts⟩ (c_CS_has l dC dI N (fun i => a (18 + i)) (fun i => k (13 + i)) zcached_contents zcached_count u3 hu7 H.size) (cwV 1 hts (zGV zsub_c k_2_0 k_2_1 k_2_2 k_1_5 kc_CS_has) rfl rfl rfl (by decide +kernel) ⟨Nat.le_of_ble_eq_true rfl, Nat.le_of_ble_eq_true rfl⟩) ⟨z_bl, va_recv hKc hPc (ci := 3) (q0 := 0) rfl rfl, fun U hU hW => ⟨rfl, z_pre hN hKc hPc hDc U hU hW⟩⟩ rfl rfl hl.1 rfl (lv_room (Nat.le_of_ble_eq_true rfl)) d_OS_read_65 ⟨Nat.zero_le _, Nat.zero_le _⟩) 18 20 (w_OS a k zpaths_outer zpaths_count zsteps_targets zsteps_configurations zsteps_runs zsteps_opened zsteps_count zoutputs_contents zoutputs_makers zoutputs_executables zoutputs_lazies zstaged_contents zstaged_makers zstaged_executables zstaged_lazies zcached_contents zcached_count zholds_contents zholds_count zdirtyMarks_marks zdifferent) hP hD hS hA rfl rfl (fun H locs hP hD hS => ?_)
          refine lv_if_ne (tgt := 96) hx hb d_OS_read_68 (by decide) (fun c5 => ?_) (fun c5 => ?_)
          · have hf := z_t c5 hf
            refine lv_aload_n hx hb d_OS_read_96 rfl (lv_at hl 2 rfl) ?_
            refine va_get (D := (dC, dI)) (ci := 6) (v := .ref (a 8)) (C := R_OS) (T := F_OS) (N := 8) hx hb hts (fun w h => List.mem_cons_of_mem _ (in_OS w h)) hown hK hP 0 rfl rfl 2 (by decide) (hts _ (List.mem_cons_of_mem _ k_1_112)) (fun _ h9 => h9) rfl d_OS_read_97 ?_
            refine lv_iload_n hx hb d_OS_read_100 rfl (lv_at hl 1 rfl) ?_
            obtain ⟨u8, hu8, hf⟩ := z_b hf
            have hPc := zP_cut (wc := (w_LT (fun i => a (8 + i)) (fun i => k (5 + i)) zoutputs_contents zoutputs_makers zoutputs_executables zoutputs_lazies)) 8 13 hP rfl
            have hDc := zD_cut (wc := (w_LT (fun i => a (8 + i)) (fun i => k (5 + i)) zoutputs_contents zoutputs_makers zoutputs_executables zoutputs_lazies)) 8 13 hD rfl
            have hKc := hK.sub (tys' := (t_LT (fun i => k (5 + i)))) [5, 6, 7, 8] rfl
            refine z_cv (va_runV (As := [.int u0]) (rest := []) ⟨hx, hb, hml, hown, hts⟩ (c_LT_makeThere l dC dI N (fun i => a (8 + i)) (fun i => k (5 + i)) zoutputs_contents zoutputs_makers zoutputs_executables zoutputs_lazies u0 hu8 H.size) (cwV 1 hts (zGV zsub_c k_2_78 k_2_79 k_2_80 k_1_4 kc_LT_makeThere) rfl rfl rfl (by decide +kernel) ⟨Nat.le_of_ble_eq_true rfl, Nat.le_of_ble_eq_true rfl⟩) ⟨z_bl, va_recv hKc hPc (ci := 2) (q0 := 0) rfl rfl, fun U hU hW => ⟨rfl, z_pre hN hKc hPc hDc U hU hW⟩⟩ rfl rfl hl.1 rfl (lv_room (Nat.le_of_ble_eq_true rfl)) d_OS_read_101 ⟨Nat.zero_le _, Nat.zero_le _⟩) 8 13 (w_OS a k zpaths_outer zpaths_count zsteps_targets zsteps_configurations zsteps_runs zsteps_opened zsteps_count zoutputs_contents zoutputs_makers zoutputs_executables u8 zstaged_contents zstaged_makers zstaged_executables zstaged_lazies zcached_contents zcached_count zholds_contents zholds_count zdirtyMarks_marks zdifferent) hP hD hS hA rfl rfl (fun H locs hP hD hS => ?_)
            refine lv_aload_n hx hb d_OS_read_104 rfl (lv_at hl 2 rfl) ?_
            refine va_get (D := (dC, dI)) (ci := 6) (v := .ref (a 20)) (C := R_OS) (T := F_OS) (N := 8) hx hb hts (fun w h => List.mem_cons_of_mem _ (in_OS w h)) hown hK hP 0 rfl rfl 5 (by decide) (hts _ (List.mem_cons_of_mem _ k_1_115)) (fun _ h9 => h9) rfl d_OS_read_105 ?_
            refine lv_lload hx hb d_OS_read_108 (lv_at hl 0 rfl) ?_
            obtain ⟨u9, hu9, hf⟩ := z_b hf
            have hPc := zP_cut (wc := (w_HB (fun i => a (20 + i)) (fun i => k (14 + i)) zholds_contents zholds_count)) 20 22 hP rfl
            have hDc := zD_cut (wc := (w_HB (fun i => a (20 + i)) (fun i => k (14 + i)) zholds_contents zholds_count)) 20 22 hD rfl
            have hKc := hK.sub (tys' := (t_HB (fun i => k (14 + i)))) [14] rfl
            refine z_ci (va_runV (As := [.long u3]) (rest := []) ⟨hx, hb, hml, hown, hts⟩ (c_HB_take l dC dI N (fun i => a (20 + i)) (fun i => k (14 + i)) zholds_contents zholds_count u3 hu9 H.size) (cwV 1 hts (zGV zsub_c k_2_82 k_2_83 k_2_84 k_1_6 kc_HB_take) rfl rfl rfl (by decide +kernel) ⟨Nat.le_of_ble_eq_true rfl, Nat.le_of_ble_eq_true rfl⟩) ⟨z_bl, va_recv hKc hPc (ci := 4) (q0 := 0) rfl rfl, fun U hU hW => ⟨rfl, z_pre hN hKc hPc hDc U hU hW⟩⟩ rfl rfl hl.1 rfl (lv_room (Nat.le_of_ble_eq_true rfl)) d_OS_read_110 ⟨Nat.zero_le _, Nat.zero_le _⟩) 20 22 (w_OS a k zpaths_outer zpaths_count zsteps_targets zsteps_configurations zsteps_runs zsteps_opened zsteps_count zoutputs_contents zoutputs_makers zoutputs_executables u8 zstaged_contents zstaged_makers zstaged_executables zstaged_lazies zcached_contents zcached_count u9.2.1 u9.2.2 zdirtyMarks_marks zdifferent) hP hD hS hA rfl rfl (fun H locs hP hD hS => ?_)
            obtain rfl := Option.some.inj hf
            exact z_iret hx hb hr hP hD hS d_OS_read_113 hlocks
          · have hf := z_fn c5 hf
            refine lv_aload_n hx hb d_OS_read_71 rfl (lv_at hl 2 rfl) ?_
            refine va_get (D := (dC, dI)) (ci := 6) (v := .ref (a 22)) (C := R_OS) (T := F_OS) (N := 8) hx hb hts (fun w h => List.mem_cons_of_mem _ (in_OS w h)) hown hK hP 0 rfl rfl 6 (by decide) (hts _ (List.mem_cons_of_mem _ k_1_116)) (fun _ h9 => h9) rfl d_OS_read_72 ?_
            refine lv_aload_n hx hb d_OS_read_75 rfl (lv_at hl 2 rfl) ?_
            refine lv_iload_n hx hb d_OS_read_76 rfl (lv_at hl 1 rfl) ?_
            obtain ⟨u10, hu10, hf⟩ := z_b hf
            have hPc := hP
            have hDc := hD
            have hKc := hK
            refine z_cwi (va_runV (As := [.int u0]) (rest := [.ref (a 22)]) ⟨hx, hb, hml, hown, hts⟩ (c_OS_targetAt l dC dI N a k zpaths_outer zpaths_count zsteps_targets zsteps_configurations zsteps_runs zsteps_opened zsteps_count zoutputs_contents zoutputs_makers zoutputs_executables zoutputs_lazies zstaged_contents zstaged_makers zstaged_executables zstaged_lazies zcached_contents zcached_count zholds_contents zholds_count zdirtyMarks_marks zdifferent u0 hu10 H.size) (cwV 1 hts (zGV zsub_c k_1_216 k_1_218 s_OS_targetAt k_1_1 kc_OS_targetAt) rfl rfl rfl (by decide +kernel) ⟨Nat.le_of_ble_eq_true rfl, Nat.le_of_ble_eq_true rfl⟩) ⟨z_bl, va_recv hKc hPc (ci := 6) (q0 := 0) rfl rfl, fun U hU hW => ⟨rfl, z_pre hN hKc hPc hDc U hU hW⟩⟩ rfl rfl hl.1 rfl (lv_room (Nat.le_of_ble_eq_true rfl)) d_OS_read_77 ⟨Nat.zero_le _, Nat.zero_le _⟩) hD hS hA (fun H locs hP hD hS => ?_)
            refine lv_iload_n hx hb d_OS_read_80 rfl (lv_at hl 3 rfl) ?_
            refine lv_iconst (v := (1 : Int32)) hx hb d_OS_read_81 (by decide) ?_
            obtain ⟨u11, hu11, hf⟩ := z_b hf
            have hPc := zP_cut (wc := (w_DM (fun i => a (22 + i)) (fun i => k (15 + i)) zdirtyMarks_marks)) 22 24 hP rfl
            have hDc := zD_cut (wc := (w_DM (fun i => a (22 + i)) (fun i => k (15 + i)) zdirtyMarks_marks)) 22 24 hD rfl
            have hKc := hK.sub (tys' := (t_DM (fun i => k (15 + i)))) [15] rfl
            refine z_cv (va_runV (As := [.int u10, .int p1, .int (1 : Int32)]) (rest := []) ⟨hx, hb, hml, hown, hts⟩ (c_DM_set l dC dI N (fun i => a (22 + i)) (fun i => k (15 + i)) zdirtyMarks_marks u10 p1 (1 : Int32) hu11 H.size) (cwV 3 hts (zGV zsub_c k_2_35 k_2_36 k_2_37 k_1_7 kc_DM_set) rfl rfl rfl (by decide +kernel) ⟨Nat.le_of_ble_eq_true rfl, Nat.le_of_ble_eq_true rfl⟩) ⟨z_bl, va_recv hKc hPc (ci := 5) (q0 := 0) rfl rfl, fun U hU hW => ⟨rfl, z_pre hN hKc hPc hDc U hU hW⟩⟩ rfl rfl hl.1 rfl (lv_room (Nat.le_of_ble_eq_true rfl)) d_OS_read_82 ⟨Nat.zero_le _, Nat.zero_le _⟩) 22 24 (w_OS a k zpaths_outer zpaths_count zsteps_targets zsteps_configurations zsteps_runs zsteps_opened zsteps_count zoutputs_contents zoutputs_makers zoutputs_executables zoutputs_lazies zstaged_contents zstaged_makers zstaged_executables zstaged_lazies zcached_contents zcached_count zholds_contents zholds_count u11 zdifferent) hP hD hS hA rfl rfl (fun H locs hP hD hS => ?_)
            refine lv_aload_n hx hb d_OS_read_85 rfl (lv_at hl 2 rfl) ?_
            refine va_get (D := (dC, dI)) (ci := 6) (v := .ref (a 8)) (C := R_OS) (T := F_OS) (N := 8) hx hb hts (fun w h => List.mem_cons_of_mem _ (in_OS w h)) hown hK hP 0 rfl rfl 2 (by decide) (hts _ (List.mem_cons_of_mem _ k_1_112)) (fun _ h9 => h9) rfl d_OS_read_86 ?_
            refine lv_iload_n hx hb d_OS_read_89 rfl (lv_at hl 1 rfl) ?_
            obtain ⟨u12, hu12, hf⟩ := z_b hf
            have hPc := zP_cut (wc := (w_LT (fun i => a (8 + i)) (fun i => k (5 + i)) zoutputs_contents zoutputs_makers zoutputs_executables zoutputs_lazies)) 8 13 hP rfl
            have hDc := zD_cut (wc := (w_LT (fun i => a (8 + i)) (fun i => k (5 + i)) zoutputs_contents zoutputs_makers zoutputs_executables zoutputs_lazies)) 8 13 hD rfl
            have hKc := hK.sub (tys' := (t_LT (fun i => k (5 + i)))) [5, 6, 7, 8] rfl
            refine z_cv (va_runV (As := [.int u0]) (rest := []) ⟨hx, hb, hml, hown, hts⟩ (c_LT_drop l dC dI N (fun i => a (8 + i)) (fun i => k (5 + i)) zoutputs_contents zoutputs_makers zoutputs_executables zoutputs_lazies u0 hu12 H.size) (cwV 1 hts (zGV zsub_c k_2_31 k_2_32 k_2_33 k_1_4 kc_LT_drop) rfl rfl rfl (by decide +kernel) ⟨Nat.le_of_ble_eq_true rfl, Nat.le_of_ble_eq_true rfl⟩) ⟨z_bl, va_recv hKc hPc (ci := 2) (q0 := 0) rfl rfl, fun U hU hW => ⟨rfl, z_pre hN hKc hPc hDc U hU hW⟩⟩ rfl rfl hl.1 rfl (lv_room (Nat.le_of_ble_eq_true rfl)) d_OS_read_90 ⟨Nat.zero_le _, Nat.zero_le _⟩) 8 13 (w_OS a k zpaths_outer zpaths_count zsteps_targets zsteps_configurations zsteps_runs zsteps_opened zsteps_count u12 zoutputs_makers zoutputs_executables zoutputs_lazies zstaged_contents zstaged_makers zstaged_executables zstaged_lazies zcached_contents zcached_count zholds_contents zholds_count u11 zdifferent) hP hD hS hA rfl rfl (fun H locs hP hD hS => ?_)
            refine lv_bipush (v := (-3 : Int32)) hx hb d_OS_read_93 (by decide) ?_
            obtain rfl := Option.some.inj hf
            exact z_iret hx hb hr hP hD hS d_OS_read_95 hlocks
      · have hf := z_fn c3 hf
        refine lv_bipush (v := (-2 : Int32)) hx hb d_OS_read_35 (by decide) ?_
        obtain rfl := Option.some.inj hf
        exact z_iret hx hb hr hP hD hS d_OS_read_37 hlocks
    · have hf := z_f c2 hf
      refine lv_iconst (v := (-1 : Int32)) hx hb d_OS_read_22 (by decide) ?_
      obtain rfl := Option.some.inj hf
      exact z_iret hx hb hr hP hD hS d_OS_read_23 hlocks
set_option maxHeartbeats 4000000 in
set_option maxRecDepth 100000 in
theorem c_OS_held (l : Launch) (dC : Nat → ClassId) (dI : Nat → Nat → Nat) (N : Nat) (a : Nat → Nat) (k : Nat → ClassId) (zpaths_outer : Nat → Int32) (zpaths_count : Int32) (zsteps_targets : Nat → Int32) (zsteps_configurations : Nat → Int32) (zsteps_runs : Nat → Int32) (zsteps_opened : Nat → Int32) (zsteps_count : Int32) (zoutputs_contents : Nat → Int64) (zoutputs_makers : Nat → Int32) (zoutputs_executables : Nat → Int32) (zoutputs_lazies : Nat → Int32) (zstaged_contents : Nat → Int64) (zstaged_makers : Nat → Int32) (zstaged_executables : Nat → Int32) (zstaged_lazies : Nat → Int32) (zcached_contents : Nat → Int64) (zcached_count : Int32) (zholds_contents : Nat → Int64) (zholds_count : Int32) (zdirtyMarks_marks : Nat → Int32) (zdifferent : Nat → Int64) (p1 : Int32) {y : (Int64)} (hf : pf_OS_held N zholds_contents zholds_count p1 = some y) (sz : Nat) : Met l y_OS_held ww_OS_held ({ frames := 2, cells := 0, slots := 0, locals := 42 }) (va_Pc [.ref (a 0), .int p1] (zB (dC, dI) zCl (t_OS k) (w_OS a k zpaths_outer zpaths_count zsteps_targets zsteps_configurations zsteps_runs zsteps_opened zsteps_count zoutputs_contents zoutputs_makers zoutputs_executables zoutputs_lazies zstaged_contents zstaged_makers zstaged_executables zstaged_lazies zcached_contents zcached_count zholds_contents zholds_count zdirtyMarks_marks zdifferent) sz)) (zQl (dC, dI) zCl (w_OS a k zpaths_outer zpaths_count zsteps_targets zsteps_configurations zsteps_runs zsteps_opened zsteps_count zoutputs_contents zoutputs_makers zoutputs_executables zoutputs_lazies zstaged_contents zstaged_makers zstaged_executables zstaged_lazies zcached_contents zcached_count zholds_contents zholds_count zdirtyMarks_marks zdifferent) sz y (w_OS a k zpaths_outer zpaths_count zsteps_targets zsteps_configurations zsteps_runs zsteps_opened zsteps_count zoutputs_contents zoutputs_makers zoutputs_executables zoutputs_lazies zstaged_contents zstaged_makers zstaged_executables zstaged_lazies zcached_contents zcached_count zholds_contents zholds_count zdirtyMarks_marks zdifferent)) 0 0 (va_A (w_OS a k zpaths_outer zpaths_count zsteps_targets zsteps_configurations zsteps_runs zsteps_opened zsteps_count zoutputs_contents zoutputs_makers zoutputs_executables zoutputs_lazies zstaged_contents zstaged_makers zstaged_executables zstaged_lazies zcached_contents zcached_count zholds_contents zholds_count zdirtyMarks_marks zdifferent) sz) := by
  refine Met.ofW (cc := b_OS_held) (maxL := 2) (ret := (some .long)) (by decide) rfl ?_
  intro p e s m args below meth c s₁ B hml hv
  obtain ⟨rfl, rfl, hP, hK, hD, hN⟩ := hv
  have hx := B.exec
  have hb := B.bytes
  have hr := B.returns
  have hts := atoms_spec (ws := ww_OS_held) B.pre
  have hown : s.vm.findClass R_OS = some m.cls := findClass_of_methodNamed B.named
  have hlocks := B.notSynchronized
  have hA : ∀ q : Nat, s.heap.size ≤ q → va_A (w_OS a k zpaths_outer zpaths_count zsteps_targets zsteps_configurations zsteps_runs zsteps_opened zsteps_count zoutputs_contents zoutputs_makers zoutputs_executables zoutputs_lazies zstaged_contents zstaged_makers zstaged_executables zstaged_lazies zcached_contents zcached_count zholds_contents zholds_count zdirtyMarks_marks zdifferent) s.heap.size q := fun q h => Or.inr h
  refine z_start (lv := [(0, .ref (a 0)), (1, .int p1)]) (Nat.le_of_ble_eq_true rfl) rfl hP hD (fun H locs ls hP hD hS hl => ?_)
  unfold pf_OS_held at hf
  refine lv_aload_n hx hb d_OS_held_0 rfl (lv_at hl 0 rfl) ?_
  refine va_get (D := (dC, dI)) (ci := 6) (v := .ref (a 20)) (C := R_OS) (T := F_OS) (N := 8) hx hb hts (fun w h => List.mem_cons_of_mem _ (in_OS w h)) hown hK hP 0 rfl rfl 5 (by decide) (hts _ (List.mem_cons_of_mem _ k_1_115)) (fun _ h9 => h9) rfl d_OS_held_1 ?_
  refine lv_iload_n hx hb d_OS_held_4 rfl (lv_at hl 1 rfl) ?_
  obtain ⟨u0, hu0, hf⟩ := z_b hf
  have hPc := zP_cut (wc := (w_HB (fun i => a (20 + i)) (fun i => k (14 + i)) zholds_contents zholds_count)) 20 22 hP rfl
  have hDc := zD_cut (wc := (w_HB (fun i => a (20 + i)) (fun i => k (14 + i)) zholds_contents zholds_count)) 20 22 hD rfl
  have hKc := hK.sub (tys' := (t_HB (fun i => k (14 + i)))) [14] rfl
  refine z_cl (va_runV (As := [.int p1]) (rest := []) ⟨hx, hb, hml, hown, hts⟩ (c_HB_contentOf l dC dI N (fun i => a (20 + i)) (fun i => k (14 + i)) zholds_contents zholds_count p1 hu0 H.size) (cwV 1 hts (zGV zsub_c k_2_91 k_2_92 k_2_93 k_1_6 kc_HB_contentOf) rfl rfl rfl (by decide +kernel) ⟨Nat.le_of_ble_eq_true rfl, Nat.le_of_ble_eq_true rfl⟩) ⟨z_bl, va_recv hKc hPc (ci := 4) (q0 := 0) rfl rfl, fun U hU hW => ⟨rfl, z_pre hN hKc hPc hDc U hU hW⟩⟩ rfl rfl hl.1 rfl (lv_room (Nat.le_of_ble_eq_true rfl)) d_OS_held_5 ⟨Nat.zero_le _, Nat.zero_le _⟩) 20 22 (w_OS a k zpaths_outer zpaths_count zsteps_targets zsteps_configurations zsteps_runs zsteps_opened zsteps_count zoutputs_contents zoutputs_makers zoutputs_executables zoutputs_lazies zstaged_contents zstaged_makers zstaged_executables zstaged_lazies zcached_contents zcached_count zholds_contents zholds_count zdirtyMarks_marks zdifferent) hP hD hS hA rfl rfl (fun H locs hP hD hS => ?_)
  obtain rfl := Option.some.inj hf
  exact z_lret hx hb hr hP hD hS d_OS_held_8 hlocks
set_option maxHeartbeats 4000000 in
set_option maxRecDepth 100000 in
theorem c_OS_letGo (l : Launch) (dC : Nat → ClassId) (dI : Nat → Nat → Nat) (N : Nat) (a : Nat → Nat) (k : Nat → ClassId) (zpaths_outer : Nat → Int32) (zpaths_count : Int32) (zsteps_targets : Nat → Int32) (zsteps_configurations : Nat → Int32) (zsteps_runs : Nat → Int32) (zsteps_opened : Nat → Int32) (zsteps_count : Int32) (zoutputs_contents : Nat → Int64) (zoutputs_makers : Nat → Int32) (zoutputs_executables : Nat → Int32) (zoutputs_lazies : Nat → Int32) (zstaged_contents : Nat → Int64) (zstaged_makers : Nat → Int32) (zstaged_executables : Nat → Int32) (zstaged_lazies : Nat → Int32) (zcached_contents : Nat → Int64) (zcached_count : Int32) (zholds_contents : Nat → Int64) (zholds_count : Int32) (zdirtyMarks_marks : Nat → Int32) (zdifferent : Nat → Int64) (p1 : Int32) {y : (Int32 × (Nat → Int64))} (hf : pf_OS_letGo N zholds_contents zholds_count p1 = some y) (sz : Nat) : Met l y_OS_letGo ww_OS_letGo ({ frames := 2, cells := 0, slots := 0, locals := 42 }) (va_Pc [.ref (a 0), .int p1] (zB (dC, dI) zCl (t_OS k) (w_OS a k zpaths_outer zpaths_count zsteps_targets zsteps_configurations zsteps_runs zsteps_opened zsteps_count zoutputs_contents zoutputs_makers zoutputs_executables zoutputs_lazies zstaged_contents zstaged_makers zstaged_executables zstaged_lazies zcached_contents zcached_count zholds_contents zholds_count zdirtyMarks_marks zdifferent) sz)) (zQi (dC, dI) zCl (w_OS a k zpaths_outer zpaths_count zsteps_targets zsteps_configurations zsteps_runs zsteps_opened zsteps_count zoutputs_contents zoutputs_makers zoutputs_executables zoutputs_lazies zstaged_contents zstaged_makers zstaged_executables zstaged_lazies zcached_contents zcached_count zholds_contents zholds_count zdirtyMarks_marks zdifferent) sz y.1 (w_OS a k zpaths_outer zpaths_count zsteps_targets zsteps_configurations zsteps_runs zsteps_opened zsteps_count zoutputs_contents zoutputs_makers zoutputs_executables zoutputs_lazies zstaged_contents zstaged_makers zstaged_executables zstaged_lazies zcached_contents zcached_count y.2 zholds_count zdirtyMarks_marks zdifferent)) 0 0 (va_A (w_OS a k zpaths_outer zpaths_count zsteps_targets zsteps_configurations zsteps_runs zsteps_opened zsteps_count zoutputs_contents zoutputs_makers zoutputs_executables zoutputs_lazies zstaged_contents zstaged_makers zstaged_executables zstaged_lazies zcached_contents zcached_count zholds_contents zholds_count zdirtyMarks_marks zdifferent) sz) := by
  refine Met.ofW (cc := b_OS_letGo) (maxL := 2) (ret := (some .boolean)) (by decide) rfl ?_
  intro p e s m args below meth c s₁ B hml hv
  obtain ⟨rfl, rfl, hP, hK, hD, hN⟩ := hv
  have hx := B.exec
  have hb := B.bytes
  have hr := B.returns
  have hts := atoms_spec (ws := ww_OS_letGo) B.pre
  have hown : s.vm.findClass R_OS = some m.cls := findClass_of_methodNamed B.named
  have hlocks := B.notSynchronized
  have hA : ∀ q : Nat, s.heap.size ≤ q → va_A (w_OS a k zpaths_outer zpaths_count zsteps_targets zsteps_configurations zsteps_runs zsteps_opened zsteps_count zoutputs_contents zoutputs_makers zoutputs_executables zoutputs_lazies zstaged_contents zstaged_makers zstaged_executables zstaged_lazies zcached_contents zcached_count zholds_contents zholds_count zdirtyMarks_marks zdifferent) s.heap.size q := fun q h => Or.inr h
  refine z_start (lv := [(0, .ref (a 0)), (1, .int p1)]) (Nat.le_of_ble_eq_true rfl) rfl hP hD (fun H locs ls hP hD hS hl => ?_)
  unfold pf_OS_letGo at hf
  refine lv_aload_n hx hb d_OS_letGo_0 rfl (lv_at hl 0 rfl) ?_
  refine va_get (D := (dC, dI)) (ci := 6) (v := .ref (a 20)) (C := R_OS) (T := F_OS) (N := 8) hx hb hts (fun w h => List.mem_cons_of_mem _ (in_OS w h)) hown hK hP 0 rfl rfl 5 (by decide) (hts _ (List.mem_cons_of_mem _ k_1_115)) (fun _ h9 => h9) rfl d_OS_letGo_1 ?_
  refine lv_iload_n hx hb d_OS_letGo_4 rfl (lv_at hl 1 rfl) ?_
  obtain ⟨u0, hu0, hf⟩ := z_b hf
  have hPc := zP_cut (wc := (w_HB (fun i => a (20 + i)) (fun i => k (14 + i)) zholds_contents zholds_count)) 20 22 hP rfl
  have hDc := zD_cut (wc := (w_HB (fun i => a (20 + i)) (fun i => k (14 + i)) zholds_contents zholds_count)) 20 22 hD rfl
  have hKc := hK.sub (tys' := (t_HB (fun i => k (14 + i)))) [14] rfl
  refine z_ci (va_runV (As := [.int p1]) (rest := []) ⟨hx, hb, hml, hown, hts⟩ (c_HB_release l dC dI N (fun i => a (20 + i)) (fun i => k (14 + i)) zholds_contents zholds_count p1 hu0 H.size) (cwV 1 hts (zGV zsub_c k_2_103 k_2_104 k_2_105 k_1_6 kc_HB_release) rfl rfl rfl (by decide +kernel) ⟨Nat.le_of_ble_eq_true rfl, Nat.le_of_ble_eq_true rfl⟩) ⟨z_bl, va_recv hKc hPc (ci := 4) (q0 := 0) rfl rfl, fun U hU hW => ⟨rfl, z_pre hN hKc hPc hDc U hU hW⟩⟩ rfl rfl hl.1 rfl (lv_room (Nat.le_of_ble_eq_true rfl)) d_OS_letGo_5 ⟨Nat.zero_le _, Nat.zero_le _⟩) 20 22 (w_OS a k zpaths_outer zpaths_count zsteps_targets zsteps_configurations zsteps_runs zsteps_opened zsteps_count zoutputs_contents zoutputs_makers zoutputs_executables zoutputs_lazies zstaged_contents zstaged_makers zstaged_executables zstaged_lazies zcached_contents zcached_count u0.2 zholds_count zdirtyMarks_marks zdifferent) hP hD hS hA rfl rfl (fun H locs hP hD hS => ?_)
  obtain ⟨b1, hf⟩ := z_zb hf
  obtain rfl := Option.some.inj hf
  exact z_zret hx hb hr b1 hP hD hS d_OS_letGo_8 hlocks
set_option maxHeartbeats 4000000 in
set_option maxRecDepth 100000 in
theorem c_OS_content (l : Launch) (dC : Nat → ClassId) (dI : Nat → Nat → Nat) (N : Nat) (a : Nat → Nat) (k : Nat → ClassId) (zpaths_outer : Nat → Int32) (zpaths_count : Int32) (zsteps_targets : Nat → Int32) (zsteps_configurations : Nat → Int32) (zsteps_runs : Nat → Int32) (zsteps_opened : Nat → Int32) (zsteps_count : Int32) (zoutputs_contents : Nat → Int64) (zoutputs_makers : Nat → Int32) (zoutputs_executables : Nat → Int32) (zoutputs_lazies : Nat → Int32) (zstaged_contents : Nat → Int64) (zstaged_makers : Nat → Int32) (zstaged_executables : Nat → Int32) (zstaged_lazies : Nat → Int32) (zcached_contents : Nat → Int64) (zcached_count : Int32) (zholds_contents : Nat → Int64) (zholds_count : Int32) (zdirtyMarks_marks : Nat → Int32) (zdifferent : Nat → Int64) (p1 : Int32) (p2 : Int32) {y : (Int64)} (hf : pf_OS_content N zpaths_count zoutputs_contents p1 p2 = some y) (sz : Nat) : Met l y_OS_content ww_OS_content ({ frames := 2, cells := 0, slots := 0, locals := 43 }) (va_Pc [.ref (a 0), .int p1, .int p2] (zB (dC, dI) zCl (t_OS k) (w_OS a k zpaths_outer zpaths_count zsteps_targets zsteps_configurations zsteps_runs zsteps_opened zsteps_count zoutputs_contents zoutputs_makers zoutputs_executables zoutputs_lazies zstaged_contents zstaged_makers zstaged_executables zstaged_lazies zcached_contents zcached_count zholds_contents zholds_count zdirtyMarks_marks zdifferent) sz)) (zQl (dC, dI) zCl (w_OS a k zpaths_outer zpaths_count zsteps_targets zsteps_configurations zsteps_runs zsteps_opened zsteps_count zoutputs_contents zoutputs_makers zoutputs_executables zoutputs_lazies zstaged_contents zstaged_makers zstaged_executables zstaged_lazies zcached_contents zcached_count zholds_contents zholds_count zdirtyMarks_marks zdifferent) sz y (w_OS a k zpaths_outer zpaths_count zsteps_targets zsteps_configurations zsteps_runs zsteps_opened zsteps_count zoutputs_contents zoutputs_makers zoutputs_executables zoutputs_lazies zstaged_contents zstaged_makers zstaged_executables zstaged_lazies zcached_contents zcached_count zholds_contents zholds_count zdirtyMarks_marks zdifferent)) 0 0 (va_A (w_OS a k zpaths_outer zpaths_count zsteps_targets zsteps_configurations zsteps_runs zsteps_opened zsteps_count zoutputs_contents zoutputs_makers zoutputs_executables zoutputs_lazies zstaged_contents zstaged_makers zstaged_executables zstaged_lazies zcached_contents zcached_count zholds_contents zholds_count zdirtyMarks_marks zdifferent) sz) := by
  refine Met.ofW (cc := b_OS_content) (maxL := 3) (ret := (some .long)) (by decide) rfl ?_
  intro p e s m args below meth c s₁ B hml hv
  obtain ⟨rfl, rfl, hP, hK, hD, hN⟩ := hv
  have hx := B.exec
  have hb := B.bytes
  have hr := B.returns
  have hts := atoms_spec (ws := ww_OS_content) B.pre
  have hown : s.vm.findClass R_OS = some m.cls := findClass_of_methodNamed B.named
  have hlocks := B.notSynchronized
  have hA : ∀ q : Nat, s.heap.size ≤ q → va_A (w_OS a k zpaths_outer zpaths_count zsteps_targets zsteps_configurations zsteps_runs zsteps_opened zsteps_count zoutputs_contents zoutputs_makers zoutputs_executables zoutputs_lazies zstaged_contents zstaged_makers zstaged_executables zstaged_lazies zcached_contents zcached_count zholds_contents zholds_count zdirtyMarks_marks zdifferent) s.heap.size q := fun q h => Or.inr h
  refine z_start (lv := [(0, .ref (a 0)), (1, .int p1), (2, .int p2)]) (Nat.le_of_ble_eq_true rfl) rfl hP hD (fun H locs ls hP hD hS hl => ?_)
  unfold pf_OS_content at hf
  refine lv_aload_n hx hb d_OS_content_0 rfl (lv_at hl 0 rfl) ?_
  refine va_get (D := (dC, dI)) (ci := 6) (v := .ref (a 8)) (C := R_OS) (T := F_OS) (N := 8) hx hb hts (fun w h => List.mem_cons_of_mem _ (in_OS w h)) hown hK hP 0 rfl rfl 2 (by decide) (hts _ (List.mem_cons_of_mem _ k_1_112)) (fun _ h9 => h9) rfl d_OS_content_1 ?_
  refine lv_aload_n hx hb d_OS_content_4 rfl (lv_at hl 0 rfl) ?_
  refine lv_iload_n hx hb d_OS_content_5 rfl (lv_at hl 1 rfl) ?_
  refine lv_iload_n hx hb d_OS_content_6 rfl (lv_at hl 2 rfl) ?_
  obtain ⟨u0, hu0, hf⟩ := z_b hf
  have hPc := hP
  have hDc := hD
  have hKc := hK
  refine z_cwi (va_runV (As := [.int p1, .int p2]) (rest := [.ref (a 8)]) ⟨hx, hb, hml, hown, hts⟩ (c_OS_slotOf l dC dI N a k zpaths_outer zpaths_count zsteps_targets zsteps_configurations zsteps_runs zsteps_opened zsteps_count zoutputs_contents zoutputs_makers zoutputs_executables zoutputs_lazies zstaged_contents zstaged_makers zstaged_executables zstaged_lazies zcached_contents zcached_count zholds_contents zholds_count zdirtyMarks_marks zdifferent p1 p2 hu0 H.size) (cwV 2 hts (zGV zsub_c k_1_191 k_1_193 s_OS_slotOf k_1_1 kc_OS_slotOf) rfl rfl rfl (by decide +kernel) ⟨Nat.le_of_ble_eq_true rfl, Nat.le_of_ble_eq_true rfl⟩) ⟨z_bl, va_recv hKc hPc (ci := 6) (q0 := 0) rfl rfl, fun U hU hW => ⟨rfl, z_pre hN hKc hPc hDc U hU hW⟩⟩ rfl rfl hl.1 rfl (lv_room (Nat.le_of_ble_eq_true rfl)) d_OS_content_7 ⟨Nat.zero_le _, Nat.zero_le _⟩) hD hS hA (fun H locs hP hD hS => ?_)
  obtain ⟨u1, hu1, hf⟩ := z_b hf
  have hPc := zP_cut (wc := (w_LT (fun i => a (8 + i)) (fun i => k (5 + i)) zoutputs_contents zoutputs_makers zoutputs_executables zoutputs_lazies)) 8 13 hP rfl
  have hDc := zD_cut (wc := (w_LT (fun i => a (8 + i)) (fun i => k (5 + i)) zoutputs_contents zoutputs_makers zoutputs_executables zoutputs_lazies)) 8 13 hD rfl
  have hKc := hK.sub (tys' := (t_LT (fun i => k (5 + i)))) [5, 6, 7, 8] rfl
  refine z_cl (va_runV (As := [.int u0]) (rest := []) ⟨hx, hb, hml, hown, hts⟩ (c_LT_contentAt l dC dI N (fun i => a (8 + i)) (fun i => k (5 + i)) zoutputs_contents zoutputs_makers zoutputs_executables zoutputs_lazies u0 hu1 H.size) (cwV 1 hts (zGV zsub_c k_2_19 k_2_20 k_2_21 k_1_4 kc_LT_contentAt) rfl rfl rfl (by decide +kernel) ⟨Nat.le_of_ble_eq_true rfl, Nat.le_of_ble_eq_true rfl⟩) ⟨z_bl, va_recv hKc hPc (ci := 2) (q0 := 0) rfl rfl, fun U hU hW => ⟨rfl, z_pre hN hKc hPc hDc U hU hW⟩⟩ rfl rfl hl.1 rfl (lv_room (Nat.le_of_ble_eq_true rfl)) d_OS_content_10 ⟨Nat.zero_le _, Nat.zero_le _⟩) 8 13 (w_OS a k zpaths_outer zpaths_count zsteps_targets zsteps_configurations zsteps_runs zsteps_opened zsteps_count zoutputs_contents zoutputs_makers zoutputs_executables zoutputs_lazies zstaged_contents zstaged_makers zstaged_executables zstaged_lazies zcached_contents zcached_count zholds_contents zholds_count zdirtyMarks_marks zdifferent) hP hD hS hA rfl rfl (fun H locs hP hD hS => ?_)
  obtain rfl := Option.some.inj hf
  exact z_lret hx hb hr hP hD hS d_OS_content_13 hlocks
set_option maxHeartbeats 4000000 in
set_option maxRecDepth 100000 in
theorem c_OS_about (l : Launch) (dC : Nat → ClassId) (dI : Nat → Nat → Nat) (N : Nat) (a : Nat → Nat) (k : Nat → ClassId) (zpaths_outer : Nat → Int32) (zpaths_count : Int32) (zsteps_targets : Nat → Int32) (zsteps_configurations : Nat → Int32) (zsteps_runs : Nat → Int32) (zsteps_opened : Nat → Int32) (zsteps_count : Int32) (zoutputs_contents : Nat → Int64) (zoutputs_makers : Nat → Int32) (zoutputs_executables : Nat → Int32) (zoutputs_lazies : Nat → Int32) (zstaged_contents : Nat → Int64) (zstaged_makers : Nat → Int32) (zstaged_executables : Nat → Int32) (zstaged_lazies : Nat → Int32) (zcached_contents : Nat → Int64) (zcached_count : Int32) (zholds_contents : Nat → Int64) (zholds_count : Int32) (zdirtyMarks_marks : Nat → Int32) (zdifferent : Nat → Int64) (p1 : Int32) (p2 : Int32) (p3 : Int32) {y : (Int32)} (hf : pf_OS_about N zpaths_count zsteps_targets zsteps_count zoutputs_contents zoutputs_makers zoutputs_executables zoutputs_lazies p1 p2 p3 = some y) (sz : Nat) : Met l y_OS_about ww_OS_about ({ frames := 3, cells := 0, slots := 0, locals := 63 }) (va_Pc [.ref (a 0), .int p1, .int p2, .int p3] (zB (dC, dI) zCl (t_OS k) (w_OS a k zpaths_outer zpaths_count zsteps_targets zsteps_configurations zsteps_runs zsteps_opened zsteps_count zoutputs_contents zoutputs_makers zoutputs_executables zoutputs_lazies zstaged_contents zstaged_makers zstaged_executables zstaged_lazies zcached_contents zcached_count zholds_contents zholds_count zdirtyMarks_marks zdifferent) sz)) (zQi (dC, dI) zCl (w_OS a k zpaths_outer zpaths_count zsteps_targets zsteps_configurations zsteps_runs zsteps_opened zsteps_count zoutputs_contents zoutputs_makers zoutputs_executables zoutputs_lazies zstaged_contents zstaged_makers zstaged_executables zstaged_lazies zcached_contents zcached_count zholds_contents zholds_count zdirtyMarks_marks zdifferent) sz y (w_OS a k zpaths_outer zpaths_count zsteps_targets zsteps_configurations zsteps_runs zsteps_opened zsteps_count zoutputs_contents zoutputs_makers zoutputs_executables zoutputs_lazies zstaged_contents zstaged_makers zstaged_executables zstaged_lazies zcached_contents zcached_count zholds_contents zholds_count zdirtyMarks_marks zdifferent)) 0 0 (va_A (w_OS a k zpaths_outer zpaths_count zsteps_targets zsteps_configurations zsteps_runs zsteps_opened zsteps_count zoutputs_contents zoutputs_makers zoutputs_executables zoutputs_lazies zstaged_contents zstaged_makers zstaged_executables zstaged_lazies zcached_contents zcached_count zholds_contents zholds_count zdirtyMarks_marks zdifferent) sz) := by
  refine Met.ofW (cc := b_OS_about) (maxL := 5) (ret := (some .int)) (by decide) rfl ?_
  intro p e s m args below meth c s₁ B hml hv
  obtain ⟨rfl, rfl, hP, hK, hD, hN⟩ := hv
  have hx := B.exec
  have hb := B.bytes
  have hr := B.returns
  have hts := atoms_spec (ws := ww_OS_about) B.pre
  have hown : s.vm.findClass R_OS = some m.cls := findClass_of_methodNamed B.named
  have hlocks := B.notSynchronized
  have hA : ∀ q : Nat, s.heap.size ≤ q → va_A (w_OS a k zpaths_outer zpaths_count zsteps_targets zsteps_configurations zsteps_runs zsteps_opened zsteps_count zoutputs_contents zoutputs_makers zoutputs_executables zoutputs_lazies zstaged_contents zstaged_makers zstaged_executables zstaged_lazies zcached_contents zcached_count zholds_contents zholds_count zdirtyMarks_marks zdifferent) s.heap.size q := fun q h => Or.inr h
  refine z_start (lv := [(0, .ref (a 0)), (1, .int p1), (2, .int p2), (3, .int p3)]) (Nat.le_of_ble_eq_true rfl) rfl hP hD (fun H locs ls hP hD hS hl => ?_)
  unfold pf_OS_about at hf
  refine lv_aload_n hx hb d_OS_about_0 rfl (lv_at hl 0 rfl) ?_
  refine lv_iload_n hx hb d_OS_about_1 rfl (lv_at hl 1 rfl) ?_
  refine lv_iload_n hx hb d_OS_about_2 rfl (lv_at hl 2 rfl) ?_
  obtain ⟨u0, hu0, hf⟩ := z_b hf
  have hPc := hP
  have hDc := hD
  have hKc := hK
  refine z_cwi (va_runV (As := [.int p1, .int p2]) (rest := []) ⟨hx, hb, hml, hown, hts⟩ (c_OS_slotOf l dC dI N a k zpaths_outer zpaths_count zsteps_targets zsteps_configurations zsteps_runs zsteps_opened zsteps_count zoutputs_contents zoutputs_makers zoutputs_executables zoutputs_lazies zstaged_contents zstaged_makers zstaged_executables zstaged_lazies zcached_contents zcached_count zholds_contents zholds_count zdirtyMarks_marks zdifferent p1 p2 hu0 H.size) (cwV 2 hts (zGV zsub_c k_1_191 k_1_193 s_OS_slotOf k_1_1 kc_OS_slotOf) rfl rfl rfl (by decide +kernel) ⟨Nat.le_of_ble_eq_true rfl, Nat.le_of_ble_eq_true rfl⟩) ⟨z_bl, va_recv hKc hPc (ci := 6) (q0 := 0) rfl rfl, fun U hU hW => ⟨rfl, z_pre hN hKc hPc hDc U hU hW⟩⟩ rfl rfl hl.1 rfl (lv_room (Nat.le_of_ble_eq_true rfl)) d_OS_about_3 ⟨Nat.zero_le _, Nat.zero_le _⟩) hD hS hA (fun H locs hP hD hS => ?_)
  refine lv_istore (lv' := [(4, .int u0), (0, .ref (a 0)), (1, .int p1), (2, .int p2), (3, .int p3)]) hx hb d_OS_about_6 hl (by decide) rfl (fun ls hl => ?_)
  refine lv_aload_n hx hb d_OS_about_8 rfl (lv_at hl 1 rfl) ?_
  refine va_get (D := (dC, dI)) (ci := 6) (v := .ref (a 8)) (C := R_OS) (T := F_OS) (N := 8) hx hb hts (fun w h => List.mem_cons_of_mem _ (in_OS w h)) hown hK hP 0 rfl rfl 2 (by decide) (hts _ (List.mem_cons_of_mem _ k_1_112)) (fun _ h9 => h9) rfl d_OS_about_9 ?_
  refine lv_iload hx hb d_OS_about_12 (lv_at hl 0 rfl) ?_
  obtain ⟨u1, hu1, hf⟩ := z_b hf
  have hPc := zP_cut (wc := (w_LT (fun i => a (8 + i)) (fun i => k (5 + i)) zoutputs_contents zoutputs_makers zoutputs_executables zoutputs_lazies)) 8 13 hP rfl
  have hDc := zD_cut (wc := (w_LT (fun i => a (8 + i)) (fun i => k (5 + i)) zoutputs_contents zoutputs_makers zoutputs_executables zoutputs_lazies)) 8 13 hD rfl
  have hKc := hK.sub (tys' := (t_LT (fun i => k (5 + i)))) [5, 6, 7, 8] rfl
  refine z_ci (va_runV (As := [.int u0]) (rest := []) ⟨hx, hb, hml, hown, hts⟩ (c_LT_has l dC dI N (fun i => a (8 + i)) (fun i => k (5 + i)) zoutputs_contents zoutputs_makers zoutputs_executables zoutputs_lazies u0 hu1 H.size) (cwV 1 hts (zGV zsub_c k_1_215 k_1_200 k_1_201 k_1_4 kc_LT_has) rfl rfl rfl (by decide +kernel) ⟨Nat.le_of_ble_eq_true rfl, Nat.le_of_ble_eq_true rfl⟩) ⟨z_bl, va_recv hKc hPc (ci := 2) (q0 := 0) rfl rfl, fun U hU hW => ⟨rfl, z_pre hN hKc hPc hDc U hU hW⟩⟩ rfl rfl hl.1 rfl (lv_room (Nat.le_of_ble_eq_true rfl)) d_OS_about_14 ⟨Nat.zero_le _, Nat.zero_le _⟩) 8 13 (w_OS a k zpaths_outer zpaths_count zsteps_targets zsteps_configurations zsteps_runs zsteps_opened zsteps_count zoutputs_contents zoutputs_makers zoutputs_executables zoutputs_lazies zstaged_contents zstaged_makers zstaged_executables zstaged_lazies zcached_contents zcached_count zholds_contents zholds_count zdirtyMarks_marks zdifferent) hP hD hS hA rfl rfl (fun H locs hP hD hS => ?_)
  refine lv_if_ne (tgt := 22) hx hb d_OS_about_17 (by decide) (fun c1 => ?_) (fun c1 => ?_)
  · have hf := z_t c1 hf
    refine lv_iload_n hx hb d_OS_about_22 rfl (lv_at hl 4 rfl) ?_
    by_cases c2 : p3 = 0
    · have hf := z_t c2 hf
      refine lv_tableIn (off := 29) (tgt := 52) hx hb d_OS_about_23 (by rw [c2]; decide) (by rw [c2]; decide) (by rw [c2]; rfl) (by decide) ?_
      refine lv_aload_n hx hb d_OS_about_52 rfl (lv_at hl 1 rfl) ?_
      refine lv_iload hx hb d_OS_about_53 (lv_at hl 0 rfl) ?_
      obtain ⟨u2, hu2, hf⟩ := z_b hf
      have hPc := hP
      have hDc := hD
      have hKc := hK
      refine z_cwi (va_runV (As := [.int u0]) (rest := []) ⟨hx, hb, hml, hown, hts⟩ (c_OS_targetAt l dC dI N a k zpaths_outer zpaths_count zsteps_targets zsteps_configurations zsteps_runs zsteps_opened zsteps_count zoutputs_contents zoutputs_makers zoutputs_executables zoutputs_lazies zstaged_contents zstaged_makers zstaged_executables zstaged_lazies zcached_contents zcached_count zholds_contents zholds_count zdirtyMarks_marks zdifferent u0 hu2 H.size) (cwV 1 hts (zGV zsub_c k_1_216 k_1_218 s_OS_targetAt k_1_1 kc_OS_targetAt) rfl rfl rfl (by decide +kernel) ⟨Nat.le_of_ble_eq_true rfl, Nat.le_of_ble_eq_true rfl⟩) ⟨z_bl, va_recv hKc hPc (ci := 6) (q0 := 0) rfl rfl, fun U hU hW => ⟨rfl, z_pre hN hKc hPc hDc U hU hW⟩⟩ rfl rfl hl.1 rfl (lv_room (Nat.le_of_ble_eq_true rfl)) d_OS_about_55 ⟨Nat.zero_le _, Nat.zero_le _⟩) hD hS hA (fun H locs hP hD hS => ?_)
      obtain rfl := Option.some.inj hf
      exact z_iret hx hb hr hP hD hS d_OS_about_58 hlocks
    · have hf := z_f c2 hf
      by_cases c3 : p3 = 1
      · have hf := z_t c3 hf
        refine lv_tableIn (off := 36) (tgt := 59) hx hb d_OS_about_23 (by rw [c3]; decide) (by rw [c3]; decide) (by rw [c3]; rfl) (by decide) ?_
        refine lv_aload_n hx hb d_OS_about_59 rfl (lv_at hl 1 rfl) ?_
        refine va_get (D := (dC, dI)) (ci := 6) (v := .ref (a 8)) (C := R_OS) (T := F_OS) (N := 8) hx hb hts (fun w h => List.mem_cons_of_mem _ (in_OS w h)) hown hK hP 0 rfl rfl 2 (by decide) (hts _ (List.mem_cons_of_mem _ k_1_112)) (fun _ h9 => h9) rfl d_OS_about_60 ?_
        refine lv_iload hx hb d_OS_about_63 (lv_at hl 0 rfl) ?_
        obtain ⟨u3, hu3, hf⟩ := z_b hf
        have hPc := zP_cut (wc := (w_LT (fun i => a (8 + i)) (fun i => k (5 + i)) zoutputs_contents zoutputs_makers zoutputs_executables zoutputs_lazies)) 8 13 hP rfl
        have hDc := zD_cut (wc := (w_LT (fun i => a (8 + i)) (fun i => k (5 + i)) zoutputs_contents zoutputs_makers zoutputs_executables zoutputs_lazies)) 8 13 hD rfl
        have hKc := hK.sub (tys' := (t_LT (fun i => k (5 + i)))) [5, 6, 7, 8] rfl
        refine z_ci (va_runV (As := [.int u0]) (rest := []) ⟨hx, hb, hml, hown, hts⟩ (c_LT_isExecutable l dC dI N (fun i => a (8 + i)) (fun i => k (5 + i)) zoutputs_contents zoutputs_makers zoutputs_executables zoutputs_lazies u0 hu3 H.size) (cwV 1 hts (zGV zsub_c k_2_23 k_2_24 k_2_25 k_1_4 kc_LT_isExecutable) rfl rfl rfl (by decide +kernel) ⟨Nat.le_of_ble_eq_true rfl, Nat.le_of_ble_eq_true rfl⟩) ⟨z_bl, va_recv hKc hPc (ci := 2) (q0 := 0) rfl rfl, fun U hU hW => ⟨rfl, z_pre hN hKc hPc hDc U hU hW⟩⟩ rfl rfl hl.1 rfl (lv_room (Nat.le_of_ble_eq_true rfl)) d_OS_about_65 ⟨Nat.zero_le _, Nat.zero_le _⟩) 8 13 (w_OS a k zpaths_outer zpaths_count zsteps_targets zsteps_configurations zsteps_runs zsteps_opened zsteps_count zoutputs_contents zoutputs_makers zoutputs_executables zoutputs_lazies zstaged_contents zstaged_makers zstaged_executables zstaged_lazies zcached_contents zcached_count zholds_contents zholds_count zdirtyMarks_marks zdifferent) hP hD hS hA rfl rfl (fun H locs hP hD hS => ?_)
        refine lv_if_eq (tgt := 75) hx hb d_OS_about_68 (by decide) (fun c4 => ?_) (fun c4 => ?_)
        · have hf := z_t c4 hf
          refine lv_iconst (v := (0 : Int32)) hx hb d_OS_about_75 (by decide) ?_
          obtain rfl := Option.some.inj hf
          exact z_iret hx hb hr hP hD hS d_OS_about_76 hlocks
        · have hf := z_f c4 hf
          refine lv_iconst (v := (1 : Int32)) hx hb d_OS_about_71 (by decide) ?_
          refine lv_goto (tgt := 76) hx hb d_OS_about_72 (by decide) ?_
          obtain rfl := Option.some.inj hf
          exact z_iret hx hb hr hP hD hS d_OS_about_76 hlocks
      · have hf := z_f c3 hf
        by_cases c5 : p3 = 2
        · have hf := z_t c5 hf
          refine lv_tableIn (off := 54) (tgt := 77) hx hb d_OS_about_23 (by rw [c5]; decide) (by rw [c5]; decide) (by rw [c5]; rfl) (by decide) ?_
          refine lv_aload_n hx hb d_OS_about_77 rfl (lv_at hl 1 rfl) ?_
          refine va_get (D := (dC, dI)) (ci := 6) (v := .ref (a 8)) (C := R_OS) (T := F_OS) (N := 8) hx hb hts (fun w h => List.mem_cons_of_mem _ (in_OS w h)) hown hK hP 0 rfl rfl 2 (by decide) (hts _ (List.mem_cons_of_mem _ k_1_112)) (fun _ h9 => h9) rfl d_OS_about_78 ?_
          refine lv_iload hx hb d_OS_about_81 (lv_at hl 0 rfl) ?_
          obtain ⟨u4, hu4, hf⟩ := z_b hf
          have hPc := zP_cut (wc := (w_LT (fun i => a (8 + i)) (fun i => k (5 + i)) zoutputs_contents zoutputs_makers zoutputs_executables zoutputs_lazies)) 8 13 hP rfl
          have hDc := zD_cut (wc := (w_LT (fun i => a (8 + i)) (fun i => k (5 + i)) zoutputs_contents zoutputs_makers zoutputs_executables zoutputs_lazies)) 8 13 hD rfl
          have hKc := hK.sub (tys' := (t_LT (fun i => k (5 + i)))) [5, 6, 7, 8] rfl
          refine z_ci (va_runV (As := [.int u0]) (rest := []) ⟨hx, hb, hml, hown, hts⟩ (c_LT_isLazy l dC dI N (fun i => a (8 + i)) (fun i => k (5 + i)) zoutputs_contents zoutputs_makers zoutputs_executables zoutputs_lazies u0 hu4 H.size) (cwV 1 hts (zGV zsub_c k_2_27 k_2_28 k_2_29 k_1_4 kc_LT_isLazy) rfl rfl rfl (by decide +kernel) ⟨Nat.le_of_ble_eq_true rfl, Nat.le_of_ble_eq_true rfl⟩) ⟨z_bl, va_recv hKc hPc (ci := 2) (q0 := 0) rfl rfl, fun U hU hW => ⟨rfl, z_pre hN hKc hPc hDc U hU hW⟩⟩ rfl rfl hl.1 rfl (lv_room (Nat.le_of_ble_eq_true rfl)) d_OS_about_83 ⟨Nat.zero_le _, Nat.zero_le _⟩) 8 13 (w_OS a k zpaths_outer zpaths_count zsteps_targets zsteps_configurations zsteps_runs zsteps_opened zsteps_count zoutputs_contents zoutputs_makers zoutputs_executables zoutputs_lazies zstaged_contents zstaged_makers zstaged_executables zstaged_lazies zcached_contents zcached_count zholds_contents zholds_count zdirtyMarks_marks zdifferent) hP hD hS hA rfl rfl (fun H locs hP hD hS => ?_)
          refine lv_if_eq (tgt := 93) hx hb d_OS_about_86 (by decide) (fun c6 => ?_) (fun c6 => ?_)
          · have hf := z_t c6 hf
            refine lv_iconst (v := (1 : Int32)) hx hb d_OS_about_93 (by decide) ?_
            obtain rfl := Option.some.inj hf
            exact z_iret hx hb hr hP hD hS d_OS_about_94 hlocks
          · have hf := z_f c6 hf
            refine lv_iconst (v := (0 : Int32)) hx hb d_OS_about_89 (by decide) ?_
            refine lv_goto (tgt := 94) hx hb d_OS_about_90 (by decide) ?_
            obtain rfl := Option.some.inj hf
            exact z_iret hx hb hr hP hD hS d_OS_about_94 hlocks
        · have hf := z_f c5 hf
          by_cases c7 : p3 = 3
          · have hf := z_t c7 hf
            refine lv_tableIn (off := 72) (tgt := 95) hx hb d_OS_about_23 (by rw [c7]; decide) (by rw [c7]; decide) (by rw [c7]; rfl) (by decide) ?_
            refine lv_aload_n hx hb d_OS_about_95 rfl (lv_at hl 1 rfl) ?_
            refine va_get (D := (dC, dI)) (ci := 6) (v := .ref (a 8)) (C := R_OS) (T := F_OS) (N := 8) hx hb hts (fun w h => List.mem_cons_of_mem _ (in_OS w h)) hown hK hP 0 rfl rfl 2 (by decide) (hts _ (List.mem_cons_of_mem _ k_1_112)) (fun _ h9 => h9) rfl d_OS_about_96 ?_
            refine lv_iload hx hb d_OS_about_99 (lv_at hl 0 rfl) ?_
            obtain ⟨u5, hu5, hf⟩ := z_b hf
            have hPc := zP_cut (wc := (w_LT (fun i => a (8 + i)) (fun i => k (5 + i)) zoutputs_contents zoutputs_makers zoutputs_executables zoutputs_lazies)) 8 13 hP rfl
            have hDc := zD_cut (wc := (w_LT (fun i => a (8 + i)) (fun i => k (5 + i)) zoutputs_contents zoutputs_makers zoutputs_executables zoutputs_lazies)) 8 13 hD rfl
            have hKc := hK.sub (tys' := (t_LT (fun i => k (5 + i)))) [5, 6, 7, 8] rfl
            refine z_ci (va_runV (As := [.int u0]) (rest := []) ⟨hx, hb, hml, hown, hts⟩ (c_LT_stepAt l dC dI N (fun i => a (8 + i)) (fun i => k (5 + i)) zoutputs_contents zoutputs_makers zoutputs_executables zoutputs_lazies u0 hu5 H.size) (cwV 1 hts (zGV zsub_c k_1_220 k_1_221 k_1_222 k_1_4 kc_LT_stepAt) rfl rfl rfl (by decide +kernel) ⟨Nat.le_of_ble_eq_true rfl, Nat.le_of_ble_eq_true rfl⟩) ⟨z_bl, va_recv hKc hPc (ci := 2) (q0 := 0) rfl rfl, fun U hU hW => ⟨rfl, z_pre hN hKc hPc hDc U hU hW⟩⟩ rfl rfl hl.1 rfl (lv_room (Nat.le_of_ble_eq_true rfl)) d_OS_about_101 ⟨Nat.zero_le _, Nat.zero_le _⟩) 8 13 (w_OS a k zpaths_outer zpaths_count zsteps_targets zsteps_configurations zsteps_runs zsteps_opened zsteps_count zoutputs_contents zoutputs_makers zoutputs_executables zoutputs_lazies zstaged_contents zstaged_makers zstaged_executables zstaged_lazies zcached_contents zcached_count zholds_contents zholds_count zdirtyMarks_marks zdifferent) hP hD hS hA rfl rfl (fun H locs hP hD hS => ?_)
            obtain rfl := Option.some.inj hf
            exact z_iret hx hb hr hP hD hS d_OS_about_104 hlocks
          · have hf := z_f c7 hf
            refine lv_tableOut (tgt := 105) hx hb d_OS_about_23 (z_sw4 c2 c3 c5 c7) (by decide) ?_
            refine lv_iconst (v := (-1 : Int32)) hx hb d_OS_about_105 (by decide) ?_
            obtain rfl := Option.some.inj hf
            exact z_iret hx hb hr hP hD hS d_OS_about_106 hlocks
  · have hf := z_fn c1 hf
    refine lv_iconst (v := (-1 : Int32)) hx hb d_OS_about_20 (by decide) ?_
    obtain rfl := Option.some.inj hf
    exact z_iret hx hb hr hP hD hS d_OS_about_21 hlocks
set_option maxHeartbeats 4000000 in
set_option maxRecDepth 100000 in
theorem c_OS_list (l : Launch) (dC : Nat → ClassId) (dI : Nat → Nat → Nat) (N : Nat) (a : Nat → Nat) (k : Nat → ClassId) (zpaths_outer : Nat → Int32) (zpaths_count : Int32) (zsteps_targets : Nat → Int32) (zsteps_configurations : Nat → Int32) (zsteps_runs : Nat → Int32) (zsteps_opened : Nat → Int32) (zsteps_count : Int32) (zoutputs_contents : Nat → Int64) (zoutputs_makers : Nat → Int32) (zoutputs_executables : Nat → Int32) (zoutputs_lazies : Nat → Int32) (zstaged_contents : Nat → Int64) (zstaged_makers : Nat → Int32) (zstaged_executables : Nat → Int32) (zstaged_lazies : Nat → Int32) (zcached_contents : Nat → Int64) (zcached_count : Int32) (zholds_contents : Nat → Int64) (zholds_count : Int32) (zdirtyMarks_marks : Nat → Int32) (zdifferent : Nat → Int64) (p1 : Int32) (p2 : Int32) (p3 : Int32) {y : (Int32)} (hf : pf_OS_list N zpaths_outer zpaths_count zoutputs_contents p1 p2 p3 = some y) (sz : Nat) : Met l y_OS_list ww_OS_list ({ frames := 2, cells := 0, slots := 0, locals := 45 }) (va_Pc [.ref (a 0), .int p1, .int p2, .int p3] (zB (dC, dI) zCl (t_OS k) (w_OS a k zpaths_outer zpaths_count zsteps_targets zsteps_configurations zsteps_runs zsteps_opened zsteps_count zoutputs_contents zoutputs_makers zoutputs_executables zoutputs_lazies zstaged_contents zstaged_makers zstaged_executables zstaged_lazies zcached_contents zcached_count zholds_contents zholds_count zdirtyMarks_marks zdifferent) sz)) (zQi (dC, dI) zCl (w_OS a k zpaths_outer zpaths_count zsteps_targets zsteps_configurations zsteps_runs zsteps_opened zsteps_count zoutputs_contents zoutputs_makers zoutputs_executables zoutputs_lazies zstaged_contents zstaged_makers zstaged_executables zstaged_lazies zcached_contents zcached_count zholds_contents zholds_count zdirtyMarks_marks zdifferent) sz y (w_OS a k zpaths_outer zpaths_count zsteps_targets zsteps_configurations zsteps_runs zsteps_opened zsteps_count zoutputs_contents zoutputs_makers zoutputs_executables zoutputs_lazies zstaged_contents zstaged_makers zstaged_executables zstaged_lazies zcached_contents zcached_count zholds_contents zholds_count zdirtyMarks_marks zdifferent)) 0 0 (va_A (w_OS a k zpaths_outer zpaths_count zsteps_targets zsteps_configurations zsteps_runs zsteps_opened zsteps_count zoutputs_contents zoutputs_makers zoutputs_executables zoutputs_lazies zstaged_contents zstaged_makers zstaged_executables zstaged_lazies zcached_contents zcached_count zholds_contents zholds_count zdirtyMarks_marks zdifferent) sz) := by
  refine Met.ofW (cc := b_OS_list) (maxL := 6) (ret := (some .int)) (by decide) rfl ?_
  intro p e s m args below meth c s₁ B hml hv
  obtain ⟨rfl, rfl, hP, hK, hD, hN⟩ := hv
  have hx := B.exec
  have hb := B.bytes
  have hr := B.returns
  have hts := atoms_spec (ws := ww_OS_list) B.pre
  have hown : s.vm.findClass R_OS = some m.cls := findClass_of_methodNamed B.named
  have hlocks := B.notSynchronized
  have hA : ∀ q : Nat, s.heap.size ≤ q → va_A (w_OS a k zpaths_outer zpaths_count zsteps_targets zsteps_configurations zsteps_runs zsteps_opened zsteps_count zoutputs_contents zoutputs_makers zoutputs_executables zoutputs_lazies zstaged_contents zstaged_makers zstaged_executables zstaged_lazies zcached_contents zcached_count zholds_contents zholds_count zdirtyMarks_marks zdifferent) s.heap.size q := fun q h => Or.inr h
  refine z_start (lv := [(0, .ref (a 0)), (1, .int p1), (2, .int p2), (3, .int p3)]) (Nat.le_of_ble_eq_true rfl) rfl hP hD (fun H locs ls hP hD hS hl => ?_)
  unfold pf_OS_list at hf
  refine lv_iload_n hx hb d_OS_list_0 rfl (lv_at hl 1 rfl) ?_
  obtain ⟨u0, hu0, hf⟩ := z_b hf
  have hPc := zP_cut (wc := ([] : va_W)) 0 0 hP rfl
  have hDc := zD_cut (wc := ([] : va_W)) 0 0 hD rfl
  have hKc := hK.sub (tys' := ([] : List (ClassId × FieldType))) [] rfl
  refine z_ci (va_runS (As := [.int p1]) (rest := []) ⟨hx, hb, hml, hown, hts⟩ (c_OS_isConfiguration l dC dI N (fun i => a (0 + i)) (fun i => k (0 + i)) p1 hu0 H.size) (cwS 1 hts (zGS zsub_c k_1_154 k_1_155 k_1_1 kc_OS_isConfiguration) rfl rfl rfl (by decide +kernel) ⟨Nat.le_of_ble_eq_true rfl, Nat.le_of_ble_eq_true rfl⟩) ⟨z_bl, fun U hU hW => ⟨rfl, z_pre hN hKc hPc hDc U hU hW⟩⟩ rfl rfl hl.1 rfl (lv_room (Nat.le_of_ble_eq_true rfl)) d_OS_list_1 ⟨Nat.zero_le _, Nat.zero_le _⟩) 0 0 (w_OS a k zpaths_outer zpaths_count zsteps_targets zsteps_configurations zsteps_runs zsteps_opened zsteps_count zoutputs_contents zoutputs_makers zoutputs_executables zoutputs_lazies zstaged_contents zstaged_makers zstaged_executables zstaged_lazies zcached_contents zcached_count zholds_contents zholds_count zdirtyMarks_marks zdifferent) hP hD hS hA rfl rfl (fun H locs hP hD hS => ?_)
  refine lv_if_eq (tgt := 27) hx hb d_OS_list_4 (by decide) (fun c1 => ?_) (fun c1 => ?_)
  · have hf := z_t c1 hf
    refine lv_iconst (v := (-1 : Int32)) hx hb d_OS_list_27 (by decide) ?_
    obtain rfl := Option.some.inj hf
    exact z_iret hx hb hr hP hD hS d_OS_list_28 hlocks
  · have hf := z_f c1 hf
    refine lv_iload_n hx hb d_OS_list_7 rfl (lv_at hl 3 rfl) ?_
    refine lv_if_lt (tgt := 27) hx hb d_OS_list_8 (by decide) (fun c2 => ?_) (fun c2 => ?_)
    · have hf := z_t c2 hf
      refine lv_iconst (v := (-1 : Int32)) hx hb d_OS_list_27 (by decide) ?_
      obtain rfl := Option.some.inj hf
      exact z_iret hx hb hr hP hD hS d_OS_list_28 hlocks
    · have hf := z_f c2 hf
      refine lv_iload_n hx hb d_OS_list_11 rfl (lv_at hl 2 rfl) ?_
      refine lv_iconst (v := (-1 : Int32)) hx hb d_OS_list_12 (by decide) ?_
      refine lv_icmp_eq (tgt := 29) hx hb d_OS_list_13 (by decide) (fun c3 => ?_) (fun c3 => ?_)
      · have hf := z_t c3 hf
        refine lv_iload_n hx hb d_OS_list_29 rfl (lv_at hl 3 rfl) ?_
        refine lv_istore (lv' := [(4, .int p3), (0, .ref (a 0)), (1, .int p1), (2, .int p2), (3, .int p3)]) hx hb d_OS_list_30 hl (by decide) rfl (fun ls hl => ?_)
        refine lv_iconst (v := (0 : Int32)) hx hb d_OS_list_32 (by decide) ?_
        refine lv_istore (lv' := [(5, .int (0 : Int32)), (4, .int p3), (0, .ref (a 0)), (1, .int p1), (2, .int p2), (3, .int p3)]) hx hb d_OS_list_33 hl (by decide) rfl (fun ls hl => ?_)
        have loop35 : ∀ (n : Nat) (x4 : Int32) (x5 : Int32), pf_OS_list_L35 N zpaths_outer zpaths_count zoutputs_contents p1 p2 n x4 x5 = some y → ∀ (H : Heap) (locs : List Loc) (ls : Array Slot), va_P (dC, dI) zCl (w_OS a k zpaths_outer zpaths_count zsteps_targets zsteps_configurations zsteps_runs zsteps_opened zsteps_count zoutputs_contents zoutputs_makers zoutputs_executables zoutputs_lazies zstaged_contents zstaged_makers zstaged_executables zstaged_lazies zcached_contents zcached_count zholds_contents zholds_count zdirtyMarks_marks zdifferent) H → va_D (va_A (w_OS a k zpaths_outer zpaths_count zsteps_targets zsteps_configurations zsteps_runs zsteps_opened zsteps_count zoutputs_contents zoutputs_makers zoutputs_executables zoutputs_lazies zstaged_contents zstaged_makers zstaged_executables zstaged_lazies zcached_contents zcached_count zholds_contents zholds_count zdirtyMarks_marks zdifferent) s.heap.size) (w_OS a k zpaths_outer zpaths_count zsteps_targets zsteps_configurations zsteps_runs zsteps_opened zsteps_count zoutputs_contents zoutputs_makers zoutputs_executables zoutputs_lazies zstaged_contents zstaged_makers zstaged_executables zstaged_lazies zcached_contents zcached_count zholds_contents zholds_count zdirtyMarks_marks zdifferent) → va_S (va_A (w_OS a k zpaths_outer zpaths_count zsteps_targets zsteps_configurations zsteps_runs zsteps_opened zsteps_count zoutputs_contents zoutputs_makers zoutputs_executables zoutputs_lazies zstaged_contents zstaged_makers zstaged_executables zstaged_lazies zcached_contents zcached_count zholds_contents zholds_count zdirtyMarks_marks zdifferent) s.heap.size) s.heap H locs → lv_has ls 6 [(0, .ref (a 0)), (1, .int p1), (2, .int p2), (3, .int p3), (4, .int x4), (5, .int x5)] → W p l e (headSpec ww_OS_list ({ frames := 2, cells := 0, slots := 0, locals := 45 })).room s m ([.ref (a 0), .int p1, .int p2, .int p3] : List Value).toArray below meth c H locs 0 0 (MQ below (zQi (dC, dI) zCl (w_OS a k zpaths_outer zpaths_count zsteps_targets zsteps_configurations zsteps_runs zsteps_opened zsteps_count zoutputs_contents zoutputs_makers zoutputs_executables zoutputs_lazies zstaged_contents zstaged_makers zstaged_executables zstaged_lazies zcached_contents zcached_count zholds_contents zholds_count zdirtyMarks_marks zdifferent) s.heap.size y (w_OS a k zpaths_outer zpaths_count zsteps_targets zsteps_configurations zsteps_runs zsteps_opened zsteps_count zoutputs_contents zoutputs_makers zoutputs_executables zoutputs_lazies zstaged_contents zstaged_makers zstaged_executables zstaged_lazies zcached_contents zcached_count zholds_contents zholds_count zdirtyMarks_marks zdifferent)) ([.ref (a 0), .int p1, .int p2, .int p3] : List Value).toArray s 0 0 (va_A (w_OS a k zpaths_outer zpaths_count zsteps_targets zsteps_configurations zsteps_runs zsteps_opened zsteps_count zoutputs_contents zoutputs_makers zoutputs_executables zoutputs_lazies zstaged_contents zstaged_makers zstaged_executables zstaged_lazies zcached_contents zcached_count zholds_contents zholds_count zdirtyMarks_marks zdifferent) s.heap.size)) (F0 m 35 ls []) := by
          intro n35
          induction n35 with
          | zero => intro x4 x5 hf; rw [pf_OS_list_L35.eq_1] at hf; cases hf
          | succ n35 ih35 =>
            intro x4 x5 hf H locs ls hP hD hS hl
            rw [pf_OS_list_L35.eq_2] at hf
            refine lv_iload hx hb d_OS_list_35 (lv_at hl 5 rfl) ?_
            refine lv_bipush (v := (nI 40)) hx hb d_OS_list_37 (by decide) ?_
            refine lv_icmp_ge (tgt := 89) hx hb d_OS_list_39 (by decide) (fun c4 => ?_) (fun c4 => ?_)
            · have hf := z_t c4 hf
              refine lv_iconst (v := (-1 : Int32)) hx hb d_OS_list_89 (by decide) ?_
              obtain rfl := Option.some.inj hf
              exact z_iret hx hb hr hP hD hS d_OS_list_90 hlocks
            · have hf := z_f c4 hf
              refine lv_aload_n hx hb d_OS_list_42 rfl (lv_at hl 0 rfl) ?_
              refine va_get (D := (dC, dI)) (ci := 6) (v := .ref (a 8)) (C := R_OS) (T := F_OS) (N := 8) hx hb hts (fun w h => List.mem_cons_of_mem _ (in_OS w h)) hown hK hP 0 rfl rfl 2 (by decide) (hts _ (List.mem_cons_of_mem _ k_1_112)) (fun _ h9 => h9) rfl d_OS_list_43 ?_
              refine lv_aload_n hx hb d_OS_list_46 rfl (lv_at hl 0 rfl) ?_
              refine lv_iload_n hx hb d_OS_list_47 rfl (lv_at hl 1 rfl) ?_
              refine lv_iload hx hb d_OS_list_48 (lv_at hl 5 rfl) ?_
              obtain ⟨u1, hu1, hf⟩ := z_b hf
              have hPc := hP
              have hDc := hD
              have hKc := hK
              refine z_cwi (va_runV (As := [.int p1, .int x5]) (rest := [.ref (a 8)]) ⟨hx, hb, hml, hown, hts⟩ (c_OS_slotOf l dC dI N a k zpaths_outer zpaths_count zsteps_targets zsteps_configurations zsteps_runs zsteps_opened zsteps_count zoutputs_contents zoutputs_makers zoutputs_executables zoutputs_lazies zstaged_contents zstaged_makers zstaged_executables zstaged_lazies zcached_contents zcached_count zholds_contents zholds_count zdirtyMarks_marks zdifferent p1 x5 hu1 H.size) (cwV 2 hts (zGV zsub_c k_1_191 k_1_193 s_OS_slotOf k_1_1 kc_OS_slotOf) rfl rfl rfl (by decide +kernel) ⟨Nat.le_of_ble_eq_true rfl, Nat.le_of_ble_eq_true rfl⟩) ⟨z_bl, va_recv hKc hPc (ci := 6) (q0 := 0) rfl rfl, fun U hU hW => ⟨rfl, z_pre hN hKc hPc hDc U hU hW⟩⟩ rfl rfl hl.1 rfl (lv_room (Nat.le_of_ble_eq_true rfl)) d_OS_list_50 ⟨Nat.zero_le _, Nat.zero_le _⟩) hD hS hA (fun H locs hP hD hS => ?_)
              obtain ⟨u2, hu2, hf⟩ := z_b hf
              have hPc := zP_cut (wc := (w_LT (fun i => a (8 + i)) (fun i => k (5 + i)) zoutputs_contents zoutputs_makers zoutputs_executables zoutputs_lazies)) 8 13 hP rfl
              have hDc := zD_cut (wc := (w_LT (fun i => a (8 + i)) (fun i => k (5 + i)) zoutputs_contents zoutputs_makers zoutputs_executables zoutputs_lazies)) 8 13 hD rfl
              have hKc := hK.sub (tys' := (t_LT (fun i => k (5 + i)))) [5, 6, 7, 8] rfl
              refine z_ci (va_runV (As := [.int u1]) (rest := []) ⟨hx, hb, hml, hown, hts⟩ (c_LT_has l dC dI N (fun i => a (8 + i)) (fun i => k (5 + i)) zoutputs_contents zoutputs_makers zoutputs_executables zoutputs_lazies u1 hu2 H.size) (cwV 1 hts (zGV zsub_c k_1_215 k_1_200 k_1_201 k_1_4 kc_LT_has) rfl rfl rfl (by decide +kernel) ⟨Nat.le_of_ble_eq_true rfl, Nat.le_of_ble_eq_true rfl⟩) ⟨z_bl, va_recv hKc hPc (ci := 2) (q0 := 0) rfl rfl, fun U hU hW => ⟨rfl, z_pre hN hKc hPc hDc U hU hW⟩⟩ rfl rfl hl.1 rfl (lv_room (Nat.le_of_ble_eq_true rfl)) d_OS_list_53 ⟨Nat.zero_le _, Nat.zero_le _⟩) 8 13 (w_OS a k zpaths_outer zpaths_count zsteps_targets zsteps_configurations zsteps_runs zsteps_opened zsteps_count zoutputs_contents zoutputs_makers zoutputs_executables zoutputs_lazies zstaged_contents zstaged_makers zstaged_executables zstaged_lazies zcached_contents zcached_count zholds_contents zholds_count zdirtyMarks_marks zdifferent) hP hD hS hA rfl rfl (fun H locs hP hD hS => ?_)
              refine lv_if_eq (tgt := 83) hx hb d_OS_list_56 (by decide) (fun c5 => ?_) (fun c5 => ?_)
              · have hf := z_t c5 hf
                refine lv_iinc (v := (x5 + (1 : Int32))) (lv' := [(5, .int (x5 + (1 : Int32))), (0, .ref (a 0)), (1, .int p1), (2, .int p2), (3, .int p3), (4, .int x4)]) hx hb d_OS_list_83 hl (k := 5) rfl rfl (by decide) rfl (fun ls hl => ?_)
                refine lv_goto (tgt := 35) hx hb d_OS_list_86 (by decide) ?_
                exact ih35 x4 (x5 + (1 : Int32)) hf H locs ls hP hD hS (lv_sub hl [1, 2, 3, 4, 5, 0] rfl)
              · have hf := z_f c5 hf
                refine lv_aload_n hx hb d_OS_list_59 rfl (lv_at hl 0 rfl) ?_
                refine va_get (D := (dC, dI)) (ci := 6) (v := .ref (a 1)) (C := R_OS) (T := F_OS) (N := 8) hx hb hts (fun w h => List.mem_cons_of_mem _ (in_OS w h)) hown hK hP 0 rfl rfl 0 (by decide) (hts _ (List.mem_cons_of_mem _ k_1_110)) (fun _ h9 => h9) rfl d_OS_list_60 ?_
                refine lv_iload hx hb d_OS_list_63 (lv_at hl 5 rfl) ?_
                refine lv_iload_n hx hb d_OS_list_65 rfl (lv_at hl 2 rfl) ?_
                obtain ⟨u3, hu3, hf⟩ := z_b hf
                have hPc := zP_cut (wc := (w_PT (fun i => a (1 + i)) (fun i => k (0 + i)) zpaths_outer zpaths_count)) 1 3 hP rfl
                have hDc := zD_cut (wc := (w_PT (fun i => a (1 + i)) (fun i => k (0 + i)) zpaths_outer zpaths_count)) 1 3 hD rfl
                have hKc := hK.sub (tys' := (t_PT (fun i => k (0 + i)))) [0] rfl
                refine z_ci (va_runV (As := [.int x5, .int p2]) (rest := []) ⟨hx, hb, hml, hown, hts⟩ (c_PT_isAtOrWithin l dC dI N (fun i => a (1 + i)) (fun i => k (0 + i)) zpaths_outer zpaths_count x5 p2 hu3 H.size) (cwV 2 hts (zGV zsub_c k_2_119 k_1_237 k_1_238 k_1_2 kc_PT_isAtOrWithin) rfl rfl rfl (by decide +kernel) ⟨Nat.le_of_ble_eq_true rfl, Nat.le_of_ble_eq_true rfl⟩) ⟨z_bl, va_recv hKc hPc (ci := 0) (q0 := 0) rfl rfl, fun U hU hW => ⟨rfl, z_pre hN hKc hPc hDc U hU hW⟩⟩ rfl rfl hl.1 rfl (lv_room (Nat.le_of_ble_eq_true rfl)) d_OS_list_66 ⟨Nat.zero_le _, Nat.zero_le _⟩) 1 3 (w_OS a k zpaths_outer zpaths_count zsteps_targets zsteps_configurations zsteps_runs zsteps_opened zsteps_count zoutputs_contents zoutputs_makers zoutputs_executables zoutputs_lazies zstaged_contents zstaged_makers zstaged_executables zstaged_lazies zcached_contents zcached_count zholds_contents zholds_count zdirtyMarks_marks zdifferent) hP hD hS hA rfl rfl (fun H locs hP hD hS => ?_)
                refine lv_if_eq (tgt := 83) hx hb d_OS_list_69 (by decide) (fun c6 => ?_) (fun c6 => ?_)
                · have hf := z_t c6 hf
                  refine lv_iinc (v := (x5 + (1 : Int32))) (lv' := [(5, .int (x5 + (1 : Int32))), (0, .ref (a 0)), (1, .int p1), (2, .int p2), (3, .int p3), (4, .int x4)]) hx hb d_OS_list_83 hl (k := 5) rfl rfl (by decide) rfl (fun ls hl => ?_)
                  refine lv_goto (tgt := 35) hx hb d_OS_list_86 (by decide) ?_
                  exact ih35 x4 (x5 + (1 : Int32)) hf H locs ls hP hD hS (lv_sub hl [1, 2, 3, 4, 5, 0] rfl)
                · have hf := z_f c6 hf
                  refine lv_iload hx hb d_OS_list_72 (lv_at hl 4 rfl) ?_
                  refine lv_if_ne (tgt := 80) hx hb d_OS_list_74 (by decide) (fun c7 => ?_) (fun c7 => ?_)
                  · have hf := z_t c7 hf
                    refine lv_iinc (v := (x4 + (-1 : Int32))) (lv' := [(4, .int (x4 + (-1 : Int32))), (0, .ref (a 0)), (1, .int p1), (2, .int p2), (3, .int p3), (5, .int x5)]) hx hb d_OS_list_80 hl (k := 4) rfl rfl (by decide) rfl (fun ls hl => ?_)
                    refine lv_iinc (v := (x5 + (1 : Int32))) (lv' := [(5, .int (x5 + (1 : Int32))), (4, .int (x4 + (-1 : Int32))), (0, .ref (a 0)), (1, .int p1), (2, .int p2), (3, .int p3)]) hx hb d_OS_list_83 hl (k := 5) rfl rfl (by decide) rfl (fun ls hl => ?_)
                    refine lv_goto (tgt := 35) hx hb d_OS_list_86 (by decide) ?_
                    exact ih35 (x4 + (-1 : Int32)) (x5 + (1 : Int32)) hf H locs ls hP hD hS (lv_sub hl [2, 3, 4, 5, 1, 0] rfl)
                  · have hf := z_fn c7 hf
                    refine lv_iload hx hb d_OS_list_77 (lv_at hl 5 rfl) ?_
                    obtain rfl := Option.some.inj hf
                    exact z_iret hx hb hr hP hD hS d_OS_list_79 hlocks
        exact loop35 N p3 (0 : Int32) hf H locs ls hP hD hS (lv_sub hl [2, 3, 4, 5, 1, 0] rfl)
      · have hf := z_f c3 hf
        refine lv_aload_n hx hb d_OS_list_16 rfl (lv_at hl 0 rfl) ?_
        refine va_get (D := (dC, dI)) (ci := 6) (v := .ref (a 1)) (C := R_OS) (T := F_OS) (N := 8) hx hb hts (fun w h => List.mem_cons_of_mem _ (in_OS w h)) hown hK hP 0 rfl rfl 0 (by decide) (hts _ (List.mem_cons_of_mem _ k_1_110)) (fun _ h9 => h9) rfl d_OS_list_17 ?_
        refine lv_iload_n hx hb d_OS_list_20 rfl (lv_at hl 2 rfl) ?_
        obtain ⟨u4, hu4, hf⟩ := z_b hf
        have hPc := zP_cut (wc := (w_PT (fun i => a (1 + i)) (fun i => k (0 + i)) zpaths_outer zpaths_count)) 1 3 hP rfl
        have hDc := zD_cut (wc := (w_PT (fun i => a (1 + i)) (fun i => k (0 + i)) zpaths_outer zpaths_count)) 1 3 hD rfl
        have hKc := hK.sub (tys' := (t_PT (fun i => k (0 + i)))) [0] rfl
        refine z_ci (va_runV (As := [.int p2]) (rest := []) ⟨hx, hb, hml, hown, hts⟩ (c_PT_has l dC dI N (fun i => a (1 + i)) (fun i => k (0 + i)) zpaths_outer zpaths_count p2 hu4 H.size) (cwV 1 hts (zGV zsub_c k_1_186 k_1_144 k_1_145 k_1_2 kc_PT_has) rfl rfl rfl (by decide +kernel) ⟨Nat.le_of_ble_eq_true rfl, Nat.le_of_ble_eq_true rfl⟩) ⟨z_bl, va_recv hKc hPc (ci := 0) (q0 := 0) rfl rfl, fun U hU hW => ⟨rfl, z_pre hN hKc hPc hDc U hU hW⟩⟩ rfl rfl hl.1 rfl (lv_room (Nat.le_of_ble_eq_true rfl)) d_OS_list_21 ⟨Nat.zero_le _, Nat.zero_le _⟩) 1 3 (w_OS a k zpaths_outer zpaths_count zsteps_targets zsteps_configurations zsteps_runs zsteps_opened zsteps_count zoutputs_contents zoutputs_makers zoutputs_executables zoutputs_lazies zstaged_contents zstaged_makers zstaged_executables zstaged_lazies zcached_contents zcached_count zholds_contents zholds_count zdirtyMarks_marks zdifferent) hP hD hS hA rfl rfl (fun H locs hP hD hS => ?_)
        refine lv_if_ne (tgt := 29) hx hb d_OS_list_24 (by decide) (fun c8 => ?_) (fun c8 => ?_)
        · have hf := z_t c8 hf
          refine lv_iload_n hx hb d_OS_list_29 rfl (lv_at hl 3 rfl) ?_
          refine lv_istore (lv' := [(4, .int p3), (0, .ref (a 0)), (1, .int p1), (2, .int p2), (3, .int p3)]) hx hb d_OS_list_30 hl (by decide) rfl (fun ls hl => ?_)
          refine lv_iconst (v := (0 : Int32)) hx hb d_OS_list_32 (by decide) ?_
          refine lv_istore (lv' := [(5, .int (0 : Int32)), (4, .int p3), (0, .ref (a 0)), (1, .int p1), (2, .int p2), (3, .int p3)]) hx hb d_OS_list_33 hl (by decide) rfl (fun ls hl => ?_)
          have loop35 : ∀ (n : Nat) (x4 : Int32) (x5 : Int32), pf_OS_list_L35 N zpaths_outer zpaths_count zoutputs_contents p1 p2 n x4 x5 = some y → ∀ (H : Heap) (locs : List Loc) (ls : Array Slot), va_P (dC, dI) zCl (w_OS a k zpaths_outer zpaths_count zsteps_targets zsteps_configurations zsteps_runs zsteps_opened zsteps_count zoutputs_contents zoutputs_makers zoutputs_executables zoutputs_lazies zstaged_contents zstaged_makers zstaged_executables zstaged_lazies zcached_contents zcached_count zholds_contents zholds_count zdirtyMarks_marks zdifferent) H → va_D (va_A (w_OS a k zpaths_outer zpaths_count zsteps_targets zsteps_configurations zsteps_runs zsteps_opened zsteps_count zoutputs_contents zoutputs_makers zoutputs_executables zoutputs_lazies zstaged_contents zstaged_makers zstaged_executables zstaged_lazies zcached_contents zcached_count zholds_contents zholds_count zdirtyMarks_marks zdifferent) s.heap.size) (w_OS a k zpaths_outer zpaths_count zsteps_targets zsteps_configurations zsteps_runs zsteps_opened zsteps_count zoutputs_contents zoutputs_makers zoutputs_executables zoutputs_lazies zstaged_contents zstaged_makers zstaged_executables zstaged_lazies zcached_contents zcached_count zholds_contents zholds_count zdirtyMarks_marks zdifferent) → va_S (va_A (w_OS a k zpaths_outer zpaths_count zsteps_targets zsteps_configurations zsteps_runs zsteps_opened zsteps_count zoutputs_contents zoutputs_makers zoutputs_executables zoutputs_lazies zstaged_contents zstaged_makers zstaged_executables zstaged_lazies zcached_contents zcached_count zholds_contents zholds_count zdirtyMarks_marks zdifferent) s.heap.size) s.heap H locs → lv_has ls 6 [(0, .ref (a 0)), (1, .int p1), (2, .int p2), (3, .int p3), (4, .int x4), (5, .int x5)] → W p l e (headSpec ww_OS_list ({ frames := 2, cells := 0, slots := 0, locals := 45 })).room s m ([.ref (a 0), .int p1, .int p2, .int p3] : List Value).toArray below meth c H locs 0 0 (MQ below (zQi (dC, dI) zCl (w_OS a k zpaths_outer zpaths_count zsteps_targets zsteps_configurations zsteps_runs zsteps_opened zsteps_count zoutputs_contents zoutputs_makers zoutputs_executables zoutputs_lazies zstaged_contents zstaged_makers zstaged_executables zstaged_lazies zcached_contents zcached_count zholds_contents zholds_count zdirtyMarks_marks zdifferent) s.heap.size y (w_OS a k zpaths_outer zpaths_count zsteps_targets zsteps_configurations zsteps_runs zsteps_opened zsteps_count zoutputs_contents zoutputs_makers zoutputs_executables zoutputs_lazies zstaged_contents zstaged_makers zstaged_executables zstaged_lazies zcached_contents zcached_count zholds_contents zholds_count zdirtyMarks_marks zdifferent)) ([.ref (a 0), .int p1, .int p2, .int p3] : List Value).toArray s 0 0 (va_A (w_OS a k zpaths_outer zpaths_count zsteps_targets zsteps_configurations zsteps_runs zsteps_opened zsteps_count zoutputs_contents zoutputs_makers zoutputs_executables zoutputs_lazies zstaged_contents zstaged_makers zstaged_executables zstaged_lazies zcached_contents zcached_count zholds_contents zholds_count zdirtyMarks_marks zdifferent) s.heap.size)) (F0 m 35 ls []) := by
            intro n35
            induction n35 with
            | zero => intro x4 x5 hf; rw [pf_OS_list_L35.eq_1] at hf; cases hf
            | succ n35 ih35 =>
              intro x4 x5 hf H locs ls hP hD hS hl
              rw [pf_OS_list_L35.eq_2] at hf
              refine lv_iload hx hb d_OS_list_35 (lv_at hl 5 rfl) ?_
              refine lv_bipush (v := (nI 40)) hx hb d_OS_list_37 (by decide) ?_
              refine lv_icmp_ge (tgt := 89) hx hb d_OS_list_39 (by decide) (fun c9 => ?_) (fun c9 => ?_)
              · have hf := z_t c9 hf
                refine lv_iconst (v := (-1 : Int32)) hx hb d_OS_list_89 (by decide) ?_
                obtain rfl := Option.some.inj hf
                exact z_iret hx hb hr hP hD hS d_OS_list_90 hlocks
              · have hf := z_f c9 hf
                refine lv_aload_n hx hb d_OS_list_42 rfl (lv_at hl 0 rfl) ?_
                refine va_get (D := (dC, dI)) (ci := 6) (v := .ref (a 8)) (C := R_OS) (T := F_OS) (N := 8) hx hb hts (fun w h => List.mem_cons_of_mem _ (in_OS w h)) hown hK hP 0 rfl rfl 2 (by decide) (hts _ (List.mem_cons_of_mem _ k_1_112)) (fun _ h9 => h9) rfl d_OS_list_43 ?_
                refine lv_aload_n hx hb d_OS_list_46 rfl (lv_at hl 0 rfl) ?_
                refine lv_iload_n hx hb d_OS_list_47 rfl (lv_at hl 1 rfl) ?_
                refine lv_iload hx hb d_OS_list_48 (lv_at hl 5 rfl) ?_
                obtain ⟨u5, hu5, hf⟩ := z_b hf
                have hPc := hP
                have hDc := hD
                have hKc := hK
                refine z_cwi (va_runV (As := [.int p1, .int x5]) (rest := [.ref (a 8)]) ⟨hx, hb, hml, hown, hts⟩ (c_OS_slotOf l dC dI N a k zpaths_outer zpaths_count zsteps_targets zsteps_configurations zsteps_runs zsteps_opened zsteps_count zoutputs_contents zoutputs_makers zoutputs_executables zoutputs_lazies zstaged_contents zstaged_makers zstaged_executables zstaged_lazies zcached_contents zcached_count zholds_contents zholds_count zdirtyMarks_marks zdifferent p1 x5 hu5 H.size) (cwV 2 hts (zGV zsub_c k_1_191 k_1_193 s_OS_slotOf k_1_1 kc_OS_slotOf) rfl rfl rfl (by decide +kernel) ⟨Nat.le_of_ble_eq_true rfl, Nat.le_of_ble_eq_true rfl⟩) ⟨z_bl, va_recv hKc hPc (ci := 6) (q0 := 0) rfl rfl, fun U hU hW => ⟨rfl, z_pre hN hKc hPc hDc U hU hW⟩⟩ rfl rfl hl.1 rfl (lv_room (Nat.le_of_ble_eq_true rfl)) d_OS_list_50 ⟨Nat.zero_le _, Nat.zero_le _⟩) hD hS hA (fun H locs hP hD hS => ?_)
                obtain ⟨u6, hu6, hf⟩ := z_b hf
                have hPc := zP_cut (wc := (w_LT (fun i => a (8 + i)) (fun i => k (5 + i)) zoutputs_contents zoutputs_makers zoutputs_executables zoutputs_lazies)) 8 13 hP rfl
                have hDc := zD_cut (wc := (w_LT (fun i => a (8 + i)) (fun i => k (5 + i)) zoutputs_contents zoutputs_makers zoutputs_executables zoutputs_lazies)) 8 13 hD rfl
                have hKc := hK.sub (tys' := (t_LT (fun i => k (5 + i)))) [5, 6, 7, 8] rfl
                refine z_ci (va_runV (As := [.int u5]) (rest := []) ⟨hx, hb, hml, hown, hts⟩ (c_LT_has l dC dI N (fun i => a (8 + i)) (fun i => k (5 + i)) zoutputs_contents zoutputs_makers zoutputs_executables zoutputs_lazies u5 hu6 H.size) (cwV 1 hts (zGV zsub_c k_1_215 k_1_200 k_1_201 k_1_4 kc_LT_has) rfl rfl rfl (by decide +kernel) ⟨Nat.le_of_ble_eq_true rfl, Nat.le_of_ble_eq_true rfl⟩) ⟨z_bl, va_recv hKc hPc (ci := 2) (q0 := 0) rfl rfl, fun U hU hW => ⟨rfl, z_pre hN hKc hPc hDc U hU hW⟩⟩ rfl rfl hl.1 rfl (lv_room (Nat.le_of_ble_eq_true rfl)) d_OS_list_53 ⟨Nat.zero_le _, Nat.zero_le _⟩) 8 13 (w_OS a k zpaths_outer zpaths_count zsteps_targets zsteps_configurations zsteps_runs zsteps_opened zsteps_count zoutputs_contents zoutputs_makers zoutputs_executables zoutputs_lazies zstaged_contents zstaged_makers zstaged_executables zstaged_lazies zcached_contents zcached_count zholds_contents zholds_count zdirtyMarks_marks zdifferent) hP hD hS hA rfl rfl (fun H locs hP hD hS => ?_)
                refine lv_if_eq (tgt := 83) hx hb d_OS_list_56 (by decide) (fun c10 => ?_) (fun c10 => ?_)
                · have hf := z_t c10 hf
                  refine lv_iinc (v := (x5 + (1 : Int32))) (lv' := [(5, .int (x5 + (1 : Int32))), (0, .ref (a 0)), (1, .int p1), (2, .int p2), (3, .int p3), (4, .int x4)]) hx hb d_OS_list_83 hl (k := 5) rfl rfl (by decide) rfl (fun ls hl => ?_)
                  refine lv_goto (tgt := 35) hx hb d_OS_list_86 (by decide) ?_
                  exact ih35 x4 (x5 + (1 : Int32)) hf H locs ls hP hD hS (lv_sub hl [1, 2, 3, 4, 5, 0] rfl)
                · have hf := z_f c10 hf
                  refine lv_aload_n hx hb d_OS_list_59 rfl (lv_at hl 0 rfl) ?_
                  refine va_get (D := (dC, dI)) (ci := 6) (v := .ref (a 1)) (C := R_OS) (T := F_OS) (N := 8) hx hb hts (fun w h => List.mem_cons_of_mem _ (in_OS w h)) hown hK hP 0 rfl rfl 0 (by decide) (hts _ (List.mem_cons_of_mem _ k_1_110)) (fun _ h9 => h9) rfl d_OS_list_60 ?_
                  refine lv_iload hx hb d_OS_list_63 (lv_at hl 5 rfl) ?_
                  refine lv_iload_n hx hb d_OS_list_65 rfl (lv_at hl 2 rfl) ?_
                  obtain ⟨u7, hu7, hf⟩ := z_b hf
                  have hPc := zP_cut (wc := (w_PT (fun i => a (1 + i)) (fun i => k (0 + i)) zpaths_outer zpaths_count)) 1 3 hP rfl
                  have hDc := zD_cut (wc := (w_PT (fun i => a (1 + i)) (fun i => k (0 + i)) zpaths_outer zpaths_count)) 1 3 hD rfl
                  have hKc := hK.sub (tys' := (t_PT (fun i => k (0 + i)))) [0] rfl
                  refine z_ci (va_runV (As := [.int x5, .int p2]) (rest := []) ⟨hx, hb, hml, hown, hts⟩ (c_PT_isAtOrWithin l dC dI N (fun i => a (1 + i)) (fun i => k (0 + i)) zpaths_outer zpaths_count x5 p2 hu7 H.size) (cwV 2 hts (zGV zsub_c k_2_119 k_1_237 k_1_238 k_1_2 kc_PT_isAtOrWithin) rfl rfl rfl (by decide +kernel) ⟨Nat.le_of_ble_eq_true rfl, Nat.le_of_ble_eq_true rfl⟩) ⟨z_bl, va_recv hKc hPc (ci := 0) (q0 := 0) rfl rfl, fun U hU hW => ⟨rfl, z_pre hN hKc hPc hDc U hU hW⟩⟩ rfl rfl hl.1 rfl (lv_room (Nat.le_of_ble_eq_true rfl)) d_OS_list_66 ⟨Nat.zero_le _, Nat.zero_le _⟩) 1 3 (w_OS a k zpaths_outer zpaths_count zsteps_targets zsteps_configurations zsteps_runs zsteps_opened zsteps_count zoutputs_contents zoutputs_makers zoutputs_executables zoutputs_lazies zstaged_contents zstaged_makers zstaged_executables zstaged_lazies zcached_contents zcached_count zholds_contents zholds_count zdirtyMarks_marks zdifferent) hP hD hS hA rfl rfl (fun H locs hP hD hS => ?_)
                  refine lv_if_eq (tgt := 83) hx hb d_OS_list_69 (by decide) (fun c11 => ?_) (fun c11 => ?_)
                  · have hf := z_t c11 hf
                    refine lv_iinc (v := (x5 + (1 : Int32))) (lv' := [(5, .int (x5 + (1 : Int32))), (0, .ref (a 0)), (1, .int p1), (2, .int p2), (3, .int p3), (4, .int x4)]) hx hb d_OS_list_83 hl (k := 5) rfl rfl (by decide) rfl (fun ls hl => ?_)
                    refine lv_goto (tgt := 35) hx hb d_OS_list_86 (by decide) ?_
                    exact ih35 x4 (x5 + (1 : Int32)) hf H locs ls hP hD hS (lv_sub hl [1, 2, 3, 4, 5, 0] rfl)
                  · have hf := z_f c11 hf
                    refine lv_iload hx hb d_OS_list_72 (lv_at hl 4 rfl) ?_
                    refine lv_if_ne (tgt := 80) hx hb d_OS_list_74 (by decide) (fun c12 => ?_) (fun c12 => ?_)
                    · have hf := z_t c12 hf
                      refine lv_iinc (v := (x4 + (-1 : Int32))) (lv' := [(4, .int (x4 + (-1 : Int32))), (0, .ref (a 0)), (1, .int p1), (2, .int p2), (3, .int p3), (5, .int x5)]) hx hb d_OS_list_80 hl (k := 4) rfl rfl (by decide) rfl (fun ls hl => ?_)
                      refine lv_iinc (v := (x5 + (1 : Int32))) (lv' := [(5, .int (x5 + (1 : Int32))), (4, .int (x4 + (-1 : Int32))), (0, .ref (a 0)), (1, .int p1), (2, .int p2), (3, .int p3)]) hx hb d_OS_list_83 hl (k := 5) rfl rfl (by decide) rfl (fun ls hl => ?_)
                      refine lv_goto (tgt := 35) hx hb d_OS_list_86 (by decide) ?_
                      exact ih35 (x4 + (-1 : Int32)) (x5 + (1 : Int32)) hf H locs ls hP hD hS (lv_sub hl [2, 3, 4, 5, 1, 0] rfl)
                    · have hf := z_fn c12 hf
                      refine lv_iload hx hb d_OS_list_77 (lv_at hl 5 rfl) ?_
                      obtain rfl := Option.some.inj hf
                      exact z_iret hx hb hr hP hD hS d_OS_list_79 hlocks
          exact loop35 N p3 (0 : Int32) hf H locs ls hP hD hS (lv_sub hl [2, 3, 4, 5, 1, 0] rfl)
        · have hf := z_fn c8 hf
          refine lv_iconst (v := (-1 : Int32)) hx hb d_OS_list_27 (by decide) ?_
          obtain rfl := Option.some.inj hf
          exact z_iret hx hb hr hP hD hS d_OS_list_28 hlocks
set_option maxHeartbeats 4000000 in
set_option maxRecDepth 100000 in
theorem c_OS_dirty (l : Launch) (dC : Nat → ClassId) (dI : Nat → Nat → Nat) (N : Nat) (a : Nat → Nat) (k : Nat → ClassId) (zpaths_outer : Nat → Int32) (zpaths_count : Int32) (zsteps_targets : Nat → Int32) (zsteps_configurations : Nat → Int32) (zsteps_runs : Nat → Int32) (zsteps_opened : Nat → Int32) (zsteps_count : Int32) (zoutputs_contents : Nat → Int64) (zoutputs_makers : Nat → Int32) (zoutputs_executables : Nat → Int32) (zoutputs_lazies : Nat → Int32) (zstaged_contents : Nat → Int64) (zstaged_makers : Nat → Int32) (zstaged_executables : Nat → Int32) (zstaged_lazies : Nat → Int32) (zcached_contents : Nat → Int64) (zcached_count : Int32) (zholds_contents : Nat → Int64) (zholds_count : Int32) (zdirtyMarks_marks : Nat → Int32) (zdifferent : Nat → Int64) (p1 : Int32) (p2 : Int32) {y : (Int32)} (hf : pf_OS_dirty N zdirtyMarks_marks p1 p2 = some y) (sz : Nat) : Met l y_OS_dirty ww_OS_dirty ({ frames := 2, cells := 0, slots := 0, locals := 42 }) (va_Pc [.ref (a 0), .int p1, .int p2] (zB (dC, dI) zCl (t_OS k) (w_OS a k zpaths_outer zpaths_count zsteps_targets zsteps_configurations zsteps_runs zsteps_opened zsteps_count zoutputs_contents zoutputs_makers zoutputs_executables zoutputs_lazies zstaged_contents zstaged_makers zstaged_executables zstaged_lazies zcached_contents zcached_count zholds_contents zholds_count zdirtyMarks_marks zdifferent) sz)) (zQi (dC, dI) zCl (w_OS a k zpaths_outer zpaths_count zsteps_targets zsteps_configurations zsteps_runs zsteps_opened zsteps_count zoutputs_contents zoutputs_makers zoutputs_executables zoutputs_lazies zstaged_contents zstaged_makers zstaged_executables zstaged_lazies zcached_contents zcached_count zholds_contents zholds_count zdirtyMarks_marks zdifferent) sz y (w_OS a k zpaths_outer zpaths_count zsteps_targets zsteps_configurations zsteps_runs zsteps_opened zsteps_count zoutputs_contents zoutputs_makers zoutputs_executables zoutputs_lazies zstaged_contents zstaged_makers zstaged_executables zstaged_lazies zcached_contents zcached_count zholds_contents zholds_count zdirtyMarks_marks zdifferent)) 0 0 (va_A (w_OS a k zpaths_outer zpaths_count zsteps_targets zsteps_configurations zsteps_runs zsteps_opened zsteps_count zoutputs_contents zoutputs_makers zoutputs_executables zoutputs_lazies zstaged_contents zstaged_makers zstaged_executables zstaged_lazies zcached_contents zcached_count zholds_contents zholds_count zdirtyMarks_marks zdifferent) sz) := by
  refine Met.ofW (cc := b_OS_dirty) (maxL := 3) (ret := (some .boolean)) (by decide) rfl ?_
  intro p e s m args below meth c s₁ B hml hv
  obtain ⟨rfl, rfl, hP, hK, hD, hN⟩ := hv
  have hx := B.exec
  have hb := B.bytes
  have hr := B.returns
  have hts := atoms_spec (ws := ww_OS_dirty) B.pre
  have hown : s.vm.findClass R_OS = some m.cls := findClass_of_methodNamed B.named
  have hlocks := B.notSynchronized
  have hA : ∀ q : Nat, s.heap.size ≤ q → va_A (w_OS a k zpaths_outer zpaths_count zsteps_targets zsteps_configurations zsteps_runs zsteps_opened zsteps_count zoutputs_contents zoutputs_makers zoutputs_executables zoutputs_lazies zstaged_contents zstaged_makers zstaged_executables zstaged_lazies zcached_contents zcached_count zholds_contents zholds_count zdirtyMarks_marks zdifferent) s.heap.size q := fun q h => Or.inr h
  refine z_start (lv := [(0, .ref (a 0)), (1, .int p1), (2, .int p2)]) (Nat.le_of_ble_eq_true rfl) rfl hP hD (fun H locs ls hP hD hS hl => ?_)
  unfold pf_OS_dirty at hf
  refine lv_aload_n hx hb d_OS_dirty_0 rfl (lv_at hl 0 rfl) ?_
  refine va_get (D := (dC, dI)) (ci := 6) (v := .ref (a 22)) (C := R_OS) (T := F_OS) (N := 8) hx hb hts (fun w h => List.mem_cons_of_mem _ (in_OS w h)) hown hK hP 0 rfl rfl 6 (by decide) (hts _ (List.mem_cons_of_mem _ k_1_116)) (fun _ h9 => h9) rfl d_OS_dirty_1 ?_
  refine lv_iload_n hx hb d_OS_dirty_4 rfl (lv_at hl 1 rfl) ?_
  refine lv_iload_n hx hb d_OS_dirty_5 rfl (lv_at hl 2 rfl) ?_
  obtain ⟨u0, hu0, hf⟩ := z_b hf
  have hPc := zP_cut (wc := (w_DM (fun i => a (22 + i)) (fun i => k (15 + i)) zdirtyMarks_marks)) 22 24 hP rfl
  have hDc := zD_cut (wc := (w_DM (fun i => a (22 + i)) (fun i => k (15 + i)) zdirtyMarks_marks)) 22 24 hD rfl
  have hKc := hK.sub (tys' := (t_DM (fun i => k (15 + i)))) [15] rfl
  refine z_ci (va_runV (As := [.int p1, .int p2]) (rest := []) ⟨hx, hb, hml, hown, hts⟩ (c_DM_get l dC dI N (fun i => a (22 + i)) (fun i => k (15 + i)) zdirtyMarks_marks p1 p2 hu0 H.size) (cwV 2 hts (zGV zsub_c k_2_124 k_2_125 k_2_126 k_1_7 kc_DM_get) rfl rfl rfl (by decide +kernel) ⟨Nat.le_of_ble_eq_true rfl, Nat.le_of_ble_eq_true rfl⟩) ⟨z_bl, va_recv hKc hPc (ci := 5) (q0 := 0) rfl rfl, fun U hU hW => ⟨rfl, z_pre hN hKc hPc hDc U hU hW⟩⟩ rfl rfl hl.1 rfl (lv_room (Nat.le_of_ble_eq_true rfl)) d_OS_dirty_6 ⟨Nat.zero_le _, Nat.zero_le _⟩) 22 24 (w_OS a k zpaths_outer zpaths_count zsteps_targets zsteps_configurations zsteps_runs zsteps_opened zsteps_count zoutputs_contents zoutputs_makers zoutputs_executables zoutputs_lazies zstaged_contents zstaged_makers zstaged_executables zstaged_lazies zcached_contents zcached_count zholds_contents zholds_count zdirtyMarks_marks zdifferent) hP hD hS hA rfl rfl (fun H locs hP hD hS => ?_)
  obtain ⟨b1, hf⟩ := z_zb hf
  obtain rfl := Option.some.inj hf
  exact z_zret hx hb hr b1 hP hD hS d_OS_dirty_9 hlocks
set_option maxHeartbeats 4000000 in
set_option maxRecDepth 100000 in
theorem c_OS_clear (l : Launch) (dC : Nat → ClassId) (dI : Nat → Nat → Nat) (N : Nat) (a : Nat → Nat) (k : Nat → ClassId) (zpaths_outer : Nat → Int32) (zpaths_count : Int32) (zsteps_targets : Nat → Int32) (zsteps_configurations : Nat → Int32) (zsteps_runs : Nat → Int32) (zsteps_opened : Nat → Int32) (zsteps_count : Int32) (zoutputs_contents : Nat → Int64) (zoutputs_makers : Nat → Int32) (zoutputs_executables : Nat → Int32) (zoutputs_lazies : Nat → Int32) (zstaged_contents : Nat → Int64) (zstaged_makers : Nat → Int32) (zstaged_executables : Nat → Int32) (zstaged_lazies : Nat → Int32) (zcached_contents : Nat → Int64) (zcached_count : Int32) (zholds_contents : Nat → Int64) (zholds_count : Int32) (zdirtyMarks_marks : Nat → Int32) (zdifferent : Nat → Int64) (p1 : Int32) {y : (Int32 × (Nat → Int64))} (hf : pf_OS_clear N zpaths_count zsteps_configurations zsteps_opened zsteps_count zoutputs_contents p1 = some y) (sz : Nat) : Met l y_OS_clear ww_OS_clear ({ frames := 3, cells := 0, slots := 0, locals := 64 }) (va_Pc [.ref (a 0), .int p1] (zB (dC, dI) zCl (t_OS k) (w_OS a k zpaths_outer zpaths_count zsteps_targets zsteps_configurations zsteps_runs zsteps_opened zsteps_count zoutputs_contents zoutputs_makers zoutputs_executables zoutputs_lazies zstaged_contents zstaged_makers zstaged_executables zstaged_lazies zcached_contents zcached_count zholds_contents zholds_count zdirtyMarks_marks zdifferent) sz)) (zQi (dC, dI) zCl (w_OS a k zpaths_outer zpaths_count zsteps_targets zsteps_configurations zsteps_runs zsteps_opened zsteps_count zoutputs_contents zoutputs_makers zoutputs_executables zoutputs_lazies zstaged_contents zstaged_makers zstaged_executables zstaged_lazies zcached_contents zcached_count zholds_contents zholds_count zdirtyMarks_marks zdifferent) sz y.1 (w_OS a k zpaths_outer zpaths_count zsteps_targets zsteps_configurations zsteps_runs zsteps_opened zsteps_count y.2 zoutputs_makers zoutputs_executables zoutputs_lazies zstaged_contents zstaged_makers zstaged_executables zstaged_lazies zcached_contents zcached_count zholds_contents zholds_count zdirtyMarks_marks zdifferent)) 0 0 (va_A (w_OS a k zpaths_outer zpaths_count zsteps_targets zsteps_configurations zsteps_runs zsteps_opened zsteps_count zoutputs_contents zoutputs_makers zoutputs_executables zoutputs_lazies zstaged_contents zstaged_makers zstaged_executables zstaged_lazies zcached_contents zcached_count zholds_contents zholds_count zdirtyMarks_marks zdifferent) sz) := by
  refine Met.ofW (cc := b_OS_clear) (maxL := 5) (ret := (some .int)) (by decide) rfl ?_
  intro p e s m args below meth c s₁ B hml hv
  obtain ⟨rfl, rfl, hP, hK, hD, hN⟩ := hv
  have hx := B.exec
  have hb := B.bytes
  have hr := B.returns
  have hts := atoms_spec (ws := ww_OS_clear) B.pre
  have hown : s.vm.findClass R_OS = some m.cls := findClass_of_methodNamed B.named
  have hlocks := B.notSynchronized
  have hA : ∀ q : Nat, s.heap.size ≤ q → va_A (w_OS a k zpaths_outer zpaths_count zsteps_targets zsteps_configurations zsteps_runs zsteps_opened zsteps_count zoutputs_contents zoutputs_makers zoutputs_executables zoutputs_lazies zstaged_contents zstaged_makers zstaged_executables zstaged_lazies zcached_contents zcached_count zholds_contents zholds_count zdirtyMarks_marks zdifferent) s.heap.size q := fun q h => Or.inr h
  refine z_start (lv := [(0, .ref (a 0)), (1, .int p1)]) (Nat.le_of_ble_eq_true rfl) rfl hP hD (fun H locs ls hP hD hS hl => ?_)
  unfold pf_OS_clear at hf
  refine lv_iload_n hx hb d_OS_clear_0 rfl (lv_at hl 1 rfl) ?_
  obtain ⟨u0, hu0, hf⟩ := z_b hf
  have hPc := zP_cut (wc := ([] : va_W)) 0 0 hP rfl
  have hDc := zD_cut (wc := ([] : va_W)) 0 0 hD rfl
  have hKc := hK.sub (tys' := ([] : List (ClassId × FieldType))) [] rfl
  refine z_ci (va_runS (As := [.int p1]) (rest := []) ⟨hx, hb, hml, hown, hts⟩ (c_OS_isConfiguration l dC dI N (fun i => a (0 + i)) (fun i => k (0 + i)) p1 hu0 H.size) (cwS 1 hts (zGS zsub_c k_1_154 k_1_155 k_1_1 kc_OS_isConfiguration) rfl rfl rfl (by decide +kernel) ⟨Nat.le_of_ble_eq_true rfl, Nat.le_of_ble_eq_true rfl⟩) ⟨z_bl, fun U hU hW => ⟨rfl, z_pre hN hKc hPc hDc U hU hW⟩⟩ rfl rfl hl.1 rfl (lv_room (Nat.le_of_ble_eq_true rfl)) d_OS_clear_1 ⟨Nat.zero_le _, Nat.zero_le _⟩) 0 0 (w_OS a k zpaths_outer zpaths_count zsteps_targets zsteps_configurations zsteps_runs zsteps_opened zsteps_count zoutputs_contents zoutputs_makers zoutputs_executables zoutputs_lazies zstaged_contents zstaged_makers zstaged_executables zstaged_lazies zcached_contents zcached_count zholds_contents zholds_count zdirtyMarks_marks zdifferent) hP hD hS hA rfl rfl (fun H locs hP hD hS => ?_)
  refine lv_if_eq (tgt := 18) hx hb d_OS_clear_4 (by decide) (fun c1 => ?_) (fun c1 => ?_)
  · have hf := z_t c1 hf
    refine lv_iconst (v := (-1 : Int32)) hx hb d_OS_clear_18 (by decide) ?_
    obtain rfl := Option.some.inj hf
    exact z_iret hx hb hr hP hD hS d_OS_clear_19 hlocks
  · have hf := z_f c1 hf
    refine lv_aload_n hx hb d_OS_clear_7 rfl (lv_at hl 0 rfl) ?_
    refine va_get (D := (dC, dI)) (ci := 6) (v := .ref (a 3)) (C := R_OS) (T := F_OS) (N := 8) hx hb hts (fun w h => List.mem_cons_of_mem _ (in_OS w h)) hown hK hP 0 rfl rfl 1 (by decide) (hts _ (List.mem_cons_of_mem _ k_1_111)) (fun _ h9 => h9) rfl d_OS_clear_8 ?_
    refine lv_iload_n hx hb d_OS_clear_11 rfl (lv_at hl 1 rfl) ?_
    obtain ⟨u1, hu1, hf⟩ := z_b hf
    have hPc := zP_cut (wc := (w_SB (fun i => a (3 + i)) (fun i => k (1 + i)) zsteps_targets zsteps_configurations zsteps_runs zsteps_opened zsteps_count)) 3 8 hP rfl
    have hDc := zD_cut (wc := (w_SB (fun i => a (3 + i)) (fun i => k (1 + i)) zsteps_targets zsteps_configurations zsteps_runs zsteps_opened zsteps_count)) 3 8 hD rfl
    have hKc := hK.sub (tys' := (t_SB (fun i => k (1 + i)))) [1, 2, 3, 4] rfl
    refine z_ci (va_runV (As := [.int p1]) (rest := []) ⟨hx, hb, hml, hown, hts⟩ (c_SB_hasOpenOneIn l dC dI N (fun i => a (3 + i)) (fun i => k (1 + i)) zsteps_targets zsteps_configurations zsteps_runs zsteps_opened zsteps_count p1 hu1 H.size) (cwV 1 hts (zGV zsub_c k_2_132 k_2_133 k_2_134 k_1_3 kc_SB_hasOpenOneIn) rfl rfl rfl (by decide +kernel) ⟨Nat.le_of_ble_eq_true rfl, Nat.le_of_ble_eq_true rfl⟩) ⟨z_bl, va_recv hKc hPc (ci := 1) (q0 := 0) rfl rfl, fun U hU hW => ⟨rfl, z_pre hN hKc hPc hDc U hU hW⟩⟩ rfl rfl hl.1 rfl (lv_room (Nat.le_of_ble_eq_true rfl)) d_OS_clear_12 ⟨Nat.zero_le _, Nat.zero_le _⟩) 3 8 (w_OS a k zpaths_outer zpaths_count zsteps_targets zsteps_configurations zsteps_runs zsteps_opened zsteps_count zoutputs_contents zoutputs_makers zoutputs_executables zoutputs_lazies zstaged_contents zstaged_makers zstaged_executables zstaged_lazies zcached_contents zcached_count zholds_contents zholds_count zdirtyMarks_marks zdifferent) hP hD hS hA rfl rfl (fun H locs hP hD hS => ?_)
    refine lv_if_eq (tgt := 20) hx hb d_OS_clear_15 (by decide) (fun c2 => ?_) (fun c2 => ?_)
    · have hf := z_t c2 hf
      refine lv_iconst (v := (0 : Int32)) hx hb d_OS_clear_20 (by decide) ?_
      refine lv_istore_n (lv' := [(2, .int (0 : Int32)), (0, .ref (a 0)), (1, .int p1)]) hx hb d_OS_clear_21 rfl hl (by decide) rfl (fun ls hl => ?_)
      refine lv_iconst (v := (0 : Int32)) hx hb d_OS_clear_22 (by decide) ?_
      refine lv_istore_n (lv' := [(3, .int (0 : Int32)), (2, .int (0 : Int32)), (0, .ref (a 0)), (1, .int p1)]) hx hb d_OS_clear_23 rfl hl (by decide) rfl (fun ls hl => ?_)
      have loop24 : ∀ (n : Nat) (zoutputs_contents' : Nat → Int64) (x2 : Int32) (x3 : Int32), pf_OS_clear_L24 N zpaths_count p1 n zoutputs_contents' x2 x3 = some y → ∀ (H : Heap) (locs : List Loc) (ls : Array Slot), va_P (dC, dI) zCl (w_OS a k zpaths_outer zpaths_count zsteps_targets zsteps_configurations zsteps_runs zsteps_opened zsteps_count zoutputs_contents' zoutputs_makers zoutputs_executables zoutputs_lazies zstaged_contents zstaged_makers zstaged_executables zstaged_lazies zcached_contents zcached_count zholds_contents zholds_count zdirtyMarks_marks zdifferent) H → va_D (va_A (w_OS a k zpaths_outer zpaths_count zsteps_targets zsteps_configurations zsteps_runs zsteps_opened zsteps_count zoutputs_contents zoutputs_makers zoutputs_executables zoutputs_lazies zstaged_contents zstaged_makers zstaged_executables zstaged_lazies zcached_contents zcached_count zholds_contents zholds_count zdirtyMarks_marks zdifferent) s.heap.size) (w_OS a k zpaths_outer zpaths_count zsteps_targets zsteps_configurations zsteps_runs zsteps_opened zsteps_count zoutputs_contents' zoutputs_makers zoutputs_executables zoutputs_lazies zstaged_contents zstaged_makers zstaged_executables zstaged_lazies zcached_contents zcached_count zholds_contents zholds_count zdirtyMarks_marks zdifferent) → va_S (va_A (w_OS a k zpaths_outer zpaths_count zsteps_targets zsteps_configurations zsteps_runs zsteps_opened zsteps_count zoutputs_contents zoutputs_makers zoutputs_executables zoutputs_lazies zstaged_contents zstaged_makers zstaged_executables zstaged_lazies zcached_contents zcached_count zholds_contents zholds_count zdirtyMarks_marks zdifferent) s.heap.size) s.heap H locs → lv_has ls 5 [(0, .ref (a 0)), (1, .int p1), (2, .int x2), (3, .int x3)] → W p l e (headSpec ww_OS_clear ({ frames := 3, cells := 0, slots := 0, locals := 64 })).room s m ([.ref (a 0), .int p1] : List Value).toArray below meth c H locs 0 0 (MQ below (zQi (dC, dI) zCl (w_OS a k zpaths_outer zpaths_count zsteps_targets zsteps_configurations zsteps_runs zsteps_opened zsteps_count zoutputs_contents zoutputs_makers zoutputs_executables zoutputs_lazies zstaged_contents zstaged_makers zstaged_executables zstaged_lazies zcached_contents zcached_count zholds_contents zholds_count zdirtyMarks_marks zdifferent) s.heap.size y.1 (w_OS a k zpaths_outer zpaths_count zsteps_targets zsteps_configurations zsteps_runs zsteps_opened zsteps_count y.2 zoutputs_makers zoutputs_executables zoutputs_lazies zstaged_contents zstaged_makers zstaged_executables zstaged_lazies zcached_contents zcached_count zholds_contents zholds_count zdirtyMarks_marks zdifferent)) ([.ref (a 0), .int p1] : List Value).toArray s 0 0 (va_A (w_OS a k zpaths_outer zpaths_count zsteps_targets zsteps_configurations zsteps_runs zsteps_opened zsteps_count zoutputs_contents zoutputs_makers zoutputs_executables zoutputs_lazies zstaged_contents zstaged_makers zstaged_executables zstaged_lazies zcached_contents zcached_count zholds_contents zholds_count zdirtyMarks_marks zdifferent) s.heap.size)) (F0 m 24 ls []) := by
        intro n24
        induction n24 with
        | zero => intro zoutputs_contents' x2 x3 hf; rw [pf_OS_clear_L24.eq_1] at hf; cases hf
        | succ n24 ih24 =>
          intro zoutputs_contents' x2 x3 hf H locs ls hP hD hS hl
          rw [pf_OS_clear_L24.eq_2] at hf
          refine lv_iload_n hx hb d_OS_clear_24 rfl (lv_at hl 3 rfl) ?_
          refine lv_bipush (v := (nI 40)) hx hb d_OS_clear_25 (by decide) ?_
          refine lv_icmp_ge (tgt := 68) hx hb d_OS_clear_27 (by decide) (fun c3 => ?_) (fun c3 => ?_)
          · have hf := z_t c3 hf
            refine lv_iload_n hx hb d_OS_clear_68 rfl (lv_at hl 2 rfl) ?_
            obtain rfl := Option.some.inj hf
            exact z_iret hx hb hr hP hD hS d_OS_clear_69 hlocks
          · have hf := z_f c3 hf
            refine lv_aload_n hx hb d_OS_clear_30 rfl (lv_at hl 0 rfl) ?_
            refine lv_iload_n hx hb d_OS_clear_31 rfl (lv_at hl 1 rfl) ?_
            refine lv_iload_n hx hb d_OS_clear_32 rfl (lv_at hl 3 rfl) ?_
            obtain ⟨u2, hu2, hf⟩ := z_b hf
            have hPc := hP
            have hDc := hD
            have hKc := hK
            refine z_cwi (va_runV (As := [.int p1, .int x3]) (rest := []) ⟨hx, hb, hml, hown, hts⟩ (c_OS_slotOf l dC dI N a k zpaths_outer zpaths_count zsteps_targets zsteps_configurations zsteps_runs zsteps_opened zsteps_count zoutputs_contents' zoutputs_makers zoutputs_executables zoutputs_lazies zstaged_contents zstaged_makers zstaged_executables zstaged_lazies zcached_contents zcached_count zholds_contents zholds_count zdirtyMarks_marks zdifferent p1 x3 hu2 H.size) (cwV 2 hts (zGV zsub_c k_1_191 k_1_193 s_OS_slotOf k_1_1 kc_OS_slotOf) rfl rfl rfl (by decide +kernel) ⟨Nat.le_of_ble_eq_true rfl, Nat.le_of_ble_eq_true rfl⟩) ⟨z_bl, va_recv hKc hPc (ci := 6) (q0 := 0) rfl rfl, fun U hU hW => ⟨rfl, z_pre hN hKc hPc hDc U hU hW⟩⟩ rfl rfl hl.1 rfl (lv_room (Nat.le_of_ble_eq_true rfl)) d_OS_clear_33 ⟨Nat.zero_le _, Nat.zero_le _⟩) hD hS hA (fun H locs hP hD hS => ?_)
            refine lv_istore (lv' := [(4, .int u2), (0, .ref (a 0)), (1, .int p1), (2, .int x2), (3, .int x3)]) hx hb d_OS_clear_36 hl (by decide) rfl (fun ls hl => ?_)
            refine lv_aload_n hx hb d_OS_clear_38 rfl (lv_at hl 1 rfl) ?_
            refine va_get (D := (dC, dI)) (ci := 6) (v := .ref (a 8)) (C := R_OS) (T := F_OS) (N := 8) hx hb hts (fun w h => List.mem_cons_of_mem _ (in_OS w h)) hown hK hP 0 rfl rfl 2 (by decide) (hts _ (List.mem_cons_of_mem _ k_1_112)) (fun _ h9 => h9) rfl d_OS_clear_39 ?_
            refine lv_iload hx hb d_OS_clear_42 (lv_at hl 0 rfl) ?_
            obtain ⟨u3, hu3, hf⟩ := z_b hf
            have hPc := zP_cut (wc := (w_LT (fun i => a (8 + i)) (fun i => k (5 + i)) zoutputs_contents' zoutputs_makers zoutputs_executables zoutputs_lazies)) 8 13 hP rfl
            have hDc := zD_cut (wc := (w_LT (fun i => a (8 + i)) (fun i => k (5 + i)) zoutputs_contents' zoutputs_makers zoutputs_executables zoutputs_lazies)) 8 13 hD rfl
            have hKc := hK.sub (tys' := (t_LT (fun i => k (5 + i)))) [5, 6, 7, 8] rfl
            refine z_ci (va_runV (As := [.int u2]) (rest := []) ⟨hx, hb, hml, hown, hts⟩ (c_LT_has l dC dI N (fun i => a (8 + i)) (fun i => k (5 + i)) zoutputs_contents' zoutputs_makers zoutputs_executables zoutputs_lazies u2 hu3 H.size) (cwV 1 hts (zGV zsub_c k_1_215 k_1_200 k_1_201 k_1_4 kc_LT_has) rfl rfl rfl (by decide +kernel) ⟨Nat.le_of_ble_eq_true rfl, Nat.le_of_ble_eq_true rfl⟩) ⟨z_bl, va_recv hKc hPc (ci := 2) (q0 := 0) rfl rfl, fun U hU hW => ⟨rfl, z_pre hN hKc hPc hDc U hU hW⟩⟩ rfl rfl hl.1 rfl (lv_room (Nat.le_of_ble_eq_true rfl)) d_OS_clear_44 ⟨Nat.zero_le _, Nat.zero_le _⟩) 8 13 (w_OS a k zpaths_outer zpaths_count zsteps_targets zsteps_configurations zsteps_runs zsteps_opened zsteps_count zoutputs_contents' zoutputs_makers zoutputs_executables zoutputs_lazies zstaged_contents zstaged_makers zstaged_executables zstaged_lazies zcached_contents zcached_count zholds_contents zholds_count zdirtyMarks_marks zdifferent) hP hD hS hA rfl rfl (fun H locs hP hD hS => ?_)
            refine lv_if_eq (tgt := 62) hx hb d_OS_clear_47 (by decide) (fun c4 => ?_) (fun c4 => ?_)
            · have hf := z_t c4 hf
              refine lv_iinc (v := (x3 + (1 : Int32))) (lv' := [(3, .int (x3 + (1 : Int32))), (4, .int u2), (0, .ref (a 0)), (1, .int p1), (2, .int x2)]) hx hb d_OS_clear_62 hl (k := 4) rfl rfl (by decide) rfl (fun ls hl => ?_)
              refine lv_goto (tgt := 24) hx hb d_OS_clear_65 (by decide) ?_
              exact ih24 zoutputs_contents' x2 (x3 + (1 : Int32)) hf H locs ls hP hD hS (lv_sub hl [2, 3, 4, 0] rfl)
            · have hf := z_f c4 hf
              refine lv_aload_n hx hb d_OS_clear_50 rfl (lv_at hl 1 rfl) ?_
              refine va_get (D := (dC, dI)) (ci := 6) (v := .ref (a 8)) (C := R_OS) (T := F_OS) (N := 8) hx hb hts (fun w h => List.mem_cons_of_mem _ (in_OS w h)) hown hK hP 0 rfl rfl 2 (by decide) (hts _ (List.mem_cons_of_mem _ k_1_112)) (fun _ h9 => h9) rfl d_OS_clear_51 ?_
              refine lv_iload hx hb d_OS_clear_54 (lv_at hl 0 rfl) ?_
              obtain ⟨u4, hu4, hf⟩ := z_b hf
              have hPc := zP_cut (wc := (w_LT (fun i => a (8 + i)) (fun i => k (5 + i)) zoutputs_contents' zoutputs_makers zoutputs_executables zoutputs_lazies)) 8 13 hP rfl
              have hDc := zD_cut (wc := (w_LT (fun i => a (8 + i)) (fun i => k (5 + i)) zoutputs_contents' zoutputs_makers zoutputs_executables zoutputs_lazies)) 8 13 hD rfl
              have hKc := hK.sub (tys' := (t_LT (fun i => k (5 + i)))) [5, 6, 7, 8] rfl
              refine z_cv (va_runV (As := [.int u2]) (rest := []) ⟨hx, hb, hml, hown, hts⟩ (c_LT_drop l dC dI N (fun i => a (8 + i)) (fun i => k (5 + i)) zoutputs_contents' zoutputs_makers zoutputs_executables zoutputs_lazies u2 hu4 H.size) (cwV 1 hts (zGV zsub_c k_2_31 k_2_32 k_2_33 k_1_4 kc_LT_drop) rfl rfl rfl (by decide +kernel) ⟨Nat.le_of_ble_eq_true rfl, Nat.le_of_ble_eq_true rfl⟩) ⟨z_bl, va_recv hKc hPc (ci := 2) (q0 := 0) rfl rfl, fun U hU hW => ⟨rfl, z_pre hN hKc hPc hDc U hU hW⟩⟩ rfl rfl hl.1 rfl (lv_room (Nat.le_of_ble_eq_true rfl)) d_OS_clear_56 ⟨Nat.zero_le _, Nat.zero_le _⟩) 8 13 (w_OS a k zpaths_outer zpaths_count zsteps_targets zsteps_configurations zsteps_runs zsteps_opened zsteps_count u4 zoutputs_makers zoutputs_executables zoutputs_lazies zstaged_contents zstaged_makers zstaged_executables zstaged_lazies zcached_contents zcached_count zholds_contents zholds_count zdirtyMarks_marks zdifferent) hP hD hS hA rfl rfl (fun H locs hP hD hS => ?_)
              refine lv_iinc (v := (x2 + (1 : Int32))) (lv' := [(2, .int (x2 + (1 : Int32))), (4, .int u2), (0, .ref (a 0)), (1, .int p1), (3, .int x3)]) hx hb d_OS_clear_59 hl (k := 3) rfl rfl (by decide) rfl (fun ls hl => ?_)
              refine lv_iinc (v := (x3 + (1 : Int32))) (lv' := [(3, .int (x3 + (1 : Int32))), (2, .int (x2 + (1 : Int32))), (4, .int u2), (0, .ref (a 0)), (1, .int p1)]) hx hb d_OS_clear_62 hl (k := 4) rfl rfl (by decide) rfl (fun ls hl => ?_)
              refine lv_goto (tgt := 24) hx hb d_OS_clear_65 (by decide) ?_
              exact ih24 u4 (x2 + (1 : Int32)) (x3 + (1 : Int32)) hf H locs ls hP hD hS (lv_sub hl [3, 4, 1, 0] rfl)
      exact loop24 N zoutputs_contents (0 : Int32) (0 : Int32) hf H locs ls hP hD hS (lv_sub hl [2, 3, 1, 0] rfl)
    · have hf := z_f c2 hf
      refine lv_iconst (v := (-1 : Int32)) hx hb d_OS_clear_18 (by decide) ?_
      obtain rfl := Option.some.inj hf
      exact z_iret hx hb hr hP hD hS d_OS_clear_19 hlocks
set_option maxHeartbeats 4000000 in
set_option maxRecDepth 100000 in
theorem c_OS_copies (l : Launch) (dC : Nat → ClassId) (dI : Nat → Nat → Nat) (N : Nat) (a : Nat → Nat) (k : Nat → ClassId) (zpaths_outer : Nat → Int32) (zpaths_count : Int32) (zsteps_targets : Nat → Int32) (zsteps_configurations : Nat → Int32) (zsteps_runs : Nat → Int32) (zsteps_opened : Nat → Int32) (zsteps_count : Int32) (zoutputs_contents : Nat → Int64) (zoutputs_makers : Nat → Int32) (zoutputs_executables : Nat → Int32) (zoutputs_lazies : Nat → Int32) (zstaged_contents : Nat → Int64) (zstaged_makers : Nat → Int32) (zstaged_executables : Nat → Int32) (zstaged_lazies : Nat → Int32) (zcached_contents : Nat → Int64) (zcached_count : Int32) (zholds_contents : Nat → Int64) (zholds_count : Int32) (zdirtyMarks_marks : Nat → Int32) (zdifferent : Nat → Int64) (p1 : Int64) {y : (Int32)} (hf : pf_OS_copies N zoutputs_contents zoutputs_lazies zstaged_contents zstaged_lazies zholds_contents zholds_count p1 = some y) (sz : Nat) : Met l y_OS_copies ww_OS_copies ({ frames := 4, cells := 0, slots := 0, locals := 84 }) (va_Pc [.ref (a 0), .long p1] (zB (dC, dI) zCl (t_OS k) (w_OS a k zpaths_outer zpaths_count zsteps_targets zsteps_configurations zsteps_runs zsteps_opened zsteps_count zoutputs_contents zoutputs_makers zoutputs_executables zoutputs_lazies zstaged_contents zstaged_makers zstaged_executables zstaged_lazies zcached_contents zcached_count zholds_contents zholds_count zdirtyMarks_marks zdifferent) sz)) (zQi (dC, dI) zCl (w_OS a k zpaths_outer zpaths_count zsteps_targets zsteps_configurations zsteps_runs zsteps_opened zsteps_count zoutputs_contents zoutputs_makers zoutputs_executables zoutputs_lazies zstaged_contents zstaged_makers zstaged_executables zstaged_lazies zcached_contents zcached_count zholds_contents zholds_count zdirtyMarks_marks zdifferent) sz y (w_OS a k zpaths_outer zpaths_count zsteps_targets zsteps_configurations zsteps_runs zsteps_opened zsteps_count zoutputs_contents zoutputs_makers zoutputs_executables zoutputs_lazies zstaged_contents zstaged_makers zstaged_executables zstaged_lazies zcached_contents zcached_count zholds_contents zholds_count zdirtyMarks_marks zdifferent)) 0 0 (va_A (w_OS a k zpaths_outer zpaths_count zsteps_targets zsteps_configurations zsteps_runs zsteps_opened zsteps_count zoutputs_contents zoutputs_makers zoutputs_executables zoutputs_lazies zstaged_contents zstaged_makers zstaged_executables zstaged_lazies zcached_contents zcached_count zholds_contents zholds_count zdirtyMarks_marks zdifferent) sz) := by
  refine Met.ofW (cc := b_OS_copies) (maxL := 5) (ret := (some .int)) (by decide) rfl ?_
  intro p e s m args below meth c s₁ B hml hv
  obtain ⟨rfl, rfl, hP, hK, hD, hN⟩ := hv
  have hx := B.exec
  have hb := B.bytes
  have hr := B.returns
  have hts := atoms_spec (ws := ww_OS_copies) B.pre
  have hown : s.vm.findClass R_OS = some m.cls := findClass_of_methodNamed B.named
  have hlocks := B.notSynchronized
  have hA : ∀ q : Nat, s.heap.size ≤ q → va_A (w_OS a k zpaths_outer zpaths_count zsteps_targets zsteps_configurations zsteps_runs zsteps_opened zsteps_count zoutputs_contents zoutputs_makers zoutputs_executables zoutputs_lazies zstaged_contents zstaged_makers zstaged_executables zstaged_lazies zcached_contents zcached_count zholds_contents zholds_count zdirtyMarks_marks zdifferent) s.heap.size q := fun q h => Or.inr h
  refine z_start (lv := [(0, .ref (a 0)), (1, .long p1)]) (Nat.le_of_ble_eq_true rfl) rfl hP hD (fun H locs ls hP hD hS hl => ?_)
  unfold pf_OS_copies at hf
  refine lv_lload_n hx hb d_OS_copies_0 rfl (lv_at hl 1 rfl) ?_
  refine lv_lconst (v := 0) hx hb d_OS_copies_1 (by decide) ?_
  refine W.lcmp hx hb d_OS_copies_2 ?_
  refine lv_if_ne (tgt := 8) hx hb d_OS_copies_3 (by decide) (fun c1 => ?_) (fun c1 => ?_)
  · have hf := z_t c1 hf
    refine lv_iconst (v := (0 : Int32)) hx hb d_OS_copies_8 (by decide) ?_
    refine lv_istore_n (lv' := [(3, .int (0 : Int32)), (0, .ref (a 0)), (1, .long p1)]) hx hb d_OS_copies_9 rfl hl (by decide) rfl (fun ls hl => ?_)
    refine lv_iconst (v := (0 : Int32)) hx hb d_OS_copies_10 (by decide) ?_
    refine lv_istore (lv' := [(4, .int (0 : Int32)), (3, .int (0 : Int32)), (0, .ref (a 0)), (1, .long p1)]) hx hb d_OS_copies_11 hl (by decide) rfl (fun ls hl => ?_)
    have loop13 : ∀ (n : Nat) (x3 : Int32) (x4 : Int32), pf_OS_copies_L13 N zoutputs_contents zoutputs_lazies zstaged_contents zstaged_lazies zholds_contents zholds_count p1 n x3 x4 = some y → ∀ (H : Heap) (locs : List Loc) (ls : Array Slot), va_P (dC, dI) zCl (w_OS a k zpaths_outer zpaths_count zsteps_targets zsteps_configurations zsteps_runs zsteps_opened zsteps_count zoutputs_contents zoutputs_makers zoutputs_executables zoutputs_lazies zstaged_contents zstaged_makers zstaged_executables zstaged_lazies zcached_contents zcached_count zholds_contents zholds_count zdirtyMarks_marks zdifferent) H → va_D (va_A (w_OS a k zpaths_outer zpaths_count zsteps_targets zsteps_configurations zsteps_runs zsteps_opened zsteps_count zoutputs_contents zoutputs_makers zoutputs_executables zoutputs_lazies zstaged_contents zstaged_makers zstaged_executables zstaged_lazies zcached_contents zcached_count zholds_contents zholds_count zdirtyMarks_marks zdifferent) s.heap.size) (w_OS a k zpaths_outer zpaths_count zsteps_targets zsteps_configurations zsteps_runs zsteps_opened zsteps_count zoutputs_contents zoutputs_makers zoutputs_executables zoutputs_lazies zstaged_contents zstaged_makers zstaged_executables zstaged_lazies zcached_contents zcached_count zholds_contents zholds_count zdirtyMarks_marks zdifferent) → va_S (va_A (w_OS a k zpaths_outer zpaths_count zsteps_targets zsteps_configurations zsteps_runs zsteps_opened zsteps_count zoutputs_contents zoutputs_makers zoutputs_executables zoutputs_lazies zstaged_contents zstaged_makers zstaged_executables zstaged_lazies zcached_contents zcached_count zholds_contents zholds_count zdirtyMarks_marks zdifferent) s.heap.size) s.heap H locs → lv_has ls 5 [(0, .ref (a 0)), (1, .long p1), (3, .int x3), (4, .int x4)] → W p l e (headSpec ww_OS_copies ({ frames := 4, cells := 0, slots := 0, locals := 84 })).room s m ([.ref (a 0), .long p1] : List Value).toArray below meth c H locs 0 0 (MQ below (zQi (dC, dI) zCl (w_OS a k zpaths_outer zpaths_count zsteps_targets zsteps_configurations zsteps_runs zsteps_opened zsteps_count zoutputs_contents zoutputs_makers zoutputs_executables zoutputs_lazies zstaged_contents zstaged_makers zstaged_executables zstaged_lazies zcached_contents zcached_count zholds_contents zholds_count zdirtyMarks_marks zdifferent) s.heap.size y (w_OS a k zpaths_outer zpaths_count zsteps_targets zsteps_configurations zsteps_runs zsteps_opened zsteps_count zoutputs_contents zoutputs_makers zoutputs_executables zoutputs_lazies zstaged_contents zstaged_makers zstaged_executables zstaged_lazies zcached_contents zcached_count zholds_contents zholds_count zdirtyMarks_marks zdifferent)) ([.ref (a 0), .long p1] : List Value).toArray s 0 0 (va_A (w_OS a k zpaths_outer zpaths_count zsteps_targets zsteps_configurations zsteps_runs zsteps_opened zsteps_count zoutputs_contents zoutputs_makers zoutputs_executables zoutputs_lazies zstaged_contents zstaged_makers zstaged_executables zstaged_lazies zcached_contents zcached_count zholds_contents zholds_count zdirtyMarks_marks zdifferent) s.heap.size)) (F0 m 13 ls []) := by
      intro n13
      induction n13 with
      | zero => intro x3 x4 hf; rw [pf_OS_copies_L13.eq_1] at hf; cases hf
      | succ n13 ih13 =>
        intro x3 x4 hf H locs ls hP hD hS hl
        rw [pf_OS_copies_L13.eq_2] at hf
        refine lv_iload hx hb d_OS_copies_13 (lv_at hl 3 rfl) ?_
        refine lv_sipush (v := (nI 420)) hx hb d_OS_copies_15 (by decide) ?_
        refine lv_icmp_ge (tgt := 41) hx hb d_OS_copies_18 (by decide) (fun c2 => ?_) (fun c2 => ?_)
        · have hf := z_t c2 hf
          refine lv_iload_n hx hb d_OS_copies_41 rfl (lv_at hl 2 rfl) ?_
          obtain rfl := Option.some.inj hf
          exact z_iret hx hb hr hP hD hS d_OS_copies_42 hlocks
        · have hf := z_f c2 hf
          refine lv_aload_n hx hb d_OS_copies_21 rfl (lv_at hl 0 rfl) ?_
          refine lv_iload hx hb d_OS_copies_22 (lv_at hl 3 rfl) ?_
          obtain ⟨u0, hu0, hf⟩ := z_b hf
          have hPc := hP
          have hDc := hD
          have hKc := hK
          refine z_cwl (va_runV (As := [.int x4]) (rest := []) ⟨hx, hb, hml, hown, hts⟩ (c_OS_storedAt l dC dI N a k zpaths_outer zpaths_count zsteps_targets zsteps_configurations zsteps_runs zsteps_opened zsteps_count zoutputs_contents zoutputs_makers zoutputs_executables zoutputs_lazies zstaged_contents zstaged_makers zstaged_executables zstaged_lazies zcached_contents zcached_count zholds_contents zholds_count zdirtyMarks_marks zdifferent x4 hu0 H.size) (cwV 1 hts (zGV zsub_c k_2_140 k_2_142 s_OS_storedAt k_1_1 kc_OS_storedAt) rfl rfl rfl (by decide +kernel) ⟨Nat.le_of_ble_eq_true rfl, Nat.le_of_ble_eq_true rfl⟩) ⟨z_bl, va_recv hKc hPc (ci := 6) (q0 := 0) rfl rfl, fun U hU hW => ⟨rfl, z_pre hN hKc hPc hDc U hU hW⟩⟩ rfl rfl hl.1 rfl (lv_room (Nat.le_of_ble_eq_true rfl)) d_OS_copies_24 ⟨Nat.zero_le _, Nat.zero_le _⟩) hD hS hA (fun H locs hP hD hS => ?_)
          refine lv_lload_n hx hb d_OS_copies_27 rfl (lv_at hl 1 rfl) ?_
          refine W.lcmp hx hb d_OS_copies_28 ?_
          refine lv_if_ne (tgt := 35) hx hb d_OS_copies_29 (by decide) (fun c3 => ?_) (fun c3 => ?_)
          · have hf := z_t c3 hf
            refine lv_iinc (v := (x4 + (1 : Int32))) (lv' := [(4, .int (x4 + (1 : Int32))), (0, .ref (a 0)), (1, .long p1), (3, .int x3)]) hx hb d_OS_copies_35 hl (k := 3) rfl rfl (by decide) rfl (fun ls hl => ?_)
            refine lv_goto (tgt := 13) hx hb d_OS_copies_38 (by decide) ?_
            exact ih13 x3 (x4 + (1 : Int32)) hf H locs ls hP hD hS (lv_sub hl [1, 2, 3, 0] rfl)
          · have hf := z_fn c3 hf
            refine lv_iinc (v := (x3 + (1 : Int32))) (lv' := [(3, .int (x3 + (1 : Int32))), (0, .ref (a 0)), (1, .long p1), (4, .int x4)]) hx hb d_OS_copies_32 hl (k := 2) rfl rfl (by decide) rfl (fun ls hl => ?_)
            refine lv_iinc (v := (x4 + (1 : Int32))) (lv' := [(4, .int (x4 + (1 : Int32))), (3, .int (x3 + (1 : Int32))), (0, .ref (a 0)), (1, .long p1)]) hx hb d_OS_copies_35 hl (k := 3) rfl rfl (by decide) rfl (fun ls hl => ?_)
            refine lv_goto (tgt := 13) hx hb d_OS_copies_38 (by decide) ?_
            exact ih13 (x3 + (1 : Int32)) (x4 + (1 : Int32)) hf H locs ls hP hD hS (lv_sub hl [2, 3, 1, 0] rfl)
    exact loop13 N (0 : Int32) (0 : Int32) hf H locs ls hP hD hS (lv_sub hl [2, 3, 1, 0] rfl)
  · have hf := z_fn c1 hf
    refine lv_iconst (v := (0 : Int32)) hx hb d_OS_copies_6 (by decide) ?_
    obtain rfl := Option.some.inj hf
    exact z_iret hx hb hr hP hD hS d_OS_copies_7 hlocks
set_option maxHeartbeats 4000000 in
set_option maxRecDepth 100000 in
theorem c_OS_stored (l : Launch) (dC : Nat → ClassId) (dI : Nat → Nat → Nat) (N : Nat) (a : Nat → Nat) (k : Nat → ClassId) (zpaths_outer : Nat → Int32) (zpaths_count : Int32) (zsteps_targets : Nat → Int32) (zsteps_configurations : Nat → Int32) (zsteps_runs : Nat → Int32) (zsteps_opened : Nat → Int32) (zsteps_count : Int32) (zoutputs_contents : Nat → Int64) (zoutputs_makers : Nat → Int32) (zoutputs_executables : Nat → Int32) (zoutputs_lazies : Nat → Int32) (zstaged_contents : Nat → Int64) (zstaged_makers : Nat → Int32) (zstaged_executables : Nat → Int32) (zstaged_lazies : Nat → Int32) (zcached_contents : Nat → Int64) (zcached_count : Int32) (zholds_contents : Nat → Int64) (zholds_count : Int32) (zdirtyMarks_marks : Nat → Int32) (zdifferent : Nat → Int64) {y : (Int32 × (Nat → Int64))} (hf : pf_OS_stored N zoutputs_contents zoutputs_lazies zstaged_contents zstaged_lazies zholds_contents zholds_count zdifferent = some y) (sz : Nat) : Met l y_OS_stored ww_OS_stored ({ frames := 4, cells := 0, slots := 0, locals := 84 }) (va_Pc [.ref (a 0)] (zB (dC, dI) zCl (t_OS k) (w_OS a k zpaths_outer zpaths_count zsteps_targets zsteps_configurations zsteps_runs zsteps_opened zsteps_count zoutputs_contents zoutputs_makers zoutputs_executables zoutputs_lazies zstaged_contents zstaged_makers zstaged_executables zstaged_lazies zcached_contents zcached_count zholds_contents zholds_count zdirtyMarks_marks zdifferent) sz)) (zQi (dC, dI) zCl (w_OS a k zpaths_outer zpaths_count zsteps_targets zsteps_configurations zsteps_runs zsteps_opened zsteps_count zoutputs_contents zoutputs_makers zoutputs_executables zoutputs_lazies zstaged_contents zstaged_makers zstaged_executables zstaged_lazies zcached_contents zcached_count zholds_contents zholds_count zdirtyMarks_marks zdifferent) sz y.1 (w_OS a k zpaths_outer zpaths_count zsteps_targets zsteps_configurations zsteps_runs zsteps_opened zsteps_count zoutputs_contents zoutputs_makers zoutputs_executables zoutputs_lazies zstaged_contents zstaged_makers zstaged_executables zstaged_lazies zcached_contents zcached_count zholds_contents zholds_count zdirtyMarks_marks y.2)) 0 0 (va_A (w_OS a k zpaths_outer zpaths_count zsteps_targets zsteps_configurations zsteps_runs zsteps_opened zsteps_count zoutputs_contents zoutputs_makers zoutputs_executables zoutputs_lazies zstaged_contents zstaged_makers zstaged_executables zstaged_lazies zcached_contents zcached_count zholds_contents zholds_count zdirtyMarks_marks zdifferent) sz) := by
  refine Met.ofW (cc := b_OS_stored) (maxL := 5) (ret := (some .int)) (by decide) rfl ?_
  intro p e s m args below meth c s₁ B hml hv
  obtain ⟨rfl, rfl, hP, hK, hD, hN⟩ := hv
  have hx := B.exec
  have hb := B.bytes
  have hr := B.returns
  have hts := atoms_spec (ws := ww_OS_stored) B.pre
  have hown : s.vm.findClass R_OS = some m.cls := findClass_of_methodNamed B.named
  have hlocks := B.notSynchronized
  have hA : ∀ q : Nat, s.heap.size ≤ q → va_A (w_OS a k zpaths_outer zpaths_count zsteps_targets zsteps_configurations zsteps_runs zsteps_opened zsteps_count zoutputs_contents zoutputs_makers zoutputs_executables zoutputs_lazies zstaged_contents zstaged_makers zstaged_executables zstaged_lazies zcached_contents zcached_count zholds_contents zholds_count zdirtyMarks_marks zdifferent) s.heap.size q := fun q h => Or.inr h
  refine z_start (lv := [(0, .ref (a 0))]) (Nat.le_of_ble_eq_true rfl) rfl hP hD (fun H locs ls hP hD hS hl => ?_)
  unfold pf_OS_stored at hf
  refine lv_iconst (v := (0 : Int32)) hx hb d_OS_stored_0 (by decide) ?_
  refine lv_istore_n (lv' := [(1, .int (0 : Int32)), (0, .ref (a 0))]) hx hb d_OS_stored_1 rfl hl (by decide) rfl (fun ls hl => ?_)
  refine lv_iconst (v := (0 : Int32)) hx hb d_OS_stored_2 (by decide) ?_
  refine lv_istore_n (lv' := [(2, .int (0 : Int32)), (1, .int (0 : Int32)), (0, .ref (a 0))]) hx hb d_OS_stored_3 rfl hl (by decide) rfl (fun ls hl => ?_)
  have loop4 : ∀ (n : Nat) (zdifferent' : Nat → Int64) (x1 : Int32) (x2 : Int32), pf_OS_stored_L4 N zoutputs_contents zoutputs_lazies zstaged_contents zstaged_lazies zholds_contents zholds_count n zdifferent' x1 x2 = some y → ∀ (H : Heap) (locs : List Loc) (ls : Array Slot), va_P (dC, dI) zCl (w_OS a k zpaths_outer zpaths_count zsteps_targets zsteps_configurations zsteps_runs zsteps_opened zsteps_count zoutputs_contents zoutputs_makers zoutputs_executables zoutputs_lazies zstaged_contents zstaged_makers zstaged_executables zstaged_lazies zcached_contents zcached_count zholds_contents zholds_count zdirtyMarks_marks zdifferent') H → va_D (va_A (w_OS a k zpaths_outer zpaths_count zsteps_targets zsteps_configurations zsteps_runs zsteps_opened zsteps_count zoutputs_contents zoutputs_makers zoutputs_executables zoutputs_lazies zstaged_contents zstaged_makers zstaged_executables zstaged_lazies zcached_contents zcached_count zholds_contents zholds_count zdirtyMarks_marks zdifferent) s.heap.size) (w_OS a k zpaths_outer zpaths_count zsteps_targets zsteps_configurations zsteps_runs zsteps_opened zsteps_count zoutputs_contents zoutputs_makers zoutputs_executables zoutputs_lazies zstaged_contents zstaged_makers zstaged_executables zstaged_lazies zcached_contents zcached_count zholds_contents zholds_count zdirtyMarks_marks zdifferent') → va_S (va_A (w_OS a k zpaths_outer zpaths_count zsteps_targets zsteps_configurations zsteps_runs zsteps_opened zsteps_count zoutputs_contents zoutputs_makers zoutputs_executables zoutputs_lazies zstaged_contents zstaged_makers zstaged_executables zstaged_lazies zcached_contents zcached_count zholds_contents zholds_count zdirtyMarks_marks zdifferent) s.heap.size) s.heap H locs → lv_has ls 5 [(0, .ref (a 0)), (1, .int x1), (2, .int x2)] → W p l e (headSpec ww_OS_stored ({ frames := 4, cells := 0, slots := 0, locals := 84 })).room s m ([.ref (a 0)] : List Value).toArray below meth c H locs 0 0 (MQ below (zQi (dC, dI) zCl (w_OS a k zpaths_outer zpaths_count zsteps_targets zsteps_configurations zsteps_runs zsteps_opened zsteps_count zoutputs_contents zoutputs_makers zoutputs_executables zoutputs_lazies zstaged_contents zstaged_makers zstaged_executables zstaged_lazies zcached_contents zcached_count zholds_contents zholds_count zdirtyMarks_marks zdifferent) s.heap.size y.1 (w_OS a k zpaths_outer zpaths_count zsteps_targets zsteps_configurations zsteps_runs zsteps_opened zsteps_count zoutputs_contents zoutputs_makers zoutputs_executables zoutputs_lazies zstaged_contents zstaged_makers zstaged_executables zstaged_lazies zcached_contents zcached_count zholds_contents zholds_count zdirtyMarks_marks y.2)) ([.ref (a 0)] : List Value).toArray s 0 0 (va_A (w_OS a k zpaths_outer zpaths_count zsteps_targets zsteps_configurations zsteps_runs zsteps_opened zsteps_count zoutputs_contents zoutputs_makers zoutputs_executables zoutputs_lazies zstaged_contents zstaged_makers zstaged_executables zstaged_lazies zcached_contents zcached_count zholds_contents zholds_count zdirtyMarks_marks zdifferent) s.heap.size)) (F0 m 4 ls []) := by
    intro n4
    induction n4 with
    | zero => intro zdifferent' x1 x2 hf; rw [pf_OS_stored_L4.eq_1] at hf; cases hf
    | succ n4 ih4 =>
      intro zdifferent' x1 x2 hf H locs ls hP hD hS hl
      rw [pf_OS_stored_L4.eq_2] at hf
      refine lv_iload_n hx hb d_OS_stored_4 rfl (lv_at hl 2 rfl) ?_
      refine lv_sipush (v := (nI 420)) hx hb d_OS_stored_5 (by decide) ?_
      refine lv_icmp_ge (tgt := 59) hx hb d_OS_stored_8 (by decide) (fun c1 => ?_) (fun c1 => ?_)
      · have hf := z_t c1 hf
        refine lv_iload_n hx hb d_OS_stored_59 rfl (lv_at hl 1 rfl) ?_
        obtain rfl := Option.some.inj hf
        exact z_iret hx hb hr hP hD hS d_OS_stored_60 hlocks
      · have hf := z_f c1 hf
        refine lv_aload_n hx hb d_OS_stored_11 rfl (lv_at hl 0 rfl) ?_
        refine lv_iload_n hx hb d_OS_stored_12 rfl (lv_at hl 2 rfl) ?_
        obtain ⟨u0, hu0, hf⟩ := z_b hf
        have hPc := hP
        have hDc := hD
        have hKc := hK
        refine z_cwl (va_runV (As := [.int x2]) (rest := []) ⟨hx, hb, hml, hown, hts⟩ (c_OS_storedAt l dC dI N a k zpaths_outer zpaths_count zsteps_targets zsteps_configurations zsteps_runs zsteps_opened zsteps_count zoutputs_contents zoutputs_makers zoutputs_executables zoutputs_lazies zstaged_contents zstaged_makers zstaged_executables zstaged_lazies zcached_contents zcached_count zholds_contents zholds_count zdirtyMarks_marks zdifferent' x2 hu0 H.size) (cwV 1 hts (zGV zsub_c k_2_140 k_2_142 s_OS_storedAt k_1_1 kc_OS_storedAt) rfl rfl rfl (by decide +kernel) ⟨Nat.le_of_ble_eq_true rfl, Nat.le_of_ble_eq_true rfl⟩) ⟨z_bl, va_recv hKc hPc (ci := 6) (q0 := 0) rfl rfl, fun U hU hW => ⟨rfl, z_pre hN hKc hPc hDc U hU hW⟩⟩ rfl rfl hl.1 rfl (lv_room (Nat.le_of_ble_eq_true rfl)) d_OS_stored_13 ⟨Nat.zero_le _, Nat.zero_le _⟩) hD hS hA (fun H locs hP hD hS => ?_)
        refine lv_lstore_n (lv' := [(3, .long u0), (0, .ref (a 0)), (1, .int x1), (2, .int x2)]) hx hb d_OS_stored_16 rfl hl (by decide) rfl (fun ls hl => ?_)
        refine lv_lload_n hx hb d_OS_stored_17 rfl (lv_at hl 0 rfl) ?_
        refine lv_lconst (v := 0) hx hb d_OS_stored_18 (by decide) ?_
        refine W.lcmp hx hb d_OS_stored_19 ?_
        refine lv_if_eq (tgt := 53) hx hb d_OS_stored_20 (by decide) (fun c2 => ?_) (fun c2 => ?_)
        · have hf := z_t c2 hf
          refine lv_iinc (v := (x2 + (1 : Int32))) (lv' := [(2, .int (x2 + (1 : Int32))), (3, .long u0), (0, .ref (a 0)), (1, .int x1)]) hx hb d_OS_stored_53 hl (k := 3) rfl rfl (by decide) rfl (fun ls hl => ?_)
          refine lv_goto (tgt := 4) hx hb d_OS_stored_56 (by decide) ?_
          exact ih4 zdifferent' x1 (x2 + (1 : Int32)) hf H locs ls hP hD hS (lv_sub hl [2, 3, 0] rfl)
        · have hf := z_f c2 hf
          refine lv_iload_n hx hb d_OS_stored_23 rfl (lv_at hl 2 rfl) ?_
          refine lv_sipush (v := (nI 420)) hx hb d_OS_stored_24 (by decide) ?_
          refine lv_icmp_ge (tgt := 53) hx hb d_OS_stored_27 (by decide) (fun c3 => ?_) (fun c3 => ?_)
          · have hf := z_t c3 hf
            refine lv_iinc (v := (x2 + (1 : Int32))) (lv' := [(2, .int (x2 + (1 : Int32))), (3, .long u0), (0, .ref (a 0)), (1, .int x1)]) hx hb d_OS_stored_53 hl (k := 3) rfl rfl (by decide) rfl (fun ls hl => ?_)
            refine lv_goto (tgt := 4) hx hb d_OS_stored_56 (by decide) ?_
            exact ih4 zdifferent' x1 (x2 + (1 : Int32)) hf H locs ls hP hD hS (lv_sub hl [2, 3, 0] rfl)
          · have hf := z_f c3 hf
            refine lv_aload_n hx hb d_OS_stored_30 rfl (lv_at hl 1 rfl) ?_
            refine va_get (D := (dC, dI)) (ci := 6) (v := .ref (a 24)) (C := R_OS) (T := F_OS) (N := 8) hx hb hts (fun w h => List.mem_cons_of_mem _ (in_OS w h)) hown hK hP 0 rfl rfl 7 (by decide) (hts _ (List.mem_cons_of_mem _ k_1_117)) (fun _ h9 => h9) rfl d_OS_stored_31 ?_
            refine lv_iload_n hx hb d_OS_stored_34 rfl (lv_at hl 2 rfl) ?_
            refine lv_lload_n hx hb d_OS_stored_35 rfl (lv_at hl 0 rfl) ?_
            obtain ⟨u1, hu1, hf⟩ := z_b hf
            have hPc := zP_cut (wc := ([((fun i => a (24 + i)) 0, .inl ((fun i => k (16 + i)) 0, 420, .inr (.inl zdifferent')))] : va_W)) 24 25 hP rfl
            have hDc := zD_cut (wc := ([((fun i => a (24 + i)) 0, .inl ((fun i => k (16 + i)) 0, 420, .inr (.inl zdifferent')))] : va_W)) 24 25 hD rfl
            have hKc := hK.sub (tys' := ([((fun i => k (16 + i)) 0, .long)] : List (ClassId × FieldType))) [16] rfl
            refine z_ci (va_runS (As := [.ref (a 24), .int x1, .long u0]) (rest := []) ⟨hx, hb, hml, hown, hts⟩ (c_OS_find l dC dI N (fun i => a (24 + i)) (fun i => k (16 + i)) 420 zdifferent' x1 u0 hu1 H.size) (cwS 3 hts (zGS zsub_c k_2_154 k_2_5 k_1_1 kc_OS_find) rfl rfl rfl (by decide +kernel) ⟨Nat.le_of_ble_eq_true rfl, Nat.le_of_ble_eq_true rfl⟩) ⟨z_bl, fun U hU hW => ⟨rfl, z_pre hN hKc hPc hDc U hU hW⟩⟩ rfl rfl hl.1 rfl (lv_room (Nat.le_of_ble_eq_true rfl)) d_OS_stored_36 ⟨Nat.zero_le _, Nat.zero_le _⟩) 24 25 (w_OS a k zpaths_outer zpaths_count zsteps_targets zsteps_configurations zsteps_runs zsteps_opened zsteps_count zoutputs_contents zoutputs_makers zoutputs_executables zoutputs_lazies zstaged_contents zstaged_makers zstaged_executables zstaged_lazies zcached_contents zcached_count zholds_contents zholds_count zdirtyMarks_marks zdifferent') hP hD hS hA rfl rfl (fun H locs hP hD hS => ?_)
            refine lv_iconst (v := (-1 : Int32)) hx hb d_OS_stored_39 (by decide) ?_
            refine lv_icmp_ne (tgt := 53) hx hb d_OS_stored_40 (by decide) (fun c4 => ?_) (fun c4 => ?_)
            · have hf := z_t c4 hf
              refine lv_iinc (v := (x2 + (1 : Int32))) (lv' := [(2, .int (x2 + (1 : Int32))), (3, .long u0), (0, .ref (a 0)), (1, .int x1)]) hx hb d_OS_stored_53 hl (k := 3) rfl rfl (by decide) rfl (fun ls hl => ?_)
              refine lv_goto (tgt := 4) hx hb d_OS_stored_56 (by decide) ?_
              exact ih4 zdifferent' x1 (x2 + (1 : Int32)) hf H locs ls hP hD hS (lv_sub hl [2, 3, 0] rfl)
            · have hf := z_fn c4 hf
              refine lv_aload_n hx hb d_OS_stored_43 rfl (lv_at hl 1 rfl) ?_
              refine va_get (D := (dC, dI)) (ci := 6) (v := .ref (a 24)) (C := R_OS) (T := F_OS) (N := 8) hx hb hts (fun w h => List.mem_cons_of_mem _ (in_OS w h)) hown hK hP 0 rfl rfl 7 (by decide) (hts _ (List.mem_cons_of_mem _ k_1_117)) (fun _ h9 => h9) rfl d_OS_stored_44 ?_
              refine lv_iload_n hx hb d_OS_stored_47 rfl (lv_at hl 2 rfl) ?_
              refine lv_lload_n hx hb d_OS_stored_48 rfl (lv_at hl 0 rfl) ?_
              obtain ⟨g5, hf⟩ := z_gz hf
              refine va_last hx hb hK hP hD hS 24 16 rfl rfl g5 d_OS_stored_49 (fun H locs hP hD hS => ?_)
              have hP : va_P (dC, dI) zCl (w_OS a k zpaths_outer zpaths_count zsteps_targets zsteps_configurations zsteps_runs zsteps_opened zsteps_count zoutputs_contents zoutputs_makers zoutputs_executables zoutputs_lazies zstaged_contents zstaged_makers zstaged_executables zstaged_lazies zcached_contents zcached_count zholds_contents zholds_count zdirtyMarks_marks (vp_updL zdifferent' x1.toNatClampNeg u0)) H := hP
              have hD : va_D _ (w_OS a k zpaths_outer zpaths_count zsteps_targets zsteps_configurations zsteps_runs zsteps_opened zsteps_count zoutputs_contents zoutputs_makers zoutputs_executables zoutputs_lazies zstaged_contents zstaged_makers zstaged_executables zstaged_lazies zcached_contents zcached_count zholds_contents zholds_count zdirtyMarks_marks (vp_updL zdifferent' x1.toNatClampNeg u0)) := hD
              refine lv_iinc (v := (x1 + (1 : Int32))) (lv' := [(1, .int (x1 + (1 : Int32))), (3, .long u0), (0, .ref (a 0)), (2, .int x2)]) hx hb d_OS_stored_50 hl (k := 2) rfl rfl (by decide) rfl (fun ls hl => ?_)
              refine lv_iinc (v := (x2 + (1 : Int32))) (lv' := [(2, .int (x2 + (1 : Int32))), (1, .int (x1 + (1 : Int32))), (3, .long u0), (0, .ref (a 0))]) hx hb d_OS_stored_53 hl (k := 3) rfl rfl (by decide) rfl (fun ls hl => ?_)
              refine lv_goto (tgt := 4) hx hb d_OS_stored_56 (by decide) ?_
              exact ih4 (vp_updL zdifferent' x1.toNatClampNeg u0) (x1 + (1 : Int32)) (x2 + (1 : Int32)) hf H locs ls hP hD hS (lv_sub hl [3, 1, 0] rfl)
  exact loop4 N zdifferent (0 : Int32) (0 : Int32) hf H locs ls hP hD hS (lv_sub hl [2, 1, 0] rfl)
