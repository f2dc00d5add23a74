set_option maxHeartbeats 4000000 in
set_option maxRecDepth 100000 in
theorem i_SB (l : Launch) (dC : Nat → ClassId) (dI : Nat → Nat → Nat) (h0 : Nat) (sz : Nat) : Met l y_SB_init ww_SB_init ({ frames := 1, cells := 4, slots := 320, locals := 12 }) (va_Pc [.ref h0] (zB (dC, dI) zCl [] [(h0, .inr (1, [.null, .null, .null, .null, .int 0]))] sz)) (zQn (dC, dI) zCl [(h0, .inr (1, [.null, .null, .null, .null, .int 0]))] sz h0 (fun a k => w_SB a k (fun _ => 0) (fun _ => 0) (fun _ => 0) (fun _ => 0) (0 : Int32)) t_SB) 4 320 (va_A [(h0, .inr (1, [.null, .null, .null, .null, .int 0]))] sz) := by
  refine Met.ofW (cc := b_SB_init) (maxL := 1) (ret := none) (by decide) rfl ?_
  intro p e s m args below meth c s₁ B hml hv
  obtain ⟨rfl, rfl, hP, hK, hD, hN⟩ := hv
  have hx := B.exec
  have hb := B.bytes
  have hr := B.returns
  have hts := atoms_spec (ws := ww_SB_init) B.pre
  have hown : s.vm.findClass R_SB = some m.cls := findClass_of_methodNamed B.named
  have hlocks := B.notSynchronized
  have hin : meth.name = "<init>" := (name_of_methodNamed B.named B.method).1
  have hA : ∀ q : Nat, s.heap.size ≤ q → va_A [(h0, .inr (1, [.null, .null, .null, .null, .int 0]))] s.heap.size q := fun q h => Or.inr h
  refine z_start (lv := [(0, .ref h0)]) (Nat.le_of_ble_eq_true rfl) rfl hP hD (fun H locs ls hP hD hS hl => ?_)
  refine lv_aload_n hx hb d_SB_init_0 rfl (lv_at hl 0 rfl) ?_
  refine W.objInit hx hb hown (hts _ (List.mem_cons_of_mem _ k_1_36)) (hts _ (List.mem_cons_of_mem _ k_1_15)) (hts _ (List.mem_cons_of_mem _ k_1_16)) rfl (by rw [hml]; exact hl.1) rfl d_SB_init_1 (Nat.le_of_ble_eq_true rfl) (Nat.le_of_ble_eq_true rfl) ?_
  refine W.eq (g2 := F0 m 4 ls []) rfl ?_
  refine lv_aload_n hx hb d_SB_init_4 rfl (lv_at hl 0 rfl) ?_
  refine lv_bipush (v := nI 80) hx hb d_SB_init_5 (by decide) ?_
  refine va_newa (atype := .int) (ty := .int) (N' := 80) (a0 := (80, .inl (fun _ => 0))) hx hb (hts _ (List.mem_cons_of_mem _ k_1_30)) rfl hK hP hD hS hA (z_a0i 80) (nI_pos (by decide)) (nI_clamp (by decide)) (by decide) (Nat.le_of_ble_eq_true rfl) (Nat.le_of_ble_eq_true rfl) d_SB_init_7 (fun q1 k1 H hK hP hD hS => ?_)
  have hP : va_P (dC, dI) zCl ([(h0, .inr (1, [.null, .null, .null, .null, .int 0]))] ++ [(q1, .inl (k1, 80, .inl (fun _ => 0)))]) H := hP
  have hD : va_D _ ([(h0, .inr (1, [.null, .null, .null, .null, .int 0]))] ++ [(q1, .inl (k1, 80, .inl (fun _ => 0)))]) := hD
  refine va_putF (D := (dC, dI)) (ci := 1) (v := .ref q1) (ty := (.array .int)) (C := R_SB) (T := F_SB) (N := 5) hx hb hts (fun w h => List.mem_cons_of_mem _ (in_SB w h)) ty_SB ty_SB_ok nm_SB hown hK hP hD hS 0 rfl rfl 0 (by decide) (hts _ (List.mem_cons_of_mem _ k_1_37)) (fun _ h9 => h9) rfl hin rfl (by decide +kernel) rfl rfl (Nat.le_of_ble_eq_true rfl) d_SB_init_9 (fun H locs hP hD hS => ?_)
  have hP : va_P (dC, dI) zCl ([(h0, .inr (1, [.ref q1, .null, .null, .null, .int 0]))] ++ [(q1, .inl (k1, 80, .inl (fun _ => 0)))]) H := hP
  have hD : va_D _ ([(h0, .inr (1, [.ref q1, .null, .null, .null, .int 0]))] ++ [(q1, .inl (k1, 80, .inl (fun _ => 0)))]) := hD
  refine lv_aload_n hx hb d_SB_init_12 rfl (lv_at hl 0 rfl) ?_
  refine lv_bipush (v := nI 80) hx hb d_SB_init_13 (by decide) ?_
  refine va_newa (atype := .int) (ty := .int) (N' := 80) (a0 := (80, .inl (fun _ => 0))) hx hb (hts _ (List.mem_cons_of_mem _ k_1_30)) rfl hK hP hD hS hA (z_a0i 80) (nI_pos (by decide)) (nI_clamp (by decide)) (by decide) (Nat.le_of_ble_eq_true rfl) (Nat.le_of_ble_eq_true rfl) d_SB_init_15 (fun q2 k2 H hK hP hD hS => ?_)
  have hP : va_P (dC, dI) zCl ([(h0, .inr (1, [.ref q1, .null, .null, .null, .int 0]))] ++ [(q1, .inl (k1, 80, .inl (fun _ => 0)))] ++ [(q2, .inl (k2, 80, .inl (fun _ => 0)))]) H := hP
  have hD : va_D _ ([(h0, .inr (1, [.ref q1, .null, .null, .null, .int 0]))] ++ [(q1, .inl (k1, 80, .inl (fun _ => 0)))] ++ [(q2, .inl (k2, 80, .inl (fun _ => 0)))]) := hD
  refine va_putF (D := (dC, dI)) (ci := 1) (v := .ref q2) (ty := (.array .int)) (C := R_SB) (T := F_SB) (N := 5) hx hb hts (fun w h => List.mem_cons_of_mem _ (in_SB w h)) ty_SB ty_SB_ok nm_SB hown hK hP hD hS 0 rfl rfl 1 (by decide) (hts _ (List.mem_cons_of_mem _ k_1_38)) (fun _ h9 => h9) rfl hin rfl (by decide +kernel) rfl rfl (Nat.le_of_ble_eq_true rfl) d_SB_init_17 (fun H locs hP hD hS => ?_)
  have hP : va_P (dC, dI) zCl ([(h0, .inr (1, [.ref q1, .ref q2, .null, .null, .int 0]))] ++ [(q1, .inl (k1, 80, .inl (fun _ => 0)))] ++ [(q2, .inl (k2, 80, .inl (fun _ => 0)))]) H := hP
  have hD : va_D _ ([(h0, .inr (1, [.ref q1, .ref q2, .null, .null, .int 0]))] ++ [(q1, .inl (k1, 80, .inl (fun _ => 0)))] ++ [(q2, .inl (k2, 80, .inl (fun _ => 0)))]) := hD
  refine lv_aload_n hx hb d_SB_init_20 rfl (lv_at hl 0 rfl) ?_
  refine lv_bipush (v := nI 80) hx hb d_SB_init_21 (by decide) ?_
  refine va_newa (atype := .int) (ty := .int) (N' := 80) (a0 := (80, .inl (fun _ => 0))) hx hb (hts _ (List.mem_cons_of_mem _ k_1_30)) rfl hK hP hD hS hA (z_a0i 80) (nI_pos (by decide)) (nI_clamp (by decide)) (by decide) (Nat.le_of_ble_eq_true rfl) (Nat.le_of_ble_eq_true rfl) d_SB_init_23 (fun q3 k3 H hK hP hD hS => ?_)
  have hP : va_P (dC, dI) zCl ([(h0, .inr (1, [.ref q1, .ref q2, .null, .null, .int 0]))] ++ [(q1, .inl (k1, 80, .inl (fun _ => 0)))] ++ [(q2, .inl (k2, 80, .inl (fun _ => 0)))] ++ [(q3, .inl (k3, 80, .inl (fun _ => 0)))]) H := hP
  have hD : va_D _ ([(h0, .inr (1, [.ref q1, .ref q2, .null, .null, .int 0]))] ++ [(q1, .inl (k1, 80, .inl (fun _ => 0)))] ++ [(q2, .inl (k2, 80, .inl (fun _ => 0)))] ++ [(q3, .inl (k3, 80, .inl (fun _ => 0)))]) := hD
  refine va_putF (D := (dC, dI)) (ci := 1) (v := .ref q3) (ty := (.array .int)) (C := R_SB) (T := F_SB) (N := 5) hx hb hts (fun w h => List.mem_cons_of_mem _ (in_SB w h)) ty_SB ty_SB_ok nm_SB hown hK hP hD hS 0 rfl rfl 2 (by decide) (hts _ (List.mem_cons_of_mem _ k_1_39)) (fun _ h9 => h9) rfl hin rfl (by decide +kernel) rfl rfl (Nat.le_of_ble_eq_true rfl) d_SB_init_25 (fun H locs hP hD hS => ?_)
  have hP : va_P (dC, dI) zCl ([(h0, .inr (1, [.ref q1, .ref q2, .ref q3, .null, .int 0]))] ++ [(q1, .inl (k1, 80, .inl (fun _ => 0)))] ++ [(q2, .inl (k2, 80, .inl (fun _ => 0)))] ++ [(q3, .inl (k3, 80, .inl (fun _ => 0)))]) H := hP
  have hD : va_D _ ([(h0, .inr (1, [.ref q1, .ref q2, .ref q3, .null, .int 0]))] ++ [(q1, .inl (k1, 80, .inl (fun _ => 0)))] ++ [(q2, .inl (k2, 80, .inl (fun _ => 0)))] ++ [(q3, .inl (k3, 80, .inl (fun _ => 0)))]) := hD
  refine lv_aload_n hx hb d_SB_init_28 rfl (lv_at hl 0 rfl) ?_
  refine lv_bipush (v := nI 80) hx hb d_SB_init_29 (by decide) ?_
  refine va_newa (atype := .boolean) (ty := .boolean) (N' := 80) (a0 := (80, .inl (fun _ => 0))) hx hb (hts _ (List.mem_cons_of_mem _ k_1_53)) rfl hK hP hD hS hA (z_a0z 80) (nI_pos (by decide)) (nI_clamp (by decide)) (by decide) (Nat.le_of_ble_eq_true rfl) (Nat.le_of_ble_eq_true rfl) d_SB_init_31 (fun q4 k4 H hK hP hD hS => ?_)
  have hP : va_P (dC, dI) zCl ([(h0, .inr (1, [.ref q1, .ref q2, .ref q3, .null, .int 0]))] ++ [(q1, .inl (k1, 80, .inl (fun _ => 0)))] ++ [(q2, .inl (k2, 80, .inl (fun _ => 0)))] ++ [(q3, .inl (k3, 80, .inl (fun _ => 0)))] ++ [(q4, .inl (k4, 80, .inl (fun _ => 0)))]) H := hP
  have hD : va_D _ ([(h0, .inr (1, [.ref q1, .ref q2, .ref q3, .null, .int 0]))] ++ [(q1, .inl (k1, 80, .inl (fun _ => 0)))] ++ [(q2, .inl (k2, 80, .inl (fun _ => 0)))] ++ [(q3, .inl (k3, 80, .inl (fun _ => 0)))] ++ [(q4, .inl (k4, 80, .inl (fun _ => 0)))]) := hD
  refine va_putF (D := (dC, dI)) (ci := 1) (v := .ref q4) (ty := (.array .boolean)) (C := R_SB) (T := F_SB) (N := 5) hx hb hts (fun w h => List.mem_cons_of_mem _ (in_SB w h)) ty_SB ty_SB_ok nm_SB hown hK hP hD hS 0 rfl rfl 3 (by decide) (hts _ (List.mem_cons_of_mem _ k_1_40)) (fun _ h9 => h9) rfl hin rfl (by decide +kernel) rfl rfl (Nat.le_of_ble_eq_true rfl) d_SB_init_33 (fun H locs hP hD hS => ?_)
  have hP : va_P (dC, dI) zCl ([(h0, .inr (1, [.ref q1, .ref q2, .ref q3, .ref q4, .int 0]))] ++ [(q1, .inl (k1, 80, .inl (fun _ => 0)))] ++ [(q2, .inl (k2, 80, .inl (fun _ => 0)))] ++ [(q3, .inl (k3, 80, .inl (fun _ => 0)))] ++ [(q4, .inl (k4, 80, .inl (fun _ => 0)))]) H := hP
  have hD : va_D _ ([(h0, .inr (1, [.ref q1, .ref q2, .ref q3, .ref q4, .int 0]))] ++ [(q1, .inl (k1, 80, .inl (fun _ => 0)))] ++ [(q2, .inl (k2, 80, .inl (fun _ => 0)))] ++ [(q3, .inl (k3, 80, .inl (fun _ => 0)))] ++ [(q4, .inl (k4, 80, .inl (fun _ => 0)))]) := hD
  refine lv_aload_n hx hb d_SB_init_36 rfl (lv_at hl 0 rfl) ?_
  refine lv_iconst (v := 0) hx hb d_SB_init_37 (by decide) ?_
  refine va_put (D := (dC, dI)) (ci := 1) (v := .int 0) (ty := .int) (C := R_SB) (T := F_SB) (N := 5) hx hb hts (fun w h => List.mem_cons_of_mem _ (in_SB w h)) ty_SB ty_SB_ok nm_SB hown hK hP hD hS 0 rfl rfl 4 (by decide) (hts _ (List.mem_cons_of_mem _ k_1_41)) (fun _ h9 => h9) rfl (by decide +kernel) rfl rfl (Nat.le_of_ble_eq_true rfl) d_SB_init_38 (fun H locs hP hD hS => ?_)
  have hP : va_P (dC, dI) zCl ([(h0, .inr (1, [.ref q1, .ref q2, .ref q3, .ref q4, .int 0]))] ++ [(q1, .inl (k1, 80, .inl (fun _ => 0)))] ++ [(q2, .inl (k2, 80, .inl (fun _ => 0)))] ++ [(q3, .inl (k3, 80, .inl (fun _ => 0)))] ++ [(q4, .inl (k4, 80, .inl (fun _ => 0)))]) H := hP
  have hD : va_D _ ([(h0, .inr (1, [.ref q1, .ref q2, .ref q3, .ref q4, .int 0]))] ++ [(q1, .inl (k1, 80, .inl (fun _ => 0)))] ++ [(q2, .inl (k2, 80, .inl (fun _ => 0)))] ++ [(q3, .inl (k3, 80, .inl (fun _ => 0)))] ++ [(q4, .inl (k4, 80, .inl (fun _ => 0)))]) := hD
  have hP9 : va_P (dC, dI) zCl (w_SB (fun i => [h0, q1, q2, q3, q4].getD i 0) (fun i => [k1, k2, k3, k4].getD i 0) (fun _ => 0) (fun _ => 0) (fun _ => 0) (fun _ => 0) (0 : Int32)) H := hP
  have hD9 : va_D _ (w_SB (fun i => [h0, q1, q2, q3, q4].getD i 0) (fun i => [k1, k2, k3, k4].getD i 0) (fun _ => 0) (fun _ => 0) (fun _ => 0) (fun _ => 0) (0 : Int32)) := hD
  have hK9 : va_K (dC, dI) zCl (t_SB (fun i => [k1, k2, k3, k4].getD i 0)) s := hK
  exact z_nret (u := ((fun i => [h0, q1, q2, q3, q4].getD i 0), (fun i => [k1, k2, k3, k4].getD i 0))) hx hb hr rfl hP9 hD9 hK9 hS d_SB_init_41 hlocks
set_option maxHeartbeats 4000000 in
set_option maxRecDepth 100000 in
theorem i_LT (l : Launch) (dC : Nat → ClassId) (dI : Nat → Nat → Nat) (h0 : Nat) (sz : Nat) : Met l y_LT_init ww_LT_init ({ frames := 1, cells := 4, slots := 640, locals := 12 }) (va_Pc [.ref h0] (zB (dC, dI) zCl [] [(h0, .inr (2, [.null, .null, .null, .null]))] sz)) (zQn (dC, dI) zCl [(h0, .inr (2, [.null, .null, .null, .null]))] sz h0 (fun a k => w_LT a k (fun _ => 0) (fun _ => 0) (fun _ => 0) (fun _ => 0)) t_LT) 4 640 (va_A [(h0, .inr (2, [.null, .null, .null, .null]))] sz) := by
  refine Met.ofW (cc := b_LT_init) (maxL := 1) (ret := none) (by decide) rfl ?_
  intro p e s m args below meth c s₁ B hml hv
  obtain ⟨rfl, rfl, hP, hK, hD, hN⟩ := hv
  have hx := B.exec
  have hb := B.bytes
  have hr := B.returns
  have hts := atoms_spec (ws := ww_LT_init) B.pre
  have hown : s.vm.findClass R_LT = some m.cls := findClass_of_methodNamed B.named
  have hlocks := B.notSynchronized
  have hin : meth.name = "<init>" := (name_of_methodNamed B.named B.method).1
  have hA : ∀ q : Nat, s.heap.size ≤ q → va_A [(h0, .inr (2, [.null, .null, .null, .null]))] s.heap.size q := fun q h => Or.inr h
  refine z_start (lv := [(0, .ref h0)]) (Nat.le_of_ble_eq_true rfl) rfl hP hD (fun H locs ls hP hD hS hl => ?_)
  refine lv_aload_n hx hb d_LT_init_0 rfl (lv_at hl 0 rfl) ?_
  refine W.objInit hx hb hown (hts _ (List.mem_cons_of_mem _ k_1_59)) (hts _ (List.mem_cons_of_mem _ k_1_15)) (hts _ (List.mem_cons_of_mem _ k_1_16)) rfl (by rw [hml]; exact hl.1) rfl d_LT_init_1 (Nat.le_of_ble_eq_true rfl) (Nat.le_of_ble_eq_true rfl) ?_
  refine W.eq (g2 := F0 m 4 ls []) rfl ?_
  refine lv_aload_n hx hb d_LT_init_4 rfl (lv_at hl 0 rfl) ?_
  refine lv_sipush (v := nI 160) hx hb d_LT_init_5 (by decide) ?_
  refine va_newa (atype := .long) (ty := .long) (N' := 160) (a0 := (160, .inr (.inl (fun _ => 0)))) hx hb (hts _ (List.mem_cons_of_mem _ k_1_73)) rfl hK hP hD hS hA (z_a0l 160) (nI_pos (by decide)) (nI_clamp (by decide)) (by decide) (Nat.le_of_ble_eq_true rfl) (Nat.le_of_ble_eq_true rfl) d_LT_init_8 (fun q1 k1 H hK hP hD hS => ?_)
  have hP : va_P (dC, dI) zCl ([(h0, .inr (2, [.null, .null, .null, .null]))] ++ [(q1, .inl (k1, 160, .inr (.inl (fun _ => 0))))]) H := hP
  have hD : va_D _ ([(h0, .inr (2, [.null, .null, .null, .null]))] ++ [(q1, .inl (k1, 160, .inr (.inl (fun _ => 0))))]) := hD
  refine va_putF (D := (dC, dI)) (ci := 2) (v := .ref q1) (ty := (.array .long)) (C := R_LT) (T := F_LT) (N := 4) hx hb hts (fun w h => List.mem_cons_of_mem _ (in_LT w h)) ty_LT ty_LT_ok nm_LT hown hK hP hD hS 0 rfl rfl 0 (by decide) (hts _ (List.mem_cons_of_mem _ k_1_60)) (fun _ h9 => h9) rfl hin rfl (by decide +kernel) rfl rfl (Nat.le_of_ble_eq_true rfl) d_LT_init_10 (fun H locs hP hD hS => ?_)
  have hP : va_P (dC, dI) zCl ([(h0, .inr (2, [.ref q1, .null, .null, .null]))] ++ [(q1, .inl (k1, 160, .inr (.inl (fun _ => 0))))]) H := hP
  have hD : va_D _ ([(h0, .inr (2, [.ref q1, .null, .null, .null]))] ++ [(q1, .inl (k1, 160, .inr (.inl (fun _ => 0))))]) := hD
  refine lv_aload_n hx hb d_LT_init_13 rfl (lv_at hl 0 rfl) ?_
  refine lv_sipush (v := nI 160) hx hb d_LT_init_14 (by decide) ?_
  refine va_newa (atype := .int) (ty := .int) (N' := 160) (a0 := (160, .inl (fun _ => 0))) hx hb (hts _ (List.mem_cons_of_mem _ k_1_30)) rfl hK hP hD hS hA (z_a0i 160) (nI_pos (by decide)) (nI_clamp (by decide)) (by decide) (Nat.le_of_ble_eq_true rfl) (Nat.le_of_ble_eq_true rfl) d_LT_init_17 (fun q2 k2 H hK hP hD hS => ?_)
  have hP : va_P (dC, dI) zCl ([(h0, .inr (2, [.ref q1, .null, .null, .null]))] ++ [(q1, .inl (k1, 160, .inr (.inl (fun _ => 0))))] ++ [(q2, .inl (k2, 160, .inl (fun _ => 0)))]) H := hP
  have hD : va_D _ ([(h0, .inr (2, [.ref q1, .null, .null, .null]))] ++ [(q1, .inl (k1, 160, .inr (.inl (fun _ => 0))))] ++ [(q2, .inl (k2, 160, .inl (fun _ => 0)))]) := hD
  refine va_putF (D := (dC, dI)) (ci := 2) (v := .ref q2) (ty := (.array .int)) (C := R_LT) (T := F_LT) (N := 4) hx hb hts (fun w h => List.mem_cons_of_mem _ (in_LT w h)) ty_LT ty_LT_ok nm_LT hown hK hP hD hS 0 rfl rfl 1 (by decide) (hts _ (List.mem_cons_of_mem _ k_1_61)) (fun _ h9 => h9) rfl hin rfl (by decide +kernel) rfl rfl (Nat.le_of_ble_eq_true rfl) d_LT_init_19 (fun H locs hP hD hS => ?_)
  have hP : va_P (dC, dI) zCl ([(h0, .inr (2, [.ref q1, .ref q2, .null, .null]))] ++ [(q1, .inl (k1, 160, .inr (.inl (fun _ => 0))))] ++ [(q2, .inl (k2, 160, .inl (fun _ => 0)))]) H := hP
  have hD : va_D _ ([(h0, .inr (2, [.ref q1, .ref q2, .null, .null]))] ++ [(q1, .inl (k1, 160, .inr (.inl (fun _ => 0))))] ++ [(q2, .inl (k2, 160, .inl (fun _ => 0)))]) := hD
  refine lv_aload_n hx hb d_LT_init_22 rfl (lv_at hl 0 rfl) ?_
  refine lv_sipush (v := nI 160) hx hb d_LT_init_23 (by decide) ?_
  refine va_newa (atype := .boolean) (ty := .boolean) (N' := 160) (a0 := (160, .inl (fun _ => 0))) hx hb (hts _ (List.mem_cons_of_mem _ k_1_53)) rfl hK hP hD hS hA (z_a0z 160) (nI_pos (by decide)) (nI_clamp (by decide)) (by decide) (Nat.le_of_ble_eq_true rfl) (Nat.le_of_ble_eq_true rfl) d_LT_init_26 (fun q3 k3 H hK hP hD hS => ?_)
  have hP : va_P (dC, dI) zCl ([(h0, .inr (2, [.ref q1, .ref q2, .null, .null]))] ++ [(q1, .inl (k1, 160, .inr (.inl (fun _ => 0))))] ++ [(q2, .inl (k2, 160, .inl (fun _ => 0)))] ++ [(q3, .inl (k3, 160, .inl (fun _ => 0)))]) H := hP
  have hD : va_D _ ([(h0, .inr (2, [.ref q1, .ref q2, .null, .null]))] ++ [(q1, .inl (k1, 160, .inr (.inl (fun _ => 0))))] ++ [(q2, .inl (k2, 160, .inl (fun _ => 0)))] ++ [(q3, .inl (k3, 160, .inl (fun _ => 0)))]) := hD
  refine va_putF (D := (dC, dI)) (ci := 2) (v := .ref q3) (ty := (.array .boolean)) (C := R_LT) (T := F_LT) (N := 4) hx hb hts (fun w h => List.mem_cons_of_mem _ (in_LT w h)) ty_LT ty_LT_ok nm_LT hown hK hP hD hS 0 rfl rfl 2 (by decide) (hts _ (List.mem_cons_of_mem _ k_1_62)) (fun _ h9 => h9) rfl hin rfl (by decide +kernel) rfl rfl (Nat.le_of_ble_eq_true rfl) d_LT_init_28 (fun H locs hP hD hS => ?_)
  have hP : va_P (dC, dI) zCl ([(h0, .inr (2, [.ref q1, .ref q2, .ref q3, .null]))] ++ [(q1, .inl (k1, 160, .inr (.inl (fun _ => 0))))] ++ [(q2, .inl (k2, 160, .inl (fun _ => 0)))] ++ [(q3, .inl (k3, 160, .inl (fun _ => 0)))]) H := hP
  have hD : va_D _ ([(h0, .inr (2, [.ref q1, .ref q2, .ref q3, .null]))] ++ [(q1, .inl (k1, 160, .inr (.inl (fun _ => 0))))] ++ [(q2, .inl (k2, 160, .inl (fun _ => 0)))] ++ [(q3, .inl (k3, 160, .inl (fun _ => 0)))]) := hD
  refine lv_aload_n hx hb d_LT_init_31 rfl (lv_at hl 0 rfl) ?_
  refine lv_sipush (v := nI 160) hx hb d_LT_init_32 (by decide) ?_
  refine va_newa (atype := .boolean) (ty := .boolean) (N' := 160) (a0 := (160, .inl (fun _ => 0))) hx hb (hts _ (List.mem_cons_of_mem _ k_1_53)) rfl hK hP hD hS hA (z_a0z 160) (nI_pos (by decide)) (nI_clamp (by decide)) (by decide) (Nat.le_of_ble_eq_true rfl) (Nat.le_of_ble_eq_true rfl) d_LT_init_35 (fun q4 k4 H hK hP hD hS => ?_)
  have hP : va_P (dC, dI) zCl ([(h0, .inr (2, [.ref q1, .ref q2, .ref q3, .null]))] ++ [(q1, .inl (k1, 160, .inr (.inl (fun _ => 0))))] ++ [(q2, .inl (k2, 160, .inl (fun _ => 0)))] ++ [(q3, .inl (k3, 160, .inl (fun _ => 0)))] ++ [(q4, .inl (k4, 160, .inl (fun _ => 0)))]) H := hP
  have hD : va_D _ ([(h0, .inr (2, [.ref q1, .ref q2, .ref q3, .null]))] ++ [(q1, .inl (k1, 160, .inr (.inl (fun _ => 0))))] ++ [(q2, .inl (k2, 160, .inl (fun _ => 0)))] ++ [(q3, .inl (k3, 160, .inl (fun _ => 0)))] ++ [(q4, .inl (k4, 160, .inl (fun _ => 0)))]) := hD
  refine va_putF (D := (dC, dI)) (ci := 2) (v := .ref q4) (ty := (.array .boolean)) (C := R_LT) (T := F_LT) (N := 4) hx hb hts (fun w h => List.mem_cons_of_mem _ (in_LT w h)) ty_LT ty_LT_ok nm_LT hown hK hP hD hS 0 rfl rfl 3 (by decide) (hts _ (List.mem_cons_of_mem _ k_1_63)) (fun _ h9 => h9) rfl hin rfl (by decide +kernel) rfl rfl (Nat.le_of_ble_eq_true rfl) d_LT_init_37 (fun H locs hP hD hS => ?_)
  have hP : va_P (dC, dI) zCl ([(h0, .inr (2, [.ref q1, .ref q2, .ref q3, .ref q4]))] ++ [(q1, .inl (k1, 160, .inr (.inl (fun _ => 0))))] ++ [(q2, .inl (k2, 160, .inl (fun _ => 0)))] ++ [(q3, .inl (k3, 160, .inl (fun _ => 0)))] ++ [(q4, .inl (k4, 160, .inl (fun _ => 0)))]) H := hP
  have hD : va_D _ ([(h0, .inr (2, [.ref q1, .ref q2, .ref q3, .ref q4]))] ++ [(q1, .inl (k1, 160, .inr (.inl (fun _ => 0))))] ++ [(q2, .inl (k2, 160, .inl (fun _ => 0)))] ++ [(q3, .inl (k3, 160, .inl (fun _ => 0)))] ++ [(q4, .inl (k4, 160, .inl (fun _ => 0)))]) := hD
  have hP9 : va_P (dC, dI) zCl (w_LT (fun i => [h0, q1, q2, q3, q4].getD i 0) (fun i => [k1, k2, k3, k4].getD i 0) (fun _ => 0) (fun _ => 0) (fun _ => 0) (fun _ => 0)) H := hP
  have hD9 : va_D _ (w_LT (fun i => [h0, q1, q2, q3, q4].getD i 0) (fun i => [k1, k2, k3, k4].getD i 0) (fun _ => 0) (fun _ => 0) (fun _ => 0) (fun _ => 0)) := hD
  have hK9 : va_K (dC, dI) zCl (t_LT (fun i => [k1, k2, k3, k4].getD i 0)) s := hK
  exact z_nret (u := ((fun i => [h0, q1, q2, q3, q4].getD i 0), (fun i => [k1, k2, k3, k4].getD i 0))) hx hb hr rfl hP9 hD9 hK9 hS d_LT_init_40 hlocks
set_option maxHeartbeats 4000000 in
set_option maxRecDepth 100000 in
theorem i_CS (l : Launch) (dC : Nat → ClassId) (dI : Nat → Nat → Nat) (h0 : Nat) (sz : Nat) : Met l y_CS_init ww_CS_init ({ frames := 1, cells := 1, slots := 60, locals := 12 }) (va_Pc [.ref h0] (zB (dC, dI) zCl [] [(h0, .inr (3, [.null, .int 0]))] sz)) (zQn (dC, dI) zCl [(h0, .inr (3, [.null, .int 0]))] sz h0 (fun a k => w_CS a k (fun _ => 0) (0 : Int32)) t_CS) 1 60 (va_A [(h0, .inr (3, [.null, .int 0]))] sz) := by
  refine Met.ofW (cc := b_CS_init) (maxL := 1) (ret := none) (by decide) rfl ?_
  intro p e s m args below meth c s₁ B hml hv
  obtain ⟨rfl, rfl, hP, hK, hD, hN⟩ := hv
  have hx := B.exec
  have hb := B.bytes
  have hr := B.returns
  have hts := atoms_spec (ws := ww_CS_init) B.pre
  have hown : s.vm.findClass R_CS = some m.cls := findClass_of_methodNamed B.named
  have hlocks := B.notSynchronized
  have hin : meth.name = "<init>" := (name_of_methodNamed B.named B.method).1
  have hA : ∀ q : Nat, s.heap.size ≤ q → va_A [(h0, .inr (3, [.null, .int 0]))] s.heap.size q := fun q h => Or.inr h
  refine z_start (lv := [(0, .ref h0)]) (Nat.le_of_ble_eq_true rfl) rfl hP hD (fun H locs ls hP hD hS hl => ?_)
  refine lv_aload_n hx hb d_CS_init_0 rfl (lv_at hl 0 rfl) ?_
  refine W.objInit hx hb hown (hts _ (List.mem_cons_of_mem _ k_1_79)) (hts _ (List.mem_cons_of_mem _ k_1_15)) (hts _ (List.mem_cons_of_mem _ k_1_16)) rfl (by rw [hml]; exact hl.1) rfl d_CS_init_1 (Nat.le_of_ble_eq_true rfl) (Nat.le_of_ble_eq_true rfl) ?_
  refine W.eq (g2 := F0 m 4 ls []) rfl ?_
  refine lv_aload_n hx hb d_CS_init_4 rfl (lv_at hl 0 rfl) ?_
  refine lv_bipush (v := nI 60) hx hb d_CS_init_5 (by decide) ?_
  refine va_newa (atype := .long) (ty := .long) (N' := 60) (a0 := (60, .inr (.inl (fun _ => 0)))) hx hb (hts _ (List.mem_cons_of_mem _ k_1_73)) rfl hK hP hD hS hA (z_a0l 60) (nI_pos (by decide)) (nI_clamp (by decide)) (by decide) (Nat.le_of_ble_eq_true rfl) (Nat.le_of_ble_eq_true rfl) d_CS_init_7 (fun q1 k1 H hK hP hD hS => ?_)
  have hP : va_P (dC, dI) zCl ([(h0, .inr (3, [.null, .int 0]))] ++ [(q1, .inl (k1, 60, .inr (.inl (fun _ => 0))))]) H := hP
  have hD : va_D _ ([(h0, .inr (3, [.null, .int 0]))] ++ [(q1, .inl (k1, 60, .inr (.inl (fun _ => 0))))]) := hD
  refine va_putF (D := (dC, dI)) (ci := 3) (v := .ref q1) (ty := (.array .long)) (C := R_CS) (T := F_CS) (N := 2) hx hb hts (fun w h => List.mem_cons_of_mem _ (in_CS w h)) ty_CS ty_CS_ok nm_CS hown hK hP hD hS 0 rfl rfl 0 (by decide) (hts _ (List.mem_cons_of_mem _ k_1_80)) (fun _ h9 => h9) rfl hin rfl (by decide +kernel) rfl rfl (Nat.le_of_ble_eq_true rfl) d_CS_init_9 (fun H locs hP hD hS => ?_)
  have hP : va_P (dC, dI) zCl ([(h0, .inr (3, [.ref q1, .int 0]))] ++ [(q1, .inl (k1, 60, .inr (.inl (fun _ => 0))))]) H := hP
  have hD : va_D _ ([(h0, .inr (3, [.ref q1, .int 0]))] ++ [(q1, .inl (k1, 60, .inr (.inl (fun _ => 0))))]) := hD
  refine lv_aload_n hx hb d_CS_init_12 rfl (lv_at hl 0 rfl) ?_
  refine lv_iconst (v := 0) hx hb d_CS_init_13 (by decide) ?_
  refine va_put (D := (dC, dI)) (ci := 3) (v := .int 0) (ty := .int) (C := R_CS) (T := F_CS) (N := 2) hx hb hts (fun w h => List.mem_cons_of_mem _ (in_CS w h)) ty_CS ty_CS_ok nm_CS hown hK hP hD hS 0 rfl rfl 1 (by decide) (hts _ (List.mem_cons_of_mem _ k_1_81)) (fun _ h9 => h9) rfl (by decide +kernel) rfl rfl (Nat.le_of_ble_eq_true rfl) d_CS_init_14 (fun H locs hP hD hS => ?_)
  have hP : va_P (dC, dI) zCl ([(h0, .inr (3, [.ref q1, .int 0]))] ++ [(q1, .inl (k1, 60, .inr (.inl (fun _ => 0))))]) H := hP
  have hD : va_D _ ([(h0, .inr (3, [.ref q1, .int 0]))] ++ [(q1, .inl (k1, 60, .inr (.inl (fun _ => 0))))]) := hD
  have hP9 : va_P (dC, dI) zCl (w_CS (fun i => [h0, q1].getD i 0) (fun i => [k1].getD i 0) (fun _ => 0) (0 : Int32)) H := hP
  have hD9 : va_D _ (w_CS (fun i => [h0, q1].getD i 0) (fun i => [k1].getD i 0) (fun _ => 0) (0 : Int32)) := hD
  have hK9 : va_K (dC, dI) zCl (t_CS (fun i => [k1].getD i 0)) s := hK
  exact z_nret (u := ((fun i => [h0, q1].getD i 0), (fun i => [k1].getD i 0))) hx hb hr rfl hP9 hD9 hK9 hS d_CS_init_17 hlocks
set_option maxHeartbeats 4000000 in
set_option maxRecDepth 100000 in
theorem i_HB (l : Launch) (dC : Nat → ClassId) (dI : Nat → Nat → Nat) (h0 : Nat) (sz : Nat) : Met l y_HB_init ww_HB_init ({ frames := 1, cells := 1, slots := 100, locals := 12 }) (va_Pc [.ref h0] (zB (dC, dI) zCl [] [(h0, .inr (4, [.null, .int 0]))] sz)) (zQn (dC, dI) zCl [(h0, .inr (4, [.null, .int 0]))] sz h0 (fun a k => w_HB a k (fun _ => 0) (0 : Int32)) t_HB) 1 100 (va_A [(h0, .inr (4, [.null, .int 0]))] sz) := by
  refine Met.ofW (cc := b_HB_init) (maxL := 1) (ret := none) (by decide) rfl ?_
  intro p e s m args below meth c s₁ B hml hv
  obtain ⟨rfl, rfl, hP, hK, hD, hN⟩ := hv
  have hx := B.exec
  have hb := B.bytes
  have hr := B.returns
  have hts := atoms_spec (ws := ww_HB_init) B.pre
  have hown : s.vm.findClass R_HB = some m.cls := findClass_of_methodNamed B.named
  have hlocks := B.notSynchronized
  have hin : meth.name = "<init>" := (name_of_methodNamed B.named B.method).1
  have hA : ∀ q : Nat, s.heap.size ≤ q → va_A [(h0, .inr (4, [.null, .int 0]))] s.heap.size q := fun q h => Or.inr h
  refine z_start (lv := [(0, .ref h0)]) (Nat.le_of_ble_eq_true rfl) rfl hP hD (fun H locs ls hP hD hS hl => ?_)
  refine lv_aload_n hx hb d_HB_init_0 rfl (lv_at hl 0 rfl) ?_
  refine W.objInit hx hb hown (hts _ (List.mem_cons_of_mem _ k_1_92)) (hts _ (List.mem_cons_of_mem _ k_1_15)) (hts _ (List.mem_cons_of_mem _ k_1_16)) rfl (by rw [hml]; exact hl.1) rfl d_HB_init_1 (Nat.le_of_ble_eq_true rfl) (Nat.le_of_ble_eq_true rfl) ?_
  refine W.eq (g2 := F0 m 4 ls []) rfl ?_
  refine lv_aload_n hx hb d_HB_init_4 rfl (lv_at hl 0 rfl) ?_
  refine lv_bipush (v := nI 100) hx hb d_HB_init_5 (by decide) ?_
  refine va_newa (atype := .long) (ty := .long) (N' := 100) (a0 := (100, .inr (.inl (fun _ => 0)))) hx hb (hts _ (List.mem_cons_of_mem _ k_1_73)) rfl hK hP hD hS hA (z_a0l 100) (nI_pos (by decide)) (nI_clamp (by decide)) (by decide) (Nat.le_of_ble_eq_true rfl) (Nat.le_of_ble_eq_true rfl) d_HB_init_7 (fun q1 k1 H hK hP hD hS => ?_)
  have hP : va_P (dC, dI) zCl ([(h0, .inr (4, [.null, .int 0]))] ++ [(q1, .inl (k1, 100, .inr (.inl (fun _ => 0))))]) H := hP
  have hD : va_D _ ([(h0, .inr (4, [.null, .int 0]))] ++ [(q1, .inl (k1, 100, .inr (.inl (fun _ => 0))))]) := hD
  refine va_putF (D := (dC, dI)) (ci := 4) (v := .ref q1) (ty := (.array .long)) (C := R_HB) (T := F_HB) (N := 2) hx hb hts (fun w h => List.mem_cons_of_mem _ (in_HB w h)) ty_HB ty_HB_ok nm_HB hown hK hP hD hS 0 rfl rfl 0 (by decide) (hts _ (List.mem_cons_of_mem _ k_1_93)) (fun _ h9 => h9) rfl hin rfl (by decide +kernel) rfl rfl (Nat.le_of_ble_eq_true rfl) d_HB_init_9 (fun H locs hP hD hS => ?_)
  have hP : va_P (dC, dI) zCl ([(h0, .inr (4, [.ref q1, .int 0]))] ++ [(q1, .inl (k1, 100, .inr (.inl (fun _ => 0))))]) H := hP
  have hD : va_D _ ([(h0, .inr (4, [.ref q1, .int 0]))] ++ [(q1, .inl (k1, 100, .inr (.inl (fun _ => 0))))]) := hD
  refine lv_aload_n hx hb d_HB_init_12 rfl (lv_at hl 0 rfl) ?_
  refine lv_iconst (v := 0) hx hb d_HB_init_13 (by decide) ?_
  refine va_put (D := (dC, dI)) (ci := 4) (v := .int 0) (ty := .int) (C := R_HB) (T := F_HB) (N := 2) hx hb hts (fun w h => List.mem_cons_of_mem _ (in_HB w h)) ty_HB ty_HB_ok nm_HB hown hK hP hD hS 0 rfl rfl 1 (by decide) (hts _ (List.mem_cons_of_mem _ k_1_94)) (fun _ h9 => h9) rfl (by decide +kernel) rfl rfl (Nat.le_of_ble_eq_true rfl) d_HB_init_14 (fun H locs hP hD hS => ?_)
  have hP : va_P (dC, dI) zCl ([(h0, .inr (4, [.ref q1, .int 0]))] ++ [(q1, .inl (k1, 100, .inr (.inl (fun _ => 0))))]) H := hP
  have hD : va_D _ ([(h0, .inr (4, [.ref q1, .int 0]))] ++ [(q1, .inl (k1, 100, .inr (.inl (fun _ => 0))))]) := hD
  have hP9 : va_P (dC, dI) zCl (w_HB (fun i => [h0, q1].getD i 0) (fun i => [k1].getD i 0) (fun _ => 0) (0 : Int32)) H := hP
  have hD9 : va_D _ (w_HB (fun i => [h0, q1].getD i 0) (fun i => [k1].getD i 0) (fun _ => 0) (0 : Int32)) := hD
  have hK9 : va_K (dC, dI) zCl (t_HB (fun i => [k1].getD i 0)) s := hK
  exact z_nret (u := ((fun i => [h0, q1].getD i 0), (fun i => [k1].getD i 0))) hx hb hr rfl hP9 hD9 hK9 hS d_HB_init_17 hlocks
set_option maxHeartbeats 4000000 in
set_option maxRecDepth 100000 in
theorem i_DM (l : Launch) (dC : Nat → ClassId) (dI : Nat → Nat → Nat) (h0 : Nat) (sz : Nat) : Met l y_DM_init ww_DM_init ({ frames := 1, cells := 1, slots := 48, locals := 12 }) (va_Pc [.ref h0] (zB (dC, dI) zCl [] [(h0, .inr (5, [.null]))] sz)) (zQn (dC, dI) zCl [(h0, .inr (5, [.null]))] sz h0 (fun a k => w_DM a k (fun _ => 0)) t_DM) 1 48 (va_A [(h0, .inr (5, [.null]))] sz) := by
  refine Met.ofW (cc := b_DM_init) (maxL := 1) (ret := none) (by decide) rfl ?_
  intro p e s m args below meth c s₁ B hml hv
  obtain ⟨rfl, rfl, hP, hK, hD, hN⟩ := hv
  have hx := B.exec
  have hb := B.bytes
  have hr := B.returns
  have hts := atoms_spec (ws := ww_DM_init) B.pre
  have hown : s.vm.findClass R_DM = some m.cls := findClass_of_methodNamed B.named
  have hlocks := B.notSynchronized
  have hin : meth.name = "<init>" := (name_of_methodNamed B.named B.method).1
  have hA : ∀ q : Nat, s.heap.size ≤ q → va_A [(h0, .inr (5, [.null]))] s.heap.size q := fun q h => Or.inr h
  refine z_start (lv := [(0, .ref h0)]) (Nat.le_of_ble_eq_true rfl) rfl hP hD (fun H locs ls hP hD hS hl => ?_)
  refine lv_aload_n hx hb d_DM_init_0 rfl (lv_at hl 0 rfl) ?_
  refine W.objInit hx hb hown (hts _ (List.mem_cons_of_mem _ k_1_105)) (hts _ (List.mem_cons_of_mem _ k_1_15)) (hts _ (List.mem_cons_of_mem _ k_1_16)) rfl (by rw [hml]; exact hl.1) rfl d_DM_init_1 (Nat.le_of_ble_eq_true rfl) (Nat.le_of_ble_eq_true rfl) ?_
  refine W.eq (g2 := F0 m 4 ls []) rfl ?_
  refine lv_aload_n hx hb d_DM_init_4 rfl (lv_at hl 0 rfl) ?_
  refine lv_bipush (v := nI 48) hx hb d_DM_init_5 (by decide) ?_
  refine va_newa (atype := .boolean) (ty := .boolean) (N' := 48) (a0 := (48, .inl (fun _ => 0))) hx hb (hts _ (List.mem_cons_of_mem _ k_1_53)) rfl hK hP hD hS hA (z_a0z 48) (nI_pos (by decide)) (nI_clamp (by decide)) (by decide) (Nat.le_of_ble_eq_true rfl) (Nat.le_of_ble_eq_true rfl) d_DM_init_7 (fun q1 k1 H hK hP hD hS => ?_)
  have hP : va_P (dC, dI) zCl ([(h0, .inr (5, [.null]))] ++ [(q1, .inl (k1, 48, .inl (fun _ => 0)))]) H := hP
  have hD : va_D _ ([(h0, .inr (5, [.null]))] ++ [(q1, .inl (k1, 48, .inl (fun _ => 0)))]) := hD
  refine va_putF (D := (dC, dI)) (ci := 5) (v := .ref q1) (ty := (.array .boolean)) (C := R_DM) (T := F_DM) (N := 1) hx hb hts (fun w h => List.mem_cons_of_mem _ (in_DM w h)) ty_DM ty_DM_ok nm_DM hown hK hP hD hS 0 rfl rfl 0 (by decide) (hts _ (List.mem_cons_of_mem _ k_1_106)) (fun _ h9 => h9) rfl hin rfl (by decide +kernel) rfl rfl (Nat.le_of_ble_eq_true rfl) d_DM_init_9 (fun H locs hP hD hS => ?_)
  have hP : va_P (dC, dI) zCl ([(h0, .inr (5, [.ref q1]))] ++ [(q1, .inl (k1, 48, .inl (fun _ => 0)))]) H := hP
  have hD : va_D _ ([(h0, .inr (5, [.ref q1]))] ++ [(q1, .inl (k1, 48, .inl (fun _ => 0)))]) := hD
  have hP9 : va_P (dC, dI) zCl (w_DM (fun i => [h0, q1].getD i 0) (fun i => [k1].getD i 0) (fun _ => 0)) H := hP
  have hD9 : va_D _ (w_DM (fun i => [h0, q1].getD i 0) (fun i => [k1].getD i 0) (fun _ => 0)) := hD
  have hK9 : va_K (dC, dI) zCl (t_DM (fun i => [k1].getD i 0)) s := hK
  exact z_nret (u := ((fun i => [h0, q1].getD i 0), (fun i => [k1].getD i 0))) hx hb hr rfl hP9 hD9 hK9 hS d_DM_init_12 hlocks
