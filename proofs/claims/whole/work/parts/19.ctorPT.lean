set_option maxHeartbeats 4000000 in
set_option maxRecDepth 100000 in
theorem i_PT (l : Launch) (dC : Nat → ClassId) (dI : Nat → Nat → Nat) (h0 : Nat) (sz : Nat) : Met l y_PT_init ww_PT_init ({ frames := 1, cells := 1, slots := 40, locals := 12 }) (va_Pc [.ref h0] (zB (dC, dI) zCl [] [(h0, .inr (0, [.null, .int 0]))] sz)) (zQn (dC, dI) zCl [(h0, .inr (0, [.null, .int 0]))] sz h0 (fun a k => w_PT a k (fun _ => 0) (0 : Int32)) t_PT) 1 40 (va_A [(h0, .inr (0, [.null, .int 0]))] sz) := by
  refine Met.ofW (cc := b_PT_init) (maxL := 1) (ret := none) (by decide) rfl ?_
  intro p e s m args below meth c s₁ B hml hv
  obtain ⟨rfl, rfl, hP, hK, hD, hN⟩ := hv
  have hx := B.exec
  have hb := B.bytes
  have hr := B.returns
  have hts := atoms_spec (ws := ww_PT_init) B.pre
  have hown : s.vm.findClass R_PT = some m.cls := findClass_of_methodNamed B.named
  have hlocks := B.notSynchronized
  have hin : meth.name = "<init>" := (name_of_methodNamed B.named B.method).1
  have hA : ∀ q : Nat, s.heap.size ≤ q → va_A [(h0, .inr (0, [.null, .int 0]))] s.heap.size q := fun q h => Or.inr h
  refine z_start (lv := [(0, .ref h0)]) (Nat.le_of_ble_eq_true rfl) rfl hP hD (fun H locs ls hP hD hS hl => ?_)
  refine lv_aload_n hx hb d_PT_init_0 rfl (lv_at hl 0 rfl) ?_
  refine W.objInit hx hb hown (hts _ (List.mem_cons_of_mem _ k_1_22)) (hts _ (List.mem_cons_of_mem _ k_1_15)) (hts _ (List.mem_cons_of_mem _ k_1_16)) rfl (by rw [hml]; exact hl.1) rfl d_PT_init_1 (Nat.le_of_ble_eq_true rfl) (Nat.le_of_ble_eq_true rfl) ?_
  refine W.eq (g2 := F0 m 4 ls []) rfl ?_
  refine lv_aload_n hx hb d_PT_init_4 rfl (lv_at hl 0 rfl) ?_
  refine lv_bipush (v := nI 40) hx hb d_PT_init_5 (by decide) ?_
  refine va_newa (atype := .int) (ty := .int) (N' := 40) (a0 := (40, .inl (fun _ => 0))) hx hb (hts _ (List.mem_cons_of_mem _ k_1_30)) rfl hK hP hD hS hA (z_a0i 40) (nI_pos (by decide)) (nI_clamp (by decide)) (by decide) (Nat.le_of_ble_eq_true rfl) (Nat.le_of_ble_eq_true rfl) d_PT_init_7 (fun q1 k1 H hK hP hD hS => ?_)
  have hP : va_P (dC, dI) zCl ([(h0, .inr (0, [.null, .int 0]))] ++ [(q1, .inl (k1, 40, .inl (fun _ => 0)))]) H := hP
  have hD : va_D _ ([(h0, .inr (0, [.null, .int 0]))] ++ [(q1, .inl (k1, 40, .inl (fun _ => 0)))]) := hD
  refine va_putF (D := (dC, dI)) (ci := 0) (v := .ref q1) (ty := (.array .int)) (C := R_PT) (T := F_PT) (N := 2) hx hb hts (fun w h => List.mem_cons_of_mem _ (in_PT w h)) ty_PT ty_PT_ok nm_PT hown hK hP hD hS 0 rfl rfl 0 (by decide) (hts _ (List.mem_cons_of_mem _ k_1_23)) (fun _ h9 => h9) rfl hin rfl (by decide +kernel) rfl rfl (Nat.le_of_ble_eq_true rfl) d_PT_init_9 (fun H locs hP hD hS => ?_)
  have hP : va_P (dC, dI) zCl ([(h0, .inr (0, [.ref q1, .int 0]))] ++ [(q1, .inl (k1, 40, .inl (fun _ => 0)))]) H := hP
  have hD : va_D _ ([(h0, .inr (0, [.ref q1, .int 0]))] ++ [(q1, .inl (k1, 40, .inl (fun _ => 0)))]) := hD
  refine lv_aload_n hx hb d_PT_init_12 rfl (lv_at hl 0 rfl) ?_
  refine lv_iconst (v := 0) hx hb d_PT_init_13 (by decide) ?_
  refine va_put (D := (dC, dI)) (ci := 0) (v := .int 0) (ty := .int) (C := R_PT) (T := F_PT) (N := 2) hx hb hts (fun w h => List.mem_cons_of_mem _ (in_PT w h)) ty_PT ty_PT_ok nm_PT hown hK hP hD hS 0 rfl rfl 1 (by decide) (hts _ (List.mem_cons_of_mem _ k_1_24)) (fun _ h9 => h9) rfl (by decide +kernel) rfl rfl (Nat.le_of_ble_eq_true rfl) d_PT_init_14 (fun H locs hP hD hS => ?_)
  have hP : va_P (dC, dI) zCl ([(h0, .inr (0, [.ref q1, .int 0]))] ++ [(q1, .inl (k1, 40, .inl (fun _ => 0)))]) H := hP
  have hD : va_D _ ([(h0, .inr (0, [.ref q1, .int 0]))] ++ [(q1, .inl (k1, 40, .inl (fun _ => 0)))]) := hD
  have hP9 : va_P (dC, dI) zCl (w_PT (fun i => [h0, q1].getD i 0) (fun i => [k1].getD i 0) (fun _ => 0) (0 : Int32)) H := hP
  have hD9 : va_D _ (w_PT (fun i => [h0, q1].getD i 0) (fun i => [k1].getD i 0) (fun _ => 0) (0 : Int32)) := hD
  have hK9 : va_K (dC, dI) zCl (t_PT (fun i => [k1].getD i 0)) s := hK
  exact z_nret (u := ((fun i => [h0, q1].getD i 0), (fun i => [k1].getD i 0))) hx hb hr rfl hP9 hD9 hK9 hS d_PT_init_17 hlocks
