set_option maxHeartbeats 4000000 in
set_option maxRecDepth 100000 in
theorem c_PT_has (l : Launch) (dC : Nat → ClassId) (dI : Nat → Nat → Nat) (N : Nat) (a : Nat → Nat) (k : Nat → ClassId) (zouter : Nat → Int32) (zcount : Int32) (p1 : Int32) {y : (Int32)} (hf : pf_PT_has N zcount p1 = some y) (sz : Nat) : Met l y_PT_has ww_PT_has ({ frames := 0, cells := 0, slots := 0, locals := 0 }) (va_Pc [.ref (a 0), .int p1] (zB (dC, dI) zCl (t_PT k) (w_PT a k zouter zcount) sz)) (zQi (dC, dI) zCl (w_PT a k zouter zcount) sz y (w_PT a k zouter zcount)) 0 0 (va_A (w_PT a k zouter zcount) sz) := by
  refine Met.ofW (cc := b_PT_has) (maxL := 2) (ret := (some .boolean)) (by decide) rfl ?_
  intro p e s m args below meth c s₁ B hml hv
  obtain ⟨rfl, rfl, hP, hK, hD, hN⟩ := hv
  have hx := B.exec
  have hb := B.bytes
  have hr := B.returns
  have hts := atoms_spec (ws := ww_PT_has) B.pre
  have hown : s.vm.findClass R_PT = some m.cls := findClass_of_methodNamed B.named
  have hlocks := B.notSynchronized
  have hA : ∀ q : Nat, s.heap.size ≤ q → va_A (w_PT a k zouter zcount) s.heap.size q := fun q h => Or.inr h
  refine z_start (lv := [(0, .ref (a 0)), (1, .int p1)]) (Nat.le_of_ble_eq_true rfl) rfl hP hD (fun H locs ls hP hD hS hl => ?_)
  unfold pf_PT_has at hf
  refine lv_iload_n hx hb d_PT_has_0 rfl (lv_at hl 1 rfl) ?_
  refine lv_if_lt (tgt := 16) hx hb d_PT_has_1 (by decide) (fun c1 => ?_) (fun c1 => ?_)
  · have hf := z_t c1 hf
    refine lv_iconst (v := (0 : Int32)) hx hb d_PT_has_16 (by decide) ?_
    obtain rfl := Option.some.inj hf
    exact z_zret hx hb hr (by decide) hP hD hS d_PT_has_17 hlocks
  · have hf := z_f c1 hf
    refine lv_iload_n hx hb d_PT_has_4 rfl (lv_at hl 1 rfl) ?_
    refine lv_aload_n hx hb d_PT_has_5 rfl (lv_at hl 0 rfl) ?_
    refine va_get (D := (dC, dI)) (ci := 0) (v := .int zcount) (C := R_PT) (T := F_PT) (N := 2) hx hb hts (fun w h => List.mem_cons_of_mem _ (in_PT w h)) hown hK hP 0 rfl rfl 1 (by decide) (hts _ (List.mem_cons_of_mem _ k_1_24)) (fun _ h9 => h9) rfl d_PT_has_6 ?_
    refine lv_icmp_ge (tgt := 16) hx hb d_PT_has_9 (by decide) (fun c2 => ?_) (fun c2 => ?_)
    · have hf := z_t c2 hf
      refine lv_iconst (v := (0 : Int32)) hx hb d_PT_has_16 (by decide) ?_
      obtain rfl := Option.some.inj hf
      exact z_zret hx hb hr (by decide) hP hD hS d_PT_has_17 hlocks
    · have hf := z_f c2 hf
      refine lv_iconst (v := (1 : Int32)) hx hb d_PT_has_12 (by decide) ?_
      refine lv_goto (tgt := 17) hx hb d_PT_has_13 (by decide) ?_
      obtain rfl := Option.some.inj hf
      exact z_zret hx hb hr (by decide) hP hD hS d_PT_has_17 hlocks
set_option maxHeartbeats 4000000 in
set_option maxRecDepth 100000 in
theorem c_PT_grow (l : Launch) (dC : Nat → ClassId) (dI : Nat → Nat → Nat) (N : Nat) (a : Nat → Nat) (k : Nat → ClassId) (zouter : Nat → Int32) (zcount : Int32) (p1 : Int32) {y : (Int32 × (Nat → Int32) × Int32)} (hf : pf_PT_grow N zouter zcount p1 = some y) (sz : Nat) : Met l y_PT_grow ww_PT_grow ({ frames := 1, cells := 0, slots := 0, locals := 21 }) (va_Pc [.ref (a 0), .int p1] (zB (dC, dI) zCl (t_PT k) (w_PT a k zouter zcount) sz)) (zQi (dC, dI) zCl (w_PT a k zouter zcount) sz y.1 (w_PT a k y.2.1 y.2.2)) 0 0 (va_A (w_PT a k zouter zcount) sz) := by
  refine Met.ofW (cc := b_PT_grow) (maxL := 2) (ret := (some .int)) (by decide) rfl ?_
  intro p e s m args below meth c s₁ B hml hv
  obtain ⟨rfl, rfl, hP, hK, hD, hN⟩ := hv
  have hx := B.exec
  have hb := B.bytes
  have hr := B.returns
  have hts := atoms_spec (ws := ww_PT_grow) B.pre
  have hown : s.vm.findClass R_PT = some m.cls := findClass_of_methodNamed B.named
  have hlocks := B.notSynchronized
  have hA : ∀ q : Nat, s.heap.size ≤ q → va_A (w_PT a k zouter zcount) s.heap.size q := fun q h => Or.inr h
  refine z_start (lv := [(0, .ref (a 0)), (1, .int p1)]) (Nat.le_of_ble_eq_true rfl) rfl hP hD (fun H locs ls hP hD hS hl => ?_)
  unfold pf_PT_grow at hf
  refine lv_aload_n hx hb d_PT_grow_0 rfl (lv_at hl 0 rfl) ?_
  refine va_get (D := (dC, dI)) (ci := 0) (v := .int zcount) (C := R_PT) (T := F_PT) (N := 2) hx hb hts (fun w h => List.mem_cons_of_mem _ (in_PT w h)) hown hK hP 0 rfl rfl 1 (by decide) (hts _ (List.mem_cons_of_mem _ k_1_24)) (fun _ h9 => h9) rfl d_PT_grow_1 ?_
  refine lv_bipush (v := (nI 40)) hx hb d_PT_grow_4 (by decide) ?_
  refine lv_icmp_ge (tgt := 22) hx hb d_PT_grow_6 (by decide) (fun c1 => ?_) (fun c1 => ?_)
  · have hf := z_t c1 hf
    refine lv_iconst (v := (-1 : Int32)) hx hb d_PT_grow_22 (by decide) ?_
    obtain rfl := Option.some.inj hf
    exact z_iret hx hb hr hP hD hS d_PT_grow_23 hlocks
  · have hf := z_f c1 hf
    refine lv_iload_n hx hb d_PT_grow_9 rfl (lv_at hl 1 rfl) ?_
    refine lv_iconst (v := (-1 : Int32)) hx hb d_PT_grow_10 (by decide) ?_
    refine lv_icmp_eq (tgt := 24) hx hb d_PT_grow_11 (by decide) (fun c2 => ?_) (fun c2 => ?_)
    · have hf := z_t c2 hf
      refine lv_aload_n hx hb d_PT_grow_24 rfl (lv_at hl 0 rfl) ?_
      refine va_get (D := (dC, dI)) (ci := 0) (v := .ref (a 1)) (C := R_PT) (T := F_PT) (N := 2) hx hb hts (fun w h => List.mem_cons_of_mem _ (in_PT w h)) hown hK hP 0 rfl rfl 0 (by decide) (hts _ (List.mem_cons_of_mem _ k_1_23)) (fun _ h9 => h9) rfl d_PT_grow_25 ?_
      refine lv_aload_n hx hb d_PT_grow_28 rfl (lv_at hl 0 rfl) ?_
      refine va_get (D := (dC, dI)) (ci := 0) (v := .int zcount) (C := R_PT) (T := F_PT) (N := 2) hx hb hts (fun w h => List.mem_cons_of_mem _ (in_PT w h)) hown hK hP 0 rfl rfl 1 (by decide) (hts _ (List.mem_cons_of_mem _ k_1_24)) (fun _ h9 => h9) rfl d_PT_grow_29 ?_
      refine lv_iload_n hx hb d_PT_grow_32 rfl (lv_at hl 1 rfl) ?_
      obtain ⟨g3, hf⟩ := z_gz hf
      refine va_iast hx hb hK hP hD hS 1 0 rfl rfl g3 d_PT_grow_33 (fun H locs hP hD hS => ?_)
      have hP : va_P (dC, dI) zCl (w_PT a k (upd zouter zcount.toNatClampNeg p1) zcount) H := hP
      have hD : va_D _ (w_PT a k (upd zouter zcount.toNatClampNeg p1) zcount) := hD
      refine lv_aload_n hx hb d_PT_grow_34 rfl (lv_at hl 0 rfl) ?_
      refine lv_dup hx hb d_PT_grow_35 rfl ?_
      refine va_get (D := (dC, dI)) (ci := 0) (v := .int zcount) (C := R_PT) (T := F_PT) (N := 2) hx hb hts (fun w h => List.mem_cons_of_mem _ (in_PT w h)) hown hK hP 0 rfl rfl 1 (by decide) (hts _ (List.mem_cons_of_mem _ k_1_24)) (fun _ h9 => h9) rfl d_PT_grow_36 ?_
      refine lv_iconst (v := (1 : Int32)) hx hb d_PT_grow_39 (by decide) ?_
      refine lv_iadd hx hb d_PT_grow_40 ?_
      refine va_put (D := (dC, dI)) (ci := 0) (v := .int (zcount + (1 : Int32))) (ty := .int) (C := R_PT) (T := F_PT) (N := 2) hx hb hts (fun w h => List.mem_cons_of_mem _ (in_PT w h)) ty_PT ty_PT_ok nm_PT hown hK hP hD hS 0 rfl rfl 1 (by decide) (hts _ (List.mem_cons_of_mem _ k_1_24)) (fun _ h9 => h9) rfl (by decide +kernel) rfl rfl (Nat.le_of_ble_eq_true rfl) d_PT_grow_41 (fun H locs hP hD hS => ?_)
      have hP : va_P (dC, dI) zCl (w_PT a k (upd zouter zcount.toNatClampNeg p1) (zcount + (1 : Int32))) H := hP
      have hD : va_D _ (w_PT a k (upd zouter zcount.toNatClampNeg p1) (zcount + (1 : Int32))) := hD
      refine lv_aload_n hx hb d_PT_grow_44 rfl (lv_at hl 0 rfl) ?_
      refine va_get (D := (dC, dI)) (ci := 0) (v := .int (zcount + (1 : Int32))) (C := R_PT) (T := F_PT) (N := 2) hx hb hts (fun w h => List.mem_cons_of_mem _ (in_PT w h)) hown hK hP 0 rfl rfl 1 (by decide) (hts _ (List.mem_cons_of_mem _ k_1_24)) (fun _ h9 => h9) rfl d_PT_grow_45 ?_
      refine lv_iconst (v := (1 : Int32)) hx hb d_PT_grow_48 (by decide) ?_
      refine lv_isub hx hb d_PT_grow_49 ?_
      obtain rfl := Option.some.inj hf
      exact z_iret hx hb hr hP hD hS d_PT_grow_50 hlocks
    · have hf := z_f c2 hf
      refine lv_aload_n hx hb d_PT_grow_14 rfl (lv_at hl 0 rfl) ?_
      refine lv_iload_n hx hb d_PT_grow_15 rfl (lv_at hl 1 rfl) ?_
      obtain ⟨u0, hu0, hf⟩ := z_b hf
      have hPc := hP
      have hDc := hD
      have hKc := hK
      refine z_cwi (va_runV (As := [.int p1]) (rest := []) ⟨hx, hb, hml, hown, hts⟩ (c_PT_has l dC dI N a k zouter zcount p1 hu0 H.size) (cwV 1 hts (zGV zsub_c k_1_143 k_1_144 k_1_145 k_1_2 kc_PT_has) rfl rfl rfl (by decide +kernel) ⟨Nat.le_of_ble_eq_true rfl, Nat.le_of_ble_eq_true rfl⟩) ⟨z_bl, va_recv hKc hPc (ci := 0) (q0 := 0) rfl rfl, fun U hU hW => ⟨rfl, z_pre hN hKc hPc hDc U hU hW⟩⟩ rfl rfl hl.1 rfl (lv_room (Nat.le_of_ble_eq_true rfl)) d_PT_grow_16 ⟨Nat.zero_le _, Nat.zero_le _⟩) hD hS hA (fun H locs hP hD hS => ?_)
      refine lv_if_ne (tgt := 24) hx hb d_PT_grow_19 (by decide) (fun c4 => ?_) (fun c4 => ?_)
      · have hf := z_t c4 hf
        refine lv_aload_n hx hb d_PT_grow_24 rfl (lv_at hl 0 rfl) ?_
        refine va_get (D := (dC, dI)) (ci := 0) (v := .ref (a 1)) (C := R_PT) (T := F_PT) (N := 2) hx hb hts (fun w h => List.mem_cons_of_mem _ (in_PT w h)) hown hK hP 0 rfl rfl 0 (by decide) (hts _ (List.mem_cons_of_mem _ k_1_23)) (fun _ h9 => h9) rfl d_PT_grow_25 ?_
        refine lv_aload_n hx hb d_PT_grow_28 rfl (lv_at hl 0 rfl) ?_
        refine va_get (D := (dC, dI)) (ci := 0) (v := .int zcount) (C := R_PT) (T := F_PT) (N := 2) hx hb hts (fun w h => List.mem_cons_of_mem _ (in_PT w h)) hown hK hP 0 rfl rfl 1 (by decide) (hts _ (List.mem_cons_of_mem _ k_1_24)) (fun _ h9 => h9) rfl d_PT_grow_29 ?_
        refine lv_iload_n hx hb d_PT_grow_32 rfl (lv_at hl 1 rfl) ?_
        obtain ⟨g5, hf⟩ := z_gz hf
        refine va_iast hx hb hK hP hD hS 1 0 rfl rfl g5 d_PT_grow_33 (fun H locs hP hD hS => ?_)
        have hP : va_P (dC, dI) zCl (w_PT a k (upd zouter zcount.toNatClampNeg p1) zcount) H := hP
        have hD : va_D _ (w_PT a k (upd zouter zcount.toNatClampNeg p1) zcount) := hD
        refine lv_aload_n hx hb d_PT_grow_34 rfl (lv_at hl 0 rfl) ?_
        refine lv_dup hx hb d_PT_grow_35 rfl ?_
        refine va_get (D := (dC, dI)) (ci := 0) (v := .int zcount) (C := R_PT) (T := F_PT) (N := 2) hx hb hts (fun w h => List.mem_cons_of_mem _ (in_PT w h)) hown hK hP 0 rfl rfl 1 (by decide) (hts _ (List.mem_cons_of_mem _ k_1_24)) (fun _ h9 => h9) rfl d_PT_grow_36 ?_
        refine lv_iconst (v := (1 : Int32)) hx hb d_PT_grow_39 (by decide) ?_
        refine lv_iadd hx hb d_PT_grow_40 ?_
        refine va_put (D := (dC, dI)) (ci := 0) (v := .int (zcount + (1 : Int32))) (ty := .int) (C := R_PT) (T := F_PT) (N := 2) hx hb hts (fun w h => List.mem_cons_of_mem _ (in_PT w h)) ty_PT ty_PT_ok nm_PT hown hK hP hD hS 0 rfl rfl 1 (by decide) (hts _ (List.mem_cons_of_mem _ k_1_24)) (fun _ h9 => h9) rfl (by decide +kernel) rfl rfl (Nat.le_of_ble_eq_true rfl) d_PT_grow_41 (fun H locs hP hD hS => ?_)
        have hP : va_P (dC, dI) zCl (w_PT a k (upd zouter zcount.toNatClampNeg p1) (zcount + (1 : Int32))) H := hP
        have hD : va_D _ (w_PT a k (upd zouter zcount.toNatClampNeg p1) (zcount + (1 : Int32))) := hD
        refine lv_aload_n hx hb d_PT_grow_44 rfl (lv_at hl 0 rfl) ?_
        refine va_get (D := (dC, dI)) (ci := 0) (v := .int (zcount + (1 : Int32))) (C := R_PT) (T := F_PT) (N := 2) hx hb hts (fun w h => List.mem_cons_of_mem _ (in_PT w h)) hown hK hP 0 rfl rfl 1 (by decide) (hts _ (List.mem_cons_of_mem _ k_1_24)) (fun _ h9 => h9) rfl d_PT_grow_45 ?_
        refine lv_iconst (v := (1 : Int32)) hx hb d_PT_grow_48 (by decide) ?_
        refine lv_isub hx hb d_PT_grow_49 ?_
        obtain rfl := Option.some.inj hf
        exact z_iret hx hb hr hP hD hS d_PT_grow_50 hlocks
      · have hf := z_fn c4 hf
        refine lv_iconst (v := (-1 : Int32)) hx hb d_PT_grow_22 (by decide) ?_
        obtain rfl := Option.some.inj hf
        exact z_iret hx hb hr hP hD hS d_PT_grow_23 hlocks
set_option maxHeartbeats 4000000 in
set_option maxRecDepth 100000 in
theorem c_PT_isAtOrWithin (l : Launch) (dC : Nat → ClassId) (dI : Nat → Nat → Nat) (N : Nat) (a : Nat → Nat) (k : Nat → ClassId) (zouter : Nat → Int32) (zcount : Int32) (p1 : Int32) (p2 : Int32) {y : (Int32)} (hf : pf_PT_isAtOrWithin N zouter zcount p1 p2 = some y) (sz : Nat) : Met l y_PT_isAtOrWithin ww_PT_isAtOrWithin ({ frames := 1, cells := 0, slots := 0, locals := 21 }) (va_Pc [.ref (a 0), .int p1, .int p2] (zB (dC, dI) zCl (t_PT k) (w_PT a k zouter zcount) sz)) (zQi (dC, dI) zCl (w_PT a k zouter zcount) sz y (w_PT a k zouter zcount)) 0 0 (va_A (w_PT a k zouter zcount) sz) := by
  refine Met.ofW (cc := b_PT_isAtOrWithin) (maxL := 5) (ret := (some .boolean)) (by decide) rfl ?_
  intro p e s m args below meth c s₁ B hml hv
  obtain ⟨rfl, rfl, hP, hK, hD, hN⟩ := hv
  have hx := B.exec
  have hb := B.bytes
  have hr := B.returns
  have hts := atoms_spec (ws := ww_PT_isAtOrWithin) B.pre
  have hown : s.vm.findClass R_PT = some m.cls := findClass_of_methodNamed B.named
  have hlocks := B.notSynchronized
  have hA : ∀ q : Nat, s.heap.size ≤ q → va_A (w_PT a k zouter zcount) s.heap.size q := fun q h => Or.inr h
  refine z_start (lv := [(0, .ref (a 0)), (1, .int p1), (2, .int p2)]) (Nat.le_of_ble_eq_true rfl) rfl hP hD (fun H locs ls hP hD hS hl => ?_)
  unfold pf_PT_isAtOrWithin at hf
  refine lv_iload_n hx hb d_PT_isAtOrWithin_0 rfl (lv_at hl 1 rfl) ?_
  refine lv_istore_n (lv' := [(3, .int p1), (0, .ref (a 0)), (1, .int p1), (2, .int p2)]) hx hb d_PT_isAtOrWithin_1 rfl hl (by decide) rfl (fun ls hl => ?_)
  refine lv_iconst (v := (0 : Int32)) hx hb d_PT_isAtOrWithin_2 (by decide) ?_
  refine lv_istore (lv' := [(4, .int (0 : Int32)), (3, .int p1), (0, .ref (a 0)), (1, .int p1), (2, .int p2)]) hx hb d_PT_isAtOrWithin_3 hl (by decide) rfl (fun ls hl => ?_)
  have loop5 : ∀ (n : Nat) (x3 : Int32) (x4 : Int32), pf_PT_isAtOrWithin_L5 N zouter zcount p2 n x3 x4 = some y → ∀ (H : Heap) (locs : List Loc) (ls : Array Slot), va_P (dC, dI) zCl (w_PT a k zouter zcount) H → va_D (va_A (w_PT a k zouter zcount) s.heap.size) (w_PT a k zouter zcount) → va_S (va_A (w_PT a k zouter zcount) s.heap.size) s.heap H locs → lv_has ls 5 [(0, .ref (a 0)), (1, .int p1), (2, .int p2), (3, .int x3), (4, .int x4)] → W p l e (headSpec ww_PT_isAtOrWithin ({ frames := 1, cells := 0, slots := 0, locals := 21 })).room s m ([.ref (a 0), .int p1, .int p2] : List Value).toArray below meth c H locs 0 0 (MQ below (zQi (dC, dI) zCl (w_PT a k zouter zcount) s.heap.size y (w_PT a k zouter zcount)) ([.ref (a 0), .int p1, .int p2] : List Value).toArray s 0 0 (va_A (w_PT a k zouter zcount) s.heap.size)) (F0 m 5 ls []) := by
    intro n5
    induction n5 with
    | zero => intro x3 x4 hf; rw [pf_PT_isAtOrWithin_L5.eq_1] at hf; cases hf
    | succ n5 ih5 =>
      intro x3 x4 hf H locs ls hP hD hS hl
      rw [pf_PT_isAtOrWithin_L5.eq_2] at hf
      refine lv_iload hx hb d_PT_isAtOrWithin_5 (lv_at hl 4 rfl) ?_
      refine lv_bipush (v := (nI 40)) hx hb d_PT_isAtOrWithin_7 (by decide) ?_
      refine lv_icmp_ge (tgt := 38) hx hb d_PT_isAtOrWithin_9 (by decide) (fun c1 => ?_) (fun c1 => ?_)
      · have hf := z_t c1 hf
        refine lv_iload_n hx hb d_PT_isAtOrWithin_38 rfl (lv_at hl 3 rfl) ?_
        refine lv_iload_n hx hb d_PT_isAtOrWithin_39 rfl (lv_at hl 2 rfl) ?_
        refine lv_icmp_ne (tgt := 47) hx hb d_PT_isAtOrWithin_40 (by decide) (fun c2 => ?_) (fun c2 => ?_)
        · have hf := z_t c2 hf
          refine lv_iconst (v := (0 : Int32)) hx hb d_PT_isAtOrWithin_47 (by decide) ?_
          obtain rfl := Option.some.inj hf
          exact z_zret hx hb hr (by decide) hP hD hS d_PT_isAtOrWithin_48 hlocks
        · have hf := z_fn c2 hf
          refine lv_iconst (v := (1 : Int32)) hx hb d_PT_isAtOrWithin_43 (by decide) ?_
          refine lv_goto (tgt := 48) hx hb d_PT_isAtOrWithin_44 (by decide) ?_
          obtain rfl := Option.some.inj hf
          exact z_zret hx hb hr (by decide) hP hD hS d_PT_isAtOrWithin_48 hlocks
      · have hf := z_f c1 hf
        refine lv_iload_n hx hb d_PT_isAtOrWithin_12 rfl (lv_at hl 3 rfl) ?_
        refine lv_iload_n hx hb d_PT_isAtOrWithin_13 rfl (lv_at hl 2 rfl) ?_
        refine lv_icmp_le (tgt := 38) hx hb d_PT_isAtOrWithin_14 (by decide) (fun c3 => ?_) (fun c3 => ?_)
        · have hf := z_t c3 hf
          refine lv_iload_n hx hb d_PT_isAtOrWithin_38 rfl (lv_at hl 3 rfl) ?_
          refine lv_iload_n hx hb d_PT_isAtOrWithin_39 rfl (lv_at hl 2 rfl) ?_
          refine lv_icmp_ne (tgt := 47) hx hb d_PT_isAtOrWithin_40 (by decide) (fun c4 => ?_) (fun c4 => ?_)
          · have hf := z_t c4 hf
            refine lv_iconst (v := (0 : Int32)) hx hb d_PT_isAtOrWithin_47 (by decide) ?_
            obtain rfl := Option.some.inj hf
            exact z_zret hx hb hr (by decide) hP hD hS d_PT_isAtOrWithin_48 hlocks
          · have hf := z_fn c4 hf
            refine lv_iconst (v := (1 : Int32)) hx hb d_PT_isAtOrWithin_43 (by decide) ?_
            refine lv_goto (tgt := 48) hx hb d_PT_isAtOrWithin_44 (by decide) ?_
            obtain rfl := Option.some.inj hf
            exact z_zret hx hb hr (by decide) hP hD hS d_PT_isAtOrWithin_48 hlocks
        · have hf := z_f c3 hf
          refine lv_aload_n hx hb d_PT_isAtOrWithin_17 rfl (lv_at hl 0 rfl) ?_
          refine lv_iload_n hx hb d_PT_isAtOrWithin_18 rfl (lv_at hl 3 rfl) ?_
          obtain ⟨u0, hu0, hf⟩ := z_b hf
          have hPc := hP
          have hDc := hD
          have hKc := hK
          refine z_cwi (va_runV (As := [.int x3]) (rest := []) ⟨hx, hb, hml, hown, hts⟩ (c_PT_has l dC dI N a k zouter zcount x3 hu0 H.size) (cwV 1 hts (zGV zsub_c k_1_143 k_1_144 k_1_145 k_1_2 kc_PT_has) rfl rfl rfl (by decide +kernel) ⟨Nat.le_of_ble_eq_true rfl, Nat.le_of_ble_eq_true rfl⟩) ⟨z_bl, va_recv hKc hPc (ci := 0) (q0 := 0) rfl rfl, fun U hU hW => ⟨rfl, z_pre hN hKc hPc hDc U hU hW⟩⟩ rfl rfl hl.1 rfl (lv_room (Nat.le_of_ble_eq_true rfl)) d_PT_isAtOrWithin_19 ⟨Nat.zero_le _, Nat.zero_le _⟩) hD hS hA (fun H locs hP hD hS => ?_)
          refine lv_if_eq (tgt := 38) hx hb d_PT_isAtOrWithin_22 (by decide) (fun c5 => ?_) (fun c5 => ?_)
          · have hf := z_t c5 hf
            refine lv_iload_n hx hb d_PT_isAtOrWithin_38 rfl (lv_at hl 3 rfl) ?_
            refine lv_iload_n hx hb d_PT_isAtOrWithin_39 rfl (lv_at hl 2 rfl) ?_
            refine lv_icmp_ne (tgt := 47) hx hb d_PT_isAtOrWithin_40 (by decide) (fun c6 => ?_) (fun c6 => ?_)
            · have hf := z_t c6 hf
              refine lv_iconst (v := (0 : Int32)) hx hb d_PT_isAtOrWithin_47 (by decide) ?_
              obtain rfl := Option.some.inj hf
              exact z_zret hx hb hr (by decide) hP hD hS d_PT_isAtOrWithin_48 hlocks
            · have hf := z_fn c6 hf
              refine lv_iconst (v := (1 : Int32)) hx hb d_PT_isAtOrWithin_43 (by decide) ?_
              refine lv_goto (tgt := 48) hx hb d_PT_isAtOrWithin_44 (by decide) ?_
              obtain rfl := Option.some.inj hf
              exact z_zret hx hb hr (by decide) hP hD hS d_PT_isAtOrWithin_48 hlocks
          · have hf := z_f c5 hf
            refine lv_aload_n hx hb d_PT_isAtOrWithin_25 rfl (lv_at hl 0 rfl) ?_
            refine va_get (D := (dC, dI)) (ci := 0) (v := .ref (a 1)) (C := R_PT) (T := F_PT) (N := 2) hx hb hts (fun w h => List.mem_cons_of_mem _ (in_PT w h)) hown hK hP 0 rfl rfl 0 (by decide) (hts _ (List.mem_cons_of_mem _ k_1_23)) (fun _ h9 => h9) rfl d_PT_isAtOrWithin_26 ?_
            refine lv_iload_n hx hb d_PT_isAtOrWithin_29 rfl (lv_at hl 3 rfl) ?_
            obtain ⟨g7, hf⟩ := z_gz hf
            refine va_iald hx hb hK hP 1 0 rfl rfl g7 d_PT_isAtOrWithin_30 ?_
            refine lv_istore_n (lv' := [(3, .int (zouter x3.toNatClampNeg)), (0, .ref (a 0)), (1, .int p1), (2, .int p2), (4, .int x4)]) hx hb d_PT_isAtOrWithin_31 rfl hl (by decide) rfl (fun ls hl => ?_)
            refine lv_iinc (v := (x4 + (1 : Int32))) (lv' := [(4, .int (x4 + (1 : Int32))), (3, .int (zouter x3.toNatClampNeg)), (0, .ref (a 0)), (1, .int p1), (2, .int p2)]) hx hb d_PT_isAtOrWithin_32 hl (k := 4) rfl rfl (by decide) rfl (fun ls hl => ?_)
            refine lv_goto (tgt := 5) hx hb d_PT_isAtOrWithin_35 (by decide) ?_
            exact ih5 (zouter x3.toNatClampNeg) (x4 + (1 : Int32)) hf H locs ls hP hD hS (lv_sub hl [2, 3, 4, 1, 0] rfl)
  exact loop5 N p1 (0 : Int32) hf H locs ls hP hD hS (lv_sub hl [2, 3, 4, 1, 0] rfl)
set_option maxHeartbeats 4000000 in
set_option maxRecDepth 100000 in
theorem c_PT_meet (l : Launch) (dC : Nat → ClassId) (dI : Nat → Nat → Nat) (N : Nat) (a : Nat → Nat) (k : Nat → ClassId) (zouter : Nat → Int32) (zcount : Int32) (p1 : Int32) (p2 : Int32) {y : (Int32)} (hf : pf_PT_meet N zouter zcount p1 p2 = some y) (sz : Nat) : Met l y_PT_meet ww_PT_meet ({ frames := 2, cells := 0, slots := 0, locals := 45 }) (va_Pc [.ref (a 0), .int p1, .int p2] (zB (dC, dI) zCl (t_PT k) (w_PT a k zouter zcount) sz)) (zQi (dC, dI) zCl (w_PT a k zouter zcount) sz y (w_PT a k zouter zcount)) 0 0 (va_A (w_PT a k zouter zcount) sz) := by
  refine Met.ofW (cc := b_PT_meet) (maxL := 3) (ret := (some .boolean)) (by decide) rfl ?_
  intro p e s m args below meth c s₁ B hml hv
  obtain ⟨rfl, rfl, hP, hK, hD, hN⟩ := hv
  have hx := B.exec
  have hb := B.bytes
  have hr := B.returns
  have hts := atoms_spec (ws := ww_PT_meet) B.pre
  have hown : s.vm.findClass R_PT = some m.cls := findClass_of_methodNamed B.named
  have hlocks := B.notSynchronized
  have hA : ∀ q : Nat, s.heap.size ≤ q → va_A (w_PT a k zouter zcount) s.heap.size q := fun q h => Or.inr h
  refine z_start (lv := [(0, .ref (a 0)), (1, .int p1), (2, .int p2)]) (Nat.le_of_ble_eq_true rfl) rfl hP hD (fun H locs ls hP hD hS hl => ?_)
  unfold pf_PT_meet at hf
  refine lv_aload_n hx hb d_PT_meet_0 rfl (lv_at hl 0 rfl) ?_
  refine lv_iload_n hx hb d_PT_meet_1 rfl (lv_at hl 1 rfl) ?_
  obtain ⟨u0, hu0, hf⟩ := z_b hf
  have hPc := hP
  have hDc := hD
  have hKc := hK
  refine z_cwi (va_runV (As := [.int p1]) (rest := []) ⟨hx, hb, hml, hown, hts⟩ (c_PT_has l dC dI N a k zouter zcount p1 hu0 H.size) (cwV 1 hts (zGV zsub_c k_1_143 k_1_144 k_1_145 k_1_2 kc_PT_has) rfl rfl rfl (by decide +kernel) ⟨Nat.le_of_ble_eq_true rfl, Nat.le_of_ble_eq_true rfl⟩) ⟨z_bl, va_recv hKc hPc (ci := 0) (q0 := 0) rfl rfl, fun U hU hW => ⟨rfl, z_pre hN hKc hPc hDc U hU hW⟩⟩ rfl rfl hl.1 rfl (lv_room (Nat.le_of_ble_eq_true rfl)) d_PT_meet_2 ⟨Nat.zero_le _, Nat.zero_le _⟩) hD hS hA (fun H locs hP hD hS => ?_)
  refine lv_if_eq (tgt := 38) hx hb d_PT_meet_5 (by decide) (fun c1 => ?_) (fun c1 => ?_)
  · have hf := z_t c1 hf
    refine lv_iconst (v := (0 : Int32)) hx hb d_PT_meet_38 (by decide) ?_
    obtain rfl := Option.some.inj hf
    exact z_zret hx hb hr (by decide) hP hD hS d_PT_meet_39 hlocks
  · have hf := z_f c1 hf
    refine lv_aload_n hx hb d_PT_meet_8 rfl (lv_at hl 0 rfl) ?_
    refine lv_iload_n hx hb d_PT_meet_9 rfl (lv_at hl 2 rfl) ?_
    obtain ⟨u1, hu1, hf⟩ := z_b hf
    have hPc := hP
    have hDc := hD
    have hKc := hK
    refine z_cwi (va_runV (As := [.int p2]) (rest := []) ⟨hx, hb, hml, hown, hts⟩ (c_PT_has l dC dI N a k zouter zcount p2 hu1 H.size) (cwV 1 hts (zGV zsub_c k_1_143 k_1_144 k_1_145 k_1_2 kc_PT_has) rfl rfl rfl (by decide +kernel) ⟨Nat.le_of_ble_eq_true rfl, Nat.le_of_ble_eq_true rfl⟩) ⟨z_bl, va_recv hKc hPc (ci := 0) (q0 := 0) rfl rfl, fun U hU hW => ⟨rfl, z_pre hN hKc hPc hDc U hU hW⟩⟩ rfl rfl hl.1 rfl (lv_room (Nat.le_of_ble_eq_true rfl)) d_PT_meet_10 ⟨Nat.zero_le _, Nat.zero_le _⟩) hD hS hA (fun H locs hP hD hS => ?_)
    refine lv_if_eq (tgt := 38) hx hb d_PT_meet_13 (by decide) (fun c2 => ?_) (fun c2 => ?_)
    · have hf := z_t c2 hf
      refine lv_iconst (v := (0 : Int32)) hx hb d_PT_meet_38 (by decide) ?_
      obtain rfl := Option.some.inj hf
      exact z_zret hx hb hr (by decide) hP hD hS d_PT_meet_39 hlocks
    · have hf := z_f c2 hf
      refine lv_aload_n hx hb d_PT_meet_16 rfl (lv_at hl 0 rfl) ?_
      refine lv_iload_n hx hb d_PT_meet_17 rfl (lv_at hl 1 rfl) ?_
      refine lv_iload_n hx hb d_PT_meet_18 rfl (lv_at hl 2 rfl) ?_
      obtain ⟨u2, hu2, hf⟩ := z_b hf
      have hPc := hP
      have hDc := hD
      have hKc := hK
      refine z_cwi (va_runV (As := [.int p1, .int p2]) (rest := []) ⟨hx, hb, hml, hown, hts⟩ (c_PT_isAtOrWithin l dC dI N a k zouter zcount p1 p2 hu2 H.size) (cwV 2 hts (zGV zsub_c k_1_236 k_1_237 k_1_238 k_1_2 kc_PT_isAtOrWithin) rfl rfl rfl (by decide +kernel) ⟨Nat.le_of_ble_eq_true rfl, Nat.le_of_ble_eq_true rfl⟩) ⟨z_bl, va_recv hKc hPc (ci := 0) (q0 := 0) rfl rfl, fun U hU hW => ⟨rfl, z_pre hN hKc hPc hDc U hU hW⟩⟩ rfl rfl hl.1 rfl (lv_room (Nat.le_of_ble_eq_true rfl)) d_PT_meet_19 ⟨Nat.zero_le _, Nat.zero_le _⟩) hD hS hA (fun H locs hP hD hS => ?_)
      refine lv_if_ne (tgt := 34) hx hb d_PT_meet_22 (by decide) (fun c3 => ?_) (fun c3 => ?_)
      · have hf := z_t c3 hf
        refine lv_iconst (v := (1 : Int32)) hx hb d_PT_meet_34 (by decide) ?_
        refine lv_goto (tgt := 39) hx hb d_PT_meet_35 (by decide) ?_
        obtain rfl := Option.some.inj hf
        exact z_zret hx hb hr (by decide) hP hD hS d_PT_meet_39 hlocks
      · have hf := z_fn c3 hf
        refine lv_aload_n hx hb d_PT_meet_25 rfl (lv_at hl 0 rfl) ?_
        refine lv_iload_n hx hb d_PT_meet_26 rfl (lv_at hl 2 rfl) ?_
        refine lv_iload_n hx hb d_PT_meet_27 rfl (lv_at hl 1 rfl) ?_
        obtain ⟨u3, hu3, hf⟩ := z_b hf
        have hPc := hP
        have hDc := hD
        have hKc := hK
        refine z_cwi (va_runV (As := [.int p2, .int p1]) (rest := []) ⟨hx, hb, hml, hown, hts⟩ (c_PT_isAtOrWithin l dC dI N a k zouter zcount p2 p1 hu3 H.size) (cwV 2 hts (zGV zsub_c k_1_236 k_1_237 k_1_238 k_1_2 kc_PT_isAtOrWithin) rfl rfl rfl (by decide +kernel) ⟨Nat.le_of_ble_eq_true rfl, Nat.le_of_ble_eq_true rfl⟩) ⟨z_bl, va_recv hKc hPc (ci := 0) (q0 := 0) rfl rfl, fun U hU hW => ⟨rfl, z_pre hN hKc hPc hDc U hU hW⟩⟩ rfl rfl hl.1 rfl (lv_room (Nat.le_of_ble_eq_true rfl)) d_PT_meet_28 ⟨Nat.zero_le _, Nat.zero_le _⟩) hD hS hA (fun H locs hP hD hS => ?_)
        refine lv_if_eq (tgt := 38) hx hb d_PT_meet_31 (by decide) (fun c4 => ?_) (fun c4 => ?_)
        · have hf := z_t c4 hf
          refine lv_iconst (v := (0 : Int32)) hx hb d_PT_meet_38 (by decide) ?_
          obtain rfl := Option.some.inj hf
          exact z_zret hx hb hr (by decide) hP hD hS d_PT_meet_39 hlocks
        · have hf := z_f c4 hf
          refine lv_iconst (v := (1 : Int32)) hx hb d_PT_meet_34 (by decide) ?_
          refine lv_goto (tgt := 39) hx hb d_PT_meet_35 (by decide) ?_
          obtain rfl := Option.some.inj hf
          exact z_zret hx hb hr (by decide) hP hD hS d_PT_meet_39 hlocks
set_option maxHeartbeats 4000000 in
set_option maxRecDepth 100000 in
theorem c_SB_isFull (l : Launch) (dC : Nat → ClassId) (dI : Nat → Nat → Nat) (N : Nat) (a : Nat → Nat) (k : Nat → ClassId) (ztargets : Nat → Int32) (zconfigurations : Nat → Int32) (zruns : Nat → Int32) (zopened : Nat → Int32) (zcount : Int32) {y : (Int32)} (hf : pf_SB_isFull N zcount = some y) (sz : Nat) : Met l y_SB_isFull ww_SB_isFull ({ frames := 0, cells := 0, slots := 0, locals := 0 }) (va_Pc [.ref (a 0)] (zB (dC, dI) zCl (t_SB k) (w_SB a k ztargets zconfigurations zruns zopened zcount) sz)) (zQi (dC, dI) zCl (w_SB a k ztargets zconfigurations zruns zopened zcount) sz y (w_SB a k ztargets zconfigurations zruns zopened zcount)) 0 0 (va_A (w_SB a k ztargets zconfigurations zruns zopened zcount) sz) := by
  refine Met.ofW (cc := b_SB_isFull) (maxL := 1) (ret := (some .boolean)) (by decide) rfl ?_
  intro p e s m args below meth c s₁ B hml hv
  obtain ⟨rfl, rfl, hP, hK, hD, hN⟩ := hv
  have hx := B.exec
  have hb := B.bytes
  have hr := B.returns
  have hts := atoms_spec (ws := ww_SB_isFull) B.pre
  have hown : s.vm.findClass R_SB = some m.cls := findClass_of_methodNamed B.named
  have hlocks := B.notSynchronized
  have hA : ∀ q : Nat, s.heap.size ≤ q → va_A (w_SB a k ztargets zconfigurations zruns zopened zcount) s.heap.size q := fun q h => Or.inr h
  refine z_start (lv := [(0, .ref (a 0))]) (Nat.le_of_ble_eq_true rfl) rfl hP hD (fun H locs ls hP hD hS hl => ?_)
  unfold pf_SB_isFull at hf
  refine lv_aload_n hx hb d_SB_isFull_0 rfl (lv_at hl 0 rfl) ?_
  refine va_get (D := (dC, dI)) (ci := 1) (v := .int zcount) (C := R_SB) (T := F_SB) (N := 5) hx hb hts (fun w h => List.mem_cons_of_mem _ (in_SB w h)) hown hK hP 0 rfl rfl 4 (by decide) (hts _ (List.mem_cons_of_mem _ k_1_41)) (fun _ h9 => h9) rfl d_SB_isFull_1 ?_
  refine lv_bipush (v := (nI 80)) hx hb d_SB_isFull_4 (by decide) ?_
  refine lv_icmp_lt (tgt := 13) hx hb d_SB_isFull_6 (by decide) (fun c1 => ?_) (fun c1 => ?_)
  · have hf := z_t c1 hf
    refine lv_iconst (v := (0 : Int32)) hx hb d_SB_isFull_13 (by decide) ?_
    obtain rfl := Option.some.inj hf
    exact z_zret hx hb hr (by decide) hP hD hS d_SB_isFull_14 hlocks
  · have hf := z_f c1 hf
    refine lv_iconst (v := (1 : Int32)) hx hb d_SB_isFull_9 (by decide) ?_
    refine lv_goto (tgt := 14) hx hb d_SB_isFull_10 (by decide) ?_
    obtain rfl := Option.some.inj hf
    exact z_zret hx hb hr (by decide) hP hD hS d_SB_isFull_14 hlocks
set_option maxHeartbeats 4000000 in
set_option maxRecDepth 100000 in
theorem c_SB_has (l : Launch) (dC : Nat → ClassId) (dI : Nat → Nat → Nat) (N : Nat) (a : Nat → Nat) (k : Nat → ClassId) (ztargets : Nat → Int32) (zconfigurations : Nat → Int32) (zruns : Nat → Int32) (zopened : Nat → Int32) (zcount : Int32) (p1 : Int32) {y : (Int32)} (hf : pf_SB_has N zcount p1 = some y) (sz : Nat) : Met l y_SB_has ww_SB_has ({ frames := 0, cells := 0, slots := 0, locals := 0 }) (va_Pc [.ref (a 0), .int p1] (zB (dC, dI) zCl (t_SB k) (w_SB a k ztargets zconfigurations zruns zopened zcount) sz)) (zQi (dC, dI) zCl (w_SB a k ztargets zconfigurations zruns zopened zcount) sz y (w_SB a k ztargets zconfigurations zruns zopened zcount)) 0 0 (va_A (w_SB a k ztargets zconfigurations zruns zopened zcount) sz) := by
  refine Met.ofW (cc := b_SB_has) (maxL := 2) (ret := (some .boolean)) (by decide) rfl ?_
  intro p e s m args below meth c s₁ B hml hv
  obtain ⟨rfl, rfl, hP, hK, hD, hN⟩ := hv
  have hx := B.exec
  have hb := B.bytes
  have hr := B.returns
  have hts := atoms_spec (ws := ww_SB_has) B.pre
  have hown : s.vm.findClass R_SB = some m.cls := findClass_of_methodNamed B.named
  have hlocks := B.notSynchronized
  have hA : ∀ q : Nat, s.heap.size ≤ q → va_A (w_SB a k ztargets zconfigurations zruns zopened zcount) s.heap.size q := fun q h => Or.inr h
  refine z_start (lv := [(0, .ref (a 0)), (1, .int p1)]) (Nat.le_of_ble_eq_true rfl) rfl hP hD (fun H locs ls hP hD hS hl => ?_)
  unfold pf_SB_has at hf
  refine lv_iload_n hx hb d_SB_has_0 rfl (lv_at hl 1 rfl) ?_
  refine lv_if_lt (tgt := 16) hx hb d_SB_has_1 (by decide) (fun c1 => ?_) (fun c1 => ?_)
  · have hf := z_t c1 hf
    refine lv_iconst (v := (0 : Int32)) hx hb d_SB_has_16 (by decide) ?_
    obtain rfl := Option.some.inj hf
    exact z_zret hx hb hr (by decide) hP hD hS d_SB_has_17 hlocks
  · have hf := z_f c1 hf
    refine lv_iload_n hx hb d_SB_has_4 rfl (lv_at hl 1 rfl) ?_
    refine lv_aload_n hx hb d_SB_has_5 rfl (lv_at hl 0 rfl) ?_
    refine va_get (D := (dC, dI)) (ci := 1) (v := .int zcount) (C := R_SB) (T := F_SB) (N := 5) hx hb hts (fun w h => List.mem_cons_of_mem _ (in_SB w h)) hown hK hP 0 rfl rfl 4 (by decide) (hts _ (List.mem_cons_of_mem _ k_1_41)) (fun _ h9 => h9) rfl d_SB_has_6 ?_
    refine lv_icmp_ge (tgt := 16) hx hb d_SB_has_9 (by decide) (fun c2 => ?_) (fun c2 => ?_)
    · have hf := z_t c2 hf
      refine lv_iconst (v := (0 : Int32)) hx hb d_SB_has_16 (by decide) ?_
      obtain rfl := Option.some.inj hf
      exact z_zret hx hb hr (by decide) hP hD hS d_SB_has_17 hlocks
    · have hf := z_f c2 hf
      refine lv_iconst (v := (1 : Int32)) hx hb d_SB_has_12 (by decide) ?_
      refine lv_goto (tgt := 17) hx hb d_SB_has_13 (by decide) ?_
      obtain rfl := Option.some.inj hf
      exact z_zret hx hb hr (by decide) hP hD hS d_SB_has_17 hlocks
set_option maxHeartbeats 4000000 in
set_option maxRecDepth 100000 in
theorem c_SB_isOpen (l : Launch) (dC : Nat → ClassId) (dI : Nat → Nat → Nat) (N : Nat) (a : Nat → Nat) (k : Nat → ClassId) (ztargets : Nat → Int32) (zconfigurations : Nat → Int32) (zruns : Nat → Int32) (zopened : Nat → Int32) (zcount : Int32) (p1 : Int32) {y : (Int32)} (hf : pf_SB_isOpen N zopened zcount p1 = some y) (sz : Nat) : Met l y_SB_isOpen ww_SB_isOpen ({ frames := 1, cells := 0, slots := 0, locals := 21 }) (va_Pc [.ref (a 0), .int p1] (zB (dC, dI) zCl (t_SB k) (w_SB a k ztargets zconfigurations zruns zopened zcount) sz)) (zQi (dC, dI) zCl (w_SB a k ztargets zconfigurations zruns zopened zcount) sz y (w_SB a k ztargets zconfigurations zruns zopened zcount)) 0 0 (va_A (w_SB a k ztargets zconfigurations zruns zopened zcount) sz) := by
  refine Met.ofW (cc := b_SB_isOpen) (maxL := 2) (ret := (some .boolean)) (by decide) rfl ?_
  intro p e s m args below meth c s₁ B hml hv
  obtain ⟨rfl, rfl, hP, hK, hD, hN⟩ := hv
  have hx := B.exec
  have hb := B.bytes
  have hr := B.returns
  have hts := atoms_spec (ws := ww_SB_isOpen) B.pre
  have hown : s.vm.findClass R_SB = some m.cls := findClass_of_methodNamed B.named
  have hlocks := B.notSynchronized
  have hA : ∀ q : Nat, s.heap.size ≤ q → va_A (w_SB a k ztargets zconfigurations zruns zopened zcount) s.heap.size q := fun q h => Or.inr h
  refine z_start (lv := [(0, .ref (a 0)), (1, .int p1)]) (Nat.le_of_ble_eq_true rfl) rfl hP hD (fun H locs ls hP hD hS hl => ?_)
  unfold pf_SB_isOpen at hf
  refine lv_aload_n hx hb d_SB_isOpen_0 rfl (lv_at hl 0 rfl) ?_
  refine lv_iload_n hx hb d_SB_isOpen_1 rfl (lv_at hl 1 rfl) ?_
  obtain ⟨u0, hu0, hf⟩ := z_b hf
  have hPc := hP
  have hDc := hD
  have hKc := hK
  refine z_cwi (va_runV (As := [.int p1]) (rest := []) ⟨hx, hb, hml, hown, hts⟩ (c_SB_has l dC dI N a k ztargets zconfigurations zruns zopened zcount p1 hu0 H.size) (cwV 1 hts (zGV zsub_c k_1_172 k_1_173 k_1_174 k_1_3 kc_SB_has) rfl rfl rfl (by decide +kernel) ⟨Nat.le_of_ble_eq_true rfl, Nat.le_of_ble_eq_true rfl⟩) ⟨z_bl, va_recv hKc hPc (ci := 1) (q0 := 0) rfl rfl, fun U hU hW => ⟨rfl, z_pre hN hKc hPc hDc U hU hW⟩⟩ rfl rfl hl.1 rfl (lv_room (Nat.le_of_ble_eq_true rfl)) d_SB_isOpen_2 ⟨Nat.zero_le _, Nat.zero_le _⟩) hD hS hA (fun H locs hP hD hS => ?_)
  refine lv_if_eq (tgt := 21) hx hb d_SB_isOpen_5 (by decide) (fun c1 => ?_) (fun c1 => ?_)
  · have hf := z_t c1 hf
    refine lv_iconst (v := (0 : Int32)) hx hb d_SB_isOpen_21 (by decide) ?_
    obtain rfl := Option.some.inj hf
    exact z_zret hx hb hr (by decide) hP hD hS d_SB_isOpen_22 hlocks
  · have hf := z_f c1 hf
    refine lv_aload_n hx hb d_SB_isOpen_8 rfl (lv_at hl 0 rfl) ?_
    refine va_get (D := (dC, dI)) (ci := 1) (v := .ref (a 4)) (C := R_SB) (T := F_SB) (N := 5) hx hb hts (fun w h => List.mem_cons_of_mem _ (in_SB w h)) hown hK hP 0 rfl rfl 3 (by decide) (hts _ (List.mem_cons_of_mem _ k_1_40)) (fun _ h9 => h9) rfl d_SB_isOpen_9 ?_
    refine lv_iload_n hx hb d_SB_isOpen_12 rfl (lv_at hl 1 rfl) ?_
    obtain ⟨g2, hf⟩ := z_gz hf
    refine va_zald hx hb hK hP 4 3 rfl rfl g2 d_SB_isOpen_13 ?_
    refine lv_if_eq (tgt := 21) hx hb d_SB_isOpen_14 (by decide) (fun c3 => ?_) (fun c3 => ?_)
    · have hf := z_t c3 hf
      refine lv_iconst (v := (0 : Int32)) hx hb d_SB_isOpen_21 (by decide) ?_
      obtain rfl := Option.some.inj hf
      exact z_zret hx hb hr (by decide) hP hD hS d_SB_isOpen_22 hlocks
    · have hf := z_f c3 hf
      refine lv_iconst (v := (1 : Int32)) hx hb d_SB_isOpen_17 (by decide) ?_
      refine lv_goto (tgt := 22) hx hb d_SB_isOpen_18 (by decide) ?_
      obtain rfl := Option.some.inj hf
      exact z_zret hx hb hr (by decide) hP hD hS d_SB_isOpen_22 hlocks
set_option maxHeartbeats 4000000 in
set_option maxRecDepth 100000 in
theorem c_SB_open (l : Launch) (dC : Nat → ClassId) (dI : Nat → Nat → Nat) (N : Nat) (a : Nat → Nat) (k : Nat → ClassId) (ztargets : Nat → Int32) (zconfigurations : Nat → Int32) (zruns : Nat → Int32) (zopened : Nat → Int32) (zcount : Int32) (p1 : Int32) (p2 : Int32) (p3 : Int32) {y : (Int32 × (Nat → Int32) × (Nat → Int32) × (Nat → Int32) × (Nat → Int32) × Int32)} (hf : pf_SB_open N ztargets zconfigurations zruns zopened zcount p1 p2 p3 = some y) (sz : Nat) : Met l y_SB_open ww_SB_open ({ frames := 1, cells := 0, slots := 0, locals := 20 }) (va_Pc [.ref (a 0), .int p1, .int p2, .int p3] (zB (dC, dI) zCl (t_SB k) (w_SB a k ztargets zconfigurations zruns zopened zcount) sz)) (zQi (dC, dI) zCl (w_SB a k ztargets zconfigurations zruns zopened zcount) sz y.1 (w_SB a k y.2.1 y.2.2.1 y.2.2.2.1 y.2.2.2.2.1 y.2.2.2.2.2)) 0 0 (va_A (w_SB a k ztargets zconfigurations zruns zopened zcount) sz) := by
  refine Met.ofW (cc := b_SB_open) (maxL := 4) (ret := (some .int)) (by decide) rfl ?_
  intro p e s m args below meth c s₁ B hml hv
  obtain ⟨rfl, rfl, hP, hK, hD, hN⟩ := hv
  have hx := B.exec
  have hb := B.bytes
  have hr := B.returns
  have hts := atoms_spec (ws := ww_SB_open) B.pre
  have hown : s.vm.findClass R_SB = some m.cls := findClass_of_methodNamed B.named
  have hlocks := B.notSynchronized
  have hA : ∀ q : Nat, s.heap.size ≤ q → va_A (w_SB a k ztargets zconfigurations zruns zopened zcount) s.heap.size q := fun q h => Or.inr h
  refine z_start (lv := [(0, .ref (a 0)), (1, .int p1), (2, .int p2), (3, .int p3)]) (Nat.le_of_ble_eq_true rfl) rfl hP hD (fun H locs ls hP hD hS hl => ?_)
  unfold pf_SB_open at hf
  refine lv_aload_n hx hb d_SB_open_0 rfl (lv_at hl 0 rfl) ?_
  obtain ⟨u0, hu0, hf⟩ := z_b hf
  have hPc := hP
  have hDc := hD
  have hKc := hK
  refine z_cwi (va_runV (As := []) (rest := []) ⟨hx, hb, hml, hown, hts⟩ (c_SB_isFull l dC dI N a k ztargets zconfigurations zruns zopened zcount hu0 H.size) (cwV 0 hts (zGV zsub_c k_1_180 k_1_161 k_1_162 k_1_3 kc_SB_isFull) rfl rfl rfl (by decide +kernel) ⟨Nat.le_of_ble_eq_true rfl, Nat.le_of_ble_eq_true rfl⟩) ⟨z_bl, va_recv hKc hPc (ci := 1) (q0 := 0) rfl rfl, fun U hU hW => ⟨rfl, z_pre hN hKc hPc hDc U hU hW⟩⟩ rfl rfl hl.1 rfl (lv_room (Nat.le_of_ble_eq_true rfl)) d_SB_open_1 ⟨Nat.zero_le _, Nat.zero_le _⟩) hD hS hA (fun H locs hP hD hS => ?_)
  refine lv_if_eq (tgt := 9) hx hb d_SB_open_4 (by decide) (fun c1 => ?_) (fun c1 => ?_)
  · have hf := z_t c1 hf
    refine lv_aload_n hx hb d_SB_open_9 rfl (lv_at hl 0 rfl) ?_
    refine va_get (D := (dC, dI)) (ci := 1) (v := .ref (a 1)) (C := R_SB) (T := F_SB) (N := 5) hx hb hts (fun w h => List.mem_cons_of_mem _ (in_SB w h)) hown hK hP 0 rfl rfl 0 (by decide) (hts _ (List.mem_cons_of_mem _ k_1_37)) (fun _ h9 => h9) rfl d_SB_open_10 ?_
    refine lv_aload_n hx hb d_SB_open_13 rfl (lv_at hl 0 rfl) ?_
    refine va_get (D := (dC, dI)) (ci := 1) (v := .int zcount) (C := R_SB) (T := F_SB) (N := 5) hx hb hts (fun w h => List.mem_cons_of_mem _ (in_SB w h)) hown hK hP 0 rfl rfl 4 (by decide) (hts _ (List.mem_cons_of_mem _ k_1_41)) (fun _ h9 => h9) rfl d_SB_open_14 ?_
    refine lv_iload_n hx hb d_SB_open_17 rfl (lv_at hl 1 rfl) ?_
    obtain ⟨g2, hf⟩ := z_gz hf
    refine va_iast hx hb hK hP hD hS 1 0 rfl rfl g2 d_SB_open_18 (fun H locs hP hD hS => ?_)
    have hP : va_P (dC, dI) zCl (w_SB a k (upd ztargets zcount.toNatClampNeg p1) zconfigurations zruns zopened zcount) H := hP
    have hD : va_D _ (w_SB a k (upd ztargets zcount.toNatClampNeg p1) zconfigurations zruns zopened zcount) := hD
    refine lv_aload_n hx hb d_SB_open_19 rfl (lv_at hl 0 rfl) ?_
    refine va_get (D := (dC, dI)) (ci := 1) (v := .ref (a 2)) (C := R_SB) (T := F_SB) (N := 5) hx hb hts (fun w h => List.mem_cons_of_mem _ (in_SB w h)) hown hK hP 0 rfl rfl 1 (by decide) (hts _ (List.mem_cons_of_mem _ k_1_38)) (fun _ h9 => h9) rfl d_SB_open_20 ?_
    refine lv_aload_n hx hb d_SB_open_23 rfl (lv_at hl 0 rfl) ?_
    refine va_get (D := (dC, dI)) (ci := 1) (v := .int zcount) (C := R_SB) (T := F_SB) (N := 5) hx hb hts (fun w h => List.mem_cons_of_mem _ (in_SB w h)) hown hK hP 0 rfl rfl 4 (by decide) (hts _ (List.mem_cons_of_mem _ k_1_41)) (fun _ h9 => h9) rfl d_SB_open_24 ?_
    refine lv_iload_n hx hb d_SB_open_27 rfl (lv_at hl 2 rfl) ?_
    obtain ⟨g3, hf⟩ := z_gz hf
    refine va_iast hx hb hK hP hD hS 2 1 rfl rfl g3 d_SB_open_28 (fun H locs hP hD hS => ?_)
    have hP : va_P (dC, dI) zCl (w_SB a k (upd ztargets zcount.toNatClampNeg p1) (upd zconfigurations zcount.toNatClampNeg p2) zruns zopened zcount) H := hP
    have hD : va_D _ (w_SB a k (upd ztargets zcount.toNatClampNeg p1) (upd zconfigurations zcount.toNatClampNeg p2) zruns zopened zcount) := hD
    refine lv_aload_n hx hb d_SB_open_29 rfl (lv_at hl 0 rfl) ?_
    refine va_get (D := (dC, dI)) (ci := 1) (v := .ref (a 3)) (C := R_SB) (T := F_SB) (N := 5) hx hb hts (fun w h => List.mem_cons_of_mem _ (in_SB w h)) hown hK hP 0 rfl rfl 2 (by decide) (hts _ (List.mem_cons_of_mem _ k_1_39)) (fun _ h9 => h9) rfl d_SB_open_30 ?_
    refine lv_aload_n hx hb d_SB_open_33 rfl (lv_at hl 0 rfl) ?_
    refine va_get (D := (dC, dI)) (ci := 1) (v := .int zcount) (C := R_SB) (T := F_SB) (N := 5) hx hb hts (fun w h => List.mem_cons_of_mem _ (in_SB w h)) hown hK hP 0 rfl rfl 4 (by decide) (hts _ (List.mem_cons_of_mem _ k_1_41)) (fun _ h9 => h9) rfl d_SB_open_34 ?_
    refine lv_iload_n hx hb d_SB_open_37 rfl (lv_at hl 3 rfl) ?_
    obtain ⟨g4, hf⟩ := z_gz hf
    refine va_iast hx hb hK hP hD hS 3 2 rfl rfl g4 d_SB_open_38 (fun H locs hP hD hS => ?_)
    have hP : va_P (dC, dI) zCl (w_SB a k (upd ztargets zcount.toNatClampNeg p1) (upd zconfigurations zcount.toNatClampNeg p2) (upd zruns zcount.toNatClampNeg p3) zopened zcount) H := hP
    have hD : va_D _ (w_SB a k (upd ztargets zcount.toNatClampNeg p1) (upd zconfigurations zcount.toNatClampNeg p2) (upd zruns zcount.toNatClampNeg p3) zopened zcount) := hD
    refine lv_aload_n hx hb d_SB_open_39 rfl (lv_at hl 0 rfl) ?_
    refine va_get (D := (dC, dI)) (ci := 1) (v := .ref (a 4)) (C := R_SB) (T := F_SB) (N := 5) hx hb hts (fun w h => List.mem_cons_of_mem _ (in_SB w h)) hown hK hP 0 rfl rfl 3 (by decide) (hts _ (List.mem_cons_of_mem _ k_1_40)) (fun _ h9 => h9) rfl d_SB_open_40 ?_
    refine lv_aload_n hx hb d_SB_open_43 rfl (lv_at hl 0 rfl) ?_
    refine va_get (D := (dC, dI)) (ci := 1) (v := .int zcount) (C := R_SB) (T := F_SB) (N := 5) hx hb hts (fun w h => List.mem_cons_of_mem _ (in_SB w h)) hown hK hP 0 rfl rfl 4 (by decide) (hts _ (List.mem_cons_of_mem _ k_1_41)) (fun _ h9 => h9) rfl d_SB_open_44 ?_
    refine lv_iconst (v := (1 : Int32)) hx hb d_SB_open_47 (by decide) ?_
    obtain ⟨g5, hf⟩ := z_gz hf
    refine va_zast hx hb hK hP hD hS 4 3 rfl rfl g5 d_SB_open_48 (fun H locs hP hD hS => ?_)
    have hP : va_P (dC, dI) zCl (w_SB a k (upd ztargets zcount.toNatClampNeg p1) (upd zconfigurations zcount.toNatClampNeg p2) (upd zruns zcount.toNatClampNeg p3) (upd zopened zcount.toNatClampNeg (vp_nar .boolean (1 : Int32))) zcount) H := hP
    have hD : va_D _ (w_SB a k (upd ztargets zcount.toNatClampNeg p1) (upd zconfigurations zcount.toNatClampNeg p2) (upd zruns zcount.toNatClampNeg p3) (upd zopened zcount.toNatClampNeg (vp_nar .boolean (1 : Int32))) zcount) := hD
    refine lv_aload_n hx hb d_SB_open_49 rfl (lv_at hl 0 rfl) ?_
    refine lv_dup hx hb d_SB_open_50 rfl ?_
    refine va_get (D := (dC, dI)) (ci := 1) (v := .int zcount) (C := R_SB) (T := F_SB) (N := 5) hx hb hts (fun w h => List.mem_cons_of_mem _ (in_SB w h)) hown hK hP 0 rfl rfl 4 (by decide) (hts _ (List.mem_cons_of_mem _ k_1_41)) (fun _ h9 => h9) rfl d_SB_open_51 ?_
    refine lv_iconst (v := (1 : Int32)) hx hb d_SB_open_54 (by decide) ?_
    refine lv_iadd hx hb d_SB_open_55 ?_
    refine va_put (D := (dC, dI)) (ci := 1) (v := .int (zcount + (1 : Int32))) (ty := .int) (C := R_SB) (T := F_SB) (N := 5) hx hb hts (fun w h => List.mem_cons_of_mem _ (in_SB w h)) ty_SB ty_SB_ok nm_SB hown hK hP hD hS 0 rfl rfl 4 (by decide) (hts _ (List.mem_cons_of_mem _ k_1_41)) (fun _ h9 => h9) rfl (by decide +kernel) rfl rfl (Nat.le_of_ble_eq_true rfl) d_SB_open_56 (fun H locs hP hD hS => ?_)
    have hP : va_P (dC, dI) zCl (w_SB a k (upd ztargets zcount.toNatClampNeg p1) (upd zconfigurations zcount.toNatClampNeg p2) (upd zruns zcount.toNatClampNeg p3) (upd zopened zcount.toNatClampNeg (vp_nar .boolean (1 : Int32))) (zcount + (1 : Int32))) H := hP
    have hD : va_D _ (w_SB a k (upd ztargets zcount.toNatClampNeg p1) (upd zconfigurations zcount.toNatClampNeg p2) (upd zruns zcount.toNatClampNeg p3) (upd zopened zcount.toNatClampNeg (vp_nar .boolean (1 : Int32))) (zcount + (1 : Int32))) := hD
    refine lv_aload_n hx hb d_SB_open_59 rfl (lv_at hl 0 rfl) ?_
    refine va_get (D := (dC, dI)) (ci := 1) (v := .int (zcount + (1 : Int32))) (C := R_SB) (T := F_SB) (N := 5) hx hb hts (fun w h => List.mem_cons_of_mem _ (in_SB w h)) hown hK hP 0 rfl rfl 4 (by decide) (hts _ (List.mem_cons_of_mem _ k_1_41)) (fun _ h9 => h9) rfl d_SB_open_60 ?_
    refine lv_iconst (v := (1 : Int32)) hx hb d_SB_open_63 (by decide) ?_
    refine lv_isub hx hb d_SB_open_64 ?_
    obtain rfl := Option.some.inj hf
    exact z_iret hx hb hr hP hD hS d_SB_open_65 hlocks
  · have hf := z_f c1 hf
    refine lv_iconst (v := (-1 : Int32)) hx hb d_SB_open_7 (by decide) ?_
    obtain rfl := Option.some.inj hf
    exact z_iret hx hb hr hP hD hS d_SB_open_8 hlocks
set_option maxHeartbeats 4000000 in
set_option maxRecDepth 100000 in
theorem c_SB_close (l : Launch) (dC : Nat → ClassId) (dI : Nat → Nat → Nat) (N : Nat) (a : Nat → Nat) (k : Nat → ClassId) (ztargets : Nat → Int32) (zconfigurations : Nat → Int32) (zruns : Nat → Int32) (zopened : Nat → Int32) (zcount : Int32) (p1 : Int32) {y : ((Nat → Int32))} (hf : pf_SB_close N zopened zcount p1 = some y) (sz : Nat) : Met l y_SB_close ww_SB_close ({ frames := 1, cells := 0, slots := 0, locals := 21 }) (va_Pc [.ref (a 0), .int p1] (zB (dC, dI) zCl (t_SB k) (w_SB a k ztargets zconfigurations zruns zopened zcount) sz)) (zQv (dC, dI) zCl (w_SB a k ztargets zconfigurations zruns zopened zcount) sz (w_SB a k ztargets zconfigurations zruns y zcount)) 0 0 (va_A (w_SB a k ztargets zconfigurations zruns zopened zcount) sz) := by
  refine Met.ofW (cc := b_SB_close) (maxL := 2) (ret := none) (by decide) rfl ?_
  intro p e s m args below meth c s₁ B hml hv
  obtain ⟨rfl, rfl, hP, hK, hD, hN⟩ := hv
  have hx := B.exec
  have hb := B.bytes
  have hr := B.returns
  have hts := atoms_spec (ws := ww_SB_close) B.pre
  have hown : s.vm.findClass R_SB = some m.cls := findClass_of_methodNamed B.named
  have hlocks := B.notSynchronized
  have hA : ∀ q : Nat, s.heap.size ≤ q → va_A (w_SB a k ztargets zconfigurations zruns zopened zcount) s.heap.size q := fun q h => Or.inr h
  refine z_start (lv := [(0, .ref (a 0)), (1, .int p1)]) (Nat.le_of_ble_eq_true rfl) rfl hP hD (fun H locs ls hP hD hS hl => ?_)
  unfold pf_SB_close at hf
  refine lv_aload_n hx hb d_SB_close_0 rfl (lv_at hl 0 rfl) ?_
  refine lv_iload_n hx hb d_SB_close_1 rfl (lv_at hl 1 rfl) ?_
  obtain ⟨u0, hu0, hf⟩ := z_b hf
  have hPc := hP
  have hDc := hD
  have hKc := hK
  refine z_cwi (va_runV (As := [.int p1]) (rest := []) ⟨hx, hb, hml, hown, hts⟩ (c_SB_has l dC dI N a k ztargets zconfigurations zruns zopened zcount p1 hu0 H.size) (cwV 1 hts (zGV zsub_c k_1_172 k_1_173 k_1_174 k_1_3 kc_SB_has) rfl rfl rfl (by decide +kernel) ⟨Nat.le_of_ble_eq_true rfl, Nat.le_of_ble_eq_true rfl⟩) ⟨z_bl, va_recv hKc hPc (ci := 1) (q0 := 0) rfl rfl, fun U hU hW => ⟨rfl, z_pre hN hKc hPc hDc U hU hW⟩⟩ rfl rfl hl.1 rfl (lv_room (Nat.le_of_ble_eq_true rfl)) d_SB_close_2 ⟨Nat.zero_le _, Nat.zero_le _⟩) hD hS hA (fun H locs hP hD hS => ?_)
  refine lv_if_eq (tgt := 15) hx hb d_SB_close_5 (by decide) (fun c1 => ?_) (fun c1 => ?_)
  · have hf := z_t c1 hf
    obtain rfl := Option.some.inj hf
    exact z_vret hx hb hr hP hD hS d_SB_close_15 hlocks
  · have hf := z_f c1 hf
    refine lv_aload_n hx hb d_SB_close_8 rfl (lv_at hl 0 rfl) ?_
    refine va_get (D := (dC, dI)) (ci := 1) (v := .ref (a 4)) (C := R_SB) (T := F_SB) (N := 5) hx hb hts (fun w h => List.mem_cons_of_mem _ (in_SB w h)) hown hK hP 0 rfl rfl 3 (by decide) (hts _ (List.mem_cons_of_mem _ k_1_40)) (fun _ h9 => h9) rfl d_SB_close_9 ?_
    refine lv_iload_n hx hb d_SB_close_12 rfl (lv_at hl 1 rfl) ?_
    refine lv_iconst (v := (0 : Int32)) hx hb d_SB_close_13 (by decide) ?_
    obtain ⟨g2, hf⟩ := z_gz hf
    refine va_zast hx hb hK hP hD hS 4 3 rfl rfl g2 d_SB_close_14 (fun H locs hP hD hS => ?_)
    have hP : va_P (dC, dI) zCl (w_SB a k ztargets zconfigurations zruns (upd zopened p1.toNatClampNeg (vp_nar .boolean (0 : Int32))) zcount) H := hP
    have hD : va_D _ (w_SB a k ztargets zconfigurations zruns (upd zopened p1.toNatClampNeg (vp_nar .boolean (0 : Int32))) zcount) := hD
    obtain rfl := Option.some.inj hf
    exact z_vret hx hb hr hP hD hS d_SB_close_15 hlocks
set_option maxHeartbeats 4000000 in
set_option maxRecDepth 100000 in
theorem c_SB_targetOf (l : Launch) (dC : Nat → ClassId) (dI : Nat → Nat → Nat) (N : Nat) (a : Nat → Nat) (k : Nat → ClassId) (ztargets : Nat → Int32) (zconfigurations : Nat → Int32) (zruns : Nat → Int32) (zopened : Nat → Int32) (zcount : Int32) (p1 : Int32) {y : (Int32)} (hf : pf_SB_targetOf N ztargets zcount p1 = some y) (sz : Nat) : Met l y_SB_targetOf ww_SB_targetOf ({ frames := 1, cells := 0, slots := 0, locals := 21 }) (va_Pc [.ref (a 0), .int p1] (zB (dC, dI) zCl (t_SB k) (w_SB a k ztargets zconfigurations zruns zopened zcount) sz)) (zQi (dC, dI) zCl (w_SB a k ztargets zconfigurations zruns zopened zcount) sz y (w_SB a k ztargets zconfigurations zruns zopened zcount)) 0 0 (va_A (w_SB a k ztargets zconfigurations zruns zopened zcount) sz) := by
  refine Met.ofW (cc := b_SB_targetOf) (maxL := 2) (ret := (some .int)) (by decide) rfl ?_
  intro p e s m args below meth c s₁ B hml hv
  obtain ⟨rfl, rfl, hP, hK, hD, hN⟩ := hv
  have hx := B.exec
  have hb := B.bytes
  have hr := B.returns
  have hts := atoms_spec (ws := ww_SB_targetOf) B.pre
  have hown : s.vm.findClass R_SB = some m.cls := findClass_of_methodNamed B.named
  have hlocks := B.notSynchronized
  have hA : ∀ q : Nat, s.heap.size ≤ q → va_A (w_SB a k ztargets zconfigurations zruns zopened zcount) s.heap.size q := fun q h => Or.inr h
  refine z_start (lv := [(0, .ref (a 0)), (1, .int p1)]) (Nat.le_of_ble_eq_true rfl) rfl hP hD (fun H locs ls hP hD hS hl => ?_)
  unfold pf_SB_targetOf at hf
  refine lv_aload_n hx hb d_SB_targetOf_0 rfl (lv_at hl 0 rfl) ?_
  refine lv_iload_n hx hb d_SB_targetOf_1 rfl (lv_at hl 1 rfl) ?_
  obtain ⟨u0, hu0, hf⟩ := z_b hf
  have hPc := hP
  have hDc := hD
  have hKc := hK
  refine z_cwi (va_runV (As := [.int p1]) (rest := []) ⟨hx, hb, hml, hown, hts⟩ (c_SB_has l dC dI N a k ztargets zconfigurations zruns zopened zcount p1 hu0 H.size) (cwV 1 hts (zGV zsub_c k_1_172 k_1_173 k_1_174 k_1_3 kc_SB_has) rfl rfl rfl (by decide +kernel) ⟨Nat.le_of_ble_eq_true rfl, Nat.le_of_ble_eq_true rfl⟩) ⟨z_bl, va_recv hKc hPc (ci := 1) (q0 := 0) rfl rfl, fun U hU hW => ⟨rfl, z_pre hN hKc hPc hDc U hU hW⟩⟩ rfl rfl hl.1 rfl (lv_room (Nat.le_of_ble_eq_true rfl)) d_SB_targetOf_2 ⟨Nat.zero_le _, Nat.zero_le _⟩) hD hS hA (fun H locs hP hD hS => ?_)
  refine lv_if_eq (tgt := 17) hx hb d_SB_targetOf_5 (by decide) (fun c1 => ?_) (fun c1 => ?_)
  · have hf := z_t c1 hf
    refine lv_iconst (v := (-1 : Int32)) hx hb d_SB_targetOf_17 (by decide) ?_
    obtain rfl := Option.some.inj hf
    exact z_iret hx hb hr hP hD hS d_SB_targetOf_18 hlocks
  · have hf := z_f c1 hf
    refine lv_aload_n hx hb d_SB_targetOf_8 rfl (lv_at hl 0 rfl) ?_
    refine va_get (D := (dC, dI)) (ci := 1) (v := .ref (a 1)) (C := R_SB) (T := F_SB) (N := 5) hx hb hts (fun w h => List.mem_cons_of_mem _ (in_SB w h)) hown hK hP 0 rfl rfl 0 (by decide) (hts _ (List.mem_cons_of_mem _ k_1_37)) (fun _ h9 => h9) rfl d_SB_targetOf_9 ?_
    refine lv_iload_n hx hb d_SB_targetOf_12 rfl (lv_at hl 1 rfl) ?_
    obtain ⟨g2, hf⟩ := z_gz hf
    refine va_iald hx hb hK hP 1 0 rfl rfl g2 d_SB_targetOf_13 ?_
    refine lv_goto (tgt := 18) hx hb d_SB_targetOf_14 (by decide) ?_
    obtain rfl := Option.some.inj hf
    exact z_iret hx hb hr hP hD hS d_SB_targetOf_18 hlocks
set_option maxHeartbeats 4000000 in
set_option maxRecDepth 100000 in
theorem c_SB_configurationOf (l : Launch) (dC : Nat → ClassId) (dI : Nat → Nat → Nat) (N : Nat) (a : Nat → Nat) (k : Nat → ClassId) (ztargets : Nat → Int32) (zconfigurations : Nat → Int32) (zruns : Nat → Int32) (zopened : Nat → Int32) (zcount : Int32) (p1 : Int32) {y : (Int32)} (hf : pf_SB_configurationOf N zconfigurations zcount p1 = some y) (sz : Nat) : Met l y_SB_configurationOf ww_SB_configurationOf ({ frames := 1, cells := 0, slots := 0, locals := 21 }) (va_Pc [.ref (a 0), .int p1] (zB (dC, dI) zCl (t_SB k) (w_SB a k ztargets zconfigurations zruns zopened zcount) sz)) (zQi (dC, dI) zCl (w_SB a k ztargets zconfigurations zruns zopened zcount) sz y (w_SB a k ztargets zconfigurations zruns zopened zcount)) 0 0 (va_A (w_SB a k ztargets zconfigurations zruns zopened zcount) sz) := by
  refine Met.ofW (cc := b_SB_configurationOf) (maxL := 2) (ret := (some .int)) (by decide) rfl ?_
  intro p e s m args below meth c s₁ B hml hv
  obtain ⟨rfl, rfl, hP, hK, hD, hN⟩ := hv
  have hx := B.exec
  have hb := B.bytes
  have hr := B.returns
  have hts := atoms_spec (ws := ww_SB_configurationOf) B.pre
  have hown : s.vm.findClass R_SB = some m.cls := findClass_of_methodNamed B.named
  have hlocks := B.notSynchronized
  have hA : ∀ q : Nat, s.heap.size ≤ q → va_A (w_SB a k ztargets zconfigurations zruns zopened zcount) s.heap.size q := fun q h => Or.inr h
  refine z_start (lv := [(0, .ref (a 0)), (1, .int p1)]) (Nat.le_of_ble_eq_true rfl) rfl hP hD (fun H locs ls hP hD hS hl => ?_)
  unfold pf_SB_configurationOf at hf
  refine lv_aload_n hx hb d_SB_configurationOf_0 rfl (lv_at hl 0 rfl) ?_
  refine lv_iload_n hx hb d_SB_configurationOf_1 rfl (lv_at hl 1 rfl) ?_
  obtain ⟨u0, hu0, hf⟩ := z_b hf
  have hPc := hP
  have hDc := hD
  have hKc := hK
  refine z_cwi (va_runV (As := [.int p1]) (rest := []) ⟨hx, hb, hml, hown, hts⟩ (c_SB_has l dC dI N a k ztargets zconfigurations zruns zopened zcount p1 hu0 H.size) (cwV 1 hts (zGV zsub_c k_1_172 k_1_173 k_1_174 k_1_3 kc_SB_has) rfl rfl rfl (by decide +kernel) ⟨Nat.le_of_ble_eq_true rfl, Nat.le_of_ble_eq_true rfl⟩) ⟨z_bl, va_recv hKc hPc (ci := 1) (q0 := 0) rfl rfl, fun U hU hW => ⟨rfl, z_pre hN hKc hPc hDc U hU hW⟩⟩ rfl rfl hl.1 rfl (lv_room (Nat.le_of_ble_eq_true rfl)) d_SB_configurationOf_2 ⟨Nat.zero_le _, Nat.zero_le _⟩) hD hS hA (fun H locs hP hD hS => ?_)
  refine lv_if_eq (tgt := 17) hx hb d_SB_configurationOf_5 (by decide) (fun c1 => ?_) (fun c1 => ?_)
  · have hf := z_t c1 hf
    refine lv_iconst (v := (-1 : Int32)) hx hb d_SB_configurationOf_17 (by decide) ?_
    obtain rfl := Option.some.inj hf
    exact z_iret hx hb hr hP hD hS d_SB_configurationOf_18 hlocks
  · have hf := z_f c1 hf
    refine lv_aload_n hx hb d_SB_configurationOf_8 rfl (lv_at hl 0 rfl) ?_
    refine va_get (D := (dC, dI)) (ci := 1) (v := .ref (a 2)) (C := R_SB) (T := F_SB) (N := 5) hx hb hts (fun w h => List.mem_cons_of_mem _ (in_SB w h)) hown hK hP 0 rfl rfl 1 (by decide) (hts _ (List.mem_cons_of_mem _ k_1_38)) (fun _ h9 => h9) rfl d_SB_configurationOf_9 ?_
    refine lv_iload_n hx hb d_SB_configurationOf_12 rfl (lv_at hl 1 rfl) ?_
    obtain ⟨g2, hf⟩ := z_gz hf
    refine va_iald hx hb hK hP 2 1 rfl rfl g2 d_SB_configurationOf_13 ?_
    refine lv_goto (tgt := 18) hx hb d_SB_configurationOf_14 (by decide) ?_
    obtain rfl := Option.some.inj hf
    exact z_iret hx hb hr hP hD hS d_SB_configurationOf_18 hlocks
set_option maxHeartbeats 4000000 in
set_option maxRecDepth 100000 in
theorem c_SB_runOf (l : Launch) (dC : Nat → ClassId) (dI : Nat → Nat → Nat) (N : Nat) (a : Nat → Nat) (k : Nat → ClassId) (ztargets : Nat → Int32) (zconfigurations : Nat → Int32) (zruns : Nat → Int32) (zopened : Nat → Int32) (zcount : Int32) (p1 : Int32) {y : (Int32)} (hf : pf_SB_runOf N zruns zcount p1 = some y) (sz : Nat) : Met l y_SB_runOf ww_SB_runOf ({ frames := 1, cells := 0, slots := 0, locals := 21 }) (va_Pc [.ref (a 0), .int p1] (zB (dC, dI) zCl (t_SB k) (w_SB a k ztargets zconfigurations zruns zopened zcount) sz)) (zQi (dC, dI) zCl (w_SB a k ztargets zconfigurations zruns zopened zcount) sz y (w_SB a k ztargets zconfigurations zruns zopened zcount)) 0 0 (va_A (w_SB a k ztargets zconfigurations zruns zopened zcount) sz) := by
  refine Met.ofW (cc := b_SB_runOf) (maxL := 2) (ret := (some .int)) (by decide) rfl ?_
  intro p e s m args below meth c s₁ B hml hv
  obtain ⟨rfl, rfl, hP, hK, hD, hN⟩ := hv
  have hx := B.exec
  have hb := B.bytes
  have hr := B.returns
  have hts := atoms_spec (ws := ww_SB_runOf) B.pre
  have hown : s.vm.findClass R_SB = some m.cls := findClass_of_methodNamed B.named
  have hlocks := B.notSynchronized
  have hA : ∀ q : Nat, s.heap.size ≤ q → va_A (w_SB a k ztargets zconfigurations zruns zopened zcount) s.heap.size q := fun q h => Or.inr h
  refine z_start (lv := [(0, .ref (a 0)), (1, .int p1)]) (Nat.le_of_ble_eq_true rfl) rfl hP hD (fun H locs ls hP hD hS hl => ?_)
  unfold pf_SB_runOf at hf
  refine lv_aload_n hx hb d_SB_runOf_0 rfl (lv_at hl 0 rfl) ?_
  refine lv_iload_n hx hb d_SB_runOf_1 rfl (lv_at hl 1 rfl) ?_
  obtain ⟨u0, hu0, hf⟩ := z_b hf
  have hPc := hP
  have hDc := hD
  have hKc := hK
  refine z_cwi (va_runV (As := [.int p1]) (rest := []) ⟨hx, hb, hml, hown, hts⟩ (c_SB_has l dC dI N a k ztargets zconfigurations zruns zopened zcount p1 hu0 H.size) (cwV 1 hts (zGV zsub_c k_1_172 k_1_173 k_1_174 k_1_3 kc_SB_has) rfl rfl rfl (by decide +kernel) ⟨Nat.le_of_ble_eq_true rfl, Nat.le_of_ble_eq_true rfl⟩) ⟨z_bl, va_recv hKc hPc (ci := 1) (q0 := 0) rfl rfl, fun U hU hW => ⟨rfl, z_pre hN hKc hPc hDc U hU hW⟩⟩ rfl rfl hl.1 rfl (lv_room (Nat.le_of_ble_eq_true rfl)) d_SB_runOf_2 ⟨Nat.zero_le _, Nat.zero_le _⟩) hD hS hA (fun H locs hP hD hS => ?_)
  refine lv_if_eq (tgt := 17) hx hb d_SB_runOf_5 (by decide) (fun c1 => ?_) (fun c1 => ?_)
  · have hf := z_t c1 hf
    refine lv_iconst (v := (-1 : Int32)) hx hb d_SB_runOf_17 (by decide) ?_
    obtain rfl := Option.some.inj hf
    exact z_iret hx hb hr hP hD hS d_SB_runOf_18 hlocks
  · have hf := z_f c1 hf
    refine lv_aload_n hx hb d_SB_runOf_8 rfl (lv_at hl 0 rfl) ?_
    refine va_get (D := (dC, dI)) (ci := 1) (v := .ref (a 3)) (C := R_SB) (T := F_SB) (N := 5) hx hb hts (fun w h => List.mem_cons_of_mem _ (in_SB w h)) hown hK hP 0 rfl rfl 2 (by decide) (hts _ (List.mem_cons_of_mem _ k_1_39)) (fun _ h9 => h9) rfl d_SB_runOf_9 ?_
    refine lv_iload_n hx hb d_SB_runOf_12 rfl (lv_at hl 1 rfl) ?_
    obtain ⟨g2, hf⟩ := z_gz hf
    refine va_iald hx hb hK hP 3 2 rfl rfl g2 d_SB_runOf_13 ?_
    refine lv_goto (tgt := 18) hx hb d_SB_runOf_14 (by decide) ?_
    obtain rfl := Option.some.inj hf
    exact z_iret hx hb hr hP hD hS d_SB_runOf_18 hlocks
set_option maxHeartbeats 4000000 in
set_option maxRecDepth 100000 in
theorem c_SB_hasOpenOne (l : Launch) (dC : Nat → ClassId) (dI : Nat → Nat → Nat) (N : Nat) (a : Nat → Nat) (k : Nat → ClassId) (ztargets : Nat → Int32) (zconfigurations : Nat → Int32) (zruns : Nat → Int32) (zopened : Nat → Int32) (zcount : Int32) (p1 : Int32) (p2 : Int32) {y : (Int32)} (hf : pf_SB_hasOpenOne N ztargets zconfigurations zopened zcount p1 p2 = some y) (sz : Nat) : Met l y_SB_hasOpenOne ww_SB_hasOpenOne ({ frames := 2, cells := 0, slots := 0, locals := 42 }) (va_Pc [.ref (a 0), .int p1, .int p2] (zB (dC, dI) zCl (t_SB k) (w_SB a k ztargets zconfigurations zruns zopened zcount) sz)) (zQi (dC, dI) zCl (w_SB a k ztargets zconfigurations zruns zopened zcount) sz y (w_SB a k ztargets zconfigurations zruns zopened zcount)) 0 0 (va_A (w_SB a k ztargets zconfigurations zruns zopened zcount) sz) := by
  refine Met.ofW (cc := b_SB_hasOpenOne) (maxL := 4) (ret := (some .boolean)) (by decide) rfl ?_
  intro p e s m args below meth c s₁ B hml hv
  obtain ⟨rfl, rfl, hP, hK, hD, hN⟩ := hv
  have hx := B.exec
  have hb := B.bytes
  have hr := B.returns
  have hts := atoms_spec (ws := ww_SB_hasOpenOne) B.pre
  have hown : s.vm.findClass R_SB = some m.cls := findClass_of_methodNamed B.named
  have hlocks := B.notSynchronized
  have hA : ∀ q : Nat, s.heap.size ≤ q → va_A (w_SB a k ztargets zconfigurations zruns zopened zcount) s.heap.size q := fun q h => Or.inr h
  refine z_start (lv := [(0, .ref (a 0)), (1, .int p1), (2, .int p2)]) (Nat.le_of_ble_eq_true rfl) rfl hP hD (fun H locs ls hP hD hS hl => ?_)
  unfold pf_SB_hasOpenOne at hf
  refine lv_iconst (v := (0 : Int32)) hx hb d_SB_hasOpenOne_0 (by decide) ?_
  refine lv_istore_n (lv' := [(3, .int (0 : Int32)), (0, .ref (a 0)), (1, .int p1), (2, .int p2)]) hx hb d_SB_hasOpenOne_1 rfl hl (by decide) rfl (fun ls hl => ?_)
  have loop2 : ∀ (n : Nat) (x3 : Int32), pf_SB_hasOpenOne_L2 N ztargets zconfigurations zopened zcount p1 p2 n x3 = some y → ∀ (H : Heap) (locs : List Loc) (ls : Array Slot), va_P (dC, dI) zCl (w_SB a k ztargets zconfigurations zruns zopened zcount) H → va_D (va_A (w_SB a k ztargets zconfigurations zruns zopened zcount) s.heap.size) (w_SB a k ztargets zconfigurations zruns zopened zcount) → va_S (va_A (w_SB a k ztargets zconfigurations zruns zopened zcount) s.heap.size) s.heap H locs → lv_has ls 4 [(0, .ref (a 0)), (1, .int p1), (2, .int p2), (3, .int x3)] → W p l e (headSpec ww_SB_hasOpenOne ({ frames := 2, cells := 0, slots := 0, locals := 42 })).room s m ([.ref (a 0), .int p1, .int p2] : List Value).toArray below meth c H locs 0 0 (MQ below (zQi (dC, dI) zCl (w_SB a k ztargets zconfigurations zruns zopened zcount) s.heap.size y (w_SB a k ztargets zconfigurations zruns zopened zcount)) ([.ref (a 0), .int p1, .int p2] : List Value).toArray s 0 0 (va_A (w_SB a k ztargets zconfigurations zruns zopened zcount) s.heap.size)) (F0 m 2 ls []) := by
    intro n2
    induction n2 with
    | zero => intro x3 hf; rw [pf_SB_hasOpenOne_L2.eq_1] at hf; cases hf
    | succ n2 ih2 =>
      intro x3 hf H locs ls hP hD hS hl
      rw [pf_SB_hasOpenOne_L2.eq_2] at hf
      refine lv_iload_n hx hb d_SB_hasOpenOne_2 rfl (lv_at hl 3 rfl) ?_
      refine lv_bipush (v := (nI 80)) hx hb d_SB_hasOpenOne_3 (by decide) ?_
      refine lv_icmp_ge (tgt := 44) hx hb d_SB_hasOpenOne_5 (by decide) (fun c1 => ?_) (fun c1 => ?_)
      · have hf := z_t c1 hf
        refine lv_iconst (v := (0 : Int32)) hx hb d_SB_hasOpenOne_44 (by decide) ?_
        obtain rfl := Option.some.inj hf
        exact z_zret hx hb hr (by decide) hP hD hS d_SB_hasOpenOne_45 hlocks
      · have hf := z_f c1 hf
        refine lv_aload_n hx hb d_SB_hasOpenOne_8 rfl (lv_at hl 0 rfl) ?_
        refine lv_iload_n hx hb d_SB_hasOpenOne_9 rfl (lv_at hl 3 rfl) ?_
        obtain ⟨u0, hu0, hf⟩ := z_b hf
        have hPc := hP
        have hDc := hD
        have hKc := hK
        refine z_cwi (va_runV (As := [.int x3]) (rest := []) ⟨hx, hb, hml, hown, hts⟩ (c_SB_isOpen l dC dI N a k ztargets zconfigurations zruns zopened zcount x3 hu0 H.size) (cwV 1 hts (zGV zsub_c k_1_168 k_1_169 k_1_170 k_1_3 kc_SB_isOpen) rfl rfl rfl (by decide +kernel) ⟨Nat.le_of_ble_eq_true rfl, Nat.le_of_ble_eq_true rfl⟩) ⟨z_bl, va_recv hKc hPc (ci := 1) (q0 := 0) rfl rfl, fun U hU hW => ⟨rfl, z_pre hN hKc hPc hDc U hU hW⟩⟩ rfl rfl hl.1 rfl (lv_room (Nat.le_of_ble_eq_true rfl)) d_SB_hasOpenOne_10 ⟨Nat.zero_le _, Nat.zero_le _⟩) hD hS hA (fun H locs hP hD hS => ?_)
        refine lv_if_eq (tgt := 38) hx hb d_SB_hasOpenOne_13 (by decide) (fun c2 => ?_) (fun c2 => ?_)
        · have hf := z_t c2 hf
          refine lv_iinc (v := (x3 + (1 : Int32))) (lv' := [(3, .int (x3 + (1 : Int32))), (0, .ref (a 0)), (1, .int p1), (2, .int p2)]) hx hb d_SB_hasOpenOne_38 hl (k := 3) rfl rfl (by decide) rfl (fun ls hl => ?_)
          refine lv_goto (tgt := 2) hx hb d_SB_hasOpenOne_41 (by decide) ?_
          exact ih2 (x3 + (1 : Int32)) hf H locs ls hP hD hS (lv_sub hl [1, 2, 3, 0] rfl)
        · have hf := z_f c2 hf
          refine lv_aload_n hx hb d_SB_hasOpenOne_16 rfl (lv_at hl 0 rfl) ?_
          refine va_get (D := (dC, dI)) (ci := 1) (v := .ref (a 1)) (C := R_SB) (T := F_SB) (N := 5) hx hb hts (fun w h => List.mem_cons_of_mem _ (in_SB w h)) hown hK hP 0 rfl rfl 0 (by decide) (hts _ (List.mem_cons_of_mem _ k_1_37)) (fun _ h9 => h9) rfl d_SB_hasOpenOne_17 ?_
          refine lv_iload_n hx hb d_SB_hasOpenOne_20 rfl (lv_at hl 3 rfl) ?_
          obtain ⟨g3, hf⟩ := z_gz hf
          refine va_iald hx hb hK hP 1 0 rfl rfl g3 d_SB_hasOpenOne_21 ?_
          refine lv_iload_n hx hb d_SB_hasOpenOne_22 rfl (lv_at hl 1 rfl) ?_
          refine lv_icmp_ne (tgt := 38) hx hb d_SB_hasOpenOne_23 (by decide) (fun c4 => ?_) (fun c4 => ?_)
          · have hf := z_t c4 hf
            refine lv_iinc (v := (x3 + (1 : Int32))) (lv' := [(3, .int (x3 + (1 : Int32))), (0, .ref (a 0)), (1, .int p1), (2, .int p2)]) hx hb d_SB_hasOpenOne_38 hl (k := 3) rfl rfl (by decide) rfl (fun ls hl => ?_)
            refine lv_goto (tgt := 2) hx hb d_SB_hasOpenOne_41 (by decide) ?_
            exact ih2 (x3 + (1 : Int32)) hf H locs ls hP hD hS (lv_sub hl [1, 2, 3, 0] rfl)
          · have hf := z_fn c4 hf
            refine lv_aload_n hx hb d_SB_hasOpenOne_26 rfl (lv_at hl 0 rfl) ?_
            refine va_get (D := (dC, dI)) (ci := 1) (v := .ref (a 2)) (C := R_SB) (T := F_SB) (N := 5) hx hb hts (fun w h => List.mem_cons_of_mem _ (in_SB w h)) hown hK hP 0 rfl rfl 1 (by decide) (hts _ (List.mem_cons_of_mem _ k_1_38)) (fun _ h9 => h9) rfl d_SB_hasOpenOne_27 ?_
            refine lv_iload_n hx hb d_SB_hasOpenOne_30 rfl (lv_at hl 3 rfl) ?_
            obtain ⟨g5, hf⟩ := z_gz hf
            refine va_iald hx hb hK hP 2 1 rfl rfl g5 d_SB_hasOpenOne_31 ?_
            refine lv_iload_n hx hb d_SB_hasOpenOne_32 rfl (lv_at hl 2 rfl) ?_
            refine lv_icmp_ne (tgt := 38) hx hb d_SB_hasOpenOne_33 (by decide) (fun c6 => ?_) (fun c6 => ?_)
            · have hf := z_t c6 hf
              refine lv_iinc (v := (x3 + (1 : Int32))) (lv' := [(3, .int (x3 + (1 : Int32))), (0, .ref (a 0)), (1, .int p1), (2, .int p2)]) hx hb d_SB_hasOpenOne_38 hl (k := 3) rfl rfl (by decide) rfl (fun ls hl => ?_)
              refine lv_goto (tgt := 2) hx hb d_SB_hasOpenOne_41 (by decide) ?_
              exact ih2 (x3 + (1 : Int32)) hf H locs ls hP hD hS (lv_sub hl [1, 2, 3, 0] rfl)
            · have hf := z_fn c6 hf
              refine lv_iconst (v := (1 : Int32)) hx hb d_SB_hasOpenOne_36 (by decide) ?_
              obtain rfl := Option.some.inj hf
              exact z_zret hx hb hr (by decide) hP hD hS d_SB_hasOpenOne_37 hlocks
  exact loop2 N (0 : Int32) hf H locs ls hP hD hS (lv_sub hl [1, 2, 3, 0] rfl)
set_option maxHeartbeats 4000000 in
set_option maxRecDepth 100000 in
theorem c_SB_hasOpenOneIn (l : Launch) (dC : Nat → ClassId) (dI : Nat → Nat → Nat) (N : Nat) (a : Nat → Nat) (k : Nat → ClassId) (ztargets : Nat → Int32) (zconfigurations : Nat → Int32) (zruns : Nat → Int32) (zopened : Nat → Int32) (zcount : Int32) (p1 : Int32) {y : (Int32)} (hf : pf_SB_hasOpenOneIn N zconfigurations zopened zcount p1 = some y) (sz : Nat) : Met l y_SB_hasOpenOneIn ww_SB_hasOpenOneIn ({ frames := 2, cells := 0, slots := 0, locals := 42 }) (va_Pc [.ref (a 0), .int p1] (zB (dC, dI) zCl (t_SB k) (w_SB a k ztargets zconfigurations zruns zopened zcount) sz)) (zQi (dC, dI) zCl (w_SB a k ztargets zconfigurations zruns zopened zcount) sz y (w_SB a k ztargets zconfigurations zruns zopened zcount)) 0 0 (va_A (w_SB a k ztargets zconfigurations zruns zopened zcount) sz) := by
  refine Met.ofW (cc := b_SB_hasOpenOneIn) (maxL := 3) (ret := (some .boolean)) (by decide) rfl ?_
  intro p e s m args below meth c s₁ B hml hv
  obtain ⟨rfl, rfl, hP, hK, hD, hN⟩ := hv
  have hx := B.exec
  have hb := B.bytes
  have hr := B.returns
  have hts := atoms_spec (ws := ww_SB_hasOpenOneIn) B.pre
  have hown : s.vm.findClass R_SB = some m.cls := findClass_of_methodNamed B.named
  have hlocks := B.notSynchronized
  have hA : ∀ q : Nat, s.heap.size ≤ q → va_A (w_SB a k ztargets zconfigurations zruns zopened zcount) s.heap.size q := fun q h => Or.inr h
  refine z_start (lv := [(0, .ref (a 0)), (1, .int p1)]) (Nat.le_of_ble_eq_true rfl) rfl hP hD (fun H locs ls hP hD hS hl => ?_)
  unfold pf_SB_hasOpenOneIn at hf
  refine lv_iconst (v := (0 : Int32)) hx hb d_SB_hasOpenOneIn_0 (by decide) ?_
  refine lv_istore_n (lv' := [(2, .int (0 : Int32)), (0, .ref (a 0)), (1, .int p1)]) hx hb d_SB_hasOpenOneIn_1 rfl hl (by decide) rfl (fun ls hl => ?_)
  have loop2 : ∀ (n : Nat) (x2 : Int32), pf_SB_hasOpenOneIn_L2 N zconfigurations zopened zcount p1 n x2 = some y → ∀ (H : Heap) (locs : List Loc) (ls : Array Slot), va_P (dC, dI) zCl (w_SB a k ztargets zconfigurations zruns zopened zcount) H → va_D (va_A (w_SB a k ztargets zconfigurations zruns zopened zcount) s.heap.size) (w_SB a k ztargets zconfigurations zruns zopened zcount) → va_S (va_A (w_SB a k ztargets zconfigurations zruns zopened zcount) s.heap.size) s.heap H locs → lv_has ls 3 [(0, .ref (a 0)), (1, .int p1), (2, .int x2)] → W p l e (headSpec ww_SB_hasOpenOneIn ({ frames := 2, cells := 0, slots := 0, locals := 42 })).room s m ([.ref (a 0), .int p1] : List Value).toArray below meth c H locs 0 0 (MQ below (zQi (dC, dI) zCl (w_SB a k ztargets zconfigurations zruns zopened zcount) s.heap.size y (w_SB a k ztargets zconfigurations zruns zopened zcount)) ([.ref (a 0), .int p1] : List Value).toArray s 0 0 (va_A (w_SB a k ztargets zconfigurations zruns zopened zcount) s.heap.size)) (F0 m 2 ls []) := by
    intro n2
    induction n2 with
    | zero => intro x2 hf; rw [pf_SB_hasOpenOneIn_L2.eq_1] at hf; cases hf
    | succ n2 ih2 =>
      intro x2 hf H locs ls hP hD hS hl
      rw [pf_SB_hasOpenOneIn_L2.eq_2] at hf
      refine lv_iload_n hx hb d_SB_hasOpenOneIn_2 rfl (lv_at hl 2 rfl) ?_
      refine lv_bipush (v := (nI 80)) hx hb d_SB_hasOpenOneIn_3 (by decide) ?_
      refine lv_icmp_ge (tgt := 34) hx hb d_SB_hasOpenOneIn_5 (by decide) (fun c1 => ?_) (fun c1 => ?_)
      · have hf := z_t c1 hf
        refine lv_iconst (v := (0 : Int32)) hx hb d_SB_hasOpenOneIn_34 (by decide) ?_
        obtain rfl := Option.some.inj hf
        exact z_zret hx hb hr (by decide) hP hD hS d_SB_hasOpenOneIn_35 hlocks
      · have hf := z_f c1 hf
        refine lv_aload_n hx hb d_SB_hasOpenOneIn_8 rfl (lv_at hl 0 rfl) ?_
        refine lv_iload_n hx hb d_SB_hasOpenOneIn_9 rfl (lv_at hl 2 rfl) ?_
        obtain ⟨u0, hu0, hf⟩ := z_b hf
        have hPc := hP
        have hDc := hD
        have hKc := hK
        refine z_cwi (va_runV (As := [.int x2]) (rest := []) ⟨hx, hb, hml, hown, hts⟩ (c_SB_isOpen l dC dI N a k ztargets zconfigurations zruns zopened zcount x2 hu0 H.size) (cwV 1 hts (zGV zsub_c k_1_168 k_1_169 k_1_170 k_1_3 kc_SB_isOpen) rfl rfl rfl (by decide +kernel) ⟨Nat.le_of_ble_eq_true rfl, Nat.le_of_ble_eq_true rfl⟩) ⟨z_bl, va_recv hKc hPc (ci := 1) (q0 := 0) rfl rfl, fun U hU hW => ⟨rfl, z_pre hN hKc hPc hDc U hU hW⟩⟩ rfl rfl hl.1 rfl (lv_room (Nat.le_of_ble_eq_true rfl)) d_SB_hasOpenOneIn_10 ⟨Nat.zero_le _, Nat.zero_le _⟩) hD hS hA (fun H locs hP hD hS => ?_)
        refine lv_if_eq (tgt := 28) hx hb d_SB_hasOpenOneIn_13 (by decide) (fun c2 => ?_) (fun c2 => ?_)
        · have hf := z_t c2 hf
          refine lv_iinc (v := (x2 + (1 : Int32))) (lv' := [(2, .int (x2 + (1 : Int32))), (0, .ref (a 0)), (1, .int p1)]) hx hb d_SB_hasOpenOneIn_28 hl (k := 2) rfl rfl (by decide) rfl (fun ls hl => ?_)
          refine lv_goto (tgt := 2) hx hb d_SB_hasOpenOneIn_31 (by decide) ?_
          exact ih2 (x2 + (1 : Int32)) hf H locs ls hP hD hS (lv_sub hl [1, 2, 0] rfl)
        · have hf := z_f c2 hf
          refine lv_aload_n hx hb d_SB_hasOpenOneIn_16 rfl (lv_at hl 0 rfl) ?_
          refine va_get (D := (dC, dI)) (ci := 1) (v := .ref (a 2)) (C := R_SB) (T := F_SB) (N := 5) hx hb hts (fun w h => List.mem_cons_of_mem _ (in_SB w h)) hown hK hP 0 rfl rfl 1 (by decide) (hts _ (List.mem_cons_of_mem _ k_1_38)) (fun _ h9 => h9) rfl d_SB_hasOpenOneIn_17 ?_
          refine lv_iload_n hx hb d_SB_hasOpenOneIn_20 rfl (lv_at hl 2 rfl) ?_
          obtain ⟨g3, hf⟩ := z_gz hf
          refine va_iald hx hb hK hP 2 1 rfl rfl g3 d_SB_hasOpenOneIn_21 ?_
          refine lv_iload_n hx hb d_SB_hasOpenOneIn_22 rfl (lv_at hl 1 rfl) ?_
          refine lv_icmp_ne (tgt := 28) hx hb d_SB_hasOpenOneIn_23 (by decide) (fun c4 => ?_) (fun c4 => ?_)
          · have hf := z_t c4 hf
            refine lv_iinc (v := (x2 + (1 : Int32))) (lv' := [(2, .int (x2 + (1 : Int32))), (0, .ref (a 0)), (1, .int p1)]) hx hb d_SB_hasOpenOneIn_28 hl (k := 2) rfl rfl (by decide) rfl (fun ls hl => ?_)
            refine lv_goto (tgt := 2) hx hb d_SB_hasOpenOneIn_31 (by decide) ?_
            exact ih2 (x2 + (1 : Int32)) hf H locs ls hP hD hS (lv_sub hl [1, 2, 0] rfl)
          · have hf := z_fn c4 hf
            refine lv_iconst (v := (1 : Int32)) hx hb d_SB_hasOpenOneIn_26 (by decide) ?_
            obtain rfl := Option.some.inj hf
            exact z_zret hx hb hr (by decide) hP hD hS d_SB_hasOpenOneIn_27 hlocks
  exact loop2 N (0 : Int32) hf H locs ls hP hD hS (lv_sub hl [1, 2, 0] rfl)
set_option maxHeartbeats 4000000 in
set_option maxRecDepth 100000 in
theorem c_LT_has (l : Launch) (dC : Nat → ClassId) (dI : Nat → Nat → Nat) (N : Nat) (a : Nat → Nat) (k : Nat → ClassId) (zcontents : Nat → Int64) (zmakers : Nat → Int32) (zexecutables : Nat → Int32) (zlazies : Nat → Int32) (p1 : Int32) {y : (Int32)} (hf : pf_LT_has N zcontents p1 = some y) (sz : Nat) : Met l y_LT_has ww_LT_has ({ frames := 0, cells := 0, slots := 0, locals := 0 }) (va_Pc [.ref (a 0), .int p1] (zB (dC, dI) zCl (t_LT k) (w_LT a k zcontents zmakers zexecutables zlazies) sz)) (zQi (dC, dI) zCl (w_LT a k zcontents zmakers zexecutables zlazies) sz y (w_LT a k zcontents zmakers zexecutables zlazies)) 0 0 (va_A (w_LT a k zcontents zmakers zexecutables zlazies) sz) := by
  refine Met.ofW (cc := b_LT_has) (maxL := 2) (ret := (some .boolean)) (by decide) rfl ?_
  intro p e s m args below meth c s₁ B hml hv
  obtain ⟨rfl, rfl, hP, hK, hD, hN⟩ := hv
  have hx := B.exec
  have hb := B.bytes
  have hr := B.returns
  have hts := atoms_spec (ws := ww_LT_has) B.pre
  have hown : s.vm.findClass R_LT = some m.cls := findClass_of_methodNamed B.named
  have hlocks := B.notSynchronized
  have hA : ∀ q : Nat, s.heap.size ≤ q → va_A (w_LT a k zcontents zmakers zexecutables zlazies) s.heap.size q := fun q h => Or.inr h
  refine z_start (lv := [(0, .ref (a 0)), (1, .int p1)]) (Nat.le_of_ble_eq_true rfl) rfl hP hD (fun H locs ls hP hD hS hl => ?_)
  unfold pf_LT_has at hf
  refine lv_iload_n hx hb d_LT_has_0 rfl (lv_at hl 1 rfl) ?_
  refine lv_if_lt (tgt := 26) hx hb d_LT_has_1 (by decide) (fun c1 => ?_) (fun c1 => ?_)
  · have hf := z_t c1 hf
    refine lv_iconst (v := (0 : Int32)) hx hb d_LT_has_26 (by decide) ?_
    obtain rfl := Option.some.inj hf
    exact z_zret hx hb hr (by decide) hP hD hS d_LT_has_27 hlocks
  · have hf := z_f c1 hf
    refine lv_iload_n hx hb d_LT_has_4 rfl (lv_at hl 1 rfl) ?_
    refine lv_sipush (v := (nI 160)) hx hb d_LT_has_5 (by decide) ?_
    refine lv_icmp_ge (tgt := 26) hx hb d_LT_has_8 (by decide) (fun c2 => ?_) (fun c2 => ?_)
    · have hf := z_t c2 hf
      refine lv_iconst (v := (0 : Int32)) hx hb d_LT_has_26 (by decide) ?_
      obtain rfl := Option.some.inj hf
      exact z_zret hx hb hr (by decide) hP hD hS d_LT_has_27 hlocks
    · have hf := z_f c2 hf
      refine lv_aload_n hx hb d_LT_has_11 rfl (lv_at hl 0 rfl) ?_
      refine va_get (D := (dC, dI)) (ci := 2) (v := .ref (a 1)) (C := R_LT) (T := F_LT) (N := 4) hx hb hts (fun w h => List.mem_cons_of_mem _ (in_LT w h)) hown hK hP 0 rfl rfl 0 (by decide) (hts _ (List.mem_cons_of_mem _ k_1_60)) (fun _ h9 => h9) rfl d_LT_has_12 ?_
      refine lv_iload_n hx hb d_LT_has_15 rfl (lv_at hl 1 rfl) ?_
      obtain ⟨g3, hf⟩ := z_gz hf
      refine va_lald hx hb hK hP 1 0 rfl rfl g3 d_LT_has_16 ?_
      refine lv_lconst (v := 0) hx hb d_LT_has_17 (by decide) ?_
      refine W.lcmp hx hb d_LT_has_18 ?_
      refine lv_if_eq (tgt := 26) hx hb d_LT_has_19 (by decide) (fun c4 => ?_) (fun c4 => ?_)
      · have hf := z_t c4 hf
        refine lv_iconst (v := (0 : Int32)) hx hb d_LT_has_26 (by decide) ?_
        obtain rfl := Option.some.inj hf
        exact z_zret hx hb hr (by decide) hP hD hS d_LT_has_27 hlocks
      · have hf := z_f c4 hf
        refine lv_iconst (v := (1 : Int32)) hx hb d_LT_has_22 (by decide) ?_
        refine lv_goto (tgt := 27) hx hb d_LT_has_23 (by decide) ?_
        obtain rfl := Option.some.inj hf
        exact z_zret hx hb hr (by decide) hP hD hS d_LT_has_27 hlocks
set_option maxHeartbeats 4000000 in
set_option maxRecDepth 100000 in
theorem c_LT_put (l : Launch) (dC : Nat → ClassId) (dI : Nat → Nat → Nat) (N : Nat) (a : Nat → Nat) (k : Nat → ClassId) (zcontents : Nat → Int64) (zmakers : Nat → Int32) (zexecutables : Nat → Int32) (zlazies : Nat → Int32) (p1 : Int32) (p2 : Int32) (p3 : Int64) (p5 : Int32) (p6 : Int32) {y : ((Nat → Int64) × (Nat → Int32) × (Nat → Int32) × (Nat → Int32))} (hf : pf_LT_put N zcontents zmakers zexecutables zlazies p1 p2 p3 p5 p6 = some y) (sz : Nat) : Met l y_LT_put ww_LT_put ({ frames := 0, cells := 0, slots := 0, locals := 0 }) (va_Pc [.ref (a 0), .int p1, .int p2, .long p3, .int p5, .int p6] (zB (dC, dI) zCl (t_LT k) (w_LT a k zcontents zmakers zexecutables zlazies) sz)) (zQv (dC, dI) zCl (w_LT a k zcontents zmakers zexecutables zlazies) sz (w_LT a k y.1 y.2.1 y.2.2.1 y.2.2.2)) 0 0 (va_A (w_LT a k zcontents zmakers zexecutables zlazies) sz) := by
  refine Met.ofW (cc := b_LT_put) (maxL := 7) (ret := none) (by decide) rfl ?_
  intro p e s m args below meth c s₁ B hml hv
  obtain ⟨rfl, rfl, hP, hK, hD, hN⟩ := hv
  have hx := B.exec
  have hb := B.bytes
  have hr := B.returns
  have hts := atoms_spec (ws := ww_LT_put) B.pre
  have hown : s.vm.findClass R_LT = some m.cls := findClass_of_methodNamed B.named
  have hlocks := B.notSynchronized
  have hA : ∀ q : Nat, s.heap.size ≤ q → va_A (w_LT a k zcontents zmakers zexecutables zlazies) s.heap.size q := fun q h => Or.inr h
  refine z_start (lv := [(0, .ref (a 0)), (1, .int p1), (2, .int p2), (3, .long p3), (5, .int p5), (6, .int p6)]) (Nat.le_of_ble_eq_true rfl) rfl hP hD (fun H locs ls hP hD hS hl => ?_)
  unfold pf_LT_put at hf
  refine lv_iload_n hx hb d_LT_put_0 rfl (lv_at hl 1 rfl) ?_
  refine lv_if_lt (tgt := 41) hx hb d_LT_put_1 (by decide) (fun c1 => ?_) (fun c1 => ?_)
  · have hf := z_t c1 hf
    obtain rfl := Option.some.inj hf
    exact z_vret hx hb hr hP hD hS d_LT_put_41 hlocks
  · have hf := z_f c1 hf
    refine lv_iload_n hx hb d_LT_put_4 rfl (lv_at hl 1 rfl) ?_
    refine lv_sipush (v := (nI 160)) hx hb d_LT_put_5 (by decide) ?_
    refine lv_icmp_ge (tgt := 41) hx hb d_LT_put_8 (by decide) (fun c2 => ?_) (fun c2 => ?_)
    · have hf := z_t c2 hf
      obtain rfl := Option.some.inj hf
      exact z_vret hx hb hr hP hD hS d_LT_put_41 hlocks
    · have hf := z_f c2 hf
      refine lv_aload_n hx hb d_LT_put_11 rfl (lv_at hl 0 rfl) ?_
      refine va_get (D := (dC, dI)) (ci := 2) (v := .ref (a 1)) (C := R_LT) (T := F_LT) (N := 4) hx hb hts (fun w h => List.mem_cons_of_mem _ (in_LT w h)) hown hK hP 0 rfl rfl 0 (by decide) (hts _ (List.mem_cons_of_mem _ k_1_60)) (fun _ h9 => h9) rfl d_LT_put_12 ?_
      refine lv_iload_n hx hb d_LT_put_15 rfl (lv_at hl 1 rfl) ?_
      refine lv_lload_n hx hb d_LT_put_16 rfl (lv_at hl 3 rfl) ?_
      obtain ⟨g3, hf⟩ := z_gz hf
      refine va_last hx hb hK hP hD hS 1 0 rfl rfl g3 d_LT_put_17 (fun H locs hP hD hS => ?_)
      have hP : va_P (dC, dI) zCl (w_LT a k (vp_updL zcontents p1.toNatClampNeg p3) zmakers zexecutables zlazies) H := hP
      have hD : va_D _ (w_LT a k (vp_updL zcontents p1.toNatClampNeg p3) zmakers zexecutables zlazies) := hD
      refine lv_aload_n hx hb d_LT_put_18 rfl (lv_at hl 0 rfl) ?_
      refine va_get (D := (dC, dI)) (ci := 2) (v := .ref (a 2)) (C := R_LT) (T := F_LT) (N := 4) hx hb hts (fun w h => List.mem_cons_of_mem _ (in_LT w h)) hown hK hP 0 rfl rfl 1 (by decide) (hts _ (List.mem_cons_of_mem _ k_1_61)) (fun _ h9 => h9) rfl d_LT_put_19 ?_
      refine lv_iload_n hx hb d_LT_put_22 rfl (lv_at hl 1 rfl) ?_
      refine lv_iload_n hx hb d_LT_put_23 rfl (lv_at hl 2 rfl) ?_
      obtain ⟨g4, hf⟩ := z_gz hf
      refine va_iast hx hb hK hP hD hS 2 1 rfl rfl g4 d_LT_put_24 (fun H locs hP hD hS => ?_)
      have hP : va_P (dC, dI) zCl (w_LT a k (vp_updL zcontents p1.toNatClampNeg p3) (upd zmakers p1.toNatClampNeg p2) zexecutables zlazies) H := hP
      have hD : va_D _ (w_LT a k (vp_updL zcontents p1.toNatClampNeg p3) (upd zmakers p1.toNatClampNeg p2) zexecutables zlazies) := hD
      refine lv_aload_n hx hb d_LT_put_25 rfl (lv_at hl 0 rfl) ?_
      refine va_get (D := (dC, dI)) (ci := 2) (v := .ref (a 3)) (C := R_LT) (T := F_LT) (N := 4) hx hb hts (fun w h => List.mem_cons_of_mem _ (in_LT w h)) hown hK hP 0 rfl rfl 2 (by decide) (hts _ (List.mem_cons_of_mem _ k_1_62)) (fun _ h9 => h9) rfl d_LT_put_26 ?_
      refine lv_iload_n hx hb d_LT_put_29 rfl (lv_at hl 1 rfl) ?_
      refine lv_iload hx hb d_LT_put_30 (lv_at hl 4 rfl) ?_
      obtain ⟨g5, hf⟩ := z_gz hf
      refine va_zast hx hb hK hP hD hS 3 2 rfl rfl g5 d_LT_put_32 (fun H locs hP hD hS => ?_)
      have hP : va_P (dC, dI) zCl (w_LT a k (vp_updL zcontents p1.toNatClampNeg p3) (upd zmakers p1.toNatClampNeg p2) (upd zexecutables p1.toNatClampNeg (vp_nar .boolean p5)) zlazies) H := hP
      have hD : va_D _ (w_LT a k (vp_updL zcontents p1.toNatClampNeg p3) (upd zmakers p1.toNatClampNeg p2) (upd zexecutables p1.toNatClampNeg (vp_nar .boolean p5)) zlazies) := hD
      refine lv_aload_n hx hb d_LT_put_33 rfl (lv_at hl 0 rfl) ?_
      refine va_get (D := (dC, dI)) (ci := 2) (v := .ref (a 4)) (C := R_LT) (T := F_LT) (N := 4) hx hb hts (fun w h => List.mem_cons_of_mem _ (in_LT w h)) hown hK hP 0 rfl rfl 3 (by decide) (hts _ (List.mem_cons_of_mem _ k_1_63)) (fun _ h9 => h9) rfl d_LT_put_34 ?_
      refine lv_iload_n hx hb d_LT_put_37 rfl (lv_at hl 1 rfl) ?_
      refine lv_iload hx hb d_LT_put_38 (lv_at hl 5 rfl) ?_
      obtain ⟨g6, hf⟩ := z_gz hf
      refine va_zast hx hb hK hP hD hS 4 3 rfl rfl g6 d_LT_put_40 (fun H locs hP hD hS => ?_)
      have hP : va_P (dC, dI) zCl (w_LT a k (vp_updL zcontents p1.toNatClampNeg p3) (upd zmakers p1.toNatClampNeg p2) (upd zexecutables p1.toNatClampNeg (vp_nar .boolean p5)) (upd zlazies p1.toNatClampNeg (vp_nar .boolean p6))) H := hP
      have hD : va_D _ (w_LT a k (vp_updL zcontents p1.toNatClampNeg p3) (upd zmakers p1.toNatClampNeg p2) (upd zexecutables p1.toNatClampNeg (vp_nar .boolean p5)) (upd zlazies p1.toNatClampNeg (vp_nar .boolean p6))) := hD
      obtain rfl := Option.some.inj hf
      exact z_vret hx hb hr hP hD hS d_LT_put_41 hlocks
set_option maxHeartbeats 4000000 in
set_option maxRecDepth 100000 in
theorem c_LT_drop (l : Launch) (dC : Nat → ClassId) (dI : Nat → Nat → Nat) (N : Nat) (a : Nat → Nat) (k : Nat → ClassId) (zcontents : Nat → Int64) (zmakers : Nat → Int32) (zexecutables : Nat → Int32) (zlazies : Nat → Int32) (p1 : Int32) {y : ((Nat → Int64))} (hf : pf_LT_drop N zcontents p1 = some y) (sz : Nat) : Met l y_LT_drop ww_LT_drop ({ frames := 1, cells := 0, slots := 0, locals := 21 }) (va_Pc [.ref (a 0), .int p1] (zB (dC, dI) zCl (t_LT k) (w_LT a k zcontents zmakers zexecutables zlazies) sz)) (zQv (dC, dI) zCl (w_LT a k zcontents zmakers zexecutables zlazies) sz (w_LT a k y zmakers zexecutables zlazies)) 0 0 (va_A (w_LT a k zcontents zmakers zexecutables zlazies) sz) := by
  refine Met.ofW (cc := b_LT_drop) (maxL := 2) (ret := none) (by decide) rfl ?_
  intro p e s m args below meth c s₁ B hml hv
  obtain ⟨rfl, rfl, hP, hK, hD, hN⟩ := hv
  have hx := B.exec
  have hb := B.bytes
  have hr := B.returns
  have hts := atoms_spec (ws := ww_LT_drop) B.pre
  have hown : s.vm.findClass R_LT = some m.cls := findClass_of_methodNamed B.named
  have hlocks := B.notSynchronized
  have hA : ∀ q : Nat, s.heap.size ≤ q → va_A (w_LT a k zcontents zmakers zexecutables zlazies) s.heap.size q := fun q h => Or.inr h
  refine z_start (lv := [(0, .ref (a 0)), (1, .int p1)]) (Nat.le_of_ble_eq_true rfl) rfl hP hD (fun H locs ls hP hD hS hl => ?_)
  unfold pf_LT_drop at hf
  refine lv_aload_n hx hb d_LT_drop_0 rfl (lv_at hl 0 rfl) ?_
  refine lv_iload_n hx hb d_LT_drop_1 rfl (lv_at hl 1 rfl) ?_
  obtain ⟨u0, hu0, hf⟩ := z_b hf
  have hPc := hP
  have hDc := hD
  have hKc := hK
  refine z_cwi (va_runV (As := [.int p1]) (rest := []) ⟨hx, hb, hml, hown, hts⟩ (c_LT_has l dC dI N a k zcontents zmakers zexecutables zlazies p1 hu0 H.size) (cwV 1 hts (zGV zsub_c k_1_199 k_1_200 k_1_201 k_1_4 kc_LT_has) rfl rfl rfl (by decide +kernel) ⟨Nat.le_of_ble_eq_true rfl, Nat.le_of_ble_eq_true rfl⟩) ⟨z_bl, va_recv hKc hPc (ci := 2) (q0 := 0) rfl rfl, fun U hU hW => ⟨rfl, z_pre hN hKc hPc hDc U hU hW⟩⟩ rfl rfl hl.1 rfl (lv_room (Nat.le_of_ble_eq_true rfl)) d_LT_drop_2 ⟨Nat.zero_le _, Nat.zero_le _⟩) hD hS hA (fun H locs hP hD hS => ?_)
  refine lv_if_eq (tgt := 15) hx hb d_LT_drop_5 (by decide) (fun c1 => ?_) (fun c1 => ?_)
  · have hf := z_t c1 hf
    obtain rfl := Option.some.inj hf
    exact z_vret hx hb hr hP hD hS d_LT_drop_15 hlocks
  · have hf := z_f c1 hf
    refine lv_aload_n hx hb d_LT_drop_8 rfl (lv_at hl 0 rfl) ?_
    refine va_get (D := (dC, dI)) (ci := 2) (v := .ref (a 1)) (C := R_LT) (T := F_LT) (N := 4) hx hb hts (fun w h => List.mem_cons_of_mem _ (in_LT w h)) hown hK hP 0 rfl rfl 0 (by decide) (hts _ (List.mem_cons_of_mem _ k_1_60)) (fun _ h9 => h9) rfl d_LT_drop_9 ?_
    refine lv_iload_n hx hb d_LT_drop_12 rfl (lv_at hl 1 rfl) ?_
    refine lv_lconst (v := 0) hx hb d_LT_drop_13 (by decide) ?_
    obtain ⟨g2, hf⟩ := z_gz hf
    refine va_last hx hb hK hP hD hS 1 0 rfl rfl g2 d_LT_drop_14 (fun H locs hP hD hS => ?_)
    have hP : va_P (dC, dI) zCl (w_LT a k (vp_updL zcontents p1.toNatClampNeg (0 : Int64)) zmakers zexecutables zlazies) H := hP
    have hD : va_D _ (w_LT a k (vp_updL zcontents p1.toNatClampNeg (0 : Int64)) zmakers zexecutables zlazies) := hD
    obtain rfl := Option.some.inj hf
    exact z_vret hx hb hr hP hD hS d_LT_drop_15 hlocks
set_option maxHeartbeats 4000000 in
set_option maxRecDepth 100000 in
theorem c_LT_makeThere (l : Launch) (dC : Nat → ClassId) (dI : Nat → Nat → Nat) (N : Nat) (a : Nat → Nat) (k : Nat → ClassId) (zcontents : Nat → Int64) (zmakers : Nat → Int32) (zexecutables : Nat → Int32) (zlazies : Nat → Int32) (p1 : Int32) {y : ((Nat → Int32))} (hf : pf_LT_makeThere N zcontents zlazies p1 = some y) (sz : Nat) : Met l y_LT_makeThere ww_LT_makeThere ({ frames := 1, cells := 0, slots := 0, locals := 21 }) (va_Pc [.ref (a 0), .int p1] (zB (dC, dI) zCl (t_LT k) (w_LT a k zcontents zmakers zexecutables zlazies) sz)) (zQv (dC, dI) zCl (w_LT a k zcontents zmakers zexecutables zlazies) sz (w_LT a k zcontents zmakers zexecutables y)) 0 0 (va_A (w_LT a k zcontents zmakers zexecutables zlazies) sz) := by
  refine Met.ofW (cc := b_LT_makeThere) (maxL := 2) (ret := none) (by decide) rfl ?_
  intro p e s m args below meth c s₁ B hml hv
  obtain ⟨rfl, rfl, hP, hK, hD, hN⟩ := hv
  have hx := B.exec
  have hb := B.bytes
  have hr := B.returns
  have hts := atoms_spec (ws := ww_LT_makeThere) B.pre
  have hown : s.vm.findClass R_LT = some m.cls := findClass_of_methodNamed B.named
  have hlocks := B.notSynchronized
  have hA : ∀ q : Nat, s.heap.size ≤ q → va_A (w_LT a k zcontents zmakers zexecutables zlazies) s.heap.size q := fun q h => Or.inr h
  refine z_start (lv := [(0, .ref (a 0)), (1, .int p1)]) (Nat.le_of_ble_eq_true rfl) rfl hP hD (fun H locs ls hP hD hS hl => ?_)
  unfold pf_LT_makeThere at hf
  refine lv_aload_n hx hb d_LT_makeThere_0 rfl (lv_at hl 0 rfl) ?_
  refine lv_iload_n hx hb d_LT_makeThere_1 rfl (lv_at hl 1 rfl) ?_
  obtain ⟨u0, hu0, hf⟩ := z_b hf
  have hPc := hP
  have hDc := hD
  have hKc := hK
  refine z_cwi (va_runV (As := [.int p1]) (rest := []) ⟨hx, hb, hml, hown, hts⟩ (c_LT_has l dC dI N a k zcontents zmakers zexecutables zlazies p1 hu0 H.size) (cwV 1 hts (zGV zsub_c k_1_199 k_1_200 k_1_201 k_1_4 kc_LT_has) rfl rfl rfl (by decide +kernel) ⟨Nat.le_of_ble_eq_true rfl, Nat.le_of_ble_eq_true rfl⟩) ⟨z_bl, va_recv hKc hPc (ci := 2) (q0 := 0) rfl rfl, fun U hU hW => ⟨rfl, z_pre hN hKc hPc hDc U hU hW⟩⟩ rfl rfl hl.1 rfl (lv_room (Nat.le_of_ble_eq_true rfl)) d_LT_makeThere_2 ⟨Nat.zero_le _, Nat.zero_le _⟩) hD hS hA (fun H locs hP hD hS => ?_)
  refine lv_if_eq (tgt := 15) hx hb d_LT_makeThere_5 (by decide) (fun c1 => ?_) (fun c1 => ?_)
  · have hf := z_t c1 hf
    obtain rfl := Option.some.inj hf
    exact z_vret hx hb hr hP hD hS d_LT_makeThere_15 hlocks
  · have hf := z_f c1 hf
    refine lv_aload_n hx hb d_LT_makeThere_8 rfl (lv_at hl 0 rfl) ?_
    refine va_get (D := (dC, dI)) (ci := 2) (v := .ref (a 4)) (C := R_LT) (T := F_LT) (N := 4) hx hb hts (fun w h => List.mem_cons_of_mem _ (in_LT w h)) hown hK hP 0 rfl rfl 3 (by decide) (hts _ (List.mem_cons_of_mem _ k_1_63)) (fun _ h9 => h9) rfl d_LT_makeThere_9 ?_
    refine lv_iload_n hx hb d_LT_makeThere_12 rfl (lv_at hl 1 rfl) ?_
    refine lv_iconst (v := (0 : Int32)) hx hb d_LT_makeThere_13 (by decide) ?_
    obtain ⟨g2, hf⟩ := z_gz hf
    refine va_zast hx hb hK hP hD hS 4 3 rfl rfl g2 d_LT_makeThere_14 (fun H locs hP hD hS => ?_)
    have hP : va_P (dC, dI) zCl (w_LT a k zcontents zmakers zexecutables (upd zlazies p1.toNatClampNeg (vp_nar .boolean (0 : Int32)))) H := hP
    have hD : va_D _ (w_LT a k zcontents zmakers zexecutables (upd zlazies p1.toNatClampNeg (vp_nar .boolean (0 : Int32)))) := hD
    obtain rfl := Option.some.inj hf
    exact z_vret hx hb hr hP hD hS d_LT_makeThere_15 hlocks
set_option maxHeartbeats 4000000 in
set_option maxRecDepth 100000 in
theorem c_LT_contentAt (l : Launch) (dC : Nat → ClassId) (dI : Nat → Nat → Nat) (N : Nat) (a : Nat → Nat) (k : Nat → ClassId) (zcontents : Nat → Int64) (zmakers : Nat → Int32) (zexecutables : Nat → Int32) (zlazies : Nat → Int32) (p1 : Int32) {y : (Int64)} (hf : pf_LT_contentAt N zcontents p1 = some y) (sz : Nat) : Met l y_LT_contentAt ww_LT_contentAt ({ frames := 1, cells := 0, slots := 0, locals := 21 }) (va_Pc [.ref (a 0), .int p1] (zB (dC, dI) zCl (t_LT k) (w_LT a k zcontents zmakers zexecutables zlazies) sz)) (zQl (dC, dI) zCl (w_LT a k zcontents zmakers zexecutables zlazies) sz y (w_LT a k zcontents zmakers zexecutables zlazies)) 0 0 (va_A (w_LT a k zcontents zmakers zexecutables zlazies) sz) := by
  refine Met.ofW (cc := b_LT_contentAt) (maxL := 2) (ret := (some .long)) (by decide) rfl ?_
  intro p e s m args below meth c s₁ B hml hv
  obtain ⟨rfl, rfl, hP, hK, hD, hN⟩ := hv
  have hx := B.exec
  have hb := B.bytes
  have hr := B.returns
  have hts := atoms_spec (ws := ww_LT_contentAt) B.pre
  have hown : s.vm.findClass R_LT = some m.cls := findClass_of_methodNamed B.named
  have hlocks := B.notSynchronized
  have hA : ∀ q : Nat, s.heap.size ≤ q → va_A (w_LT a k zcontents zmakers zexecutables zlazies) s.heap.size q := fun q h => Or.inr h
  refine z_start (lv := [(0, .ref (a 0)), (1, .int p1)]) (Nat.le_of_ble_eq_true rfl) rfl hP hD (fun H locs ls hP hD hS hl => ?_)
  unfold pf_LT_contentAt at hf
  refine lv_aload_n hx hb d_LT_contentAt_0 rfl (lv_at hl 0 rfl) ?_
  refine lv_iload_n hx hb d_LT_contentAt_1 rfl (lv_at hl 1 rfl) ?_
  obtain ⟨u0, hu0, hf⟩ := z_b hf
  have hPc := hP
  have hDc := hD
  have hKc := hK
  refine z_cwi (va_runV (As := [.int p1]) (rest := []) ⟨hx, hb, hml, hown, hts⟩ (c_LT_has l dC dI N a k zcontents zmakers zexecutables zlazies p1 hu0 H.size) (cwV 1 hts (zGV zsub_c k_1_199 k_1_200 k_1_201 k_1_4 kc_LT_has) rfl rfl rfl (by decide +kernel) ⟨Nat.le_of_ble_eq_true rfl, Nat.le_of_ble_eq_true rfl⟩) ⟨z_bl, va_recv hKc hPc (ci := 2) (q0 := 0) rfl rfl, fun U hU hW => ⟨rfl, z_pre hN hKc hPc hDc U hU hW⟩⟩ rfl rfl hl.1 rfl (lv_room (Nat.le_of_ble_eq_true rfl)) d_LT_contentAt_2 ⟨Nat.zero_le _, Nat.zero_le _⟩) hD hS hA (fun H locs hP hD hS => ?_)
  refine lv_if_eq (tgt := 17) hx hb d_LT_contentAt_5 (by decide) (fun c1 => ?_) (fun c1 => ?_)
  · have hf := z_t c1 hf
    refine lv_lconst (v := 0) hx hb d_LT_contentAt_17 (by decide) ?_
    obtain rfl := Option.some.inj hf
    exact z_lret hx hb hr hP hD hS d_LT_contentAt_18 hlocks
  · have hf := z_f c1 hf
    refine lv_aload_n hx hb d_LT_contentAt_8 rfl (lv_at hl 0 rfl) ?_
    refine va_get (D := (dC, dI)) (ci := 2) (v := .ref (a 1)) (C := R_LT) (T := F_LT) (N := 4) hx hb hts (fun w h => List.mem_cons_of_mem _ (in_LT w h)) hown hK hP 0 rfl rfl 0 (by decide) (hts _ (List.mem_cons_of_mem _ k_1_60)) (fun _ h9 => h9) rfl d_LT_contentAt_9 ?_
    refine lv_iload_n hx hb d_LT_contentAt_12 rfl (lv_at hl 1 rfl) ?_
    obtain ⟨g2, hf⟩ := z_gz hf
    refine va_lald hx hb hK hP 1 0 rfl rfl g2 d_LT_contentAt_13 ?_
    refine lv_goto (tgt := 18) hx hb d_LT_contentAt_14 (by decide) ?_
    obtain rfl := Option.some.inj hf
    exact z_lret hx hb hr hP hD hS d_LT_contentAt_18 hlocks
set_option maxHeartbeats 4000000 in
set_option maxRecDepth 100000 in
theorem c_LT_isLazy (l : Launch) (dC : Nat → ClassId) (dI : Nat → Nat → Nat) (N : Nat) (a : Nat → Nat) (k : Nat → ClassId) (zcontents : Nat → Int64) (zmakers : Nat → Int32) (zexecutables : Nat → Int32) (zlazies : Nat → Int32) (p1 : Int32) {y : (Int32)} (hf : pf_LT_isLazy N zcontents zlazies p1 = some y) (sz : Nat) : Met l y_LT_isLazy ww_LT_isLazy ({ frames := 1, cells := 0, slots := 0, locals := 21 }) (va_Pc [.ref (a 0), .int p1] (zB (dC, dI) zCl (t_LT k) (w_LT a k zcontents zmakers zexecutables zlazies) sz)) (zQi (dC, dI) zCl (w_LT a k zcontents zmakers zexecutables zlazies) sz y (w_LT a k zcontents zmakers zexecutables zlazies)) 0 0 (va_A (w_LT a k zcontents zmakers zexecutables zlazies) sz) := by
  refine Met.ofW (cc := b_LT_isLazy) (maxL := 2) (ret := (some .boolean)) (by decide) rfl ?_
  intro p e s m args below meth c s₁ B hml hv
  obtain ⟨rfl, rfl, hP, hK, hD, hN⟩ := hv
  have hx := B.exec
  have hb := B.bytes
  have hr := B.returns
  have hts := atoms_spec (ws := ww_LT_isLazy) B.pre
  have hown : s.vm.findClass R_LT = some m.cls := findClass_of_methodNamed B.named
  have hlocks := B.notSynchronized
  have hA : ∀ q : Nat, s.heap.size ≤ q → va_A (w_LT a k zcontents zmakers zexecutables zlazies) s.heap.size q := fun q h => Or.inr h
  refine z_start (lv := [(0, .ref (a 0)), (1, .int p1)]) (Nat.le_of_ble_eq_true rfl) rfl hP hD (fun H locs ls hP hD hS hl => ?_)
  unfold pf_LT_isLazy at hf
  refine lv_aload_n hx hb d_LT_isLazy_0 rfl (lv_at hl 0 rfl) ?_
  refine lv_iload_n hx hb d_LT_isLazy_1 rfl (lv_at hl 1 rfl) ?_
  obtain ⟨u0, hu0, hf⟩ := z_b hf
  have hPc := hP
  have hDc := hD
  have hKc := hK
  refine z_cwi (va_runV (As := [.int p1]) (rest := []) ⟨hx, hb, hml, hown, hts⟩ (c_LT_has l dC dI N a k zcontents zmakers zexecutables zlazies p1 hu0 H.size) (cwV 1 hts (zGV zsub_c k_1_199 k_1_200 k_1_201 k_1_4 kc_LT_has) rfl rfl rfl (by decide +kernel) ⟨Nat.le_of_ble_eq_true rfl, Nat.le_of_ble_eq_true rfl⟩) ⟨z_bl, va_recv hKc hPc (ci := 2) (q0 := 0) rfl rfl, fun U hU hW => ⟨rfl, z_pre hN hKc hPc hDc U hU hW⟩⟩ rfl rfl hl.1 rfl (lv_room (Nat.le_of_ble_eq_true rfl)) d_LT_isLazy_2 ⟨Nat.zero_le _, Nat.zero_le _⟩) hD hS hA (fun H locs hP hD hS => ?_)
  refine lv_if_eq (tgt := 21) hx hb d_LT_isLazy_5 (by decide) (fun c1 => ?_) (fun c1 => ?_)
  · have hf := z_t c1 hf
    refine lv_iconst (v := (0 : Int32)) hx hb d_LT_isLazy_21 (by decide) ?_
    obtain rfl := Option.some.inj hf
    exact z_zret hx hb hr (by decide) hP hD hS d_LT_isLazy_22 hlocks
  · have hf := z_f c1 hf
    refine lv_aload_n hx hb d_LT_isLazy_8 rfl (lv_at hl 0 rfl) ?_
    refine va_get (D := (dC, dI)) (ci := 2) (v := .ref (a 4)) (C := R_LT) (T := F_LT) (N := 4) hx hb hts (fun w h => List.mem_cons_of_mem _ (in_LT w h)) hown hK hP 0 rfl rfl 3 (by decide) (hts _ (List.mem_cons_of_mem _ k_1_63)) (fun _ h9 => h9) rfl d_LT_isLazy_9 ?_
    refine lv_iload_n hx hb d_LT_isLazy_12 rfl (lv_at hl 1 rfl) ?_
    obtain ⟨g2, hf⟩ := z_gz hf
    refine va_zald hx hb hK hP 4 3 rfl rfl g2 d_LT_isLazy_13 ?_
    refine lv_if_eq (tgt := 21) hx hb d_LT_isLazy_14 (by decide) (fun c3 => ?_) (fun c3 => ?_)
    · have hf := z_t c3 hf
      refine lv_iconst (v := (0 : Int32)) hx hb d_LT_isLazy_21 (by decide) ?_
      obtain rfl := Option.some.inj hf
      exact z_zret hx hb hr (by decide) hP hD hS d_LT_isLazy_22 hlocks
    · have hf := z_f c3 hf
      refine lv_iconst (v := (1 : Int32)) hx hb d_LT_isLazy_17 (by decide) ?_
      refine lv_goto (tgt := 22) hx hb d_LT_isLazy_18 (by decide) ?_
      obtain rfl := Option.some.inj hf
      exact z_zret hx hb hr (by decide) hP hD hS d_LT_isLazy_22 hlocks
set_option maxHeartbeats 4000000 in
set_option maxRecDepth 100000 in
theorem c_LT_storedIn (l : Launch) (dC : Nat → ClassId) (dI : Nat → Nat → Nat) (N : Nat) (a : Nat → Nat) (k : Nat → ClassId) (zcontents : Nat → Int64) (zmakers : Nat → Int32) (zexecutables : Nat → Int32) (zlazies : Nat → Int32) (p1 : Int32) {y : (Int64)} (hf : pf_LT_storedIn N zcontents zlazies p1 = some y) (sz : Nat) : Met l y_LT_storedIn ww_LT_storedIn ({ frames := 2, cells := 0, slots := 0, locals := 42 }) (va_Pc [.ref (a 0), .int p1] (zB (dC, dI) zCl (t_LT k) (w_LT a k zcontents zmakers zexecutables zlazies) sz)) (zQl (dC, dI) zCl (w_LT a k zcontents zmakers zexecutables zlazies) sz y (w_LT a k zcontents zmakers zexecutables zlazies)) 0 0 (va_A (w_LT a k zcontents zmakers zexecutables zlazies) sz) := by
  refine Met.ofW (cc := b_LT_storedIn) (maxL := 2) (ret := (some .long)) (by decide) rfl ?_
  intro p e s m args below meth c s₁ B hml hv
  obtain ⟨rfl, rfl, hP, hK, hD, hN⟩ := hv
  have hx := B.exec
  have hb := B.bytes
  have hr := B.returns
  have hts := atoms_spec (ws := ww_LT_storedIn) B.pre
  have hown : s.vm.findClass R_LT = some m.cls := findClass_of_methodNamed B.named
  have hlocks := B.notSynchronized
  have hA : ∀ q : Nat, s.heap.size ≤ q → va_A (w_LT a k zcontents zmakers zexecutables zlazies) s.heap.size q := fun q h => Or.inr h
  refine z_start (lv := [(0, .ref (a 0)), (1, .int p1)]) (Nat.le_of_ble_eq_true rfl) rfl hP hD (fun H locs ls hP hD hS hl => ?_)
  unfold pf_LT_storedIn at hf
  refine lv_aload_n hx hb d_LT_storedIn_0 rfl (lv_at hl 0 rfl) ?_
  refine lv_iload_n hx hb d_LT_storedIn_1 rfl (lv_at hl 1 rfl) ?_
  obtain ⟨u0, hu0, hf⟩ := z_b hf
  have hPc := hP
  have hDc := hD
  have hKc := hK
  refine z_cwi (va_runV (As := [.int p1]) (rest := []) ⟨hx, hb, hml, hown, hts⟩ (c_LT_isLazy l dC dI N a k zcontents zmakers zexecutables zlazies p1 hu0 H.size) (cwV 1 hts (zGV zsub_c k_2_148 k_2_28 k_2_29 k_1_4 kc_LT_isLazy) rfl rfl rfl (by decide +kernel) ⟨Nat.le_of_ble_eq_true rfl, Nat.le_of_ble_eq_true rfl⟩) ⟨z_bl, va_recv hKc hPc (ci := 2) (q0 := 0) rfl rfl, fun U hU hW => ⟨rfl, z_pre hN hKc hPc hDc U hU hW⟩⟩ rfl rfl hl.1 rfl (lv_room (Nat.le_of_ble_eq_true rfl)) d_LT_storedIn_2 ⟨Nat.zero_le _, Nat.zero_le _⟩) hD hS hA (fun H locs hP hD hS => ?_)
  refine lv_if_eq (tgt := 12) hx hb d_LT_storedIn_5 (by decide) (fun c1 => ?_) (fun c1 => ?_)
  · have hf := z_t c1 hf
    refine lv_aload_n hx hb d_LT_storedIn_12 rfl (lv_at hl 0 rfl) ?_
    refine lv_iload_n hx hb d_LT_storedIn_13 rfl (lv_at hl 1 rfl) ?_
    obtain ⟨u1, hu1, hf⟩ := z_b hf
    have hPc := hP
    have hDc := hD
    have hKc := hK
    refine z_cwl (va_runV (As := [.int p1]) (rest := []) ⟨hx, hb, hml, hown, hts⟩ (c_LT_contentAt l dC dI N a k zcontents zmakers zexecutables zlazies p1 hu1 H.size) (cwV 1 hts (zGV zsub_c k_2_149 k_2_20 k_2_21 k_1_4 kc_LT_contentAt) rfl rfl rfl (by decide +kernel) ⟨Nat.le_of_ble_eq_true rfl, Nat.le_of_ble_eq_true rfl⟩) ⟨z_bl, va_recv hKc hPc (ci := 2) (q0 := 0) rfl rfl, fun U hU hW => ⟨rfl, z_pre hN hKc hPc hDc U hU hW⟩⟩ rfl rfl hl.1 rfl (lv_room (Nat.le_of_ble_eq_true rfl)) d_LT_storedIn_14 ⟨Nat.zero_le _, Nat.zero_le _⟩) hD hS hA (fun H locs hP hD hS => ?_)
    obtain rfl := Option.some.inj hf
    exact z_lret hx hb hr hP hD hS d_LT_storedIn_17 hlocks
  · have hf := z_f c1 hf
    refine lv_lconst (v := 0) hx hb d_LT_storedIn_8 (by decide) ?_
    refine lv_goto (tgt := 17) hx hb d_LT_storedIn_9 (by decide) ?_
    obtain rfl := Option.some.inj hf
    exact z_lret hx hb hr hP hD hS d_LT_storedIn_17 hlocks
set_option maxHeartbeats 4000000 in
set_option maxRecDepth 100000 in
theorem c_LT_stepAt (l : Launch) (dC : Nat → ClassId) (dI : Nat → Nat → Nat) (N : Nat) (a : Nat → Nat) (k : Nat → ClassId) (zcontents : Nat → Int64) (zmakers : Nat → Int32) (zexecutables : Nat → Int32) (zlazies : Nat → Int32) (p1 : Int32) {y : (Int32)} (hf : pf_LT_stepAt N zcontents zmakers p1 = some y) (sz : Nat) : Met l y_LT_stepAt ww_LT_stepAt ({ frames := 1, cells := 0, slots := 0, locals := 21 }) (va_Pc [.ref (a 0), .int p1] (zB (dC, dI) zCl (t_LT k) (w_LT a k zcontents zmakers zexecutables zlazies) sz)) (zQi (dC, dI) zCl (w_LT a k zcontents zmakers zexecutables zlazies) sz y (w_LT a k zcontents zmakers zexecutables zlazies)) 0 0 (va_A (w_LT a k zcontents zmakers zexecutables zlazies) sz) := by
  refine Met.ofW (cc := b_LT_stepAt) (maxL := 2) (ret := (some .int)) (by decide) rfl ?_
  intro p e s m args below meth c s₁ B hml hv
  obtain ⟨rfl, rfl, hP, hK, hD, hN⟩ := hv
  have hx := B.exec
  have hb := B.bytes
  have hr := B.returns
  have hts := atoms_spec (ws := ww_LT_stepAt) B.pre
  have hown : s.vm.findClass R_LT = some m.cls := findClass_of_methodNamed B.named
  have hlocks := B.notSynchronized
  have hA : ∀ q : Nat, s.heap.size ≤ q → va_A (w_LT a k zcontents zmakers zexecutables zlazies) s.heap.size q := fun q h => Or.inr h
  refine z_start (lv := [(0, .ref (a 0)), (1, .int p1)]) (Nat.le_of_ble_eq_true rfl) rfl hP hD (fun H locs ls hP hD hS hl => ?_)
  unfold pf_LT_stepAt at hf
  refine lv_aload_n hx hb d_LT_stepAt_0 rfl (lv_at hl 0 rfl) ?_
  refine lv_iload_n hx hb d_LT_stepAt_1 rfl (lv_at hl 1 rfl) ?_
  obtain ⟨u0, hu0, hf⟩ := z_b hf
  have hPc := hP
  have hDc := hD
  have hKc := hK
  refine z_cwi (va_runV (As := [.int p1]) (rest := []) ⟨hx, hb, hml, hown, hts⟩ (c_LT_has l dC dI N a k zcontents zmakers zexecutables zlazies p1 hu0 H.size) (cwV 1 hts (zGV zsub_c k_1_199 k_1_200 k_1_201 k_1_4 kc_LT_has) rfl rfl rfl (by decide +kernel) ⟨Nat.le_of_ble_eq_true rfl, Nat.le_of_ble_eq_true rfl⟩) ⟨z_bl, va_recv hKc hPc (ci := 2) (q0 := 0) rfl rfl, fun U hU hW => ⟨rfl, z_pre hN hKc hPc hDc U hU hW⟩⟩ rfl rfl hl.1 rfl (lv_room (Nat.le_of_ble_eq_true rfl)) d_LT_stepAt_2 ⟨Nat.zero_le _, Nat.zero_le _⟩) hD hS hA (fun H locs hP hD hS => ?_)
  refine lv_if_eq (tgt := 17) hx hb d_LT_stepAt_5 (by decide) (fun c1 => ?_) (fun c1 => ?_)
  · have hf := z_t c1 hf
    refine lv_iconst (v := (-1 : Int32)) hx hb d_LT_stepAt_17 (by decide) ?_
    obtain rfl := Option.some.inj hf
    exact z_iret hx hb hr hP hD hS d_LT_stepAt_18 hlocks
  · have hf := z_f c1 hf
    refine lv_aload_n hx hb d_LT_stepAt_8 rfl (lv_at hl 0 rfl) ?_
    refine va_get (D := (dC, dI)) (ci := 2) (v := .ref (a 2)) (C := R_LT) (T := F_LT) (N := 4) hx hb hts (fun w h => List.mem_cons_of_mem _ (in_LT w h)) hown hK hP 0 rfl rfl 1 (by decide) (hts _ (List.mem_cons_of_mem _ k_1_61)) (fun _ h9 => h9) rfl d_LT_stepAt_9 ?_
    refine lv_iload_n hx hb d_LT_stepAt_12 rfl (lv_at hl 1 rfl) ?_
    obtain ⟨g2, hf⟩ := z_gz hf
    refine va_iald hx hb hK hP 2 1 rfl rfl g2 d_LT_stepAt_13 ?_
    refine lv_goto (tgt := 18) hx hb d_LT_stepAt_14 (by decide) ?_
    obtain rfl := Option.some.inj hf
    exact z_iret hx hb hr hP hD hS d_LT_stepAt_18 hlocks
set_option maxHeartbeats 4000000 in
set_option maxRecDepth 100000 in
theorem c_LT_isOfStep (l : Launch) (dC : Nat → ClassId) (dI : Nat → Nat → Nat) (N : Nat) (a : Nat → Nat) (k : Nat → ClassId) (zcontents : Nat → Int64) (zmakers : Nat → Int32) (zexecutables : Nat → Int32) (zlazies : Nat → Int32) (p1 : Int32) (p2 : Int32) {y : (Int32)} (hf : pf_LT_isOfStep N zcontents zmakers p1 p2 = some y) (sz : Nat) : Met l y_LT_isOfStep ww_LT_isOfStep ({ frames := 1, cells := 0, slots := 0, locals := 21 }) (va_Pc [.ref (a 0), .int p1, .int p2] (zB (dC, dI) zCl (t_LT k) (w_LT a k zcontents zmakers zexecutables zlazies) sz)) (zQi (dC, dI) zCl (w_LT a k zcontents zmakers zexecutables zlazies) sz y (w_LT a k zcontents zmakers zexecutables zlazies)) 0 0 (va_A (w_LT a k zcontents zmakers zexecutables zlazies) sz) := by
  refine Met.ofW (cc := b_LT_isOfStep) (maxL := 3) (ret := (some .boolean)) (by decide) rfl ?_
  intro p e s m args below meth c s₁ B hml hv
  obtain ⟨rfl, rfl, hP, hK, hD, hN⟩ := hv
  have hx := B.exec
  have hb := B.bytes
  have hr := B.returns
  have hts := atoms_spec (ws := ww_LT_isOfStep) B.pre
  have hown : s.vm.findClass R_LT = some m.cls := findClass_of_methodNamed B.named
  have hlocks := B.notSynchronized
  have hA : ∀ q : Nat, s.heap.size ≤ q → va_A (w_LT a k zcontents zmakers zexecutables zlazies) s.heap.size q := fun q h => Or.inr h
  refine z_start (lv := [(0, .ref (a 0)), (1, .int p1), (2, .int p2)]) (Nat.le_of_ble_eq_true rfl) rfl hP hD (fun H locs ls hP hD hS hl => ?_)
  unfold pf_LT_isOfStep at hf
  refine lv_aload_n hx hb d_LT_isOfStep_0 rfl (lv_at hl 0 rfl) ?_
  refine lv_iload_n hx hb d_LT_isOfStep_1 rfl (lv_at hl 1 rfl) ?_
  obtain ⟨u0, hu0, hf⟩ := z_b hf
  have hPc := hP
  have hDc := hD
  have hKc := hK
  refine z_cwi (va_runV (As := [.int p1]) (rest := []) ⟨hx, hb, hml, hown, hts⟩ (c_LT_has l dC dI N a k zcontents zmakers zexecutables zlazies p1 hu0 H.size) (cwV 1 hts (zGV zsub_c k_1_199 k_1_200 k_1_201 k_1_4 kc_LT_has) rfl rfl rfl (by decide +kernel) ⟨Nat.le_of_ble_eq_true rfl, Nat.le_of_ble_eq_true rfl⟩) ⟨z_bl, va_recv hKc hPc (ci := 2) (q0 := 0) rfl rfl, fun U hU hW => ⟨rfl, z_pre hN hKc hPc hDc U hU hW⟩⟩ rfl rfl hl.1 rfl (lv_room (Nat.le_of_ble_eq_true rfl)) d_LT_isOfStep_2 ⟨Nat.zero_le _, Nat.zero_le _⟩) hD hS hA (fun H locs hP hD hS => ?_)
  refine lv_if_eq (tgt := 22) hx hb d_LT_isOfStep_5 (by decide) (fun c1 => ?_) (fun c1 => ?_)
  · have hf := z_t c1 hf
    refine lv_iconst (v := (0 : Int32)) hx hb d_LT_isOfStep_22 (by decide) ?_
    obtain rfl := Option.some.inj hf
    exact z_zret hx hb hr (by decide) hP hD hS d_LT_isOfStep_23 hlocks
  · have hf := z_f c1 hf
    refine lv_aload_n hx hb d_LT_isOfStep_8 rfl (lv_at hl 0 rfl) ?_
    refine va_get (D := (dC, dI)) (ci := 2) (v := .ref (a 2)) (C := R_LT) (T := F_LT) (N := 4) hx hb hts (fun w h => List.mem_cons_of_mem _ (in_LT w h)) hown hK hP 0 rfl rfl 1 (by decide) (hts _ (List.mem_cons_of_mem _ k_1_61)) (fun _ h9 => h9) rfl d_LT_isOfStep_9 ?_
    refine lv_iload_n hx hb d_LT_isOfStep_12 rfl (lv_at hl 1 rfl) ?_
    obtain ⟨g2, hf⟩ := z_gz hf
    refine va_iald hx hb hK hP 2 1 rfl rfl g2 d_LT_isOfStep_13 ?_
    refine lv_iload_n hx hb d_LT_isOfStep_14 rfl (lv_at hl 2 rfl) ?_
    refine lv_icmp_ne (tgt := 22) hx hb d_LT_isOfStep_15 (by decide) (fun c3 => ?_) (fun c3 => ?_)
    · have hf := z_t c3 hf
      refine lv_iconst (v := (0 : Int32)) hx hb d_LT_isOfStep_22 (by decide) ?_
      obtain rfl := Option.some.inj hf
      exact z_zret hx hb hr (by decide) hP hD hS d_LT_isOfStep_23 hlocks
    · have hf := z_fn c3 hf
      refine lv_iconst (v := (1 : Int32)) hx hb d_LT_isOfStep_18 (by decide) ?_
      refine lv_goto (tgt := 23) hx hb d_LT_isOfStep_19 (by decide) ?_
      obtain rfl := Option.some.inj hf
      exact z_zret hx hb hr (by decide) hP hD hS d_LT_isOfStep_23 hlocks
set_option maxHeartbeats 4000000 in
set_option maxRecDepth 100000 in
theorem c_LT_isExecutable (l : Launch) (dC : Nat → ClassId) (dI : Nat → Nat → Nat) (N : Nat) (a : Nat → Nat) (k : Nat → ClassId) (zcontents : Nat → Int64) (zmakers : Nat → Int32) (zexecutables : Nat → Int32) (zlazies : Nat → Int32) (p1 : Int32) {y : (Int32)} (hf : pf_LT_isExecutable N zcontents zexecutables p1 = some y) (sz : Nat) : Met l y_LT_isExecutable ww_LT_isExecutable ({ frames := 1, cells := 0, slots := 0, locals := 21 }) (va_Pc [.ref (a 0), .int p1] (zB (dC, dI) zCl (t_LT k) (w_LT a k zcontents zmakers zexecutables zlazies) sz)) (zQi (dC, dI) zCl (w_LT a k zcontents zmakers zexecutables zlazies) sz y (w_LT a k zcontents zmakers zexecutables zlazies)) 0 0 (va_A (w_LT a k zcontents zmakers zexecutables zlazies) sz) := by
  refine Met.ofW (cc := b_LT_isExecutable) (maxL := 2) (ret := (some .boolean)) (by decide) rfl ?_
  intro p e s m args below meth c s₁ B hml hv
  obtain ⟨rfl, rfl, hP, hK, hD, hN⟩ := hv
  have hx := B.exec
  have hb := B.bytes
  have hr := B.returns
  have hts := atoms_spec (ws := ww_LT_isExecutable) B.pre
  have hown : s.vm.findClass R_LT = some m.cls := findClass_of_methodNamed B.named
  have hlocks := B.notSynchronized
  have hA : ∀ q : Nat, s.heap.size ≤ q → va_A (w_LT a k zcontents zmakers zexecutables zlazies) s.heap.size q := fun q h => Or.inr h
  refine z_start (lv := [(0, .ref (a 0)), (1, .int p1)]) (Nat.le_of_ble_eq_true rfl) rfl hP hD (fun H locs ls hP hD hS hl => ?_)
  unfold pf_LT_isExecutable at hf
  refine lv_aload_n hx hb d_LT_isExecutable_0 rfl (lv_at hl 0 rfl) ?_
  refine lv_iload_n hx hb d_LT_isExecutable_1 rfl (lv_at hl 1 rfl) ?_
  obtain ⟨u0, hu0, hf⟩ := z_b hf
  have hPc := hP
  have hDc := hD
  have hKc := hK
  refine z_cwi (va_runV (As := [.int p1]) (rest := []) ⟨hx, hb, hml, hown, hts⟩ (c_LT_has l dC dI N a k zcontents zmakers zexecutables zlazies p1 hu0 H.size) (cwV 1 hts (zGV zsub_c k_1_199 k_1_200 k_1_201 k_1_4 kc_LT_has) rfl rfl rfl (by decide +kernel) ⟨Nat.le_of_ble_eq_true rfl, Nat.le_of_ble_eq_true rfl⟩) ⟨z_bl, va_recv hKc hPc (ci := 2) (q0 := 0) rfl rfl, fun U hU hW => ⟨rfl, z_pre hN hKc hPc hDc U hU hW⟩⟩ rfl rfl hl.1 rfl (lv_room (Nat.le_of_ble_eq_true rfl)) d_LT_isExecutable_2 ⟨Nat.zero_le _, Nat.zero_le _⟩) hD hS hA (fun H locs hP hD hS => ?_)
  refine lv_if_eq (tgt := 21) hx hb d_LT_isExecutable_5 (by decide) (fun c1 => ?_) (fun c1 => ?_)
  · have hf := z_t c1 hf
    refine lv_iconst (v := (0 : Int32)) hx hb d_LT_isExecutable_21 (by decide) ?_
    obtain rfl := Option.some.inj hf
    exact z_zret hx hb hr (by decide) hP hD hS d_LT_isExecutable_22 hlocks
  · have hf := z_f c1 hf
    refine lv_aload_n hx hb d_LT_isExecutable_8 rfl (lv_at hl 0 rfl) ?_
    refine va_get (D := (dC, dI)) (ci := 2) (v := .ref (a 3)) (C := R_LT) (T := F_LT) (N := 4) hx hb hts (fun w h => List.mem_cons_of_mem _ (in_LT w h)) hown hK hP 0 rfl rfl 2 (by decide) (hts _ (List.mem_cons_of_mem _ k_1_62)) (fun _ h9 => h9) rfl d_LT_isExecutable_9 ?_
    refine lv_iload_n hx hb d_LT_isExecutable_12 rfl (lv_at hl 1 rfl) ?_
    obtain ⟨g2, hf⟩ := z_gz hf
    refine va_zald hx hb hK hP 3 2 rfl rfl g2 d_LT_isExecutable_13 ?_
    refine lv_if_eq (tgt := 21) hx hb d_LT_isExecutable_14 (by decide) (fun c3 => ?_) (fun c3 => ?_)
    · have hf := z_t c3 hf
      refine lv_iconst (v := (0 : Int32)) hx hb d_LT_isExecutable_21 (by decide) ?_
      obtain rfl := Option.some.inj hf
      exact z_zret hx hb hr (by decide) hP hD hS d_LT_isExecutable_22 hlocks
    · have hf := z_f c3 hf
      refine lv_iconst (v := (1 : Int32)) hx hb d_LT_isExecutable_17 (by decide) ?_
      refine lv_goto (tgt := 22) hx hb d_LT_isExecutable_18 (by decide) ?_
      obtain rfl := Option.some.inj hf
      exact z_zret hx hb hr (by decide) hP hD hS d_LT_isExecutable_22 hlocks
