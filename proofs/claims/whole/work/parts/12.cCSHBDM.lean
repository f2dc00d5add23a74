set_option maxHeartbeats 4000000 in
set_option maxRecDepth 100000 in
theorem c_OS_isTarget (l : Launch) (dC : Nat → ClassId) (dI : Nat → Nat → Nat) (N : Nat) (a : Nat → Nat) (k : Nat → ClassId) (p0 : Int32) {y : (Int32)} (hf : pf_OS_isTarget N p0 = some y) (sz : Nat) : Met l y_OS_isTarget ww_OS_isTarget ({ frames := 0, cells := 0, slots := 0, locals := 0 }) (va_Pc [.int p0] (zB (dC, dI) zCl ([] : List (ClassId × FieldType)) ([] : va_W) sz)) (zQi (dC, dI) zCl ([] : va_W) sz y ([] : va_W)) 0 0 (va_A ([] : va_W) sz) := by
  refine Met.ofW (cc := b_OS_isTarget) (maxL := 1) (ret := (some .boolean)) (by decide) rfl ?_
  intro p e s m args below meth c s₁ B hml hv
  obtain ⟨rfl, rfl, hP, hK, hD, hN⟩ := hv
  have hx := B.exec
  have hb := B.bytes
  have hr := B.returns
  have hts := atoms_spec (ws := ww_OS_isTarget) B.pre
  have hown : s.vm.findClass R_OS = some m.cls := findClass_of_methodNamed B.named
  have hlocks := B.notSynchronized
  have hA : ∀ q : Nat, s.heap.size ≤ q → va_A ([] : va_W) s.heap.size q := fun q h => Or.inr h
  refine z_start (lv := [(0, .int p0)]) (Nat.le_of_ble_eq_true rfl) rfl hP hD (fun H locs ls hP hD hS hl => ?_)
  unfold pf_OS_isTarget at hf
  refine lv_iload_n hx hb d_OS_isTarget_0 rfl (lv_at hl 0 rfl) ?_
  refine lv_if_lt (tgt := 14) hx hb d_OS_isTarget_1 (by decide) (fun c1 => ?_) (fun c1 => ?_)
  · have hf := z_t c1 hf
    refine lv_iconst (v := (0 : Int32)) hx hb d_OS_isTarget_14 (by decide) ?_
    obtain rfl := Option.some.inj hf
    exact z_zret hx hb hr (Or.inl rfl) hP hD hS d_OS_isTarget_15 hlocks
  · have hf := z_f c1 hf
    refine lv_iload_n hx hb d_OS_isTarget_4 rfl (lv_at hl 0 rfl) ?_
    refine lv_bipush (v := (nI 12)) hx hb d_OS_isTarget_5 (by decide) ?_
    refine lv_icmp_ge (tgt := 14) hx hb d_OS_isTarget_7 (by decide) (fun c2 => ?_) (fun c2 => ?_)
    · have hf := z_t c2 hf
      refine lv_iconst (v := (0 : Int32)) hx hb d_OS_isTarget_14 (by decide) ?_
      obtain rfl := Option.some.inj hf
      exact z_zret hx hb hr (Or.inl rfl) hP hD hS d_OS_isTarget_15 hlocks
    · have hf := z_f c2 hf
      refine lv_iconst (v := (1 : Int32)) hx hb d_OS_isTarget_10 (by decide) ?_
      refine lv_goto (tgt := 15) hx hb d_OS_isTarget_11 (by decide) ?_
      obtain rfl := Option.some.inj hf
      exact z_zret hx hb hr (Or.inr rfl) hP hD hS d_OS_isTarget_15 hlocks
set_option maxHeartbeats 4000000 in
set_option maxRecDepth 100000 in
theorem c_OS_isConfiguration (l : Launch) (dC : Nat → ClassId) (dI : Nat → Nat → Nat) (N : Nat) (a : Nat → Nat) (k : Nat → ClassId) (p0 : Int32) {y : (Int32)} (hf : pf_OS_isConfiguration N p0 = some y) (sz : Nat) : Met l y_OS_isConfiguration ww_OS_isConfiguration ({ frames := 0, cells := 0, slots := 0, locals := 0 }) (va_Pc [.int p0] (zB (dC, dI) zCl ([] : List (ClassId × FieldType)) ([] : va_W) sz)) (zQi (dC, dI) zCl ([] : va_W) sz y ([] : va_W)) 0 0 (va_A ([] : va_W) sz) := by
  refine Met.ofW (cc := b_OS_isConfiguration) (maxL := 1) (ret := (some .boolean)) (by decide) rfl ?_
  intro p e s m args below meth c s₁ B hml hv
  obtain ⟨rfl, rfl, hP, hK, hD, hN⟩ := hv
  have hx := B.exec
  have hb := B.bytes
  have hr := B.returns
  have hts := atoms_spec (ws := ww_OS_isConfiguration) B.pre
  have hown : s.vm.findClass R_OS = some m.cls := findClass_of_methodNamed B.named
  have hlocks := B.notSynchronized
  have hA : ∀ q : Nat, s.heap.size ≤ q → va_A ([] : va_W) s.heap.size q := fun q h => Or.inr h
  refine z_start (lv := [(0, .int p0)]) (Nat.le_of_ble_eq_true rfl) rfl hP hD (fun H locs ls hP hD hS hl => ?_)
  unfold pf_OS_isConfiguration at hf
  refine lv_iload_n hx hb d_OS_isConfiguration_0 rfl (lv_at hl 0 rfl) ?_
  refine lv_if_lt (tgt := 13) hx hb d_OS_isConfiguration_1 (by decide) (fun c1 => ?_) (fun c1 => ?_)
  · have hf := z_t c1 hf
    refine lv_iconst (v := (0 : Int32)) hx hb d_OS_isConfiguration_13 (by decide) ?_
    obtain rfl := Option.some.inj hf
    exact z_zret hx hb hr (Or.inl rfl) hP hD hS d_OS_isConfiguration_14 hlocks
  · have hf := z_f c1 hf
    refine lv_iload_n hx hb d_OS_isConfiguration_4 rfl (lv_at hl 0 rfl) ?_
    refine lv_iconst (v := (nI 4)) hx hb d_OS_isConfiguration_5 (by decide) ?_
    refine lv_icmp_ge (tgt := 13) hx hb d_OS_isConfiguration_6 (by decide) (fun c2 => ?_) (fun c2 => ?_)
    · have hf := z_t c2 hf
      refine lv_iconst (v := (0 : Int32)) hx hb d_OS_isConfiguration_13 (by decide) ?_
      obtain rfl := Option.some.inj hf
      exact z_zret hx hb hr (Or.inl rfl) hP hD hS d_OS_isConfiguration_14 hlocks
    · have hf := z_f c2 hf
      refine lv_iconst (v := (1 : Int32)) hx hb d_OS_isConfiguration_9 (by decide) ?_
      refine lv_goto (tgt := 14) hx hb d_OS_isConfiguration_10 (by decide) ?_
      obtain rfl := Option.some.inj hf
      exact z_zret hx hb hr (Or.inr rfl) hP hD hS d_OS_isConfiguration_14 hlocks
set_option maxHeartbeats 4000000 in
set_option maxRecDepth 100000 in
theorem c_OS_isRun (l : Launch) (dC : Nat → ClassId) (dI : Nat → Nat → Nat) (N : Nat) (a : Nat → Nat) (k : Nat → ClassId) (p0 : Int32) {y : (Int32)} (hf : pf_OS_isRun N p0 = some y) (sz : Nat) : Met l y_OS_isRun ww_OS_isRun ({ frames := 0, cells := 0, slots := 0, locals := 0 }) (va_Pc [.int p0] (zB (dC, dI) zCl ([] : List (ClassId × FieldType)) ([] : va_W) sz)) (zQi (dC, dI) zCl ([] : va_W) sz y ([] : va_W)) 0 0 (va_A ([] : va_W) sz) := by
  refine Met.ofW (cc := b_OS_isRun) (maxL := 1) (ret := (some .boolean)) (by decide) rfl ?_
  intro p e s m args below meth c s₁ B hml hv
  obtain ⟨rfl, rfl, hP, hK, hD, hN⟩ := hv
  have hx := B.exec
  have hb := B.bytes
  have hr := B.returns
  have hts := atoms_spec (ws := ww_OS_isRun) B.pre
  have hown : s.vm.findClass R_OS = some m.cls := findClass_of_methodNamed B.named
  have hlocks := B.notSynchronized
  have hA : ∀ q : Nat, s.heap.size ≤ q → va_A ([] : va_W) s.heap.size q := fun q h => Or.inr h
  refine z_start (lv := [(0, .int p0)]) (Nat.le_of_ble_eq_true rfl) rfl hP hD (fun H locs ls hP hD hS hl => ?_)
  unfold pf_OS_isRun at hf
  refine lv_iload_n hx hb d_OS_isRun_0 rfl (lv_at hl 0 rfl) ?_
  refine lv_if_lt (tgt := 14) hx hb d_OS_isRun_1 (by decide) (fun c1 => ?_) (fun c1 => ?_)
  · have hf := z_t c1 hf
    refine lv_iconst (v := (0 : Int32)) hx hb d_OS_isRun_14 (by decide) ?_
    obtain rfl := Option.some.inj hf
    exact z_zret hx hb hr (Or.inl rfl) hP hD hS d_OS_isRun_15 hlocks
  · have hf := z_f c1 hf
    refine lv_iload_n hx hb d_OS_isRun_4 rfl (lv_at hl 0 rfl) ?_
    refine lv_bipush (v := (nI 8)) hx hb d_OS_isRun_5 (by decide) ?_
    refine lv_icmp_ge (tgt := 14) hx hb d_OS_isRun_7 (by decide) (fun c2 => ?_) (fun c2 => ?_)
    · have hf := z_t c2 hf
      refine lv_iconst (v := (0 : Int32)) hx hb d_OS_isRun_14 (by decide) ?_
      obtain rfl := Option.some.inj hf
      exact z_zret hx hb hr (Or.inl rfl) hP hD hS d_OS_isRun_15 hlocks
    · have hf := z_f c2 hf
      refine lv_iconst (v := (1 : Int32)) hx hb d_OS_isRun_10 (by decide) ?_
      refine lv_goto (tgt := 15) hx hb d_OS_isRun_11 (by decide) ?_
      obtain rfl := Option.some.inj hf
      exact z_zret hx hb hr (Or.inr rfl) hP hD hS d_OS_isRun_15 hlocks
set_option maxHeartbeats 4000000 in
set_option maxRecDepth 100000 in
theorem c_OS_find (l : Launch) (dC : Nat → ClassId) (dI : Nat → Nat → Nat) (N : Nat) (a : Nat → Nat) (k : Nat → ClassId) (zn0 : Nat) (zr0 : Nat → Int64) (p1 : Int32) (p2 : Int64) {y : (Int32)} (hf : pf_OS_find N zr0 zn0 p1 p2 = some y) (sz : Nat) : Met l y_OS_find ww_OS_find ({ frames := 0, cells := 0, slots := 0, locals := 0 }) (va_Pc [.ref (a 0), .int p1, .long p2] (zB (dC, dI) zCl ([(k 0, .long)] : List (ClassId × FieldType)) ([(a 0, .inl (k 0, zn0, .inr (.inl zr0)))] : va_W) sz)) (zQi (dC, dI) zCl ([(a 0, .inl (k 0, zn0, .inr (.inl zr0)))] : va_W) sz y ([(a 0, .inl (k 0, zn0, .inr (.inl zr0)))] : va_W)) 0 0 (va_A ([(a 0, .inl (k 0, zn0, .inr (.inl zr0)))] : va_W) sz) := by
  refine Met.ofW (cc := b_OS_find) (maxL := 5) (ret := (some .int)) (by decide) rfl ?_
  intro p e s m args below meth c s₁ B hml hv
  obtain ⟨rfl, rfl, hP, hK, hD, hN⟩ := hv
  have hx := B.exec
  have hb := B.bytes
  have hr := B.returns
  have hts := atoms_spec (ws := ww_OS_find) B.pre
  have hown : s.vm.findClass R_OS = some m.cls := findClass_of_methodNamed B.named
  have hlocks := B.notSynchronized
  have hA : ∀ q : Nat, s.heap.size ≤ q → va_A ([(a 0, .inl (k 0, zn0, .inr (.inl zr0)))] : va_W) s.heap.size q := fun q h => Or.inr h
  refine z_start (lv := [(0, .ref (a 0)), (1, .int p1), (2, .long p2)]) (Nat.le_of_ble_eq_true rfl) rfl hP hD (fun H locs ls hP hD hS hl => ?_)
  unfold pf_OS_find at hf
  refine lv_iconst (v := (0 : Int32)) hx hb d_OS_find_0 (by decide) ?_
  refine lv_istore (lv' := [(4, .int (0 : Int32)), (0, .ref (a 0)), (1, .int p1), (2, .long p2)]) hx hb d_OS_find_1 hl (by decide) rfl (fun ls hl => ?_)
  have loop3 : ∀ (n : Nat) (x4 : Int32), pf_OS_find_L3 N zn0 zr0 p1 p2 n x4 = some y → ∀ (H : Heap) (locs : List Loc) (ls : Array Slot), va_P (dC, dI) zCl ([(a 0, .inl (k 0, zn0, .inr (.inl zr0)))] : va_W) H → va_D (va_A ([(a 0, .inl (k 0, zn0, .inr (.inl zr0)))] : va_W) s.heap.size) ([(a 0, .inl (k 0, zn0, .inr (.inl zr0)))] : va_W) → va_S (va_A ([(a 0, .inl (k 0, zn0, .inr (.inl zr0)))] : va_W) s.heap.size) s.heap H locs → lv_has ls 5 [(0, .ref (a 0)), (1, .int p1), (2, .long p2), (4, .int x4)] → W p l e (headSpec ww_OS_find ({ frames := 0, cells := 0, slots := 0, locals := 0 })).room s m ([.ref (a 0), .int p1, .long p2] : List Value).toArray below meth c H locs 0 0 (MQ below (zQi (dC, dI) zCl ([(a 0, .inl (k 0, zn0, .inr (.inl zr0)))] : va_W) s.heap.size y ([(a 0, .inl (k 0, zn0, .inr (.inl zr0)))] : va_W)) ([.ref (a 0), .int p1, .long p2] : List Value).toArray s 0 0 (va_A ([(a 0, .inl (k 0, zn0, .inr (.inl zr0)))] : va_W) s.heap.size)) (F0 m 3 ls []) := by
    intro n3
    induction n3 with
    | zero => intro x4 hf; rw [pf_OS_find_L3.eq_1] at hf; cases hf
    | succ n3 ih3 =>
      intro x4 hf H locs ls hP hD hS hl
      rw [pf_OS_find_L3.eq_2] at hf
      refine lv_iload hx hb d_OS_find_3 (lv_at hl 3 rfl) ?_
      refine lv_iload_n hx hb d_OS_find_5 rfl (lv_at hl 1 rfl) ?_
      refine lv_icmp_ge (tgt := 34) hx hb d_OS_find_6 (by decide) (fun c1 => ?_) (fun c1 => ?_)
      · have hf := z_t c1 hf
        refine lv_iconst (v := (-1 : Int32)) hx hb d_OS_find_34 (by decide) ?_
        obtain rfl := Option.some.inj hf
        exact z_iret hx hb hr hP hD hS d_OS_find_35 hlocks
      · have hf := z_f c1 hf
        refine lv_iload hx hb d_OS_find_9 (lv_at hl 3 rfl) ?_
        refine lv_aload_n hx hb d_OS_find_11 rfl (lv_at hl 0 rfl) ?_
        refine va_alen (v := (Int32.ofNat zn0)) hx hb hK hP 0 0 rfl rfl rfl d_OS_find_12 ?_
        refine lv_icmp_ge (tgt := 34) hx hb d_OS_find_13 (by decide) (fun c2 => ?_) (fun c2 => ?_)
        · have hf := z_t c2 hf
          refine lv_iconst (v := (-1 : Int32)) hx hb d_OS_find_34 (by decide) ?_
          obtain rfl := Option.some.inj hf
          exact z_iret hx hb hr hP hD hS d_OS_find_35 hlocks
        · have hf := z_f c2 hf
          refine lv_aload_n hx hb d_OS_find_16 rfl (lv_at hl 0 rfl) ?_
          refine lv_iload hx hb d_OS_find_17 (lv_at hl 3 rfl) ?_
          obtain ⟨g3, hf⟩ := z_gz hf
          refine va_lald hx hb hK hP 0 0 rfl rfl g3 d_OS_find_19 ?_
          refine lv_lload_n hx hb d_OS_find_20 rfl (lv_at hl 2 rfl) ?_
          refine W.lcmp hx hb d_OS_find_21 ?_
          refine lv_if_ne (tgt := 28) hx hb d_OS_find_22 (by decide) (fun c4 => ?_) (fun c4 => ?_)
          · have hf := z_t c4 hf
            refine lv_iinc (v := (x4 + (1 : Int32))) (lv' := [(4, .int (x4 + (1 : Int32))), (0, .ref (a 0)), (1, .int p1), (2, .long p2)]) hx hb d_OS_find_28 hl (k := 3) rfl rfl (by decide) rfl (fun ls hl => ?_)
            refine lv_goto (tgt := 3) hx hb d_OS_find_31 (by decide) ?_
            exact ih3 (x4 + (1 : Int32)) hf H locs ls hP hD hS (lv_sub hl [1, 2, 3, 0] rfl)
          · have hf := z_fn c4 hf
            refine lv_iload hx hb d_OS_find_25 (lv_at hl 3 rfl) ?_
            obtain rfl := Option.some.inj hf
            exact z_iret hx hb hr hP hD hS d_OS_find_27 hlocks
  exact loop3 N (0 : Int32) hf H locs ls hP hD hS (lv_sub hl [1, 2, 3, 0] rfl)
set_option maxHeartbeats 4000000 in
set_option maxRecDepth 100000 in
theorem c_CS_has (l : Launch) (dC : Nat → ClassId) (dI : Nat → Nat → Nat) (N : Nat) (a : Nat → Nat) (k : Nat → ClassId) (zcontents : Nat → Int64) (zcount : Int32) (p1 : Int64) {y : (Int32)} (hf : pf_CS_has N zcontents zcount p1 = some y) (sz : Nat) : Met l y_CS_has ww_CS_has ({ frames := 1, cells := 0, slots := 0, locals := 24 }) (va_Pc [.ref (a 0), .long p1] (zB (dC, dI) zCl (t_CS k) (w_CS a k zcontents zcount) sz)) (zQi (dC, dI) zCl (w_CS a k zcontents zcount) sz y (w_CS a k zcontents zcount)) 0 0 (va_A (w_CS a k zcontents zcount) sz) := by
  refine Met.ofW (cc := b_CS_has) (maxL := 3) (ret := (some .boolean)) (by decide) rfl ?_
  intro p e s m args below meth c s₁ B hml hv
  obtain ⟨rfl, rfl, hP, hK, hD, hN⟩ := hv
  have hx := B.exec
  have hb := B.bytes
  have hr := B.returns
  have hts := atoms_spec (ws := ww_CS_has) B.pre
  have hown : s.vm.findClass R_CS = some m.cls := findClass_of_methodNamed B.named
  have hlocks := B.notSynchronized
  have hA : ∀ q : Nat, s.heap.size ≤ q → va_A (w_CS a k zcontents zcount) s.heap.size q := fun q h => Or.inr h
  refine z_start (lv := [(0, .ref (a 0)), (1, .long p1)]) (Nat.le_of_ble_eq_true rfl) rfl hP hD (fun H locs ls hP hD hS hl => ?_)
  unfold pf_CS_has at hf
  refine lv_aload_n hx hb d_CS_has_0 rfl (lv_at hl 0 rfl) ?_
  refine va_get (D := (dC, dI)) (ci := 3) (v := .ref (a 1)) (C := R_CS) (T := F_CS) (N := 2) hx hb hts (fun w h => List.mem_cons_of_mem _ (in_CS w h)) hown hK hP 0 rfl rfl 0 (by decide) (hts _ (List.mem_cons_of_mem _ k_1_80)) (fun _ h9 => h9) rfl d_CS_has_1 ?_
  refine lv_aload_n hx hb d_CS_has_4 rfl (lv_at hl 0 rfl) ?_
  refine va_get (D := (dC, dI)) (ci := 3) (v := .int zcount) (C := R_CS) (T := F_CS) (N := 2) hx hb hts (fun w h => List.mem_cons_of_mem _ (in_CS w h)) hown hK hP 0 rfl rfl 1 (by decide) (hts _ (List.mem_cons_of_mem _ k_1_81)) (fun _ h9 => h9) rfl d_CS_has_5 ?_
  refine lv_lload_n hx hb d_CS_has_8 rfl (lv_at hl 1 rfl) ?_
  obtain ⟨u0, hu0, hf⟩ := z_b hf
  have hPc := zP_cut (wc := ([((fun i => a (1 + i)) 0, .inl ((fun i => k (0 + i)) 0, 60, .inr (.inl zcontents)))] : va_W)) 1 2 hP rfl
  have hDc := zD_cut (wc := ([((fun i => a (1 + i)) 0, .inl ((fun i => k (0 + i)) 0, 60, .inr (.inl zcontents)))] : va_W)) 1 2 hD rfl
  have hKc := hK.sub (tys' := ([((fun i => k (0 + i)) 0, .long)] : List (ClassId × FieldType))) [0] rfl
  refine z_ci (va_runSN (As := [.ref (a 1), .int zcount, .long p1]) (rest := []) ⟨hx, hb, hml, hown, hts⟩ (c_OS_find l dC dI N (fun i => a (1 + i)) (fun i => k (0 + i)) 60 zcontents zcount p1 hu0 H.size) ⟨va_cnB 3 hts (zGN zsub_c kc_OS_find) rfl rfl rfl (hN _ (List.mem_of_getElem? (i := 6) rfl)) (hts _ (List.mem_cons_of_mem _ k_1_1)) (by decide +kernel) ⟨Nat.le_of_ble_eq_true rfl, Nat.le_of_ble_eq_true rfl⟩, (hts _ (List.mem_cons_of_mem _ k_2_5)), trivial⟩ ⟨z_bl, fun U hU hW => ⟨rfl, z_pre hN hKc hPc hDc U hU hW⟩⟩ rfl rfl hl.1 rfl (lv_room (Nat.le_of_ble_eq_true rfl)) d_CS_has_9 ⟨Nat.zero_le _, Nat.zero_le _⟩) 1 2 (w_CS a k zcontents zcount) hP hD hS hA rfl rfl (fun H locs hP hD hS => ?_)
  refine lv_iconst (v := (-1 : Int32)) hx hb d_CS_has_12 (by decide) ?_
  refine lv_icmp_eq (tgt := 20) hx hb d_CS_has_13 (by decide) (fun c1 => ?_) (fun c1 => ?_)
  · have hf := z_t c1 hf
    refine lv_iconst (v := (0 : Int32)) hx hb d_CS_has_20 (by decide) ?_
    obtain rfl := Option.some.inj hf
    exact z_zret hx hb hr (Or.inl rfl) hP hD hS d_CS_has_21 hlocks
  · have hf := z_f c1 hf
    refine lv_iconst (v := (1 : Int32)) hx hb d_CS_has_16 (by decide) ?_
    refine lv_goto (tgt := 21) hx hb d_CS_has_17 (by decide) ?_
    obtain rfl := Option.some.inj hf
    exact z_zret hx hb hr (Or.inr rfl) hP hD hS d_CS_has_21 hlocks
set_option maxHeartbeats 4000000 in
set_option maxRecDepth 100000 in
theorem c_CS_include (l : Launch) (dC : Nat → ClassId) (dI : Nat → Nat → Nat) (N : Nat) (a : Nat → Nat) (k : Nat → ClassId) (zcontents : Nat → Int64) (zcount : Int32) (p1 : Int64) {y : (Int32 × (Nat → Int64) × Int32)} (hf : pf_CS_include N zcontents zcount p1 = some y) (sz : Nat) : Met l y_CS_include ww_CS_include ({ frames := 2, cells := 0, slots := 0, locals := 46 }) (va_Pc [.ref (a 0), .long p1] (zB (dC, dI) zCl (t_CS k) (w_CS a k zcontents zcount) sz)) (zQi (dC, dI) zCl (w_CS a k zcontents zcount) sz y.1 (w_CS a k y.2.1 y.2.2)) 0 0 (va_A (w_CS a k zcontents zcount) sz) := by
  refine Met.ofW (cc := b_CS_include) (maxL := 3) (ret := (some .boolean)) (by decide) rfl ?_
  intro p e s m args below meth c s₁ B hml hv
  obtain ⟨rfl, rfl, hP, hK, hD, hN⟩ := hv
  have hx := B.exec
  have hb := B.bytes
  have hr := B.returns
  have hts := atoms_spec (ws := ww_CS_include) B.pre
  have hown : s.vm.findClass R_CS = some m.cls := findClass_of_methodNamed B.named
  have hlocks := B.notSynchronized
  have hA : ∀ q : Nat, s.heap.size ≤ q → va_A (w_CS a k zcontents zcount) s.heap.size q := fun q h => Or.inr h
  refine z_start (lv := [(0, .ref (a 0)), (1, .long p1)]) (Nat.le_of_ble_eq_true rfl) rfl hP hD (fun H locs ls hP hD hS hl => ?_)
  unfold pf_CS_include at hf
  refine lv_aload_n hx hb d_CS_include_0 rfl (lv_at hl 0 rfl) ?_
  refine lv_lload_n hx hb d_CS_include_1 rfl (lv_at hl 1 rfl) ?_
  obtain ⟨u0, hu0, hf⟩ := z_b hf
  have hPc := hP
  have hDc := hD
  have hKc := hK
  refine z_cwi (va_runV (As := [.long p1]) (rest := []) ⟨hx, hb, hml, hown, hts⟩ (c_CS_has l dC dI N a k zcontents zcount p1 hu0 H.size) (cwV 1 hts (zGV zsub_c k_2_65 k_2_1 k_2_2 k_1_5 kc_CS_has) rfl rfl rfl (by decide +kernel) ⟨Nat.le_of_ble_eq_true rfl, Nat.le_of_ble_eq_true rfl⟩) ⟨z_bl, va_recv hKc hPc (ci := 3) (q0 := 0) rfl rfl, fun U hU hW => ⟨rfl, z_pre hN hKc hPc hDc U hU hW⟩⟩ rfl rfl hl.1 rfl (lv_room (Nat.le_of_ble_eq_true rfl)) d_CS_include_2 ⟨Nat.zero_le _, Nat.zero_le _⟩) hD hS hA (fun H locs hP hD hS => ?_)
  refine lv_if_eq (tgt := 10) hx hb d_CS_include_5 (by decide) (fun c1 => ?_) (fun c1 => ?_)
  · have hf := z_t c1 hf
    refine lv_aload_n hx hb d_CS_include_10 rfl (lv_at hl 0 rfl) ?_
    refine va_get (D := (dC, dI)) (ci := 3) (v := .int zcount) (C := R_CS) (T := F_CS) (N := 2) hx hb hts (fun w h => List.mem_cons_of_mem _ (in_CS w h)) hown hK hP 0 rfl rfl 1 (by decide) (hts _ (List.mem_cons_of_mem _ k_1_81)) (fun _ h9 => h9) rfl d_CS_include_11 ?_
    refine lv_bipush (v := (nI 60)) hx hb d_CS_include_14 (by decide) ?_
    refine lv_icmp_lt (tgt := 21) hx hb d_CS_include_16 (by decide) (fun c2 => ?_) (fun c2 => ?_)
    · have hf := z_t c2 hf
      refine lv_aload_n hx hb d_CS_include_21 rfl (lv_at hl 0 rfl) ?_
      refine va_get (D := (dC, dI)) (ci := 3) (v := .ref (a 1)) (C := R_CS) (T := F_CS) (N := 2) hx hb hts (fun w h => List.mem_cons_of_mem _ (in_CS w h)) hown hK hP 0 rfl rfl 0 (by decide) (hts _ (List.mem_cons_of_mem _ k_1_80)) (fun _ h9 => h9) rfl d_CS_include_22 ?_
      refine lv_aload_n hx hb d_CS_include_25 rfl (lv_at hl 0 rfl) ?_
      refine va_get (D := (dC, dI)) (ci := 3) (v := .int zcount) (C := R_CS) (T := F_CS) (N := 2) hx hb hts (fun w h => List.mem_cons_of_mem _ (in_CS w h)) hown hK hP 0 rfl rfl 1 (by decide) (hts _ (List.mem_cons_of_mem _ k_1_81)) (fun _ h9 => h9) rfl d_CS_include_26 ?_
      refine lv_lload_n hx hb d_CS_include_29 rfl (lv_at hl 1 rfl) ?_
      obtain ⟨g3, hf⟩ := z_gz hf
      refine va_last hx hb hK hP hD hS 1 0 rfl rfl g3 d_CS_include_30 (fun H locs hP hD hS => ?_)
      have hP : va_P (dC, dI) zCl (w_CS a k (vp_updL zcontents zcount.toNatClampNeg p1) zcount) H := hP
      have hD : va_D _ (w_CS a k (vp_updL zcontents zcount.toNatClampNeg p1) zcount) := hD
      refine lv_aload_n hx hb d_CS_include_31 rfl (lv_at hl 0 rfl) ?_
      refine lv_dup hx hb d_CS_include_32 rfl ?_
      refine va_get (D := (dC, dI)) (ci := 3) (v := .int zcount) (C := R_CS) (T := F_CS) (N := 2) hx hb hts (fun w h => List.mem_cons_of_mem _ (in_CS w h)) hown hK hP 0 rfl rfl 1 (by decide) (hts _ (List.mem_cons_of_mem _ k_1_81)) (fun _ h9 => h9) rfl d_CS_include_33 ?_
      refine lv_iconst (v := (1 : Int32)) hx hb d_CS_include_36 (by decide) ?_
      refine lv_iadd hx hb d_CS_include_37 ?_
      refine va_put (D := (dC, dI)) (ci := 3) (v := .int (zcount + (1 : Int32))) (ty := .int) (C := R_CS) (T := F_CS) (N := 2) hx hb hts (fun w h => List.mem_cons_of_mem _ (in_CS w h)) ty_CS ty_CS_ok nm_CS hown hK hP hD hS 0 rfl rfl 1 (by decide) (hts _ (List.mem_cons_of_mem _ k_1_81)) (fun _ h9 => h9) rfl (by decide +kernel) rfl rfl (Nat.le_of_ble_eq_true rfl) d_CS_include_38 (fun H locs hP hD hS => ?_)
      have hP : va_P (dC, dI) zCl (w_CS a k (vp_updL zcontents zcount.toNatClampNeg p1) (zcount + (1 : Int32))) H := hP
      have hD : va_D _ (w_CS a k (vp_updL zcontents zcount.toNatClampNeg p1) (zcount + (1 : Int32))) := hD
      refine lv_iconst (v := (1 : Int32)) hx hb d_CS_include_41 (by decide) ?_
      obtain rfl := Option.some.inj hf
      exact z_zret hx hb hr (Or.inr rfl) hP hD hS d_CS_include_42 hlocks
    · have hf := z_f c2 hf
      refine lv_iconst (v := (0 : Int32)) hx hb d_CS_include_19 (by decide) ?_
      obtain rfl := Option.some.inj hf
      exact z_zret hx hb hr (Or.inl rfl) hP hD hS d_CS_include_20 hlocks
  · have hf := z_f c1 hf
    refine lv_iconst (v := (1 : Int32)) hx hb d_CS_include_8 (by decide) ?_
    obtain rfl := Option.some.inj hf
    exact z_zret hx hb hr (Or.inr rfl) hP hD hS d_CS_include_9 hlocks
set_option maxHeartbeats 4000000 in
set_option maxRecDepth 100000 in
theorem c_CS_exclude (l : Launch) (dC : Nat → ClassId) (dI : Nat → Nat → Nat) (N : Nat) (a : Nat → Nat) (k : Nat → ClassId) (zcontents : Nat → Int64) (zcount : Int32) (p1 : Int64) {y : ((Nat → Int64) × Int32)} (hf : pf_CS_exclude N zcontents zcount p1 = some y) (sz : Nat) : Met l y_CS_exclude ww_CS_exclude ({ frames := 1, cells := 0, slots := 0, locals := 24 }) (va_Pc [.ref (a 0), .long p1] (zB (dC, dI) zCl (t_CS k) (w_CS a k zcontents zcount) sz)) (zQv (dC, dI) zCl (w_CS a k zcontents zcount) sz (w_CS a k y.1 y.2)) 0 0 (va_A (w_CS a k zcontents zcount) sz) := by
  refine Met.ofW (cc := b_CS_exclude) (maxL := 4) (ret := none) (by decide) rfl ?_
  intro p e s m args below meth c s₁ B hml hv
  obtain ⟨rfl, rfl, hP, hK, hD, hN⟩ := hv
  have hx := B.exec
  have hb := B.bytes
  have hr := B.returns
  have hts := atoms_spec (ws := ww_CS_exclude) B.pre
  have hown : s.vm.findClass R_CS = some m.cls := findClass_of_methodNamed B.named
  have hlocks := B.notSynchronized
  have hA : ∀ q : Nat, s.heap.size ≤ q → va_A (w_CS a k zcontents zcount) s.heap.size q := fun q h => Or.inr h
  refine z_start (lv := [(0, .ref (a 0)), (1, .long p1)]) (Nat.le_of_ble_eq_true rfl) rfl hP hD (fun H locs ls hP hD hS hl => ?_)
  unfold pf_CS_exclude at hf
  refine lv_aload_n hx hb d_CS_exclude_0 rfl (lv_at hl 0 rfl) ?_
  refine va_get (D := (dC, dI)) (ci := 3) (v := .ref (a 1)) (C := R_CS) (T := F_CS) (N := 2) hx hb hts (fun w h => List.mem_cons_of_mem _ (in_CS w h)) hown hK hP 0 rfl rfl 0 (by decide) (hts _ (List.mem_cons_of_mem _ k_1_80)) (fun _ h9 => h9) rfl d_CS_exclude_1 ?_
  refine lv_aload_n hx hb d_CS_exclude_4 rfl (lv_at hl 0 rfl) ?_
  refine va_get (D := (dC, dI)) (ci := 3) (v := .int zcount) (C := R_CS) (T := F_CS) (N := 2) hx hb hts (fun w h => List.mem_cons_of_mem _ (in_CS w h)) hown hK hP 0 rfl rfl 1 (by decide) (hts _ (List.mem_cons_of_mem _ k_1_81)) (fun _ h9 => h9) rfl d_CS_exclude_5 ?_
  refine lv_lload_n hx hb d_CS_exclude_8 rfl (lv_at hl 1 rfl) ?_
  obtain ⟨u0, hu0, hf⟩ := z_b hf
  have hPc := zP_cut (wc := ([((fun i => a (1 + i)) 0, .inl ((fun i => k (0 + i)) 0, 60, .inr (.inl zcontents)))] : va_W)) 1 2 hP rfl
  have hDc := zD_cut (wc := ([((fun i => a (1 + i)) 0, .inl ((fun i => k (0 + i)) 0, 60, .inr (.inl zcontents)))] : va_W)) 1 2 hD rfl
  have hKc := hK.sub (tys' := ([((fun i => k (0 + i)) 0, .long)] : List (ClassId × FieldType))) [0] rfl
  refine z_ci (va_runSN (As := [.ref (a 1), .int zcount, .long p1]) (rest := []) ⟨hx, hb, hml, hown, hts⟩ (c_OS_find l dC dI N (fun i => a (1 + i)) (fun i => k (0 + i)) 60 zcontents zcount p1 hu0 H.size) ⟨va_cnB 3 hts (zGN zsub_c kc_OS_find) rfl rfl rfl (hN _ (List.mem_of_getElem? (i := 6) rfl)) (hts _ (List.mem_cons_of_mem _ k_1_1)) (by decide +kernel) ⟨Nat.le_of_ble_eq_true rfl, Nat.le_of_ble_eq_true rfl⟩, (hts _ (List.mem_cons_of_mem _ k_2_5)), trivial⟩ ⟨z_bl, fun U hU hW => ⟨rfl, z_pre hN hKc hPc hDc U hU hW⟩⟩ rfl rfl hl.1 rfl (lv_room (Nat.le_of_ble_eq_true rfl)) d_CS_exclude_9 ⟨Nat.zero_le _, Nat.zero_le _⟩) 1 2 (w_CS a k zcontents zcount) hP hD hS hA rfl rfl (fun H locs hP hD hS => ?_)
  refine lv_istore_n (lv' := [(3, .int u0), (0, .ref (a 0)), (1, .long p1)]) hx hb d_CS_exclude_12 rfl hl (by decide) rfl (fun ls hl => ?_)
  refine lv_iload_n hx hb d_CS_exclude_13 rfl (lv_at hl 0 rfl) ?_
  refine lv_if_lt (tgt := 50) hx hb d_CS_exclude_14 (by decide) (fun c1 => ?_) (fun c1 => ?_)
  · have hf := z_t c1 hf
    obtain rfl := Option.some.inj hf
    exact z_vret hx hb hr hP hD hS d_CS_exclude_50 hlocks
  · have hf := z_f c1 hf
    refine lv_iload_n hx hb d_CS_exclude_17 rfl (lv_at hl 0 rfl) ?_
    refine lv_aload_n hx hb d_CS_exclude_18 rfl (lv_at hl 1 rfl) ?_
    refine va_get (D := (dC, dI)) (ci := 3) (v := .int zcount) (C := R_CS) (T := F_CS) (N := 2) hx hb hts (fun w h => List.mem_cons_of_mem _ (in_CS w h)) hown hK hP 0 rfl rfl 1 (by decide) (hts _ (List.mem_cons_of_mem _ k_1_81)) (fun _ h9 => h9) rfl d_CS_exclude_19 ?_
    refine lv_icmp_ge (tgt := 50) hx hb d_CS_exclude_22 (by decide) (fun c2 => ?_) (fun c2 => ?_)
    · have hf := z_t c2 hf
      obtain rfl := Option.some.inj hf
      exact z_vret hx hb hr hP hD hS d_CS_exclude_50 hlocks
    · have hf := z_f c2 hf
      refine lv_aload_n hx hb d_CS_exclude_25 rfl (lv_at hl 1 rfl) ?_
      refine lv_dup hx hb d_CS_exclude_26 rfl ?_
      refine va_get (D := (dC, dI)) (ci := 3) (v := .int zcount) (C := R_CS) (T := F_CS) (N := 2) hx hb hts (fun w h => List.mem_cons_of_mem _ (in_CS w h)) hown hK hP 0 rfl rfl 1 (by decide) (hts _ (List.mem_cons_of_mem _ k_1_81)) (fun _ h9 => h9) rfl d_CS_exclude_27 ?_
      refine lv_iconst (v := (1 : Int32)) hx hb d_CS_exclude_30 (by decide) ?_
      refine lv_isub hx hb d_CS_exclude_31 ?_
      refine va_put (D := (dC, dI)) (ci := 3) (v := .int (zcount - (1 : Int32))) (ty := .int) (C := R_CS) (T := F_CS) (N := 2) hx hb hts (fun w h => List.mem_cons_of_mem _ (in_CS w h)) ty_CS ty_CS_ok nm_CS hown hK hP hD hS 0 rfl rfl 1 (by decide) (hts _ (List.mem_cons_of_mem _ k_1_81)) (fun _ h9 => h9) rfl (by decide +kernel) rfl rfl (Nat.le_of_ble_eq_true rfl) d_CS_exclude_32 (fun H locs hP hD hS => ?_)
      have hP : va_P (dC, dI) zCl (w_CS a k zcontents (zcount - (1 : Int32))) H := hP
      have hD : va_D _ (w_CS a k zcontents (zcount - (1 : Int32))) := hD
      refine lv_aload_n hx hb d_CS_exclude_35 rfl (lv_at hl 1 rfl) ?_
      refine va_get (D := (dC, dI)) (ci := 3) (v := .ref (a 1)) (C := R_CS) (T := F_CS) (N := 2) hx hb hts (fun w h => List.mem_cons_of_mem _ (in_CS w h)) hown hK hP 0 rfl rfl 0 (by decide) (hts _ (List.mem_cons_of_mem _ k_1_80)) (fun _ h9 => h9) rfl d_CS_exclude_36 ?_
      refine lv_iload_n hx hb d_CS_exclude_39 rfl (lv_at hl 0 rfl) ?_
      refine lv_aload_n hx hb d_CS_exclude_40 rfl (lv_at hl 1 rfl) ?_
      refine va_get (D := (dC, dI)) (ci := 3) (v := .ref (a 1)) (C := R_CS) (T := F_CS) (N := 2) hx hb hts (fun w h => List.mem_cons_of_mem _ (in_CS w h)) hown hK hP 0 rfl rfl 0 (by decide) (hts _ (List.mem_cons_of_mem _ k_1_80)) (fun _ h9 => h9) rfl d_CS_exclude_41 ?_
      refine lv_aload_n hx hb d_CS_exclude_44 rfl (lv_at hl 1 rfl) ?_
      refine va_get (D := (dC, dI)) (ci := 3) (v := .int (zcount - (1 : Int32))) (C := R_CS) (T := F_CS) (N := 2) hx hb hts (fun w h => List.mem_cons_of_mem _ (in_CS w h)) hown hK hP 0 rfl rfl 1 (by decide) (hts _ (List.mem_cons_of_mem _ k_1_81)) (fun _ h9 => h9) rfl d_CS_exclude_45 ?_
      obtain ⟨g3, hf⟩ := z_gz hf
      refine va_lald hx hb hK hP 1 0 rfl rfl g3 d_CS_exclude_48 ?_
      obtain ⟨g4, hf⟩ := z_gz hf
      refine va_last hx hb hK hP hD hS 1 0 rfl rfl g4 d_CS_exclude_49 (fun H locs hP hD hS => ?_)
      have hP : va_P (dC, dI) zCl (w_CS a k (vp_updL zcontents u0.toNatClampNeg (zcontents (zcount - (1 : Int32)).toNatClampNeg)) (zcount - (1 : Int32))) H := hP
      have hD : va_D _ (w_CS a k (vp_updL zcontents u0.toNatClampNeg (zcontents (zcount - (1 : Int32)).toNatClampNeg)) (zcount - (1 : Int32))) := hD
      obtain rfl := Option.some.inj hf
      exact z_vret hx hb hr hP hD hS d_CS_exclude_50 hlocks
set_option maxHeartbeats 4000000 in
set_option maxRecDepth 100000 in
theorem c_HB_isFull (l : Launch) (dC : Nat → ClassId) (dI : Nat → Nat → Nat) (N : Nat) (a : Nat → Nat) (k : Nat → ClassId) (zcontents : Nat → Int64) (zcount : Int32) {y : (Int32)} (hf : pf_HB_isFull N zcount = some y) (sz : Nat) : Met l y_HB_isFull ww_HB_isFull ({ frames := 0, cells := 0, slots := 0, locals := 0 }) (va_Pc [.ref (a 0)] (zB (dC, dI) zCl (t_HB k) (w_HB a k zcontents zcount) sz)) (zQi (dC, dI) zCl (w_HB a k zcontents zcount) sz y (w_HB a k zcontents zcount)) 0 0 (va_A (w_HB a k zcontents zcount) sz) := by
  refine Met.ofW (cc := b_HB_isFull) (maxL := 1) (ret := (some .boolean)) (by decide) rfl ?_
  intro p e s m args below meth c s₁ B hml hv
  obtain ⟨rfl, rfl, hP, hK, hD, hN⟩ := hv
  have hx := B.exec
  have hb := B.bytes
  have hr := B.returns
  have hts := atoms_spec (ws := ww_HB_isFull) B.pre
  have hown : s.vm.findClass R_HB = some m.cls := findClass_of_methodNamed B.named
  have hlocks := B.notSynchronized
  have hA : ∀ q : Nat, s.heap.size ≤ q → va_A (w_HB a k zcontents zcount) s.heap.size q := fun q h => Or.inr h
  refine z_start (lv := [(0, .ref (a 0))]) (Nat.le_of_ble_eq_true rfl) rfl hP hD (fun H locs ls hP hD hS hl => ?_)
  unfold pf_HB_isFull at hf
  refine lv_aload_n hx hb d_HB_isFull_0 rfl (lv_at hl 0 rfl) ?_
  refine va_get (D := (dC, dI)) (ci := 4) (v := .int zcount) (C := R_HB) (T := F_HB) (N := 2) hx hb hts (fun w h => List.mem_cons_of_mem _ (in_HB w h)) hown hK hP 0 rfl rfl 1 (by decide) (hts _ (List.mem_cons_of_mem _ k_1_94)) (fun _ h9 => h9) rfl d_HB_isFull_1 ?_
  refine lv_bipush (v := (nI 100)) hx hb d_HB_isFull_4 (by decide) ?_
  refine lv_icmp_lt (tgt := 13) hx hb d_HB_isFull_6 (by decide) (fun c1 => ?_) (fun c1 => ?_)
  · have hf := z_t c1 hf
    refine lv_iconst (v := (0 : Int32)) hx hb d_HB_isFull_13 (by decide) ?_
    obtain rfl := Option.some.inj hf
    exact z_zret hx hb hr (Or.inl rfl) hP hD hS d_HB_isFull_14 hlocks
  · have hf := z_f c1 hf
    refine lv_iconst (v := (1 : Int32)) hx hb d_HB_isFull_9 (by decide) ?_
    refine lv_goto (tgt := 14) hx hb d_HB_isFull_10 (by decide) ?_
    obtain rfl := Option.some.inj hf
    exact z_zret hx hb hr (Or.inr rfl) hP hD hS d_HB_isFull_14 hlocks
set_option maxHeartbeats 4000000 in
set_option maxRecDepth 100000 in
theorem c_HB_take (l : Launch) (dC : Nat → ClassId) (dI : Nat → Nat → Nat) (N : Nat) (a : Nat → Nat) (k : Nat → ClassId) (zcontents : Nat → Int64) (zcount : Int32) (p1 : Int64) {y : (Int32 × (Nat → Int64) × Int32)} (hf : pf_HB_take N zcontents zcount p1 = some y) (sz : Nat) : Met l y_HB_take ww_HB_take ({ frames := 1, cells := 0, slots := 0, locals := 20 }) (va_Pc [.ref (a 0), .long p1] (zB (dC, dI) zCl (t_HB k) (w_HB a k zcontents zcount) sz)) (zQi (dC, dI) zCl (w_HB a k zcontents zcount) sz y.1 (w_HB a k y.2.1 y.2.2)) 0 0 (va_A (w_HB a k zcontents zcount) sz) := by
  refine Met.ofW (cc := b_HB_take) (maxL := 3) (ret := (some .int)) (by decide) rfl ?_
  intro p e s m args below meth c s₁ B hml hv
  obtain ⟨rfl, rfl, hP, hK, hD, hN⟩ := hv
  have hx := B.exec
  have hb := B.bytes
  have hr := B.returns
  have hts := atoms_spec (ws := ww_HB_take) B.pre
  have hown : s.vm.findClass R_HB = some m.cls := findClass_of_methodNamed B.named
  have hlocks := B.notSynchronized
  have hA : ∀ q : Nat, s.heap.size ≤ q → va_A (w_HB a k zcontents zcount) s.heap.size q := fun q h => Or.inr h
  refine z_start (lv := [(0, .ref (a 0)), (1, .long p1)]) (Nat.le_of_ble_eq_true rfl) rfl hP hD (fun H locs ls hP hD hS hl => ?_)
  unfold pf_HB_take at hf
  refine lv_aload_n hx hb d_HB_take_0 rfl (lv_at hl 0 rfl) ?_
  obtain ⟨u0, hu0, hf⟩ := z_b hf
  have hPc := hP
  have hDc := hD
  have hKc := hK
  refine z_cwi (va_runV (As := []) (rest := []) ⟨hx, hb, hml, hown, hts⟩ (c_HB_isFull l dC dI N a k zcontents zcount hu0 H.size) (cwV 0 hts (zGV zsub_c k_2_86 k_2_75 k_2_76 k_1_6 kc_HB_isFull) rfl rfl rfl (by decide +kernel) ⟨Nat.le_of_ble_eq_true rfl, Nat.le_of_ble_eq_true rfl⟩) ⟨z_bl, va_recv hKc hPc (ci := 4) (q0 := 0) rfl rfl, fun U hU hW => ⟨rfl, z_pre hN hKc hPc hDc U hU hW⟩⟩ rfl rfl hl.1 rfl (lv_room (Nat.le_of_ble_eq_true rfl)) d_HB_take_1 ⟨Nat.zero_le _, Nat.zero_le _⟩) hD hS hA (fun H locs hP hD hS => ?_)
  refine lv_if_eq (tgt := 9) hx hb d_HB_take_4 (by decide) (fun c1 => ?_) (fun c1 => ?_)
  · have hf := z_t c1 hf
    refine lv_aload_n hx hb d_HB_take_9 rfl (lv_at hl 0 rfl) ?_
    refine va_get (D := (dC, dI)) (ci := 4) (v := .ref (a 1)) (C := R_HB) (T := F_HB) (N := 2) hx hb hts (fun w h => List.mem_cons_of_mem _ (in_HB w h)) hown hK hP 0 rfl rfl 0 (by decide) (hts _ (List.mem_cons_of_mem _ k_1_93)) (fun _ h9 => h9) rfl d_HB_take_10 ?_
    refine lv_aload_n hx hb d_HB_take_13 rfl (lv_at hl 0 rfl) ?_
    refine va_get (D := (dC, dI)) (ci := 4) (v := .int zcount) (C := R_HB) (T := F_HB) (N := 2) hx hb hts (fun w h => List.mem_cons_of_mem _ (in_HB w h)) hown hK hP 0 rfl rfl 1 (by decide) (hts _ (List.mem_cons_of_mem _ k_1_94)) (fun _ h9 => h9) rfl d_HB_take_14 ?_
    refine lv_lload_n hx hb d_HB_take_17 rfl (lv_at hl 1 rfl) ?_
    obtain ⟨g2, hf⟩ := z_gz hf
    refine va_last hx hb hK hP hD hS 1 0 rfl rfl g2 d_HB_take_18 (fun H locs hP hD hS => ?_)
    have hP : va_P (dC, dI) zCl (w_HB a k (vp_updL zcontents zcount.toNatClampNeg p1) zcount) H := hP
    have hD : va_D _ (w_HB a k (vp_updL zcontents zcount.toNatClampNeg p1) zcount) := hD
    refine lv_aload_n hx hb d_HB_take_19 rfl (lv_at hl 0 rfl) ?_
    refine lv_dup hx hb d_HB_take_20 rfl ?_
    refine va_get (D := (dC, dI)) (ci := 4) (v := .int zcount) (C := R_HB) (T := F_HB) (N := 2) hx hb hts (fun w h => List.mem_cons_of_mem _ (in_HB w h)) hown hK hP 0 rfl rfl 1 (by decide) (hts _ (List.mem_cons_of_mem _ k_1_94)) (fun _ h9 => h9) rfl d_HB_take_21 ?_
    refine lv_iconst (v := (1 : Int32)) hx hb d_HB_take_24 (by decide) ?_
    refine lv_iadd hx hb d_HB_take_25 ?_
    refine va_put (D := (dC, dI)) (ci := 4) (v := .int (zcount + (1 : Int32))) (ty := .int) (C := R_HB) (T := F_HB) (N := 2) hx hb hts (fun w h => List.mem_cons_of_mem _ (in_HB w h)) ty_HB ty_HB_ok nm_HB hown hK hP hD hS 0 rfl rfl 1 (by decide) (hts _ (List.mem_cons_of_mem _ k_1_94)) (fun _ h9 => h9) rfl (by decide +kernel) rfl rfl (Nat.le_of_ble_eq_true rfl) d_HB_take_26 (fun H locs hP hD hS => ?_)
    have hP : va_P (dC, dI) zCl (w_HB a k (vp_updL zcontents zcount.toNatClampNeg p1) (zcount + (1 : Int32))) H := hP
    have hD : va_D _ (w_HB a k (vp_updL zcontents zcount.toNatClampNeg p1) (zcount + (1 : Int32))) := hD
    refine lv_aload_n hx hb d_HB_take_29 rfl (lv_at hl 0 rfl) ?_
    refine va_get (D := (dC, dI)) (ci := 4) (v := .int (zcount + (1 : Int32))) (C := R_HB) (T := F_HB) (N := 2) hx hb hts (fun w h => List.mem_cons_of_mem _ (in_HB w h)) hown hK hP 0 rfl rfl 1 (by decide) (hts _ (List.mem_cons_of_mem _ k_1_94)) (fun _ h9 => h9) rfl d_HB_take_30 ?_
    refine lv_iconst (v := (1 : Int32)) hx hb d_HB_take_33 (by decide) ?_
    refine lv_isub hx hb d_HB_take_34 ?_
    obtain rfl := Option.some.inj hf
    exact z_iret hx hb hr hP hD hS d_HB_take_35 hlocks
  · have hf := z_f c1 hf
    refine lv_iconst (v := (-1 : Int32)) hx hb d_HB_take_7 (by decide) ?_
    obtain rfl := Option.some.inj hf
    exact z_iret hx hb hr hP hD hS d_HB_take_8 hlocks
set_option maxHeartbeats 4000000 in
set_option maxRecDepth 100000 in
theorem c_HB_has (l : Launch) (dC : Nat → ClassId) (dI : Nat → Nat → Nat) (N : Nat) (a : Nat → Nat) (k : Nat → ClassId) (zcontents : Nat → Int64) (zcount : Int32) (p1 : Int32) {y : (Int32)} (hf : pf_HB_has N zcontents zcount p1 = some y) (sz : Nat) : Met l y_HB_has ww_HB_has ({ frames := 0, cells := 0, slots := 0, locals := 0 }) (va_Pc [.ref (a 0), .int p1] (zB (dC, dI) zCl (t_HB k) (w_HB a k zcontents zcount) sz)) (zQi (dC, dI) zCl (w_HB a k zcontents zcount) sz y (w_HB a k zcontents zcount)) 0 0 (va_A (w_HB a k zcontents zcount) sz) := by
  refine Met.ofW (cc := b_HB_has) (maxL := 2) (ret := (some .boolean)) (by decide) rfl ?_
  intro p e s m args below meth c s₁ B hml hv
  obtain ⟨rfl, rfl, hP, hK, hD, hN⟩ := hv
  have hx := B.exec
  have hb := B.bytes
  have hr := B.returns
  have hts := atoms_spec (ws := ww_HB_has) B.pre
  have hown : s.vm.findClass R_HB = some m.cls := findClass_of_methodNamed B.named
  have hlocks := B.notSynchronized
  have hA : ∀ q : Nat, s.heap.size ≤ q → va_A (w_HB a k zcontents zcount) s.heap.size q := fun q h => Or.inr h
  refine z_start (lv := [(0, .ref (a 0)), (1, .int p1)]) (Nat.le_of_ble_eq_true rfl) rfl hP hD (fun H locs ls hP hD hS hl => ?_)
  unfold pf_HB_has at hf
  refine lv_iload_n hx hb d_HB_has_0 rfl (lv_at hl 1 rfl) ?_
  refine lv_if_lt (tgt := 27) hx hb d_HB_has_1 (by decide) (fun c1 => ?_) (fun c1 => ?_)
  · have hf := z_t c1 hf
    refine lv_iconst (v := (0 : Int32)) hx hb d_HB_has_27 (by decide) ?_
    obtain rfl := Option.some.inj hf
    exact z_zret hx hb hr (Or.inl rfl) hP hD hS d_HB_has_28 hlocks
  · have hf := z_f c1 hf
    refine lv_iload_n hx hb d_HB_has_4 rfl (lv_at hl 1 rfl) ?_
    refine lv_aload_n hx hb d_HB_has_5 rfl (lv_at hl 0 rfl) ?_
    refine va_get (D := (dC, dI)) (ci := 4) (v := .int zcount) (C := R_HB) (T := F_HB) (N := 2) hx hb hts (fun w h => List.mem_cons_of_mem _ (in_HB w h)) hown hK hP 0 rfl rfl 1 (by decide) (hts _ (List.mem_cons_of_mem _ k_1_94)) (fun _ h9 => h9) rfl d_HB_has_6 ?_
    refine lv_icmp_ge (tgt := 27) hx hb d_HB_has_9 (by decide) (fun c2 => ?_) (fun c2 => ?_)
    · have hf := z_t c2 hf
      refine lv_iconst (v := (0 : Int32)) hx hb d_HB_has_27 (by decide) ?_
      obtain rfl := Option.some.inj hf
      exact z_zret hx hb hr (Or.inl rfl) hP hD hS d_HB_has_28 hlocks
    · have hf := z_f c2 hf
      refine lv_aload_n hx hb d_HB_has_12 rfl (lv_at hl 0 rfl) ?_
      refine va_get (D := (dC, dI)) (ci := 4) (v := .ref (a 1)) (C := R_HB) (T := F_HB) (N := 2) hx hb hts (fun w h => List.mem_cons_of_mem _ (in_HB w h)) hown hK hP 0 rfl rfl 0 (by decide) (hts _ (List.mem_cons_of_mem _ k_1_93)) (fun _ h9 => h9) rfl d_HB_has_13 ?_
      refine lv_iload_n hx hb d_HB_has_16 rfl (lv_at hl 1 rfl) ?_
      obtain ⟨g3, hf⟩ := z_gz hf
      refine va_lald hx hb hK hP 1 0 rfl rfl g3 d_HB_has_17 ?_
      refine lv_lconst (v := 0) hx hb d_HB_has_18 (by decide) ?_
      refine W.lcmp hx hb d_HB_has_19 ?_
      refine lv_if_eq (tgt := 27) hx hb d_HB_has_20 (by decide) (fun c4 => ?_) (fun c4 => ?_)
      · have hf := z_t c4 hf
        refine lv_iconst (v := (0 : Int32)) hx hb d_HB_has_27 (by decide) ?_
        obtain rfl := Option.some.inj hf
        exact z_zret hx hb hr (Or.inl rfl) hP hD hS d_HB_has_28 hlocks
      · have hf := z_f c4 hf
        refine lv_iconst (v := (1 : Int32)) hx hb d_HB_has_23 (by decide) ?_
        refine lv_goto (tgt := 28) hx hb d_HB_has_24 (by decide) ?_
        obtain rfl := Option.some.inj hf
        exact z_zret hx hb hr (Or.inr rfl) hP hD hS d_HB_has_28 hlocks
set_option maxHeartbeats 4000000 in
set_option maxRecDepth 100000 in
theorem c_HB_contentOf (l : Launch) (dC : Nat → ClassId) (dI : Nat → Nat → Nat) (N : Nat) (a : Nat → Nat) (k : Nat → ClassId) (zcontents : Nat → Int64) (zcount : Int32) (p1 : Int32) {y : (Int64)} (hf : pf_HB_contentOf N zcontents zcount p1 = some y) (sz : Nat) : Met l y_HB_contentOf ww_HB_contentOf ({ frames := 1, cells := 0, slots := 0, locals := 21 }) (va_Pc [.ref (a 0), .int p1] (zB (dC, dI) zCl (t_HB k) (w_HB a k zcontents zcount) sz)) (zQl (dC, dI) zCl (w_HB a k zcontents zcount) sz y (w_HB a k zcontents zcount)) 0 0 (va_A (w_HB a k zcontents zcount) sz) := by
  refine Met.ofW (cc := b_HB_contentOf) (maxL := 2) (ret := (some .long)) (by decide) rfl ?_
  intro p e s m args below meth c s₁ B hml hv
  obtain ⟨rfl, rfl, hP, hK, hD, hN⟩ := hv
  have hx := B.exec
  have hb := B.bytes
  have hr := B.returns
  have hts := atoms_spec (ws := ww_HB_contentOf) B.pre
  have hown : s.vm.findClass R_HB = some m.cls := findClass_of_methodNamed B.named
  have hlocks := B.notSynchronized
  have hA : ∀ q : Nat, s.heap.size ≤ q → va_A (w_HB a k zcontents zcount) s.heap.size q := fun q h => Or.inr h
  refine z_start (lv := [(0, .ref (a 0)), (1, .int p1)]) (Nat.le_of_ble_eq_true rfl) rfl hP hD (fun H locs ls hP hD hS hl => ?_)
  unfold pf_HB_contentOf at hf
  refine lv_aload_n hx hb d_HB_contentOf_0 rfl (lv_at hl 0 rfl) ?_
  refine lv_iload_n hx hb d_HB_contentOf_1 rfl (lv_at hl 1 rfl) ?_
  obtain ⟨u0, hu0, hf⟩ := z_b hf
  have hPc := hP
  have hDc := hD
  have hKc := hK
  refine z_cwi (va_runV (As := [.int p1]) (rest := []) ⟨hx, hb, hml, hown, hts⟩ (c_HB_has l dC dI N a k zcontents zcount p1 hu0 H.size) (cwV 1 hts (zGV zsub_c k_2_95 k_2_96 k_2_97 k_1_6 kc_HB_has) rfl rfl rfl (by decide +kernel) ⟨Nat.le_of_ble_eq_true rfl, Nat.le_of_ble_eq_true rfl⟩) ⟨z_bl, va_recv hKc hPc (ci := 4) (q0 := 0) rfl rfl, fun U hU hW => ⟨rfl, z_pre hN hKc hPc hDc U hU hW⟩⟩ rfl rfl hl.1 rfl (lv_room (Nat.le_of_ble_eq_true rfl)) d_HB_contentOf_2 ⟨Nat.zero_le _, Nat.zero_le _⟩) hD hS hA (fun H locs hP hD hS => ?_)
  refine lv_if_eq (tgt := 17) hx hb d_HB_contentOf_5 (by decide) (fun c1 => ?_) (fun c1 => ?_)
  · have hf := z_t c1 hf
    refine lv_lconst (v := 0) hx hb d_HB_contentOf_17 (by decide) ?_
    obtain rfl := Option.some.inj hf
    exact z_lret hx hb hr hP hD hS d_HB_contentOf_18 hlocks
  · have hf := z_f c1 hf
    refine lv_aload_n hx hb d_HB_contentOf_8 rfl (lv_at hl 0 rfl) ?_
    refine va_get (D := (dC, dI)) (ci := 4) (v := .ref (a 1)) (C := R_HB) (T := F_HB) (N := 2) hx hb hts (fun w h => List.mem_cons_of_mem _ (in_HB w h)) hown hK hP 0 rfl rfl 0 (by decide) (hts _ (List.mem_cons_of_mem _ k_1_93)) (fun _ h9 => h9) rfl d_HB_contentOf_9 ?_
    refine lv_iload_n hx hb d_HB_contentOf_12 rfl (lv_at hl 1 rfl) ?_
    obtain ⟨g2, hf⟩ := z_gz hf
    refine va_lald hx hb hK hP 1 0 rfl rfl g2 d_HB_contentOf_13 ?_
    refine lv_goto (tgt := 18) hx hb d_HB_contentOf_14 (by decide) ?_
    obtain rfl := Option.some.inj hf
    exact z_lret hx hb hr hP hD hS d_HB_contentOf_18 hlocks
set_option maxHeartbeats 4000000 in
set_option maxRecDepth 100000 in
theorem c_HB_release (l : Launch) (dC : Nat → ClassId) (dI : Nat → Nat → Nat) (N : Nat) (a : Nat → Nat) (k : Nat → ClassId) (zcontents : Nat → Int64) (zcount : Int32) (p1 : Int32) {y : (Int32 × (Nat → Int64))} (hf : pf_HB_release N zcontents zcount p1 = some y) (sz : Nat) : Met l y_HB_release ww_HB_release ({ frames := 1, cells := 0, slots := 0, locals := 21 }) (va_Pc [.ref (a 0), .int p1] (zB (dC, dI) zCl (t_HB k) (w_HB a k zcontents zcount) sz)) (zQi (dC, dI) zCl (w_HB a k zcontents zcount) sz y.1 (w_HB a k y.2 zcount)) 0 0 (va_A (w_HB a k zcontents zcount) sz) := by
  refine Met.ofW (cc := b_HB_release) (maxL := 2) (ret := (some .boolean)) (by decide) rfl ?_
  intro p e s m args below meth c s₁ B hml hv
  obtain ⟨rfl, rfl, hP, hK, hD, hN⟩ := hv
  have hx := B.exec
  have hb := B.bytes
  have hr := B.returns
  have hts := atoms_spec (ws := ww_HB_release) B.pre
  have hown : s.vm.findClass R_HB = some m.cls := findClass_of_methodNamed B.named
  have hlocks := B.notSynchronized
  have hA : ∀ q : Nat, s.heap.size ≤ q → va_A (w_HB a k zcontents zcount) s.heap.size q := fun q h => Or.inr h
  refine z_start (lv := [(0, .ref (a 0)), (1, .int p1)]) (Nat.le_of_ble_eq_true rfl) rfl hP hD (fun H locs ls hP hD hS hl => ?_)
  unfold pf_HB_release at hf
  refine lv_aload_n hx hb d_HB_release_0 rfl (lv_at hl 0 rfl) ?_
  refine lv_iload_n hx hb d_HB_release_1 rfl (lv_at hl 1 rfl) ?_
  obtain ⟨u0, hu0, hf⟩ := z_b hf
  have hPc := hP
  have hDc := hD
  have hKc := hK
  refine z_cwi (va_runV (As := [.int p1]) (rest := []) ⟨hx, hb, hml, hown, hts⟩ (c_HB_has l dC dI N a k zcontents zcount p1 hu0 H.size) (cwV 1 hts (zGV zsub_c k_2_95 k_2_96 k_2_97 k_1_6 kc_HB_has) rfl rfl rfl (by decide +kernel) ⟨Nat.le_of_ble_eq_true rfl, Nat.le_of_ble_eq_true rfl⟩) ⟨z_bl, va_recv hKc hPc (ci := 4) (q0 := 0) rfl rfl, fun U hU hW => ⟨rfl, z_pre hN hKc hPc hDc U hU hW⟩⟩ rfl rfl hl.1 rfl (lv_room (Nat.le_of_ble_eq_true rfl)) d_HB_release_2 ⟨Nat.zero_le _, Nat.zero_le _⟩) hD hS hA (fun H locs hP hD hS => ?_)
  refine lv_if_ne (tgt := 10) hx hb d_HB_release_5 (by decide) (fun c1 => ?_) (fun c1 => ?_)
  · have hf := z_t c1 hf
    refine lv_aload_n hx hb d_HB_release_10 rfl (lv_at hl 0 rfl) ?_
    refine va_get (D := (dC, dI)) (ci := 4) (v := .ref (a 1)) (C := R_HB) (T := F_HB) (N := 2) hx hb hts (fun w h => List.mem_cons_of_mem _ (in_HB w h)) hown hK hP 0 rfl rfl 0 (by decide) (hts _ (List.mem_cons_of_mem _ k_1_93)) (fun _ h9 => h9) rfl d_HB_release_11 ?_
    refine lv_iload_n hx hb d_HB_release_14 rfl (lv_at hl 1 rfl) ?_
    refine lv_lconst (v := 0) hx hb d_HB_release_15 (by decide) ?_
    obtain ⟨g2, hf⟩ := z_gz hf
    refine va_last hx hb hK hP hD hS 1 0 rfl rfl g2 d_HB_release_16 (fun H locs hP hD hS => ?_)
    have hP : va_P (dC, dI) zCl (w_HB a k (vp_updL zcontents p1.toNatClampNeg (0 : Int64)) zcount) H := hP
    have hD : va_D _ (w_HB a k (vp_updL zcontents p1.toNatClampNeg (0 : Int64)) zcount) := hD
    refine lv_iconst (v := (1 : Int32)) hx hb d_HB_release_17 (by decide) ?_
    obtain rfl := Option.some.inj hf
    exact z_zret hx hb hr (Or.inr rfl) hP hD hS d_HB_release_18 hlocks
  · have hf := z_fn c1 hf
    refine lv_iconst (v := (0 : Int32)) hx hb d_HB_release_8 (by decide) ?_
    obtain rfl := Option.some.inj hf
    exact z_zret hx hb hr (Or.inl rfl) hP hD hS d_HB_release_9 hlocks
set_option maxHeartbeats 4000000 in
set_option maxRecDepth 100000 in
theorem c_DM_get (l : Launch) (dC : Nat → ClassId) (dI : Nat → Nat → Nat) (N : Nat) (a : Nat → Nat) (k : Nat → ClassId) (zmarks : Nat → Int32) (p1 : Int32) (p2 : Int32) {y : (Int32)} (hf : pf_DM_get N zmarks p1 p2 = some y) (sz : Nat) : Met l y_DM_get ww_DM_get ({ frames := 1, cells := 0, slots := 0, locals := 20 }) (va_Pc [.ref (a 0), .int p1, .int p2] (zB (dC, dI) zCl (t_DM k) (w_DM a k zmarks) sz)) (zQi (dC, dI) zCl (w_DM a k zmarks) sz y (w_DM a k zmarks)) 0 0 (va_A (w_DM a k zmarks) sz) := by
  refine Met.ofW (cc := b_DM_get) (maxL := 3) (ret := (some .boolean)) (by decide) rfl ?_
  intro p e s m args below meth c s₁ B hml hv
  obtain ⟨rfl, rfl, hP, hK, hD, hN⟩ := hv
  have hx := B.exec
  have hb := B.bytes
  have hr := B.returns
  have hts := atoms_spec (ws := ww_DM_get) B.pre
  have hown : s.vm.findClass R_DM = some m.cls := findClass_of_methodNamed B.named
  have hlocks := B.notSynchronized
  have hA : ∀ q : Nat, s.heap.size ≤ q → va_A (w_DM a k zmarks) s.heap.size q := fun q h => Or.inr h
  refine z_start (lv := [(0, .ref (a 0)), (1, .int p1), (2, .int p2)]) (Nat.le_of_ble_eq_true rfl) rfl hP hD (fun H locs ls hP hD hS hl => ?_)
  unfold pf_DM_get at hf
  refine lv_iload_n hx hb d_DM_get_0 rfl (lv_at hl 1 rfl) ?_
  obtain ⟨u0, hu0, hf⟩ := z_b hf
  have hPc := zP_cut (wc := ([] : va_W)) 0 0 hP rfl
  have hDc := zD_cut (wc := ([] : va_W)) 0 0 hD rfl
  have hKc := hK.sub (tys' := ([] : List (ClassId × FieldType))) [] rfl
  refine z_ci (va_runSN (As := [.int p1]) (rest := []) ⟨hx, hb, hml, hown, hts⟩ (c_OS_isTarget l dC dI N (fun i => a (0 + i)) (fun i => k (0 + i)) p1 hu0 H.size) ⟨va_cnB 1 hts (zGN zsub_c kc_OS_isTarget) rfl rfl rfl (hN _ (List.mem_of_getElem? (i := 7) rfl)) (hts _ (List.mem_cons_of_mem _ k_1_1)) (by decide +kernel) ⟨Nat.le_of_ble_eq_true rfl, Nat.le_of_ble_eq_true rfl⟩, (hts _ (List.mem_cons_of_mem _ k_1_152)), trivial⟩ ⟨z_bl, fun U hU hW => ⟨rfl, z_pre hN hKc hPc hDc U hU hW⟩⟩ rfl rfl hl.1 rfl (lv_room (Nat.le_of_ble_eq_true rfl)) d_DM_get_1 ⟨Nat.zero_le _, Nat.zero_le _⟩) 0 0 (w_DM a k zmarks) hP hD hS hA rfl rfl (fun H locs hP hD hS => ?_)
  refine lv_if_eq (tgt := 32) hx hb d_DM_get_4 (by decide) (fun c1 => ?_) (fun c1 => ?_)
  · have hf := z_t c1 hf
    refine lv_iconst (v := (0 : Int32)) hx hb d_DM_get_32 (by decide) ?_
    obtain rfl := Option.some.inj hf
    exact z_zret hx hb hr (Or.inl rfl) hP hD hS d_DM_get_33 hlocks
  · have hf := z_f c1 hf
    refine lv_iload_n hx hb d_DM_get_7 rfl (lv_at hl 2 rfl) ?_
    obtain ⟨u1, hu1, hf⟩ := z_b hf
    have hPc := zP_cut (wc := ([] : va_W)) 0 0 hP rfl
    have hDc := zD_cut (wc := ([] : va_W)) 0 0 hD rfl
    have hKc := hK.sub (tys' := ([] : List (ClassId × FieldType))) [] rfl
    refine z_ci (va_runSN (As := [.int p2]) (rest := []) ⟨hx, hb, hml, hown, hts⟩ (c_OS_isConfiguration l dC dI N (fun i => a (0 + i)) (fun i => k (0 + i)) p2 hu1 H.size) ⟨va_cnB 1 hts (zGN zsub_c kc_OS_isConfiguration) rfl rfl rfl (hN _ (List.mem_of_getElem? (i := 8) rfl)) (hts _ (List.mem_cons_of_mem _ k_1_1)) (by decide +kernel) ⟨Nat.le_of_ble_eq_true rfl, Nat.le_of_ble_eq_true rfl⟩, (hts _ (List.mem_cons_of_mem _ k_1_155)), trivial⟩ ⟨z_bl, fun U hU hW => ⟨rfl, z_pre hN hKc hPc hDc U hU hW⟩⟩ rfl rfl hl.1 rfl (lv_room (Nat.le_of_ble_eq_true rfl)) d_DM_get_8 ⟨Nat.zero_le _, Nat.zero_le _⟩) 0 0 (w_DM a k zmarks) hP hD hS hA rfl rfl (fun H locs hP hD hS => ?_)
    refine lv_if_eq (tgt := 32) hx hb d_DM_get_11 (by decide) (fun c2 => ?_) (fun c2 => ?_)
    · have hf := z_t c2 hf
      refine lv_iconst (v := (0 : Int32)) hx hb d_DM_get_32 (by decide) ?_
      obtain rfl := Option.some.inj hf
      exact z_zret hx hb hr (Or.inl rfl) hP hD hS d_DM_get_33 hlocks
    · have hf := z_f c2 hf
      refine lv_aload_n hx hb d_DM_get_14 rfl (lv_at hl 0 rfl) ?_
      refine va_get (D := (dC, dI)) (ci := 5) (v := .ref (a 1)) (C := R_DM) (T := F_DM) (N := 1) hx hb hts (fun w h => List.mem_cons_of_mem _ (in_DM w h)) hown hK hP 0 rfl rfl 0 (by decide) (hts _ (List.mem_cons_of_mem _ k_1_106)) (fun _ h9 => h9) rfl d_DM_get_15 ?_
      refine lv_iload_n hx hb d_DM_get_18 rfl (lv_at hl 2 rfl) ?_
      refine lv_bipush (v := (nI 12)) hx hb d_DM_get_19 (by decide) ?_
      refine lv_imul hx hb d_DM_get_21 ?_
      refine lv_iload_n hx hb d_DM_get_22 rfl (lv_at hl 1 rfl) ?_
      refine lv_iadd hx hb d_DM_get_23 ?_
      obtain ⟨g3, hf⟩ := z_gz hf
      refine va_zald hx hb hK hP 1 0 rfl rfl g3 d_DM_get_24 ?_
      refine lv_if_eq (tgt := 32) hx hb d_DM_get_25 (by decide) (fun c4 => ?_) (fun c4 => ?_)
      · have hf := z_t c4 hf
        refine lv_iconst (v := (0 : Int32)) hx hb d_DM_get_32 (by decide) ?_
        obtain rfl := Option.some.inj hf
        exact z_zret hx hb hr (Or.inl rfl) hP hD hS d_DM_get_33 hlocks
      · have hf := z_f c4 hf
        refine lv_iconst (v := (1 : Int32)) hx hb d_DM_get_28 (by decide) ?_
        refine lv_goto (tgt := 33) hx hb d_DM_get_29 (by decide) ?_
        obtain rfl := Option.some.inj hf
        exact z_zret hx hb hr (Or.inr rfl) hP hD hS d_DM_get_33 hlocks
set_option maxHeartbeats 4000000 in
set_option maxRecDepth 100000 in
theorem c_DM_set (l : Launch) (dC : Nat → ClassId) (dI : Nat → Nat → Nat) (N : Nat) (a : Nat → Nat) (k : Nat → ClassId) (zmarks : Nat → Int32) (p1 : Int32) (p2 : Int32) (p3 : Int32) {y : ((Nat → Int32))} (hf : pf_DM_set N zmarks p1 p2 p3 = some y) (sz : Nat) : Met l y_DM_set ww_DM_set ({ frames := 1, cells := 0, slots := 0, locals := 20 }) (va_Pc [.ref (a 0), .int p1, .int p2, .int p3] (zB (dC, dI) zCl (t_DM k) (w_DM a k zmarks) sz)) (zQv (dC, dI) zCl (w_DM a k zmarks) sz (w_DM a k y)) 0 0 (va_A (w_DM a k zmarks) sz) := by
  refine Met.ofW (cc := b_DM_set) (maxL := 4) (ret := none) (by decide) rfl ?_
  intro p e s m args below meth c s₁ B hml hv
  obtain ⟨rfl, rfl, hP, hK, hD, hN⟩ := hv
  have hx := B.exec
  have hb := B.bytes
  have hr := B.returns
  have hts := atoms_spec (ws := ww_DM_set) B.pre
  have hown : s.vm.findClass R_DM = some m.cls := findClass_of_methodNamed B.named
  have hlocks := B.notSynchronized
  have hA : ∀ q : Nat, s.heap.size ≤ q → va_A (w_DM a k zmarks) s.heap.size q := fun q h => Or.inr h
  refine z_start (lv := [(0, .ref (a 0)), (1, .int p1), (2, .int p2), (3, .int p3)]) (Nat.le_of_ble_eq_true rfl) rfl hP hD (fun H locs ls hP hD hS hl => ?_)
  unfold pf_DM_set at hf
  refine lv_iload_n hx hb d_DM_set_0 rfl (lv_at hl 1 rfl) ?_
  obtain ⟨u0, hu0, hf⟩ := z_b hf
  have hPc := zP_cut (wc := ([] : va_W)) 0 0 hP rfl
  have hDc := zD_cut (wc := ([] : va_W)) 0 0 hD rfl
  have hKc := hK.sub (tys' := ([] : List (ClassId × FieldType))) [] rfl
  refine z_ci (va_runSN (As := [.int p1]) (rest := []) ⟨hx, hb, hml, hown, hts⟩ (c_OS_isTarget l dC dI N (fun i => a (0 + i)) (fun i => k (0 + i)) p1 hu0 H.size) ⟨va_cnB 1 hts (zGN zsub_c kc_OS_isTarget) rfl rfl rfl (hN _ (List.mem_of_getElem? (i := 7) rfl)) (hts _ (List.mem_cons_of_mem _ k_1_1)) (by decide +kernel) ⟨Nat.le_of_ble_eq_true rfl, Nat.le_of_ble_eq_true rfl⟩, (hts _ (List.mem_cons_of_mem _ k_1_152)), trivial⟩ ⟨z_bl, fun U hU hW => ⟨rfl, z_pre hN hKc hPc hDc U hU hW⟩⟩ rfl rfl hl.1 rfl (lv_room (Nat.le_of_ble_eq_true rfl)) d_DM_set_1 ⟨Nat.zero_le _, Nat.zero_le _⟩) 0 0 (w_DM a k zmarks) hP hD hS hA rfl rfl (fun H locs hP hD hS => ?_)
  refine lv_if_eq (tgt := 26) hx hb d_DM_set_4 (by decide) (fun c1 => ?_) (fun c1 => ?_)
  · have hf := z_t c1 hf
    obtain rfl := Option.some.inj hf
    exact z_vret hx hb hr hP hD hS d_DM_set_26 hlocks
  · have hf := z_f c1 hf
    refine lv_iload_n hx hb d_DM_set_7 rfl (lv_at hl 2 rfl) ?_
    obtain ⟨u1, hu1, hf⟩ := z_b hf
    have hPc := zP_cut (wc := ([] : va_W)) 0 0 hP rfl
    have hDc := zD_cut (wc := ([] : va_W)) 0 0 hD rfl
    have hKc := hK.sub (tys' := ([] : List (ClassId × FieldType))) [] rfl
    refine z_ci (va_runSN (As := [.int p2]) (rest := []) ⟨hx, hb, hml, hown, hts⟩ (c_OS_isConfiguration l dC dI N (fun i => a (0 + i)) (fun i => k (0 + i)) p2 hu1 H.size) ⟨va_cnB 1 hts (zGN zsub_c kc_OS_isConfiguration) rfl rfl rfl (hN _ (List.mem_of_getElem? (i := 8) rfl)) (hts _ (List.mem_cons_of_mem _ k_1_1)) (by decide +kernel) ⟨Nat.le_of_ble_eq_true rfl, Nat.le_of_ble_eq_true rfl⟩, (hts _ (List.mem_cons_of_mem _ k_1_155)), trivial⟩ ⟨z_bl, fun U hU hW => ⟨rfl, z_pre hN hKc hPc hDc U hU hW⟩⟩ rfl rfl hl.1 rfl (lv_room (Nat.le_of_ble_eq_true rfl)) d_DM_set_8 ⟨Nat.zero_le _, Nat.zero_le _⟩) 0 0 (w_DM a k zmarks) hP hD hS hA rfl rfl (fun H locs hP hD hS => ?_)
    refine lv_if_eq (tgt := 26) hx hb d_DM_set_11 (by decide) (fun c2 => ?_) (fun c2 => ?_)
    · have hf := z_t c2 hf
      obtain rfl := Option.some.inj hf
      exact z_vret hx hb hr hP hD hS d_DM_set_26 hlocks
    · have hf := z_f c2 hf
      refine lv_aload_n hx hb d_DM_set_14 rfl (lv_at hl 0 rfl) ?_
      refine va_get (D := (dC, dI)) (ci := 5) (v := .ref (a 1)) (C := R_DM) (T := F_DM) (N := 1) hx hb hts (fun w h => List.mem_cons_of_mem _ (in_DM w h)) hown hK hP 0 rfl rfl 0 (by decide) (hts _ (List.mem_cons_of_mem _ k_1_106)) (fun _ h9 => h9) rfl d_DM_set_15 ?_
      refine lv_iload_n hx hb d_DM_set_18 rfl (lv_at hl 2 rfl) ?_
      refine lv_bipush (v := (nI 12)) hx hb d_DM_set_19 (by decide) ?_
      refine lv_imul hx hb d_DM_set_21 ?_
      refine lv_iload_n hx hb d_DM_set_22 rfl (lv_at hl 1 rfl) ?_
      refine lv_iadd hx hb d_DM_set_23 ?_
      refine lv_iload_n hx hb d_DM_set_24 rfl (lv_at hl 3 rfl) ?_
      obtain ⟨g3, hf⟩ := z_gz hf
      refine va_zast hx hb hK hP hD hS 1 0 rfl rfl g3 d_DM_set_25 (fun H locs hP hD hS => ?_)
      have hP : va_P (dC, dI) zCl (w_DM a k (upd zmarks ((p2 * (nI 12)) + p1).toNatClampNeg (vp_nar .boolean p3))) H := hP
      have hD : va_D _ (w_DM a k (upd zmarks ((p2 * (nI 12)) + p1).toNatClampNeg (vp_nar .boolean p3))) := hD
      obtain rfl := Option.some.inj hf
      exact z_vret hx hb hr hP hD hS d_DM_set_26 hlocks
