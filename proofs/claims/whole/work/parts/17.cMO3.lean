set_option maxHeartbeats 4000000 in
set_option maxRecDepth 100000 in
theorem c_MO_abandon (l : Launch) (dC : Nat → ClassId) (dI : Nat → Nat → Nat) (N : Nat) (a : Nat → Nat) (k : Nat → ClassId) (zpaths : Int32) (zsteps : Int32) (zcached : Int32) (zholds : Int32) (zinside : Nat → Int32) (zowner : Nat → Int32) (zmaker : Nat → Int32) (zcontent : Nat → Int64) (zruns : Nat → Int32) (zisThere : Nat → Int32) (ztarget : Nat → Int32) (zplace : Nat → Int32) (zrun : Nat → Int32) (zstaged : Nat → Int32) (zisOpen : Nat → Int32) (zstagedAt : Nat → Int32) (zstagedContent : Nat → Int64) (zstagedRuns : Nat → Int32) (zstagedLazy : Nat → Int32) (zisDirty : Nat → Int32) (zcache : Nat → Int64) (zhold : Nat → Int64) (zmet : Int32) (zrow : Nat → Int64) (p1 : Int32) {y : (Int32 × (Nat → Int32))} (hf : pf_MO_abandon N zsteps zrun zisOpen p1 = some y) (sz : Nat) : Met l y_MO_abandon ww_MO_abandon ({ frames := 1, cells := 0, slots := 0, locals := 21 }) (va_Pc [.ref (a 0), .int p1] (zB (dC, dI) zCl (t_MO k) (w_MO a k zpaths zsteps zcached zholds zinside zowner zmaker zcontent zruns zisThere ztarget zplace zrun zstaged zisOpen zstagedAt zstagedContent zstagedRuns zstagedLazy zisDirty zcache zhold zmet zrow) sz)) (zQi (dC, dI) zCl (w_MO a k zpaths zsteps zcached zholds zinside zowner zmaker zcontent zruns zisThere ztarget zplace zrun zstaged zisOpen zstagedAt zstagedContent zstagedRuns zstagedLazy zisDirty zcache zhold zmet zrow) sz y.1 (w_MO a k zpaths zsteps zcached zholds zinside zowner zmaker zcontent zruns zisThere ztarget zplace zrun zstaged y.2 zstagedAt zstagedContent zstagedRuns zstagedLazy zisDirty zcache zhold zmet zrow)) 0 0 (va_A (w_MO a k zpaths zsteps zcached zholds zinside zowner zmaker zcontent zruns zisThere ztarget zplace zrun zstaged zisOpen zstagedAt zstagedContent zstagedRuns zstagedLazy zisDirty zcache zhold zmet zrow) sz) := by
  refine Met.ofW (cc := b_MO_abandon) (maxL := 4) (ret := (some .int)) (by decide) rfl ?_
  intro p e s m args below meth c s₁ B hml hv
  obtain ⟨rfl, rfl, hP, hK, hD, hN⟩ := hv
  have hx := B.exec
  have hb := B.bytes
  have hr := B.returns
  have hts := atoms_spec (ws := ww_MO_abandon) B.pre
  have hown : s.vm.findClass R_MO = some m.cls := findClass_of_methodNamed B.named
  have hlocks := B.notSynchronized
  have hA : ∀ q : Nat, s.heap.size ≤ q → va_A (w_MO a k zpaths zsteps zcached zholds zinside zowner zmaker zcontent zruns zisThere ztarget zplace zrun zstaged zisOpen zstagedAt zstagedContent zstagedRuns zstagedLazy zisDirty zcache zhold zmet zrow) s.heap.size q := fun q h => Or.inr h
  refine z_start (lv := [(0, .ref (a 0)), (1, .int p1)]) (Nat.le_of_ble_eq_true rfl) rfl hP hD (fun H locs ls hP hD hS hl => ?_)
  unfold pf_MO_abandon at hf
  refine lv_iload_n hx hb d_MO_abandon_0 rfl (lv_at hl 1 rfl) ?_
  refine lv_bipush (v := (nI 7)) hx hb d_MO_abandon_1 (by decide) ?_
  obtain ⟨u0, hu0, hf⟩ := z_b hf
  have hPc := zP_cut (wc := ([] : va_W)) 0 0 hP rfl
  have hDc := zD_cut (wc := ([] : va_W)) 0 0 hD rfl
  have hKc := hK.sub (tys' := ([] : List (ClassId × FieldType))) [] rfl
  refine z_ci (va_runS (As := [.int p1, .int (nI 7)]) (rest := []) ⟨hx, hb, hml, hown, hts⟩ (c_MO_within l dC dI N (fun i => a (0 + i)) (fun i => k (0 + i)) p1 (nI 7) hu0 H.size) (cwS 2 hts (zGS zsub_c k_3_6 k_3_7 k_1_8 kc_MO_within) rfl rfl rfl (by decide +kernel) ⟨Nat.le_of_ble_eq_true rfl, Nat.le_of_ble_eq_true rfl⟩) ⟨z_bl, fun U hU hW => ⟨rfl, z_pre hN hKc hPc hDc U hU hW⟩⟩ rfl rfl hl.1 rfl (lv_room (Nat.le_of_ble_eq_true rfl)) d_MO_abandon_3 ⟨Nat.zero_le _, Nat.zero_le _⟩) 0 0 (w_MO a k zpaths zsteps zcached zholds zinside zowner zmaker zcontent zruns zisThere ztarget zplace zrun zstaged zisOpen zstagedAt zstagedContent zstagedRuns zstagedLazy zisDirty zcache zhold zmet zrow) hP hD hS hA rfl rfl (fun H locs hP hD hS => ?_)
  refine lv_if_ne (tgt := 11) hx hb d_MO_abandon_6 (by decide) (fun c1 => ?_) (fun c1 => ?_)
  · have hf := z_t c1 hf
    refine lv_iconst (v := (0 : Int32)) hx hb d_MO_abandon_11 (by decide) ?_
    refine lv_istore_n (lv' := [(2, .int (0 : Int32)), (0, .ref (a 0)), (1, .int p1)]) hx hb d_MO_abandon_12 rfl hl (by decide) rfl (fun ls hl => ?_)
    refine lv_iconst (v := (0 : Int32)) hx hb d_MO_abandon_13 (by decide) ?_
    refine lv_istore_n (lv' := [(3, .int (0 : Int32)), (2, .int (0 : Int32)), (0, .ref (a 0)), (1, .int p1)]) hx hb d_MO_abandon_14 rfl hl (by decide) rfl (fun ls hl => ?_)
    have loop15 : ∀ (n : Nat) (zisOpen' : Nat → Int32) (x2 : Int32) (x3 : Int32), pf_MO_abandon_L15 N zsteps zrun p1 n zisOpen' x2 x3 = some y → ∀ (H : Heap) (locs : List Loc) (ls : Array Slot), va_P (dC, dI) zCl (w_MO a k zpaths zsteps zcached zholds zinside zowner zmaker zcontent zruns zisThere ztarget zplace zrun zstaged zisOpen' zstagedAt zstagedContent zstagedRuns zstagedLazy zisDirty zcache zhold zmet zrow) H → va_D (va_A (w_MO a k zpaths zsteps zcached zholds zinside zowner zmaker zcontent zruns zisThere ztarget zplace zrun zstaged zisOpen zstagedAt zstagedContent zstagedRuns zstagedLazy zisDirty zcache zhold zmet zrow) s.heap.size) (w_MO a k zpaths zsteps zcached zholds zinside zowner zmaker zcontent zruns zisThere ztarget zplace zrun zstaged zisOpen' zstagedAt zstagedContent zstagedRuns zstagedLazy zisDirty zcache zhold zmet zrow) → va_S (va_A (w_MO a k zpaths zsteps zcached zholds zinside zowner zmaker zcontent zruns zisThere ztarget zplace zrun zstaged zisOpen zstagedAt zstagedContent zstagedRuns zstagedLazy zisDirty zcache zhold zmet zrow) s.heap.size) s.heap H locs → lv_has ls 4 [(0, .ref (a 0)), (1, .int p1), (2, .int x2), (3, .int x3)] → W p l e (headSpec ww_MO_abandon ({ frames := 1, cells := 0, slots := 0, locals := 21 })).room s m ([.ref (a 0), .int p1] : List Value).toArray below meth c H locs 0 0 (MQ below (zQi (dC, dI) zCl (w_MO a k zpaths zsteps zcached zholds zinside zowner zmaker zcontent zruns zisThere ztarget zplace zrun zstaged zisOpen zstagedAt zstagedContent zstagedRuns zstagedLazy zisDirty zcache zhold zmet zrow) s.heap.size y.1 (w_MO a k zpaths zsteps zcached zholds zinside zowner zmaker zcontent zruns zisThere ztarget zplace zrun zstaged y.2 zstagedAt zstagedContent zstagedRuns zstagedLazy zisDirty zcache zhold zmet zrow)) ([.ref (a 0), .int p1] : List Value).toArray s 0 0 (va_A (w_MO a k zpaths zsteps zcached zholds zinside zowner zmaker zcontent zruns zisThere ztarget zplace zrun zstaged zisOpen zstagedAt zstagedContent zstagedRuns zstagedLazy zisDirty zcache zhold zmet zrow) s.heap.size)) (F0 m 15 ls []) := by
      intro n15
      induction n15 with
      | zero => intro zisOpen' x2 x3 hf; rw [pf_MO_abandon_L15.eq_1] at hf; cases hf
      | succ n15 ih15 =>
        intro zisOpen' x2 x3 hf H locs ls hP hD hS hl
        rw [pf_MO_abandon_L15.eq_2] at hf
        refine lv_iload_n hx hb d_MO_abandon_15 rfl (lv_at hl 3 rfl) ?_
        refine lv_aload_n hx hb d_MO_abandon_16 rfl (lv_at hl 0 rfl) ?_
        refine va_get (D := (dC, dI)) (ci := 7) (v := .int zsteps) (C := R_MO) (T := F_MO) (N := 24) hx hb hts (fun w h => List.mem_cons_of_mem _ (in_MO w h)) hown hK hP 0 rfl rfl 1 (by decide) (hts _ (List.mem_cons_of_mem _ k_2_162)) (fun _ h9 => h9) rfl d_MO_abandon_17 ?_
        refine lv_icmp_ge (tgt := 61) hx hb d_MO_abandon_20 (by decide) (fun c2 => ?_) (fun c2 => ?_)
        · have hf := z_t c2 hf
          refine lv_iload_n hx hb d_MO_abandon_61 rfl (lv_at hl 2 rfl) ?_
          obtain rfl := Option.some.inj hf
          exact z_iret hx hb hr hP hD hS d_MO_abandon_62 hlocks
        · have hf := z_f c2 hf
          refine lv_aload_n hx hb d_MO_abandon_23 rfl (lv_at hl 0 rfl) ?_
          refine va_get (D := (dC, dI)) (ci := 7) (v := .ref (a 11)) (C := R_MO) (T := F_MO) (N := 24) hx hb hts (fun w h => List.mem_cons_of_mem _ (in_MO w h)) hown hK hP 0 rfl rfl 14 (by decide) (hts _ (List.mem_cons_of_mem _ k_2_175)) (fun _ h9 => h9) rfl d_MO_abandon_24 ?_
          refine lv_iload_n hx hb d_MO_abandon_27 rfl (lv_at hl 3 rfl) ?_
          obtain ⟨g3, hf⟩ := z_gz hf
          refine va_zald hx hb hK hP 11 10 rfl rfl g3 d_MO_abandon_28 ?_
          refine lv_if_eq (tgt := 55) hx hb d_MO_abandon_29 (by decide) (fun c4 => ?_) (fun c4 => ?_)
          · have hf := z_t c4 hf
            refine lv_iinc (v := (x3 + (1 : Int32))) (lv' := [(3, .int (x3 + (1 : Int32))), (0, .ref (a 0)), (1, .int p1), (2, .int x2)]) hx hb d_MO_abandon_55 hl (k := 3) rfl rfl (by decide) rfl (fun ls hl => ?_)
            refine lv_goto (tgt := 15) hx hb d_MO_abandon_58 (by decide) ?_
            exact ih15 zisOpen' x2 (x3 + (1 : Int32)) hf H locs ls hP hD hS (lv_sub hl [1, 2, 3, 0] rfl)
          · have hf := z_f c4 hf
            refine lv_aload_n hx hb d_MO_abandon_32 rfl (lv_at hl 0 rfl) ?_
            refine va_get (D := (dC, dI)) (ci := 7) (v := .ref (a 9)) (C := R_MO) (T := F_MO) (N := 24) hx hb hts (fun w h => List.mem_cons_of_mem _ (in_MO w h)) hown hK hP 0 rfl rfl 12 (by decide) (hts _ (List.mem_cons_of_mem _ k_2_173)) (fun _ h9 => h9) rfl d_MO_abandon_33 ?_
            refine lv_iload_n hx hb d_MO_abandon_36 rfl (lv_at hl 3 rfl) ?_
            obtain ⟨g5, hf⟩ := z_gz hf
            refine va_iald hx hb hK hP 9 8 rfl rfl g5 d_MO_abandon_37 ?_
            refine lv_iload_n hx hb d_MO_abandon_38 rfl (lv_at hl 1 rfl) ?_
            refine lv_icmp_eq (tgt := 45) hx hb d_MO_abandon_39 (by decide) (fun c6 => ?_) (fun c6 => ?_)
            · have hf := z_t c6 hf
              refine lv_aload_n hx hb d_MO_abandon_45 rfl (lv_at hl 0 rfl) ?_
              refine va_get (D := (dC, dI)) (ci := 7) (v := .ref (a 11)) (C := R_MO) (T := F_MO) (N := 24) hx hb hts (fun w h => List.mem_cons_of_mem _ (in_MO w h)) hown hK hP 0 rfl rfl 14 (by decide) (hts _ (List.mem_cons_of_mem _ k_2_175)) (fun _ h9 => h9) rfl d_MO_abandon_46 ?_
              refine lv_iload_n hx hb d_MO_abandon_49 rfl (lv_at hl 3 rfl) ?_
              refine lv_iconst (v := (0 : Int32)) hx hb d_MO_abandon_50 (by decide) ?_
              obtain ⟨g7, hf⟩ := z_gz hf
              refine va_zast hx hb hK hP hD hS 11 10 rfl rfl g7 d_MO_abandon_51 (fun H locs hP hD hS => ?_)
              have hP : va_P (dC, dI) zCl (w_MO a k zpaths zsteps zcached zholds zinside zowner zmaker zcontent zruns zisThere ztarget zplace zrun zstaged (upd zisOpen' x3.toNatClampNeg (vp_nar .boolean (0 : Int32))) zstagedAt zstagedContent zstagedRuns zstagedLazy zisDirty zcache zhold zmet zrow) H := hP
              have hD : va_D _ (w_MO a k zpaths zsteps zcached zholds zinside zowner zmaker zcontent zruns zisThere ztarget zplace zrun zstaged (upd zisOpen' x3.toNatClampNeg (vp_nar .boolean (0 : Int32))) zstagedAt zstagedContent zstagedRuns zstagedLazy zisDirty zcache zhold zmet zrow) := hD
              refine lv_iinc (v := (x2 + (1 : Int32))) (lv' := [(2, .int (x2 + (1 : Int32))), (0, .ref (a 0)), (1, .int p1), (3, .int x3)]) hx hb d_MO_abandon_52 hl (k := 2) rfl rfl (by decide) rfl (fun ls hl => ?_)
              refine lv_iinc (v := (x3 + (1 : Int32))) (lv' := [(3, .int (x3 + (1 : Int32))), (2, .int (x2 + (1 : Int32))), (0, .ref (a 0)), (1, .int p1)]) hx hb d_MO_abandon_55 hl (k := 3) rfl rfl (by decide) rfl (fun ls hl => ?_)
              refine lv_goto (tgt := 15) hx hb d_MO_abandon_58 (by decide) ?_
              exact ih15 (upd zisOpen' x3.toNatClampNeg (vp_nar .boolean (0 : Int32))) (x2 + (1 : Int32)) (x3 + (1 : Int32)) hf H locs ls hP hD hS (lv_sub hl [2, 3, 1, 0] rfl)
            · have hf := z_f c6 hf
              refine lv_goto (tgt := 55) hx hb d_MO_abandon_42 (by decide) ?_
              refine lv_iinc (v := (x3 + (1 : Int32))) (lv' := [(3, .int (x3 + (1 : Int32))), (0, .ref (a 0)), (1, .int p1), (2, .int x2)]) hx hb d_MO_abandon_55 hl (k := 3) rfl rfl (by decide) rfl (fun ls hl => ?_)
              refine lv_goto (tgt := 15) hx hb d_MO_abandon_58 (by decide) ?_
              exact ih15 zisOpen' x2 (x3 + (1 : Int32)) hf H locs ls hP hD hS (lv_sub hl [1, 2, 3, 0] rfl)
    exact loop15 N zisOpen (0 : Int32) (0 : Int32) hf H locs ls hP hD hS (lv_sub hl [2, 3, 1, 0] rfl)
  · have hf := z_fn c1 hf
    refine lv_iconst (v := (-1 : Int32)) hx hb d_MO_abandon_9 (by decide) ?_
    obtain rfl := Option.some.inj hf
    exact z_iret hx hb hr hP hD hS d_MO_abandon_10 hlocks
set_option maxHeartbeats 4000000 in
set_option maxRecDepth 100000 in
theorem c_MO_cache (l : Launch) (dC : Nat → ClassId) (dI : Nat → Nat → Nat) (N : Nat) (a : Nat → Nat) (k : Nat → ClassId) (zpaths : Int32) (zsteps : Int32) (zcached : Int32) (zholds : Int32) (zinside : Nat → Int32) (zowner : Nat → Int32) (zmaker : Nat → Int32) (zcontent : Nat → Int64) (zruns : Nat → Int32) (zisThere : Nat → Int32) (ztarget : Nat → Int32) (zplace : Nat → Int32) (zrun : Nat → Int32) (zstaged : Nat → Int32) (zisOpen : Nat → Int32) (zstagedAt : Nat → Int32) (zstagedContent : Nat → Int64) (zstagedRuns : Nat → Int32) (zstagedLazy : Nat → Int32) (zisDirty : Nat → Int32) (zcache : Nat → Int64) (zhold : Nat → Int64) (zmet : Int32) (zrow : Nat → Int64) (p1 : Int64) (p3 : Int32) {y : (Int32 × Int32 × (Nat → Int64))} (hf : pf_MO_cache N zcached zcache p1 p3 = some y) (sz : Nat) : Met l y_MO_cache ww_MO_cache ({ frames := 1, cells := 0, slots := 0, locals := 24 }) (va_Pc [.ref (a 0), .long p1, .int p3] (zB (dC, dI) zCl (t_MO k) (w_MO a k zpaths zsteps zcached zholds zinside zowner zmaker zcontent zruns zisThere ztarget zplace zrun zstaged zisOpen zstagedAt zstagedContent zstagedRuns zstagedLazy zisDirty zcache zhold zmet zrow) sz)) (zQi (dC, dI) zCl (w_MO a k zpaths zsteps zcached zholds zinside zowner zmaker zcontent zruns zisThere ztarget zplace zrun zstaged zisOpen zstagedAt zstagedContent zstagedRuns zstagedLazy zisDirty zcache zhold zmet zrow) sz y.1 (w_MO a k zpaths zsteps y.2.1 zholds zinside zowner zmaker zcontent zruns zisThere ztarget zplace zrun zstaged zisOpen zstagedAt zstagedContent zstagedRuns zstagedLazy zisDirty y.2.2 zhold zmet zrow)) 0 0 (va_A (w_MO a k zpaths zsteps zcached zholds zinside zowner zmaker zcontent zruns zisThere ztarget zplace zrun zstaged zisOpen zstagedAt zstagedContent zstagedRuns zstagedLazy zisDirty zcache zhold zmet zrow) sz) := by
  refine Met.ofW (cc := b_MO_cache) (maxL := 5) (ret := (some .boolean)) (by decide) rfl ?_
  intro p e s m args below meth c s₁ B hml hv
  obtain ⟨rfl, rfl, hP, hK, hD, hN⟩ := hv
  have hx := B.exec
  have hb := B.bytes
  have hr := B.returns
  have hts := atoms_spec (ws := ww_MO_cache) B.pre
  have hown : s.vm.findClass R_MO = some m.cls := findClass_of_methodNamed B.named
  have hlocks := B.notSynchronized
  have hA : ∀ q : Nat, s.heap.size ≤ q → va_A (w_MO a k zpaths zsteps zcached zholds zinside zowner zmaker zcontent zruns zisThere ztarget zplace zrun zstaged zisOpen zstagedAt zstagedContent zstagedRuns zstagedLazy zisDirty zcache zhold zmet zrow) s.heap.size q := fun q h => Or.inr h
  refine z_start (lv := [(0, .ref (a 0)), (1, .long p1), (3, .int p3)]) (Nat.le_of_ble_eq_true rfl) rfl hP hD (fun H locs ls hP hD hS hl => ?_)
  unfold pf_MO_cache at hf
  refine lv_lload_n hx hb d_MO_cache_0 rfl (lv_at hl 1 rfl) ?_
  refine lv_lconst (v := 0) hx hb d_MO_cache_1 (by decide) ?_
  refine W.lcmp hx hb d_MO_cache_2 ?_
  refine lv_if_eq (tgt := 27) hx hb d_MO_cache_3 (by decide) (fun c1 => ?_) (fun c1 => ?_)
  · have hf := z_t c1 hf
    refine lv_iconst (v := (0 : Int32)) hx hb d_MO_cache_27 (by decide) ?_
    obtain rfl := Option.some.inj hf
    exact z_zret hx hb hr (Or.inl rfl) hP hD hS d_MO_cache_28 hlocks
  · have hf := z_f c1 hf
    refine lv_iload_n hx hb d_MO_cache_6 rfl (lv_at hl 2 rfl) ?_
    refine lv_if_eq (tgt := 29) hx hb d_MO_cache_7 (by decide) (fun c2 => ?_) (fun c2 => ?_)
    · have hf := z_t c2 hf
      refine lv_iload_n hx hb d_MO_cache_29 rfl (lv_at hl 2 rfl) ?_
      refine lv_aload_n hx hb d_MO_cache_30 rfl (lv_at hl 0 rfl) ?_
      refine lv_lload_n hx hb d_MO_cache_31 rfl (lv_at hl 1 rfl) ?_
      obtain ⟨u0, hu0, hf⟩ := z_b hf
      have hPc := hP
      have hDc := hD
      have hKc := hK
      refine z_cwi (va_runV (As := [.long p1]) (rest := [.int p3]) ⟨hx, hb, hml, hown, hts⟩ (c_MO_isCached l dC dI N a k zpaths zsteps zcached zholds zinside zowner zmaker zcontent zruns zisThere ztarget zplace zrun zstaged zisOpen zstagedAt zstagedContent zstagedRuns zstagedLazy zisDirty zcache zhold zmet zrow p1 hu0 H.size) (cwV 1 hts (zGV zsub_c k_3_37 k_3_39 s_MO_isCached k_1_8 kc_MO_isCached) rfl rfl rfl (by decide +kernel) ⟨Nat.le_of_ble_eq_true rfl, Nat.le_of_ble_eq_true rfl⟩) ⟨z_bl, va_recv hKc hPc (ci := 7) (q0 := 0) rfl rfl, fun U hU hW => ⟨rfl, z_pre hN hKc hPc hDc U hU hW⟩⟩ rfl rfl hl.1 rfl (lv_room (Nat.le_of_ble_eq_true rfl)) d_MO_cache_32 ⟨Nat.zero_le _, Nat.zero_le _⟩) hD hS hA (fun H locs hP hD hS => ?_)
      refine lv_icmp_ne (tgt := 40) hx hb d_MO_cache_35 (by decide) (fun c3 => ?_) (fun c3 => ?_)
      · have hf := z_t c3 hf
        refine lv_iload_n hx hb d_MO_cache_40 rfl (lv_at hl 2 rfl) ?_
        refine lv_if_eq (tgt := 66) hx hb d_MO_cache_41 (by decide) (fun c4 => ?_) (fun c4 => ?_)
        · have hf := z_t c4 hf
          refine lv_iconst (v := (0 : Int32)) hx hb d_MO_cache_66 (by decide) ?_
          refine lv_istore (lv' := [(4, .int (0 : Int32)), (0, .ref (a 0)), (1, .long p1), (3, .int p3)]) hx hb d_MO_cache_67 hl (by decide) rfl (fun ls hl => ?_)
          have loop69 : ∀ (n : Nat) (x4 : Int32), pf_MO_cache_L69 N zcached zcache p1 n x4 = some y → ∀ (H : Heap) (locs : List Loc) (ls : Array Slot), va_P (dC, dI) zCl (w_MO a k zpaths zsteps zcached zholds zinside zowner zmaker zcontent zruns zisThere ztarget zplace zrun zstaged zisOpen zstagedAt zstagedContent zstagedRuns zstagedLazy zisDirty zcache zhold zmet zrow) H → va_D (va_A (w_MO a k zpaths zsteps zcached zholds zinside zowner zmaker zcontent zruns zisThere ztarget zplace zrun zstaged zisOpen zstagedAt zstagedContent zstagedRuns zstagedLazy zisDirty zcache zhold zmet zrow) s.heap.size) (w_MO a k zpaths zsteps zcached zholds zinside zowner zmaker zcontent zruns zisThere ztarget zplace zrun zstaged zisOpen zstagedAt zstagedContent zstagedRuns zstagedLazy zisDirty zcache zhold zmet zrow) → va_S (va_A (w_MO a k zpaths zsteps zcached zholds zinside zowner zmaker zcontent zruns zisThere ztarget zplace zrun zstaged zisOpen zstagedAt zstagedContent zstagedRuns zstagedLazy zisDirty zcache zhold zmet zrow) s.heap.size) s.heap H locs → lv_has ls 5 [(0, .ref (a 0)), (1, .long p1), (3, .int p3), (4, .int x4)] → W p l e (headSpec ww_MO_cache ({ frames := 1, cells := 0, slots := 0, locals := 24 })).room s m ([.ref (a 0), .long p1, .int p3] : List Value).toArray below meth c H locs 0 0 (MQ below (zQi (dC, dI) zCl (w_MO a k zpaths zsteps zcached zholds zinside zowner zmaker zcontent zruns zisThere ztarget zplace zrun zstaged zisOpen zstagedAt zstagedContent zstagedRuns zstagedLazy zisDirty zcache zhold zmet zrow) s.heap.size y.1 (w_MO a k zpaths zsteps y.2.1 zholds zinside zowner zmaker zcontent zruns zisThere ztarget zplace zrun zstaged zisOpen zstagedAt zstagedContent zstagedRuns zstagedLazy zisDirty y.2.2 zhold zmet zrow)) ([.ref (a 0), .long p1, .int p3] : List Value).toArray s 0 0 (va_A (w_MO a k zpaths zsteps zcached zholds zinside zowner zmaker zcontent zruns zisThere ztarget zplace zrun zstaged zisOpen zstagedAt zstagedContent zstagedRuns zstagedLazy zisDirty zcache zhold zmet zrow) s.heap.size)) (F0 m 69 ls []) := by
            intro n69
            induction n69 with
            | zero => intro x4 hf; rw [pf_MO_cache_L69.eq_1] at hf; cases hf
            | succ n69 ih69 =>
              intro x4 hf H locs ls hP hD hS hl
              rw [pf_MO_cache_L69.eq_2] at hf
              refine lv_aload_n hx hb d_MO_cache_69 rfl (lv_at hl 0 rfl) ?_
              refine va_get (D := (dC, dI)) (ci := 7) (v := .ref (a 17)) (C := R_MO) (T := F_MO) (N := 24) hx hb hts (fun w h => List.mem_cons_of_mem _ (in_MO w h)) hown hK hP 0 rfl rfl 20 (by decide) (hts _ (List.mem_cons_of_mem _ k_2_181)) (fun _ h9 => h9) rfl d_MO_cache_70 ?_
              refine lv_iload hx hb d_MO_cache_73 (lv_at hl 3 rfl) ?_
              obtain ⟨g5, hf⟩ := z_gz hf
              refine va_lald hx hb hK hP 17 16 rfl rfl g5 d_MO_cache_75 ?_
              refine lv_lload_n hx hb d_MO_cache_76 rfl (lv_at hl 1 rfl) ?_
              refine W.lcmp hx hb d_MO_cache_77 ?_
              refine lv_if_eq (tgt := 87) hx hb d_MO_cache_78 (by decide) (fun c6 => ?_) (fun c6 => ?_)
              · have hf := z_t c6 hf
                refine lv_aload_n hx hb d_MO_cache_87 rfl (lv_at hl 0 rfl) ?_
                refine lv_dup hx hb d_MO_cache_88 rfl ?_
                refine va_get (D := (dC, dI)) (ci := 7) (v := .int zcached) (C := R_MO) (T := F_MO) (N := 24) hx hb hts (fun w h => List.mem_cons_of_mem _ (in_MO w h)) hown hK hP 0 rfl rfl 2 (by decide) (hts _ (List.mem_cons_of_mem _ k_2_163)) (fun _ h9 => h9) rfl d_MO_cache_89 ?_
                refine lv_iconst (v := (1 : Int32)) hx hb d_MO_cache_92 (by decide) ?_
                refine lv_isub hx hb d_MO_cache_93 ?_
                refine va_put (D := (dC, dI)) (ci := 7) (v := .int (zcached - (1 : Int32))) (ty := .int) (C := R_MO) (T := F_MO) (N := 24) hx hb hts (fun w h => List.mem_cons_of_mem _ (in_MO w h)) ty_MO ty_MO_ok nm_MO hown hK hP hD hS 0 rfl rfl 2 (by decide) (hts _ (List.mem_cons_of_mem _ k_2_163)) (fun _ h9 => h9) rfl (by decide +kernel) rfl rfl (Nat.le_of_ble_eq_true rfl) d_MO_cache_94 (fun H locs hP hD hS => ?_)
                have hP : va_P (dC, dI) zCl (w_MO a k zpaths zsteps (zcached - (1 : Int32)) zholds zinside zowner zmaker zcontent zruns zisThere ztarget zplace zrun zstaged zisOpen zstagedAt zstagedContent zstagedRuns zstagedLazy zisDirty zcache zhold zmet zrow) H := hP
                have hD : va_D _ (w_MO a k zpaths zsteps (zcached - (1 : Int32)) zholds zinside zowner zmaker zcontent zruns zisThere ztarget zplace zrun zstaged zisOpen zstagedAt zstagedContent zstagedRuns zstagedLazy zisDirty zcache zhold zmet zrow) := hD
                refine lv_aload_n hx hb d_MO_cache_97 rfl (lv_at hl 0 rfl) ?_
                refine va_get (D := (dC, dI)) (ci := 7) (v := .ref (a 17)) (C := R_MO) (T := F_MO) (N := 24) hx hb hts (fun w h => List.mem_cons_of_mem _ (in_MO w h)) hown hK hP 0 rfl rfl 20 (by decide) (hts _ (List.mem_cons_of_mem _ k_2_181)) (fun _ h9 => h9) rfl d_MO_cache_98 ?_
                refine lv_iload hx hb d_MO_cache_101 (lv_at hl 3 rfl) ?_
                refine lv_aload_n hx hb d_MO_cache_103 rfl (lv_at hl 0 rfl) ?_
                refine va_get (D := (dC, dI)) (ci := 7) (v := .ref (a 17)) (C := R_MO) (T := F_MO) (N := 24) hx hb hts (fun w h => List.mem_cons_of_mem _ (in_MO w h)) hown hK hP 0 rfl rfl 20 (by decide) (hts _ (List.mem_cons_of_mem _ k_2_181)) (fun _ h9 => h9) rfl d_MO_cache_104 ?_
                refine lv_aload_n hx hb d_MO_cache_107 rfl (lv_at hl 0 rfl) ?_
                refine va_get (D := (dC, dI)) (ci := 7) (v := .int (zcached - (1 : Int32))) (C := R_MO) (T := F_MO) (N := 24) hx hb hts (fun w h => List.mem_cons_of_mem _ (in_MO w h)) hown hK hP 0 rfl rfl 2 (by decide) (hts _ (List.mem_cons_of_mem _ k_2_163)) (fun _ h9 => h9) rfl d_MO_cache_108 ?_
                obtain ⟨g7, hf⟩ := z_gz hf
                refine va_lald hx hb hK hP 17 16 rfl rfl g7 d_MO_cache_111 ?_
                obtain ⟨g8, hf⟩ := z_gz hf
                refine va_last hx hb hK hP hD hS 17 16 rfl rfl g8 d_MO_cache_112 (fun H locs hP hD hS => ?_)
                have hP : va_P (dC, dI) zCl (w_MO a k zpaths zsteps (zcached - (1 : Int32)) zholds zinside zowner zmaker zcontent zruns zisThere ztarget zplace zrun zstaged zisOpen zstagedAt zstagedContent zstagedRuns zstagedLazy zisDirty (vp_updL zcache x4.toNatClampNeg (zcache (zcached - (1 : Int32)).toNatClampNeg)) zhold zmet zrow) H := hP
                have hD : va_D _ (w_MO a k zpaths zsteps (zcached - (1 : Int32)) zholds zinside zowner zmaker zcontent zruns zisThere ztarget zplace zrun zstaged zisOpen zstagedAt zstagedContent zstagedRuns zstagedLazy zisDirty (vp_updL zcache x4.toNatClampNeg (zcache (zcached - (1 : Int32)).toNatClampNeg)) zhold zmet zrow) := hD
                refine lv_iconst (v := (1 : Int32)) hx hb d_MO_cache_113 (by decide) ?_
                obtain rfl := Option.some.inj hf
                exact z_zret hx hb hr (Or.inr rfl) hP hD hS d_MO_cache_114 hlocks
              · have hf := z_f c6 hf
                refine lv_iinc (v := (x4 + (1 : Int32))) (lv' := [(4, .int (x4 + (1 : Int32))), (0, .ref (a 0)), (1, .long p1), (3, .int p3)]) hx hb d_MO_cache_81 hl (k := 3) rfl rfl (by decide) rfl (fun ls hl => ?_)
                refine lv_goto (tgt := 69) hx hb d_MO_cache_84 (by decide) ?_
                exact ih69 (x4 + (1 : Int32)) hf H locs ls hP hD hS (lv_sub hl [1, 2, 3, 0] rfl)
          exact loop69 N (0 : Int32) hf H locs ls hP hD hS (lv_sub hl [1, 2, 3, 0] rfl)
        · have hf := z_f c4 hf
          refine lv_aload_n hx hb d_MO_cache_44 rfl (lv_at hl 0 rfl) ?_
          refine va_get (D := (dC, dI)) (ci := 7) (v := .ref (a 17)) (C := R_MO) (T := F_MO) (N := 24) hx hb hts (fun w h => List.mem_cons_of_mem _ (in_MO w h)) hown hK hP 0 rfl rfl 20 (by decide) (hts _ (List.mem_cons_of_mem _ k_2_181)) (fun _ h9 => h9) rfl d_MO_cache_45 ?_
          refine lv_aload_n hx hb d_MO_cache_48 rfl (lv_at hl 0 rfl) ?_
          refine va_get (D := (dC, dI)) (ci := 7) (v := .int zcached) (C := R_MO) (T := F_MO) (N := 24) hx hb hts (fun w h => List.mem_cons_of_mem _ (in_MO w h)) hown hK hP 0 rfl rfl 2 (by decide) (hts _ (List.mem_cons_of_mem _ k_2_163)) (fun _ h9 => h9) rfl d_MO_cache_49 ?_
          refine lv_lload_n hx hb d_MO_cache_52 rfl (lv_at hl 1 rfl) ?_
          obtain ⟨g9, hf⟩ := z_gz hf
          refine va_last hx hb hK hP hD hS 17 16 rfl rfl g9 d_MO_cache_53 (fun H locs hP hD hS => ?_)
          have hP : va_P (dC, dI) zCl (w_MO a k zpaths zsteps zcached zholds zinside zowner zmaker zcontent zruns zisThere ztarget zplace zrun zstaged zisOpen zstagedAt zstagedContent zstagedRuns zstagedLazy zisDirty (vp_updL zcache zcached.toNatClampNeg p1) zhold zmet zrow) H := hP
          have hD : va_D _ (w_MO a k zpaths zsteps zcached zholds zinside zowner zmaker zcontent zruns zisThere ztarget zplace zrun zstaged zisOpen zstagedAt zstagedContent zstagedRuns zstagedLazy zisDirty (vp_updL zcache zcached.toNatClampNeg p1) zhold zmet zrow) := hD
          refine lv_aload_n hx hb d_MO_cache_54 rfl (lv_at hl 0 rfl) ?_
          refine lv_dup hx hb d_MO_cache_55 rfl ?_
          refine va_get (D := (dC, dI)) (ci := 7) (v := .int zcached) (C := R_MO) (T := F_MO) (N := 24) hx hb hts (fun w h => List.mem_cons_of_mem _ (in_MO w h)) hown hK hP 0 rfl rfl 2 (by decide) (hts _ (List.mem_cons_of_mem _ k_2_163)) (fun _ h9 => h9) rfl d_MO_cache_56 ?_
          refine lv_iconst (v := (1 : Int32)) hx hb d_MO_cache_59 (by decide) ?_
          refine lv_iadd hx hb d_MO_cache_60 ?_
          refine va_put (D := (dC, dI)) (ci := 7) (v := .int (zcached + (1 : Int32))) (ty := .int) (C := R_MO) (T := F_MO) (N := 24) hx hb hts (fun w h => List.mem_cons_of_mem _ (in_MO w h)) ty_MO ty_MO_ok nm_MO hown hK hP hD hS 0 rfl rfl 2 (by decide) (hts _ (List.mem_cons_of_mem _ k_2_163)) (fun _ h9 => h9) rfl (by decide +kernel) rfl rfl (Nat.le_of_ble_eq_true rfl) d_MO_cache_61 (fun H locs hP hD hS => ?_)
          have hP : va_P (dC, dI) zCl (w_MO a k zpaths zsteps (zcached + (1 : Int32)) zholds zinside zowner zmaker zcontent zruns zisThere ztarget zplace zrun zstaged zisOpen zstagedAt zstagedContent zstagedRuns zstagedLazy zisDirty (vp_updL zcache zcached.toNatClampNeg p1) zhold zmet zrow) H := hP
          have hD : va_D _ (w_MO a k zpaths zsteps (zcached + (1 : Int32)) zholds zinside zowner zmaker zcontent zruns zisThere ztarget zplace zrun zstaged zisOpen zstagedAt zstagedContent zstagedRuns zstagedLazy zisDirty (vp_updL zcache zcached.toNatClampNeg p1) zhold zmet zrow) := hD
          refine lv_iconst (v := (1 : Int32)) hx hb d_MO_cache_64 (by decide) ?_
          obtain rfl := Option.some.inj hf
          exact z_zret hx hb hr (Or.inr rfl) hP hD hS d_MO_cache_65 hlocks
      · have hf := z_fn c3 hf
        refine lv_iconst (v := (1 : Int32)) hx hb d_MO_cache_38 (by decide) ?_
        obtain rfl := Option.some.inj hf
        exact z_zret hx hb hr (Or.inr rfl) hP hD hS d_MO_cache_39 hlocks
    · have hf := z_f c2 hf
      refine lv_aload_n hx hb d_MO_cache_10 rfl (lv_at hl 0 rfl) ?_
      refine lv_lload_n hx hb d_MO_cache_11 rfl (lv_at hl 1 rfl) ?_
      obtain ⟨u1, hu1, hf⟩ := z_b hf
      have hPc := hP
      have hDc := hD
      have hKc := hK
      refine z_cwi (va_runV (As := [.long p1]) (rest := []) ⟨hx, hb, hml, hown, hts⟩ (c_MO_isCached l dC dI N a k zpaths zsteps zcached zholds zinside zowner zmaker zcontent zruns zisThere ztarget zplace zrun zstaged zisOpen zstagedAt zstagedContent zstagedRuns zstagedLazy zisDirty zcache zhold zmet zrow p1 hu1 H.size) (cwV 1 hts (zGV zsub_c k_3_37 k_3_39 s_MO_isCached k_1_8 kc_MO_isCached) rfl rfl rfl (by decide +kernel) ⟨Nat.le_of_ble_eq_true rfl, Nat.le_of_ble_eq_true rfl⟩) ⟨z_bl, va_recv hKc hPc (ci := 7) (q0 := 0) rfl rfl, fun U hU hW => ⟨rfl, z_pre hN hKc hPc hDc U hU hW⟩⟩ rfl rfl hl.1 rfl (lv_room (Nat.le_of_ble_eq_true rfl)) d_MO_cache_12 ⟨Nat.zero_le _, Nat.zero_le _⟩) hD hS hA (fun H locs hP hD hS => ?_)
      refine lv_if_ne (tgt := 29) hx hb d_MO_cache_15 (by decide) (fun c10 => ?_) (fun c10 => ?_)
      · have hf := z_t c10 hf
        refine lv_iload_n hx hb d_MO_cache_29 rfl (lv_at hl 2 rfl) ?_
        refine lv_aload_n hx hb d_MO_cache_30 rfl (lv_at hl 0 rfl) ?_
        refine lv_lload_n hx hb d_MO_cache_31 rfl (lv_at hl 1 rfl) ?_
        obtain ⟨u2, hu2, hf⟩ := z_b hf
        have hPc := hP
        have hDc := hD
        have hKc := hK
        refine z_cwi (va_runV (As := [.long p1]) (rest := [.int p3]) ⟨hx, hb, hml, hown, hts⟩ (c_MO_isCached l dC dI N a k zpaths zsteps zcached zholds zinside zowner zmaker zcontent zruns zisThere ztarget zplace zrun zstaged zisOpen zstagedAt zstagedContent zstagedRuns zstagedLazy zisDirty zcache zhold zmet zrow p1 hu2 H.size) (cwV 1 hts (zGV zsub_c k_3_37 k_3_39 s_MO_isCached k_1_8 kc_MO_isCached) rfl rfl rfl (by decide +kernel) ⟨Nat.le_of_ble_eq_true rfl, Nat.le_of_ble_eq_true rfl⟩) ⟨z_bl, va_recv hKc hPc (ci := 7) (q0 := 0) rfl rfl, fun U hU hW => ⟨rfl, z_pre hN hKc hPc hDc U hU hW⟩⟩ rfl rfl hl.1 rfl (lv_room (Nat.le_of_ble_eq_true rfl)) d_MO_cache_32 ⟨Nat.zero_le _, Nat.zero_le _⟩) hD hS hA (fun H locs hP hD hS => ?_)
        refine lv_icmp_ne (tgt := 40) hx hb d_MO_cache_35 (by decide) (fun c11 => ?_) (fun c11 => ?_)
        · have hf := z_t c11 hf
          refine lv_iload_n hx hb d_MO_cache_40 rfl (lv_at hl 2 rfl) ?_
          refine lv_if_eq (tgt := 66) hx hb d_MO_cache_41 (by decide) (fun c12 => ?_) (fun c12 => ?_)
          · have hf := z_t c12 hf
            refine lv_iconst (v := (0 : Int32)) hx hb d_MO_cache_66 (by decide) ?_
            refine lv_istore (lv' := [(4, .int (0 : Int32)), (0, .ref (a 0)), (1, .long p1), (3, .int p3)]) hx hb d_MO_cache_67 hl (by decide) rfl (fun ls hl => ?_)
            have loop69 : ∀ (n : Nat) (x4 : Int32), pf_MO_cache_L69 N zcached zcache p1 n x4 = some y → ∀ (H : Heap) (locs : List Loc) (ls : Array Slot), va_P (dC, dI) zCl (w_MO a k zpaths zsteps zcached zholds zinside zowner zmaker zcontent zruns zisThere ztarget zplace zrun zstaged zisOpen zstagedAt zstagedContent zstagedRuns zstagedLazy zisDirty zcache zhold zmet zrow) H → va_D (va_A (w_MO a k zpaths zsteps zcached zholds zinside zowner zmaker zcontent zruns zisThere ztarget zplace zrun zstaged zisOpen zstagedAt zstagedContent zstagedRuns zstagedLazy zisDirty zcache zhold zmet zrow) s.heap.size) (w_MO a k zpaths zsteps zcached zholds zinside zowner zmaker zcontent zruns zisThere ztarget zplace zrun zstaged zisOpen zstagedAt zstagedContent zstagedRuns zstagedLazy zisDirty zcache zhold zmet zrow) → va_S (va_A (w_MO a k zpaths zsteps zcached zholds zinside zowner zmaker zcontent zruns zisThere ztarget zplace zrun zstaged zisOpen zstagedAt zstagedContent zstagedRuns zstagedLazy zisDirty zcache zhold zmet zrow) s.heap.size) s.heap H locs → lv_has ls 5 [(0, .ref (a 0)), (1, .long p1), (3, .int p3), (4, .int x4)] → W p l e (headSpec ww_MO_cache ({ frames := 1, cells := 0, slots := 0, locals := 24 })).room s m ([.ref (a 0), .long p1, .int p3] : List Value).toArray below meth c H locs 0 0 (MQ below (zQi (dC, dI) zCl (w_MO a k zpaths zsteps zcached zholds zinside zowner zmaker zcontent zruns zisThere ztarget zplace zrun zstaged zisOpen zstagedAt zstagedContent zstagedRuns zstagedLazy zisDirty zcache zhold zmet zrow) s.heap.size y.1 (w_MO a k zpaths zsteps y.2.1 zholds zinside zowner zmaker zcontent zruns zisThere ztarget zplace zrun zstaged zisOpen zstagedAt zstagedContent zstagedRuns zstagedLazy zisDirty y.2.2 zhold zmet zrow)) ([.ref (a 0), .long p1, .int p3] : List Value).toArray s 0 0 (va_A (w_MO a k zpaths zsteps zcached zholds zinside zowner zmaker zcontent zruns zisThere ztarget zplace zrun zstaged zisOpen zstagedAt zstagedContent zstagedRuns zstagedLazy zisDirty zcache zhold zmet zrow) s.heap.size)) (F0 m 69 ls []) := by
              intro n69
              induction n69 with
              | zero => intro x4 hf; rw [pf_MO_cache_L69.eq_1] at hf; cases hf
              | succ n69 ih69 =>
                intro x4 hf H locs ls hP hD hS hl
                rw [pf_MO_cache_L69.eq_2] at hf
                refine lv_aload_n hx hb d_MO_cache_69 rfl (lv_at hl 0 rfl) ?_
                refine va_get (D := (dC, dI)) (ci := 7) (v := .ref (a 17)) (C := R_MO) (T := F_MO) (N := 24) hx hb hts (fun w h => List.mem_cons_of_mem _ (in_MO w h)) hown hK hP 0 rfl rfl 20 (by decide) (hts _ (List.mem_cons_of_mem _ k_2_181)) (fun _ h9 => h9) rfl d_MO_cache_70 ?_
                refine lv_iload hx hb d_MO_cache_73 (lv_at hl 3 rfl) ?_
                obtain ⟨g13, hf⟩ := z_gz hf
                refine va_lald hx hb hK hP 17 16 rfl rfl g13 d_MO_cache_75 ?_
                refine lv_lload_n hx hb d_MO_cache_76 rfl (lv_at hl 1 rfl) ?_
                refine W.lcmp hx hb d_MO_cache_77 ?_
                refine lv_if_eq (tgt := 87) hx hb d_MO_cache_78 (by decide) (fun c14 => ?_) (fun c14 => ?_)
                · have hf := z_t c14 hf
                  refine lv_aload_n hx hb d_MO_cache_87 rfl (lv_at hl 0 rfl) ?_
                  refine lv_dup hx hb d_MO_cache_88 rfl ?_
                  refine va_get (D := (dC, dI)) (ci := 7) (v := .int zcached) (C := R_MO) (T := F_MO) (N := 24) hx hb hts (fun w h => List.mem_cons_of_mem _ (in_MO w h)) hown hK hP 0 rfl rfl 2 (by decide) (hts _ (List.mem_cons_of_mem _ k_2_163)) (fun _ h9 => h9) rfl d_MO_cache_89 ?_
                  refine lv_iconst (v := (1 : Int32)) hx hb d_MO_cache_92 (by decide) ?_
                  refine lv_isub hx hb d_MO_cache_93 ?_
                  refine va_put (D := (dC, dI)) (ci := 7) (v := .int (zcached - (1 : Int32))) (ty := .int) (C := R_MO) (T := F_MO) (N := 24) hx hb hts (fun w h => List.mem_cons_of_mem _ (in_MO w h)) ty_MO ty_MO_ok nm_MO hown hK hP hD hS 0 rfl rfl 2 (by decide) (hts _ (List.mem_cons_of_mem _ k_2_163)) (fun _ h9 => h9) rfl (by decide +kernel) rfl rfl (Nat.le_of_ble_eq_true rfl) d_MO_cache_94 (fun H locs hP hD hS => ?_)
                  have hP : va_P (dC, dI) zCl (w_MO a k zpaths zsteps (zcached - (1 : Int32)) zholds zinside zowner zmaker zcontent zruns zisThere ztarget zplace zrun zstaged zisOpen zstagedAt zstagedContent zstagedRuns zstagedLazy zisDirty zcache zhold zmet zrow) H := hP
                  have hD : va_D _ (w_MO a k zpaths zsteps (zcached - (1 : Int32)) zholds zinside zowner zmaker zcontent zruns zisThere ztarget zplace zrun zstaged zisOpen zstagedAt zstagedContent zstagedRuns zstagedLazy zisDirty zcache zhold zmet zrow) := hD
                  refine lv_aload_n hx hb d_MO_cache_97 rfl (lv_at hl 0 rfl) ?_
                  refine va_get (D := (dC, dI)) (ci := 7) (v := .ref (a 17)) (C := R_MO) (T := F_MO) (N := 24) hx hb hts (fun w h => List.mem_cons_of_mem _ (in_MO w h)) hown hK hP 0 rfl rfl 20 (by decide) (hts _ (List.mem_cons_of_mem _ k_2_181)) (fun _ h9 => h9) rfl d_MO_cache_98 ?_
                  refine lv_iload hx hb d_MO_cache_101 (lv_at hl 3 rfl) ?_
                  refine lv_aload_n hx hb d_MO_cache_103 rfl (lv_at hl 0 rfl) ?_
                  refine va_get (D := (dC, dI)) (ci := 7) (v := .ref (a 17)) (C := R_MO) (T := F_MO) (N := 24) hx hb hts (fun w h => List.mem_cons_of_mem _ (in_MO w h)) hown hK hP 0 rfl rfl 20 (by decide) (hts _ (List.mem_cons_of_mem _ k_2_181)) (fun _ h9 => h9) rfl d_MO_cache_104 ?_
                  refine lv_aload_n hx hb d_MO_cache_107 rfl (lv_at hl 0 rfl) ?_
                  refine va_get (D := (dC, dI)) (ci := 7) (v := .int (zcached - (1 : Int32))) (C := R_MO) (T := F_MO) (N := 24) hx hb hts (fun w h => List.mem_cons_of_mem _ (in_MO w h)) hown hK hP 0 rfl rfl 2 (by decide) (hts _ (List.mem_cons_of_mem _ k_2_163)) (fun _ h9 => h9) rfl d_MO_cache_108 ?_
                  obtain ⟨g15, hf⟩ := z_gz hf
                  refine va_lald hx hb hK hP 17 16 rfl rfl g15 d_MO_cache_111 ?_
                  obtain ⟨g16, hf⟩ := z_gz hf
                  refine va_last hx hb hK hP hD hS 17 16 rfl rfl g16 d_MO_cache_112 (fun H locs hP hD hS => ?_)
                  have hP : va_P (dC, dI) zCl (w_MO a k zpaths zsteps (zcached - (1 : Int32)) zholds zinside zowner zmaker zcontent zruns zisThere ztarget zplace zrun zstaged zisOpen zstagedAt zstagedContent zstagedRuns zstagedLazy zisDirty (vp_updL zcache x4.toNatClampNeg (zcache (zcached - (1 : Int32)).toNatClampNeg)) zhold zmet zrow) H := hP
                  have hD : va_D _ (w_MO a k zpaths zsteps (zcached - (1 : Int32)) zholds zinside zowner zmaker zcontent zruns zisThere ztarget zplace zrun zstaged zisOpen zstagedAt zstagedContent zstagedRuns zstagedLazy zisDirty (vp_updL zcache x4.toNatClampNeg (zcache (zcached - (1 : Int32)).toNatClampNeg)) zhold zmet zrow) := hD
                  refine lv_iconst (v := (1 : Int32)) hx hb d_MO_cache_113 (by decide) ?_
                  obtain rfl := Option.some.inj hf
                  exact z_zret hx hb hr (Or.inr rfl) hP hD hS d_MO_cache_114 hlocks
                · have hf := z_f c14 hf
                  refine lv_iinc (v := (x4 + (1 : Int32))) (lv' := [(4, .int (x4 + (1 : Int32))), (0, .ref (a 0)), (1, .long p1), (3, .int p3)]) hx hb d_MO_cache_81 hl (k := 3) rfl rfl (by decide) rfl (fun ls hl => ?_)
                  refine lv_goto (tgt := 69) hx hb d_MO_cache_84 (by decide) ?_
                  exact ih69 (x4 + (1 : Int32)) hf H locs ls hP hD hS (lv_sub hl [1, 2, 3, 0] rfl)
            exact loop69 N (0 : Int32) hf H locs ls hP hD hS (lv_sub hl [1, 2, 3, 0] rfl)
          · have hf := z_f c12 hf
            refine lv_aload_n hx hb d_MO_cache_44 rfl (lv_at hl 0 rfl) ?_
            refine va_get (D := (dC, dI)) (ci := 7) (v := .ref (a 17)) (C := R_MO) (T := F_MO) (N := 24) hx hb hts (fun w h => List.mem_cons_of_mem _ (in_MO w h)) hown hK hP 0 rfl rfl 20 (by decide) (hts _ (List.mem_cons_of_mem _ k_2_181)) (fun _ h9 => h9) rfl d_MO_cache_45 ?_
            refine lv_aload_n hx hb d_MO_cache_48 rfl (lv_at hl 0 rfl) ?_
            refine va_get (D := (dC, dI)) (ci := 7) (v := .int zcached) (C := R_MO) (T := F_MO) (N := 24) hx hb hts (fun w h => List.mem_cons_of_mem _ (in_MO w h)) hown hK hP 0 rfl rfl 2 (by decide) (hts _ (List.mem_cons_of_mem _ k_2_163)) (fun _ h9 => h9) rfl d_MO_cache_49 ?_
            refine lv_lload_n hx hb d_MO_cache_52 rfl (lv_at hl 1 rfl) ?_
            obtain ⟨g17, hf⟩ := z_gz hf
            refine va_last hx hb hK hP hD hS 17 16 rfl rfl g17 d_MO_cache_53 (fun H locs hP hD hS => ?_)
            have hP : va_P (dC, dI) zCl (w_MO a k zpaths zsteps zcached zholds zinside zowner zmaker zcontent zruns zisThere ztarget zplace zrun zstaged zisOpen zstagedAt zstagedContent zstagedRuns zstagedLazy zisDirty (vp_updL zcache zcached.toNatClampNeg p1) zhold zmet zrow) H := hP
            have hD : va_D _ (w_MO a k zpaths zsteps zcached zholds zinside zowner zmaker zcontent zruns zisThere ztarget zplace zrun zstaged zisOpen zstagedAt zstagedContent zstagedRuns zstagedLazy zisDirty (vp_updL zcache zcached.toNatClampNeg p1) zhold zmet zrow) := hD
            refine lv_aload_n hx hb d_MO_cache_54 rfl (lv_at hl 0 rfl) ?_
            refine lv_dup hx hb d_MO_cache_55 rfl ?_
            refine va_get (D := (dC, dI)) (ci := 7) (v := .int zcached) (C := R_MO) (T := F_MO) (N := 24) hx hb hts (fun w h => List.mem_cons_of_mem _ (in_MO w h)) hown hK hP 0 rfl rfl 2 (by decide) (hts _ (List.mem_cons_of_mem _ k_2_163)) (fun _ h9 => h9) rfl d_MO_cache_56 ?_
            refine lv_iconst (v := (1 : Int32)) hx hb d_MO_cache_59 (by decide) ?_
            refine lv_iadd hx hb d_MO_cache_60 ?_
            refine va_put (D := (dC, dI)) (ci := 7) (v := .int (zcached + (1 : Int32))) (ty := .int) (C := R_MO) (T := F_MO) (N := 24) hx hb hts (fun w h => List.mem_cons_of_mem _ (in_MO w h)) ty_MO ty_MO_ok nm_MO hown hK hP hD hS 0 rfl rfl 2 (by decide) (hts _ (List.mem_cons_of_mem _ k_2_163)) (fun _ h9 => h9) rfl (by decide +kernel) rfl rfl (Nat.le_of_ble_eq_true rfl) d_MO_cache_61 (fun H locs hP hD hS => ?_)
            have hP : va_P (dC, dI) zCl (w_MO a k zpaths zsteps (zcached + (1 : Int32)) zholds zinside zowner zmaker zcontent zruns zisThere ztarget zplace zrun zstaged zisOpen zstagedAt zstagedContent zstagedRuns zstagedLazy zisDirty (vp_updL zcache zcached.toNatClampNeg p1) zhold zmet zrow) H := hP
            have hD : va_D _ (w_MO a k zpaths zsteps (zcached + (1 : Int32)) zholds zinside zowner zmaker zcontent zruns zisThere ztarget zplace zrun zstaged zisOpen zstagedAt zstagedContent zstagedRuns zstagedLazy zisDirty (vp_updL zcache zcached.toNatClampNeg p1) zhold zmet zrow) := hD
            refine lv_iconst (v := (1 : Int32)) hx hb d_MO_cache_64 (by decide) ?_
            obtain rfl := Option.some.inj hf
            exact z_zret hx hb hr (Or.inr rfl) hP hD hS d_MO_cache_65 hlocks
        · have hf := z_fn c11 hf
          refine lv_iconst (v := (1 : Int32)) hx hb d_MO_cache_38 (by decide) ?_
          obtain rfl := Option.some.inj hf
          exact z_zret hx hb hr (Or.inr rfl) hP hD hS d_MO_cache_39 hlocks
      · have hf := z_fn c10 hf
        refine lv_aload_n hx hb d_MO_cache_18 rfl (lv_at hl 0 rfl) ?_
        refine va_get (D := (dC, dI)) (ci := 7) (v := .int zcached) (C := R_MO) (T := F_MO) (N := 24) hx hb hts (fun w h => List.mem_cons_of_mem _ (in_MO w h)) hown hK hP 0 rfl rfl 2 (by decide) (hts _ (List.mem_cons_of_mem _ k_2_163)) (fun _ h9 => h9) rfl d_MO_cache_19 ?_
        refine lv_bipush (v := (nI 60)) hx hb d_MO_cache_22 (by decide) ?_
        refine lv_icmp_ne (tgt := 29) hx hb d_MO_cache_24 (by decide) (fun c18 => ?_) (fun c18 => ?_)
        · have hf := z_t c18 hf
          refine lv_iload_n hx hb d_MO_cache_29 rfl (lv_at hl 2 rfl) ?_
          refine lv_aload_n hx hb d_MO_cache_30 rfl (lv_at hl 0 rfl) ?_
          refine lv_lload_n hx hb d_MO_cache_31 rfl (lv_at hl 1 rfl) ?_
          obtain ⟨u3, hu3, hf⟩ := z_b hf
          have hPc := hP
          have hDc := hD
          have hKc := hK
          refine z_cwi (va_runV (As := [.long p1]) (rest := [.int p3]) ⟨hx, hb, hml, hown, hts⟩ (c_MO_isCached l dC dI N a k zpaths zsteps zcached zholds zinside zowner zmaker zcontent zruns zisThere ztarget zplace zrun zstaged zisOpen zstagedAt zstagedContent zstagedRuns zstagedLazy zisDirty zcache zhold zmet zrow p1 hu3 H.size) (cwV 1 hts (zGV zsub_c k_3_37 k_3_39 s_MO_isCached k_1_8 kc_MO_isCached) rfl rfl rfl (by decide +kernel) ⟨Nat.le_of_ble_eq_true rfl, Nat.le_of_ble_eq_true rfl⟩) ⟨z_bl, va_recv hKc hPc (ci := 7) (q0 := 0) rfl rfl, fun U hU hW => ⟨rfl, z_pre hN hKc hPc hDc U hU hW⟩⟩ rfl rfl hl.1 rfl (lv_room (Nat.le_of_ble_eq_true rfl)) d_MO_cache_32 ⟨Nat.zero_le _, Nat.zero_le _⟩) hD hS hA (fun H locs hP hD hS => ?_)
          refine lv_icmp_ne (tgt := 40) hx hb d_MO_cache_35 (by decide) (fun c19 => ?_) (fun c19 => ?_)
          · have hf := z_t c19 hf
            refine lv_iload_n hx hb d_MO_cache_40 rfl (lv_at hl 2 rfl) ?_
            refine lv_if_eq (tgt := 66) hx hb d_MO_cache_41 (by decide) (fun c20 => ?_) (fun c20 => ?_)
            · have hf := z_t c20 hf
              refine lv_iconst (v := (0 : Int32)) hx hb d_MO_cache_66 (by decide) ?_
              refine lv_istore (lv' := [(4, .int (0 : Int32)), (0, .ref (a 0)), (1, .long p1), (3, .int p3)]) hx hb d_MO_cache_67 hl (by decide) rfl (fun ls hl => ?_)
              have loop69 : ∀ (n : Nat) (x4 : Int32), pf_MO_cache_L69 N zcached zcache p1 n x4 = some y → ∀ (H : Heap) (locs : List Loc) (ls : Array Slot), va_P (dC, dI) zCl (w_MO a k zpaths zsteps zcached zholds zinside zowner zmaker zcontent zruns zisThere ztarget zplace zrun zstaged zisOpen zstagedAt zstagedContent zstagedRuns zstagedLazy zisDirty zcache zhold zmet zrow) H → va_D (va_A (w_MO a k zpaths zsteps zcached zholds zinside zowner zmaker zcontent zruns zisThere ztarget zplace zrun zstaged zisOpen zstagedAt zstagedContent zstagedRuns zstagedLazy zisDirty zcache zhold zmet zrow) s.heap.size) (w_MO a k zpaths zsteps zcached zholds zinside zowner zmaker zcontent zruns zisThere ztarget zplace zrun zstaged zisOpen zstagedAt zstagedContent zstagedRuns zstagedLazy zisDirty zcache zhold zmet zrow) → va_S (va_A (w_MO a k zpaths zsteps zcached zholds zinside zowner zmaker zcontent zruns zisThere ztarget zplace zrun zstaged zisOpen zstagedAt zstagedContent zstagedRuns zstagedLazy zisDirty zcache zhold zmet zrow) s.heap.size) s.heap H locs → lv_has ls 5 [(0, .ref (a 0)), (1, .long p1), (3, .int p3), (4, .int x4)] → W p l e (headSpec ww_MO_cache ({ frames := 1, cells := 0, slots := 0, locals := 24 })).room s m ([.ref (a 0), .long p1, .int p3] : List Value).toArray below meth c H locs 0 0 (MQ below (zQi (dC, dI) zCl (w_MO a k zpaths zsteps zcached zholds zinside zowner zmaker zcontent zruns zisThere ztarget zplace zrun zstaged zisOpen zstagedAt zstagedContent zstagedRuns zstagedLazy zisDirty zcache zhold zmet zrow) s.heap.size y.1 (w_MO a k zpaths zsteps y.2.1 zholds zinside zowner zmaker zcontent zruns zisThere ztarget zplace zrun zstaged zisOpen zstagedAt zstagedContent zstagedRuns zstagedLazy zisDirty y.2.2 zhold zmet zrow)) ([.ref (a 0), .long p1, .int p3] : List Value).toArray s 0 0 (va_A (w_MO a k zpaths zsteps zcached zholds zinside zowner zmaker zcontent zruns zisThere ztarget zplace zrun zstaged zisOpen zstagedAt zstagedContent zstagedRuns zstagedLazy zisDirty zcache zhold zmet zrow) s.heap.size)) (F0 m 69 ls []) := by
                intro n69
                induction n69 with
                | zero => intro x4 hf; rw [pf_MO_cache_L69.eq_1] at hf; cases hf
                | succ n69 ih69 =>
                  intro x4 hf H locs ls hP hD hS hl
                  rw [pf_MO_cache_L69.eq_2] at hf
                  refine lv_aload_n hx hb d_MO_cache_69 rfl (lv_at hl 0 rfl) ?_
                  refine va_get (D := (dC, dI)) (ci := 7) (v := .ref (a 17)) (C := R_MO) (T := F_MO) (N := 24) hx hb hts (fun w h => List.mem_cons_of_mem _ (in_MO w h)) hown hK hP 0 rfl rfl 20 (by decide) (hts _ (List.mem_cons_of_mem _ k_2_181)) (fun _ h9 => h9) rfl d_MO_cache_70 ?_
                  refine lv_iload hx hb d_MO_cache_73 (lv_at hl 3 rfl) ?_
                  obtain ⟨g21, hf⟩ := z_gz hf
                  refine va_lald hx hb hK hP 17 16 rfl rfl g21 d_MO_cache_75 ?_
                  refine lv_lload_n hx hb d_MO_cache_76 rfl (lv_at hl 1 rfl) ?_
                  refine W.lcmp hx hb d_MO_cache_77 ?_
                  refine lv_if_eq (tgt := 87) hx hb d_MO_cache_78 (by decide) (fun c22 => ?_) (fun c22 => ?_)
                  · have hf := z_t c22 hf
                    refine lv_aload_n hx hb d_MO_cache_87 rfl (lv_at hl 0 rfl) ?_
                    refine lv_dup hx hb d_MO_cache_88 rfl ?_
                    refine va_get (D := (dC, dI)) (ci := 7) (v := .int zcached) (C := R_MO) (T := F_MO) (N := 24) hx hb hts (fun w h => List.mem_cons_of_mem _ (in_MO w h)) hown hK hP 0 rfl rfl 2 (by decide) (hts _ (List.mem_cons_of_mem _ k_2_163)) (fun _ h9 => h9) rfl d_MO_cache_89 ?_
                    refine lv_iconst (v := (1 : Int32)) hx hb d_MO_cache_92 (by decide) ?_
                    refine lv_isub hx hb d_MO_cache_93 ?_
                    refine va_put (D := (dC, dI)) (ci := 7) (v := .int (zcached - (1 : Int32))) (ty := .int) (C := R_MO) (T := F_MO) (N := 24) hx hb hts (fun w h => List.mem_cons_of_mem _ (in_MO w h)) ty_MO ty_MO_ok nm_MO hown hK hP hD hS 0 rfl rfl 2 (by decide) (hts _ (List.mem_cons_of_mem _ k_2_163)) (fun _ h9 => h9) rfl (by decide +kernel) rfl rfl (Nat.le_of_ble_eq_true rfl) d_MO_cache_94 (fun H locs hP hD hS => ?_)
                    have hP : va_P (dC, dI) zCl (w_MO a k zpaths zsteps (zcached - (1 : Int32)) zholds zinside zowner zmaker zcontent zruns zisThere ztarget zplace zrun zstaged zisOpen zstagedAt zstagedContent zstagedRuns zstagedLazy zisDirty zcache zhold zmet zrow) H := hP
                    have hD : va_D _ (w_MO a k zpaths zsteps (zcached - (1 : Int32)) zholds zinside zowner zmaker zcontent zruns zisThere ztarget zplace zrun zstaged zisOpen zstagedAt zstagedContent zstagedRuns zstagedLazy zisDirty zcache zhold zmet zrow) := hD
                    refine lv_aload_n hx hb d_MO_cache_97 rfl (lv_at hl 0 rfl) ?_
                    refine va_get (D := (dC, dI)) (ci := 7) (v := .ref (a 17)) (C := R_MO) (T := F_MO) (N := 24) hx hb hts (fun w h => List.mem_cons_of_mem _ (in_MO w h)) hown hK hP 0 rfl rfl 20 (by decide) (hts _ (List.mem_cons_of_mem _ k_2_181)) (fun _ h9 => h9) rfl d_MO_cache_98 ?_
                    refine lv_iload hx hb d_MO_cache_101 (lv_at hl 3 rfl) ?_
                    refine lv_aload_n hx hb d_MO_cache_103 rfl (lv_at hl 0 rfl) ?_
                    refine va_get (D := (dC, dI)) (ci := 7) (v := .ref (a 17)) (C := R_MO) (T := F_MO) (N := 24) hx hb hts (fun w h => List.mem_cons_of_mem _ (in_MO w h)) hown hK hP 0 rfl rfl 20 (by decide) (hts _ (List.mem_cons_of_mem _ k_2_181)) (fun _ h9 => h9) rfl d_MO_cache_104 ?_
                    refine lv_aload_n hx hb d_MO_cache_107 rfl (lv_at hl 0 rfl) ?_
                    refine va_get (D := (dC, dI)) (ci := 7) (v := .int (zcached - (1 : Int32))) (C := R_MO) (T := F_MO) (N := 24) hx hb hts (fun w h => List.mem_cons_of_mem _ (in_MO w h)) hown hK hP 0 rfl rfl 2 (by decide) (hts _ (List.mem_cons_of_mem _ k_2_163)) (fun _ h9 => h9) rfl d_MO_cache_108 ?_
                    obtain ⟨g23, hf⟩ := z_gz hf
                    refine va_lald hx hb hK hP 17 16 rfl rfl g23 d_MO_cache_111 ?_
                    obtain ⟨g24, hf⟩ := z_gz hf
                    refine va_last hx hb hK hP hD hS 17 16 rfl rfl g24 d_MO_cache_112 (fun H locs hP hD hS => ?_)
                    have hP : va_P (dC, dI) zCl (w_MO a k zpaths zsteps (zcached - (1 : Int32)) zholds zinside zowner zmaker zcontent zruns zisThere ztarget zplace zrun zstaged zisOpen zstagedAt zstagedContent zstagedRuns zstagedLazy zisDirty (vp_updL zcache x4.toNatClampNeg (zcache (zcached - (1 : Int32)).toNatClampNeg)) zhold zmet zrow) H := hP
                    have hD : va_D _ (w_MO a k zpaths zsteps (zcached - (1 : Int32)) zholds zinside zowner zmaker zcontent zruns zisThere ztarget zplace zrun zstaged zisOpen zstagedAt zstagedContent zstagedRuns zstagedLazy zisDirty (vp_updL zcache x4.toNatClampNeg (zcache (zcached - (1 : Int32)).toNatClampNeg)) zhold zmet zrow) := hD
                    refine lv_iconst (v := (1 : Int32)) hx hb d_MO_cache_113 (by decide) ?_
                    obtain rfl := Option.some.inj hf
                    exact z_zret hx hb hr (Or.inr rfl) hP hD hS d_MO_cache_114 hlocks
                  · have hf := z_f c22 hf
                    refine lv_iinc (v := (x4 + (1 : Int32))) (lv' := [(4, .int (x4 + (1 : Int32))), (0, .ref (a 0)), (1, .long p1), (3, .int p3)]) hx hb d_MO_cache_81 hl (k := 3) rfl rfl (by decide) rfl (fun ls hl => ?_)
                    refine lv_goto (tgt := 69) hx hb d_MO_cache_84 (by decide) ?_
                    exact ih69 (x4 + (1 : Int32)) hf H locs ls hP hD hS (lv_sub hl [1, 2, 3, 0] rfl)
              exact loop69 N (0 : Int32) hf H locs ls hP hD hS (lv_sub hl [1, 2, 3, 0] rfl)
            · have hf := z_f c20 hf
              refine lv_aload_n hx hb d_MO_cache_44 rfl (lv_at hl 0 rfl) ?_
              refine va_get (D := (dC, dI)) (ci := 7) (v := .ref (a 17)) (C := R_MO) (T := F_MO) (N := 24) hx hb hts (fun w h => List.mem_cons_of_mem _ (in_MO w h)) hown hK hP 0 rfl rfl 20 (by decide) (hts _ (List.mem_cons_of_mem _ k_2_181)) (fun _ h9 => h9) rfl d_MO_cache_45 ?_
              refine lv_aload_n hx hb d_MO_cache_48 rfl (lv_at hl 0 rfl) ?_
              refine va_get (D := (dC, dI)) (ci := 7) (v := .int zcached) (C := R_MO) (T := F_MO) (N := 24) hx hb hts (fun w h => List.mem_cons_of_mem _ (in_MO w h)) hown hK hP 0 rfl rfl 2 (by decide) (hts _ (List.mem_cons_of_mem _ k_2_163)) (fun _ h9 => h9) rfl d_MO_cache_49 ?_
              refine lv_lload_n hx hb d_MO_cache_52 rfl (lv_at hl 1 rfl) ?_
              obtain ⟨g25, hf⟩ := z_gz hf
              refine va_last hx hb hK hP hD hS 17 16 rfl rfl g25 d_MO_cache_53 (fun H locs hP hD hS => ?_)
              have hP : va_P (dC, dI) zCl (w_MO a k zpaths zsteps zcached zholds zinside zowner zmaker zcontent zruns zisThere ztarget zplace zrun zstaged zisOpen zstagedAt zstagedContent zstagedRuns zstagedLazy zisDirty (vp_updL zcache zcached.toNatClampNeg p1) zhold zmet zrow) H := hP
              have hD : va_D _ (w_MO a k zpaths zsteps zcached zholds zinside zowner zmaker zcontent zruns zisThere ztarget zplace zrun zstaged zisOpen zstagedAt zstagedContent zstagedRuns zstagedLazy zisDirty (vp_updL zcache zcached.toNatClampNeg p1) zhold zmet zrow) := hD
              refine lv_aload_n hx hb d_MO_cache_54 rfl (lv_at hl 0 rfl) ?_
              refine lv_dup hx hb d_MO_cache_55 rfl ?_
              refine va_get (D := (dC, dI)) (ci := 7) (v := .int zcached) (C := R_MO) (T := F_MO) (N := 24) hx hb hts (fun w h => List.mem_cons_of_mem _ (in_MO w h)) hown hK hP 0 rfl rfl 2 (by decide) (hts _ (List.mem_cons_of_mem _ k_2_163)) (fun _ h9 => h9) rfl d_MO_cache_56 ?_
              refine lv_iconst (v := (1 : Int32)) hx hb d_MO_cache_59 (by decide) ?_
              refine lv_iadd hx hb d_MO_cache_60 ?_
              refine va_put (D := (dC, dI)) (ci := 7) (v := .int (zcached + (1 : Int32))) (ty := .int) (C := R_MO) (T := F_MO) (N := 24) hx hb hts (fun w h => List.mem_cons_of_mem _ (in_MO w h)) ty_MO ty_MO_ok nm_MO hown hK hP hD hS 0 rfl rfl 2 (by decide) (hts _ (List.mem_cons_of_mem _ k_2_163)) (fun _ h9 => h9) rfl (by decide +kernel) rfl rfl (Nat.le_of_ble_eq_true rfl) d_MO_cache_61 (fun H locs hP hD hS => ?_)
              have hP : va_P (dC, dI) zCl (w_MO a k zpaths zsteps (zcached + (1 : Int32)) zholds zinside zowner zmaker zcontent zruns zisThere ztarget zplace zrun zstaged zisOpen zstagedAt zstagedContent zstagedRuns zstagedLazy zisDirty (vp_updL zcache zcached.toNatClampNeg p1) zhold zmet zrow) H := hP
              have hD : va_D _ (w_MO a k zpaths zsteps (zcached + (1 : Int32)) zholds zinside zowner zmaker zcontent zruns zisThere ztarget zplace zrun zstaged zisOpen zstagedAt zstagedContent zstagedRuns zstagedLazy zisDirty (vp_updL zcache zcached.toNatClampNeg p1) zhold zmet zrow) := hD
              refine lv_iconst (v := (1 : Int32)) hx hb d_MO_cache_64 (by decide) ?_
              obtain rfl := Option.some.inj hf
              exact z_zret hx hb hr (Or.inr rfl) hP hD hS d_MO_cache_65 hlocks
          · have hf := z_fn c19 hf
            refine lv_iconst (v := (1 : Int32)) hx hb d_MO_cache_38 (by decide) ?_
            obtain rfl := Option.some.inj hf
            exact z_zret hx hb hr (Or.inr rfl) hP hD hS d_MO_cache_39 hlocks
        · have hf := z_fn c18 hf
          refine lv_iconst (v := (0 : Int32)) hx hb d_MO_cache_27 (by decide) ?_
          obtain rfl := Option.some.inj hf
          exact z_zret hx hb hr (Or.inl rfl) hP hD hS d_MO_cache_28 hlocks
set_option maxHeartbeats 4000000 in
set_option maxRecDepth 100000 in
theorem c_MO_isOutput (l : Launch) (dC : Nat → ClassId) (dI : Nat → Nat → Nat) (N : Nat) (a : Nat → Nat) (k : Nat → ClassId) (zpaths : Int32) (zsteps : Int32) (zcached : Int32) (zholds : Int32) (zinside : Nat → Int32) (zowner : Nat → Int32) (zmaker : Nat → Int32) (zcontent : Nat → Int64) (zruns : Nat → Int32) (zisThere : Nat → Int32) (ztarget : Nat → Int32) (zplace : Nat → Int32) (zrun : Nat → Int32) (zstaged : Nat → Int32) (zisOpen : Nat → Int32) (zstagedAt : Nat → Int32) (zstagedContent : Nat → Int64) (zstagedRuns : Nat → Int32) (zstagedLazy : Nat → Int32) (zisDirty : Nat → Int32) (zcache : Nat → Int64) (zhold : Nat → Int64) (zmet : Int32) (zrow : Nat → Int64) (p1 : Int32) (p2 : Int32) {y : (Int32)} (hf : pf_MO_isOutput N zpaths zowner p1 p2 = some y) (sz : Nat) : Met l y_MO_isOutput ww_MO_isOutput ({ frames := 1, cells := 0, slots := 0, locals := 21 }) (va_Pc [.ref (a 0), .int p1, .int p2] (zB (dC, dI) zCl (t_MO k) (w_MO a k zpaths zsteps zcached zholds zinside zowner zmaker zcontent zruns zisThere ztarget zplace zrun zstaged zisOpen zstagedAt zstagedContent zstagedRuns zstagedLazy zisDirty zcache zhold zmet zrow) sz)) (zQi (dC, dI) zCl (w_MO a k zpaths zsteps zcached zholds zinside zowner zmaker zcontent zruns zisThere ztarget zplace zrun zstaged zisOpen zstagedAt zstagedContent zstagedRuns zstagedLazy zisDirty zcache zhold zmet zrow) sz y (w_MO a k zpaths zsteps zcached zholds zinside zowner zmaker zcontent zruns zisThere ztarget zplace zrun zstaged zisOpen zstagedAt zstagedContent zstagedRuns zstagedLazy zisDirty zcache zhold zmet zrow)) 0 0 (va_A (w_MO a k zpaths zsteps zcached zholds zinside zowner zmaker zcontent zruns zisThere ztarget zplace zrun zstaged zisOpen zstagedAt zstagedContent zstagedRuns zstagedLazy zisDirty zcache zhold zmet zrow) sz) := by
  refine Met.ofW (cc := b_MO_isOutput) (maxL := 3) (ret := (some .boolean)) (by decide) rfl ?_
  intro p e s m args below meth c s₁ B hml hv
  obtain ⟨rfl, rfl, hP, hK, hD, hN⟩ := hv
  have hx := B.exec
  have hb := B.bytes
  have hr := B.returns
  have hts := atoms_spec (ws := ww_MO_isOutput) B.pre
  have hown : s.vm.findClass R_MO = some m.cls := findClass_of_methodNamed B.named
  have hlocks := B.notSynchronized
  have hA : ∀ q : Nat, s.heap.size ≤ q → va_A (w_MO a k zpaths zsteps zcached zholds zinside zowner zmaker zcontent zruns zisThere ztarget zplace zrun zstaged zisOpen zstagedAt zstagedContent zstagedRuns zstagedLazy zisDirty zcache zhold zmet zrow) s.heap.size q := fun q h => Or.inr h
  refine z_start (lv := [(0, .ref (a 0)), (1, .int p1), (2, .int p2)]) (Nat.le_of_ble_eq_true rfl) rfl hP hD (fun H locs ls hP hD hS hl => ?_)
  unfold pf_MO_isOutput at hf
  refine lv_iload_n hx hb d_MO_isOutput_0 rfl (lv_at hl 1 rfl) ?_
  refine lv_iconst (v := (nI 3)) hx hb d_MO_isOutput_1 (by decide) ?_
  obtain ⟨u0, hu0, hf⟩ := z_b hf
  have hPc := zP_cut (wc := ([] : va_W)) 0 0 hP rfl
  have hDc := zD_cut (wc := ([] : va_W)) 0 0 hD rfl
  have hKc := hK.sub (tys' := ([] : List (ClassId × FieldType))) [] rfl
  refine z_ci (va_runS (As := [.int p1, .int (nI 3)]) (rest := []) ⟨hx, hb, hml, hown, hts⟩ (c_MO_within l dC dI N (fun i => a (0 + i)) (fun i => k (0 + i)) p1 (nI 3) hu0 H.size) (cwS 2 hts (zGS zsub_c k_3_6 k_3_7 k_1_8 kc_MO_within) rfl rfl rfl (by decide +kernel) ⟨Nat.le_of_ble_eq_true rfl, Nat.le_of_ble_eq_true rfl⟩) ⟨z_bl, fun U hU hW => ⟨rfl, z_pre hN hKc hPc hDc U hU hW⟩⟩ rfl rfl hl.1 rfl (lv_room (Nat.le_of_ble_eq_true rfl)) d_MO_isOutput_2 ⟨Nat.zero_le _, Nat.zero_le _⟩) 0 0 (w_MO a k zpaths zsteps zcached zholds zinside zowner zmaker zcontent zruns zisThere ztarget zplace zrun zstaged zisOpen zstagedAt zstagedContent zstagedRuns zstagedLazy zisDirty zcache zhold zmet zrow) hP hD hS hA rfl rfl (fun H locs hP hD hS => ?_)
  refine lv_if_eq (tgt := 54) hx hb d_MO_isOutput_5 (by decide) (fun c1 => ?_) (fun c1 => ?_)
  · have hf := z_t c1 hf
    refine lv_iconst (v := (0 : Int32)) hx hb d_MO_isOutput_54 (by decide) ?_
    obtain rfl := Option.some.inj hf
    exact z_zret hx hb hr (Or.inl rfl) hP hD hS d_MO_isOutput_55 hlocks
  · have hf := z_f c1 hf
    refine lv_aload_n hx hb d_MO_isOutput_8 rfl (lv_at hl 0 rfl) ?_
    refine lv_iload_n hx hb d_MO_isOutput_9 rfl (lv_at hl 2 rfl) ?_
    obtain ⟨u1, hu1, hf⟩ := z_b hf
    have hPc := hP
    have hDc := hD
    have hKc := hK
    refine z_cwi (va_runV (As := [.int p2]) (rest := []) ⟨hx, hb, hml, hown, hts⟩ (c_MO_isPath l dC dI N a k zpaths zsteps zcached zholds zinside zowner zmaker zcontent zruns zisThere ztarget zplace zrun zstaged zisOpen zstagedAt zstagedContent zstagedRuns zstagedLazy zisDirty zcache zhold zmet zrow p2 hu1 H.size) (cwV 1 hts (zGV zsub_c k_2_238 k_3_0 s_MO_isPath k_1_8 kc_MO_isPath) rfl rfl rfl (by decide +kernel) ⟨Nat.le_of_ble_eq_true rfl, Nat.le_of_ble_eq_true rfl⟩) ⟨z_bl, va_recv hKc hPc (ci := 7) (q0 := 0) rfl rfl, fun U hU hW => ⟨rfl, z_pre hN hKc hPc hDc U hU hW⟩⟩ rfl rfl hl.1 rfl (lv_room (Nat.le_of_ble_eq_true rfl)) d_MO_isOutput_10 ⟨Nat.zero_le _, Nat.zero_le _⟩) hD hS hA (fun H locs hP hD hS => ?_)
    refine lv_if_eq (tgt := 54) hx hb d_MO_isOutput_13 (by decide) (fun c2 => ?_) (fun c2 => ?_)
    · have hf := z_t c2 hf
      refine lv_iconst (v := (0 : Int32)) hx hb d_MO_isOutput_54 (by decide) ?_
      obtain rfl := Option.some.inj hf
      exact z_zret hx hb hr (Or.inl rfl) hP hD hS d_MO_isOutput_55 hlocks
    · have hf := z_f c2 hf
      refine lv_aload_n hx hb d_MO_isOutput_16 rfl (lv_at hl 0 rfl) ?_
      refine va_get (D := (dC, dI)) (ci := 7) (v := .ref (a 2)) (C := R_MO) (T := F_MO) (N := 24) hx hb hts (fun w h => List.mem_cons_of_mem _ (in_MO w h)) hown hK hP 0 rfl rfl 5 (by decide) (hts _ (List.mem_cons_of_mem _ k_2_166)) (fun _ h9 => h9) rfl d_MO_isOutput_17 ?_
      refine lv_iload_n hx hb d_MO_isOutput_20 rfl (lv_at hl 1 rfl) ?_
      refine lv_iconst (v := (nI 3)) hx hb d_MO_isOutput_21 (by decide) ?_
      obtain ⟨u2, hu2, hf⟩ := z_b hf
      have hPc := zP_cut (wc := ([] : va_W)) 0 0 hP rfl
      have hDc := zD_cut (wc := ([] : va_W)) 0 0 hD rfl
      have hKc := hK.sub (tys' := ([] : List (ClassId × FieldType))) [] rfl
      refine z_ci (va_runS (As := [.int p1, .int (nI 3)]) (rest := [.ref (a 2)]) ⟨hx, hb, hml, hown, hts⟩ (c_MO_within l dC dI N (fun i => a (0 + i)) (fun i => k (0 + i)) p1 (nI 3) hu2 H.size) (cwS 2 hts (zGS zsub_c k_3_6 k_3_7 k_1_8 kc_MO_within) rfl rfl rfl (by decide +kernel) ⟨Nat.le_of_ble_eq_true rfl, Nat.le_of_ble_eq_true rfl⟩) ⟨z_bl, fun U hU hW => ⟨rfl, z_pre hN hKc hPc hDc U hU hW⟩⟩ rfl rfl hl.1 rfl (lv_room (Nat.le_of_ble_eq_true rfl)) d_MO_isOutput_22 ⟨Nat.zero_le _, Nat.zero_le _⟩) 0 0 (w_MO a k zpaths zsteps zcached zholds zinside zowner zmaker zcontent zruns zisThere ztarget zplace zrun zstaged zisOpen zstagedAt zstagedContent zstagedRuns zstagedLazy zisDirty zcache zhold zmet zrow) hP hD hS hA rfl rfl (fun H locs hP hD hS => ?_)
      refine lv_if_eq (tgt := 45) hx hb d_MO_isOutput_25 (by decide) (fun c3 => ?_) (fun c3 => ?_)
      · have hf := z_t c3 hf
        refine lv_iconst (v := (0 : Int32)) hx hb d_MO_isOutput_45 (by decide) ?_
        obtain ⟨g4, hf⟩ := z_gz hf
        refine va_iald hx hb hK hP 2 1 rfl rfl g4 d_MO_isOutput_46 ?_
        refine lv_if_eq (tgt := 54) hx hb d_MO_isOutput_47 (by decide) (fun c5 => ?_) (fun c5 => ?_)
        · have hf := z_t c5 hf
          refine lv_iconst (v := (0 : Int32)) hx hb d_MO_isOutput_54 (by decide) ?_
          obtain rfl := Option.some.inj hf
          exact z_zret hx hb hr (Or.inl rfl) hP hD hS d_MO_isOutput_55 hlocks
        · have hf := z_f c5 hf
          refine lv_iconst (v := (1 : Int32)) hx hb d_MO_isOutput_50 (by decide) ?_
          refine lv_goto (tgt := 55) hx hb d_MO_isOutput_51 (by decide) ?_
          obtain rfl := Option.some.inj hf
          exact z_zret hx hb hr (Or.inr rfl) hP hD hS d_MO_isOutput_55 hlocks
      · have hf := z_f c3 hf
        refine lv_aload_n hx hb d_MO_isOutput_28 rfl (lv_at hl 0 rfl) ?_
        refine lv_iload_n hx hb d_MO_isOutput_29 rfl (lv_at hl 2 rfl) ?_
        obtain ⟨u3, hu3, hf⟩ := z_b hf
        have hPc := hP
        have hDc := hD
        have hKc := hK
        refine z_cwi (va_runV (As := [.int p2]) (rest := [.ref (a 2)]) ⟨hx, hb, hml, hown, hts⟩ (c_MO_isPath l dC dI N a k zpaths zsteps zcached zholds zinside zowner zmaker zcontent zruns zisThere ztarget zplace zrun zstaged zisOpen zstagedAt zstagedContent zstagedRuns zstagedLazy zisDirty zcache zhold zmet zrow p2 hu3 H.size) (cwV 1 hts (zGV zsub_c k_2_238 k_3_0 s_MO_isPath k_1_8 kc_MO_isPath) rfl rfl rfl (by decide +kernel) ⟨Nat.le_of_ble_eq_true rfl, Nat.le_of_ble_eq_true rfl⟩) ⟨z_bl, va_recv hKc hPc (ci := 7) (q0 := 0) rfl rfl, fun U hU hW => ⟨rfl, z_pre hN hKc hPc hDc U hU hW⟩⟩ rfl rfl hl.1 rfl (lv_room (Nat.le_of_ble_eq_true rfl)) d_MO_isOutput_30 ⟨Nat.zero_le _, Nat.zero_le _⟩) hD hS hA (fun H locs hP hD hS => ?_)
        refine lv_if_eq (tgt := 45) hx hb d_MO_isOutput_33 (by decide) (fun c6 => ?_) (fun c6 => ?_)
        · have hf := z_t c6 hf
          refine lv_iconst (v := (0 : Int32)) hx hb d_MO_isOutput_45 (by decide) ?_
          obtain ⟨g7, hf⟩ := z_gz hf
          refine va_iald hx hb hK hP 2 1 rfl rfl g7 d_MO_isOutput_46 ?_
          refine lv_if_eq (tgt := 54) hx hb d_MO_isOutput_47 (by decide) (fun c8 => ?_) (fun c8 => ?_)
          · have hf := z_t c8 hf
            refine lv_iconst (v := (0 : Int32)) hx hb d_MO_isOutput_54 (by decide) ?_
            obtain rfl := Option.some.inj hf
            exact z_zret hx hb hr (Or.inl rfl) hP hD hS d_MO_isOutput_55 hlocks
          · have hf := z_f c8 hf
            refine lv_iconst (v := (1 : Int32)) hx hb d_MO_isOutput_50 (by decide) ?_
            refine lv_goto (tgt := 55) hx hb d_MO_isOutput_51 (by decide) ?_
            obtain rfl := Option.some.inj hf
            exact z_zret hx hb hr (Or.inr rfl) hP hD hS d_MO_isOutput_55 hlocks
        · have hf := z_f c6 hf
          refine lv_bipush (v := (nI 40)) hx hb d_MO_isOutput_36 (by decide) ?_
          refine lv_iload_n hx hb d_MO_isOutput_38 rfl (lv_at hl 1 rfl) ?_
          refine lv_imul hx hb d_MO_isOutput_39 ?_
          refine lv_iload_n hx hb d_MO_isOutput_40 rfl (lv_at hl 2 rfl) ?_
          refine lv_iadd hx hb d_MO_isOutput_41 ?_
          refine lv_goto (tgt := 46) hx hb d_MO_isOutput_42 (by decide) ?_
          obtain ⟨g9, hf⟩ := z_gz hf
          refine va_iald hx hb hK hP 2 1 rfl rfl g9 d_MO_isOutput_46 ?_
          refine lv_if_eq (tgt := 54) hx hb d_MO_isOutput_47 (by decide) (fun c10 => ?_) (fun c10 => ?_)
          · have hf := z_t c10 hf
            refine lv_iconst (v := (0 : Int32)) hx hb d_MO_isOutput_54 (by decide) ?_
            obtain rfl := Option.some.inj hf
            exact z_zret hx hb hr (Or.inl rfl) hP hD hS d_MO_isOutput_55 hlocks
          · have hf := z_f c10 hf
            refine lv_iconst (v := (1 : Int32)) hx hb d_MO_isOutput_50 (by decide) ?_
            refine lv_goto (tgt := 55) hx hb d_MO_isOutput_51 (by decide) ?_
            obtain rfl := Option.some.inj hf
            exact z_zret hx hb hr (Or.inr rfl) hP hD hS d_MO_isOutput_55 hlocks
set_option maxHeartbeats 4000000 in
set_option maxRecDepth 100000 in
theorem c_MO_read (l : Launch) (dC : Nat → ClassId) (dI : Nat → Nat → Nat) (N : Nat) (a : Nat → Nat) (k : Nat → ClassId) (zpaths : Int32) (zsteps : Int32) (zcached : Int32) (zholds : Int32) (zinside : Nat → Int32) (zowner : Nat → Int32) (zmaker : Nat → Int32) (zcontent : Nat → Int64) (zruns : Nat → Int32) (zisThere : Nat → Int32) (ztarget : Nat → Int32) (zplace : Nat → Int32) (zrun : Nat → Int32) (zstaged : Nat → Int32) (zisOpen : Nat → Int32) (zstagedAt : Nat → Int32) (zstagedContent : Nat → Int64) (zstagedRuns : Nat → Int32) (zstagedLazy : Nat → Int32) (zisDirty : Nat → Int32) (zcache : Nat → Int64) (zhold : Nat → Int64) (zmet : Int32) (zrow : Nat → Int64) (p1 : Int32) (p2 : Int32) {y : (Int32 × Int32 × (Nat → Int32) × (Nat → Int32) × (Nat → Int32) × (Nat → Int64))} (hf : pf_MO_read N zpaths zcached zholds zowner zcontent zisThere zisDirty zcache zhold p1 p2 = some y) (sz : Nat) : Met l y_MO_read ww_MO_read ({ frames := 2, cells := 0, slots := 0, locals := 43 }) (va_Pc [.ref (a 0), .int p1, .int p2] (zB (dC, dI) zCl (t_MO k) (w_MO a k zpaths zsteps zcached zholds zinside zowner zmaker zcontent zruns zisThere ztarget zplace zrun zstaged zisOpen zstagedAt zstagedContent zstagedRuns zstagedLazy zisDirty zcache zhold zmet zrow) sz)) (zQi (dC, dI) zCl (w_MO a k zpaths zsteps zcached zholds zinside zowner zmaker zcontent zruns zisThere ztarget zplace zrun zstaged zisOpen zstagedAt zstagedContent zstagedRuns zstagedLazy zisDirty zcache zhold zmet zrow) sz y.1 (w_MO a k zpaths zsteps zcached y.2.1 zinside y.2.2.1 zmaker zcontent zruns y.2.2.2.1 ztarget zplace zrun zstaged zisOpen zstagedAt zstagedContent zstagedRuns zstagedLazy y.2.2.2.2.1 zcache y.2.2.2.2.2 zmet zrow)) 0 0 (va_A (w_MO a k zpaths zsteps zcached zholds zinside zowner zmaker zcontent zruns zisThere ztarget zplace zrun zstaged zisOpen zstagedAt zstagedContent zstagedRuns zstagedLazy zisDirty zcache zhold zmet zrow) sz) := by
  refine Met.ofW (cc := b_MO_read) (maxL := 4) (ret := (some .int)) (by decide) rfl ?_
  intro p e s m args below meth c s₁ B hml hv
  obtain ⟨rfl, rfl, hP, hK, hD, hN⟩ := hv
  have hx := B.exec
  have hb := B.bytes
  have hr := B.returns
  have hts := atoms_spec (ws := ww_MO_read) B.pre
  have hown : s.vm.findClass R_MO = some m.cls := findClass_of_methodNamed B.named
  have hlocks := B.notSynchronized
  have hA : ∀ q : Nat, s.heap.size ≤ q → va_A (w_MO a k zpaths zsteps zcached zholds zinside zowner zmaker zcontent zruns zisThere ztarget zplace zrun zstaged zisOpen zstagedAt zstagedContent zstagedRuns zstagedLazy zisDirty zcache zhold zmet zrow) s.heap.size q := fun q h => Or.inr h
  refine z_start (lv := [(0, .ref (a 0)), (1, .int p1), (2, .int p2)]) (Nat.le_of_ble_eq_true rfl) rfl hP hD (fun H locs ls hP hD hS hl => ?_)
  unfold pf_MO_read at hf
  refine lv_iload_n hx hb d_MO_read_0 rfl (lv_at hl 1 rfl) ?_
  refine lv_iconst (v := (nI 3)) hx hb d_MO_read_1 (by decide) ?_
  obtain ⟨u0, hu0, hf⟩ := z_b hf
  have hPc := zP_cut (wc := ([] : va_W)) 0 0 hP rfl
  have hDc := zD_cut (wc := ([] : va_W)) 0 0 hD rfl
  have hKc := hK.sub (tys' := ([] : List (ClassId × FieldType))) [] rfl
  refine z_ci (va_runS (As := [.int p1, .int (nI 3)]) (rest := []) ⟨hx, hb, hml, hown, hts⟩ (c_MO_within l dC dI N (fun i => a (0 + i)) (fun i => k (0 + i)) p1 (nI 3) hu0 H.size) (cwS 2 hts (zGS zsub_c k_3_6 k_3_7 k_1_8 kc_MO_within) rfl rfl rfl (by decide +kernel) ⟨Nat.le_of_ble_eq_true rfl, Nat.le_of_ble_eq_true rfl⟩) ⟨z_bl, fun U hU hW => ⟨rfl, z_pre hN hKc hPc hDc U hU hW⟩⟩ rfl rfl hl.1 rfl (lv_room (Nat.le_of_ble_eq_true rfl)) d_MO_read_2 ⟨Nat.zero_le _, Nat.zero_le _⟩) 0 0 (w_MO a k zpaths zsteps zcached zholds zinside zowner zmaker zcontent zruns zisThere ztarget zplace zrun zstaged zisOpen zstagedAt zstagedContent zstagedRuns zstagedLazy zisDirty zcache zhold zmet zrow) hP hD hS hA rfl rfl (fun H locs hP hD hS => ?_)
  refine lv_if_eq (tgt := 25) hx hb d_MO_read_5 (by decide) (fun c1 => ?_) (fun c1 => ?_)
  · have hf := z_t c1 hf
    refine lv_iconst (v := (-1 : Int32)) hx hb d_MO_read_25 (by decide) ?_
    obtain rfl := Option.some.inj hf
    exact z_iret hx hb hr hP hD hS d_MO_read_26 hlocks
  · have hf := z_f c1 hf
    refine lv_aload_n hx hb d_MO_read_8 rfl (lv_at hl 0 rfl) ?_
    refine lv_iload_n hx hb d_MO_read_9 rfl (lv_at hl 2 rfl) ?_
    obtain ⟨u1, hu1, hf⟩ := z_b hf
    have hPc := hP
    have hDc := hD
    have hKc := hK
    refine z_cwi (va_runV (As := [.int p2]) (rest := []) ⟨hx, hb, hml, hown, hts⟩ (c_MO_isPath l dC dI N a k zpaths zsteps zcached zholds zinside zowner zmaker zcontent zruns zisThere ztarget zplace zrun zstaged zisOpen zstagedAt zstagedContent zstagedRuns zstagedLazy zisDirty zcache zhold zmet zrow p2 hu1 H.size) (cwV 1 hts (zGV zsub_c k_2_238 k_3_0 s_MO_isPath k_1_8 kc_MO_isPath) rfl rfl rfl (by decide +kernel) ⟨Nat.le_of_ble_eq_true rfl, Nat.le_of_ble_eq_true rfl⟩) ⟨z_bl, va_recv hKc hPc (ci := 7) (q0 := 0) rfl rfl, fun U hU hW => ⟨rfl, z_pre hN hKc hPc hDc U hU hW⟩⟩ rfl rfl hl.1 rfl (lv_room (Nat.le_of_ble_eq_true rfl)) d_MO_read_10 ⟨Nat.zero_le _, Nat.zero_le _⟩) hD hS hA (fun H locs hP hD hS => ?_)
    refine lv_if_eq (tgt := 25) hx hb d_MO_read_13 (by decide) (fun c2 => ?_) (fun c2 => ?_)
    · have hf := z_t c2 hf
      refine lv_iconst (v := (-1 : Int32)) hx hb d_MO_read_25 (by decide) ?_
      obtain rfl := Option.some.inj hf
      exact z_iret hx hb hr hP hD hS d_MO_read_26 hlocks
    · have hf := z_f c2 hf
      refine lv_aload_n hx hb d_MO_read_16 rfl (lv_at hl 0 rfl) ?_
      refine va_get (D := (dC, dI)) (ci := 7) (v := .int zholds) (C := R_MO) (T := F_MO) (N := 24) hx hb hts (fun w h => List.mem_cons_of_mem _ (in_MO w h)) hown hK hP 0 rfl rfl 3 (by decide) (hts _ (List.mem_cons_of_mem _ k_2_164)) (fun _ h9 => h9) rfl d_MO_read_17 ?_
      refine lv_bipush (v := (nI 100)) hx hb d_MO_read_20 (by decide) ?_
      refine lv_icmp_ne (tgt := 27) hx hb d_MO_read_22 (by decide) (fun c3 => ?_) (fun c3 => ?_)
      · have hf := z_t c3 hf
        refine lv_aload_n hx hb d_MO_read_27 rfl (lv_at hl 0 rfl) ?_
        refine lv_iload_n hx hb d_MO_read_28 rfl (lv_at hl 1 rfl) ?_
        refine lv_iload_n hx hb d_MO_read_29 rfl (lv_at hl 2 rfl) ?_
        obtain ⟨u2, hu2, hf⟩ := z_b hf
        have hPc := hP
        have hDc := hD
        have hKc := hK
        refine z_cwi (va_runV (As := [.int p1, .int p2]) (rest := []) ⟨hx, hb, hml, hown, hts⟩ (c_MO_isOutput l dC dI N a k zpaths zsteps zcached zholds zinside zowner zmaker zcontent zruns zisThere ztarget zplace zrun zstaged zisOpen zstagedAt zstagedContent zstagedRuns zstagedLazy zisDirty zcache zhold zmet zrow p1 p2 hu2 H.size) (cwV 2 hts (zGV zsub_c k_3_61 k_3_63 s_MO_isOutput k_1_8 kc_MO_isOutput) rfl rfl rfl (by decide +kernel) ⟨Nat.le_of_ble_eq_true rfl, Nat.le_of_ble_eq_true rfl⟩) ⟨z_bl, va_recv hKc hPc (ci := 7) (q0 := 0) rfl rfl, fun U hU hW => ⟨rfl, z_pre hN hKc hPc hDc U hU hW⟩⟩ rfl rfl hl.1 rfl (lv_room (Nat.le_of_ble_eq_true rfl)) d_MO_read_30 ⟨Nat.zero_le _, Nat.zero_le _⟩) hD hS hA (fun H locs hP hD hS => ?_)
        refine lv_if_ne (tgt := 39) hx hb d_MO_read_33 (by decide) (fun c4 => ?_) (fun c4 => ?_)
        · have hf := z_t c4 hf
          refine lv_bipush (v := (nI 40)) hx hb d_MO_read_39 (by decide) ?_
          refine lv_iload_n hx hb d_MO_read_41 rfl (lv_at hl 1 rfl) ?_
          refine lv_imul hx hb d_MO_read_42 ?_
          refine lv_iload_n hx hb d_MO_read_43 rfl (lv_at hl 2 rfl) ?_
          refine lv_iadd hx hb d_MO_read_44 ?_
          refine lv_istore_n (lv' := [(3, .int (((nI 40) * p1) + p2)), (0, .ref (a 0)), (1, .int p1), (2, .int p2)]) hx hb d_MO_read_45 rfl hl (by decide) rfl (fun ls hl => ?_)
          refine lv_aload_n hx hb d_MO_read_46 rfl (lv_at hl 1 rfl) ?_
          refine va_get (D := (dC, dI)) (ci := 7) (v := .ref (a 6)) (C := R_MO) (T := F_MO) (N := 24) hx hb hts (fun w h => List.mem_cons_of_mem _ (in_MO w h)) hown hK hP 0 rfl rfl 9 (by decide) (hts _ (List.mem_cons_of_mem _ k_2_170)) (fun _ h9 => h9) rfl d_MO_read_47 ?_
          refine lv_iload_n hx hb d_MO_read_50 rfl (lv_at hl 0 rfl) ?_
          obtain ⟨g5, hf⟩ := z_gz hf
          refine va_zald hx hb hK hP 6 5 rfl rfl g5 d_MO_read_51 ?_
          refine lv_if_ne (tgt := 97) hx hb d_MO_read_52 (by decide) (fun c6 => ?_) (fun c6 => ?_)
          · have hf := z_t c6 hf
            refine lv_aload_n hx hb d_MO_read_97 rfl (lv_at hl 1 rfl) ?_
            refine va_get (D := (dC, dI)) (ci := 7) (v := .ref (a 6)) (C := R_MO) (T := F_MO) (N := 24) hx hb hts (fun w h => List.mem_cons_of_mem _ (in_MO w h)) hown hK hP 0 rfl rfl 9 (by decide) (hts _ (List.mem_cons_of_mem _ k_2_170)) (fun _ h9 => h9) rfl d_MO_read_98 ?_
            refine lv_iload_n hx hb d_MO_read_101 rfl (lv_at hl 0 rfl) ?_
            refine lv_iconst (v := (1 : Int32)) hx hb d_MO_read_102 (by decide) ?_
            obtain ⟨g7, hf⟩ := z_gz hf
            refine va_zast hx hb hK hP hD hS 6 5 rfl rfl g7 d_MO_read_103 (fun H locs hP hD hS => ?_)
            have hP : va_P (dC, dI) zCl (w_MO a k zpaths zsteps zcached zholds zinside zowner zmaker zcontent zruns (upd zisThere (((nI 40) * p1) + p2).toNatClampNeg (vp_nar .boolean (1 : Int32))) ztarget zplace zrun zstaged zisOpen zstagedAt zstagedContent zstagedRuns zstagedLazy zisDirty zcache zhold zmet zrow) H := hP
            have hD : va_D _ (w_MO a k zpaths zsteps zcached zholds zinside zowner zmaker zcontent zruns (upd zisThere (((nI 40) * p1) + p2).toNatClampNeg (vp_nar .boolean (1 : Int32))) ztarget zplace zrun zstaged zisOpen zstagedAt zstagedContent zstagedRuns zstagedLazy zisDirty zcache zhold zmet zrow) := hD
            refine lv_aload_n hx hb d_MO_read_104 rfl (lv_at hl 1 rfl) ?_
            refine va_get (D := (dC, dI)) (ci := 7) (v := .ref (a 18)) (C := R_MO) (T := F_MO) (N := 24) hx hb hts (fun w h => List.mem_cons_of_mem _ (in_MO w h)) hown hK hP 0 rfl rfl 21 (by decide) (hts _ (List.mem_cons_of_mem _ k_2_182)) (fun _ h9 => h9) rfl d_MO_read_105 ?_
            refine lv_aload_n hx hb d_MO_read_108 rfl (lv_at hl 1 rfl) ?_
            refine va_get (D := (dC, dI)) (ci := 7) (v := .int zholds) (C := R_MO) (T := F_MO) (N := 24) hx hb hts (fun w h => List.mem_cons_of_mem _ (in_MO w h)) hown hK hP 0 rfl rfl 3 (by decide) (hts _ (List.mem_cons_of_mem _ k_2_164)) (fun _ h9 => h9) rfl d_MO_read_109 ?_
            refine lv_aload_n hx hb d_MO_read_112 rfl (lv_at hl 1 rfl) ?_
            refine va_get (D := (dC, dI)) (ci := 7) (v := .ref (a 4)) (C := R_MO) (T := F_MO) (N := 24) hx hb hts (fun w h => List.mem_cons_of_mem _ (in_MO w h)) hown hK hP 0 rfl rfl 7 (by decide) (hts _ (List.mem_cons_of_mem _ k_2_168)) (fun _ h9 => h9) rfl d_MO_read_113 ?_
            refine lv_iload_n hx hb d_MO_read_116 rfl (lv_at hl 0 rfl) ?_
            obtain ⟨g8, hf⟩ := z_gz hf
            refine va_lald hx hb hK hP 4 3 rfl rfl g8 d_MO_read_117 ?_
            obtain ⟨g9, hf⟩ := z_gz hf
            refine va_last hx hb hK hP hD hS 18 17 rfl rfl g9 d_MO_read_118 (fun H locs hP hD hS => ?_)
            have hP : va_P (dC, dI) zCl (w_MO a k zpaths zsteps zcached zholds zinside zowner zmaker zcontent zruns (upd zisThere (((nI 40) * p1) + p2).toNatClampNeg (vp_nar .boolean (1 : Int32))) ztarget zplace zrun zstaged zisOpen zstagedAt zstagedContent zstagedRuns zstagedLazy zisDirty zcache (vp_updL zhold zholds.toNatClampNeg (zcontent (((nI 40) * p1) + p2).toNatClampNeg)) zmet zrow) H := hP
            have hD : va_D _ (w_MO a k zpaths zsteps zcached zholds zinside zowner zmaker zcontent zruns (upd zisThere (((nI 40) * p1) + p2).toNatClampNeg (vp_nar .boolean (1 : Int32))) ztarget zplace zrun zstaged zisOpen zstagedAt zstagedContent zstagedRuns zstagedLazy zisDirty zcache (vp_updL zhold zholds.toNatClampNeg (zcontent (((nI 40) * p1) + p2).toNatClampNeg)) zmet zrow) := hD
            refine lv_aload_n hx hb d_MO_read_119 rfl (lv_at hl 1 rfl) ?_
            refine lv_dup hx hb d_MO_read_120 rfl ?_
            refine va_get (D := (dC, dI)) (ci := 7) (v := .int zholds) (C := R_MO) (T := F_MO) (N := 24) hx hb hts (fun w h => List.mem_cons_of_mem _ (in_MO w h)) hown hK hP 0 rfl rfl 3 (by decide) (hts _ (List.mem_cons_of_mem _ k_2_164)) (fun _ h9 => h9) rfl d_MO_read_121 ?_
            refine lv_iconst (v := (1 : Int32)) hx hb d_MO_read_124 (by decide) ?_
            refine lv_iadd hx hb d_MO_read_125 ?_
            refine va_put (D := (dC, dI)) (ci := 7) (v := .int (zholds + (1 : Int32))) (ty := .int) (C := R_MO) (T := F_MO) (N := 24) hx hb hts (fun w h => List.mem_cons_of_mem _ (in_MO w h)) ty_MO ty_MO_ok nm_MO hown hK hP hD hS 0 rfl rfl 3 (by decide) (hts _ (List.mem_cons_of_mem _ k_2_164)) (fun _ h9 => h9) rfl (by decide +kernel) rfl rfl (Nat.le_of_ble_eq_true rfl) d_MO_read_126 (fun H locs hP hD hS => ?_)
            have hP : va_P (dC, dI) zCl (w_MO a k zpaths zsteps zcached (zholds + (1 : Int32)) zinside zowner zmaker zcontent zruns (upd zisThere (((nI 40) * p1) + p2).toNatClampNeg (vp_nar .boolean (1 : Int32))) ztarget zplace zrun zstaged zisOpen zstagedAt zstagedContent zstagedRuns zstagedLazy zisDirty zcache (vp_updL zhold zholds.toNatClampNeg (zcontent (((nI 40) * p1) + p2).toNatClampNeg)) zmet zrow) H := hP
            have hD : va_D _ (w_MO a k zpaths zsteps zcached (zholds + (1 : Int32)) zinside zowner zmaker zcontent zruns (upd zisThere (((nI 40) * p1) + p2).toNatClampNeg (vp_nar .boolean (1 : Int32))) ztarget zplace zrun zstaged zisOpen zstagedAt zstagedContent zstagedRuns zstagedLazy zisDirty zcache (vp_updL zhold zholds.toNatClampNeg (zcontent (((nI 40) * p1) + p2).toNatClampNeg)) zmet zrow) := hD
            refine lv_aload_n hx hb d_MO_read_129 rfl (lv_at hl 1 rfl) ?_
            refine va_get (D := (dC, dI)) (ci := 7) (v := .int (zholds + (1 : Int32))) (C := R_MO) (T := F_MO) (N := 24) hx hb hts (fun w h => List.mem_cons_of_mem _ (in_MO w h)) hown hK hP 0 rfl rfl 3 (by decide) (hts _ (List.mem_cons_of_mem _ k_2_164)) (fun _ h9 => h9) rfl d_MO_read_130 ?_
            refine lv_iconst (v := (1 : Int32)) hx hb d_MO_read_133 (by decide) ?_
            refine lv_isub hx hb d_MO_read_134 ?_
            obtain rfl := Option.some.inj hf
            exact z_iret hx hb hr hP hD hS d_MO_read_135 hlocks
          · have hf := z_fn c6 hf
            refine lv_aload_n hx hb d_MO_read_55 rfl (lv_at hl 1 rfl) ?_
            refine lv_aload_n hx hb d_MO_read_56 rfl (lv_at hl 1 rfl) ?_
            refine va_get (D := (dC, dI)) (ci := 7) (v := .ref (a 4)) (C := R_MO) (T := F_MO) (N := 24) hx hb hts (fun w h => List.mem_cons_of_mem _ (in_MO w h)) hown hK hP 0 rfl rfl 7 (by decide) (hts _ (List.mem_cons_of_mem _ k_2_168)) (fun _ h9 => h9) rfl d_MO_read_57 ?_
            refine lv_iload_n hx hb d_MO_read_60 rfl (lv_at hl 0 rfl) ?_
            obtain ⟨g10, hf⟩ := z_gz hf
            refine va_lald hx hb hK hP 4 3 rfl rfl g10 d_MO_read_61 ?_
            obtain ⟨u3, hu3, hf⟩ := z_b hf
            have hPc := hP
            have hDc := hD
            have hKc := hK
            refine z_cwi (va_runV (As := [.long (zcontent (((nI 40) * p1) + p2).toNatClampNeg)]) (rest := []) ⟨hx, hb, hml, hown, hts⟩ (c_MO_isCached l dC dI N a k zpaths zsteps zcached zholds zinside zowner zmaker zcontent zruns zisThere ztarget zplace zrun zstaged zisOpen zstagedAt zstagedContent zstagedRuns zstagedLazy zisDirty zcache zhold zmet zrow (zcontent (((nI 40) * p1) + p2).toNatClampNeg) hu3 H.size) (cwV 1 hts (zGV zsub_c k_3_37 k_3_39 s_MO_isCached k_1_8 kc_MO_isCached) rfl rfl rfl (by decide +kernel) ⟨Nat.le_of_ble_eq_true rfl, Nat.le_of_ble_eq_true rfl⟩) ⟨z_bl, va_recv hKc hPc (ci := 7) (q0 := 0) rfl rfl, fun U hU hW => ⟨rfl, z_pre hN hKc hPc hDc U hU hW⟩⟩ rfl rfl hl.1 rfl (lv_room (Nat.le_of_ble_eq_true rfl)) d_MO_read_62 ⟨Nat.zero_le _, Nat.zero_le _⟩) hD hS hA (fun H locs hP hD hS => ?_)
            refine lv_if_ne (tgt := 97) hx hb d_MO_read_65 (by decide) (fun c11 => ?_) (fun c11 => ?_)
            · have hf := z_t c11 hf
              refine lv_aload_n hx hb d_MO_read_97 rfl (lv_at hl 1 rfl) ?_
              refine va_get (D := (dC, dI)) (ci := 7) (v := .ref (a 6)) (C := R_MO) (T := F_MO) (N := 24) hx hb hts (fun w h => List.mem_cons_of_mem _ (in_MO w h)) hown hK hP 0 rfl rfl 9 (by decide) (hts _ (List.mem_cons_of_mem _ k_2_170)) (fun _ h9 => h9) rfl d_MO_read_98 ?_
              refine lv_iload_n hx hb d_MO_read_101 rfl (lv_at hl 0 rfl) ?_
              refine lv_iconst (v := (1 : Int32)) hx hb d_MO_read_102 (by decide) ?_
              obtain ⟨g12, hf⟩ := z_gz hf
              refine va_zast hx hb hK hP hD hS 6 5 rfl rfl g12 d_MO_read_103 (fun H locs hP hD hS => ?_)
              have hP : va_P (dC, dI) zCl (w_MO a k zpaths zsteps zcached zholds zinside zowner zmaker zcontent zruns (upd zisThere (((nI 40) * p1) + p2).toNatClampNeg (vp_nar .boolean (1 : Int32))) ztarget zplace zrun zstaged zisOpen zstagedAt zstagedContent zstagedRuns zstagedLazy zisDirty zcache zhold zmet zrow) H := hP
              have hD : va_D _ (w_MO a k zpaths zsteps zcached zholds zinside zowner zmaker zcontent zruns (upd zisThere (((nI 40) * p1) + p2).toNatClampNeg (vp_nar .boolean (1 : Int32))) ztarget zplace zrun zstaged zisOpen zstagedAt zstagedContent zstagedRuns zstagedLazy zisDirty zcache zhold zmet zrow) := hD
              refine lv_aload_n hx hb d_MO_read_104 rfl (lv_at hl 1 rfl) ?_
              refine va_get (D := (dC, dI)) (ci := 7) (v := .ref (a 18)) (C := R_MO) (T := F_MO) (N := 24) hx hb hts (fun w h => List.mem_cons_of_mem _ (in_MO w h)) hown hK hP 0 rfl rfl 21 (by decide) (hts _ (List.mem_cons_of_mem _ k_2_182)) (fun _ h9 => h9) rfl d_MO_read_105 ?_
              refine lv_aload_n hx hb d_MO_read_108 rfl (lv_at hl 1 rfl) ?_
              refine va_get (D := (dC, dI)) (ci := 7) (v := .int zholds) (C := R_MO) (T := F_MO) (N := 24) hx hb hts (fun w h => List.mem_cons_of_mem _ (in_MO w h)) hown hK hP 0 rfl rfl 3 (by decide) (hts _ (List.mem_cons_of_mem _ k_2_164)) (fun _ h9 => h9) rfl d_MO_read_109 ?_
              refine lv_aload_n hx hb d_MO_read_112 rfl (lv_at hl 1 rfl) ?_
              refine va_get (D := (dC, dI)) (ci := 7) (v := .ref (a 4)) (C := R_MO) (T := F_MO) (N := 24) hx hb hts (fun w h => List.mem_cons_of_mem _ (in_MO w h)) hown hK hP 0 rfl rfl 7 (by decide) (hts _ (List.mem_cons_of_mem _ k_2_168)) (fun _ h9 => h9) rfl d_MO_read_113 ?_
              refine lv_iload_n hx hb d_MO_read_116 rfl (lv_at hl 0 rfl) ?_
              obtain ⟨g13, hf⟩ := z_gz hf
              refine va_lald hx hb hK hP 4 3 rfl rfl g13 d_MO_read_117 ?_
              obtain ⟨g14, hf⟩ := z_gz hf
              refine va_last hx hb hK hP hD hS 18 17 rfl rfl g14 d_MO_read_118 (fun H locs hP hD hS => ?_)
              have hP : va_P (dC, dI) zCl (w_MO a k zpaths zsteps zcached zholds zinside zowner zmaker zcontent zruns (upd zisThere (((nI 40) * p1) + p2).toNatClampNeg (vp_nar .boolean (1 : Int32))) ztarget zplace zrun zstaged zisOpen zstagedAt zstagedContent zstagedRuns zstagedLazy zisDirty zcache (vp_updL zhold zholds.toNatClampNeg (zcontent (((nI 40) * p1) + p2).toNatClampNeg)) zmet zrow) H := hP
              have hD : va_D _ (w_MO a k zpaths zsteps zcached zholds zinside zowner zmaker zcontent zruns (upd zisThere (((nI 40) * p1) + p2).toNatClampNeg (vp_nar .boolean (1 : Int32))) ztarget zplace zrun zstaged zisOpen zstagedAt zstagedContent zstagedRuns zstagedLazy zisDirty zcache (vp_updL zhold zholds.toNatClampNeg (zcontent (((nI 40) * p1) + p2).toNatClampNeg)) zmet zrow) := hD
              refine lv_aload_n hx hb d_MO_read_119 rfl (lv_at hl 1 rfl) ?_
              refine lv_dup hx hb d_MO_read_120 rfl ?_
              refine va_get (D := (dC, dI)) (ci := 7) (v := .int zholds) (C := R_MO) (T := F_MO) (N := 24) hx hb hts (fun w h => List.mem_cons_of_mem _ (in_MO w h)) hown hK hP 0 rfl rfl 3 (by decide) (hts _ (List.mem_cons_of_mem _ k_2_164)) (fun _ h9 => h9) rfl d_MO_read_121 ?_
              refine lv_iconst (v := (1 : Int32)) hx hb d_MO_read_124 (by decide) ?_
              refine lv_iadd hx hb d_MO_read_125 ?_
              refine va_put (D := (dC, dI)) (ci := 7) (v := .int (zholds + (1 : Int32))) (ty := .int) (C := R_MO) (T := F_MO) (N := 24) hx hb hts (fun w h => List.mem_cons_of_mem _ (in_MO w h)) ty_MO ty_MO_ok nm_MO hown hK hP hD hS 0 rfl rfl 3 (by decide) (hts _ (List.mem_cons_of_mem _ k_2_164)) (fun _ h9 => h9) rfl (by decide +kernel) rfl rfl (Nat.le_of_ble_eq_true rfl) d_MO_read_126 (fun H locs hP hD hS => ?_)
              have hP : va_P (dC, dI) zCl (w_MO a k zpaths zsteps zcached (zholds + (1 : Int32)) zinside zowner zmaker zcontent zruns (upd zisThere (((nI 40) * p1) + p2).toNatClampNeg (vp_nar .boolean (1 : Int32))) ztarget zplace zrun zstaged zisOpen zstagedAt zstagedContent zstagedRuns zstagedLazy zisDirty zcache (vp_updL zhold zholds.toNatClampNeg (zcontent (((nI 40) * p1) + p2).toNatClampNeg)) zmet zrow) H := hP
              have hD : va_D _ (w_MO a k zpaths zsteps zcached (zholds + (1 : Int32)) zinside zowner zmaker zcontent zruns (upd zisThere (((nI 40) * p1) + p2).toNatClampNeg (vp_nar .boolean (1 : Int32))) ztarget zplace zrun zstaged zisOpen zstagedAt zstagedContent zstagedRuns zstagedLazy zisDirty zcache (vp_updL zhold zholds.toNatClampNeg (zcontent (((nI 40) * p1) + p2).toNatClampNeg)) zmet zrow) := hD
              refine lv_aload_n hx hb d_MO_read_129 rfl (lv_at hl 1 rfl) ?_
              refine va_get (D := (dC, dI)) (ci := 7) (v := .int (zholds + (1 : Int32))) (C := R_MO) (T := F_MO) (N := 24) hx hb hts (fun w h => List.mem_cons_of_mem _ (in_MO w h)) hown hK hP 0 rfl rfl 3 (by decide) (hts _ (List.mem_cons_of_mem _ k_2_164)) (fun _ h9 => h9) rfl d_MO_read_130 ?_
              refine lv_iconst (v := (1 : Int32)) hx hb d_MO_read_133 (by decide) ?_
              refine lv_isub hx hb d_MO_read_134 ?_
              obtain rfl := Option.some.inj hf
              exact z_iret hx hb hr hP hD hS d_MO_read_135 hlocks
            · have hf := z_fn c11 hf
              refine lv_aload_n hx hb d_MO_read_68 rfl (lv_at hl 1 rfl) ?_
              refine va_get (D := (dC, dI)) (ci := 7) (v := .ref (a 16)) (C := R_MO) (T := F_MO) (N := 24) hx hb hts (fun w h => List.mem_cons_of_mem _ (in_MO w h)) hown hK hP 0 rfl rfl 19 (by decide) (hts _ (List.mem_cons_of_mem _ k_2_180)) (fun _ h9 => h9) rfl d_MO_read_69 ?_
              refine lv_bipush (v := (nI 12)) hx hb d_MO_read_72 (by decide) ?_
              refine lv_iload_n hx hb d_MO_read_74 rfl (lv_at hl 2 rfl) ?_
              refine lv_imul hx hb d_MO_read_75 ?_
              refine lv_aload_n hx hb d_MO_read_76 rfl (lv_at hl 1 rfl) ?_
              refine va_get (D := (dC, dI)) (ci := 7) (v := .ref (a 2)) (C := R_MO) (T := F_MO) (N := 24) hx hb hts (fun w h => List.mem_cons_of_mem _ (in_MO w h)) hown hK hP 0 rfl rfl 5 (by decide) (hts _ (List.mem_cons_of_mem _ k_2_166)) (fun _ h9 => h9) rfl d_MO_read_77 ?_
              refine lv_iload_n hx hb d_MO_read_80 rfl (lv_at hl 0 rfl) ?_
              obtain ⟨g15, hf⟩ := z_gz hf
              refine va_iald hx hb hK hP 2 1 rfl rfl g15 d_MO_read_81 ?_
              refine lv_iadd hx hb d_MO_read_82 ?_
              refine lv_iconst (v := (1 : Int32)) hx hb d_MO_read_83 (by decide) ?_
              refine lv_isub hx hb d_MO_read_84 ?_
              refine lv_iconst (v := (1 : Int32)) hx hb d_MO_read_85 (by decide) ?_
              obtain ⟨g16, hf⟩ := z_gz hf
              refine va_zast hx hb hK hP hD hS 16 15 rfl rfl g16 d_MO_read_86 (fun H locs hP hD hS => ?_)
              have hP : va_P (dC, dI) zCl (w_MO a k zpaths zsteps zcached zholds zinside zowner zmaker zcontent zruns zisThere ztarget zplace zrun zstaged zisOpen zstagedAt zstagedContent zstagedRuns zstagedLazy (upd zisDirty ((((nI 12) * p1) + (zowner (((nI 40) * p1) + p2).toNatClampNeg)) - (1 : Int32)).toNatClampNeg (vp_nar .boolean (1 : Int32))) zcache zhold zmet zrow) H := hP
              have hD : va_D _ (w_MO a k zpaths zsteps zcached zholds zinside zowner zmaker zcontent zruns zisThere ztarget zplace zrun zstaged zisOpen zstagedAt zstagedContent zstagedRuns zstagedLazy (upd zisDirty ((((nI 12) * p1) + (zowner (((nI 40) * p1) + p2).toNatClampNeg)) - (1 : Int32)).toNatClampNeg (vp_nar .boolean (1 : Int32))) zcache zhold zmet zrow) := hD
              refine lv_aload_n hx hb d_MO_read_87 rfl (lv_at hl 1 rfl) ?_
              refine va_get (D := (dC, dI)) (ci := 7) (v := .ref (a 2)) (C := R_MO) (T := F_MO) (N := 24) hx hb hts (fun w h => List.mem_cons_of_mem _ (in_MO w h)) hown hK hP 0 rfl rfl 5 (by decide) (hts _ (List.mem_cons_of_mem _ k_2_166)) (fun _ h9 => h9) rfl d_MO_read_88 ?_
              refine lv_iload_n hx hb d_MO_read_91 rfl (lv_at hl 0 rfl) ?_
              refine lv_iconst (v := (0 : Int32)) hx hb d_MO_read_92 (by decide) ?_
              obtain ⟨g17, hf⟩ := z_gz hf
              refine va_iast hx hb hK hP hD hS 2 1 rfl rfl g17 d_MO_read_93 (fun H locs hP hD hS => ?_)
              have hP : va_P (dC, dI) zCl (w_MO a k zpaths zsteps zcached zholds zinside (upd zowner (((nI 40) * p1) + p2).toNatClampNeg (0 : Int32)) zmaker zcontent zruns zisThere ztarget zplace zrun zstaged zisOpen zstagedAt zstagedContent zstagedRuns zstagedLazy (upd zisDirty ((((nI 12) * p1) + (zowner (((nI 40) * p1) + p2).toNatClampNeg)) - (1 : Int32)).toNatClampNeg (vp_nar .boolean (1 : Int32))) zcache zhold zmet zrow) H := hP
              have hD : va_D _ (w_MO a k zpaths zsteps zcached zholds zinside (upd zowner (((nI 40) * p1) + p2).toNatClampNeg (0 : Int32)) zmaker zcontent zruns zisThere ztarget zplace zrun zstaged zisOpen zstagedAt zstagedContent zstagedRuns zstagedLazy (upd zisDirty ((((nI 12) * p1) + (zowner (((nI 40) * p1) + p2).toNatClampNeg)) - (1 : Int32)).toNatClampNeg (vp_nar .boolean (1 : Int32))) zcache zhold zmet zrow) := hD
              refine lv_bipush (v := (-3 : Int32)) hx hb d_MO_read_94 (by decide) ?_
              obtain rfl := Option.some.inj hf
              exact z_iret hx hb hr hP hD hS d_MO_read_96 hlocks
        · have hf := z_fn c4 hf
          refine lv_bipush (v := (-2 : Int32)) hx hb d_MO_read_36 (by decide) ?_
          obtain rfl := Option.some.inj hf
          exact z_iret hx hb hr hP hD hS d_MO_read_38 hlocks
      · have hf := z_fn c3 hf
        refine lv_iconst (v := (-1 : Int32)) hx hb d_MO_read_25 (by decide) ?_
        obtain rfl := Option.some.inj hf
        exact z_iret hx hb hr hP hD hS d_MO_read_26 hlocks
set_option maxHeartbeats 4000000 in
set_option maxRecDepth 100000 in
theorem c_MO_held (l : Launch) (dC : Nat → ClassId) (dI : Nat → Nat → Nat) (N : Nat) (a : Nat → Nat) (k : Nat → ClassId) (zpaths : Int32) (zsteps : Int32) (zcached : Int32) (zholds : Int32) (zinside : Nat → Int32) (zowner : Nat → Int32) (zmaker : Nat → Int32) (zcontent : Nat → Int64) (zruns : Nat → Int32) (zisThere : Nat → Int32) (ztarget : Nat → Int32) (zplace : Nat → Int32) (zrun : Nat → Int32) (zstaged : Nat → Int32) (zisOpen : Nat → Int32) (zstagedAt : Nat → Int32) (zstagedContent : Nat → Int64) (zstagedRuns : Nat → Int32) (zstagedLazy : Nat → Int32) (zisDirty : Nat → Int32) (zcache : Nat → Int64) (zhold : Nat → Int64) (zmet : Int32) (zrow : Nat → Int64) (p1 : Int32) {y : (Int64)} (hf : pf_MO_held N zholds zhold p1 = some y) (sz : Nat) : Met l y_MO_held ww_MO_held ({ frames := 0, cells := 0, slots := 0, locals := 0 }) (va_Pc [.ref (a 0), .int p1] (zB (dC, dI) zCl (t_MO k) (w_MO a k zpaths zsteps zcached zholds zinside zowner zmaker zcontent zruns zisThere ztarget zplace zrun zstaged zisOpen zstagedAt zstagedContent zstagedRuns zstagedLazy zisDirty zcache zhold zmet zrow) sz)) (zQl (dC, dI) zCl (w_MO a k zpaths zsteps zcached zholds zinside zowner zmaker zcontent zruns zisThere ztarget zplace zrun zstaged zisOpen zstagedAt zstagedContent zstagedRuns zstagedLazy zisDirty zcache zhold zmet zrow) sz y (w_MO a k zpaths zsteps zcached zholds zinside zowner zmaker zcontent zruns zisThere ztarget zplace zrun zstaged zisOpen zstagedAt zstagedContent zstagedRuns zstagedLazy zisDirty zcache zhold zmet zrow)) 0 0 (va_A (w_MO a k zpaths zsteps zcached zholds zinside zowner zmaker zcontent zruns zisThere ztarget zplace zrun zstaged zisOpen zstagedAt zstagedContent zstagedRuns zstagedLazy zisDirty zcache zhold zmet zrow) sz) := by
  refine Met.ofW (cc := b_MO_held) (maxL := 2) (ret := (some .long)) (by decide) rfl ?_
  intro p e s m args below meth c s₁ B hml hv
  obtain ⟨rfl, rfl, hP, hK, hD, hN⟩ := hv
  have hx := B.exec
  have hb := B.bytes
  have hr := B.returns
  have hts := atoms_spec (ws := ww_MO_held) B.pre
  have hown : s.vm.findClass R_MO = some m.cls := findClass_of_methodNamed B.named
  have hlocks := B.notSynchronized
  have hA : ∀ q : Nat, s.heap.size ≤ q → va_A (w_MO a k zpaths zsteps zcached zholds zinside zowner zmaker zcontent zruns zisThere ztarget zplace zrun zstaged zisOpen zstagedAt zstagedContent zstagedRuns zstagedLazy zisDirty zcache zhold zmet zrow) s.heap.size q := fun q h => Or.inr h
  refine z_start (lv := [(0, .ref (a 0)), (1, .int p1)]) (Nat.le_of_ble_eq_true rfl) rfl hP hD (fun H locs ls hP hD hS hl => ?_)
  unfold pf_MO_held at hf
  refine lv_iload_n hx hb d_MO_held_0 rfl (lv_at hl 1 rfl) ?_
  refine lv_if_lt (tgt := 21) hx hb d_MO_held_1 (by decide) (fun c1 => ?_) (fun c1 => ?_)
  · have hf := z_t c1 hf
    refine lv_lconst (v := 0) hx hb d_MO_held_21 (by decide) ?_
    obtain rfl := Option.some.inj hf
    exact z_lret hx hb hr hP hD hS d_MO_held_22 hlocks
  · have hf := z_f c1 hf
    refine lv_iload_n hx hb d_MO_held_4 rfl (lv_at hl 1 rfl) ?_
    refine lv_aload_n hx hb d_MO_held_5 rfl (lv_at hl 0 rfl) ?_
    refine va_get (D := (dC, dI)) (ci := 7) (v := .int zholds) (C := R_MO) (T := F_MO) (N := 24) hx hb hts (fun w h => List.mem_cons_of_mem _ (in_MO w h)) hown hK hP 0 rfl rfl 3 (by decide) (hts _ (List.mem_cons_of_mem _ k_2_164)) (fun _ h9 => h9) rfl d_MO_held_6 ?_
    refine lv_icmp_ge (tgt := 21) hx hb d_MO_held_9 (by decide) (fun c2 => ?_) (fun c2 => ?_)
    · have hf := z_t c2 hf
      refine lv_lconst (v := 0) hx hb d_MO_held_21 (by decide) ?_
      obtain rfl := Option.some.inj hf
      exact z_lret hx hb hr hP hD hS d_MO_held_22 hlocks
    · have hf := z_f c2 hf
      refine lv_aload_n hx hb d_MO_held_12 rfl (lv_at hl 0 rfl) ?_
      refine va_get (D := (dC, dI)) (ci := 7) (v := .ref (a 18)) (C := R_MO) (T := F_MO) (N := 24) hx hb hts (fun w h => List.mem_cons_of_mem _ (in_MO w h)) hown hK hP 0 rfl rfl 21 (by decide) (hts _ (List.mem_cons_of_mem _ k_2_182)) (fun _ h9 => h9) rfl d_MO_held_13 ?_
      refine lv_iload_n hx hb d_MO_held_16 rfl (lv_at hl 1 rfl) ?_
      obtain ⟨g3, hf⟩ := z_gz hf
      refine va_lald hx hb hK hP 18 17 rfl rfl g3 d_MO_held_17 ?_
      refine lv_goto (tgt := 22) hx hb d_MO_held_18 (by decide) ?_
      obtain rfl := Option.some.inj hf
      exact z_lret hx hb hr hP hD hS d_MO_held_22 hlocks
set_option maxHeartbeats 4000000 in
set_option maxRecDepth 100000 in
theorem c_MO_letGo (l : Launch) (dC : Nat → ClassId) (dI : Nat → Nat → Nat) (N : Nat) (a : Nat → Nat) (k : Nat → ClassId) (zpaths : Int32) (zsteps : Int32) (zcached : Int32) (zholds : Int32) (zinside : Nat → Int32) (zowner : Nat → Int32) (zmaker : Nat → Int32) (zcontent : Nat → Int64) (zruns : Nat → Int32) (zisThere : Nat → Int32) (ztarget : Nat → Int32) (zplace : Nat → Int32) (zrun : Nat → Int32) (zstaged : Nat → Int32) (zisOpen : Nat → Int32) (zstagedAt : Nat → Int32) (zstagedContent : Nat → Int64) (zstagedRuns : Nat → Int32) (zstagedLazy : Nat → Int32) (zisDirty : Nat → Int32) (zcache : Nat → Int64) (zhold : Nat → Int64) (zmet : Int32) (zrow : Nat → Int64) (p1 : Int32) {y : (Int32 × (Nat → Int64))} (hf : pf_MO_letGo N zholds zhold p1 = some y) (sz : Nat) : Met l y_MO_letGo ww_MO_letGo ({ frames := 0, cells := 0, slots := 0, locals := 0 }) (va_Pc [.ref (a 0), .int p1] (zB (dC, dI) zCl (t_MO k) (w_MO a k zpaths zsteps zcached zholds zinside zowner zmaker zcontent zruns zisThere ztarget zplace zrun zstaged zisOpen zstagedAt zstagedContent zstagedRuns zstagedLazy zisDirty zcache zhold zmet zrow) sz)) (zQi (dC, dI) zCl (w_MO a k zpaths zsteps zcached zholds zinside zowner zmaker zcontent zruns zisThere ztarget zplace zrun zstaged zisOpen zstagedAt zstagedContent zstagedRuns zstagedLazy zisDirty zcache zhold zmet zrow) sz y.1 (w_MO a k zpaths zsteps zcached zholds zinside zowner zmaker zcontent zruns zisThere ztarget zplace zrun zstaged zisOpen zstagedAt zstagedContent zstagedRuns zstagedLazy zisDirty zcache y.2 zmet zrow)) 0 0 (va_A (w_MO a k zpaths zsteps zcached zholds zinside zowner zmaker zcontent zruns zisThere ztarget zplace zrun zstaged zisOpen zstagedAt zstagedContent zstagedRuns zstagedLazy zisDirty zcache zhold zmet zrow) sz) := by
  refine Met.ofW (cc := b_MO_letGo) (maxL := 2) (ret := (some .boolean)) (by decide) rfl ?_
  intro p e s m args below meth c s₁ B hml hv
  obtain ⟨rfl, rfl, hP, hK, hD, hN⟩ := hv
  have hx := B.exec
  have hb := B.bytes
  have hr := B.returns
  have hts := atoms_spec (ws := ww_MO_letGo) B.pre
  have hown : s.vm.findClass R_MO = some m.cls := findClass_of_methodNamed B.named
  have hlocks := B.notSynchronized
  have hA : ∀ q : Nat, s.heap.size ≤ q → va_A (w_MO a k zpaths zsteps zcached zholds zinside zowner zmaker zcontent zruns zisThere ztarget zplace zrun zstaged zisOpen zstagedAt zstagedContent zstagedRuns zstagedLazy zisDirty zcache zhold zmet zrow) s.heap.size q := fun q h => Or.inr h
  refine z_start (lv := [(0, .ref (a 0)), (1, .int p1)]) (Nat.le_of_ble_eq_true rfl) rfl hP hD (fun H locs ls hP hD hS hl => ?_)
  unfold pf_MO_letGo at hf
  refine lv_iload_n hx hb d_MO_letGo_0 rfl (lv_at hl 1 rfl) ?_
  refine lv_if_lt (tgt := 23) hx hb d_MO_letGo_1 (by decide) (fun c1 => ?_) (fun c1 => ?_)
  · have hf := z_t c1 hf
    refine lv_iconst (v := (0 : Int32)) hx hb d_MO_letGo_23 (by decide) ?_
    obtain rfl := Option.some.inj hf
    exact z_zret hx hb hr (Or.inl rfl) hP hD hS d_MO_letGo_24 hlocks
  · have hf := z_f c1 hf
    refine lv_iload_n hx hb d_MO_letGo_4 rfl (lv_at hl 1 rfl) ?_
    refine lv_aload_n hx hb d_MO_letGo_5 rfl (lv_at hl 0 rfl) ?_
    refine va_get (D := (dC, dI)) (ci := 7) (v := .int zholds) (C := R_MO) (T := F_MO) (N := 24) hx hb hts (fun w h => List.mem_cons_of_mem _ (in_MO w h)) hown hK hP 0 rfl rfl 3 (by decide) (hts _ (List.mem_cons_of_mem _ k_2_164)) (fun _ h9 => h9) rfl d_MO_letGo_6 ?_
    refine lv_icmp_ge (tgt := 23) hx hb d_MO_letGo_9 (by decide) (fun c2 => ?_) (fun c2 => ?_)
    · have hf := z_t c2 hf
      refine lv_iconst (v := (0 : Int32)) hx hb d_MO_letGo_23 (by decide) ?_
      obtain rfl := Option.some.inj hf
      exact z_zret hx hb hr (Or.inl rfl) hP hD hS d_MO_letGo_24 hlocks
    · have hf := z_f c2 hf
      refine lv_aload_n hx hb d_MO_letGo_12 rfl (lv_at hl 0 rfl) ?_
      refine va_get (D := (dC, dI)) (ci := 7) (v := .ref (a 18)) (C := R_MO) (T := F_MO) (N := 24) hx hb hts (fun w h => List.mem_cons_of_mem _ (in_MO w h)) hown hK hP 0 rfl rfl 21 (by decide) (hts _ (List.mem_cons_of_mem _ k_2_182)) (fun _ h9 => h9) rfl d_MO_letGo_13 ?_
      refine lv_iload_n hx hb d_MO_letGo_16 rfl (lv_at hl 1 rfl) ?_
      obtain ⟨g3, hf⟩ := z_gz hf
      refine va_lald hx hb hK hP 18 17 rfl rfl g3 d_MO_letGo_17 ?_
      refine lv_lconst (v := 0) hx hb d_MO_letGo_18 (by decide) ?_
      refine W.lcmp hx hb d_MO_letGo_19 ?_
      refine lv_if_ne (tgt := 25) hx hb d_MO_letGo_20 (by decide) (fun c4 => ?_) (fun c4 => ?_)
      · have hf := z_t c4 hf
        refine lv_aload_n hx hb d_MO_letGo_25 rfl (lv_at hl 0 rfl) ?_
        refine va_get (D := (dC, dI)) (ci := 7) (v := .ref (a 18)) (C := R_MO) (T := F_MO) (N := 24) hx hb hts (fun w h => List.mem_cons_of_mem _ (in_MO w h)) hown hK hP 0 rfl rfl 21 (by decide) (hts _ (List.mem_cons_of_mem _ k_2_182)) (fun _ h9 => h9) rfl d_MO_letGo_26 ?_
        refine lv_iload_n hx hb d_MO_letGo_29 rfl (lv_at hl 1 rfl) ?_
        refine lv_lconst (v := 0) hx hb d_MO_letGo_30 (by decide) ?_
        obtain ⟨g5, hf⟩ := z_gz hf
        refine va_last hx hb hK hP hD hS 18 17 rfl rfl g5 d_MO_letGo_31 (fun H locs hP hD hS => ?_)
        have hP : va_P (dC, dI) zCl (w_MO a k zpaths zsteps zcached zholds zinside zowner zmaker zcontent zruns zisThere ztarget zplace zrun zstaged zisOpen zstagedAt zstagedContent zstagedRuns zstagedLazy zisDirty zcache (vp_updL zhold p1.toNatClampNeg (0 : Int64)) zmet zrow) H := hP
        have hD : va_D _ (w_MO a k zpaths zsteps zcached zholds zinside zowner zmaker zcontent zruns zisThere ztarget zplace zrun zstaged zisOpen zstagedAt zstagedContent zstagedRuns zstagedLazy zisDirty zcache (vp_updL zhold p1.toNatClampNeg (0 : Int64)) zmet zrow) := hD
        refine lv_iconst (v := (1 : Int32)) hx hb d_MO_letGo_32 (by decide) ?_
        obtain rfl := Option.some.inj hf
        exact z_zret hx hb hr (Or.inr rfl) hP hD hS d_MO_letGo_33 hlocks
      · have hf := z_fn c4 hf
        refine lv_iconst (v := (0 : Int32)) hx hb d_MO_letGo_23 (by decide) ?_
        obtain rfl := Option.some.inj hf
        exact z_zret hx hb hr (Or.inl rfl) hP hD hS d_MO_letGo_24 hlocks
set_option maxHeartbeats 4000000 in
set_option maxRecDepth 100000 in
theorem c_MO_content (l : Launch) (dC : Nat → ClassId) (dI : Nat → Nat → Nat) (N : Nat) (a : Nat → Nat) (k : Nat → ClassId) (zpaths : Int32) (zsteps : Int32) (zcached : Int32) (zholds : Int32) (zinside : Nat → Int32) (zowner : Nat → Int32) (zmaker : Nat → Int32) (zcontent : Nat → Int64) (zruns : Nat → Int32) (zisThere : Nat → Int32) (ztarget : Nat → Int32) (zplace : Nat → Int32) (zrun : Nat → Int32) (zstaged : Nat → Int32) (zisOpen : Nat → Int32) (zstagedAt : Nat → Int32) (zstagedContent : Nat → Int64) (zstagedRuns : Nat → Int32) (zstagedLazy : Nat → Int32) (zisDirty : Nat → Int32) (zcache : Nat → Int64) (zhold : Nat → Int64) (zmet : Int32) (zrow : Nat → Int64) (p1 : Int32) (p2 : Int32) {y : (Int64)} (hf : pf_MO_content N zpaths zowner zcontent p1 p2 = some y) (sz : Nat) : Met l y_MO_content ww_MO_content ({ frames := 2, cells := 0, slots := 0, locals := 43 }) (va_Pc [.ref (a 0), .int p1, .int p2] (zB (dC, dI) zCl (t_MO k) (w_MO a k zpaths zsteps zcached zholds zinside zowner zmaker zcontent zruns zisThere ztarget zplace zrun zstaged zisOpen zstagedAt zstagedContent zstagedRuns zstagedLazy zisDirty zcache zhold zmet zrow) sz)) (zQl (dC, dI) zCl (w_MO a k zpaths zsteps zcached zholds zinside zowner zmaker zcontent zruns zisThere ztarget zplace zrun zstaged zisOpen zstagedAt zstagedContent zstagedRuns zstagedLazy zisDirty zcache zhold zmet zrow) sz y (w_MO a k zpaths zsteps zcached zholds zinside zowner zmaker zcontent zruns zisThere ztarget zplace zrun zstaged zisOpen zstagedAt zstagedContent zstagedRuns zstagedLazy zisDirty zcache zhold zmet zrow)) 0 0 (va_A (w_MO a k zpaths zsteps zcached zholds zinside zowner zmaker zcontent zruns zisThere ztarget zplace zrun zstaged zisOpen zstagedAt zstagedContent zstagedRuns zstagedLazy zisDirty zcache zhold zmet zrow) sz) := by
  refine Met.ofW (cc := b_MO_content) (maxL := 3) (ret := (some .long)) (by decide) rfl ?_
  intro p e s m args below meth c s₁ B hml hv
  obtain ⟨rfl, rfl, hP, hK, hD, hN⟩ := hv
  have hx := B.exec
  have hb := B.bytes
  have hr := B.returns
  have hts := atoms_spec (ws := ww_MO_content) B.pre
  have hown : s.vm.findClass R_MO = some m.cls := findClass_of_methodNamed B.named
  have hlocks := B.notSynchronized
  have hA : ∀ q : Nat, s.heap.size ≤ q → va_A (w_MO a k zpaths zsteps zcached zholds zinside zowner zmaker zcontent zruns zisThere ztarget zplace zrun zstaged zisOpen zstagedAt zstagedContent zstagedRuns zstagedLazy zisDirty zcache zhold zmet zrow) s.heap.size q := fun q h => Or.inr h
  refine z_start (lv := [(0, .ref (a 0)), (1, .int p1), (2, .int p2)]) (Nat.le_of_ble_eq_true rfl) rfl hP hD (fun H locs ls hP hD hS hl => ?_)
  unfold pf_MO_content at hf
  refine lv_aload_n hx hb d_MO_content_0 rfl (lv_at hl 0 rfl) ?_
  refine lv_iload_n hx hb d_MO_content_1 rfl (lv_at hl 1 rfl) ?_
  refine lv_iload_n hx hb d_MO_content_2 rfl (lv_at hl 2 rfl) ?_
  obtain ⟨u0, hu0, hf⟩ := z_b hf
  have hPc := hP
  have hDc := hD
  have hKc := hK
  refine z_cwi (va_runV (As := [.int p1, .int p2]) (rest := []) ⟨hx, hb, hml, hown, hts⟩ (c_MO_isOutput l dC dI N a k zpaths zsteps zcached zholds zinside zowner zmaker zcontent zruns zisThere ztarget zplace zrun zstaged zisOpen zstagedAt zstagedContent zstagedRuns zstagedLazy zisDirty zcache zhold zmet zrow p1 p2 hu0 H.size) (cwV 2 hts (zGV zsub_c k_3_61 k_3_63 s_MO_isOutput k_1_8 kc_MO_isOutput) rfl rfl rfl (by decide +kernel) ⟨Nat.le_of_ble_eq_true rfl, Nat.le_of_ble_eq_true rfl⟩) ⟨z_bl, va_recv hKc hPc (ci := 7) (q0 := 0) rfl rfl, fun U hU hW => ⟨rfl, z_pre hN hKc hPc hDc U hU hW⟩⟩ rfl rfl hl.1 rfl (lv_room (Nat.le_of_ble_eq_true rfl)) d_MO_content_3 ⟨Nat.zero_le _, Nat.zero_le _⟩) hD hS hA (fun H locs hP hD hS => ?_)
  refine lv_if_eq (tgt := 23) hx hb d_MO_content_6 (by decide) (fun c1 => ?_) (fun c1 => ?_)
  · have hf := z_t c1 hf
    refine lv_lconst (v := 0) hx hb d_MO_content_23 (by decide) ?_
    obtain rfl := Option.some.inj hf
    exact z_lret hx hb hr hP hD hS d_MO_content_24 hlocks
  · have hf := z_f c1 hf
    refine lv_aload_n hx hb d_MO_content_9 rfl (lv_at hl 0 rfl) ?_
    refine va_get (D := (dC, dI)) (ci := 7) (v := .ref (a 4)) (C := R_MO) (T := F_MO) (N := 24) hx hb hts (fun w h => List.mem_cons_of_mem _ (in_MO w h)) hown hK hP 0 rfl rfl 7 (by decide) (hts _ (List.mem_cons_of_mem _ k_2_168)) (fun _ h9 => h9) rfl d_MO_content_10 ?_
    refine lv_bipush (v := (nI 40)) hx hb d_MO_content_13 (by decide) ?_
    refine lv_iload_n hx hb d_MO_content_15 rfl (lv_at hl 1 rfl) ?_
    refine lv_imul hx hb d_MO_content_16 ?_
    refine lv_iload_n hx hb d_MO_content_17 rfl (lv_at hl 2 rfl) ?_
    refine lv_iadd hx hb d_MO_content_18 ?_
    obtain ⟨g2, hf⟩ := z_gz hf
    refine va_lald hx hb hK hP 4 3 rfl rfl g2 d_MO_content_19 ?_
    refine lv_goto (tgt := 24) hx hb d_MO_content_20 (by decide) ?_
    obtain rfl := Option.some.inj hf
    exact z_lret hx hb hr hP hD hS d_MO_content_24 hlocks
set_option maxHeartbeats 4000000 in
set_option maxRecDepth 100000 in
theorem c_MO_about (l : Launch) (dC : Nat → ClassId) (dI : Nat → Nat → Nat) (N : Nat) (a : Nat → Nat) (k : Nat → ClassId) (zpaths : Int32) (zsteps : Int32) (zcached : Int32) (zholds : Int32) (zinside : Nat → Int32) (zowner : Nat → Int32) (zmaker : Nat → Int32) (zcontent : Nat → Int64) (zruns : Nat → Int32) (zisThere : Nat → Int32) (ztarget : Nat → Int32) (zplace : Nat → Int32) (zrun : Nat → Int32) (zstaged : Nat → Int32) (zisOpen : Nat → Int32) (zstagedAt : Nat → Int32) (zstagedContent : Nat → Int64) (zstagedRuns : Nat → Int32) (zstagedLazy : Nat → Int32) (zisDirty : Nat → Int32) (zcache : Nat → Int64) (zhold : Nat → Int64) (zmet : Int32) (zrow : Nat → Int64) (p1 : Int32) (p2 : Int32) (p3 : Int32) {y : (Int32)} (hf : pf_MO_about N zpaths zowner zmaker zruns zisThere p1 p2 p3 = some y) (sz : Nat) : Met l y_MO_about ww_MO_about ({ frames := 2, cells := 0, slots := 0, locals := 43 }) (va_Pc [.ref (a 0), .int p1, .int p2, .int p3] (zB (dC, dI) zCl (t_MO k) (w_MO a k zpaths zsteps zcached zholds zinside zowner zmaker zcontent zruns zisThere ztarget zplace zrun zstaged zisOpen zstagedAt zstagedContent zstagedRuns zstagedLazy zisDirty zcache zhold zmet zrow) sz)) (zQi (dC, dI) zCl (w_MO a k zpaths zsteps zcached zholds zinside zowner zmaker zcontent zruns zisThere ztarget zplace zrun zstaged zisOpen zstagedAt zstagedContent zstagedRuns zstagedLazy zisDirty zcache zhold zmet zrow) sz y (w_MO a k zpaths zsteps zcached zholds zinside zowner zmaker zcontent zruns zisThere ztarget zplace zrun zstaged zisOpen zstagedAt zstagedContent zstagedRuns zstagedLazy zisDirty zcache zhold zmet zrow)) 0 0 (va_A (w_MO a k zpaths zsteps zcached zholds zinside zowner zmaker zcontent zruns zisThere ztarget zplace zrun zstaged zisOpen zstagedAt zstagedContent zstagedRuns zstagedLazy zisDirty zcache zhold zmet zrow) sz) := by
  refine Met.ofW (cc := b_MO_about) (maxL := 5) (ret := (some .int)) (by decide) rfl ?_
  intro p e s m args below meth c s₁ B hml hv
  obtain ⟨rfl, rfl, hP, hK, hD, hN⟩ := hv
  have hx := B.exec
  have hb := B.bytes
  have hr := B.returns
  have hts := atoms_spec (ws := ww_MO_about) B.pre
  have hown : s.vm.findClass R_MO = some m.cls := findClass_of_methodNamed B.named
  have hlocks := B.notSynchronized
  have hA : ∀ q : Nat, s.heap.size ≤ q → va_A (w_MO a k zpaths zsteps zcached zholds zinside zowner zmaker zcontent zruns zisThere ztarget zplace zrun zstaged zisOpen zstagedAt zstagedContent zstagedRuns zstagedLazy zisDirty zcache zhold zmet zrow) s.heap.size q := fun q h => Or.inr h
  refine z_start (lv := [(0, .ref (a 0)), (1, .int p1), (2, .int p2), (3, .int p3)]) (Nat.le_of_ble_eq_true rfl) rfl hP hD (fun H locs ls hP hD hS hl => ?_)
  unfold pf_MO_about at hf
  refine lv_aload_n hx hb d_MO_about_0 rfl (lv_at hl 0 rfl) ?_
  refine lv_iload_n hx hb d_MO_about_1 rfl (lv_at hl 1 rfl) ?_
  refine lv_iload_n hx hb d_MO_about_2 rfl (lv_at hl 2 rfl) ?_
  obtain ⟨u0, hu0, hf⟩ := z_b hf
  have hPc := hP
  have hDc := hD
  have hKc := hK
  refine z_cwi (va_runV (As := [.int p1, .int p2]) (rest := []) ⟨hx, hb, hml, hown, hts⟩ (c_MO_isOutput l dC dI N a k zpaths zsteps zcached zholds zinside zowner zmaker zcontent zruns zisThere ztarget zplace zrun zstaged zisOpen zstagedAt zstagedContent zstagedRuns zstagedLazy zisDirty zcache zhold zmet zrow p1 p2 hu0 H.size) (cwV 2 hts (zGV zsub_c k_3_61 k_3_63 s_MO_isOutput k_1_8 kc_MO_isOutput) rfl rfl rfl (by decide +kernel) ⟨Nat.le_of_ble_eq_true rfl, Nat.le_of_ble_eq_true rfl⟩) ⟨z_bl, va_recv hKc hPc (ci := 7) (q0 := 0) rfl rfl, fun U hU hW => ⟨rfl, z_pre hN hKc hPc hDc U hU hW⟩⟩ rfl rfl hl.1 rfl (lv_room (Nat.le_of_ble_eq_true rfl)) d_MO_about_3 ⟨Nat.zero_le _, Nat.zero_le _⟩) hD hS hA (fun H locs hP hD hS => ?_)
  refine lv_if_ne (tgt := 11) hx hb d_MO_about_6 (by decide) (fun c1 => ?_) (fun c1 => ?_)
  · have hf := z_t c1 hf
    refine lv_bipush (v := (nI 40)) hx hb d_MO_about_11 (by decide) ?_
    refine lv_iload_n hx hb d_MO_about_13 rfl (lv_at hl 1 rfl) ?_
    refine lv_imul hx hb d_MO_about_14 ?_
    refine lv_iload_n hx hb d_MO_about_15 rfl (lv_at hl 2 rfl) ?_
    refine lv_iadd hx hb d_MO_about_16 ?_
    refine lv_istore (lv' := [(4, .int (((nI 40) * p1) + p2)), (0, .ref (a 0)), (1, .int p1), (2, .int p2), (3, .int p3)]) hx hb d_MO_about_17 hl (by decide) rfl (fun ls hl => ?_)
    refine lv_iload_n hx hb d_MO_about_19 rfl (lv_at hl 4 rfl) ?_
    by_cases c2 : p3 = 0
    · have hf := z_t c2 hf
      refine lv_tableIn (off := 32) (tgt := 52) hx hb d_MO_about_20 (by rw [c2]; decide) (by rw [c2]; decide) (by rw [c2]; rfl) (by decide) ?_
      refine lv_aload_n hx hb d_MO_about_52 rfl (lv_at hl 1 rfl) ?_
      refine va_get (D := (dC, dI)) (ci := 7) (v := .ref (a 2)) (C := R_MO) (T := F_MO) (N := 24) hx hb hts (fun w h => List.mem_cons_of_mem _ (in_MO w h)) hown hK hP 0 rfl rfl 5 (by decide) (hts _ (List.mem_cons_of_mem _ k_2_166)) (fun _ h9 => h9) rfl d_MO_about_53 ?_
      refine lv_iload hx hb d_MO_about_56 (lv_at hl 0 rfl) ?_
      obtain ⟨g3, hf⟩ := z_gz hf
      refine va_iald hx hb hK hP 2 1 rfl rfl g3 d_MO_about_58 ?_
      refine lv_iconst (v := (1 : Int32)) hx hb d_MO_about_59 (by decide) ?_
      refine lv_isub hx hb d_MO_about_60 ?_
      obtain rfl := Option.some.inj hf
      exact z_iret hx hb hr hP hD hS d_MO_about_61 hlocks
    · have hf := z_f c2 hf
      by_cases c4 : p3 = 1
      · have hf := z_t c4 hf
        refine lv_tableIn (off := 42) (tgt := 62) hx hb d_MO_about_20 (by rw [c4]; decide) (by rw [c4]; decide) (by rw [c4]; rfl) (by decide) ?_
        refine lv_aload_n hx hb d_MO_about_62 rfl (lv_at hl 1 rfl) ?_
        refine va_get (D := (dC, dI)) (ci := 7) (v := .ref (a 5)) (C := R_MO) (T := F_MO) (N := 24) hx hb hts (fun w h => List.mem_cons_of_mem _ (in_MO w h)) hown hK hP 0 rfl rfl 8 (by decide) (hts _ (List.mem_cons_of_mem _ k_2_169)) (fun _ h9 => h9) rfl d_MO_about_63 ?_
        refine lv_iload hx hb d_MO_about_66 (lv_at hl 0 rfl) ?_
        obtain ⟨g5, hf⟩ := z_gz hf
        refine va_zald hx hb hK hP 5 4 rfl rfl g5 d_MO_about_68 ?_
        refine lv_if_eq (tgt := 76) hx hb d_MO_about_69 (by decide) (fun c6 => ?_) (fun c6 => ?_)
        · have hf := z_t c6 hf
          refine lv_iconst (v := (0 : Int32)) hx hb d_MO_about_76 (by decide) ?_
          obtain rfl := Option.some.inj hf
          exact z_iret hx hb hr hP hD hS d_MO_about_77 hlocks
        · have hf := z_f c6 hf
          refine lv_iconst (v := (1 : Int32)) hx hb d_MO_about_72 (by decide) ?_
          refine lv_goto (tgt := 77) hx hb d_MO_about_73 (by decide) ?_
          obtain rfl := Option.some.inj hf
          exact z_iret hx hb hr hP hD hS d_MO_about_77 hlocks
      · have hf := z_f c4 hf
        by_cases c7 : p3 = 2
        · have hf := z_t c7 hf
          refine lv_tableIn (off := 58) (tgt := 78) hx hb d_MO_about_20 (by rw [c7]; decide) (by rw [c7]; decide) (by rw [c7]; rfl) (by decide) ?_
          refine lv_aload_n hx hb d_MO_about_78 rfl (lv_at hl 1 rfl) ?_
          refine va_get (D := (dC, dI)) (ci := 7) (v := .ref (a 6)) (C := R_MO) (T := F_MO) (N := 24) hx hb hts (fun w h => List.mem_cons_of_mem _ (in_MO w h)) hown hK hP 0 rfl rfl 9 (by decide) (hts _ (List.mem_cons_of_mem _ k_2_170)) (fun _ h9 => h9) rfl d_MO_about_79 ?_
          refine lv_iload hx hb d_MO_about_82 (lv_at hl 0 rfl) ?_
          obtain ⟨g8, hf⟩ := z_gz hf
          refine va_zald hx hb hK hP 6 5 rfl rfl g8 d_MO_about_84 ?_
          refine lv_if_eq (tgt := 92) hx hb d_MO_about_85 (by decide) (fun c9 => ?_) (fun c9 => ?_)
          · have hf := z_t c9 hf
            refine lv_iconst (v := (0 : Int32)) hx hb d_MO_about_92 (by decide) ?_
            obtain rfl := Option.some.inj hf
            exact z_iret hx hb hr hP hD hS d_MO_about_93 hlocks
          · have hf := z_f c9 hf
            refine lv_iconst (v := (1 : Int32)) hx hb d_MO_about_88 (by decide) ?_
            refine lv_goto (tgt := 93) hx hb d_MO_about_89 (by decide) ?_
            obtain rfl := Option.some.inj hf
            exact z_iret hx hb hr hP hD hS d_MO_about_93 hlocks
        · have hf := z_f c7 hf
          by_cases c10 : p3 = 3
          · have hf := z_t c10 hf
            refine lv_tableIn (off := 74) (tgt := 94) hx hb d_MO_about_20 (by rw [c10]; decide) (by rw [c10]; decide) (by rw [c10]; rfl) (by decide) ?_
            refine lv_aload_n hx hb d_MO_about_94 rfl (lv_at hl 1 rfl) ?_
            refine va_get (D := (dC, dI)) (ci := 7) (v := .ref (a 3)) (C := R_MO) (T := F_MO) (N := 24) hx hb hts (fun w h => List.mem_cons_of_mem _ (in_MO w h)) hown hK hP 0 rfl rfl 6 (by decide) (hts _ (List.mem_cons_of_mem _ k_2_167)) (fun _ h9 => h9) rfl d_MO_about_95 ?_
            refine lv_iload hx hb d_MO_about_98 (lv_at hl 0 rfl) ?_
            obtain ⟨g11, hf⟩ := z_gz hf
            refine va_iald hx hb hK hP 3 2 rfl rfl g11 d_MO_about_100 ?_
            obtain rfl := Option.some.inj hf
            exact z_iret hx hb hr hP hD hS d_MO_about_101 hlocks
          · have hf := z_f c10 hf
            refine lv_tableOut (tgt := 102) hx hb d_MO_about_20 (z_sw4 c2 c4 c7 c10) (by decide) ?_
            refine lv_iconst (v := (-1 : Int32)) hx hb d_MO_about_102 (by decide) ?_
            obtain rfl := Option.some.inj hf
            exact z_iret hx hb hr hP hD hS d_MO_about_103 hlocks
  · have hf := z_fn c1 hf
    refine lv_iconst (v := (-1 : Int32)) hx hb d_MO_about_9 (by decide) ?_
    obtain rfl := Option.some.inj hf
    exact z_iret hx hb hr hP hD hS d_MO_about_10 hlocks
set_option maxHeartbeats 4000000 in
set_option maxRecDepth 100000 in
theorem c_MO_list (l : Launch) (dC : Nat → ClassId) (dI : Nat → Nat → Nat) (N : Nat) (a : Nat → Nat) (k : Nat → ClassId) (zpaths : Int32) (zsteps : Int32) (zcached : Int32) (zholds : Int32) (zinside : Nat → Int32) (zowner : Nat → Int32) (zmaker : Nat → Int32) (zcontent : Nat → Int64) (zruns : Nat → Int32) (zisThere : Nat → Int32) (ztarget : Nat → Int32) (zplace : Nat → Int32) (zrun : Nat → Int32) (zstaged : Nat → Int32) (zisOpen : Nat → Int32) (zstagedAt : Nat → Int32) (zstagedContent : Nat → Int64) (zstagedRuns : Nat → Int32) (zstagedLazy : Nat → Int32) (zisDirty : Nat → Int32) (zcache : Nat → Int64) (zhold : Nat → Int64) (zmet : Int32) (zrow : Nat → Int64) (p1 : Int32) (p2 : Int32) (p3 : Int32) {y : (Int32)} (hf : pf_MO_list N zpaths zinside zowner p1 p2 p3 = some y) (sz : Nat) : Met l y_MO_list ww_MO_list ({ frames := 1, cells := 0, slots := 0, locals := 23 }) (va_Pc [.ref (a 0), .int p1, .int p2, .int p3] (zB (dC, dI) zCl (t_MO k) (w_MO a k zpaths zsteps zcached zholds zinside zowner zmaker zcontent zruns zisThere ztarget zplace zrun zstaged zisOpen zstagedAt zstagedContent zstagedRuns zstagedLazy zisDirty zcache zhold zmet zrow) sz)) (zQi (dC, dI) zCl (w_MO a k zpaths zsteps zcached zholds zinside zowner zmaker zcontent zruns zisThere ztarget zplace zrun zstaged zisOpen zstagedAt zstagedContent zstagedRuns zstagedLazy zisDirty zcache zhold zmet zrow) sz y (w_MO a k zpaths zsteps zcached zholds zinside zowner zmaker zcontent zruns zisThere ztarget zplace zrun zstaged zisOpen zstagedAt zstagedContent zstagedRuns zstagedLazy zisDirty zcache zhold zmet zrow)) 0 0 (va_A (w_MO a k zpaths zsteps zcached zholds zinside zowner zmaker zcontent zruns zisThere ztarget zplace zrun zstaged zisOpen zstagedAt zstagedContent zstagedRuns zstagedLazy zisDirty zcache zhold zmet zrow) sz) := by
  refine Met.ofW (cc := b_MO_list) (maxL := 6) (ret := (some .int)) (by decide) rfl ?_
  intro p e s m args below meth c s₁ B hml hv
  obtain ⟨rfl, rfl, hP, hK, hD, hN⟩ := hv
  have hx := B.exec
  have hb := B.bytes
  have hr := B.returns
  have hts := atoms_spec (ws := ww_MO_list) B.pre
  have hown : s.vm.findClass R_MO = some m.cls := findClass_of_methodNamed B.named
  have hlocks := B.notSynchronized
  have hA : ∀ q : Nat, s.heap.size ≤ q → va_A (w_MO a k zpaths zsteps zcached zholds zinside zowner zmaker zcontent zruns zisThere ztarget zplace zrun zstaged zisOpen zstagedAt zstagedContent zstagedRuns zstagedLazy zisDirty zcache zhold zmet zrow) s.heap.size q := fun q h => Or.inr h
  refine z_start (lv := [(0, .ref (a 0)), (1, .int p1), (2, .int p2), (3, .int p3)]) (Nat.le_of_ble_eq_true rfl) rfl hP hD (fun H locs ls hP hD hS hl => ?_)
  unfold pf_MO_list at hf
  refine lv_iload_n hx hb d_MO_list_0 rfl (lv_at hl 1 rfl) ?_
  refine lv_iconst (v := (nI 3)) hx hb d_MO_list_1 (by decide) ?_
  obtain ⟨u0, hu0, hf⟩ := z_b hf
  have hPc := zP_cut (wc := ([] : va_W)) 0 0 hP rfl
  have hDc := zD_cut (wc := ([] : va_W)) 0 0 hD rfl
  have hKc := hK.sub (tys' := ([] : List (ClassId × FieldType))) [] rfl
  refine z_ci (va_runS (As := [.int p1, .int (nI 3)]) (rest := []) ⟨hx, hb, hml, hown, hts⟩ (c_MO_within l dC dI N (fun i => a (0 + i)) (fun i => k (0 + i)) p1 (nI 3) hu0 H.size) (cwS 2 hts (zGS zsub_c k_3_6 k_3_7 k_1_8 kc_MO_within) rfl rfl rfl (by decide +kernel) ⟨Nat.le_of_ble_eq_true rfl, Nat.le_of_ble_eq_true rfl⟩) ⟨z_bl, fun U hU hW => ⟨rfl, z_pre hN hKc hPc hDc U hU hW⟩⟩ rfl rfl hl.1 rfl (lv_room (Nat.le_of_ble_eq_true rfl)) d_MO_list_2 ⟨Nat.zero_le _, Nat.zero_le _⟩) 0 0 (w_MO a k zpaths zsteps zcached zholds zinside zowner zmaker zcontent zruns zisThere ztarget zplace zrun zstaged zisOpen zstagedAt zstagedContent zstagedRuns zstagedLazy zisDirty zcache zhold zmet zrow) hP hD hS hA rfl rfl (fun H locs hP hD hS => ?_)
  refine lv_if_eq (tgt := 25) hx hb d_MO_list_5 (by decide) (fun c1 => ?_) (fun c1 => ?_)
  · have hf := z_t c1 hf
    refine lv_iconst (v := (-1 : Int32)) hx hb d_MO_list_25 (by decide) ?_
    obtain rfl := Option.some.inj hf
    exact z_iret hx hb hr hP hD hS d_MO_list_26 hlocks
  · have hf := z_f c1 hf
    refine lv_iload_n hx hb d_MO_list_8 rfl (lv_at hl 2 rfl) ?_
    refine lv_iconst (v := (-1 : Int32)) hx hb d_MO_list_9 (by decide) ?_
    refine lv_icmp_eq (tgt := 21) hx hb d_MO_list_10 (by decide) (fun c2 => ?_) (fun c2 => ?_)
    · have hf := z_t c2 hf
      refine lv_iload_n hx hb d_MO_list_21 rfl (lv_at hl 3 rfl) ?_
      refine lv_if_ge (tgt := 27) hx hb d_MO_list_22 (by decide) (fun c3 => ?_) (fun c3 => ?_)
      · have hf := z_t c3 hf
        refine lv_iload_n hx hb d_MO_list_27 rfl (lv_at hl 3 rfl) ?_
        refine lv_istore (lv' := [(4, .int p3), (0, .ref (a 0)), (1, .int p1), (2, .int p2), (3, .int p3)]) hx hb d_MO_list_28 hl (by decide) rfl (fun ls hl => ?_)
        refine lv_iconst (v := (0 : Int32)) hx hb d_MO_list_30 (by decide) ?_
        refine lv_istore (lv' := [(5, .int (0 : Int32)), (4, .int p3), (0, .ref (a 0)), (1, .int p1), (2, .int p2), (3, .int p3)]) hx hb d_MO_list_31 hl (by decide) rfl (fun ls hl => ?_)
        have loop33 : ∀ (n : Nat) (x4 : Int32) (x5 : Int32), pf_MO_list_L33 N zpaths zinside zowner p1 p2 n x4 x5 = some y → ∀ (H : Heap) (locs : List Loc) (ls : Array Slot), va_P (dC, dI) zCl (w_MO a k zpaths zsteps zcached zholds zinside zowner zmaker zcontent zruns zisThere ztarget zplace zrun zstaged zisOpen zstagedAt zstagedContent zstagedRuns zstagedLazy zisDirty zcache zhold zmet zrow) H → va_D (va_A (w_MO a k zpaths zsteps zcached zholds zinside zowner zmaker zcontent zruns zisThere ztarget zplace zrun zstaged zisOpen zstagedAt zstagedContent zstagedRuns zstagedLazy zisDirty zcache zhold zmet zrow) s.heap.size) (w_MO a k zpaths zsteps zcached zholds zinside zowner zmaker zcontent zruns zisThere ztarget zplace zrun zstaged zisOpen zstagedAt zstagedContent zstagedRuns zstagedLazy zisDirty zcache zhold zmet zrow) → va_S (va_A (w_MO a k zpaths zsteps zcached zholds zinside zowner zmaker zcontent zruns zisThere ztarget zplace zrun zstaged zisOpen zstagedAt zstagedContent zstagedRuns zstagedLazy zisDirty zcache zhold zmet zrow) s.heap.size) s.heap H locs → lv_has ls 6 [(0, .ref (a 0)), (1, .int p1), (2, .int p2), (3, .int p3), (4, .int x4), (5, .int x5)] → W p l e (headSpec ww_MO_list ({ frames := 1, cells := 0, slots := 0, locals := 23 })).room s m ([.ref (a 0), .int p1, .int p2, .int p3] : List Value).toArray below meth c H locs 0 0 (MQ below (zQi (dC, dI) zCl (w_MO a k zpaths zsteps zcached zholds zinside zowner zmaker zcontent zruns zisThere ztarget zplace zrun zstaged zisOpen zstagedAt zstagedContent zstagedRuns zstagedLazy zisDirty zcache zhold zmet zrow) s.heap.size y (w_MO a k zpaths zsteps zcached zholds zinside zowner zmaker zcontent zruns zisThere ztarget zplace zrun zstaged zisOpen zstagedAt zstagedContent zstagedRuns zstagedLazy zisDirty zcache zhold zmet zrow)) ([.ref (a 0), .int p1, .int p2, .int p3] : List Value).toArray s 0 0 (va_A (w_MO a k zpaths zsteps zcached zholds zinside zowner zmaker zcontent zruns zisThere ztarget zplace zrun zstaged zisOpen zstagedAt zstagedContent zstagedRuns zstagedLazy zisDirty zcache zhold zmet zrow) s.heap.size)) (F0 m 33 ls []) := by
          intro n33
          induction n33 with
          | zero => intro x4 x5 hf; rw [pf_MO_list_L33.eq_1] at hf; cases hf
          | succ n33 ih33 =>
            intro x4 x5 hf H locs ls hP hD hS hl
            rw [pf_MO_list_L33.eq_2] at hf
            refine lv_iload hx hb d_MO_list_33 (lv_at hl 5 rfl) ?_
            refine lv_aload_n hx hb d_MO_list_35 rfl (lv_at hl 0 rfl) ?_
            refine va_get (D := (dC, dI)) (ci := 7) (v := .int zpaths) (C := R_MO) (T := F_MO) (N := 24) hx hb hts (fun w h => List.mem_cons_of_mem _ (in_MO w h)) hown hK hP 0 rfl rfl 0 (by decide) (hts _ (List.mem_cons_of_mem _ k_2_161)) (fun _ h9 => h9) rfl d_MO_list_36 ?_
            refine lv_icmp_ge (tgt := 98) hx hb d_MO_list_39 (by decide) (fun c4 => ?_) (fun c4 => ?_)
            · have hf := z_t c4 hf
              refine lv_iconst (v := (-1 : Int32)) hx hb d_MO_list_98 (by decide) ?_
              obtain rfl := Option.some.inj hf
              exact z_iret hx hb hr hP hD hS d_MO_list_99 hlocks
            · have hf := z_f c4 hf
              refine lv_aload_n hx hb d_MO_list_42 rfl (lv_at hl 0 rfl) ?_
              refine va_get (D := (dC, dI)) (ci := 7) (v := .ref (a 2)) (C := R_MO) (T := F_MO) (N := 24) hx hb hts (fun w h => List.mem_cons_of_mem _ (in_MO w h)) hown hK hP 0 rfl rfl 5 (by decide) (hts _ (List.mem_cons_of_mem _ k_2_166)) (fun _ h9 => h9) rfl d_MO_list_43 ?_
              refine lv_bipush (v := (nI 40)) hx hb d_MO_list_46 (by decide) ?_
              refine lv_iload_n hx hb d_MO_list_48 rfl (lv_at hl 1 rfl) ?_
              refine lv_imul hx hb d_MO_list_49 ?_
              refine lv_iload hx hb d_MO_list_50 (lv_at hl 5 rfl) ?_
              refine lv_iadd hx hb d_MO_list_52 ?_
              obtain ⟨g5, hf⟩ := z_gz hf
              refine va_iald hx hb hK hP 2 1 rfl rfl g5 d_MO_list_53 ?_
              refine lv_if_eq (tgt := 92) hx hb d_MO_list_54 (by decide) (fun c6 => ?_) (fun c6 => ?_)
              · have hf := z_t c6 hf
                refine lv_iinc (v := (x5 + (1 : Int32))) (lv' := [(5, .int (x5 + (1 : Int32))), (0, .ref (a 0)), (1, .int p1), (2, .int p2), (3, .int p3), (4, .int x4)]) hx hb d_MO_list_92 hl (k := 5) rfl rfl (by decide) rfl (fun ls hl => ?_)
                refine lv_goto (tgt := 33) hx hb d_MO_list_95 (by decide) ?_
                exact ih33 x4 (x5 + (1 : Int32)) hf H locs ls hP hD hS (lv_sub hl [1, 2, 3, 4, 5, 0] rfl)
              · have hf := z_f c6 hf
                refine lv_iload_n hx hb d_MO_list_57 rfl (lv_at hl 2 rfl) ?_
                refine lv_iconst (v := (-1 : Int32)) hx hb d_MO_list_58 (by decide) ?_
                refine lv_icmp_eq (tgt := 81) hx hb d_MO_list_59 (by decide) (fun c7 => ?_) (fun c7 => ?_)
                · have hf := z_t c7 hf
                  refine lv_iload hx hb d_MO_list_81 (lv_at hl 4 rfl) ?_
                  refine lv_if_ne (tgt := 89) hx hb d_MO_list_83 (by decide) (fun c8 => ?_) (fun c8 => ?_)
                  · have hf := z_t c8 hf
                    refine lv_iinc (v := (x4 + (-1 : Int32))) (lv' := [(4, .int (x4 + (-1 : Int32))), (0, .ref (a 0)), (1, .int p1), (2, .int p2), (3, .int p3), (5, .int x5)]) hx hb d_MO_list_89 hl (k := 4) rfl rfl (by decide) rfl (fun ls hl => ?_)
                    refine lv_iinc (v := (x5 + (1 : Int32))) (lv' := [(5, .int (x5 + (1 : Int32))), (4, .int (x4 + (-1 : Int32))), (0, .ref (a 0)), (1, .int p1), (2, .int p2), (3, .int p3)]) hx hb d_MO_list_92 hl (k := 5) rfl rfl (by decide) rfl (fun ls hl => ?_)
                    refine lv_goto (tgt := 33) hx hb d_MO_list_95 (by decide) ?_
                    exact ih33 (x4 + (-1 : Int32)) (x5 + (1 : Int32)) hf H locs ls hP hD hS (lv_sub hl [2, 3, 4, 5, 1, 0] rfl)
                  · have hf := z_fn c8 hf
                    refine lv_iload hx hb d_MO_list_86 (lv_at hl 5 rfl) ?_
                    obtain rfl := Option.some.inj hf
                    exact z_iret hx hb hr hP hD hS d_MO_list_88 hlocks
                · have hf := z_f c7 hf
                  refine lv_iload hx hb d_MO_list_62 (lv_at hl 5 rfl) ?_
                  refine lv_iload_n hx hb d_MO_list_64 rfl (lv_at hl 2 rfl) ?_
                  refine lv_icmp_eq (tgt := 81) hx hb d_MO_list_65 (by decide) (fun c9 => ?_) (fun c9 => ?_)
                  · have hf := z_t c9 hf
                    refine lv_iload hx hb d_MO_list_81 (lv_at hl 4 rfl) ?_
                    refine lv_if_ne (tgt := 89) hx hb d_MO_list_83 (by decide) (fun c10 => ?_) (fun c10 => ?_)
                    · have hf := z_t c10 hf
                      refine lv_iinc (v := (x4 + (-1 : Int32))) (lv' := [(4, .int (x4 + (-1 : Int32))), (0, .ref (a 0)), (1, .int p1), (2, .int p2), (3, .int p3), (5, .int x5)]) hx hb d_MO_list_89 hl (k := 4) rfl rfl (by decide) rfl (fun ls hl => ?_)
                      refine lv_iinc (v := (x5 + (1 : Int32))) (lv' := [(5, .int (x5 + (1 : Int32))), (4, .int (x4 + (-1 : Int32))), (0, .ref (a 0)), (1, .int p1), (2, .int p2), (3, .int p3)]) hx hb d_MO_list_92 hl (k := 5) rfl rfl (by decide) rfl (fun ls hl => ?_)
                      refine lv_goto (tgt := 33) hx hb d_MO_list_95 (by decide) ?_
                      exact ih33 (x4 + (-1 : Int32)) (x5 + (1 : Int32)) hf H locs ls hP hD hS (lv_sub hl [2, 3, 4, 5, 1, 0] rfl)
                    · have hf := z_fn c10 hf
                      refine lv_iload hx hb d_MO_list_86 (lv_at hl 5 rfl) ?_
                      obtain rfl := Option.some.inj hf
                      exact z_iret hx hb hr hP hD hS d_MO_list_88 hlocks
                  · have hf := z_f c9 hf
                    refine lv_aload_n hx hb d_MO_list_68 rfl (lv_at hl 0 rfl) ?_
                    refine lv_iload hx hb d_MO_list_69 (lv_at hl 5 rfl) ?_
                    refine lv_iload_n hx hb d_MO_list_71 rfl (lv_at hl 2 rfl) ?_
                    obtain ⟨u1, hu1, hf⟩ := z_b hf
                    have hPc := hP
                    have hDc := hD
                    have hKc := hK
                    refine z_cwi (va_runV (As := [.int x5, .int p2]) (rest := []) ⟨hx, hb, hml, hown, hts⟩ (c_MO_isWithin l dC dI N a k zpaths zsteps zcached zholds zinside zowner zmaker zcontent zruns zisThere ztarget zplace zrun zstaged zisOpen zstagedAt zstagedContent zstagedRuns zstagedLazy zisDirty zcache zhold zmet zrow x5 p2 hu1 H.size) (cwV 2 hts (zGV zsub_c k_3_29 k_3_31 s_MO_isWithin k_1_8 kc_MO_isWithin) rfl rfl rfl (by decide +kernel) ⟨Nat.le_of_ble_eq_true rfl, Nat.le_of_ble_eq_true rfl⟩) ⟨z_bl, va_recv hKc hPc (ci := 7) (q0 := 0) rfl rfl, fun U hU hW => ⟨rfl, z_pre hN hKc hPc hDc U hU hW⟩⟩ rfl rfl hl.1 rfl (lv_room (Nat.le_of_ble_eq_true rfl)) d_MO_list_72 ⟨Nat.zero_le _, Nat.zero_le _⟩) hD hS hA (fun H locs hP hD hS => ?_)
                    refine lv_if_ne (tgt := 81) hx hb d_MO_list_75 (by decide) (fun c11 => ?_) (fun c11 => ?_)
                    · have hf := z_t c11 hf
                      refine lv_iload hx hb d_MO_list_81 (lv_at hl 4 rfl) ?_
                      refine lv_if_ne (tgt := 89) hx hb d_MO_list_83 (by decide) (fun c12 => ?_) (fun c12 => ?_)
                      · have hf := z_t c12 hf
                        refine lv_iinc (v := (x4 + (-1 : Int32))) (lv' := [(4, .int (x4 + (-1 : Int32))), (0, .ref (a 0)), (1, .int p1), (2, .int p2), (3, .int p3), (5, .int x5)]) hx hb d_MO_list_89 hl (k := 4) rfl rfl (by decide) rfl (fun ls hl => ?_)
                        refine lv_iinc (v := (x5 + (1 : Int32))) (lv' := [(5, .int (x5 + (1 : Int32))), (4, .int (x4 + (-1 : Int32))), (0, .ref (a 0)), (1, .int p1), (2, .int p2), (3, .int p3)]) hx hb d_MO_list_92 hl (k := 5) rfl rfl (by decide) rfl (fun ls hl => ?_)
                        refine lv_goto (tgt := 33) hx hb d_MO_list_95 (by decide) ?_
                        exact ih33 (x4 + (-1 : Int32)) (x5 + (1 : Int32)) hf H locs ls hP hD hS (lv_sub hl [2, 3, 4, 5, 1, 0] rfl)
                      · have hf := z_fn c12 hf
                        refine lv_iload hx hb d_MO_list_86 (lv_at hl 5 rfl) ?_
                        obtain rfl := Option.some.inj hf
                        exact z_iret hx hb hr hP hD hS d_MO_list_88 hlocks
                    · have hf := z_fn c11 hf
                      refine lv_goto (tgt := 92) hx hb d_MO_list_78 (by decide) ?_
                      refine lv_iinc (v := (x5 + (1 : Int32))) (lv' := [(5, .int (x5 + (1 : Int32))), (0, .ref (a 0)), (1, .int p1), (2, .int p2), (3, .int p3), (4, .int x4)]) hx hb d_MO_list_92 hl (k := 5) rfl rfl (by decide) rfl (fun ls hl => ?_)
                      refine lv_goto (tgt := 33) hx hb d_MO_list_95 (by decide) ?_
                      exact ih33 x4 (x5 + (1 : Int32)) hf H locs ls hP hD hS (lv_sub hl [1, 2, 3, 4, 5, 0] rfl)
        exact loop33 N p3 (0 : Int32) hf H locs ls hP hD hS (lv_sub hl [2, 3, 4, 5, 1, 0] rfl)
      · have hf := z_f c3 hf
        refine lv_iconst (v := (-1 : Int32)) hx hb d_MO_list_25 (by decide) ?_
        obtain rfl := Option.some.inj hf
        exact z_iret hx hb hr hP hD hS d_MO_list_26 hlocks
    · have hf := z_f c2 hf
      refine lv_aload_n hx hb d_MO_list_13 rfl (lv_at hl 0 rfl) ?_
      refine lv_iload_n hx hb d_MO_list_14 rfl (lv_at hl 2 rfl) ?_
      obtain ⟨u2, hu2, hf⟩ := z_b hf
      have hPc := hP
      have hDc := hD
      have hKc := hK
      refine z_cwi (va_runV (As := [.int p2]) (rest := []) ⟨hx, hb, hml, hown, hts⟩ (c_MO_isPath l dC dI N a k zpaths zsteps zcached zholds zinside zowner zmaker zcontent zruns zisThere ztarget zplace zrun zstaged zisOpen zstagedAt zstagedContent zstagedRuns zstagedLazy zisDirty zcache zhold zmet zrow p2 hu2 H.size) (cwV 1 hts (zGV zsub_c k_2_238 k_3_0 s_MO_isPath k_1_8 kc_MO_isPath) rfl rfl rfl (by decide +kernel) ⟨Nat.le_of_ble_eq_true rfl, Nat.le_of_ble_eq_true rfl⟩) ⟨z_bl, va_recv hKc hPc (ci := 7) (q0 := 0) rfl rfl, fun U hU hW => ⟨rfl, z_pre hN hKc hPc hDc U hU hW⟩⟩ rfl rfl hl.1 rfl (lv_room (Nat.le_of_ble_eq_true rfl)) d_MO_list_15 ⟨Nat.zero_le _, Nat.zero_le _⟩) hD hS hA (fun H locs hP hD hS => ?_)
      refine lv_if_eq (tgt := 25) hx hb d_MO_list_18 (by decide) (fun c13 => ?_) (fun c13 => ?_)
      · have hf := z_t c13 hf
        refine lv_iconst (v := (-1 : Int32)) hx hb d_MO_list_25 (by decide) ?_
        obtain rfl := Option.some.inj hf
        exact z_iret hx hb hr hP hD hS d_MO_list_26 hlocks
      · have hf := z_f c13 hf
        refine lv_iload_n hx hb d_MO_list_21 rfl (lv_at hl 3 rfl) ?_
        refine lv_if_ge (tgt := 27) hx hb d_MO_list_22 (by decide) (fun c14 => ?_) (fun c14 => ?_)
        · have hf := z_t c14 hf
          refine lv_iload_n hx hb d_MO_list_27 rfl (lv_at hl 3 rfl) ?_
          refine lv_istore (lv' := [(4, .int p3), (0, .ref (a 0)), (1, .int p1), (2, .int p2), (3, .int p3)]) hx hb d_MO_list_28 hl (by decide) rfl (fun ls hl => ?_)
          refine lv_iconst (v := (0 : Int32)) hx hb d_MO_list_30 (by decide) ?_
          refine lv_istore (lv' := [(5, .int (0 : Int32)), (4, .int p3), (0, .ref (a 0)), (1, .int p1), (2, .int p2), (3, .int p3)]) hx hb d_MO_list_31 hl (by decide) rfl (fun ls hl => ?_)
          have loop33 : ∀ (n : Nat) (x4 : Int32) (x5 : Int32), pf_MO_list_L33 N zpaths zinside zowner p1 p2 n x4 x5 = some y → ∀ (H : Heap) (locs : List Loc) (ls : Array Slot), va_P (dC, dI) zCl (w_MO a k zpaths zsteps zcached zholds zinside zowner zmaker zcontent zruns zisThere ztarget zplace zrun zstaged zisOpen zstagedAt zstagedContent zstagedRuns zstagedLazy zisDirty zcache zhold zmet zrow) H → va_D (va_A (w_MO a k zpaths zsteps zcached zholds zinside zowner zmaker zcontent zruns zisThere ztarget zplace zrun zstaged zisOpen zstagedAt zstagedContent zstagedRuns zstagedLazy zisDirty zcache zhold zmet zrow) s.heap.size) (w_MO a k zpaths zsteps zcached zholds zinside zowner zmaker zcontent zruns zisThere ztarget zplace zrun zstaged zisOpen zstagedAt zstagedContent zstagedRuns zstagedLazy zisDirty zcache zhold zmet zrow) → va_S (va_A (w_MO a k zpaths zsteps zcached zholds zinside zowner zmaker zcontent zruns zisThere ztarget zplace zrun zstaged zisOpen zstagedAt zstagedContent zstagedRuns zstagedLazy zisDirty zcache zhold zmet zrow) s.heap.size) s.heap H locs → lv_has ls 6 [(0, .ref (a 0)), (1, .int p1), (2, .int p2), (3, .int p3), (4, .int x4), (5, .int x5)] → W p l e (headSpec ww_MO_list ({ frames := 1, cells := 0, slots := 0, locals := 23 })).room s m ([.ref (a 0), .int p1, .int p2, .int p3] : List Value).toArray below meth c H locs 0 0 (MQ below (zQi (dC, dI) zCl (w_MO a k zpaths zsteps zcached zholds zinside zowner zmaker zcontent zruns zisThere ztarget zplace zrun zstaged zisOpen zstagedAt zstagedContent zstagedRuns zstagedLazy zisDirty zcache zhold zmet zrow) s.heap.size y (w_MO a k zpaths zsteps zcached zholds zinside zowner zmaker zcontent zruns zisThere ztarget zplace zrun zstaged zisOpen zstagedAt zstagedContent zstagedRuns zstagedLazy zisDirty zcache zhold zmet zrow)) ([.ref (a 0), .int p1, .int p2, .int p3] : List Value).toArray s 0 0 (va_A (w_MO a k zpaths zsteps zcached zholds zinside zowner zmaker zcontent zruns zisThere ztarget zplace zrun zstaged zisOpen zstagedAt zstagedContent zstagedRuns zstagedLazy zisDirty zcache zhold zmet zrow) s.heap.size)) (F0 m 33 ls []) := by
            intro n33
            induction n33 with
            | zero => intro x4 x5 hf; rw [pf_MO_list_L33.eq_1] at hf; cases hf
            | succ n33 ih33 =>
              intro x4 x5 hf H locs ls hP hD hS hl
              rw [pf_MO_list_L33.eq_2] at hf
              refine lv_iload hx hb d_MO_list_33 (lv_at hl 5 rfl) ?_
              refine lv_aload_n hx hb d_MO_list_35 rfl (lv_at hl 0 rfl) ?_
              refine va_get (D := (dC, dI)) (ci := 7) (v := .int zpaths) (C := R_MO) (T := F_MO) (N := 24) hx hb hts (fun w h => List.mem_cons_of_mem _ (in_MO w h)) hown hK hP 0 rfl rfl 0 (by decide) (hts _ (List.mem_cons_of_mem _ k_2_161)) (fun _ h9 => h9) rfl d_MO_list_36 ?_
              refine lv_icmp_ge (tgt := 98) hx hb d_MO_list_39 (by decide) (fun c15 => ?_) (fun c15 => ?_)
              · have hf := z_t c15 hf
                refine lv_iconst (v := (-1 : Int32)) hx hb d_MO_list_98 (by decide) ?_
                obtain rfl := Option.some.inj hf
                exact z_iret hx hb hr hP hD hS d_MO_list_99 hlocks
              · have hf := z_f c15 hf
                refine lv_aload_n hx hb d_MO_list_42 rfl (lv_at hl 0 rfl) ?_
                refine va_get (D := (dC, dI)) (ci := 7) (v := .ref (a 2)) (C := R_MO) (T := F_MO) (N := 24) hx hb hts (fun w h => List.mem_cons_of_mem _ (in_MO w h)) hown hK hP 0 rfl rfl 5 (by decide) (hts _ (List.mem_cons_of_mem _ k_2_166)) (fun _ h9 => h9) rfl d_MO_list_43 ?_
                refine lv_bipush (v := (nI 40)) hx hb d_MO_list_46 (by decide) ?_
                refine lv_iload_n hx hb d_MO_list_48 rfl (lv_at hl 1 rfl) ?_
                refine lv_imul hx hb d_MO_list_49 ?_
                refine lv_iload hx hb d_MO_list_50 (lv_at hl 5 rfl) ?_
                refine lv_iadd hx hb d_MO_list_52 ?_
                obtain ⟨g16, hf⟩ := z_gz hf
                refine va_iald hx hb hK hP 2 1 rfl rfl g16 d_MO_list_53 ?_
                refine lv_if_eq (tgt := 92) hx hb d_MO_list_54 (by decide) (fun c17 => ?_) (fun c17 => ?_)
                · have hf := z_t c17 hf
                  refine lv_iinc (v := (x5 + (1 : Int32))) (lv' := [(5, .int (x5 + (1 : Int32))), (0, .ref (a 0)), (1, .int p1), (2, .int p2), (3, .int p3), (4, .int x4)]) hx hb d_MO_list_92 hl (k := 5) rfl rfl (by decide) rfl (fun ls hl => ?_)
                  refine lv_goto (tgt := 33) hx hb d_MO_list_95 (by decide) ?_
                  exact ih33 x4 (x5 + (1 : Int32)) hf H locs ls hP hD hS (lv_sub hl [1, 2, 3, 4, 5, 0] rfl)
                · have hf := z_f c17 hf
                  refine lv_iload_n hx hb d_MO_list_57 rfl (lv_at hl 2 rfl) ?_
                  refine lv_iconst (v := (-1 : Int32)) hx hb d_MO_list_58 (by decide) ?_
                  refine lv_icmp_eq (tgt := 81) hx hb d_MO_list_59 (by decide) (fun c18 => ?_) (fun c18 => ?_)
                  · have hf := z_t c18 hf
                    refine lv_iload hx hb d_MO_list_81 (lv_at hl 4 rfl) ?_
                    refine lv_if_ne (tgt := 89) hx hb d_MO_list_83 (by decide) (fun c19 => ?_) (fun c19 => ?_)
                    · have hf := z_t c19 hf
                      refine lv_iinc (v := (x4 + (-1 : Int32))) (lv' := [(4, .int (x4 + (-1 : Int32))), (0, .ref (a 0)), (1, .int p1), (2, .int p2), (3, .int p3), (5, .int x5)]) hx hb d_MO_list_89 hl (k := 4) rfl rfl (by decide) rfl (fun ls hl => ?_)
                      refine lv_iinc (v := (x5 + (1 : Int32))) (lv' := [(5, .int (x5 + (1 : Int32))), (4, .int (x4 + (-1 : Int32))), (0, .ref (a 0)), (1, .int p1), (2, .int p2), (3, .int p3)]) hx hb d_MO_list_92 hl (k := 5) rfl rfl (by decide) rfl (fun ls hl => ?_)
                      refine lv_goto (tgt := 33) hx hb d_MO_list_95 (by decide) ?_
                      exact ih33 (x4 + (-1 : Int32)) (x5 + (1 : Int32)) hf H locs ls hP hD hS (lv_sub hl [2, 3, 4, 5, 1, 0] rfl)
                    · have hf := z_fn c19 hf
                      refine lv_iload hx hb d_MO_list_86 (lv_at hl 5 rfl) ?_
                      obtain rfl := Option.some.inj hf
                      exact z_iret hx hb hr hP hD hS d_MO_list_88 hlocks
                  · have hf := z_f c18 hf
                    refine lv_iload hx hb d_MO_list_62 (lv_at hl 5 rfl) ?_
                    refine lv_iload_n hx hb d_MO_list_64 rfl (lv_at hl 2 rfl) ?_
                    refine lv_icmp_eq (tgt := 81) hx hb d_MO_list_65 (by decide) (fun c20 => ?_) (fun c20 => ?_)
                    · have hf := z_t c20 hf
                      refine lv_iload hx hb d_MO_list_81 (lv_at hl 4 rfl) ?_
                      refine lv_if_ne (tgt := 89) hx hb d_MO_list_83 (by decide) (fun c21 => ?_) (fun c21 => ?_)
                      · have hf := z_t c21 hf
                        refine lv_iinc (v := (x4 + (-1 : Int32))) (lv' := [(4, .int (x4 + (-1 : Int32))), (0, .ref (a 0)), (1, .int p1), (2, .int p2), (3, .int p3), (5, .int x5)]) hx hb d_MO_list_89 hl (k := 4) rfl rfl (by decide) rfl (fun ls hl => ?_)
                        refine lv_iinc (v := (x5 + (1 : Int32))) (lv' := [(5, .int (x5 + (1 : Int32))), (4, .int (x4 + (-1 : Int32))), (0, .ref (a 0)), (1, .int p1), (2, .int p2), (3, .int p3)]) hx hb d_MO_list_92 hl (k := 5) rfl rfl (by decide) rfl (fun ls hl => ?_)
                        refine lv_goto (tgt := 33) hx hb d_MO_list_95 (by decide) ?_
                        exact ih33 (x4 + (-1 : Int32)) (x5 + (1 : Int32)) hf H locs ls hP hD hS (lv_sub hl [2, 3, 4, 5, 1, 0] rfl)
                      · have hf := z_fn c21 hf
                        refine lv_iload hx hb d_MO_list_86 (lv_at hl 5 rfl) ?_
                        obtain rfl := Option.some.inj hf
                        exact z_iret hx hb hr hP hD hS d_MO_list_88 hlocks
                    · have hf := z_f c20 hf
                      refine lv_aload_n hx hb d_MO_list_68 rfl (lv_at hl 0 rfl) ?_
                      refine lv_iload hx hb d_MO_list_69 (lv_at hl 5 rfl) ?_
                      refine lv_iload_n hx hb d_MO_list_71 rfl (lv_at hl 2 rfl) ?_
                      obtain ⟨u3, hu3, hf⟩ := z_b hf
                      have hPc := hP
                      have hDc := hD
                      have hKc := hK
                      refine z_cwi (va_runV (As := [.int x5, .int p2]) (rest := []) ⟨hx, hb, hml, hown, hts⟩ (c_MO_isWithin l dC dI N a k zpaths zsteps zcached zholds zinside zowner zmaker zcontent zruns zisThere ztarget zplace zrun zstaged zisOpen zstagedAt zstagedContent zstagedRuns zstagedLazy zisDirty zcache zhold zmet zrow x5 p2 hu3 H.size) (cwV 2 hts (zGV zsub_c k_3_29 k_3_31 s_MO_isWithin k_1_8 kc_MO_isWithin) rfl rfl rfl (by decide +kernel) ⟨Nat.le_of_ble_eq_true rfl, Nat.le_of_ble_eq_true rfl⟩) ⟨z_bl, va_recv hKc hPc (ci := 7) (q0 := 0) rfl rfl, fun U hU hW => ⟨rfl, z_pre hN hKc hPc hDc U hU hW⟩⟩ rfl rfl hl.1 rfl (lv_room (Nat.le_of_ble_eq_true rfl)) d_MO_list_72 ⟨Nat.zero_le _, Nat.zero_le _⟩) hD hS hA (fun H locs hP hD hS => ?_)
                      refine lv_if_ne (tgt := 81) hx hb d_MO_list_75 (by decide) (fun c22 => ?_) (fun c22 => ?_)
                      · have hf := z_t c22 hf
                        refine lv_iload hx hb d_MO_list_81 (lv_at hl 4 rfl) ?_
                        refine lv_if_ne (tgt := 89) hx hb d_MO_list_83 (by decide) (fun c23 => ?_) (fun c23 => ?_)
                        · have hf := z_t c23 hf
                          refine lv_iinc (v := (x4 + (-1 : Int32))) (lv' := [(4, .int (x4 + (-1 : Int32))), (0, .ref (a 0)), (1, .int p1), (2, .int p2), (3, .int p3), (5, .int x5)]) hx hb d_MO_list_89 hl (k := 4) rfl rfl (by decide) rfl (fun ls hl => ?_)
                          refine lv_iinc (v := (x5 + (1 : Int32))) (lv' := [(5, .int (x5 + (1 : Int32))), (4, .int (x4 + (-1 : Int32))), (0, .ref (a 0)), (1, .int p1), (2, .int p2), (3, .int p3)]) hx hb d_MO_list_92 hl (k := 5) rfl rfl (by decide) rfl (fun ls hl => ?_)
                          refine lv_goto (tgt := 33) hx hb d_MO_list_95 (by decide) ?_
                          exact ih33 (x4 + (-1 : Int32)) (x5 + (1 : Int32)) hf H locs ls hP hD hS (lv_sub hl [2, 3, 4, 5, 1, 0] rfl)
                        · have hf := z_fn c23 hf
                          refine lv_iload hx hb d_MO_list_86 (lv_at hl 5 rfl) ?_
                          obtain rfl := Option.some.inj hf
                          exact z_iret hx hb hr hP hD hS d_MO_list_88 hlocks
                      · have hf := z_fn c22 hf
                        refine lv_goto (tgt := 92) hx hb d_MO_list_78 (by decide) ?_
                        refine lv_iinc (v := (x5 + (1 : Int32))) (lv' := [(5, .int (x5 + (1 : Int32))), (0, .ref (a 0)), (1, .int p1), (2, .int p2), (3, .int p3), (4, .int x4)]) hx hb d_MO_list_92 hl (k := 5) rfl rfl (by decide) rfl (fun ls hl => ?_)
                        refine lv_goto (tgt := 33) hx hb d_MO_list_95 (by decide) ?_
                        exact ih33 x4 (x5 + (1 : Int32)) hf H locs ls hP hD hS (lv_sub hl [1, 2, 3, 4, 5, 0] rfl)
          exact loop33 N p3 (0 : Int32) hf H locs ls hP hD hS (lv_sub hl [2, 3, 4, 5, 1, 0] rfl)
        · have hf := z_f c14 hf
          refine lv_iconst (v := (-1 : Int32)) hx hb d_MO_list_25 (by decide) ?_
          obtain rfl := Option.some.inj hf
          exact z_iret hx hb hr hP hD hS d_MO_list_26 hlocks
set_option maxHeartbeats 4000000 in
set_option maxRecDepth 100000 in
theorem c_MO_dirty (l : Launch) (dC : Nat → ClassId) (dI : Nat → Nat → Nat) (N : Nat) (a : Nat → Nat) (k : Nat → ClassId) (zpaths : Int32) (zsteps : Int32) (zcached : Int32) (zholds : Int32) (zinside : Nat → Int32) (zowner : Nat → Int32) (zmaker : Nat → Int32) (zcontent : Nat → Int64) (zruns : Nat → Int32) (zisThere : Nat → Int32) (ztarget : Nat → Int32) (zplace : Nat → Int32) (zrun : Nat → Int32) (zstaged : Nat → Int32) (zisOpen : Nat → Int32) (zstagedAt : Nat → Int32) (zstagedContent : Nat → Int64) (zstagedRuns : Nat → Int32) (zstagedLazy : Nat → Int32) (zisDirty : Nat → Int32) (zcache : Nat → Int64) (zhold : Nat → Int64) (zmet : Int32) (zrow : Nat → Int64) (p1 : Int32) (p2 : Int32) {y : (Int32)} (hf : pf_MO_dirty N zisDirty p1 p2 = some y) (sz : Nat) : Met l y_MO_dirty ww_MO_dirty ({ frames := 1, cells := 0, slots := 0, locals := 21 }) (va_Pc [.ref (a 0), .int p1, .int p2] (zB (dC, dI) zCl (t_MO k) (w_MO a k zpaths zsteps zcached zholds zinside zowner zmaker zcontent zruns zisThere ztarget zplace zrun zstaged zisOpen zstagedAt zstagedContent zstagedRuns zstagedLazy zisDirty zcache zhold zmet zrow) sz)) (zQi (dC, dI) zCl (w_MO a k zpaths zsteps zcached zholds zinside zowner zmaker zcontent zruns zisThere ztarget zplace zrun zstaged zisOpen zstagedAt zstagedContent zstagedRuns zstagedLazy zisDirty zcache zhold zmet zrow) sz y (w_MO a k zpaths zsteps zcached zholds zinside zowner zmaker zcontent zruns zisThere ztarget zplace zrun zstaged zisOpen zstagedAt zstagedContent zstagedRuns zstagedLazy zisDirty zcache zhold zmet zrow)) 0 0 (va_A (w_MO a k zpaths zsteps zcached zholds zinside zowner zmaker zcontent zruns zisThere ztarget zplace zrun zstaged zisOpen zstagedAt zstagedContent zstagedRuns zstagedLazy zisDirty zcache zhold zmet zrow) sz) := by
  refine Met.ofW (cc := b_MO_dirty) (maxL := 3) (ret := (some .boolean)) (by decide) rfl ?_
  intro p e s m args below meth c s₁ B hml hv
  obtain ⟨rfl, rfl, hP, hK, hD, hN⟩ := hv
  have hx := B.exec
  have hb := B.bytes
  have hr := B.returns
  have hts := atoms_spec (ws := ww_MO_dirty) B.pre
  have hown : s.vm.findClass R_MO = some m.cls := findClass_of_methodNamed B.named
  have hlocks := B.notSynchronized
  have hA : ∀ q : Nat, s.heap.size ≤ q → va_A (w_MO a k zpaths zsteps zcached zholds zinside zowner zmaker zcontent zruns zisThere ztarget zplace zrun zstaged zisOpen zstagedAt zstagedContent zstagedRuns zstagedLazy zisDirty zcache zhold zmet zrow) s.heap.size q := fun q h => Or.inr h
  refine z_start (lv := [(0, .ref (a 0)), (1, .int p1), (2, .int p2)]) (Nat.le_of_ble_eq_true rfl) rfl hP hD (fun H locs ls hP hD hS hl => ?_)
  unfold pf_MO_dirty at hf
  refine lv_iload_n hx hb d_MO_dirty_0 rfl (lv_at hl 1 rfl) ?_
  refine lv_bipush (v := (nI 11)) hx hb d_MO_dirty_1 (by decide) ?_
  obtain ⟨u0, hu0, hf⟩ := z_b hf
  have hPc := zP_cut (wc := ([] : va_W)) 0 0 hP rfl
  have hDc := zD_cut (wc := ([] : va_W)) 0 0 hD rfl
  have hKc := hK.sub (tys' := ([] : List (ClassId × FieldType))) [] rfl
  refine z_ci (va_runS (As := [.int p1, .int (nI 11)]) (rest := []) ⟨hx, hb, hml, hown, hts⟩ (c_MO_within l dC dI N (fun i => a (0 + i)) (fun i => k (0 + i)) p1 (nI 11) hu0 H.size) (cwS 2 hts (zGS zsub_c k_3_6 k_3_7 k_1_8 kc_MO_within) rfl rfl rfl (by decide +kernel) ⟨Nat.le_of_ble_eq_true rfl, Nat.le_of_ble_eq_true rfl⟩) ⟨z_bl, fun U hU hW => ⟨rfl, z_pre hN hKc hPc hDc U hU hW⟩⟩ rfl rfl hl.1 rfl (lv_room (Nat.le_of_ble_eq_true rfl)) d_MO_dirty_3 ⟨Nat.zero_le _, Nat.zero_le _⟩) 0 0 (w_MO a k zpaths zsteps zcached zholds zinside zowner zmaker zcontent zruns zisThere ztarget zplace zrun zstaged zisOpen zstagedAt zstagedContent zstagedRuns zstagedLazy zisDirty zcache zhold zmet zrow) hP hD hS hA rfl rfl (fun H locs hP hD hS => ?_)
  refine lv_if_eq (tgt := 56) hx hb d_MO_dirty_6 (by decide) (fun c1 => ?_) (fun c1 => ?_)
  · have hf := z_t c1 hf
    refine lv_iconst (v := (0 : Int32)) hx hb d_MO_dirty_56 (by decide) ?_
    obtain rfl := Option.some.inj hf
    exact z_zret hx hb hr (Or.inl rfl) hP hD hS d_MO_dirty_57 hlocks
  · have hf := z_f c1 hf
    refine lv_iload_n hx hb d_MO_dirty_9 rfl (lv_at hl 2 rfl) ?_
    refine lv_iconst (v := (nI 3)) hx hb d_MO_dirty_10 (by decide) ?_
    obtain ⟨u1, hu1, hf⟩ := z_b hf
    have hPc := zP_cut (wc := ([] : va_W)) 0 0 hP rfl
    have hDc := zD_cut (wc := ([] : va_W)) 0 0 hD rfl
    have hKc := hK.sub (tys' := ([] : List (ClassId × FieldType))) [] rfl
    refine z_ci (va_runS (As := [.int p2, .int (nI 3)]) (rest := []) ⟨hx, hb, hml, hown, hts⟩ (c_MO_within l dC dI N (fun i => a (0 + i)) (fun i => k (0 + i)) p2 (nI 3) hu1 H.size) (cwS 2 hts (zGS zsub_c k_3_6 k_3_7 k_1_8 kc_MO_within) rfl rfl rfl (by decide +kernel) ⟨Nat.le_of_ble_eq_true rfl, Nat.le_of_ble_eq_true rfl⟩) ⟨z_bl, fun U hU hW => ⟨rfl, z_pre hN hKc hPc hDc U hU hW⟩⟩ rfl rfl hl.1 rfl (lv_room (Nat.le_of_ble_eq_true rfl)) d_MO_dirty_11 ⟨Nat.zero_le _, Nat.zero_le _⟩) 0 0 (w_MO a k zpaths zsteps zcached zholds zinside zowner zmaker zcontent zruns zisThere ztarget zplace zrun zstaged zisOpen zstagedAt zstagedContent zstagedRuns zstagedLazy zisDirty zcache zhold zmet zrow) hP hD hS hA rfl rfl (fun H locs hP hD hS => ?_)
    refine lv_if_eq (tgt := 56) hx hb d_MO_dirty_14 (by decide) (fun c2 => ?_) (fun c2 => ?_)
    · have hf := z_t c2 hf
      refine lv_iconst (v := (0 : Int32)) hx hb d_MO_dirty_56 (by decide) ?_
      obtain rfl := Option.some.inj hf
      exact z_zret hx hb hr (Or.inl rfl) hP hD hS d_MO_dirty_57 hlocks
    · have hf := z_f c2 hf
      refine lv_aload_n hx hb d_MO_dirty_17 rfl (lv_at hl 0 rfl) ?_
      refine va_get (D := (dC, dI)) (ci := 7) (v := .ref (a 16)) (C := R_MO) (T := F_MO) (N := 24) hx hb hts (fun w h => List.mem_cons_of_mem _ (in_MO w h)) hown hK hP 0 rfl rfl 19 (by decide) (hts _ (List.mem_cons_of_mem _ k_2_180)) (fun _ h9 => h9) rfl d_MO_dirty_18 ?_
      refine lv_iload_n hx hb d_MO_dirty_21 rfl (lv_at hl 1 rfl) ?_
      refine lv_bipush (v := (nI 11)) hx hb d_MO_dirty_22 (by decide) ?_
      obtain ⟨u2, hu2, hf⟩ := z_b hf
      have hPc := zP_cut (wc := ([] : va_W)) 0 0 hP rfl
      have hDc := zD_cut (wc := ([] : va_W)) 0 0 hD rfl
      have hKc := hK.sub (tys' := ([] : List (ClassId × FieldType))) [] rfl
      refine z_ci (va_runS (As := [.int p1, .int (nI 11)]) (rest := [.ref (a 16)]) ⟨hx, hb, hml, hown, hts⟩ (c_MO_within l dC dI N (fun i => a (0 + i)) (fun i => k (0 + i)) p1 (nI 11) hu2 H.size) (cwS 2 hts (zGS zsub_c k_3_6 k_3_7 k_1_8 kc_MO_within) rfl rfl rfl (by decide +kernel) ⟨Nat.le_of_ble_eq_true rfl, Nat.le_of_ble_eq_true rfl⟩) ⟨z_bl, fun U hU hW => ⟨rfl, z_pre hN hKc hPc hDc U hU hW⟩⟩ rfl rfl hl.1 rfl (lv_room (Nat.le_of_ble_eq_true rfl)) d_MO_dirty_24 ⟨Nat.zero_le _, Nat.zero_le _⟩) 0 0 (w_MO a k zpaths zsteps zcached zholds zinside zowner zmaker zcontent zruns zisThere ztarget zplace zrun zstaged zisOpen zstagedAt zstagedContent zstagedRuns zstagedLazy zisDirty zcache zhold zmet zrow) hP hD hS hA rfl rfl (fun H locs hP hD hS => ?_)
      refine lv_if_eq (tgt := 47) hx hb d_MO_dirty_27 (by decide) (fun c3 => ?_) (fun c3 => ?_)
      · have hf := z_t c3 hf
        refine lv_iconst (v := (0 : Int32)) hx hb d_MO_dirty_47 (by decide) ?_
        obtain ⟨g4, hf⟩ := z_gz hf
        refine va_zald hx hb hK hP 16 15 rfl rfl g4 d_MO_dirty_48 ?_
        refine lv_if_eq (tgt := 56) hx hb d_MO_dirty_49 (by decide) (fun c5 => ?_) (fun c5 => ?_)
        · have hf := z_t c5 hf
          refine lv_iconst (v := (0 : Int32)) hx hb d_MO_dirty_56 (by decide) ?_
          obtain rfl := Option.some.inj hf
          exact z_zret hx hb hr (Or.inl rfl) hP hD hS d_MO_dirty_57 hlocks
        · have hf := z_f c5 hf
          refine lv_iconst (v := (1 : Int32)) hx hb d_MO_dirty_52 (by decide) ?_
          refine lv_goto (tgt := 57) hx hb d_MO_dirty_53 (by decide) ?_
          obtain rfl := Option.some.inj hf
          exact z_zret hx hb hr (Or.inr rfl) hP hD hS d_MO_dirty_57 hlocks
      · have hf := z_f c3 hf
        refine lv_iload_n hx hb d_MO_dirty_30 rfl (lv_at hl 2 rfl) ?_
        refine lv_iconst (v := (nI 3)) hx hb d_MO_dirty_31 (by decide) ?_
        obtain ⟨u3, hu3, hf⟩ := z_b hf
        have hPc := zP_cut (wc := ([] : va_W)) 0 0 hP rfl
        have hDc := zD_cut (wc := ([] : va_W)) 0 0 hD rfl
        have hKc := hK.sub (tys' := ([] : List (ClassId × FieldType))) [] rfl
        refine z_ci (va_runS (As := [.int p2, .int (nI 3)]) (rest := [.ref (a 16)]) ⟨hx, hb, hml, hown, hts⟩ (c_MO_within l dC dI N (fun i => a (0 + i)) (fun i => k (0 + i)) p2 (nI 3) hu3 H.size) (cwS 2 hts (zGS zsub_c k_3_6 k_3_7 k_1_8 kc_MO_within) rfl rfl rfl (by decide +kernel) ⟨Nat.le_of_ble_eq_true rfl, Nat.le_of_ble_eq_true rfl⟩) ⟨z_bl, fun U hU hW => ⟨rfl, z_pre hN hKc hPc hDc U hU hW⟩⟩ rfl rfl hl.1 rfl (lv_room (Nat.le_of_ble_eq_true rfl)) d_MO_dirty_32 ⟨Nat.zero_le _, Nat.zero_le _⟩) 0 0 (w_MO a k zpaths zsteps zcached zholds zinside zowner zmaker zcontent zruns zisThere ztarget zplace zrun zstaged zisOpen zstagedAt zstagedContent zstagedRuns zstagedLazy zisDirty zcache zhold zmet zrow) hP hD hS hA rfl rfl (fun H locs hP hD hS => ?_)
        refine lv_if_eq (tgt := 47) hx hb d_MO_dirty_35 (by decide) (fun c6 => ?_) (fun c6 => ?_)
        · have hf := z_t c6 hf
          refine lv_iconst (v := (0 : Int32)) hx hb d_MO_dirty_47 (by decide) ?_
          obtain ⟨g7, hf⟩ := z_gz hf
          refine va_zald hx hb hK hP 16 15 rfl rfl g7 d_MO_dirty_48 ?_
          refine lv_if_eq (tgt := 56) hx hb d_MO_dirty_49 (by decide) (fun c8 => ?_) (fun c8 => ?_)
          · have hf := z_t c8 hf
            refine lv_iconst (v := (0 : Int32)) hx hb d_MO_dirty_56 (by decide) ?_
            obtain rfl := Option.some.inj hf
            exact z_zret hx hb hr (Or.inl rfl) hP hD hS d_MO_dirty_57 hlocks
          · have hf := z_f c8 hf
            refine lv_iconst (v := (1 : Int32)) hx hb d_MO_dirty_52 (by decide) ?_
            refine lv_goto (tgt := 57) hx hb d_MO_dirty_53 (by decide) ?_
            obtain rfl := Option.some.inj hf
            exact z_zret hx hb hr (Or.inr rfl) hP hD hS d_MO_dirty_57 hlocks
        · have hf := z_f c6 hf
          refine lv_bipush (v := (nI 12)) hx hb d_MO_dirty_38 (by decide) ?_
          refine lv_iload_n hx hb d_MO_dirty_40 rfl (lv_at hl 2 rfl) ?_
          refine lv_imul hx hb d_MO_dirty_41 ?_
          refine lv_iload_n hx hb d_MO_dirty_42 rfl (lv_at hl 1 rfl) ?_
          refine lv_iadd hx hb d_MO_dirty_43 ?_
          refine lv_goto (tgt := 48) hx hb d_MO_dirty_44 (by decide) ?_
          obtain ⟨g9, hf⟩ := z_gz hf
          refine va_zald hx hb hK hP 16 15 rfl rfl g9 d_MO_dirty_48 ?_
          refine lv_if_eq (tgt := 56) hx hb d_MO_dirty_49 (by decide) (fun c10 => ?_) (fun c10 => ?_)
          · have hf := z_t c10 hf
            refine lv_iconst (v := (0 : Int32)) hx hb d_MO_dirty_56 (by decide) ?_
            obtain rfl := Option.some.inj hf
            exact z_zret hx hb hr (Or.inl rfl) hP hD hS d_MO_dirty_57 hlocks
          · have hf := z_f c10 hf
            refine lv_iconst (v := (1 : Int32)) hx hb d_MO_dirty_52 (by decide) ?_
            refine lv_goto (tgt := 57) hx hb d_MO_dirty_53 (by decide) ?_
            obtain rfl := Option.some.inj hf
            exact z_zret hx hb hr (Or.inr rfl) hP hD hS d_MO_dirty_57 hlocks
set_option maxHeartbeats 4000000 in
set_option maxRecDepth 100000 in
theorem c_MO_clear (l : Launch) (dC : Nat → ClassId) (dI : Nat → Nat → Nat) (N : Nat) (a : Nat → Nat) (k : Nat → ClassId) (zpaths : Int32) (zsteps : Int32) (zcached : Int32) (zholds : Int32) (zinside : Nat → Int32) (zowner : Nat → Int32) (zmaker : Nat → Int32) (zcontent : Nat → Int64) (zruns : Nat → Int32) (zisThere : Nat → Int32) (ztarget : Nat → Int32) (zplace : Nat → Int32) (zrun : Nat → Int32) (zstaged : Nat → Int32) (zisOpen : Nat → Int32) (zstagedAt : Nat → Int32) (zstagedContent : Nat → Int64) (zstagedRuns : Nat → Int32) (zstagedLazy : Nat → Int32) (zisDirty : Nat → Int32) (zcache : Nat → Int64) (zhold : Nat → Int64) (zmet : Int32) (zrow : Nat → Int64) (p1 : Int32) {y : (Int32 × (Nat → Int32))} (hf : pf_MO_clear N zpaths zsteps zowner zplace zisOpen p1 = some y) (sz : Nat) : Met l y_MO_clear ww_MO_clear ({ frames := 1, cells := 0, slots := 0, locals := 21 }) (va_Pc [.ref (a 0), .int p1] (zB (dC, dI) zCl (t_MO k) (w_MO a k zpaths zsteps zcached zholds zinside zowner zmaker zcontent zruns zisThere ztarget zplace zrun zstaged zisOpen zstagedAt zstagedContent zstagedRuns zstagedLazy zisDirty zcache zhold zmet zrow) sz)) (zQi (dC, dI) zCl (w_MO a k zpaths zsteps zcached zholds zinside zowner zmaker zcontent zruns zisThere ztarget zplace zrun zstaged zisOpen zstagedAt zstagedContent zstagedRuns zstagedLazy zisDirty zcache zhold zmet zrow) sz y.1 (w_MO a k zpaths zsteps zcached zholds zinside y.2 zmaker zcontent zruns zisThere ztarget zplace zrun zstaged zisOpen zstagedAt zstagedContent zstagedRuns zstagedLazy zisDirty zcache zhold zmet zrow)) 0 0 (va_A (w_MO a k zpaths zsteps zcached zholds zinside zowner zmaker zcontent zruns zisThere ztarget zplace zrun zstaged zisOpen zstagedAt zstagedContent zstagedRuns zstagedLazy zisDirty zcache zhold zmet zrow) sz) := by
  refine Met.ofW (cc := b_MO_clear) (maxL := 4) (ret := (some .int)) (by decide) rfl ?_
  intro p e s m args below meth c s₁ B hml hv
  obtain ⟨rfl, rfl, hP, hK, hD, hN⟩ := hv
  have hx := B.exec
  have hb := B.bytes
  have hr := B.returns
  have hts := atoms_spec (ws := ww_MO_clear) B.pre
  have hown : s.vm.findClass R_MO = some m.cls := findClass_of_methodNamed B.named
  have hlocks := B.notSynchronized
  have hA : ∀ q : Nat, s.heap.size ≤ q → va_A (w_MO a k zpaths zsteps zcached zholds zinside zowner zmaker zcontent zruns zisThere ztarget zplace zrun zstaged zisOpen zstagedAt zstagedContent zstagedRuns zstagedLazy zisDirty zcache zhold zmet zrow) s.heap.size q := fun q h => Or.inr h
  refine z_start (lv := [(0, .ref (a 0)), (1, .int p1)]) (Nat.le_of_ble_eq_true rfl) rfl hP hD (fun H locs ls hP hD hS hl => ?_)
  unfold pf_MO_clear at hf
  refine lv_iload_n hx hb d_MO_clear_0 rfl (lv_at hl 1 rfl) ?_
  refine lv_iconst (v := (nI 3)) hx hb d_MO_clear_1 (by decide) ?_
  obtain ⟨u0, hu0, hf⟩ := z_b hf
  have hPc := zP_cut (wc := ([] : va_W)) 0 0 hP rfl
  have hDc := zD_cut (wc := ([] : va_W)) 0 0 hD rfl
  have hKc := hK.sub (tys' := ([] : List (ClassId × FieldType))) [] rfl
  refine z_ci (va_runS (As := [.int p1, .int (nI 3)]) (rest := []) ⟨hx, hb, hml, hown, hts⟩ (c_MO_within l dC dI N (fun i => a (0 + i)) (fun i => k (0 + i)) p1 (nI 3) hu0 H.size) (cwS 2 hts (zGS zsub_c k_3_6 k_3_7 k_1_8 kc_MO_within) rfl rfl rfl (by decide +kernel) ⟨Nat.le_of_ble_eq_true rfl, Nat.le_of_ble_eq_true rfl⟩) ⟨z_bl, fun U hU hW => ⟨rfl, z_pre hN hKc hPc hDc U hU hW⟩⟩ rfl rfl hl.1 rfl (lv_room (Nat.le_of_ble_eq_true rfl)) d_MO_clear_2 ⟨Nat.zero_le _, Nat.zero_le _⟩) 0 0 (w_MO a k zpaths zsteps zcached zholds zinside zowner zmaker zcontent zruns zisThere ztarget zplace zrun zstaged zisOpen zstagedAt zstagedContent zstagedRuns zstagedLazy zisDirty zcache zhold zmet zrow) hP hD hS hA rfl rfl (fun H locs hP hD hS => ?_)
  refine lv_if_ne (tgt := 10) hx hb d_MO_clear_5 (by decide) (fun c1 => ?_) (fun c1 => ?_)
  · have hf := z_t c1 hf
    refine lv_iconst (v := (0 : Int32)) hx hb d_MO_clear_10 (by decide) ?_
    refine lv_istore_n (lv' := [(2, .int (0 : Int32)), (0, .ref (a 0)), (1, .int p1)]) hx hb d_MO_clear_11 rfl hl (by decide) rfl (fun ls hl => ?_)
    have loop12 : ∀ (n : Nat) (x2 : Int32), pf_MO_clear_L12 N zpaths zsteps zowner zplace zisOpen p1 n x2 = some y → ∀ (H : Heap) (locs : List Loc) (ls : Array Slot), va_P (dC, dI) zCl (w_MO a k zpaths zsteps zcached zholds zinside zowner zmaker zcontent zruns zisThere ztarget zplace zrun zstaged zisOpen zstagedAt zstagedContent zstagedRuns zstagedLazy zisDirty zcache zhold zmet zrow) H → va_D (va_A (w_MO a k zpaths zsteps zcached zholds zinside zowner zmaker zcontent zruns zisThere ztarget zplace zrun zstaged zisOpen zstagedAt zstagedContent zstagedRuns zstagedLazy zisDirty zcache zhold zmet zrow) s.heap.size) (w_MO a k zpaths zsteps zcached zholds zinside zowner zmaker zcontent zruns zisThere ztarget zplace zrun zstaged zisOpen zstagedAt zstagedContent zstagedRuns zstagedLazy zisDirty zcache zhold zmet zrow) → va_S (va_A (w_MO a k zpaths zsteps zcached zholds zinside zowner zmaker zcontent zruns zisThere ztarget zplace zrun zstaged zisOpen zstagedAt zstagedContent zstagedRuns zstagedLazy zisDirty zcache zhold zmet zrow) s.heap.size) s.heap H locs → lv_has ls 4 [(0, .ref (a 0)), (1, .int p1), (2, .int x2)] → W p l e (headSpec ww_MO_clear ({ frames := 1, cells := 0, slots := 0, locals := 21 })).room s m ([.ref (a 0), .int p1] : List Value).toArray below meth c H locs 0 0 (MQ below (zQi (dC, dI) zCl (w_MO a k zpaths zsteps zcached zholds zinside zowner zmaker zcontent zruns zisThere ztarget zplace zrun zstaged zisOpen zstagedAt zstagedContent zstagedRuns zstagedLazy zisDirty zcache zhold zmet zrow) s.heap.size y.1 (w_MO a k zpaths zsteps zcached zholds zinside y.2 zmaker zcontent zruns zisThere ztarget zplace zrun zstaged zisOpen zstagedAt zstagedContent zstagedRuns zstagedLazy zisDirty zcache zhold zmet zrow)) ([.ref (a 0), .int p1] : List Value).toArray s 0 0 (va_A (w_MO a k zpaths zsteps zcached zholds zinside zowner zmaker zcontent zruns zisThere ztarget zplace zrun zstaged zisOpen zstagedAt zstagedContent zstagedRuns zstagedLazy zisDirty zcache zhold zmet zrow) s.heap.size)) (F0 m 12 ls []) := by
      intro n12
      induction n12 with
      | zero => intro x2 hf; rw [pf_MO_clear_L12.eq_1] at hf; cases hf
      | succ n12 ih12 =>
        intro x2 hf H locs ls hP hD hS hl
        rw [pf_MO_clear_L12.eq_2] at hf
        refine lv_iload_n hx hb d_MO_clear_12 rfl (lv_at hl 2 rfl) ?_
        refine lv_aload_n hx hb d_MO_clear_13 rfl (lv_at hl 0 rfl) ?_
        refine va_get (D := (dC, dI)) (ci := 7) (v := .int zsteps) (C := R_MO) (T := F_MO) (N := 24) hx hb hts (fun w h => List.mem_cons_of_mem _ (in_MO w h)) hown hK hP 0 rfl rfl 1 (by decide) (hts _ (List.mem_cons_of_mem _ k_2_162)) (fun _ h9 => h9) rfl d_MO_clear_14 ?_
        refine lv_icmp_ge (tgt := 47) hx hb d_MO_clear_17 (by decide) (fun c2 => ?_) (fun c2 => ?_)
        · have hf := z_t c2 hf
          refine lv_iconst (v := (0 : Int32)) hx hb d_MO_clear_47 (by decide) ?_
          refine lv_istore_n (lv' := [(2, .int (0 : Int32)), (0, .ref (a 0)), (1, .int p1)]) hx hb d_MO_clear_48 rfl hl (by decide) rfl (fun ls hl => ?_)
          refine lv_iconst (v := (0 : Int32)) hx hb d_MO_clear_49 (by decide) ?_
          refine lv_istore_n (lv' := [(3, .int (0 : Int32)), (2, .int (0 : Int32)), (0, .ref (a 0)), (1, .int p1)]) hx hb d_MO_clear_50 rfl hl (by decide) rfl (fun ls hl => ?_)
          have loop51 : ∀ (n : Nat) (zowner'' : Nat → Int32) (x2' : Int32) (x3' : Int32), pf_MO_clear_L51 N zpaths p1 n zowner'' x2' x3' = some y → ∀ (H : Heap) (locs : List Loc) (ls : Array Slot), va_P (dC, dI) zCl (w_MO a k zpaths zsteps zcached zholds zinside zowner'' zmaker zcontent zruns zisThere ztarget zplace zrun zstaged zisOpen zstagedAt zstagedContent zstagedRuns zstagedLazy zisDirty zcache zhold zmet zrow) H → va_D (va_A (w_MO a k zpaths zsteps zcached zholds zinside zowner zmaker zcontent zruns zisThere ztarget zplace zrun zstaged zisOpen zstagedAt zstagedContent zstagedRuns zstagedLazy zisDirty zcache zhold zmet zrow) s.heap.size) (w_MO a k zpaths zsteps zcached zholds zinside zowner'' zmaker zcontent zruns zisThere ztarget zplace zrun zstaged zisOpen zstagedAt zstagedContent zstagedRuns zstagedLazy zisDirty zcache zhold zmet zrow) → va_S (va_A (w_MO a k zpaths zsteps zcached zholds zinside zowner zmaker zcontent zruns zisThere ztarget zplace zrun zstaged zisOpen zstagedAt zstagedContent zstagedRuns zstagedLazy zisDirty zcache zhold zmet zrow) s.heap.size) s.heap H locs → lv_has ls 4 [(0, .ref (a 0)), (1, .int p1), (2, .int x2'), (3, .int x3')] → W p l e (headSpec ww_MO_clear ({ frames := 1, cells := 0, slots := 0, locals := 21 })).room s m ([.ref (a 0), .int p1] : List Value).toArray below meth c H locs 0 0 (MQ below (zQi (dC, dI) zCl (w_MO a k zpaths zsteps zcached zholds zinside zowner zmaker zcontent zruns zisThere ztarget zplace zrun zstaged zisOpen zstagedAt zstagedContent zstagedRuns zstagedLazy zisDirty zcache zhold zmet zrow) s.heap.size y.1 (w_MO a k zpaths zsteps zcached zholds zinside y.2 zmaker zcontent zruns zisThere ztarget zplace zrun zstaged zisOpen zstagedAt zstagedContent zstagedRuns zstagedLazy zisDirty zcache zhold zmet zrow)) ([.ref (a 0), .int p1] : List Value).toArray s 0 0 (va_A (w_MO a k zpaths zsteps zcached zholds zinside zowner zmaker zcontent zruns zisThere ztarget zplace zrun zstaged zisOpen zstagedAt zstagedContent zstagedRuns zstagedLazy zisDirty zcache zhold zmet zrow) s.heap.size)) (F0 m 51 ls []) := by
            intro n51
            induction n51 with
            | zero => intro zowner'' x2' x3' hf; rw [pf_MO_clear_L51.eq_1] at hf; cases hf
            | succ n51 ih51 =>
              intro zowner'' x2' x3' hf H locs ls hP hD hS hl
              rw [pf_MO_clear_L51.eq_2] at hf
              refine lv_iload_n hx hb d_MO_clear_51 rfl (lv_at hl 3 rfl) ?_
              refine lv_aload_n hx hb d_MO_clear_52 rfl (lv_at hl 0 rfl) ?_
              refine va_get (D := (dC, dI)) (ci := 7) (v := .int zpaths) (C := R_MO) (T := F_MO) (N := 24) hx hb hts (fun w h => List.mem_cons_of_mem _ (in_MO w h)) hown hK hP 0 rfl rfl 0 (by decide) (hts _ (List.mem_cons_of_mem _ k_2_161)) (fun _ h9 => h9) rfl d_MO_clear_53 ?_
              refine lv_icmp_ge (tgt := 99) hx hb d_MO_clear_56 (by decide) (fun c3 => ?_) (fun c3 => ?_)
              · have hf := z_t c3 hf
                refine lv_iload_n hx hb d_MO_clear_99 rfl (lv_at hl 2 rfl) ?_
                obtain rfl := Option.some.inj hf
                exact z_iret hx hb hr hP hD hS d_MO_clear_100 hlocks
              · have hf := z_f c3 hf
                refine lv_iload_n hx hb d_MO_clear_59 rfl (lv_at hl 2 rfl) ?_
                refine lv_aload_n hx hb d_MO_clear_60 rfl (lv_at hl 0 rfl) ?_
                refine va_get (D := (dC, dI)) (ci := 7) (v := .ref (a 2)) (C := R_MO) (T := F_MO) (N := 24) hx hb hts (fun w h => List.mem_cons_of_mem _ (in_MO w h)) hown hK hP 0 rfl rfl 5 (by decide) (hts _ (List.mem_cons_of_mem _ k_2_166)) (fun _ h9 => h9) rfl d_MO_clear_61 ?_
                refine lv_bipush (v := (nI 40)) hx hb d_MO_clear_64 (by decide) ?_
                refine lv_iload_n hx hb d_MO_clear_66 rfl (lv_at hl 1 rfl) ?_
                refine lv_imul hx hb d_MO_clear_67 ?_
                refine lv_iload_n hx hb d_MO_clear_68 rfl (lv_at hl 3 rfl) ?_
                refine lv_iadd hx hb d_MO_clear_69 ?_
                obtain ⟨g4, hf⟩ := z_gz hf
                refine va_iald hx hb hK hP 2 1 rfl rfl g4 d_MO_clear_70 ?_
                refine lv_if_eq (tgt := 78) hx hb d_MO_clear_71 (by decide) (fun c5 => ?_) (fun c5 => ?_)
                · have hf := z_t c5 hf
                  refine lv_iconst (v := (0 : Int32)) hx hb d_MO_clear_78 (by decide) ?_
                  refine lv_iadd hx hb d_MO_clear_79 ?_
                  refine lv_istore_n (lv' := [(2, .int (x2' + (0 : Int32))), (0, .ref (a 0)), (1, .int p1), (3, .int x3')]) hx hb d_MO_clear_80 rfl hl (by decide) rfl (fun ls hl => ?_)
                  refine lv_aload_n hx hb d_MO_clear_81 rfl (lv_at hl 1 rfl) ?_
                  refine va_get (D := (dC, dI)) (ci := 7) (v := .ref (a 2)) (C := R_MO) (T := F_MO) (N := 24) hx hb hts (fun w h => List.mem_cons_of_mem _ (in_MO w h)) hown hK hP 0 rfl rfl 5 (by decide) (hts _ (List.mem_cons_of_mem _ k_2_166)) (fun _ h9 => h9) rfl d_MO_clear_82 ?_
                  refine lv_bipush (v := (nI 40)) hx hb d_MO_clear_85 (by decide) ?_
                  refine lv_iload_n hx hb d_MO_clear_87 rfl (lv_at hl 2 rfl) ?_
                  refine lv_imul hx hb d_MO_clear_88 ?_
                  refine lv_iload_n hx hb d_MO_clear_89 rfl (lv_at hl 3 rfl) ?_
                  refine lv_iadd hx hb d_MO_clear_90 ?_
                  refine lv_iconst (v := (0 : Int32)) hx hb d_MO_clear_91 (by decide) ?_
                  obtain ⟨g6, hf⟩ := z_gz hf
                  refine va_iast hx hb hK hP hD hS 2 1 rfl rfl g6 d_MO_clear_92 (fun H locs hP hD hS => ?_)
                  have hP : va_P (dC, dI) zCl (w_MO a k zpaths zsteps zcached zholds zinside (upd zowner'' (((nI 40) * p1) + x3').toNatClampNeg (0 : Int32)) zmaker zcontent zruns zisThere ztarget zplace zrun zstaged zisOpen zstagedAt zstagedContent zstagedRuns zstagedLazy zisDirty zcache zhold zmet zrow) H := hP
                  have hD : va_D _ (w_MO a k zpaths zsteps zcached zholds zinside (upd zowner'' (((nI 40) * p1) + x3').toNatClampNeg (0 : Int32)) zmaker zcontent zruns zisThere ztarget zplace zrun zstaged zisOpen zstagedAt zstagedContent zstagedRuns zstagedLazy zisDirty zcache zhold zmet zrow) := hD
                  refine lv_iinc (v := (x3' + (1 : Int32))) (lv' := [(3, .int (x3' + (1 : Int32))), (2, .int (x2' + (0 : Int32))), (0, .ref (a 0)), (1, .int p1)]) hx hb d_MO_clear_93 hl (k := 3) rfl rfl (by decide) rfl (fun ls hl => ?_)
                  refine lv_goto (tgt := 51) hx hb d_MO_clear_96 (by decide) ?_
                  exact ih51 (upd zowner'' (((nI 40) * p1) + x3').toNatClampNeg (0 : Int32)) (x2' + (0 : Int32)) (x3' + (1 : Int32)) hf H locs ls hP hD hS (lv_sub hl [2, 3, 1, 0] rfl)
                · have hf := z_f c5 hf
                  refine lv_iconst (v := (1 : Int32)) hx hb d_MO_clear_74 (by decide) ?_
                  refine lv_goto (tgt := 79) hx hb d_MO_clear_75 (by decide) ?_
                  refine lv_iadd hx hb d_MO_clear_79 ?_
                  refine lv_istore_n (lv' := [(2, .int (x2' + (1 : Int32))), (0, .ref (a 0)), (1, .int p1), (3, .int x3')]) hx hb d_MO_clear_80 rfl hl (by decide) rfl (fun ls hl => ?_)
                  refine lv_aload_n hx hb d_MO_clear_81 rfl (lv_at hl 1 rfl) ?_
                  refine va_get (D := (dC, dI)) (ci := 7) (v := .ref (a 2)) (C := R_MO) (T := F_MO) (N := 24) hx hb hts (fun w h => List.mem_cons_of_mem _ (in_MO w h)) hown hK hP 0 rfl rfl 5 (by decide) (hts _ (List.mem_cons_of_mem _ k_2_166)) (fun _ h9 => h9) rfl d_MO_clear_82 ?_
                  refine lv_bipush (v := (nI 40)) hx hb d_MO_clear_85 (by decide) ?_
                  refine lv_iload_n hx hb d_MO_clear_87 rfl (lv_at hl 2 rfl) ?_
                  refine lv_imul hx hb d_MO_clear_88 ?_
                  refine lv_iload_n hx hb d_MO_clear_89 rfl (lv_at hl 3 rfl) ?_
                  refine lv_iadd hx hb d_MO_clear_90 ?_
                  refine lv_iconst (v := (0 : Int32)) hx hb d_MO_clear_91 (by decide) ?_
                  obtain ⟨g7, hf⟩ := z_gz hf
                  refine va_iast hx hb hK hP hD hS 2 1 rfl rfl g7 d_MO_clear_92 (fun H locs hP hD hS => ?_)
                  have hP : va_P (dC, dI) zCl (w_MO a k zpaths zsteps zcached zholds zinside (upd zowner'' (((nI 40) * p1) + x3').toNatClampNeg (0 : Int32)) zmaker zcontent zruns zisThere ztarget zplace zrun zstaged zisOpen zstagedAt zstagedContent zstagedRuns zstagedLazy zisDirty zcache zhold zmet zrow) H := hP
                  have hD : va_D _ (w_MO a k zpaths zsteps zcached zholds zinside (upd zowner'' (((nI 40) * p1) + x3').toNatClampNeg (0 : Int32)) zmaker zcontent zruns zisThere ztarget zplace zrun zstaged zisOpen zstagedAt zstagedContent zstagedRuns zstagedLazy zisDirty zcache zhold zmet zrow) := hD
                  refine lv_iinc (v := (x3' + (1 : Int32))) (lv' := [(3, .int (x3' + (1 : Int32))), (2, .int (x2' + (1 : Int32))), (0, .ref (a 0)), (1, .int p1)]) hx hb d_MO_clear_93 hl (k := 3) rfl rfl (by decide) rfl (fun ls hl => ?_)
                  refine lv_goto (tgt := 51) hx hb d_MO_clear_96 (by decide) ?_
                  exact ih51 (upd zowner'' (((nI 40) * p1) + x3').toNatClampNeg (0 : Int32)) (x2' + (1 : Int32)) (x3' + (1 : Int32)) hf H locs ls hP hD hS (lv_sub hl [2, 3, 1, 0] rfl)
          exact loop51 N zowner (0 : Int32) (0 : Int32) hf H locs ls hP hD hS (lv_sub hl [2, 3, 1, 0] rfl)
        · have hf := z_f c2 hf
          refine lv_aload_n hx hb d_MO_clear_20 rfl (lv_at hl 0 rfl) ?_
          refine va_get (D := (dC, dI)) (ci := 7) (v := .ref (a 11)) (C := R_MO) (T := F_MO) (N := 24) hx hb hts (fun w h => List.mem_cons_of_mem _ (in_MO w h)) hown hK hP 0 rfl rfl 14 (by decide) (hts _ (List.mem_cons_of_mem _ k_2_175)) (fun _ h9 => h9) rfl d_MO_clear_21 ?_
          refine lv_iload_n hx hb d_MO_clear_24 rfl (lv_at hl 2 rfl) ?_
          obtain ⟨g8, hf⟩ := z_gz hf
          refine va_zald hx hb hK hP 11 10 rfl rfl g8 d_MO_clear_25 ?_
          refine lv_if_eq (tgt := 41) hx hb d_MO_clear_26 (by decide) (fun c9 => ?_) (fun c9 => ?_)
          · have hf := z_t c9 hf
            refine lv_iinc (v := (x2 + (1 : Int32))) (lv' := [(2, .int (x2 + (1 : Int32))), (0, .ref (a 0)), (1, .int p1)]) hx hb d_MO_clear_41 hl (k := 2) rfl rfl (by decide) rfl (fun ls hl => ?_)
            refine lv_goto (tgt := 12) hx hb d_MO_clear_44 (by decide) ?_
            exact ih12 (x2 + (1 : Int32)) hf H locs ls hP hD hS (lv_sub hl [1, 2, 0] rfl)
          · have hf := z_f c9 hf
            refine lv_aload_n hx hb d_MO_clear_29 rfl (lv_at hl 0 rfl) ?_
            refine va_get (D := (dC, dI)) (ci := 7) (v := .ref (a 8)) (C := R_MO) (T := F_MO) (N := 24) hx hb hts (fun w h => List.mem_cons_of_mem _ (in_MO w h)) hown hK hP 0 rfl rfl 11 (by decide) (hts _ (List.mem_cons_of_mem _ k_2_172)) (fun _ h9 => h9) rfl d_MO_clear_30 ?_
            refine lv_iload_n hx hb d_MO_clear_33 rfl (lv_at hl 2 rfl) ?_
            obtain ⟨g10, hf⟩ := z_gz hf
            refine va_iald hx hb hK hP 8 7 rfl rfl g10 d_MO_clear_34 ?_
            refine lv_iload_n hx hb d_MO_clear_35 rfl (lv_at hl 1 rfl) ?_
            refine lv_icmp_ne (tgt := 41) hx hb d_MO_clear_36 (by decide) (fun c11 => ?_) (fun c11 => ?_)
            · have hf := z_t c11 hf
              refine lv_iinc (v := (x2 + (1 : Int32))) (lv' := [(2, .int (x2 + (1 : Int32))), (0, .ref (a 0)), (1, .int p1)]) hx hb d_MO_clear_41 hl (k := 2) rfl rfl (by decide) rfl (fun ls hl => ?_)
              refine lv_goto (tgt := 12) hx hb d_MO_clear_44 (by decide) ?_
              exact ih12 (x2 + (1 : Int32)) hf H locs ls hP hD hS (lv_sub hl [1, 2, 0] rfl)
            · have hf := z_fn c11 hf
              refine lv_iconst (v := (-1 : Int32)) hx hb d_MO_clear_39 (by decide) ?_
              obtain rfl := Option.some.inj hf
              exact z_iret hx hb hr hP hD hS d_MO_clear_40 hlocks
    exact loop12 N (0 : Int32) hf H locs ls hP hD hS (lv_sub hl [1, 2, 0] rfl)
  · have hf := z_fn c1 hf
    refine lv_iconst (v := (-1 : Int32)) hx hb d_MO_clear_8 (by decide) ?_
    obtain rfl := Option.some.inj hf
    exact z_iret hx hb hr hP hD hS d_MO_clear_9 hlocks
set_option maxHeartbeats 4000000 in
set_option maxRecDepth 100000 in
theorem c_MO_meets (l : Launch) (dC : Nat → ClassId) (dI : Nat → Nat → Nat) (N : Nat) (a : Nat → Nat) (k : Nat → ClassId) (zpaths : Int32) (zsteps : Int32) (zcached : Int32) (zholds : Int32) (zinside : Nat → Int32) (zowner : Nat → Int32) (zmaker : Nat → Int32) (zcontent : Nat → Int64) (zruns : Nat → Int32) (zisThere : Nat → Int32) (ztarget : Nat → Int32) (zplace : Nat → Int32) (zrun : Nat → Int32) (zstaged : Nat → Int32) (zisOpen : Nat → Int32) (zstagedAt : Nat → Int32) (zstagedContent : Nat → Int64) (zstagedRuns : Nat → Int32) (zstagedLazy : Nat → Int32) (zisDirty : Nat → Int32) (zcache : Nat → Int64) (zhold : Nat → Int64) (zmet : Int32) (zrow : Nat → Int64) (p1 : Int64) {y : (Int32 × (Nat → Int64))} (hf : pf_MO_meets N zmet zrow p1 = some y) (sz : Nat) : Met l y_MO_meets ww_MO_meets ({ frames := 0, cells := 0, slots := 0, locals := 0 }) (va_Pc [.ref (a 0), .long p1] (zB (dC, dI) zCl (t_MO k) (w_MO a k zpaths zsteps zcached zholds zinside zowner zmaker zcontent zruns zisThere ztarget zplace zrun zstaged zisOpen zstagedAt zstagedContent zstagedRuns zstagedLazy zisDirty zcache zhold zmet zrow) sz)) (zQv (dC, dI) zCl (w_MO a k zpaths zsteps zcached zholds zinside zowner zmaker zcontent zruns zisThere ztarget zplace zrun zstaged zisOpen zstagedAt zstagedContent zstagedRuns zstagedLazy zisDirty zcache zhold zmet zrow) sz (w_MO a k zpaths zsteps zcached zholds zinside zowner zmaker zcontent zruns zisThere ztarget zplace zrun zstaged zisOpen zstagedAt zstagedContent zstagedRuns zstagedLazy zisDirty zcache zhold y.1 y.2)) 0 0 (va_A (w_MO a k zpaths zsteps zcached zholds zinside zowner zmaker zcontent zruns zisThere ztarget zplace zrun zstaged zisOpen zstagedAt zstagedContent zstagedRuns zstagedLazy zisDirty zcache zhold zmet zrow) sz) := by
  refine Met.ofW (cc := b_MO_meets) (maxL := 3) (ret := none) (by decide) rfl ?_
  intro p e s m args below meth c s₁ B hml hv
  obtain ⟨rfl, rfl, hP, hK, hD, hN⟩ := hv
  have hx := B.exec
  have hb := B.bytes
  have hr := B.returns
  have hts := atoms_spec (ws := ww_MO_meets) B.pre
  have hown : s.vm.findClass R_MO = some m.cls := findClass_of_methodNamed B.named
  have hlocks := B.notSynchronized
  have hA : ∀ q : Nat, s.heap.size ≤ q → va_A (w_MO a k zpaths zsteps zcached zholds zinside zowner zmaker zcontent zruns zisThere ztarget zplace zrun zstaged zisOpen zstagedAt zstagedContent zstagedRuns zstagedLazy zisDirty zcache zhold zmet zrow) s.heap.size q := fun q h => Or.inr h
  refine z_start (lv := [(0, .ref (a 0)), (1, .long p1)]) (Nat.le_of_ble_eq_true rfl) rfl hP hD (fun H locs ls hP hD hS hl => ?_)
  unfold pf_MO_meets at hf
  refine lv_aload_n hx hb d_MO_meets_0 rfl (lv_at hl 0 rfl) ?_
  refine va_get (D := (dC, dI)) (ci := 7) (v := .ref (a 19)) (C := R_MO) (T := F_MO) (N := 24) hx hb hts (fun w h => List.mem_cons_of_mem _ (in_MO w h)) hown hK hP 0 rfl rfl 23 (by decide) (hts _ (List.mem_cons_of_mem _ k_2_184)) (fun _ h9 => h9) rfl d_MO_meets_1 ?_
  refine lv_aload_n hx hb d_MO_meets_4 rfl (lv_at hl 0 rfl) ?_
  refine va_get (D := (dC, dI)) (ci := 7) (v := .int zmet) (C := R_MO) (T := F_MO) (N := 24) hx hb hts (fun w h => List.mem_cons_of_mem _ (in_MO w h)) hown hK hP 0 rfl rfl 22 (by decide) (hts _ (List.mem_cons_of_mem _ k_2_183)) (fun _ h9 => h9) rfl d_MO_meets_5 ?_
  refine lv_lload_n hx hb d_MO_meets_8 rfl (lv_at hl 1 rfl) ?_
  obtain ⟨g1, hf⟩ := z_gz hf
  refine va_last hx hb hK hP hD hS 19 18 rfl rfl g1 d_MO_meets_9 (fun H locs hP hD hS => ?_)
  have hP : va_P (dC, dI) zCl (w_MO a k zpaths zsteps zcached zholds zinside zowner zmaker zcontent zruns zisThere ztarget zplace zrun zstaged zisOpen zstagedAt zstagedContent zstagedRuns zstagedLazy zisDirty zcache zhold zmet (vp_updL zrow zmet.toNatClampNeg p1)) H := hP
  have hD : va_D _ (w_MO a k zpaths zsteps zcached zholds zinside zowner zmaker zcontent zruns zisThere ztarget zplace zrun zstaged zisOpen zstagedAt zstagedContent zstagedRuns zstagedLazy zisDirty zcache zhold zmet (vp_updL zrow zmet.toNatClampNeg p1)) := hD
  refine lv_aload_n hx hb d_MO_meets_10 rfl (lv_at hl 0 rfl) ?_
  refine lv_dup hx hb d_MO_meets_11 rfl ?_
  refine va_get (D := (dC, dI)) (ci := 7) (v := .int zmet) (C := R_MO) (T := F_MO) (N := 24) hx hb hts (fun w h => List.mem_cons_of_mem _ (in_MO w h)) hown hK hP 0 rfl rfl 22 (by decide) (hts _ (List.mem_cons_of_mem _ k_2_183)) (fun _ h9 => h9) rfl d_MO_meets_12 ?_
  refine lv_iconst (v := (1 : Int32)) hx hb d_MO_meets_15 (by decide) ?_
  refine lv_iadd hx hb d_MO_meets_16 ?_
  refine va_put (D := (dC, dI)) (ci := 7) (v := .int (zmet + (1 : Int32))) (ty := .int) (C := R_MO) (T := F_MO) (N := 24) hx hb hts (fun w h => List.mem_cons_of_mem _ (in_MO w h)) ty_MO ty_MO_ok nm_MO hown hK hP hD hS 0 rfl rfl 22 (by decide) (hts _ (List.mem_cons_of_mem _ k_2_183)) (fun _ h9 => h9) rfl (by decide +kernel) rfl rfl (Nat.le_of_ble_eq_true rfl) d_MO_meets_17 (fun H locs hP hD hS => ?_)
  have hP : va_P (dC, dI) zCl (w_MO a k zpaths zsteps zcached zholds zinside zowner zmaker zcontent zruns zisThere ztarget zplace zrun zstaged zisOpen zstagedAt zstagedContent zstagedRuns zstagedLazy zisDirty zcache zhold (zmet + (1 : Int32)) (vp_updL zrow zmet.toNatClampNeg p1)) H := hP
  have hD : va_D _ (w_MO a k zpaths zsteps zcached zholds zinside zowner zmaker zcontent zruns zisThere ztarget zplace zrun zstaged zisOpen zstagedAt zstagedContent zstagedRuns zstagedLazy zisDirty zcache zhold (zmet + (1 : Int32)) (vp_updL zrow zmet.toNatClampNeg p1)) := hD
  obtain rfl := Option.some.inj hf
  exact z_vret hx hb hr hP hD hS d_MO_meets_20 hlocks
set_option maxHeartbeats 4000000 in
set_option maxRecDepth 100000 in
theorem c_MO_gather (l : Launch) (dC : Nat → ClassId) (dI : Nat → Nat → Nat) (N : Nat) (a : Nat → Nat) (k : Nat → ClassId) (zpaths : Int32) (zsteps : Int32) (zcached : Int32) (zholds : Int32) (zinside : Nat → Int32) (zowner : Nat → Int32) (zmaker : Nat → Int32) (zcontent : Nat → Int64) (zruns : Nat → Int32) (zisThere : Nat → Int32) (ztarget : Nat → Int32) (zplace : Nat → Int32) (zrun : Nat → Int32) (zstaged : Nat → Int32) (zisOpen : Nat → Int32) (zstagedAt : Nat → Int32) (zstagedContent : Nat → Int64) (zstagedRuns : Nat → Int32) (zstagedLazy : Nat → Int32) (zisDirty : Nat → Int32) (zcache : Nat → Int64) (zhold : Nat → Int64) (zmet : Int32) (zrow : Nat → Int64) {y : (Int32 × (Nat → Int64))} (hf : pf_MO_gather N zsteps zholds zowner zcontent zisThere zstaged zisOpen zstagedContent zstagedLazy zhold zmet zrow = some y) (sz : Nat) : Met l y_MO_gather ww_MO_gather ({ frames := 1, cells := 0, slots := 0, locals := 22 }) (va_Pc [.ref (a 0)] (zB (dC, dI) zCl (t_MO k) (w_MO a k zpaths zsteps zcached zholds zinside zowner zmaker zcontent zruns zisThere ztarget zplace zrun zstaged zisOpen zstagedAt zstagedContent zstagedRuns zstagedLazy zisDirty zcache zhold zmet zrow) sz)) (zQv (dC, dI) zCl (w_MO a k zpaths zsteps zcached zholds zinside zowner zmaker zcontent zruns zisThere ztarget zplace zrun zstaged zisOpen zstagedAt zstagedContent zstagedRuns zstagedLazy zisDirty zcache zhold zmet zrow) sz (w_MO a k zpaths zsteps zcached zholds zinside zowner zmaker zcontent zruns zisThere ztarget zplace zrun zstaged zisOpen zstagedAt zstagedContent zstagedRuns zstagedLazy zisDirty zcache zhold y.1 y.2)) 0 0 (va_A (w_MO a k zpaths zsteps zcached zholds zinside zowner zmaker zcontent zruns zisThere ztarget zplace zrun zstaged zisOpen zstagedAt zstagedContent zstagedRuns zstagedLazy zisDirty zcache zhold zmet zrow) sz) := by
  refine Met.ofW (cc := b_MO_gather) (maxL := 3) (ret := none) (by decide) rfl ?_
  intro p e s m args below meth c s₁ B hml hv
  obtain ⟨rfl, rfl, hP, hK, hD, hN⟩ := hv
  have hx := B.exec
  have hb := B.bytes
  have hr := B.returns
  have hts := atoms_spec (ws := ww_MO_gather) B.pre
  have hown : s.vm.findClass R_MO = some m.cls := findClass_of_methodNamed B.named
  have hlocks := B.notSynchronized
  have hA : ∀ q : Nat, s.heap.size ≤ q → va_A (w_MO a k zpaths zsteps zcached zholds zinside zowner zmaker zcontent zruns zisThere ztarget zplace zrun zstaged zisOpen zstagedAt zstagedContent zstagedRuns zstagedLazy zisDirty zcache zhold zmet zrow) s.heap.size q := fun q h => Or.inr h
  refine z_start (lv := [(0, .ref (a 0))]) (Nat.le_of_ble_eq_true rfl) rfl hP hD (fun H locs ls hP hD hS hl => ?_)
  unfold pf_MO_gather at hf
  refine lv_aload_n hx hb d_MO_gather_0 rfl (lv_at hl 0 rfl) ?_
  refine lv_iconst (v := (0 : Int32)) hx hb d_MO_gather_1 (by decide) ?_
  refine va_put (D := (dC, dI)) (ci := 7) (v := .int (0 : Int32)) (ty := .int) (C := R_MO) (T := F_MO) (N := 24) hx hb hts (fun w h => List.mem_cons_of_mem _ (in_MO w h)) ty_MO ty_MO_ok nm_MO hown hK hP hD hS 0 rfl rfl 22 (by decide) (hts _ (List.mem_cons_of_mem _ k_2_183)) (fun _ h9 => h9) rfl (by decide +kernel) rfl rfl (Nat.le_of_ble_eq_true rfl) d_MO_gather_2 (fun H locs hP hD hS => ?_)
  have hP : va_P (dC, dI) zCl (w_MO a k zpaths zsteps zcached zholds zinside zowner zmaker zcontent zruns zisThere ztarget zplace zrun zstaged zisOpen zstagedAt zstagedContent zstagedRuns zstagedLazy zisDirty zcache zhold (0 : Int32) zrow) H := hP
  have hD : va_D _ (w_MO a k zpaths zsteps zcached zholds zinside zowner zmaker zcontent zruns zisThere ztarget zplace zrun zstaged zisOpen zstagedAt zstagedContent zstagedRuns zstagedLazy zisDirty zcache zhold (0 : Int32) zrow) := hD
  refine lv_iconst (v := (0 : Int32)) hx hb d_MO_gather_5 (by decide) ?_
  refine lv_istore_n (lv' := [(1, .int (0 : Int32)), (0, .ref (a 0))]) hx hb d_MO_gather_6 rfl hl (by decide) rfl (fun ls hl => ?_)
  have loop7 : ∀ (n : Nat) (zmet' : Int32) (zrow' : Nat → Int64) (x1 : Int32), pf_MO_gather_L7 N zsteps zholds zowner zcontent zisThere zstaged zisOpen zstagedContent zstagedLazy zhold n zmet' zrow' x1 = some y → ∀ (H : Heap) (locs : List Loc) (ls : Array Slot), va_P (dC, dI) zCl (w_MO a k zpaths zsteps zcached zholds zinside zowner zmaker zcontent zruns zisThere ztarget zplace zrun zstaged zisOpen zstagedAt zstagedContent zstagedRuns zstagedLazy zisDirty zcache zhold zmet' zrow') H → va_D (va_A (w_MO a k zpaths zsteps zcached zholds zinside zowner zmaker zcontent zruns zisThere ztarget zplace zrun zstaged zisOpen zstagedAt zstagedContent zstagedRuns zstagedLazy zisDirty zcache zhold zmet zrow) s.heap.size) (w_MO a k zpaths zsteps zcached zholds zinside zowner zmaker zcontent zruns zisThere ztarget zplace zrun zstaged zisOpen zstagedAt zstagedContent zstagedRuns zstagedLazy zisDirty zcache zhold zmet' zrow') → va_S (va_A (w_MO a k zpaths zsteps zcached zholds zinside zowner zmaker zcontent zruns zisThere ztarget zplace zrun zstaged zisOpen zstagedAt zstagedContent zstagedRuns zstagedLazy zisDirty zcache zhold zmet zrow) s.heap.size) s.heap H locs → lv_has ls 3 [(0, .ref (a 0)), (1, .int x1)] → W p l e (headSpec ww_MO_gather ({ frames := 1, cells := 0, slots := 0, locals := 22 })).room s m ([.ref (a 0)] : List Value).toArray below meth c H locs 0 0 (MQ below (zQv (dC, dI) zCl (w_MO a k zpaths zsteps zcached zholds zinside zowner zmaker zcontent zruns zisThere ztarget zplace zrun zstaged zisOpen zstagedAt zstagedContent zstagedRuns zstagedLazy zisDirty zcache zhold zmet zrow) s.heap.size (w_MO a k zpaths zsteps zcached zholds zinside zowner zmaker zcontent zruns zisThere ztarget zplace zrun zstaged zisOpen zstagedAt zstagedContent zstagedRuns zstagedLazy zisDirty zcache zhold y.1 y.2)) ([.ref (a 0)] : List Value).toArray s 0 0 (va_A (w_MO a k zpaths zsteps zcached zholds zinside zowner zmaker zcontent zruns zisThere ztarget zplace zrun zstaged zisOpen zstagedAt zstagedContent zstagedRuns zstagedLazy zisDirty zcache zhold zmet zrow) s.heap.size)) (F0 m 7 ls []) := by
    intro n7
    induction n7 with
    | zero => intro zmet' zrow' x1 hf; rw [pf_MO_gather_L7.eq_1] at hf; cases hf
    | succ n7 ih7 =>
      intro zmet' zrow' x1 hf H locs ls hP hD hS hl
      rw [pf_MO_gather_L7.eq_2] at hf
      refine lv_iload_n hx hb d_MO_gather_7 rfl (lv_at hl 1 rfl) ?_
      refine lv_sipush (v := (nI 160)) hx hb d_MO_gather_8 (by decide) ?_
      refine lv_icmp_ge (tgt := 48) hx hb d_MO_gather_11 (by decide) (fun c1 => ?_) (fun c1 => ?_)
      · have hf := z_t c1 hf
        refine lv_iconst (v := (0 : Int32)) hx hb d_MO_gather_48 (by decide) ?_
        refine lv_istore_n (lv' := [(1, .int (0 : Int32)), (0, .ref (a 0))]) hx hb d_MO_gather_49 rfl hl (by decide) rfl (fun ls hl => ?_)
        have loop50 : ∀ (n : Nat) (zmet'' : Int32) (zrow'' : Nat → Int64) (x1' : Int32), pf_MO_gather_L50 N zsteps zholds zstaged zisOpen zstagedContent zstagedLazy zhold n zmet'' zrow'' x1' = some y → ∀ (H : Heap) (locs : List Loc) (ls : Array Slot), va_P (dC, dI) zCl (w_MO a k zpaths zsteps zcached zholds zinside zowner zmaker zcontent zruns zisThere ztarget zplace zrun zstaged zisOpen zstagedAt zstagedContent zstagedRuns zstagedLazy zisDirty zcache zhold zmet'' zrow'') H → va_D (va_A (w_MO a k zpaths zsteps zcached zholds zinside zowner zmaker zcontent zruns zisThere ztarget zplace zrun zstaged zisOpen zstagedAt zstagedContent zstagedRuns zstagedLazy zisDirty zcache zhold zmet zrow) s.heap.size) (w_MO a k zpaths zsteps zcached zholds zinside zowner zmaker zcontent zruns zisThere ztarget zplace zrun zstaged zisOpen zstagedAt zstagedContent zstagedRuns zstagedLazy zisDirty zcache zhold zmet'' zrow'') → va_S (va_A (w_MO a k zpaths zsteps zcached zholds zinside zowner zmaker zcontent zruns zisThere ztarget zplace zrun zstaged zisOpen zstagedAt zstagedContent zstagedRuns zstagedLazy zisDirty zcache zhold zmet zrow) s.heap.size) s.heap H locs → lv_has ls 3 [(0, .ref (a 0)), (1, .int x1')] → W p l e (headSpec ww_MO_gather ({ frames := 1, cells := 0, slots := 0, locals := 22 })).room s m ([.ref (a 0)] : List Value).toArray below meth c H locs 0 0 (MQ below (zQv (dC, dI) zCl (w_MO a k zpaths zsteps zcached zholds zinside zowner zmaker zcontent zruns zisThere ztarget zplace zrun zstaged zisOpen zstagedAt zstagedContent zstagedRuns zstagedLazy zisDirty zcache zhold zmet zrow) s.heap.size (w_MO a k zpaths zsteps zcached zholds zinside zowner zmaker zcontent zruns zisThere ztarget zplace zrun zstaged zisOpen zstagedAt zstagedContent zstagedRuns zstagedLazy zisDirty zcache zhold y.1 y.2)) ([.ref (a 0)] : List Value).toArray s 0 0 (va_A (w_MO a k zpaths zsteps zcached zholds zinside zowner zmaker zcontent zruns zisThere ztarget zplace zrun zstaged zisOpen zstagedAt zstagedContent zstagedRuns zstagedLazy zisDirty zcache zhold zmet zrow) s.heap.size)) (F0 m 50 ls []) := by
          intro n50
          induction n50 with
          | zero => intro zmet'' zrow'' x1' hf; rw [pf_MO_gather_L50.eq_1] at hf; cases hf
          | succ n50 ih50 =>
            intro zmet'' zrow'' x1' hf H locs ls hP hD hS hl
            rw [pf_MO_gather_L50.eq_2] at hf
            refine lv_iload_n hx hb d_MO_gather_50 rfl (lv_at hl 1 rfl) ?_
            refine lv_aload_n hx hb d_MO_gather_51 rfl (lv_at hl 0 rfl) ?_
            refine va_get (D := (dC, dI)) (ci := 7) (v := .int zsteps) (C := R_MO) (T := F_MO) (N := 24) hx hb hts (fun w h => List.mem_cons_of_mem _ (in_MO w h)) hown hK hP 0 rfl rfl 1 (by decide) (hts _ (List.mem_cons_of_mem _ k_2_162)) (fun _ h9 => h9) rfl d_MO_gather_52 ?_
            refine lv_icmp_ge (tgt := 118) hx hb d_MO_gather_55 (by decide) (fun c2 => ?_) (fun c2 => ?_)
            · have hf := z_t c2 hf
              refine lv_iconst (v := (0 : Int32)) hx hb d_MO_gather_118 (by decide) ?_
              refine lv_istore_n (lv' := [(1, .int (0 : Int32)), (0, .ref (a 0))]) hx hb d_MO_gather_119 rfl hl (by decide) rfl (fun ls hl => ?_)
              have loop120 : ∀ (n : Nat) (zmet''' : Int32) (zrow''' : Nat → Int64) (x1'' : Int32), pf_MO_gather_L120 N zholds zhold n zmet''' zrow''' x1'' = some y → ∀ (H : Heap) (locs : List Loc) (ls : Array Slot), va_P (dC, dI) zCl (w_MO a k zpaths zsteps zcached zholds zinside zowner zmaker zcontent zruns zisThere ztarget zplace zrun zstaged zisOpen zstagedAt zstagedContent zstagedRuns zstagedLazy zisDirty zcache zhold zmet''' zrow''') H → va_D (va_A (w_MO a k zpaths zsteps zcached zholds zinside zowner zmaker zcontent zruns zisThere ztarget zplace zrun zstaged zisOpen zstagedAt zstagedContent zstagedRuns zstagedLazy zisDirty zcache zhold zmet zrow) s.heap.size) (w_MO a k zpaths zsteps zcached zholds zinside zowner zmaker zcontent zruns zisThere ztarget zplace zrun zstaged zisOpen zstagedAt zstagedContent zstagedRuns zstagedLazy zisDirty zcache zhold zmet''' zrow''') → va_S (va_A (w_MO a k zpaths zsteps zcached zholds zinside zowner zmaker zcontent zruns zisThere ztarget zplace zrun zstaged zisOpen zstagedAt zstagedContent zstagedRuns zstagedLazy zisDirty zcache zhold zmet zrow) s.heap.size) s.heap H locs → lv_has ls 3 [(0, .ref (a 0)), (1, .int x1'')] → W p l e (headSpec ww_MO_gather ({ frames := 1, cells := 0, slots := 0, locals := 22 })).room s m ([.ref (a 0)] : List Value).toArray below meth c H locs 0 0 (MQ below (zQv (dC, dI) zCl (w_MO a k zpaths zsteps zcached zholds zinside zowner zmaker zcontent zruns zisThere ztarget zplace zrun zstaged zisOpen zstagedAt zstagedContent zstagedRuns zstagedLazy zisDirty zcache zhold zmet zrow) s.heap.size (w_MO a k zpaths zsteps zcached zholds zinside zowner zmaker zcontent zruns zisThere ztarget zplace zrun zstaged zisOpen zstagedAt zstagedContent zstagedRuns zstagedLazy zisDirty zcache zhold y.1 y.2)) ([.ref (a 0)] : List Value).toArray s 0 0 (va_A (w_MO a k zpaths zsteps zcached zholds zinside zowner zmaker zcontent zruns zisThere ztarget zplace zrun zstaged zisOpen zstagedAt zstagedContent zstagedRuns zstagedLazy zisDirty zcache zhold zmet zrow) s.heap.size)) (F0 m 120 ls []) := by
                intro n120
                induction n120 with
                | zero => intro zmet''' zrow''' x1'' hf; rw [pf_MO_gather_L120.eq_1] at hf; cases hf
                | succ n120 ih120 =>
                  intro zmet''' zrow''' x1'' hf H locs ls hP hD hS hl
                  rw [pf_MO_gather_L120.eq_2] at hf
                  refine lv_iload_n hx hb d_MO_gather_120 rfl (lv_at hl 1 rfl) ?_
                  refine lv_aload_n hx hb d_MO_gather_121 rfl (lv_at hl 0 rfl) ?_
                  refine va_get (D := (dC, dI)) (ci := 7) (v := .int zholds) (C := R_MO) (T := F_MO) (N := 24) hx hb hts (fun w h => List.mem_cons_of_mem _ (in_MO w h)) hown hK hP 0 rfl rfl 3 (by decide) (hts _ (List.mem_cons_of_mem _ k_2_164)) (fun _ h9 => h9) rfl d_MO_gather_122 ?_
                  refine lv_icmp_ge (tgt := 155) hx hb d_MO_gather_125 (by decide) (fun c3 => ?_) (fun c3 => ?_)
                  · have hf := z_t c3 hf
                    obtain rfl := Option.some.inj hf
                    exact z_vret hx hb hr hP hD hS d_MO_gather_155 hlocks
                  · have hf := z_f c3 hf
                    refine lv_aload_n hx hb d_MO_gather_128 rfl (lv_at hl 0 rfl) ?_
                    refine va_get (D := (dC, dI)) (ci := 7) (v := .ref (a 18)) (C := R_MO) (T := F_MO) (N := 24) hx hb hts (fun w h => List.mem_cons_of_mem _ (in_MO w h)) hown hK hP 0 rfl rfl 21 (by decide) (hts _ (List.mem_cons_of_mem _ k_2_182)) (fun _ h9 => h9) rfl d_MO_gather_129 ?_
                    refine lv_iload_n hx hb d_MO_gather_132 rfl (lv_at hl 1 rfl) ?_
                    obtain ⟨g4, hf⟩ := z_gz hf
                    refine va_lald hx hb hK hP 18 17 rfl rfl g4 d_MO_gather_133 ?_
                    refine lv_lconst (v := 0) hx hb d_MO_gather_134 (by decide) ?_
                    refine W.lcmp hx hb d_MO_gather_135 ?_
                    refine lv_if_eq (tgt := 149) hx hb d_MO_gather_136 (by decide) (fun c5 => ?_) (fun c5 => ?_)
                    · have hf := z_t c5 hf
                      refine lv_iinc (v := (x1'' + (1 : Int32))) (lv' := [(1, .int (x1'' + (1 : Int32))), (0, .ref (a 0))]) hx hb d_MO_gather_149 hl (k := 1) rfl rfl (by decide) rfl (fun ls hl => ?_)
                      refine lv_goto (tgt := 120) hx hb d_MO_gather_152 (by decide) ?_
                      exact ih120 zmet''' zrow''' (x1'' + (1 : Int32)) hf H locs ls hP hD hS (lv_sub hl [1, 0] rfl)
                    · have hf := z_f c5 hf
                      refine lv_aload_n hx hb d_MO_gather_139 rfl (lv_at hl 0 rfl) ?_
                      refine lv_aload_n hx hb d_MO_gather_140 rfl (lv_at hl 0 rfl) ?_
                      refine va_get (D := (dC, dI)) (ci := 7) (v := .ref (a 18)) (C := R_MO) (T := F_MO) (N := 24) hx hb hts (fun w h => List.mem_cons_of_mem _ (in_MO w h)) hown hK hP 0 rfl rfl 21 (by decide) (hts _ (List.mem_cons_of_mem _ k_2_182)) (fun _ h9 => h9) rfl d_MO_gather_141 ?_
                      refine lv_iload_n hx hb d_MO_gather_144 rfl (lv_at hl 1 rfl) ?_
                      obtain ⟨g6, hf⟩ := z_gz hf
                      refine va_lald hx hb hK hP 18 17 rfl rfl g6 d_MO_gather_145 ?_
                      obtain ⟨u0, hu0, hf⟩ := z_b hf
                      have hPc := hP
                      have hDc := hD
                      have hKc := hK
                      refine z_cwv (va_runV (As := [.long (zhold x1''.toNatClampNeg)]) (rest := []) ⟨hx, hb, hml, hown, hts⟩ (c_MO_meets l dC dI N a k zpaths zsteps zcached zholds zinside zowner zmaker zcontent zruns zisThere ztarget zplace zrun zstaged zisOpen zstagedAt zstagedContent zstagedRuns zstagedLazy zisDirty zcache zhold zmet''' zrow''' (zhold x1''.toNatClampNeg) hu0 H.size) (cwV 1 hts (zGV zsub_c k_3_101 k_3_103 s_MO_meets k_1_8 kc_MO_meets) rfl rfl rfl (by decide +kernel) ⟨Nat.le_of_ble_eq_true rfl, Nat.le_of_ble_eq_true rfl⟩) ⟨z_bl, va_recv hKc hPc (ci := 7) (q0 := 0) rfl rfl, fun U hU hW => ⟨rfl, z_pre hN hKc hPc hDc U hU hW⟩⟩ rfl rfl hl.1 rfl (lv_room (Nat.le_of_ble_eq_true rfl)) d_MO_gather_146 ⟨Nat.zero_le _, Nat.zero_le _⟩) hD hS hA (fun H locs hP hD hS => ?_)
                      refine lv_iinc (v := (x1'' + (1 : Int32))) (lv' := [(1, .int (x1'' + (1 : Int32))), (0, .ref (a 0))]) hx hb d_MO_gather_149 hl (k := 1) rfl rfl (by decide) rfl (fun ls hl => ?_)
                      refine lv_goto (tgt := 120) hx hb d_MO_gather_152 (by decide) ?_
                      exact ih120 u0.1 u0.2 (x1'' + (1 : Int32)) hf H locs ls hP hD hS (lv_sub hl [1, 0] rfl)
              exact loop120 N zmet'' zrow'' (0 : Int32) hf H locs ls hP hD hS (lv_sub hl [1, 0] rfl)
            · have hf := z_f c2 hf
              refine lv_bipush (v := (nI 12)) hx hb d_MO_gather_58 (by decide) ?_
              refine lv_iload_n hx hb d_MO_gather_60 rfl (lv_at hl 1 rfl) ?_
              refine lv_imul hx hb d_MO_gather_61 ?_
              refine lv_istore_n (lv' := [(2, .int ((nI 12) * x1')), (0, .ref (a 0)), (1, .int x1')]) hx hb d_MO_gather_62 rfl hl (by decide) rfl (fun ls hl => ?_)
              have loop63 : ∀ (n : Nat) (zmet''' : Int32) (zrow''' : Nat → Int64) (x2'' : Int32), pf_MO_gather_L63 N (pf_MO_gather_L50 N zsteps zholds zstaged zisOpen zstagedContent zstagedLazy zhold n50) zstaged zisOpen zstagedContent zstagedLazy x1' n zmet''' zrow''' x2'' = some y → ∀ (H : Heap) (locs : List Loc) (ls : Array Slot), va_P (dC, dI) zCl (w_MO a k zpaths zsteps zcached zholds zinside zowner zmaker zcontent zruns zisThere ztarget zplace zrun zstaged zisOpen zstagedAt zstagedContent zstagedRuns zstagedLazy zisDirty zcache zhold zmet''' zrow''') H → va_D (va_A (w_MO a k zpaths zsteps zcached zholds zinside zowner zmaker zcontent zruns zisThere ztarget zplace zrun zstaged zisOpen zstagedAt zstagedContent zstagedRuns zstagedLazy zisDirty zcache zhold zmet zrow) s.heap.size) (w_MO a k zpaths zsteps zcached zholds zinside zowner zmaker zcontent zruns zisThere ztarget zplace zrun zstaged zisOpen zstagedAt zstagedContent zstagedRuns zstagedLazy zisDirty zcache zhold zmet''' zrow''') → va_S (va_A (w_MO a k zpaths zsteps zcached zholds zinside zowner zmaker zcontent zruns zisThere ztarget zplace zrun zstaged zisOpen zstagedAt zstagedContent zstagedRuns zstagedLazy zisDirty zcache zhold zmet zrow) s.heap.size) s.heap H locs → lv_has ls 3 [(0, .ref (a 0)), (1, .int x1'), (2, .int x2'')] → W p l e (headSpec ww_MO_gather ({ frames := 1, cells := 0, slots := 0, locals := 22 })).room s m ([.ref (a 0)] : List Value).toArray below meth c H locs 0 0 (MQ below (zQv (dC, dI) zCl (w_MO a k zpaths zsteps zcached zholds zinside zowner zmaker zcontent zruns zisThere ztarget zplace zrun zstaged zisOpen zstagedAt zstagedContent zstagedRuns zstagedLazy zisDirty zcache zhold zmet zrow) s.heap.size (w_MO a k zpaths zsteps zcached zholds zinside zowner zmaker zcontent zruns zisThere ztarget zplace zrun zstaged zisOpen zstagedAt zstagedContent zstagedRuns zstagedLazy zisDirty zcache zhold y.1 y.2)) ([.ref (a 0)] : List Value).toArray s 0 0 (va_A (w_MO a k zpaths zsteps zcached zholds zinside zowner zmaker zcontent zruns zisThere ztarget zplace zrun zstaged zisOpen zstagedAt zstagedContent zstagedRuns zstagedLazy zisDirty zcache zhold zmet zrow) s.heap.size)) (F0 m 63 ls []) := by
                intro n63
                induction n63 with
                | zero => intro zmet''' zrow''' x2'' hf; rw [pf_MO_gather_L63.eq_1] at hf; cases hf
                | succ n63 ih63 =>
                  intro zmet''' zrow''' x2'' hf H locs ls hP hD hS hl
                  rw [pf_MO_gather_L63.eq_2] at hf
                  refine lv_iload_n hx hb d_MO_gather_63 rfl (lv_at hl 2 rfl) ?_
                  refine lv_bipush (v := (nI 12)) hx hb d_MO_gather_64 (by decide) ?_
                  refine lv_iload_n hx hb d_MO_gather_66 rfl (lv_at hl 1 rfl) ?_
                  refine lv_imul hx hb d_MO_gather_67 ?_
                  refine lv_aload_n hx hb d_MO_gather_68 rfl (lv_at hl 0 rfl) ?_
                  refine va_get (D := (dC, dI)) (ci := 7) (v := .ref (a 10)) (C := R_MO) (T := F_MO) (N := 24) hx hb hts (fun w h => List.mem_cons_of_mem _ (in_MO w h)) hown hK hP 0 rfl rfl 13 (by decide) (hts _ (List.mem_cons_of_mem _ k_2_174)) (fun _ h9 => h9) rfl d_MO_gather_69 ?_
                  refine lv_iload_n hx hb d_MO_gather_72 rfl (lv_at hl 1 rfl) ?_
                  obtain ⟨g7, hf⟩ := z_gz hf
                  refine va_iald hx hb hK hP 10 9 rfl rfl g7 d_MO_gather_73 ?_
                  refine lv_iadd hx hb d_MO_gather_74 ?_
                  refine lv_icmp_ge (tgt := 112) hx hb d_MO_gather_75 (by decide) (fun c8 => ?_) (fun c8 => ?_)
                  · have hf := z_t c8 hf
                    refine lv_iinc (v := (x1' + (1 : Int32))) (lv' := [(1, .int (x1' + (1 : Int32))), (0, .ref (a 0)), (2, .int x2'')]) hx hb d_MO_gather_112 hl (k := 1) rfl rfl (by decide) rfl (fun ls hl => ?_)
                    refine lv_goto (tgt := 50) hx hb d_MO_gather_115 (by decide) ?_
                    exact ih50 zmet''' zrow''' (x1' + (1 : Int32)) hf H locs ls hP hD hS (lv_sub hl [1, 0] rfl)
                  · have hf := z_f c8 hf
                    refine lv_aload_n hx hb d_MO_gather_78 rfl (lv_at hl 0 rfl) ?_
                    refine va_get (D := (dC, dI)) (ci := 7) (v := .ref (a 11)) (C := R_MO) (T := F_MO) (N := 24) hx hb hts (fun w h => List.mem_cons_of_mem _ (in_MO w h)) hown hK hP 0 rfl rfl 14 (by decide) (hts _ (List.mem_cons_of_mem _ k_2_175)) (fun _ h9 => h9) rfl d_MO_gather_79 ?_
                    refine lv_iload_n hx hb d_MO_gather_82 rfl (lv_at hl 1 rfl) ?_
                    obtain ⟨g9, hf⟩ := z_gz hf
                    refine va_zald hx hb hK hP 11 10 rfl rfl g9 d_MO_gather_83 ?_
                    refine lv_if_eq (tgt := 112) hx hb d_MO_gather_84 (by decide) (fun c10 => ?_) (fun c10 => ?_)
                    · have hf := z_t c10 hf
                      refine lv_iinc (v := (x1' + (1 : Int32))) (lv' := [(1, .int (x1' + (1 : Int32))), (0, .ref (a 0)), (2, .int x2'')]) hx hb d_MO_gather_112 hl (k := 1) rfl rfl (by decide) rfl (fun ls hl => ?_)
                      refine lv_goto (tgt := 50) hx hb d_MO_gather_115 (by decide) ?_
                      exact ih50 zmet''' zrow''' (x1' + (1 : Int32)) hf H locs ls hP hD hS (lv_sub hl [1, 0] rfl)
                    · have hf := z_f c10 hf
                      refine lv_aload_n hx hb d_MO_gather_87 rfl (lv_at hl 0 rfl) ?_
                      refine va_get (D := (dC, dI)) (ci := 7) (v := .ref (a 15)) (C := R_MO) (T := F_MO) (N := 24) hx hb hts (fun w h => List.mem_cons_of_mem _ (in_MO w h)) hown hK hP 0 rfl rfl 18 (by decide) (hts _ (List.mem_cons_of_mem _ k_2_179)) (fun _ h9 => h9) rfl d_MO_gather_88 ?_
                      refine lv_iload_n hx hb d_MO_gather_91 rfl (lv_at hl 2 rfl) ?_
                      obtain ⟨g11, hf⟩ := z_gz hf
                      refine va_zald hx hb hK hP 15 14 rfl rfl g11 d_MO_gather_92 ?_
                      refine lv_if_ne (tgt := 106) hx hb d_MO_gather_93 (by decide) (fun c12 => ?_) (fun c12 => ?_)
                      · have hf := z_t c12 hf
                        refine lv_iinc (v := (x2'' + (1 : Int32))) (lv' := [(2, .int (x2'' + (1 : Int32))), (0, .ref (a 0)), (1, .int x1')]) hx hb d_MO_gather_106 hl (k := 2) rfl rfl (by decide) rfl (fun ls hl => ?_)
                        refine lv_goto (tgt := 63) hx hb d_MO_gather_109 (by decide) ?_
                        exact ih63 zmet''' zrow''' (x2'' + (1 : Int32)) hf H locs ls hP hD hS (lv_sub hl [1, 2, 0] rfl)
                      · have hf := z_fn c12 hf
                        refine lv_aload_n hx hb d_MO_gather_96 rfl (lv_at hl 0 rfl) ?_
                        refine lv_aload_n hx hb d_MO_gather_97 rfl (lv_at hl 0 rfl) ?_
                        refine va_get (D := (dC, dI)) (ci := 7) (v := .ref (a 13)) (C := R_MO) (T := F_MO) (N := 24) hx hb hts (fun w h => List.mem_cons_of_mem _ (in_MO w h)) hown hK hP 0 rfl rfl 16 (by decide) (hts _ (List.mem_cons_of_mem _ k_2_177)) (fun _ h9 => h9) rfl d_MO_gather_98 ?_
                        refine lv_iload_n hx hb d_MO_gather_101 rfl (lv_at hl 2 rfl) ?_
                        obtain ⟨g13, hf⟩ := z_gz hf
                        refine va_lald hx hb hK hP 13 12 rfl rfl g13 d_MO_gather_102 ?_
                        obtain ⟨u1, hu1, hf⟩ := z_b hf
                        have hPc := hP
                        have hDc := hD
                        have hKc := hK
                        refine z_cwv (va_runV (As := [.long (zstagedContent x2''.toNatClampNeg)]) (rest := []) ⟨hx, hb, hml, hown, hts⟩ (c_MO_meets l dC dI N a k zpaths zsteps zcached zholds zinside zowner zmaker zcontent zruns zisThere ztarget zplace zrun zstaged zisOpen zstagedAt zstagedContent zstagedRuns zstagedLazy zisDirty zcache zhold zmet''' zrow''' (zstagedContent x2''.toNatClampNeg) hu1 H.size) (cwV 1 hts (zGV zsub_c k_3_101 k_3_103 s_MO_meets k_1_8 kc_MO_meets) rfl rfl rfl (by decide +kernel) ⟨Nat.le_of_ble_eq_true rfl, Nat.le_of_ble_eq_true rfl⟩) ⟨z_bl, va_recv hKc hPc (ci := 7) (q0 := 0) rfl rfl, fun U hU hW => ⟨rfl, z_pre hN hKc hPc hDc U hU hW⟩⟩ rfl rfl hl.1 rfl (lv_room (Nat.le_of_ble_eq_true rfl)) d_MO_gather_103 ⟨Nat.zero_le _, Nat.zero_le _⟩) hD hS hA (fun H locs hP hD hS => ?_)
                        refine lv_iinc (v := (x2'' + (1 : Int32))) (lv' := [(2, .int (x2'' + (1 : Int32))), (0, .ref (a 0)), (1, .int x1')]) hx hb d_MO_gather_106 hl (k := 2) rfl rfl (by decide) rfl (fun ls hl => ?_)
                        refine lv_goto (tgt := 63) hx hb d_MO_gather_109 (by decide) ?_
                        exact ih63 u1.1 u1.2 (x2'' + (1 : Int32)) hf H locs ls hP hD hS (lv_sub hl [1, 2, 0] rfl)
              exact loop63 N zmet'' zrow'' ((nI 12) * x1') hf H locs ls hP hD hS (lv_sub hl [1, 2, 0] rfl)
        exact loop50 N zmet' zrow' (0 : Int32) hf H locs ls hP hD hS (lv_sub hl [1, 0] rfl)
      · have hf := z_f c1 hf
        refine lv_aload_n hx hb d_MO_gather_14 rfl (lv_at hl 0 rfl) ?_
        refine va_get (D := (dC, dI)) (ci := 7) (v := .ref (a 2)) (C := R_MO) (T := F_MO) (N := 24) hx hb hts (fun w h => List.mem_cons_of_mem _ (in_MO w h)) hown hK hP 0 rfl rfl 5 (by decide) (hts _ (List.mem_cons_of_mem _ k_2_166)) (fun _ h9 => h9) rfl d_MO_gather_15 ?_
        refine lv_iload_n hx hb d_MO_gather_18 rfl (lv_at hl 1 rfl) ?_
        obtain ⟨g14, hf⟩ := z_gz hf
        refine va_iald hx hb hK hP 2 1 rfl rfl g14 d_MO_gather_19 ?_
        refine lv_if_eq (tgt := 42) hx hb d_MO_gather_20 (by decide) (fun c15 => ?_) (fun c15 => ?_)
        · have hf := z_t c15 hf
          refine lv_iinc (v := (x1 + (1 : Int32))) (lv' := [(1, .int (x1 + (1 : Int32))), (0, .ref (a 0))]) hx hb d_MO_gather_42 hl (k := 1) rfl rfl (by decide) rfl (fun ls hl => ?_)
          refine lv_goto (tgt := 7) hx hb d_MO_gather_45 (by decide) ?_
          exact ih7 zmet' zrow' (x1 + (1 : Int32)) hf H locs ls hP hD hS (lv_sub hl [1, 0] rfl)
        · have hf := z_f c15 hf
          refine lv_aload_n hx hb d_MO_gather_23 rfl (lv_at hl 0 rfl) ?_
          refine va_get (D := (dC, dI)) (ci := 7) (v := .ref (a 6)) (C := R_MO) (T := F_MO) (N := 24) hx hb hts (fun w h => List.mem_cons_of_mem _ (in_MO w h)) hown hK hP 0 rfl rfl 9 (by decide) (hts _ (List.mem_cons_of_mem _ k_2_170)) (fun _ h9 => h9) rfl d_MO_gather_24 ?_
          refine lv_iload_n hx hb d_MO_gather_27 rfl (lv_at hl 1 rfl) ?_
          obtain ⟨g16, hf⟩ := z_gz hf
          refine va_zald hx hb hK hP 6 5 rfl rfl g16 d_MO_gather_28 ?_
          refine lv_if_eq (tgt := 42) hx hb d_MO_gather_29 (by decide) (fun c17 => ?_) (fun c17 => ?_)
          · have hf := z_t c17 hf
            refine lv_iinc (v := (x1 + (1 : Int32))) (lv' := [(1, .int (x1 + (1 : Int32))), (0, .ref (a 0))]) hx hb d_MO_gather_42 hl (k := 1) rfl rfl (by decide) rfl (fun ls hl => ?_)
            refine lv_goto (tgt := 7) hx hb d_MO_gather_45 (by decide) ?_
            exact ih7 zmet' zrow' (x1 + (1 : Int32)) hf H locs ls hP hD hS (lv_sub hl [1, 0] rfl)
          · have hf := z_f c17 hf
            refine lv_aload_n hx hb d_MO_gather_32 rfl (lv_at hl 0 rfl) ?_
            refine lv_aload_n hx hb d_MO_gather_33 rfl (lv_at hl 0 rfl) ?_
            refine va_get (D := (dC, dI)) (ci := 7) (v := .ref (a 4)) (C := R_MO) (T := F_MO) (N := 24) hx hb hts (fun w h => List.mem_cons_of_mem _ (in_MO w h)) hown hK hP 0 rfl rfl 7 (by decide) (hts _ (List.mem_cons_of_mem _ k_2_168)) (fun _ h9 => h9) rfl d_MO_gather_34 ?_
            refine lv_iload_n hx hb d_MO_gather_37 rfl (lv_at hl 1 rfl) ?_
            obtain ⟨g18, hf⟩ := z_gz hf
            refine va_lald hx hb hK hP 4 3 rfl rfl g18 d_MO_gather_38 ?_
            obtain ⟨u2, hu2, hf⟩ := z_b hf
            have hPc := hP
            have hDc := hD
            have hKc := hK
            refine z_cwv (va_runV (As := [.long (zcontent x1.toNatClampNeg)]) (rest := []) ⟨hx, hb, hml, hown, hts⟩ (c_MO_meets l dC dI N a k zpaths zsteps zcached zholds zinside zowner zmaker zcontent zruns zisThere ztarget zplace zrun zstaged zisOpen zstagedAt zstagedContent zstagedRuns zstagedLazy zisDirty zcache zhold zmet' zrow' (zcontent x1.toNatClampNeg) hu2 H.size) (cwV 1 hts (zGV zsub_c k_3_101 k_3_103 s_MO_meets k_1_8 kc_MO_meets) rfl rfl rfl (by decide +kernel) ⟨Nat.le_of_ble_eq_true rfl, Nat.le_of_ble_eq_true rfl⟩) ⟨z_bl, va_recv hKc hPc (ci := 7) (q0 := 0) rfl rfl, fun U hU hW => ⟨rfl, z_pre hN hKc hPc hDc U hU hW⟩⟩ rfl rfl hl.1 rfl (lv_room (Nat.le_of_ble_eq_true rfl)) d_MO_gather_39 ⟨Nat.zero_le _, Nat.zero_le _⟩) hD hS hA (fun H locs hP hD hS => ?_)
            refine lv_iinc (v := (x1 + (1 : Int32))) (lv' := [(1, .int (x1 + (1 : Int32))), (0, .ref (a 0))]) hx hb d_MO_gather_42 hl (k := 1) rfl rfl (by decide) rfl (fun ls hl => ?_)
            refine lv_goto (tgt := 7) hx hb d_MO_gather_45 (by decide) ?_
            exact ih7 u2.1 u2.2 (x1 + (1 : Int32)) hf H locs ls hP hD hS (lv_sub hl [1, 0] rfl)
  exact loop7 N (0 : Int32) zrow (0 : Int32) hf H locs ls hP hD hS (lv_sub hl [1, 0] rfl)
set_option maxHeartbeats 4000000 in
set_option maxRecDepth 100000 in
theorem c_MO_copies (l : Launch) (dC : Nat → ClassId) (dI : Nat → Nat → Nat) (N : Nat) (a : Nat → Nat) (k : Nat → ClassId) (zpaths : Int32) (zsteps : Int32) (zcached : Int32) (zholds : Int32) (zinside : Nat → Int32) (zowner : Nat → Int32) (zmaker : Nat → Int32) (zcontent : Nat → Int64) (zruns : Nat → Int32) (zisThere : Nat → Int32) (ztarget : Nat → Int32) (zplace : Nat → Int32) (zrun : Nat → Int32) (zstaged : Nat → Int32) (zisOpen : Nat → Int32) (zstagedAt : Nat → Int32) (zstagedContent : Nat → Int64) (zstagedRuns : Nat → Int32) (zstagedLazy : Nat → Int32) (zisDirty : Nat → Int32) (zcache : Nat → Int64) (zhold : Nat → Int64) (zmet : Int32) (zrow : Nat → Int64) (p1 : Int64) {y : (Int32 × Int32 × (Nat → Int64))} (hf : pf_MO_copies N zsteps zholds zowner zcontent zisThere zstaged zisOpen zstagedContent zstagedLazy zhold zmet zrow p1 = some y) (sz : Nat) : Met l y_MO_copies ww_MO_copies ({ frames := 2, cells := 0, slots := 0, locals := 44 }) (va_Pc [.ref (a 0), .long p1] (zB (dC, dI) zCl (t_MO k) (w_MO a k zpaths zsteps zcached zholds zinside zowner zmaker zcontent zruns zisThere ztarget zplace zrun zstaged zisOpen zstagedAt zstagedContent zstagedRuns zstagedLazy zisDirty zcache zhold zmet zrow) sz)) (zQi (dC, dI) zCl (w_MO a k zpaths zsteps zcached zholds zinside zowner zmaker zcontent zruns zisThere ztarget zplace zrun zstaged zisOpen zstagedAt zstagedContent zstagedRuns zstagedLazy zisDirty zcache zhold zmet zrow) sz y.1 (w_MO a k zpaths zsteps zcached zholds zinside zowner zmaker zcontent zruns zisThere ztarget zplace zrun zstaged zisOpen zstagedAt zstagedContent zstagedRuns zstagedLazy zisDirty zcache zhold y.2.1 y.2.2)) 0 0 (va_A (w_MO a k zpaths zsteps zcached zholds zinside zowner zmaker zcontent zruns zisThere ztarget zplace zrun zstaged zisOpen zstagedAt zstagedContent zstagedRuns zstagedLazy zisDirty zcache zhold zmet zrow) sz) := by
  refine Met.ofW (cc := b_MO_copies) (maxL := 5) (ret := (some .int)) (by decide) rfl ?_
  intro p e s m args below meth c s₁ B hml hv
  obtain ⟨rfl, rfl, hP, hK, hD, hN⟩ := hv
  have hx := B.exec
  have hb := B.bytes
  have hr := B.returns
  have hts := atoms_spec (ws := ww_MO_copies) B.pre
  have hown : s.vm.findClass R_MO = some m.cls := findClass_of_methodNamed B.named
  have hlocks := B.notSynchronized
  have hA : ∀ q : Nat, s.heap.size ≤ q → va_A (w_MO a k zpaths zsteps zcached zholds zinside zowner zmaker zcontent zruns zisThere ztarget zplace zrun zstaged zisOpen zstagedAt zstagedContent zstagedRuns zstagedLazy zisDirty zcache zhold zmet zrow) s.heap.size q := fun q h => Or.inr h
  refine z_start (lv := [(0, .ref (a 0)), (1, .long p1)]) (Nat.le_of_ble_eq_true rfl) rfl hP hD (fun H locs ls hP hD hS hl => ?_)
  unfold pf_MO_copies at hf
  refine lv_aload_n hx hb d_MO_copies_0 rfl (lv_at hl 0 rfl) ?_
  obtain ⟨u0, hu0, hf⟩ := z_b hf
  have hPc := hP
  have hDc := hD
  have hKc := hK
  refine z_cwv (va_runV (As := []) (rest := []) ⟨hx, hb, hml, hown, hts⟩ (c_MO_gather l dC dI N a k zpaths zsteps zcached zholds zinside zowner zmaker zcontent zruns zisThere ztarget zplace zrun zstaged zisOpen zstagedAt zstagedContent zstagedRuns zstagedLazy zisDirty zcache zhold zmet zrow hu0 H.size) (cwV 0 hts (zGV zsub_c k_3_97 k_3_99 s_MO_gather k_1_8 kc_MO_gather) rfl rfl rfl (by decide +kernel) ⟨Nat.le_of_ble_eq_true rfl, Nat.le_of_ble_eq_true rfl⟩) ⟨z_bl, va_recv hKc hPc (ci := 7) (q0 := 0) rfl rfl, fun U hU hW => ⟨rfl, z_pre hN hKc hPc hDc U hU hW⟩⟩ rfl rfl hl.1 rfl (lv_room (Nat.le_of_ble_eq_true rfl)) d_MO_copies_1 ⟨Nat.zero_le _, Nat.zero_le _⟩) hD hS hA (fun H locs hP hD hS => ?_)
  refine lv_iconst (v := (0 : Int32)) hx hb d_MO_copies_4 (by decide) ?_
  refine lv_istore_n (lv' := [(3, .int (0 : Int32)), (0, .ref (a 0)), (1, .long p1)]) hx hb d_MO_copies_5 rfl hl (by decide) rfl (fun ls hl => ?_)
  refine lv_iconst (v := (0 : Int32)) hx hb d_MO_copies_6 (by decide) ?_
  refine lv_istore (lv' := [(4, .int (0 : Int32)), (3, .int (0 : Int32)), (0, .ref (a 0)), (1, .long p1)]) hx hb d_MO_copies_7 hl (by decide) rfl (fun ls hl => ?_)
  have loop9 : ∀ (zmet' : Int32) (zrow' : Nat → Int64) (n : Nat) (x3 : Int32) (x4 : Int32), pf_MO_copies_L9 N zmet' zrow' p1 n x3 x4 = some y → ∀ (H : Heap) (locs : List Loc) (ls : Array Slot), va_P (dC, dI) zCl (w_MO a k zpaths zsteps zcached zholds zinside zowner zmaker zcontent zruns zisThere ztarget zplace zrun zstaged zisOpen zstagedAt zstagedContent zstagedRuns zstagedLazy zisDirty zcache zhold zmet' zrow') H → va_D (va_A (w_MO a k zpaths zsteps zcached zholds zinside zowner zmaker zcontent zruns zisThere ztarget zplace zrun zstaged zisOpen zstagedAt zstagedContent zstagedRuns zstagedLazy zisDirty zcache zhold zmet zrow) s.heap.size) (w_MO a k zpaths zsteps zcached zholds zinside zowner zmaker zcontent zruns zisThere ztarget zplace zrun zstaged zisOpen zstagedAt zstagedContent zstagedRuns zstagedLazy zisDirty zcache zhold zmet' zrow') → va_S (va_A (w_MO a k zpaths zsteps zcached zholds zinside zowner zmaker zcontent zruns zisThere ztarget zplace zrun zstaged zisOpen zstagedAt zstagedContent zstagedRuns zstagedLazy zisDirty zcache zhold zmet zrow) s.heap.size) s.heap H locs → lv_has ls 5 [(0, .ref (a 0)), (1, .long p1), (3, .int x3), (4, .int x4)] → W p l e (headSpec ww_MO_copies ({ frames := 2, cells := 0, slots := 0, locals := 44 })).room s m ([.ref (a 0), .long p1] : List Value).toArray below meth c H locs 0 0 (MQ below (zQi (dC, dI) zCl (w_MO a k zpaths zsteps zcached zholds zinside zowner zmaker zcontent zruns zisThere ztarget zplace zrun zstaged zisOpen zstagedAt zstagedContent zstagedRuns zstagedLazy zisDirty zcache zhold zmet zrow) s.heap.size y.1 (w_MO a k zpaths zsteps zcached zholds zinside zowner zmaker zcontent zruns zisThere ztarget zplace zrun zstaged zisOpen zstagedAt zstagedContent zstagedRuns zstagedLazy zisDirty zcache zhold y.2.1 y.2.2)) ([.ref (a 0), .long p1] : List Value).toArray s 0 0 (va_A (w_MO a k zpaths zsteps zcached zholds zinside zowner zmaker zcontent zruns zisThere ztarget zplace zrun zstaged zisOpen zstagedAt zstagedContent zstagedRuns zstagedLazy zisDirty zcache zhold zmet zrow) s.heap.size)) (F0 m 9 ls []) := by
    intro zmet' zrow' n9
    induction n9 with
    | zero => intro x3 x4 hf; rw [pf_MO_copies_L9.eq_1] at hf; cases hf
    | succ n9 ih9 =>
      intro x3 x4 hf H locs ls hP hD hS hl
      rw [pf_MO_copies_L9.eq_2] at hf
      refine lv_iload hx hb d_MO_copies_9 (lv_at hl 3 rfl) ?_
      refine lv_aload_n hx hb d_MO_copies_11 rfl (lv_at hl 0 rfl) ?_
      refine va_get (D := (dC, dI)) (ci := 7) (v := .int zmet') (C := R_MO) (T := F_MO) (N := 24) hx hb hts (fun w h => List.mem_cons_of_mem _ (in_MO w h)) hown hK hP 0 rfl rfl 22 (by decide) (hts _ (List.mem_cons_of_mem _ k_2_183)) (fun _ h9 => h9) rfl d_MO_copies_12 ?_
      refine lv_icmp_ge (tgt := 44) hx hb d_MO_copies_15 (by decide) (fun c1 => ?_) (fun c1 => ?_)
      · have hf := z_t c1 hf
        refine lv_iload_n hx hb d_MO_copies_44 rfl (lv_at hl 2 rfl) ?_
        obtain rfl := Option.some.inj hf
        exact z_iret hx hb hr hP hD hS d_MO_copies_45 hlocks
      · have hf := z_f c1 hf
        refine lv_iload_n hx hb d_MO_copies_18 rfl (lv_at hl 2 rfl) ?_
        refine lv_aload_n hx hb d_MO_copies_19 rfl (lv_at hl 0 rfl) ?_
        refine va_get (D := (dC, dI)) (ci := 7) (v := .ref (a 19)) (C := R_MO) (T := F_MO) (N := 24) hx hb hts (fun w h => List.mem_cons_of_mem _ (in_MO w h)) hown hK hP 0 rfl rfl 23 (by decide) (hts _ (List.mem_cons_of_mem _ k_2_184)) (fun _ h9 => h9) rfl d_MO_copies_20 ?_
        refine lv_iload hx hb d_MO_copies_23 (lv_at hl 3 rfl) ?_
        obtain ⟨g2, hf⟩ := z_gz hf
        refine va_lald hx hb hK hP 19 18 rfl rfl g2 d_MO_copies_25 ?_
        refine lv_lload_n hx hb d_MO_copies_26 rfl (lv_at hl 1 rfl) ?_
        refine W.lcmp hx hb d_MO_copies_27 ?_
        refine lv_if_ne (tgt := 35) hx hb d_MO_copies_28 (by decide) (fun c3 => ?_) (fun c3 => ?_)
        · have hf := z_t c3 hf
          refine lv_iconst (v := (0 : Int32)) hx hb d_MO_copies_35 (by decide) ?_
          refine lv_iadd hx hb d_MO_copies_36 ?_
          refine lv_istore_n (lv' := [(3, .int (x3 + (0 : Int32))), (0, .ref (a 0)), (1, .long p1), (4, .int x4)]) hx hb d_MO_copies_37 rfl hl (by decide) rfl (fun ls hl => ?_)
          refine lv_iinc (v := (x4 + (1 : Int32))) (lv' := [(4, .int (x4 + (1 : Int32))), (3, .int (x3 + (0 : Int32))), (0, .ref (a 0)), (1, .long p1)]) hx hb d_MO_copies_38 hl (k := 3) rfl rfl (by decide) rfl (fun ls hl => ?_)
          refine lv_goto (tgt := 9) hx hb d_MO_copies_41 (by decide) ?_
          exact ih9 (x3 + (0 : Int32)) (x4 + (1 : Int32)) hf H locs ls hP hD hS (lv_sub hl [2, 3, 1, 0] rfl)
        · have hf := z_fn c3 hf
          refine lv_iconst (v := (1 : Int32)) hx hb d_MO_copies_31 (by decide) ?_
          refine lv_goto (tgt := 36) hx hb d_MO_copies_32 (by decide) ?_
          refine lv_iadd hx hb d_MO_copies_36 ?_
          refine lv_istore_n (lv' := [(3, .int (x3 + (1 : Int32))), (0, .ref (a 0)), (1, .long p1), (4, .int x4)]) hx hb d_MO_copies_37 rfl hl (by decide) rfl (fun ls hl => ?_)
          refine lv_iinc (v := (x4 + (1 : Int32))) (lv' := [(4, .int (x4 + (1 : Int32))), (3, .int (x3 + (1 : Int32))), (0, .ref (a 0)), (1, .long p1)]) hx hb d_MO_copies_38 hl (k := 3) rfl rfl (by decide) rfl (fun ls hl => ?_)
          refine lv_goto (tgt := 9) hx hb d_MO_copies_41 (by decide) ?_
          exact ih9 (x3 + (1 : Int32)) (x4 + (1 : Int32)) hf H locs ls hP hD hS (lv_sub hl [2, 3, 1, 0] rfl)
  exact loop9 u0.1 u0.2 N (0 : Int32) (0 : Int32) hf H locs ls hP hD hS (lv_sub hl [2, 3, 1, 0] rfl)
set_option maxHeartbeats 4000000 in
set_option maxRecDepth 100000 in
theorem c_MO_stored (l : Launch) (dC : Nat → ClassId) (dI : Nat → Nat → Nat) (N : Nat) (a : Nat → Nat) (k : Nat → ClassId) (zpaths : Int32) (zsteps : Int32) (zcached : Int32) (zholds : Int32) (zinside : Nat → Int32) (zowner : Nat → Int32) (zmaker : Nat → Int32) (zcontent : Nat → Int64) (zruns : Nat → Int32) (zisThere : Nat → Int32) (ztarget : Nat → Int32) (zplace : Nat → Int32) (zrun : Nat → Int32) (zstaged : Nat → Int32) (zisOpen : Nat → Int32) (zstagedAt : Nat → Int32) (zstagedContent : Nat → Int64) (zstagedRuns : Nat → Int32) (zstagedLazy : Nat → Int32) (zisDirty : Nat → Int32) (zcache : Nat → Int64) (zhold : Nat → Int64) (zmet : Int32) (zrow : Nat → Int64) {y : (Int32 × Int32 × (Nat → Int64))} (hf : pf_MO_stored N zsteps zholds zowner zcontent zisThere zstaged zisOpen zstagedContent zstagedLazy zhold zmet zrow = some y) (sz : Nat) : Met l y_MO_stored ww_MO_stored ({ frames := 2, cells := 0, slots := 0, locals := 44 }) (va_Pc [.ref (a 0)] (zB (dC, dI) zCl (t_MO k) (w_MO a k zpaths zsteps zcached zholds zinside zowner zmaker zcontent zruns zisThere ztarget zplace zrun zstaged zisOpen zstagedAt zstagedContent zstagedRuns zstagedLazy zisDirty zcache zhold zmet zrow) sz)) (zQi (dC, dI) zCl (w_MO a k zpaths zsteps zcached zholds zinside zowner zmaker zcontent zruns zisThere ztarget zplace zrun zstaged zisOpen zstagedAt zstagedContent zstagedRuns zstagedLazy zisDirty zcache zhold zmet zrow) sz y.1 (w_MO a k zpaths zsteps zcached zholds zinside zowner zmaker zcontent zruns zisThere ztarget zplace zrun zstaged zisOpen zstagedAt zstagedContent zstagedRuns zstagedLazy zisDirty zcache zhold y.2.1 y.2.2)) 0 0 (va_A (w_MO a k zpaths zsteps zcached zholds zinside zowner zmaker zcontent zruns zisThere ztarget zplace zrun zstaged zisOpen zstagedAt zstagedContent zstagedRuns zstagedLazy zisDirty zcache zhold zmet zrow) sz) := by
  refine Met.ofW (cc := b_MO_stored) (maxL := 5) (ret := (some .int)) (by decide) rfl ?_
  intro p e s m args below meth c s₁ B hml hv
  obtain ⟨rfl, rfl, hP, hK, hD, hN⟩ := hv
  have hx := B.exec
  have hb := B.bytes
  have hr := B.returns
  have hts := atoms_spec (ws := ww_MO_stored) B.pre
  have hown : s.vm.findClass R_MO = some m.cls := findClass_of_methodNamed B.named
  have hlocks := B.notSynchronized
  have hA : ∀ q : Nat, s.heap.size ≤ q → va_A (w_MO a k zpaths zsteps zcached zholds zinside zowner zmaker zcontent zruns zisThere ztarget zplace zrun zstaged zisOpen zstagedAt zstagedContent zstagedRuns zstagedLazy zisDirty zcache zhold zmet zrow) s.heap.size q := fun q h => Or.inr h
  refine z_start (lv := [(0, .ref (a 0))]) (Nat.le_of_ble_eq_true rfl) rfl hP hD (fun H locs ls hP hD hS hl => ?_)
  unfold pf_MO_stored at hf
  refine lv_aload_n hx hb d_MO_stored_0 rfl (lv_at hl 0 rfl) ?_
  obtain ⟨u0, hu0, hf⟩ := z_b hf
  have hPc := hP
  have hDc := hD
  have hKc := hK
  refine z_cwv (va_runV (As := []) (rest := []) ⟨hx, hb, hml, hown, hts⟩ (c_MO_gather l dC dI N a k zpaths zsteps zcached zholds zinside zowner zmaker zcontent zruns zisThere ztarget zplace zrun zstaged zisOpen zstagedAt zstagedContent zstagedRuns zstagedLazy zisDirty zcache zhold zmet zrow hu0 H.size) (cwV 0 hts (zGV zsub_c k_3_97 k_3_99 s_MO_gather k_1_8 kc_MO_gather) rfl rfl rfl (by decide +kernel) ⟨Nat.le_of_ble_eq_true rfl, Nat.le_of_ble_eq_true rfl⟩) ⟨z_bl, va_recv hKc hPc (ci := 7) (q0 := 0) rfl rfl, fun U hU hW => ⟨rfl, z_pre hN hKc hPc hDc U hU hW⟩⟩ rfl rfl hl.1 rfl (lv_room (Nat.le_of_ble_eq_true rfl)) d_MO_stored_1 ⟨Nat.zero_le _, Nat.zero_le _⟩) hD hS hA (fun H locs hP hD hS => ?_)
  refine lv_iconst (v := (0 : Int32)) hx hb d_MO_stored_4 (by decide) ?_
  refine lv_istore_n (lv' := [(1, .int (0 : Int32)), (0, .ref (a 0))]) hx hb d_MO_stored_5 rfl hl (by decide) rfl (fun ls hl => ?_)
  refine lv_iconst (v := (0 : Int32)) hx hb d_MO_stored_6 (by decide) ?_
  refine lv_istore_n (lv' := [(2, .int (0 : Int32)), (1, .int (0 : Int32)), (0, .ref (a 0))]) hx hb d_MO_stored_7 rfl hl (by decide) rfl (fun ls hl => ?_)
  have loop8 : ∀ (zmet' : Int32) (zrow' : Nat → Int64) (n : Nat) (x1 : Int32) (x2 : Int32), pf_MO_stored_L8 N zmet' zrow' n x1 x2 = some y → ∀ (H : Heap) (locs : List Loc) (ls : Array Slot), va_P (dC, dI) zCl (w_MO a k zpaths zsteps zcached zholds zinside zowner zmaker zcontent zruns zisThere ztarget zplace zrun zstaged zisOpen zstagedAt zstagedContent zstagedRuns zstagedLazy zisDirty zcache zhold zmet' zrow') H → va_D (va_A (w_MO a k zpaths zsteps zcached zholds zinside zowner zmaker zcontent zruns zisThere ztarget zplace zrun zstaged zisOpen zstagedAt zstagedContent zstagedRuns zstagedLazy zisDirty zcache zhold zmet zrow) s.heap.size) (w_MO a k zpaths zsteps zcached zholds zinside zowner zmaker zcontent zruns zisThere ztarget zplace zrun zstaged zisOpen zstagedAt zstagedContent zstagedRuns zstagedLazy zisDirty zcache zhold zmet' zrow') → va_S (va_A (w_MO a k zpaths zsteps zcached zholds zinside zowner zmaker zcontent zruns zisThere ztarget zplace zrun zstaged zisOpen zstagedAt zstagedContent zstagedRuns zstagedLazy zisDirty zcache zhold zmet zrow) s.heap.size) s.heap H locs → lv_has ls 5 [(0, .ref (a 0)), (1, .int x1), (2, .int x2)] → W p l e (headSpec ww_MO_stored ({ frames := 2, cells := 0, slots := 0, locals := 44 })).room s m ([.ref (a 0)] : List Value).toArray below meth c H locs 0 0 (MQ below (zQi (dC, dI) zCl (w_MO a k zpaths zsteps zcached zholds zinside zowner zmaker zcontent zruns zisThere ztarget zplace zrun zstaged zisOpen zstagedAt zstagedContent zstagedRuns zstagedLazy zisDirty zcache zhold zmet zrow) s.heap.size y.1 (w_MO a k zpaths zsteps zcached zholds zinside zowner zmaker zcontent zruns zisThere ztarget zplace zrun zstaged zisOpen zstagedAt zstagedContent zstagedRuns zstagedLazy zisDirty zcache zhold y.2.1 y.2.2)) ([.ref (a 0)] : List Value).toArray s 0 0 (va_A (w_MO a k zpaths zsteps zcached zholds zinside zowner zmaker zcontent zruns zisThere ztarget zplace zrun zstaged zisOpen zstagedAt zstagedContent zstagedRuns zstagedLazy zisDirty zcache zhold zmet zrow) s.heap.size)) (F0 m 8 ls []) := by
    intro zmet' zrow' n8
    induction n8 with
    | zero => intro x1 x2 hf; rw [pf_MO_stored_L8.eq_1] at hf; cases hf
    | succ n8 ih8 =>
      intro x1 x2 hf H locs ls hP hD hS hl
      rw [pf_MO_stored_L8.eq_2] at hf
      refine lv_iload_n hx hb d_MO_stored_8 rfl (lv_at hl 2 rfl) ?_
      refine lv_aload_n hx hb d_MO_stored_9 rfl (lv_at hl 0 rfl) ?_
      refine va_get (D := (dC, dI)) (ci := 7) (v := .int zmet') (C := R_MO) (T := F_MO) (N := 24) hx hb hts (fun w h => List.mem_cons_of_mem _ (in_MO w h)) hown hK hP 0 rfl rfl 22 (by decide) (hts _ (List.mem_cons_of_mem _ k_2_183)) (fun _ h9 => h9) rfl d_MO_stored_10 ?_
      refine lv_icmp_ge (tgt := 78) hx hb d_MO_stored_13 (by decide) (fun c1 => ?_) (fun c1 => ?_)
      · have hf := z_t c1 hf
        refine lv_iload_n hx hb d_MO_stored_78 rfl (lv_at hl 1 rfl) ?_
        obtain rfl := Option.some.inj hf
        exact z_iret hx hb hr hP hD hS d_MO_stored_79 hlocks
      · have hf := z_f c1 hf
        refine lv_iconst (v := (1 : Int32)) hx hb d_MO_stored_16 (by decide) ?_
        refine lv_istore_n (lv' := [(3, .int (1 : Int32)), (0, .ref (a 0)), (1, .int x1), (2, .int x2)]) hx hb d_MO_stored_17 rfl hl (by decide) rfl (fun ls hl => ?_)
        refine lv_iconst (v := (0 : Int32)) hx hb d_MO_stored_18 (by decide) ?_
        refine lv_istore (lv' := [(4, .int (0 : Int32)), (3, .int (1 : Int32)), (0, .ref (a 0)), (1, .int x1), (2, .int x2)]) hx hb d_MO_stored_19 hl (by decide) rfl (fun ls hl => ?_)
        have loop21 : ∀ (n : Nat) (x3' : Int32) (x4' : Int32), pf_MO_stored_L21 N (pf_MO_stored_L8 N zmet' zrow' n8) zrow' x1 x2 n x3' x4' = some y → ∀ (H : Heap) (locs : List Loc) (ls : Array Slot), va_P (dC, dI) zCl (w_MO a k zpaths zsteps zcached zholds zinside zowner zmaker zcontent zruns zisThere ztarget zplace zrun zstaged zisOpen zstagedAt zstagedContent zstagedRuns zstagedLazy zisDirty zcache zhold zmet' zrow') H → va_D (va_A (w_MO a k zpaths zsteps zcached zholds zinside zowner zmaker zcontent zruns zisThere ztarget zplace zrun zstaged zisOpen zstagedAt zstagedContent zstagedRuns zstagedLazy zisDirty zcache zhold zmet zrow) s.heap.size) (w_MO a k zpaths zsteps zcached zholds zinside zowner zmaker zcontent zruns zisThere ztarget zplace zrun zstaged zisOpen zstagedAt zstagedContent zstagedRuns zstagedLazy zisDirty zcache zhold zmet' zrow') → va_S (va_A (w_MO a k zpaths zsteps zcached zholds zinside zowner zmaker zcontent zruns zisThere ztarget zplace zrun zstaged zisOpen zstagedAt zstagedContent zstagedRuns zstagedLazy zisDirty zcache zhold zmet zrow) s.heap.size) s.heap H locs → lv_has ls 5 [(0, .ref (a 0)), (1, .int x1), (2, .int x2), (3, .int x3'), (4, .int x4')] → W p l e (headSpec ww_MO_stored ({ frames := 2, cells := 0, slots := 0, locals := 44 })).room s m ([.ref (a 0)] : List Value).toArray below meth c H locs 0 0 (MQ below (zQi (dC, dI) zCl (w_MO a k zpaths zsteps zcached zholds zinside zowner zmaker zcontent zruns zisThere ztarget zplace zrun zstaged zisOpen zstagedAt zstagedContent zstagedRuns zstagedLazy zisDirty zcache zhold zmet zrow) s.heap.size y.1 (w_MO a k zpaths zsteps zcached zholds zinside zowner zmaker zcontent zruns zisThere ztarget zplace zrun zstaged zisOpen zstagedAt zstagedContent zstagedRuns zstagedLazy zisDirty zcache zhold y.2.1 y.2.2)) ([.ref (a 0)] : List Value).toArray s 0 0 (va_A (w_MO a k zpaths zsteps zcached zholds zinside zowner zmaker zcontent zruns zisThere ztarget zplace zrun zstaged zisOpen zstagedAt zstagedContent zstagedRuns zstagedLazy zisDirty zcache zhold zmet zrow) s.heap.size)) (F0 m 21 ls []) := by
          intro n21
          induction n21 with
          | zero => intro x3' x4' hf; rw [pf_MO_stored_L21.eq_1] at hf; cases hf
          | succ n21 ih21 =>
            intro x3' x4' hf H locs ls hP hD hS hl
            rw [pf_MO_stored_L21.eq_2] at hf
            refine lv_iload hx hb d_MO_stored_21 (lv_at hl 4 rfl) ?_
            refine lv_iload_n hx hb d_MO_stored_23 rfl (lv_at hl 2 rfl) ?_
            refine lv_icmp_ge (tgt := 60) hx hb d_MO_stored_24 (by decide) (fun c2 => ?_) (fun c2 => ?_)
            · have hf := z_t c2 hf
              refine lv_iload_n hx hb d_MO_stored_60 rfl (lv_at hl 1 rfl) ?_
              refine lv_iload_n hx hb d_MO_stored_61 rfl (lv_at hl 3 rfl) ?_
              refine lv_if_eq (tgt := 69) hx hb d_MO_stored_62 (by decide) (fun c3 => ?_) (fun c3 => ?_)
              · have hf := z_t c3 hf
                refine lv_iconst (v := (0 : Int32)) hx hb d_MO_stored_69 (by decide) ?_
                refine lv_iadd hx hb d_MO_stored_70 ?_
                refine lv_istore_n (lv' := [(1, .int (x1 + (0 : Int32))), (0, .ref (a 0)), (2, .int x2), (3, .int x3'), (4, .int x4')]) hx hb d_MO_stored_71 rfl hl (by decide) rfl (fun ls hl => ?_)
                refine lv_iinc (v := (x2 + (1 : Int32))) (lv' := [(2, .int (x2 + (1 : Int32))), (1, .int (x1 + (0 : Int32))), (0, .ref (a 0)), (3, .int x3'), (4, .int x4')]) hx hb d_MO_stored_72 hl (k := 2) rfl rfl (by decide) rfl (fun ls hl => ?_)
                refine lv_goto (tgt := 8) hx hb d_MO_stored_75 (by decide) ?_
                exact ih8 (x1 + (0 : Int32)) (x2 + (1 : Int32)) hf H locs ls hP hD hS (lv_sub hl [2, 1, 0] rfl)
              · have hf := z_f c3 hf
                refine lv_iconst (v := (1 : Int32)) hx hb d_MO_stored_65 (by decide) ?_
                refine lv_goto (tgt := 70) hx hb d_MO_stored_66 (by decide) ?_
                refine lv_iadd hx hb d_MO_stored_70 ?_
                refine lv_istore_n (lv' := [(1, .int (x1 + (1 : Int32))), (0, .ref (a 0)), (2, .int x2), (3, .int x3'), (4, .int x4')]) hx hb d_MO_stored_71 rfl hl (by decide) rfl (fun ls hl => ?_)
                refine lv_iinc (v := (x2 + (1 : Int32))) (lv' := [(2, .int (x2 + (1 : Int32))), (1, .int (x1 + (1 : Int32))), (0, .ref (a 0)), (3, .int x3'), (4, .int x4')]) hx hb d_MO_stored_72 hl (k := 2) rfl rfl (by decide) rfl (fun ls hl => ?_)
                refine lv_goto (tgt := 8) hx hb d_MO_stored_75 (by decide) ?_
                exact ih8 (x1 + (1 : Int32)) (x2 + (1 : Int32)) hf H locs ls hP hD hS (lv_sub hl [2, 1, 0] rfl)
            · have hf := z_f c2 hf
              refine lv_iload_n hx hb d_MO_stored_27 rfl (lv_at hl 3 rfl) ?_
              refine lv_if_eq (tgt := 52) hx hb d_MO_stored_28 (by decide) (fun c4 => ?_) (fun c4 => ?_)
              · have hf := z_t c4 hf
                refine lv_iconst (v := (0 : Int32)) hx hb d_MO_stored_52 (by decide) ?_
                refine lv_istore_n (lv' := [(3, .int (0 : Int32)), (0, .ref (a 0)), (1, .int x1), (2, .int x2), (4, .int x4')]) hx hb d_MO_stored_53 rfl hl (by decide) rfl (fun ls hl => ?_)
                refine lv_iinc (v := (x4' + (1 : Int32))) (lv' := [(4, .int (x4' + (1 : Int32))), (3, .int (0 : Int32)), (0, .ref (a 0)), (1, .int x1), (2, .int x2)]) hx hb d_MO_stored_54 hl (k := 4) rfl rfl (by decide) rfl (fun ls hl => ?_)
                refine lv_goto (tgt := 21) hx hb d_MO_stored_57 (by decide) ?_
                exact ih21 (0 : Int32) (x4' + (1 : Int32)) hf H locs ls hP hD hS (lv_sub hl [2, 3, 4, 1, 0] rfl)
              · have hf := z_f c4 hf
                refine lv_aload_n hx hb d_MO_stored_31 rfl (lv_at hl 0 rfl) ?_
                refine va_get (D := (dC, dI)) (ci := 7) (v := .ref (a 19)) (C := R_MO) (T := F_MO) (N := 24) hx hb hts (fun w h => List.mem_cons_of_mem _ (in_MO w h)) hown hK hP 0 rfl rfl 23 (by decide) (hts _ (List.mem_cons_of_mem _ k_2_184)) (fun _ h9 => h9) rfl d_MO_stored_32 ?_
                refine lv_iload hx hb d_MO_stored_35 (lv_at hl 4 rfl) ?_
                obtain ⟨g5, hf⟩ := z_gz hf
                refine va_lald hx hb hK hP 19 18 rfl rfl g5 d_MO_stored_37 ?_
                refine lv_aload_n hx hb d_MO_stored_38 rfl (lv_at hl 0 rfl) ?_
                refine va_get (D := (dC, dI)) (ci := 7) (v := .ref (a 19)) (C := R_MO) (T := F_MO) (N := 24) hx hb hts (fun w h => List.mem_cons_of_mem _ (in_MO w h)) hown hK hP 0 rfl rfl 23 (by decide) (hts _ (List.mem_cons_of_mem _ k_2_184)) (fun _ h9 => h9) rfl d_MO_stored_39 ?_
                refine lv_iload_n hx hb d_MO_stored_42 rfl (lv_at hl 2 rfl) ?_
                obtain ⟨g6, hf⟩ := z_gz hf
                refine va_lald hx hb hK hP 19 18 rfl rfl g6 d_MO_stored_43 ?_
                refine W.lcmp hx hb d_MO_stored_44 ?_
                refine lv_if_eq (tgt := 52) hx hb d_MO_stored_45 (by decide) (fun c7 => ?_) (fun c7 => ?_)
                · have hf := z_t c7 hf
                  refine lv_iconst (v := (0 : Int32)) hx hb d_MO_stored_52 (by decide) ?_
                  refine lv_istore_n (lv' := [(3, .int (0 : Int32)), (0, .ref (a 0)), (1, .int x1), (2, .int x2), (4, .int x4')]) hx hb d_MO_stored_53 rfl hl (by decide) rfl (fun ls hl => ?_)
                  refine lv_iinc (v := (x4' + (1 : Int32))) (lv' := [(4, .int (x4' + (1 : Int32))), (3, .int (0 : Int32)), (0, .ref (a 0)), (1, .int x1), (2, .int x2)]) hx hb d_MO_stored_54 hl (k := 4) rfl rfl (by decide) rfl (fun ls hl => ?_)
                  refine lv_goto (tgt := 21) hx hb d_MO_stored_57 (by decide) ?_
                  exact ih21 (0 : Int32) (x4' + (1 : Int32)) hf H locs ls hP hD hS (lv_sub hl [2, 3, 4, 1, 0] rfl)
                · have hf := z_f c7 hf
                  refine lv_iconst (v := (1 : Int32)) hx hb d_MO_stored_48 (by decide) ?_
                  refine lv_goto (tgt := 53) hx hb d_MO_stored_49 (by decide) ?_
                  refine lv_istore_n (lv' := [(3, .int (1 : Int32)), (0, .ref (a 0)), (1, .int x1), (2, .int x2), (4, .int x4')]) hx hb d_MO_stored_53 rfl hl (by decide) rfl (fun ls hl => ?_)
                  refine lv_iinc (v := (x4' + (1 : Int32))) (lv' := [(4, .int (x4' + (1 : Int32))), (3, .int (1 : Int32)), (0, .ref (a 0)), (1, .int x1), (2, .int x2)]) hx hb d_MO_stored_54 hl (k := 4) rfl rfl (by decide) rfl (fun ls hl => ?_)
                  refine lv_goto (tgt := 21) hx hb d_MO_stored_57 (by decide) ?_
                  exact ih21 (1 : Int32) (x4' + (1 : Int32)) hf H locs ls hP hD hS (lv_sub hl [2, 3, 4, 1, 0] rfl)
        exact loop21 N (1 : Int32) (0 : Int32) hf H locs ls hP hD hS (lv_sub hl [2, 3, 4, 1, 0] rfl)
  exact loop8 u0.1 u0.2 N (0 : Int32) (0 : Int32) hf H locs ls hP hD hS (lv_sub hl [2, 1, 0] rfl)
