set_option maxHeartbeats 4000000 in
set_option maxRecDepth 100000 in
theorem c_MO_stage (l : Launch) (dC : Nat → ClassId) (dI : Nat → Nat → Nat) (N : Nat) (a : Nat → Nat) (k : Nat → ClassId) (zpaths : Int32) (zsteps : Int32) (zcached : Int32) (zholds : Int32) (zinside : Nat → Int32) (zowner : Nat → Int32) (zmaker : Nat → Int32) (zcontent : Nat → Int64) (zruns : Nat → Int32) (zisThere : Nat → Int32) (ztarget : Nat → Int32) (zplace : Nat → Int32) (zrun : Nat → Int32) (zstaged : Nat → Int32) (zisOpen : Nat → Int32) (zstagedAt : Nat → Int32) (zstagedContent : Nat → Int64) (zstagedRuns : Nat → Int32) (zstagedLazy : Nat → Int32) (zisDirty : Nat → Int32) (zcache : Nat → Int64) (zhold : Nat → Int64) (zmet : Int32) (zrow : Nat → Int64) (p1 : Int32) (p2 : Int32) (p3 : Int64) (p5 : Int32) (p6 : Int32) {y : (Int32 × (Nat → Int32) × (Nat → Int32) × (Nat → Int64) × (Nat → Int32) × (Nat → Int32))} (hf : pf_MO_stage N zpaths zsteps zcached zinside zowner ztarget zplace zstaged zisOpen zstagedAt zstagedContent zstagedRuns zstagedLazy zcache p1 p2 p3 p5 p6 = some y) (sz : Nat) : Met l y_MO_stage ww_MO_stage ({ frames := 3, cells := 0, slots := 0, locals := 70 }) (va_Pc [.ref (a 0), .int p1, .int p2, .long p3, .int p5, .int p6] (zB (dC, dI) zCl (t_MO k) (w_MO a k zpaths zsteps zcached zholds zinside zowner zmaker zcontent zruns zisThere ztarget zplace zrun zstaged zisOpen zstagedAt zstagedContent zstagedRuns zstagedLazy zisDirty zcache zhold zmet zrow) sz)) (zQi (dC, dI) zCl (w_MO a k zpaths zsteps zcached zholds zinside zowner zmaker zcontent zruns zisThere ztarget zplace zrun zstaged zisOpen zstagedAt zstagedContent zstagedRuns zstagedLazy zisDirty zcache zhold zmet zrow) sz y.1 (w_MO a k zpaths zsteps zcached zholds zinside zowner zmaker zcontent zruns zisThere ztarget zplace zrun y.2.1 zisOpen y.2.2.1 y.2.2.2.1 y.2.2.2.2.1 y.2.2.2.2.2 zisDirty zcache zhold zmet zrow)) 0 0 (va_A (w_MO a k zpaths zsteps zcached zholds zinside zowner zmaker zcontent zruns zisThere ztarget zplace zrun zstaged zisOpen zstagedAt zstagedContent zstagedRuns zstagedLazy zisDirty zcache zhold zmet zrow) sz) := by
  refine Met.ofW (cc := b_MO_stage) (maxL := 8) (ret := (some .int)) (by decide) rfl ?_
  intro p e s m args below meth c s₁ B hml hv
  obtain ⟨rfl, rfl, hP, hK, hD, hN⟩ := hv
  have hx := B.exec
  have hb := B.bytes
  have hr := B.returns
  have hts := atoms_spec (ws := ww_MO_stage) B.pre
  have hown : s.vm.findClass R_MO = some m.cls := findClass_of_methodNamed B.named
  have hlocks := B.notSynchronized
  have hA : ∀ q : Nat, s.heap.size ≤ q → va_A (w_MO a k zpaths zsteps zcached zholds zinside zowner zmaker zcontent zruns zisThere ztarget zplace zrun zstaged zisOpen zstagedAt zstagedContent zstagedRuns zstagedLazy zisDirty zcache zhold zmet zrow) s.heap.size q := fun q h => Or.inr h
  refine z_start (lv := [(0, .ref (a 0)), (1, .int p1), (2, .int p2), (3, .long p3), (5, .int p5), (6, .int p6)]) (Nat.le_of_ble_eq_true rfl) rfl hP hD (fun H locs ls hP hD hS hl => ?_)
  unfold pf_MO_stage at hf
  refine lv_aload_n hx hb d_MO_stage_0 rfl (lv_at hl 0 rfl) ?_
  refine lv_iload_n hx hb d_MO_stage_1 rfl (lv_at hl 1 rfl) ?_
  obtain ⟨u0, hu0, hf⟩ := z_b hf
  have hPc := hP
  have hDc := hD
  have hKc := hK
  refine z_cwi (va_runV (As := [.int p1]) (rest := []) ⟨hx, hb, hml, hown, hts⟩ (c_MO_isOpenStep l dC dI N a k zpaths zsteps zcached zholds zinside zowner zmaker zcontent zruns zisThere ztarget zplace zrun zstaged zisOpen zstagedAt zstagedContent zstagedRuns zstagedLazy zisDirty zcache zhold zmet zrow p1 hu0 H.size) (cwV 1 hts (zGV zsub_c k_3_13 k_3_15 s_MO_isOpenStep k_1_8 kc_MO_isOpenStep) rfl rfl rfl (by decide +kernel) ⟨Nat.le_of_ble_eq_true rfl, Nat.le_of_ble_eq_true rfl⟩) ⟨z_bl, va_recv hKc hPc (ci := 7) (q0 := 0) rfl rfl, fun U hU hW => ⟨rfl, z_pre hN hKc hPc hDc U hU hW⟩⟩ rfl rfl hl.1 rfl (lv_room (Nat.le_of_ble_eq_true rfl)) d_MO_stage_2 ⟨Nat.zero_le _, Nat.zero_le _⟩) hD hS hA (fun H locs hP hD hS => ?_)
  refine lv_if_eq (tgt := 22) hx hb d_MO_stage_5 (by decide) (fun c1 => ?_) (fun c1 => ?_)
  · have hf := z_t c1 hf
    refine lv_iconst (v := (-1 : Int32)) hx hb d_MO_stage_22 (by decide) ?_
    obtain rfl := Option.some.inj hf
    exact z_iret hx hb hr hP hD hS d_MO_stage_23 hlocks
  · have hf := z_f c1 hf
    refine lv_aload_n hx hb d_MO_stage_8 rfl (lv_at hl 0 rfl) ?_
    refine lv_iload_n hx hb d_MO_stage_9 rfl (lv_at hl 2 rfl) ?_
    obtain ⟨u1, hu1, hf⟩ := z_b hf
    have hPc := hP
    have hDc := hD
    have hKc := hK
    refine z_cwi (va_runV (As := [.int p2]) (rest := []) ⟨hx, hb, hml, hown, hts⟩ (c_MO_isPath l dC dI N a k zpaths zsteps zcached zholds zinside zowner zmaker zcontent zruns zisThere ztarget zplace zrun zstaged zisOpen zstagedAt zstagedContent zstagedRuns zstagedLazy zisDirty zcache zhold zmet zrow p2 hu1 H.size) (cwV 1 hts (zGV zsub_c k_2_238 k_3_0 s_MO_isPath k_1_8 kc_MO_isPath) rfl rfl rfl (by decide +kernel) ⟨Nat.le_of_ble_eq_true rfl, Nat.le_of_ble_eq_true rfl⟩) ⟨z_bl, va_recv hKc hPc (ci := 7) (q0 := 0) rfl rfl, fun U hU hW => ⟨rfl, z_pre hN hKc hPc hDc U hU hW⟩⟩ rfl rfl hl.1 rfl (lv_room (Nat.le_of_ble_eq_true rfl)) d_MO_stage_10 ⟨Nat.zero_le _, Nat.zero_le _⟩) hD hS hA (fun H locs hP hD hS => ?_)
    refine lv_if_eq (tgt := 22) hx hb d_MO_stage_13 (by decide) (fun c2 => ?_) (fun c2 => ?_)
    · have hf := z_t c2 hf
      refine lv_iconst (v := (-1 : Int32)) hx hb d_MO_stage_22 (by decide) ?_
      obtain rfl := Option.some.inj hf
      exact z_iret hx hb hr hP hD hS d_MO_stage_23 hlocks
    · have hf := z_f c2 hf
      refine lv_lload_n hx hb d_MO_stage_16 rfl (lv_at hl 3 rfl) ?_
      refine lv_lconst (v := 0) hx hb d_MO_stage_17 (by decide) ?_
      refine W.lcmp hx hb d_MO_stage_18 ?_
      refine lv_if_ne (tgt := 24) hx hb d_MO_stage_19 (by decide) (fun c3 => ?_) (fun c3 => ?_)
      · have hf := z_t c3 hf
        refine lv_aload_n hx hb d_MO_stage_24 rfl (lv_at hl 0 rfl) ?_
        refine lv_iload_n hx hb d_MO_stage_25 rfl (lv_at hl 1 rfl) ?_
        refine lv_iload_n hx hb d_MO_stage_26 rfl (lv_at hl 2 rfl) ?_
        obtain ⟨u2, hu2, hf⟩ := z_b hf
        have hPc := hP
        have hDc := hD
        have hKc := hK
        refine z_cwi (va_runV (As := [.int p1, .int p2]) (rest := []) ⟨hx, hb, hml, hown, hts⟩ (c_MO_placeOf l dC dI N a k zpaths zsteps zcached zholds zinside zowner zmaker zcontent zruns zisThere ztarget zplace zrun zstaged zisOpen zstagedAt zstagedContent zstagedRuns zstagedLazy zisDirty zcache zhold zmet zrow p1 p2 hu2 H.size) (cwV 2 hts (zGV zsub_c k_3_17 k_3_19 s_MO_placeOf k_1_8 kc_MO_placeOf) rfl rfl rfl (by decide +kernel) ⟨Nat.le_of_ble_eq_true rfl, Nat.le_of_ble_eq_true rfl⟩) ⟨z_bl, va_recv hKc hPc (ci := 7) (q0 := 0) rfl rfl, fun U hU hW => ⟨rfl, z_pre hN hKc hPc hDc U hU hW⟩⟩ rfl rfl hl.1 rfl (lv_room (Nat.le_of_ble_eq_true rfl)) d_MO_stage_27 ⟨Nat.zero_le _, Nat.zero_le _⟩) hD hS hA (fun H locs hP hD hS => ?_)
        refine lv_istore (lv' := [(7, .int u2), (0, .ref (a 0)), (1, .int p1), (2, .int p2), (3, .long p3), (5, .int p5), (6, .int p6)]) hx hb d_MO_stage_30 hl (by decide) rfl (fun ls hl => ?_)
        refine lv_iload hx hb d_MO_stage_32 (lv_at hl 0 rfl) ?_
        refine lv_iconst (v := (-1 : Int32)) hx hb d_MO_stage_34 (by decide) ?_
        refine lv_icmp_ne (tgt := 51) hx hb d_MO_stage_35 (by decide) (fun c4 => ?_) (fun c4 => ?_)
        · have hf := z_t c4 hf
          refine lv_aload_n hx hb d_MO_stage_51 rfl (lv_at hl 1 rfl) ?_
          refine lv_iload_n hx hb d_MO_stage_52 rfl (lv_at hl 2 rfl) ?_
          refine lv_iload_n hx hb d_MO_stage_53 rfl (lv_at hl 3 rfl) ?_
          obtain ⟨u3, hu3, hf⟩ := z_b hf
          have hPc := hP
          have hDc := hD
          have hKc := hK
          refine z_cwi (va_runV (As := [.int p1, .int p2]) (rest := []) ⟨hx, hb, hml, hown, hts⟩ (c_MO_meetsOutput l dC dI N a k zpaths zsteps zcached zholds zinside zowner zmaker zcontent zruns zisThere ztarget zplace zrun zstaged zisOpen zstagedAt zstagedContent zstagedRuns zstagedLazy zisDirty zcache zhold zmet zrow p1 p2 hu3 H.size) (cwV 2 hts (zGV zsub_c k_3_21 k_3_23 s_MO_meetsOutput k_1_8 kc_MO_meetsOutput) rfl rfl rfl (by decide +kernel) ⟨Nat.le_of_ble_eq_true rfl, Nat.le_of_ble_eq_true rfl⟩) ⟨z_bl, va_recv hKc hPc (ci := 7) (q0 := 0) rfl rfl, fun U hU hW => ⟨rfl, z_pre hN hKc hPc hDc U hU hW⟩⟩ rfl rfl hl.1 rfl (lv_room (Nat.le_of_ble_eq_true rfl)) d_MO_stage_54 ⟨Nat.zero_le _, Nat.zero_le _⟩) hD hS hA (fun H locs hP hD hS => ?_)
          refine lv_if_ne (tgt := 69) hx hb d_MO_stage_57 (by decide) (fun c5 => ?_) (fun c5 => ?_)
          · have hf := z_t c5 hf
            refine lv_bipush (v := (-2 : Int32)) hx hb d_MO_stage_69 (by decide) ?_
            obtain rfl := Option.some.inj hf
            exact z_iret hx hb hr hP hD hS d_MO_stage_71 hlocks
          · have hf := z_fn c5 hf
            refine lv_aload_n hx hb d_MO_stage_60 rfl (lv_at hl 1 rfl) ?_
            refine lv_iload_n hx hb d_MO_stage_61 rfl (lv_at hl 2 rfl) ?_
            refine lv_iload_n hx hb d_MO_stage_62 rfl (lv_at hl 3 rfl) ?_
            obtain ⟨u4, hu4, hf⟩ := z_b hf
            have hPc := hP
            have hDc := hD
            have hKc := hK
            refine z_cwi (va_runV (As := [.int p1, .int p2]) (rest := []) ⟨hx, hb, hml, hown, hts⟩ (c_MO_meetsStaged l dC dI N a k zpaths zsteps zcached zholds zinside zowner zmaker zcontent zruns zisThere ztarget zplace zrun zstaged zisOpen zstagedAt zstagedContent zstagedRuns zstagedLazy zisDirty zcache zhold zmet zrow p1 p2 hu4 H.size) (cwV 2 hts (zGV zsub_c k_3_33 k_3_35 s_MO_meetsStaged k_1_8 kc_MO_meetsStaged) rfl rfl rfl (by decide +kernel) ⟨Nat.le_of_ble_eq_true rfl, Nat.le_of_ble_eq_true rfl⟩) ⟨z_bl, va_recv hKc hPc (ci := 7) (q0 := 0) rfl rfl, fun U hU hW => ⟨rfl, z_pre hN hKc hPc hDc U hU hW⟩⟩ rfl rfl hl.1 rfl (lv_room (Nat.le_of_ble_eq_true rfl)) d_MO_stage_63 ⟨Nat.zero_le _, Nat.zero_le _⟩) hD hS hA (fun H locs hP hD hS => ?_)
            refine lv_if_eq (tgt := 72) hx hb d_MO_stage_66 (by decide) (fun c6 => ?_) (fun c6 => ?_)
            · have hf := z_t c6 hf
              refine lv_iload hx hb d_MO_stage_72 (lv_at hl 6 rfl) ?_
              refine lv_if_eq (tgt := 88) hx hb d_MO_stage_74 (by decide) (fun c7 => ?_) (fun c7 => ?_)
              · have hf := z_t c7 hf
                refine lv_iload hx hb d_MO_stage_88 (lv_at hl 0 rfl) ?_
                refine lv_iconst (v := (-1 : Int32)) hx hb d_MO_stage_90 (by decide) ?_
                refine lv_icmp_ne (tgt := 117) hx hb d_MO_stage_91 (by decide) (fun c8 => ?_) (fun c8 => ?_)
                · have hf := z_t c8 hf
                  refine lv_aload_n hx hb d_MO_stage_117 rfl (lv_at hl 1 rfl) ?_
                  refine va_get (D := (dC, dI)) (ci := 7) (v := .ref (a 12)) (C := R_MO) (T := F_MO) (N := 24) hx hb hts (fun w h => List.mem_cons_of_mem _ (in_MO w h)) hown hK hP 0 rfl rfl 15 (by decide) (hts _ (List.mem_cons_of_mem _ k_2_176)) (fun _ h9 => h9) rfl d_MO_stage_118 ?_
                  refine lv_iload hx hb d_MO_stage_121 (lv_at hl 0 rfl) ?_
                  refine lv_iload_n hx hb d_MO_stage_123 rfl (lv_at hl 3 rfl) ?_
                  obtain ⟨g9, hf⟩ := z_gz hf
                  refine va_iast hx hb hK hP hD hS 12 11 rfl rfl g9 d_MO_stage_124 (fun H locs hP hD hS => ?_)
                  have hP : va_P (dC, dI) zCl (w_MO a k zpaths zsteps zcached zholds zinside zowner zmaker zcontent zruns zisThere ztarget zplace zrun zstaged zisOpen (upd zstagedAt u2.toNatClampNeg p2) zstagedContent zstagedRuns zstagedLazy zisDirty zcache zhold zmet zrow) H := hP
                  have hD : va_D _ (w_MO a k zpaths zsteps zcached zholds zinside zowner zmaker zcontent zruns zisThere ztarget zplace zrun zstaged zisOpen (upd zstagedAt u2.toNatClampNeg p2) zstagedContent zstagedRuns zstagedLazy zisDirty zcache zhold zmet zrow) := hD
                  refine lv_aload_n hx hb d_MO_stage_125 rfl (lv_at hl 1 rfl) ?_
                  refine va_get (D := (dC, dI)) (ci := 7) (v := .ref (a 13)) (C := R_MO) (T := F_MO) (N := 24) hx hb hts (fun w h => List.mem_cons_of_mem _ (in_MO w h)) hown hK hP 0 rfl rfl 16 (by decide) (hts _ (List.mem_cons_of_mem _ k_2_177)) (fun _ h9 => h9) rfl d_MO_stage_126 ?_
                  refine lv_iload hx hb d_MO_stage_129 (lv_at hl 0 rfl) ?_
                  refine lv_lload_n hx hb d_MO_stage_131 rfl (lv_at hl 4 rfl) ?_
                  obtain ⟨g10, hf⟩ := z_gz hf
                  refine va_last hx hb hK hP hD hS 13 12 rfl rfl g10 d_MO_stage_132 (fun H locs hP hD hS => ?_)
                  have hP : va_P (dC, dI) zCl (w_MO a k zpaths zsteps zcached zholds zinside zowner zmaker zcontent zruns zisThere ztarget zplace zrun zstaged zisOpen (upd zstagedAt u2.toNatClampNeg p2) (vp_updL zstagedContent u2.toNatClampNeg p3) zstagedRuns zstagedLazy zisDirty zcache zhold zmet zrow) H := hP
                  have hD : va_D _ (w_MO a k zpaths zsteps zcached zholds zinside zowner zmaker zcontent zruns zisThere ztarget zplace zrun zstaged zisOpen (upd zstagedAt u2.toNatClampNeg p2) (vp_updL zstagedContent u2.toNatClampNeg p3) zstagedRuns zstagedLazy zisDirty zcache zhold zmet zrow) := hD
                  refine lv_aload_n hx hb d_MO_stage_133 rfl (lv_at hl 1 rfl) ?_
                  refine va_get (D := (dC, dI)) (ci := 7) (v := .ref (a 14)) (C := R_MO) (T := F_MO) (N := 24) hx hb hts (fun w h => List.mem_cons_of_mem _ (in_MO w h)) hown hK hP 0 rfl rfl 17 (by decide) (hts _ (List.mem_cons_of_mem _ k_2_178)) (fun _ h9 => h9) rfl d_MO_stage_134 ?_
                  refine lv_iload hx hb d_MO_stage_137 (lv_at hl 0 rfl) ?_
                  refine lv_iload hx hb d_MO_stage_139 (lv_at hl 5 rfl) ?_
                  obtain ⟨g11, hf⟩ := z_gz hf
                  refine va_zast hx hb hK hP hD hS 14 13 rfl rfl g11 d_MO_stage_141 (fun H locs hP hD hS => ?_)
                  have hP : va_P (dC, dI) zCl (w_MO a k zpaths zsteps zcached zholds zinside zowner zmaker zcontent zruns zisThere ztarget zplace zrun zstaged zisOpen (upd zstagedAt u2.toNatClampNeg p2) (vp_updL zstagedContent u2.toNatClampNeg p3) (upd zstagedRuns u2.toNatClampNeg (vp_nar .boolean p5)) zstagedLazy zisDirty zcache zhold zmet zrow) H := hP
                  have hD : va_D _ (w_MO a k zpaths zsteps zcached zholds zinside zowner zmaker zcontent zruns zisThere ztarget zplace zrun zstaged zisOpen (upd zstagedAt u2.toNatClampNeg p2) (vp_updL zstagedContent u2.toNatClampNeg p3) (upd zstagedRuns u2.toNatClampNeg (vp_nar .boolean p5)) zstagedLazy zisDirty zcache zhold zmet zrow) := hD
                  refine lv_aload_n hx hb d_MO_stage_142 rfl (lv_at hl 1 rfl) ?_
                  refine va_get (D := (dC, dI)) (ci := 7) (v := .ref (a 15)) (C := R_MO) (T := F_MO) (N := 24) hx hb hts (fun w h => List.mem_cons_of_mem _ (in_MO w h)) hown hK hP 0 rfl rfl 18 (by decide) (hts _ (List.mem_cons_of_mem _ k_2_179)) (fun _ h9 => h9) rfl d_MO_stage_143 ?_
                  refine lv_iload hx hb d_MO_stage_146 (lv_at hl 0 rfl) ?_
                  refine lv_iload hx hb d_MO_stage_148 (lv_at hl 6 rfl) ?_
                  obtain ⟨g12, hf⟩ := z_gz hf
                  refine va_zast hx hb hK hP hD hS 15 14 rfl rfl g12 d_MO_stage_150 (fun H locs hP hD hS => ?_)
                  have hP : va_P (dC, dI) zCl (w_MO a k zpaths zsteps zcached zholds zinside zowner zmaker zcontent zruns zisThere ztarget zplace zrun zstaged zisOpen (upd zstagedAt u2.toNatClampNeg p2) (vp_updL zstagedContent u2.toNatClampNeg p3) (upd zstagedRuns u2.toNatClampNeg (vp_nar .boolean p5)) (upd zstagedLazy u2.toNatClampNeg (vp_nar .boolean p6)) zisDirty zcache zhold zmet zrow) H := hP
                  have hD : va_D _ (w_MO a k zpaths zsteps zcached zholds zinside zowner zmaker zcontent zruns zisThere ztarget zplace zrun zstaged zisOpen (upd zstagedAt u2.toNatClampNeg p2) (vp_updL zstagedContent u2.toNatClampNeg p3) (upd zstagedRuns u2.toNatClampNeg (vp_nar .boolean p5)) (upd zstagedLazy u2.toNatClampNeg (vp_nar .boolean p6)) zisDirty zcache zhold zmet zrow) := hD
                  refine lv_iconst (v := (1 : Int32)) hx hb d_MO_stage_151 (by decide) ?_
                  obtain rfl := Option.some.inj hf
                  exact z_iret hx hb hr hP hD hS d_MO_stage_152 hlocks
                · have hf := z_fn c8 hf
                  refine lv_bipush (v := (nI 12)) hx hb d_MO_stage_94 (by decide) ?_
                  refine lv_iload_n hx hb d_MO_stage_96 rfl (lv_at hl 2 rfl) ?_
                  refine lv_imul hx hb d_MO_stage_97 ?_
                  refine lv_aload_n hx hb d_MO_stage_98 rfl (lv_at hl 1 rfl) ?_
                  refine va_get (D := (dC, dI)) (ci := 7) (v := .ref (a 10)) (C := R_MO) (T := F_MO) (N := 24) hx hb hts (fun w h => List.mem_cons_of_mem _ (in_MO w h)) hown hK hP 0 rfl rfl 13 (by decide) (hts _ (List.mem_cons_of_mem _ k_2_174)) (fun _ h9 => h9) rfl d_MO_stage_99 ?_
                  refine lv_iload_n hx hb d_MO_stage_102 rfl (lv_at hl 2 rfl) ?_
                  obtain ⟨g13, hf⟩ := z_gz hf
                  refine va_iald hx hb hK hP 10 9 rfl rfl g13 d_MO_stage_103 ?_
                  refine lv_iadd hx hb d_MO_stage_104 ?_
                  refine lv_istore (lv' := [(7, .int (((nI 12) * p1) + (zstaged p1.toNatClampNeg))), (0, .ref (a 0)), (1, .int p1), (2, .int p2), (3, .long p3), (5, .int p5), (6, .int p6)]) hx hb d_MO_stage_105 hl (by decide) rfl (fun ls hl => ?_)
                  refine lv_aload_n hx hb d_MO_stage_107 rfl (lv_at hl 1 rfl) ?_
                  refine va_get (D := (dC, dI)) (ci := 7) (v := .ref (a 10)) (C := R_MO) (T := F_MO) (N := 24) hx hb hts (fun w h => List.mem_cons_of_mem _ (in_MO w h)) hown hK hP 0 rfl rfl 13 (by decide) (hts _ (List.mem_cons_of_mem _ k_2_174)) (fun _ h9 => h9) rfl d_MO_stage_108 ?_
                  refine lv_iload_n hx hb d_MO_stage_111 rfl (lv_at hl 2 rfl) ?_
                  refine lv_dup2_11 hx hb d_MO_stage_112 rfl rfl ?_
                  obtain ⟨g14, hf⟩ := z_gz hf
                  refine va_iald hx hb hK hP 10 9 rfl rfl g14 d_MO_stage_113 ?_
                  refine lv_iconst (v := (1 : Int32)) hx hb d_MO_stage_114 (by decide) ?_
                  refine lv_iadd hx hb d_MO_stage_115 ?_
                  obtain ⟨g15, hf⟩ := z_gz hf
                  refine va_iast hx hb hK hP hD hS 10 9 rfl rfl g15 d_MO_stage_116 (fun H locs hP hD hS => ?_)
                  have hP : va_P (dC, dI) zCl (w_MO a k zpaths zsteps zcached zholds zinside zowner zmaker zcontent zruns zisThere ztarget zplace zrun (upd zstaged p1.toNatClampNeg ((zstaged p1.toNatClampNeg) + (1 : Int32))) zisOpen zstagedAt zstagedContent zstagedRuns zstagedLazy zisDirty zcache zhold zmet zrow) H := hP
                  have hD : va_D _ (w_MO a k zpaths zsteps zcached zholds zinside zowner zmaker zcontent zruns zisThere ztarget zplace zrun (upd zstaged p1.toNatClampNeg ((zstaged p1.toNatClampNeg) + (1 : Int32))) zisOpen zstagedAt zstagedContent zstagedRuns zstagedLazy zisDirty zcache zhold zmet zrow) := hD
                  refine lv_aload_n hx hb d_MO_stage_117 rfl (lv_at hl 1 rfl) ?_
                  refine va_get (D := (dC, dI)) (ci := 7) (v := .ref (a 12)) (C := R_MO) (T := F_MO) (N := 24) hx hb hts (fun w h => List.mem_cons_of_mem _ (in_MO w h)) hown hK hP 0 rfl rfl 15 (by decide) (hts _ (List.mem_cons_of_mem _ k_2_176)) (fun _ h9 => h9) rfl d_MO_stage_118 ?_
                  refine lv_iload hx hb d_MO_stage_121 (lv_at hl 0 rfl) ?_
                  refine lv_iload_n hx hb d_MO_stage_123 rfl (lv_at hl 3 rfl) ?_
                  obtain ⟨g16, hf⟩ := z_gz hf
                  refine va_iast hx hb hK hP hD hS 12 11 rfl rfl g16 d_MO_stage_124 (fun H locs hP hD hS => ?_)
                  have hP : va_P (dC, dI) zCl (w_MO a k zpaths zsteps zcached zholds zinside zowner zmaker zcontent zruns zisThere ztarget zplace zrun (upd zstaged p1.toNatClampNeg ((zstaged p1.toNatClampNeg) + (1 : Int32))) zisOpen (upd zstagedAt (((nI 12) * p1) + (zstaged p1.toNatClampNeg)).toNatClampNeg p2) zstagedContent zstagedRuns zstagedLazy zisDirty zcache zhold zmet zrow) H := hP
                  have hD : va_D _ (w_MO a k zpaths zsteps zcached zholds zinside zowner zmaker zcontent zruns zisThere ztarget zplace zrun (upd zstaged p1.toNatClampNeg ((zstaged p1.toNatClampNeg) + (1 : Int32))) zisOpen (upd zstagedAt (((nI 12) * p1) + (zstaged p1.toNatClampNeg)).toNatClampNeg p2) zstagedContent zstagedRuns zstagedLazy zisDirty zcache zhold zmet zrow) := hD
                  refine lv_aload_n hx hb d_MO_stage_125 rfl (lv_at hl 1 rfl) ?_
                  refine va_get (D := (dC, dI)) (ci := 7) (v := .ref (a 13)) (C := R_MO) (T := F_MO) (N := 24) hx hb hts (fun w h => List.mem_cons_of_mem _ (in_MO w h)) hown hK hP 0 rfl rfl 16 (by decide) (hts _ (List.mem_cons_of_mem _ k_2_177)) (fun _ h9 => h9) rfl d_MO_stage_126 ?_
                  refine lv_iload hx hb d_MO_stage_129 (lv_at hl 0 rfl) ?_
                  refine lv_lload_n hx hb d_MO_stage_131 rfl (lv_at hl 4 rfl) ?_
                  obtain ⟨g17, hf⟩ := z_gz hf
                  refine va_last hx hb hK hP hD hS 13 12 rfl rfl g17 d_MO_stage_132 (fun H locs hP hD hS => ?_)
                  have hP : va_P (dC, dI) zCl (w_MO a k zpaths zsteps zcached zholds zinside zowner zmaker zcontent zruns zisThere ztarget zplace zrun (upd zstaged p1.toNatClampNeg ((zstaged p1.toNatClampNeg) + (1 : Int32))) zisOpen (upd zstagedAt (((nI 12) * p1) + (zstaged p1.toNatClampNeg)).toNatClampNeg p2) (vp_updL zstagedContent (((nI 12) * p1) + (zstaged p1.toNatClampNeg)).toNatClampNeg p3) zstagedRuns zstagedLazy zisDirty zcache zhold zmet zrow) H := hP
                  have hD : va_D _ (w_MO a k zpaths zsteps zcached zholds zinside zowner zmaker zcontent zruns zisThere ztarget zplace zrun (upd zstaged p1.toNatClampNeg ((zstaged p1.toNatClampNeg) + (1 : Int32))) zisOpen (upd zstagedAt (((nI 12) * p1) + (zstaged p1.toNatClampNeg)).toNatClampNeg p2) (vp_updL zstagedContent (((nI 12) * p1) + (zstaged p1.toNatClampNeg)).toNatClampNeg p3) zstagedRuns zstagedLazy zisDirty zcache zhold zmet zrow) := hD
                  refine lv_aload_n hx hb d_MO_stage_133 rfl (lv_at hl 1 rfl) ?_
                  refine va_get (D := (dC, dI)) (ci := 7) (v := .ref (a 14)) (C := R_MO) (T := F_MO) (N := 24) hx hb hts (fun w h => List.mem_cons_of_mem _ (in_MO w h)) hown hK hP 0 rfl rfl 17 (by decide) (hts _ (List.mem_cons_of_mem _ k_2_178)) (fun _ h9 => h9) rfl d_MO_stage_134 ?_
                  refine lv_iload hx hb d_MO_stage_137 (lv_at hl 0 rfl) ?_
                  refine lv_iload hx hb d_MO_stage_139 (lv_at hl 5 rfl) ?_
                  obtain ⟨g18, hf⟩ := z_gz hf
                  refine va_zast hx hb hK hP hD hS 14 13 rfl rfl g18 d_MO_stage_141 (fun H locs hP hD hS => ?_)
                  have hP : va_P (dC, dI) zCl (w_MO a k zpaths zsteps zcached zholds zinside zowner zmaker zcontent zruns zisThere ztarget zplace zrun (upd zstaged p1.toNatClampNeg ((zstaged p1.toNatClampNeg) + (1 : Int32))) zisOpen (upd zstagedAt (((nI 12) * p1) + (zstaged p1.toNatClampNeg)).toNatClampNeg p2) (vp_updL zstagedContent (((nI 12) * p1) + (zstaged p1.toNatClampNeg)).toNatClampNeg p3) (upd zstagedRuns (((nI 12) * p1) + (zstaged p1.toNatClampNeg)).toNatClampNeg (vp_nar .boolean p5)) zstagedLazy zisDirty zcache zhold zmet zrow) H := hP
                  have hD : va_D _ (w_MO a k zpaths zsteps zcached zholds zinside zowner zmaker zcontent zruns zisThere ztarget zplace zrun (upd zstaged p1.toNatClampNeg ((zstaged p1.toNatClampNeg) + (1 : Int32))) zisOpen (upd zstagedAt (((nI 12) * p1) + (zstaged p1.toNatClampNeg)).toNatClampNeg p2) (vp_updL zstagedContent (((nI 12) * p1) + (zstaged p1.toNatClampNeg)).toNatClampNeg p3) (upd zstagedRuns (((nI 12) * p1) + (zstaged p1.toNatClampNeg)).toNatClampNeg (vp_nar .boolean p5)) zstagedLazy zisDirty zcache zhold zmet zrow) := hD
                  refine lv_aload_n hx hb d_MO_stage_142 rfl (lv_at hl 1 rfl) ?_
                  refine va_get (D := (dC, dI)) (ci := 7) (v := .ref (a 15)) (C := R_MO) (T := F_MO) (N := 24) hx hb hts (fun w h => List.mem_cons_of_mem _ (in_MO w h)) hown hK hP 0 rfl rfl 18 (by decide) (hts _ (List.mem_cons_of_mem _ k_2_179)) (fun _ h9 => h9) rfl d_MO_stage_143 ?_
                  refine lv_iload hx hb d_MO_stage_146 (lv_at hl 0 rfl) ?_
                  refine lv_iload hx hb d_MO_stage_148 (lv_at hl 6 rfl) ?_
                  obtain ⟨g19, hf⟩ := z_gz hf
                  refine va_zast hx hb hK hP hD hS 15 14 rfl rfl g19 d_MO_stage_150 (fun H locs hP hD hS => ?_)
                  have hP : va_P (dC, dI) zCl (w_MO a k zpaths zsteps zcached zholds zinside zowner zmaker zcontent zruns zisThere ztarget zplace zrun (upd zstaged p1.toNatClampNeg ((zstaged p1.toNatClampNeg) + (1 : Int32))) zisOpen (upd zstagedAt (((nI 12) * p1) + (zstaged p1.toNatClampNeg)).toNatClampNeg p2) (vp_updL zstagedContent (((nI 12) * p1) + (zstaged p1.toNatClampNeg)).toNatClampNeg p3) (upd zstagedRuns (((nI 12) * p1) + (zstaged p1.toNatClampNeg)).toNatClampNeg (vp_nar .boolean p5)) (upd zstagedLazy (((nI 12) * p1) + (zstaged p1.toNatClampNeg)).toNatClampNeg (vp_nar .boolean p6)) zisDirty zcache zhold zmet zrow) H := hP
                  have hD : va_D _ (w_MO a k zpaths zsteps zcached zholds zinside zowner zmaker zcontent zruns zisThere ztarget zplace zrun (upd zstaged p1.toNatClampNeg ((zstaged p1.toNatClampNeg) + (1 : Int32))) zisOpen (upd zstagedAt (((nI 12) * p1) + (zstaged p1.toNatClampNeg)).toNatClampNeg p2) (vp_updL zstagedContent (((nI 12) * p1) + (zstaged p1.toNatClampNeg)).toNatClampNeg p3) (upd zstagedRuns (((nI 12) * p1) + (zstaged p1.toNatClampNeg)).toNatClampNeg (vp_nar .boolean p5)) (upd zstagedLazy (((nI 12) * p1) + (zstaged p1.toNatClampNeg)).toNatClampNeg (vp_nar .boolean p6)) zisDirty zcache zhold zmet zrow) := hD
                  refine lv_iconst (v := (1 : Int32)) hx hb d_MO_stage_151 (by decide) ?_
                  obtain rfl := Option.some.inj hf
                  exact z_iret hx hb hr hP hD hS d_MO_stage_152 hlocks
              · have hf := z_f c7 hf
                refine lv_aload_n hx hb d_MO_stage_77 rfl (lv_at hl 1 rfl) ?_
                refine lv_lload_n hx hb d_MO_stage_78 rfl (lv_at hl 4 rfl) ?_
                obtain ⟨u5, hu5, hf⟩ := z_b hf
                have hPc := hP
                have hDc := hD
                have hKc := hK
                refine z_cwi (va_runV (As := [.long p3]) (rest := []) ⟨hx, hb, hml, hown, hts⟩ (c_MO_isCached l dC dI N a k zpaths zsteps zcached zholds zinside zowner zmaker zcontent zruns zisThere ztarget zplace zrun zstaged zisOpen zstagedAt zstagedContent zstagedRuns zstagedLazy zisDirty zcache zhold zmet zrow p3 hu5 H.size) (cwV 1 hts (zGV zsub_c k_3_37 k_3_39 s_MO_isCached k_1_8 kc_MO_isCached) rfl rfl rfl (by decide +kernel) ⟨Nat.le_of_ble_eq_true rfl, Nat.le_of_ble_eq_true rfl⟩) ⟨z_bl, va_recv hKc hPc (ci := 7) (q0 := 0) rfl rfl, fun U hU hW => ⟨rfl, z_pre hN hKc hPc hDc U hU hW⟩⟩ rfl rfl hl.1 rfl (lv_room (Nat.le_of_ble_eq_true rfl)) d_MO_stage_79 ⟨Nat.zero_le _, Nat.zero_le _⟩) hD hS hA (fun H locs hP hD hS => ?_)
                refine lv_if_ne (tgt := 88) hx hb d_MO_stage_82 (by decide) (fun c20 => ?_) (fun c20 => ?_)
                · have hf := z_t c20 hf
                  refine lv_iload hx hb d_MO_stage_88 (lv_at hl 0 rfl) ?_
                  refine lv_iconst (v := (-1 : Int32)) hx hb d_MO_stage_90 (by decide) ?_
                  refine lv_icmp_ne (tgt := 117) hx hb d_MO_stage_91 (by decide) (fun c21 => ?_) (fun c21 => ?_)
                  · have hf := z_t c21 hf
                    refine lv_aload_n hx hb d_MO_stage_117 rfl (lv_at hl 1 rfl) ?_
                    refine va_get (D := (dC, dI)) (ci := 7) (v := .ref (a 12)) (C := R_MO) (T := F_MO) (N := 24) hx hb hts (fun w h => List.mem_cons_of_mem _ (in_MO w h)) hown hK hP 0 rfl rfl 15 (by decide) (hts _ (List.mem_cons_of_mem _ k_2_176)) (fun _ h9 => h9) rfl d_MO_stage_118 ?_
                    refine lv_iload hx hb d_MO_stage_121 (lv_at hl 0 rfl) ?_
                    refine lv_iload_n hx hb d_MO_stage_123 rfl (lv_at hl 3 rfl) ?_
                    obtain ⟨g22, hf⟩ := z_gz hf
                    refine va_iast hx hb hK hP hD hS 12 11 rfl rfl g22 d_MO_stage_124 (fun H locs hP hD hS => ?_)
                    have hP : va_P (dC, dI) zCl (w_MO a k zpaths zsteps zcached zholds zinside zowner zmaker zcontent zruns zisThere ztarget zplace zrun zstaged zisOpen (upd zstagedAt u2.toNatClampNeg p2) zstagedContent zstagedRuns zstagedLazy zisDirty zcache zhold zmet zrow) H := hP
                    have hD : va_D _ (w_MO a k zpaths zsteps zcached zholds zinside zowner zmaker zcontent zruns zisThere ztarget zplace zrun zstaged zisOpen (upd zstagedAt u2.toNatClampNeg p2) zstagedContent zstagedRuns zstagedLazy zisDirty zcache zhold zmet zrow) := hD
                    refine lv_aload_n hx hb d_MO_stage_125 rfl (lv_at hl 1 rfl) ?_
                    refine va_get (D := (dC, dI)) (ci := 7) (v := .ref (a 13)) (C := R_MO) (T := F_MO) (N := 24) hx hb hts (fun w h => List.mem_cons_of_mem _ (in_MO w h)) hown hK hP 0 rfl rfl 16 (by decide) (hts _ (List.mem_cons_of_mem _ k_2_177)) (fun _ h9 => h9) rfl d_MO_stage_126 ?_
                    refine lv_iload hx hb d_MO_stage_129 (lv_at hl 0 rfl) ?_
                    refine lv_lload_n hx hb d_MO_stage_131 rfl (lv_at hl 4 rfl) ?_
                    obtain ⟨g23, hf⟩ := z_gz hf
                    refine va_last hx hb hK hP hD hS 13 12 rfl rfl g23 d_MO_stage_132 (fun H locs hP hD hS => ?_)
                    have hP : va_P (dC, dI) zCl (w_MO a k zpaths zsteps zcached zholds zinside zowner zmaker zcontent zruns zisThere ztarget zplace zrun zstaged zisOpen (upd zstagedAt u2.toNatClampNeg p2) (vp_updL zstagedContent u2.toNatClampNeg p3) zstagedRuns zstagedLazy zisDirty zcache zhold zmet zrow) H := hP
                    have hD : va_D _ (w_MO a k zpaths zsteps zcached zholds zinside zowner zmaker zcontent zruns zisThere ztarget zplace zrun zstaged zisOpen (upd zstagedAt u2.toNatClampNeg p2) (vp_updL zstagedContent u2.toNatClampNeg p3) zstagedRuns zstagedLazy zisDirty zcache zhold zmet zrow) := hD
                    refine lv_aload_n hx hb d_MO_stage_133 rfl (lv_at hl 1 rfl) ?_
                    refine va_get (D := (dC, dI)) (ci := 7) (v := .ref (a 14)) (C := R_MO) (T := F_MO) (N := 24) hx hb hts (fun w h => List.mem_cons_of_mem _ (in_MO w h)) hown hK hP 0 rfl rfl 17 (by decide) (hts _ (List.mem_cons_of_mem _ k_2_178)) (fun _ h9 => h9) rfl d_MO_stage_134 ?_
                    refine lv_iload hx hb d_MO_stage_137 (lv_at hl 0 rfl) ?_
                    refine lv_iload hx hb d_MO_stage_139 (lv_at hl 5 rfl) ?_
                    obtain ⟨g24, hf⟩ := z_gz hf
                    refine va_zast hx hb hK hP hD hS 14 13 rfl rfl g24 d_MO_stage_141 (fun H locs hP hD hS => ?_)
                    have hP : va_P (dC, dI) zCl (w_MO a k zpaths zsteps zcached zholds zinside zowner zmaker zcontent zruns zisThere ztarget zplace zrun zstaged zisOpen (upd zstagedAt u2.toNatClampNeg p2) (vp_updL zstagedContent u2.toNatClampNeg p3) (upd zstagedRuns u2.toNatClampNeg (vp_nar .boolean p5)) zstagedLazy zisDirty zcache zhold zmet zrow) H := hP
                    have hD : va_D _ (w_MO a k zpaths zsteps zcached zholds zinside zowner zmaker zcontent zruns zisThere ztarget zplace zrun zstaged zisOpen (upd zstagedAt u2.toNatClampNeg p2) (vp_updL zstagedContent u2.toNatClampNeg p3) (upd zstagedRuns u2.toNatClampNeg (vp_nar .boolean p5)) zstagedLazy zisDirty zcache zhold zmet zrow) := hD
                    refine lv_aload_n hx hb d_MO_stage_142 rfl (lv_at hl 1 rfl) ?_
                    refine va_get (D := (dC, dI)) (ci := 7) (v := .ref (a 15)) (C := R_MO) (T := F_MO) (N := 24) hx hb hts (fun w h => List.mem_cons_of_mem _ (in_MO w h)) hown hK hP 0 rfl rfl 18 (by decide) (hts _ (List.mem_cons_of_mem _ k_2_179)) (fun _ h9 => h9) rfl d_MO_stage_143 ?_
                    refine lv_iload hx hb d_MO_stage_146 (lv_at hl 0 rfl) ?_
                    refine lv_iload hx hb d_MO_stage_148 (lv_at hl 6 rfl) ?_
                    obtain ⟨g25, hf⟩ := z_gz hf
                    refine va_zast hx hb hK hP hD hS 15 14 rfl rfl g25 d_MO_stage_150 (fun H locs hP hD hS => ?_)
                    have hP : va_P (dC, dI) zCl (w_MO a k zpaths zsteps zcached zholds zinside zowner zmaker zcontent zruns zisThere ztarget zplace zrun zstaged zisOpen (upd zstagedAt u2.toNatClampNeg p2) (vp_updL zstagedContent u2.toNatClampNeg p3) (upd zstagedRuns u2.toNatClampNeg (vp_nar .boolean p5)) (upd zstagedLazy u2.toNatClampNeg (vp_nar .boolean p6)) zisDirty zcache zhold zmet zrow) H := hP
                    have hD : va_D _ (w_MO a k zpaths zsteps zcached zholds zinside zowner zmaker zcontent zruns zisThere ztarget zplace zrun zstaged zisOpen (upd zstagedAt u2.toNatClampNeg p2) (vp_updL zstagedContent u2.toNatClampNeg p3) (upd zstagedRuns u2.toNatClampNeg (vp_nar .boolean p5)) (upd zstagedLazy u2.toNatClampNeg (vp_nar .boolean p6)) zisDirty zcache zhold zmet zrow) := hD
                    refine lv_iconst (v := (1 : Int32)) hx hb d_MO_stage_151 (by decide) ?_
                    obtain rfl := Option.some.inj hf
                    exact z_iret hx hb hr hP hD hS d_MO_stage_152 hlocks
                  · have hf := z_fn c21 hf
                    refine lv_bipush (v := (nI 12)) hx hb d_MO_stage_94 (by decide) ?_
                    refine lv_iload_n hx hb d_MO_stage_96 rfl (lv_at hl 2 rfl) ?_
                    refine lv_imul hx hb d_MO_stage_97 ?_
                    refine lv_aload_n hx hb d_MO_stage_98 rfl (lv_at hl 1 rfl) ?_
                    refine va_get (D := (dC, dI)) (ci := 7) (v := .ref (a 10)) (C := R_MO) (T := F_MO) (N := 24) hx hb hts (fun w h => List.mem_cons_of_mem _ (in_MO w h)) hown hK hP 0 rfl rfl 13 (by decide) (hts _ (List.mem_cons_of_mem _ k_2_174)) (fun _ h9 => h9) rfl d_MO_stage_99 ?_
                    refine lv_iload_n hx hb d_MO_stage_102 rfl (lv_at hl 2 rfl) ?_
                    obtain ⟨g26, hf⟩ := z_gz hf
                    refine va_iald hx hb hK hP 10 9 rfl rfl g26 d_MO_stage_103 ?_
                    refine lv_iadd hx hb d_MO_stage_104 ?_
                    refine lv_istore (lv' := [(7, .int (((nI 12) * p1) + (zstaged p1.toNatClampNeg))), (0, .ref (a 0)), (1, .int p1), (2, .int p2), (3, .long p3), (5, .int p5), (6, .int p6)]) hx hb d_MO_stage_105 hl (by decide) rfl (fun ls hl => ?_)
                    refine lv_aload_n hx hb d_MO_stage_107 rfl (lv_at hl 1 rfl) ?_
                    refine va_get (D := (dC, dI)) (ci := 7) (v := .ref (a 10)) (C := R_MO) (T := F_MO) (N := 24) hx hb hts (fun w h => List.mem_cons_of_mem _ (in_MO w h)) hown hK hP 0 rfl rfl 13 (by decide) (hts _ (List.mem_cons_of_mem _ k_2_174)) (fun _ h9 => h9) rfl d_MO_stage_108 ?_
                    refine lv_iload_n hx hb d_MO_stage_111 rfl (lv_at hl 2 rfl) ?_
                    refine lv_dup2_11 hx hb d_MO_stage_112 rfl rfl ?_
                    obtain ⟨g27, hf⟩ := z_gz hf
                    refine va_iald hx hb hK hP 10 9 rfl rfl g27 d_MO_stage_113 ?_
                    refine lv_iconst (v := (1 : Int32)) hx hb d_MO_stage_114 (by decide) ?_
                    refine lv_iadd hx hb d_MO_stage_115 ?_
                    obtain ⟨g28, hf⟩ := z_gz hf
                    refine va_iast hx hb hK hP hD hS 10 9 rfl rfl g28 d_MO_stage_116 (fun H locs hP hD hS => ?_)
                    have hP : va_P (dC, dI) zCl (w_MO a k zpaths zsteps zcached zholds zinside zowner zmaker zcontent zruns zisThere ztarget zplace zrun (upd zstaged p1.toNatClampNeg ((zstaged p1.toNatClampNeg) + (1 : Int32))) zisOpen zstagedAt zstagedContent zstagedRuns zstagedLazy zisDirty zcache zhold zmet zrow) H := hP
                    have hD : va_D _ (w_MO a k zpaths zsteps zcached zholds zinside zowner zmaker zcontent zruns zisThere ztarget zplace zrun (upd zstaged p1.toNatClampNeg ((zstaged p1.toNatClampNeg) + (1 : Int32))) zisOpen zstagedAt zstagedContent zstagedRuns zstagedLazy zisDirty zcache zhold zmet zrow) := hD
                    refine lv_aload_n hx hb d_MO_stage_117 rfl (lv_at hl 1 rfl) ?_
                    refine va_get (D := (dC, dI)) (ci := 7) (v := .ref (a 12)) (C := R_MO) (T := F_MO) (N := 24) hx hb hts (fun w h => List.mem_cons_of_mem _ (in_MO w h)) hown hK hP 0 rfl rfl 15 (by decide) (hts _ (List.mem_cons_of_mem _ k_2_176)) (fun _ h9 => h9) rfl d_MO_stage_118 ?_
                    refine lv_iload hx hb d_MO_stage_121 (lv_at hl 0 rfl) ?_
                    refine lv_iload_n hx hb d_MO_stage_123 rfl (lv_at hl 3 rfl) ?_
                    obtain ⟨g29, hf⟩ := z_gz hf
                    refine va_iast hx hb hK hP hD hS 12 11 rfl rfl g29 d_MO_stage_124 (fun H locs hP hD hS => ?_)
                    have hP : va_P (dC, dI) zCl (w_MO a k zpaths zsteps zcached zholds zinside zowner zmaker zcontent zruns zisThere ztarget zplace zrun (upd zstaged p1.toNatClampNeg ((zstaged p1.toNatClampNeg) + (1 : Int32))) zisOpen (upd zstagedAt (((nI 12) * p1) + (zstaged p1.toNatClampNeg)).toNatClampNeg p2) zstagedContent zstagedRuns zstagedLazy zisDirty zcache zhold zmet zrow) H := hP
                    have hD : va_D _ (w_MO a k zpaths zsteps zcached zholds zinside zowner zmaker zcontent zruns zisThere ztarget zplace zrun (upd zstaged p1.toNatClampNeg ((zstaged p1.toNatClampNeg) + (1 : Int32))) zisOpen (upd zstagedAt (((nI 12) * p1) + (zstaged p1.toNatClampNeg)).toNatClampNeg p2) zstagedContent zstagedRuns zstagedLazy zisDirty zcache zhold zmet zrow) := hD
                    refine lv_aload_n hx hb d_MO_stage_125 rfl (lv_at hl 1 rfl) ?_
                    refine va_get (D := (dC, dI)) (ci := 7) (v := .ref (a 13)) (C := R_MO) (T := F_MO) (N := 24) hx hb hts (fun w h => List.mem_cons_of_mem _ (in_MO w h)) hown hK hP 0 rfl rfl 16 (by decide) (hts _ (List.mem_cons_of_mem _ k_2_177)) (fun _ h9 => h9) rfl d_MO_stage_126 ?_
                    refine lv_iload hx hb d_MO_stage_129 (lv_at hl 0 rfl) ?_
                    refine lv_lload_n hx hb d_MO_stage_131 rfl (lv_at hl 4 rfl) ?_
                    obtain ⟨g30, hf⟩ := z_gz hf
                    refine va_last hx hb hK hP hD hS 13 12 rfl rfl g30 d_MO_stage_132 (fun H locs hP hD hS => ?_)
                    have hP : va_P (dC, dI) zCl (w_MO a k zpaths zsteps zcached zholds zinside zowner zmaker zcontent zruns zisThere ztarget zplace zrun (upd zstaged p1.toNatClampNeg ((zstaged p1.toNatClampNeg) + (1 : Int32))) zisOpen (upd zstagedAt (((nI 12) * p1) + (zstaged p1.toNatClampNeg)).toNatClampNeg p2) (vp_updL zstagedContent (((nI 12) * p1) + (zstaged p1.toNatClampNeg)).toNatClampNeg p3) zstagedRuns zstagedLazy zisDirty zcache zhold zmet zrow) H := hP
                    have hD : va_D _ (w_MO a k zpaths zsteps zcached zholds zinside zowner zmaker zcontent zruns zisThere ztarget zplace zrun (upd zstaged p1.toNatClampNeg ((zstaged p1.toNatClampNeg) + (1 : Int32))) zisOpen (upd zstagedAt (((nI 12) * p1) + (zstaged p1.toNatClampNeg)).toNatClampNeg p2) (vp_updL zstagedContent (((nI 12) * p1) + (zstaged p1.toNatClampNeg)).toNatClampNeg p3) zstagedRuns zstagedLazy zisDirty zcache zhold zmet zrow) := hD
                    refine lv_aload_n hx hb d_MO_stage_133 rfl (lv_at hl 1 rfl) ?_
                    refine va_get (D := (dC, dI)) (ci := 7) (v := .ref (a 14)) (C := R_MO) (T := F_MO) (N := 24) hx hb hts (fun w h => List.mem_cons_of_mem _ (in_MO w h)) hown hK hP 0 rfl rfl 17 (by decide) (hts _ (List.mem_cons_of_mem _ k_2_178)) (fun _ h9 => h9) rfl d_MO_stage_134 ?_
                    refine lv_iload hx hb d_MO_stage_137 (lv_at hl 0 rfl) ?_
                    refine lv_iload hx hb d_MO_stage_139 (lv_at hl 5 rfl) ?_
                    obtain ⟨g31, hf⟩ := z_gz hf
                    refine va_zast hx hb hK hP hD hS 14 13 rfl rfl g31 d_MO_stage_141 (fun H locs hP hD hS => ?_)
                    have hP : va_P (dC, dI) zCl (w_MO a k zpaths zsteps zcached zholds zinside zowner zmaker zcontent zruns zisThere ztarget zplace zrun (upd zstaged p1.toNatClampNeg ((zstaged p1.toNatClampNeg) + (1 : Int32))) zisOpen (upd zstagedAt (((nI 12) * p1) + (zstaged p1.toNatClampNeg)).toNatClampNeg p2) (vp_updL zstagedContent (((nI 12) * p1) + (zstaged p1.toNatClampNeg)).toNatClampNeg p3) (upd zstagedRuns (((nI 12) * p1) + (zstaged p1.toNatClampNeg)).toNatClampNeg (vp_nar .boolean p5)) zstagedLazy zisDirty zcache zhold zmet zrow) H := hP
                    have hD : va_D _ (w_MO a k zpaths zsteps zcached zholds zinside zowner zmaker zcontent zruns zisThere ztarget zplace zrun (upd zstaged p1.toNatClampNeg ((zstaged p1.toNatClampNeg) + (1 : Int32))) zisOpen (upd zstagedAt (((nI 12) * p1) + (zstaged p1.toNatClampNeg)).toNatClampNeg p2) (vp_updL zstagedContent (((nI 12) * p1) + (zstaged p1.toNatClampNeg)).toNatClampNeg p3) (upd zstagedRuns (((nI 12) * p1) + (zstaged p1.toNatClampNeg)).toNatClampNeg (vp_nar .boolean p5)) zstagedLazy zisDirty zcache zhold zmet zrow) := hD
                    refine lv_aload_n hx hb d_MO_stage_142 rfl (lv_at hl 1 rfl) ?_
                    refine va_get (D := (dC, dI)) (ci := 7) (v := .ref (a 15)) (C := R_MO) (T := F_MO) (N := 24) hx hb hts (fun w h => List.mem_cons_of_mem _ (in_MO w h)) hown hK hP 0 rfl rfl 18 (by decide) (hts _ (List.mem_cons_of_mem _ k_2_179)) (fun _ h9 => h9) rfl d_MO_stage_143 ?_
                    refine lv_iload hx hb d_MO_stage_146 (lv_at hl 0 rfl) ?_
                    refine lv_iload hx hb d_MO_stage_148 (lv_at hl 6 rfl) ?_
                    obtain ⟨g32, hf⟩ := z_gz hf
                    refine va_zast hx hb hK hP hD hS 15 14 rfl rfl g32 d_MO_stage_150 (fun H locs hP hD hS => ?_)
                    have hP : va_P (dC, dI) zCl (w_MO a k zpaths zsteps zcached zholds zinside zowner zmaker zcontent zruns zisThere ztarget zplace zrun (upd zstaged p1.toNatClampNeg ((zstaged p1.toNatClampNeg) + (1 : Int32))) zisOpen (upd zstagedAt (((nI 12) * p1) + (zstaged p1.toNatClampNeg)).toNatClampNeg p2) (vp_updL zstagedContent (((nI 12) * p1) + (zstaged p1.toNatClampNeg)).toNatClampNeg p3) (upd zstagedRuns (((nI 12) * p1) + (zstaged p1.toNatClampNeg)).toNatClampNeg (vp_nar .boolean p5)) (upd zstagedLazy (((nI 12) * p1) + (zstaged p1.toNatClampNeg)).toNatClampNeg (vp_nar .boolean p6)) zisDirty zcache zhold zmet zrow) H := hP
                    have hD : va_D _ (w_MO a k zpaths zsteps zcached zholds zinside zowner zmaker zcontent zruns zisThere ztarget zplace zrun (upd zstaged p1.toNatClampNeg ((zstaged p1.toNatClampNeg) + (1 : Int32))) zisOpen (upd zstagedAt (((nI 12) * p1) + (zstaged p1.toNatClampNeg)).toNatClampNeg p2) (vp_updL zstagedContent (((nI 12) * p1) + (zstaged p1.toNatClampNeg)).toNatClampNeg p3) (upd zstagedRuns (((nI 12) * p1) + (zstaged p1.toNatClampNeg)).toNatClampNeg (vp_nar .boolean p5)) (upd zstagedLazy (((nI 12) * p1) + (zstaged p1.toNatClampNeg)).toNatClampNeg (vp_nar .boolean p6)) zisDirty zcache zhold zmet zrow) := hD
                    refine lv_iconst (v := (1 : Int32)) hx hb d_MO_stage_151 (by decide) ?_
                    obtain rfl := Option.some.inj hf
                    exact z_iret hx hb hr hP hD hS d_MO_stage_152 hlocks
                · have hf := z_fn c20 hf
                  refine lv_bipush (v := (-3 : Int32)) hx hb d_MO_stage_85 (by decide) ?_
                  obtain rfl := Option.some.inj hf
                  exact z_iret hx hb hr hP hD hS d_MO_stage_87 hlocks
            · have hf := z_f c6 hf
              refine lv_bipush (v := (-2 : Int32)) hx hb d_MO_stage_69 (by decide) ?_
              obtain rfl := Option.some.inj hf
              exact z_iret hx hb hr hP hD hS d_MO_stage_71 hlocks
        · have hf := z_fn c4 hf
          refine lv_aload_n hx hb d_MO_stage_38 rfl (lv_at hl 1 rfl) ?_
          refine va_get (D := (dC, dI)) (ci := 7) (v := .ref (a 10)) (C := R_MO) (T := F_MO) (N := 24) hx hb hts (fun w h => List.mem_cons_of_mem _ (in_MO w h)) hown hK hP 0 rfl rfl 13 (by decide) (hts _ (List.mem_cons_of_mem _ k_2_174)) (fun _ h9 => h9) rfl d_MO_stage_39 ?_
          refine lv_iload_n hx hb d_MO_stage_42 rfl (lv_at hl 2 rfl) ?_
          obtain ⟨g33, hf⟩ := z_gz hf
          refine va_iald hx hb hK hP 10 9 rfl rfl g33 d_MO_stage_43 ?_
          refine lv_bipush (v := (nI 12)) hx hb d_MO_stage_44 (by decide) ?_
          refine lv_icmp_ne (tgt := 51) hx hb d_MO_stage_46 (by decide) (fun c34 => ?_) (fun c34 => ?_)
          · have hf := z_t c34 hf
            refine lv_aload_n hx hb d_MO_stage_51 rfl (lv_at hl 1 rfl) ?_
            refine lv_iload_n hx hb d_MO_stage_52 rfl (lv_at hl 2 rfl) ?_
            refine lv_iload_n hx hb d_MO_stage_53 rfl (lv_at hl 3 rfl) ?_
            obtain ⟨u6, hu6, hf⟩ := z_b hf
            have hPc := hP
            have hDc := hD
            have hKc := hK
            refine z_cwi (va_runV (As := [.int p1, .int p2]) (rest := []) ⟨hx, hb, hml, hown, hts⟩ (c_MO_meetsOutput l dC dI N a k zpaths zsteps zcached zholds zinside zowner zmaker zcontent zruns zisThere ztarget zplace zrun zstaged zisOpen zstagedAt zstagedContent zstagedRuns zstagedLazy zisDirty zcache zhold zmet zrow p1 p2 hu6 H.size) (cwV 2 hts (zGV zsub_c k_3_21 k_3_23 s_MO_meetsOutput k_1_8 kc_MO_meetsOutput) rfl rfl rfl (by decide +kernel) ⟨Nat.le_of_ble_eq_true rfl, Nat.le_of_ble_eq_true rfl⟩) ⟨z_bl, va_recv hKc hPc (ci := 7) (q0 := 0) rfl rfl, fun U hU hW => ⟨rfl, z_pre hN hKc hPc hDc U hU hW⟩⟩ rfl rfl hl.1 rfl (lv_room (Nat.le_of_ble_eq_true rfl)) d_MO_stage_54 ⟨Nat.zero_le _, Nat.zero_le _⟩) hD hS hA (fun H locs hP hD hS => ?_)
            refine lv_if_ne (tgt := 69) hx hb d_MO_stage_57 (by decide) (fun c35 => ?_) (fun c35 => ?_)
            · have hf := z_t c35 hf
              refine lv_bipush (v := (-2 : Int32)) hx hb d_MO_stage_69 (by decide) ?_
              obtain rfl := Option.some.inj hf
              exact z_iret hx hb hr hP hD hS d_MO_stage_71 hlocks
            · have hf := z_fn c35 hf
              refine lv_aload_n hx hb d_MO_stage_60 rfl (lv_at hl 1 rfl) ?_
              refine lv_iload_n hx hb d_MO_stage_61 rfl (lv_at hl 2 rfl) ?_
              refine lv_iload_n hx hb d_MO_stage_62 rfl (lv_at hl 3 rfl) ?_
              obtain ⟨u7, hu7, hf⟩ := z_b hf
              have hPc := hP
              have hDc := hD
              have hKc := hK
              refine z_cwi (va_runV (As := [.int p1, .int p2]) (rest := []) ⟨hx, hb, hml, hown, hts⟩ (c_MO_meetsStaged l dC dI N a k zpaths zsteps zcached zholds zinside zowner zmaker zcontent zruns zisThere ztarget zplace zrun zstaged zisOpen zstagedAt zstagedContent zstagedRuns zstagedLazy zisDirty zcache zhold zmet zrow p1 p2 hu7 H.size) (cwV 2 hts (zGV zsub_c k_3_33 k_3_35 s_MO_meetsStaged k_1_8 kc_MO_meetsStaged) rfl rfl rfl (by decide +kernel) ⟨Nat.le_of_ble_eq_true rfl, Nat.le_of_ble_eq_true rfl⟩) ⟨z_bl, va_recv hKc hPc (ci := 7) (q0 := 0) rfl rfl, fun U hU hW => ⟨rfl, z_pre hN hKc hPc hDc U hU hW⟩⟩ rfl rfl hl.1 rfl (lv_room (Nat.le_of_ble_eq_true rfl)) d_MO_stage_63 ⟨Nat.zero_le _, Nat.zero_le _⟩) hD hS hA (fun H locs hP hD hS => ?_)
              refine lv_if_eq (tgt := 72) hx hb d_MO_stage_66 (by decide) (fun c36 => ?_) (fun c36 => ?_)
              · have hf := z_t c36 hf
                refine lv_iload hx hb d_MO_stage_72 (lv_at hl 6 rfl) ?_
                refine lv_if_eq (tgt := 88) hx hb d_MO_stage_74 (by decide) (fun c37 => ?_) (fun c37 => ?_)
                · have hf := z_t c37 hf
                  refine lv_iload hx hb d_MO_stage_88 (lv_at hl 0 rfl) ?_
                  refine lv_iconst (v := (-1 : Int32)) hx hb d_MO_stage_90 (by decide) ?_
                  refine lv_icmp_ne (tgt := 117) hx hb d_MO_stage_91 (by decide) (fun c38 => ?_) (fun c38 => ?_)
                  · have hf := z_t c38 hf
                    refine lv_aload_n hx hb d_MO_stage_117 rfl (lv_at hl 1 rfl) ?_
                    refine va_get (D := (dC, dI)) (ci := 7) (v := .ref (a 12)) (C := R_MO) (T := F_MO) (N := 24) hx hb hts (fun w h => List.mem_cons_of_mem _ (in_MO w h)) hown hK hP 0 rfl rfl 15 (by decide) (hts _ (List.mem_cons_of_mem _ k_2_176)) (fun _ h9 => h9) rfl d_MO_stage_118 ?_
                    refine lv_iload hx hb d_MO_stage_121 (lv_at hl 0 rfl) ?_
                    refine lv_iload_n hx hb d_MO_stage_123 rfl (lv_at hl 3 rfl) ?_
                    obtain ⟨g39, hf⟩ := z_gz hf
                    refine va_iast hx hb hK hP hD hS 12 11 rfl rfl g39 d_MO_stage_124 (fun H locs hP hD hS => ?_)
                    have hP : va_P (dC, dI) zCl (w_MO a k zpaths zsteps zcached zholds zinside zowner zmaker zcontent zruns zisThere ztarget zplace zrun zstaged zisOpen (upd zstagedAt u2.toNatClampNeg p2) zstagedContent zstagedRuns zstagedLazy zisDirty zcache zhold zmet zrow) H := hP
                    have hD : va_D _ (w_MO a k zpaths zsteps zcached zholds zinside zowner zmaker zcontent zruns zisThere ztarget zplace zrun zstaged zisOpen (upd zstagedAt u2.toNatClampNeg p2) zstagedContent zstagedRuns zstagedLazy zisDirty zcache zhold zmet zrow) := hD
                    refine lv_aload_n hx hb d_MO_stage_125 rfl (lv_at hl 1 rfl) ?_
                    refine va_get (D := (dC, dI)) (ci := 7) (v := .ref (a 13)) (C := R_MO) (T := F_MO) (N := 24) hx hb hts (fun w h => List.mem_cons_of_mem _ (in_MO w h)) hown hK hP 0 rfl rfl 16 (by decide) (hts _ (List.mem_cons_of_mem _ k_2_177)) (fun _ h9 => h9) rfl d_MO_stage_126 ?_
                    refine lv_iload hx hb d_MO_stage_129 (lv_at hl 0 rfl) ?_
                    refine lv_lload_n hx hb d_MO_stage_131 rfl (lv_at hl 4 rfl) ?_
                    obtain ⟨g40, hf⟩ := z_gz hf
                    refine va_last hx hb hK hP hD hS 13 12 rfl rfl g40 d_MO_stage_132 (fun H locs hP hD hS => ?_)
                    have hP : va_P (dC, dI) zCl (w_MO a k zpaths zsteps zcached zholds zinside zowner zmaker zcontent zruns zisThere ztarget zplace zrun zstaged zisOpen (upd zstagedAt u2.toNatClampNeg p2) (vp_updL zstagedContent u2.toNatClampNeg p3) zstagedRuns zstagedLazy zisDirty zcache zhold zmet zrow) H := hP
                    have hD : va_D _ (w_MO a k zpaths zsteps zcached zholds zinside zowner zmaker zcontent zruns zisThere ztarget zplace zrun zstaged zisOpen (upd zstagedAt u2.toNatClampNeg p2) (vp_updL zstagedContent u2.toNatClampNeg p3) zstagedRuns zstagedLazy zisDirty zcache zhold zmet zrow) := hD
                    refine lv_aload_n hx hb d_MO_stage_133 rfl (lv_at hl 1 rfl) ?_
                    refine va_get (D := (dC, dI)) (ci := 7) (v := .ref (a 14)) (C := R_MO) (T := F_MO) (N := 24) hx hb hts (fun w h => List.mem_cons_of_mem _ (in_MO w h)) hown hK hP 0 rfl rfl 17 (by decide) (hts _ (List.mem_cons_of_mem _ k_2_178)) (fun _ h9 => h9) rfl d_MO_stage_134 ?_
                    refine lv_iload hx hb d_MO_stage_137 (lv_at hl 0 rfl) ?_
                    refine lv_iload hx hb d_MO_stage_139 (lv_at hl 5 rfl) ?_
                    obtain ⟨g41, hf⟩ := z_gz hf
                    refine va_zast hx hb hK hP hD hS 14 13 rfl rfl g41 d_MO_stage_141 (fun H locs hP hD hS => ?_)
                    have hP : va_P (dC, dI) zCl (w_MO a k zpaths zsteps zcached zholds zinside zowner zmaker zcontent zruns zisThere ztarget zplace zrun zstaged zisOpen (upd zstagedAt u2.toNatClampNeg p2) (vp_updL zstagedContent u2.toNatClampNeg p3) (upd zstagedRuns u2.toNatClampNeg (vp_nar .boolean p5)) zstagedLazy zisDirty zcache zhold zmet zrow) H := hP
                    have hD : va_D _ (w_MO a k zpaths zsteps zcached zholds zinside zowner zmaker zcontent zruns zisThere ztarget zplace zrun zstaged zisOpen (upd zstagedAt u2.toNatClampNeg p2) (vp_updL zstagedContent u2.toNatClampNeg p3) (upd zstagedRuns u2.toNatClampNeg (vp_nar .boolean p5)) zstagedLazy zisDirty zcache zhold zmet zrow) := hD
                    refine lv_aload_n hx hb d_MO_stage_142 rfl (lv_at hl 1 rfl) ?_
                    refine va_get (D := (dC, dI)) (ci := 7) (v := .ref (a 15)) (C := R_MO) (T := F_MO) (N := 24) hx hb hts (fun w h => List.mem_cons_of_mem _ (in_MO w h)) hown hK hP 0 rfl rfl 18 (by decide) (hts _ (List.mem_cons_of_mem _ k_2_179)) (fun _ h9 => h9) rfl d_MO_stage_143 ?_
                    refine lv_iload hx hb d_MO_stage_146 (lv_at hl 0 rfl) ?_
                    refine lv_iload hx hb d_MO_stage_148 (lv_at hl 6 rfl) ?_
                    obtain ⟨g42, hf⟩ := z_gz hf
                    refine va_zast hx hb hK hP hD hS 15 14 rfl rfl g42 d_MO_stage_150 (fun H locs hP hD hS => ?_)
                    have hP : va_P (dC, dI) zCl (w_MO a k zpaths zsteps zcached zholds zinside zowner zmaker zcontent zruns zisThere ztarget zplace zrun zstaged zisOpen (upd zstagedAt u2.toNatClampNeg p2) (vp_updL zstagedContent u2.toNatClampNeg p3) (upd zstagedRuns u2.toNatClampNeg (vp_nar .boolean p5)) (upd zstagedLazy u2.toNatClampNeg (vp_nar .boolean p6)) zisDirty zcache zhold zmet zrow) H := hP
                    have hD : va_D _ (w_MO a k zpaths zsteps zcached zholds zinside zowner zmaker zcontent zruns zisThere ztarget zplace zrun zstaged zisOpen (upd zstagedAt u2.toNatClampNeg p2) (vp_updL zstagedContent u2.toNatClampNeg p3) (upd zstagedRuns u2.toNatClampNeg (vp_nar .boolean p5)) (upd zstagedLazy u2.toNatClampNeg (vp_nar .boolean p6)) zisDirty zcache zhold zmet zrow) := hD
                    refine lv_iconst (v := (1 : Int32)) hx hb d_MO_stage_151 (by decide) ?_
                    obtain rfl := Option.some.inj hf
                    exact z_iret hx hb hr hP hD hS d_MO_stage_152 hlocks
                  · have hf := z_fn c38 hf
                    refine lv_bipush (v := (nI 12)) hx hb d_MO_stage_94 (by decide) ?_
                    refine lv_iload_n hx hb d_MO_stage_96 rfl (lv_at hl 2 rfl) ?_
                    refine lv_imul hx hb d_MO_stage_97 ?_
                    refine lv_aload_n hx hb d_MO_stage_98 rfl (lv_at hl 1 rfl) ?_
                    refine va_get (D := (dC, dI)) (ci := 7) (v := .ref (a 10)) (C := R_MO) (T := F_MO) (N := 24) hx hb hts (fun w h => List.mem_cons_of_mem _ (in_MO w h)) hown hK hP 0 rfl rfl 13 (by decide) (hts _ (List.mem_cons_of_mem _ k_2_174)) (fun _ h9 => h9) rfl d_MO_stage_99 ?_
                    refine lv_iload_n hx hb d_MO_stage_102 rfl (lv_at hl 2 rfl) ?_
                    obtain ⟨g43, hf⟩ := z_gz hf
                    refine va_iald hx hb hK hP 10 9 rfl rfl g43 d_MO_stage_103 ?_
                    refine lv_iadd hx hb d_MO_stage_104 ?_
                    refine lv_istore (lv' := [(7, .int (((nI 12) * p1) + (zstaged p1.toNatClampNeg))), (0, .ref (a 0)), (1, .int p1), (2, .int p2), (3, .long p3), (5, .int p5), (6, .int p6)]) hx hb d_MO_stage_105 hl (by decide) rfl (fun ls hl => ?_)
                    refine lv_aload_n hx hb d_MO_stage_107 rfl (lv_at hl 1 rfl) ?_
                    refine va_get (D := (dC, dI)) (ci := 7) (v := .ref (a 10)) (C := R_MO) (T := F_MO) (N := 24) hx hb hts (fun w h => List.mem_cons_of_mem _ (in_MO w h)) hown hK hP 0 rfl rfl 13 (by decide) (hts _ (List.mem_cons_of_mem _ k_2_174)) (fun _ h9 => h9) rfl d_MO_stage_108 ?_
                    refine lv_iload_n hx hb d_MO_stage_111 rfl (lv_at hl 2 rfl) ?_
                    refine lv_dup2_11 hx hb d_MO_stage_112 rfl rfl ?_
                    obtain ⟨g44, hf⟩ := z_gz hf
                    refine va_iald hx hb hK hP 10 9 rfl rfl g44 d_MO_stage_113 ?_
                    refine lv_iconst (v := (1 : Int32)) hx hb d_MO_stage_114 (by decide) ?_
                    refine lv_iadd hx hb d_MO_stage_115 ?_
                    obtain ⟨g45, hf⟩ := z_gz hf
                    refine va_iast hx hb hK hP hD hS 10 9 rfl rfl g45 d_MO_stage_116 (fun H locs hP hD hS => ?_)
                    have hP : va_P (dC, dI) zCl (w_MO a k zpaths zsteps zcached zholds zinside zowner zmaker zcontent zruns zisThere ztarget zplace zrun (upd zstaged p1.toNatClampNeg ((zstaged p1.toNatClampNeg) + (1 : Int32))) zisOpen zstagedAt zstagedContent zstagedRuns zstagedLazy zisDirty zcache zhold zmet zrow) H := hP
                    have hD : va_D _ (w_MO a k zpaths zsteps zcached zholds zinside zowner zmaker zcontent zruns zisThere ztarget zplace zrun (upd zstaged p1.toNatClampNeg ((zstaged p1.toNatClampNeg) + (1 : Int32))) zisOpen zstagedAt zstagedContent zstagedRuns zstagedLazy zisDirty zcache zhold zmet zrow) := hD
                    refine lv_aload_n hx hb d_MO_stage_117 rfl (lv_at hl 1 rfl) ?_
                    refine va_get (D := (dC, dI)) (ci := 7) (v := .ref (a 12)) (C := R_MO) (T := F_MO) (N := 24) hx hb hts (fun w h => List.mem_cons_of_mem _ (in_MO w h)) hown hK hP 0 rfl rfl 15 (by decide) (hts _ (List.mem_cons_of_mem _ k_2_176)) (fun _ h9 => h9) rfl d_MO_stage_118 ?_
                    refine lv_iload hx hb d_MO_stage_121 (lv_at hl 0 rfl) ?_
                    refine lv_iload_n hx hb d_MO_stage_123 rfl (lv_at hl 3 rfl) ?_
                    obtain ⟨g46, hf⟩ := z_gz hf
                    refine va_iast hx hb hK hP hD hS 12 11 rfl rfl g46 d_MO_stage_124 (fun H locs hP hD hS => ?_)
                    have hP : va_P (dC, dI) zCl (w_MO a k zpaths zsteps zcached zholds zinside zowner zmaker zcontent zruns zisThere ztarget zplace zrun (upd zstaged p1.toNatClampNeg ((zstaged p1.toNatClampNeg) + (1 : Int32))) zisOpen (upd zstagedAt (((nI 12) * p1) + (zstaged p1.toNatClampNeg)).toNatClampNeg p2) zstagedContent zstagedRuns zstagedLazy zisDirty zcache zhold zmet zrow) H := hP
                    have hD : va_D _ (w_MO a k zpaths zsteps zcached zholds zinside zowner zmaker zcontent zruns zisThere ztarget zplace zrun (upd zstaged p1.toNatClampNeg ((zstaged p1.toNatClampNeg) + (1 : Int32))) zisOpen (upd zstagedAt (((nI 12) * p1) + (zstaged p1.toNatClampNeg)).toNatClampNeg p2) zstagedContent zstagedRuns zstagedLazy zisDirty zcache zhold zmet zrow) := hD
                    refine lv_aload_n hx hb d_MO_stage_125 rfl (lv_at hl 1 rfl) ?_
                    refine va_get (D := (dC, dI)) (ci := 7) (v := .ref (a 13)) (C := R_MO) (T := F_MO) (N := 24) hx hb hts (fun w h => List.mem_cons_of_mem _ (in_MO w h)) hown hK hP 0 rfl rfl 16 (by decide) (hts _ (List.mem_cons_of_mem _ k_2_177)) (fun _ h9 => h9) rfl d_MO_stage_126 ?_
                    refine lv_iload hx hb d_MO_stage_129 (lv_at hl 0 rfl) ?_
                    refine lv_lload_n hx hb d_MO_stage_131 rfl (lv_at hl 4 rfl) ?_
                    obtain ⟨g47, hf⟩ := z_gz hf
                    refine va_last hx hb hK hP hD hS 13 12 rfl rfl g47 d_MO_stage_132 (fun H locs hP hD hS => ?_)
                    have hP : va_P (dC, dI) zCl (w_MO a k zpaths zsteps zcached zholds zinside zowner zmaker zcontent zruns zisThere ztarget zplace zrun (upd zstaged p1.toNatClampNeg ((zstaged p1.toNatClampNeg) + (1 : Int32))) zisOpen (upd zstagedAt (((nI 12) * p1) + (zstaged p1.toNatClampNeg)).toNatClampNeg p2) (vp_updL zstagedContent (((nI 12) * p1) + (zstaged p1.toNatClampNeg)).toNatClampNeg p3) zstagedRuns zstagedLazy zisDirty zcache zhold zmet zrow) H := hP
                    have hD : va_D _ (w_MO a k zpaths zsteps zcached zholds zinside zowner zmaker zcontent zruns zisThere ztarget zplace zrun (upd zstaged p1.toNatClampNeg ((zstaged p1.toNatClampNeg) + (1 : Int32))) zisOpen (upd zstagedAt (((nI 12) * p1) + (zstaged p1.toNatClampNeg)).toNatClampNeg p2) (vp_updL zstagedContent (((nI 12) * p1) + (zstaged p1.toNatClampNeg)).toNatClampNeg p3) zstagedRuns zstagedLazy zisDirty zcache zhold zmet zrow) := hD
                    refine lv_aload_n hx hb d_MO_stage_133 rfl (lv_at hl 1 rfl) ?_
                    refine va_get (D := (dC, dI)) (ci := 7) (v := .ref (a 14)) (C := R_MO) (T := F_MO) (N := 24) hx hb hts (fun w h => List.mem_cons_of_mem _ (in_MO w h)) hown hK hP 0 rfl rfl 17 (by decide) (hts _ (List.mem_cons_of_mem _ k_2_178)) (fun _ h9 => h9) rfl d_MO_stage_134 ?_
                    refine lv_iload hx hb d_MO_stage_137 (lv_at hl 0 rfl) ?_
                    refine lv_iload hx hb d_MO_stage_139 (lv_at hl 5 rfl) ?_
                    obtain ⟨g48, hf⟩ := z_gz hf
                    refine va_zast hx hb hK hP hD hS 14 13 rfl rfl g48 d_MO_stage_141 (fun H locs hP hD hS => ?_)
                    have hP : va_P (dC, dI) zCl (w_MO a k zpaths zsteps zcached zholds zinside zowner zmaker zcontent zruns zisThere ztarget zplace zrun (upd zstaged p1.toNatClampNeg ((zstaged p1.toNatClampNeg) + (1 : Int32))) zisOpen (upd zstagedAt (((nI 12) * p1) + (zstaged p1.toNatClampNeg)).toNatClampNeg p2) (vp_updL zstagedContent (((nI 12) * p1) + (zstaged p1.toNatClampNeg)).toNatClampNeg p3) (upd zstagedRuns (((nI 12) * p1) + (zstaged p1.toNatClampNeg)).toNatClampNeg (vp_nar .boolean p5)) zstagedLazy zisDirty zcache zhold zmet zrow) H := hP
                    have hD : va_D _ (w_MO a k zpaths zsteps zcached zholds zinside zowner zmaker zcontent zruns zisThere ztarget zplace zrun (upd zstaged p1.toNatClampNeg ((zstaged p1.toNatClampNeg) + (1 : Int32))) zisOpen (upd zstagedAt (((nI 12) * p1) + (zstaged p1.toNatClampNeg)).toNatClampNeg p2) (vp_updL zstagedContent (((nI 12) * p1) + (zstaged p1.toNatClampNeg)).toNatClampNeg p3) (upd zstagedRuns (((nI 12) * p1) + (zstaged p1.toNatClampNeg)).toNatClampNeg (vp_nar .boolean p5)) zstagedLazy zisDirty zcache zhold zmet zrow) := hD
                    refine lv_aload_n hx hb d_MO_stage_142 rfl (lv_at hl 1 rfl) ?_
                    refine va_get (D := (dC, dI)) (ci := 7) (v := .ref (a 15)) (C := R_MO) (T := F_MO) (N := 24) hx hb hts (fun w h => List.mem_cons_of_mem _ (in_MO w h)) hown hK hP 0 rfl rfl 18 (by decide) (hts _ (List.mem_cons_of_mem _ k_2_179)) (fun _ h9 => h9) rfl d_MO_stage_143 ?_
                    refine lv_iload hx hb d_MO_stage_146 (lv_at hl 0 rfl) ?_
                    refine lv_iload hx hb d_MO_stage_148 (lv_at hl 6 rfl) ?_
                    obtain ⟨g49, hf⟩ := z_gz hf
                    refine va_zast hx hb hK hP hD hS 15 14 rfl rfl g49 d_MO_stage_150 (fun H locs hP hD hS => ?_)
                    have hP : va_P (dC, dI) zCl (w_MO a k zpaths zsteps zcached zholds zinside zowner zmaker zcontent zruns zisThere ztarget zplace zrun (upd zstaged p1.toNatClampNeg ((zstaged p1.toNatClampNeg) + (1 : Int32))) zisOpen (upd zstagedAt (((nI 12) * p1) + (zstaged p1.toNatClampNeg)).toNatClampNeg p2) (vp_updL zstagedContent (((nI 12) * p1) + (zstaged p1.toNatClampNeg)).toNatClampNeg p3) (upd zstagedRuns (((nI 12) * p1) + (zstaged p1.toNatClampNeg)).toNatClampNeg (vp_nar .boolean p5)) (upd zstagedLazy (((nI 12) * p1) + (zstaged p1.toNatClampNeg)).toNatClampNeg (vp_nar .boolean p6)) zisDirty zcache zhold zmet zrow) H := hP
                    have hD : va_D _ (w_MO a k zpaths zsteps zcached zholds zinside zowner zmaker zcontent zruns zisThere ztarget zplace zrun (upd zstaged p1.toNatClampNeg ((zstaged p1.toNatClampNeg) + (1 : Int32))) zisOpen (upd zstagedAt (((nI 12) * p1) + (zstaged p1.toNatClampNeg)).toNatClampNeg p2) (vp_updL zstagedContent (((nI 12) * p1) + (zstaged p1.toNatClampNeg)).toNatClampNeg p3) (upd zstagedRuns (((nI 12) * p1) + (zstaged p1.toNatClampNeg)).toNatClampNeg (vp_nar .boolean p5)) (upd zstagedLazy (((nI 12) * p1) + (zstaged p1.toNatClampNeg)).toNatClampNeg (vp_nar .boolean p6)) zisDirty zcache zhold zmet zrow) := hD
                    refine lv_iconst (v := (1 : Int32)) hx hb d_MO_stage_151 (by decide) ?_
                    obtain rfl := Option.some.inj hf
                    exact z_iret hx hb hr hP hD hS d_MO_stage_152 hlocks
                · have hf := z_f c37 hf
                  refine lv_aload_n hx hb d_MO_stage_77 rfl (lv_at hl 1 rfl) ?_
                  refine lv_lload_n hx hb d_MO_stage_78 rfl (lv_at hl 4 rfl) ?_
                  obtain ⟨u8, hu8, hf⟩ := z_b hf
                  have hPc := hP
                  have hDc := hD
                  have hKc := hK
                  refine z_cwi (va_runV (As := [.long p3]) (rest := []) ⟨hx, hb, hml, hown, hts⟩ (c_MO_isCached l dC dI N a k zpaths zsteps zcached zholds zinside zowner zmaker zcontent zruns zisThere ztarget zplace zrun zstaged zisOpen zstagedAt zstagedContent zstagedRuns zstagedLazy zisDirty zcache zhold zmet zrow p3 hu8 H.size) (cwV 1 hts (zGV zsub_c k_3_37 k_3_39 s_MO_isCached k_1_8 kc_MO_isCached) rfl rfl rfl (by decide +kernel) ⟨Nat.le_of_ble_eq_true rfl, Nat.le_of_ble_eq_true rfl⟩) ⟨z_bl, va_recv hKc hPc (ci := 7) (q0 := 0) rfl rfl, fun U hU hW => ⟨rfl, z_pre hN hKc hPc hDc U hU hW⟩⟩ rfl rfl hl.1 rfl (lv_room (Nat.le_of_ble_eq_true rfl)) d_MO_stage_79 ⟨Nat.zero_le _, Nat.zero_le _⟩) hD hS hA (fun H locs hP hD hS => ?_)
                  refine lv_if_ne (tgt := 88) hx hb d_MO_stage_82 (by decide) (fun c50 => ?_) (fun c50 => ?_)
                  · have hf := z_t c50 hf
                    refine lv_iload hx hb d_MO_stage_88 (lv_at hl 0 rfl) ?_
                    refine lv_iconst (v := (-1 : Int32)) hx hb d_MO_stage_90 (by decide) ?_
                    refine lv_icmp_ne (tgt := 117) hx hb d_MO_stage_91 (by decide) (fun c51 => ?_) (fun c51 => ?_)
                    · have hf := z_t c51 hf
                      refine lv_aload_n hx hb d_MO_stage_117 rfl (lv_at hl 1 rfl) ?_
                      refine va_get (D := (dC, dI)) (ci := 7) (v := .ref (a 12)) (C := R_MO) (T := F_MO) (N := 24) hx hb hts (fun w h => List.mem_cons_of_mem _ (in_MO w h)) hown hK hP 0 rfl rfl 15 (by decide) (hts _ (List.mem_cons_of_mem _ k_2_176)) (fun _ h9 => h9) rfl d_MO_stage_118 ?_
                      refine lv_iload hx hb d_MO_stage_121 (lv_at hl 0 rfl) ?_
                      refine lv_iload_n hx hb d_MO_stage_123 rfl (lv_at hl 3 rfl) ?_
                      obtain ⟨g52, hf⟩ := z_gz hf
                      refine va_iast hx hb hK hP hD hS 12 11 rfl rfl g52 d_MO_stage_124 (fun H locs hP hD hS => ?_)
                      have hP : va_P (dC, dI) zCl (w_MO a k zpaths zsteps zcached zholds zinside zowner zmaker zcontent zruns zisThere ztarget zplace zrun zstaged zisOpen (upd zstagedAt u2.toNatClampNeg p2) zstagedContent zstagedRuns zstagedLazy zisDirty zcache zhold zmet zrow) H := hP
                      have hD : va_D _ (w_MO a k zpaths zsteps zcached zholds zinside zowner zmaker zcontent zruns zisThere ztarget zplace zrun zstaged zisOpen (upd zstagedAt u2.toNatClampNeg p2) zstagedContent zstagedRuns zstagedLazy zisDirty zcache zhold zmet zrow) := hD
                      refine lv_aload_n hx hb d_MO_stage_125 rfl (lv_at hl 1 rfl) ?_
                      refine va_get (D := (dC, dI)) (ci := 7) (v := .ref (a 13)) (C := R_MO) (T := F_MO) (N := 24) hx hb hts (fun w h => List.mem_cons_of_mem _ (in_MO w h)) hown hK hP 0 rfl rfl 16 (by decide) (hts _ (List.mem_cons_of_mem _ k_2_177)) (fun _ h9 => h9) rfl d_MO_stage_126 ?_
                      refine lv_iload hx hb d_MO_stage_129 (lv_at hl 0 rfl) ?_
                      refine lv_lload_n hx hb d_MO_stage_131 rfl (lv_at hl 4 rfl) ?_
                      obtain ⟨g53, hf⟩ := z_gz hf
                      refine va_last hx hb hK hP hD hS 13 12 rfl rfl g53 d_MO_stage_132 (fun H locs hP hD hS => ?_)
                      have hP : va_P (dC, dI) zCl (w_MO a k zpaths zsteps zcached zholds zinside zowner zmaker zcontent zruns zisThere ztarget zplace zrun zstaged zisOpen (upd zstagedAt u2.toNatClampNeg p2) (vp_updL zstagedContent u2.toNatClampNeg p3) zstagedRuns zstagedLazy zisDirty zcache zhold zmet zrow) H := hP
                      have hD : va_D _ (w_MO a k zpaths zsteps zcached zholds zinside zowner zmaker zcontent zruns zisThere ztarget zplace zrun zstaged zisOpen (upd zstagedAt u2.toNatClampNeg p2) (vp_updL zstagedContent u2.toNatClampNeg p3) zstagedRuns zstagedLazy zisDirty zcache zhold zmet zrow) := hD
                      refine lv_aload_n hx hb d_MO_stage_133 rfl (lv_at hl 1 rfl) ?_
                      refine va_get (D := (dC, dI)) (ci := 7) (v := .ref (a 14)) (C := R_MO) (T := F_MO) (N := 24) hx hb hts (fun w h => List.mem_cons_of_mem _ (in_MO w h)) hown hK hP 0 rfl rfl 17 (by decide) (hts _ (List.mem_cons_of_mem _ k_2_178)) (fun _ h9 => h9) rfl d_MO_stage_134 ?_
                      refine lv_iload hx hb d_MO_stage_137 (lv_at hl 0 rfl) ?_
                      refine lv_iload hx hb d_MO_stage_139 (lv_at hl 5 rfl) ?_
                      obtain ⟨g54, hf⟩ := z_gz hf
                      refine va_zast hx hb hK hP hD hS 14 13 rfl rfl g54 d_MO_stage_141 (fun H locs hP hD hS => ?_)
                      have hP : va_P (dC, dI) zCl (w_MO a k zpaths zsteps zcached zholds zinside zowner zmaker zcontent zruns zisThere ztarget zplace zrun zstaged zisOpen (upd zstagedAt u2.toNatClampNeg p2) (vp_updL zstagedContent u2.toNatClampNeg p3) (upd zstagedRuns u2.toNatClampNeg (vp_nar .boolean p5)) zstagedLazy zisDirty zcache zhold zmet zrow) H := hP
                      have hD : va_D _ (w_MO a k zpaths zsteps zcached zholds zinside zowner zmaker zcontent zruns zisThere ztarget zplace zrun zstaged zisOpen (upd zstagedAt u2.toNatClampNeg p2) (vp_updL zstagedContent u2.toNatClampNeg p3) (upd zstagedRuns u2.toNatClampNeg (vp_nar .boolean p5)) zstagedLazy zisDirty zcache zhold zmet zrow) := hD
                      refine lv_aload_n hx hb d_MO_stage_142 rfl (lv_at hl 1 rfl) ?_
                      refine va_get (D := (dC, dI)) (ci := 7) (v := .ref (a 15)) (C := R_MO) (T := F_MO) (N := 24) hx hb hts (fun w h => List.mem_cons_of_mem _ (in_MO w h)) hown hK hP 0 rfl rfl 18 (by decide) (hts _ (List.mem_cons_of_mem _ k_2_179)) (fun _ h9 => h9) rfl d_MO_stage_143 ?_
                      refine lv_iload hx hb d_MO_stage_146 (lv_at hl 0 rfl) ?_
                      refine lv_iload hx hb d_MO_stage_148 (lv_at hl 6 rfl) ?_
                      obtain ⟨g55, hf⟩ := z_gz hf
                      refine va_zast hx hb hK hP hD hS 15 14 rfl rfl g55 d_MO_stage_150 (fun H locs hP hD hS => ?_)
                      have hP : va_P (dC, dI) zCl (w_MO a k zpaths zsteps zcached zholds zinside zowner zmaker zcontent zruns zisThere ztarget zplace zrun zstaged zisOpen (upd zstagedAt u2.toNatClampNeg p2) (vp_updL zstagedContent u2.toNatClampNeg p3) (upd zstagedRuns u2.toNatClampNeg (vp_nar .boolean p5)) (upd zstagedLazy u2.toNatClampNeg (vp_nar .boolean p6)) zisDirty zcache zhold zmet zrow) H := hP
                      have hD : va_D _ (w_MO a k zpaths zsteps zcached zholds zinside zowner zmaker zcontent zruns zisThere ztarget zplace zrun zstaged zisOpen (upd zstagedAt u2.toNatClampNeg p2) (vp_updL zstagedContent u2.toNatClampNeg p3) (upd zstagedRuns u2.toNatClampNeg (vp_nar .boolean p5)) (upd zstagedLazy u2.toNatClampNeg (vp_nar .boolean p6)) zisDirty zcache zhold zmet zrow) := hD
                      refine lv_iconst (v := (1 : Int32)) hx hb d_MO_stage_151 (by decide) ?_
                      obtain rfl := Option.some.inj hf
                      exact z_iret hx hb hr hP hD hS d_MO_stage_152 hlocks
                    · have hf := z_fn c51 hf
                      refine lv_bipush (v := (nI 12)) hx hb d_MO_stage_94 (by decide) ?_
                      refine lv_iload_n hx hb d_MO_stage_96 rfl (lv_at hl 2 rfl) ?_
                      refine lv_imul hx hb d_MO_stage_97 ?_
                      refine lv_aload_n hx hb d_MO_stage_98 rfl (lv_at hl 1 rfl) ?_
                      refine va_get (D := (dC, dI)) (ci := 7) (v := .ref (a 10)) (C := R_MO) (T := F_MO) (N := 24) hx hb hts (fun w h => List.mem_cons_of_mem _ (in_MO w h)) hown hK hP 0 rfl rfl 13 (by decide) (hts _ (List.mem_cons_of_mem _ k_2_174)) (fun _ h9 => h9) rfl d_MO_stage_99 ?_
                      refine lv_iload_n hx hb d_MO_stage_102 rfl (lv_at hl 2 rfl) ?_
                      obtain ⟨g56, hf⟩ := z_gz hf
                      refine va_iald hx hb hK hP 10 9 rfl rfl g56 d_MO_stage_103 ?_
                      refine lv_iadd hx hb d_MO_stage_104 ?_
                      refine lv_istore (lv' := [(7, .int (((nI 12) * p1) + (zstaged p1.toNatClampNeg))), (0, .ref (a 0)), (1, .int p1), (2, .int p2), (3, .long p3), (5, .int p5), (6, .int p6)]) hx hb d_MO_stage_105 hl (by decide) rfl (fun ls hl => ?_)
                      refine lv_aload_n hx hb d_MO_stage_107 rfl (lv_at hl 1 rfl) ?_
                      refine va_get (D := (dC, dI)) (ci := 7) (v := .ref (a 10)) (C := R_MO) (T := F_MO) (N := 24) hx hb hts (fun w h => List.mem_cons_of_mem _ (in_MO w h)) hown hK hP 0 rfl rfl 13 (by decide) (hts _ (List.mem_cons_of_mem _ k_2_174)) (fun _ h9 => h9) rfl d_MO_stage_108 ?_
                      refine lv_iload_n hx hb d_MO_stage_111 rfl (lv_at hl 2 rfl) ?_
                      refine lv_dup2_11 hx hb d_MO_stage_112 rfl rfl ?_
                      obtain ⟨g57, hf⟩ := z_gz hf
                      refine va_iald hx hb hK hP 10 9 rfl rfl g57 d_MO_stage_113 ?_
                      refine lv_iconst (v := (1 : Int32)) hx hb d_MO_stage_114 (by decide) ?_
                      refine lv_iadd hx hb d_MO_stage_115 ?_
                      obtain ⟨g58, hf⟩ := z_gz hf
                      refine va_iast hx hb hK hP hD hS 10 9 rfl rfl g58 d_MO_stage_116 (fun H locs hP hD hS => ?_)
                      have hP : va_P (dC, dI) zCl (w_MO a k zpaths zsteps zcached zholds zinside zowner zmaker zcontent zruns zisThere ztarget zplace zrun (upd zstaged p1.toNatClampNeg ((zstaged p1.toNatClampNeg) + (1 : Int32))) zisOpen zstagedAt zstagedContent zstagedRuns zstagedLazy zisDirty zcache zhold zmet zrow) H := hP
                      have hD : va_D _ (w_MO a k zpaths zsteps zcached zholds zinside zowner zmaker zcontent zruns zisThere ztarget zplace zrun (upd zstaged p1.toNatClampNeg ((zstaged p1.toNatClampNeg) + (1 : Int32))) zisOpen zstagedAt zstagedContent zstagedRuns zstagedLazy zisDirty zcache zhold zmet zrow) := hD
                      refine lv_aload_n hx hb d_MO_stage_117 rfl (lv_at hl 1 rfl) ?_
                      refine va_get (D := (dC, dI)) (ci := 7) (v := .ref (a 12)) (C := R_MO) (T := F_MO) (N := 24) hx hb hts (fun w h => List.mem_cons_of_mem _ (in_MO w h)) hown hK hP 0 rfl rfl 15 (by decide) (hts _ (List.mem_cons_of_mem _ k_2_176)) (fun _ h9 => h9) rfl d_MO_stage_118 ?_
                      refine lv_iload hx hb d_MO_stage_121 (lv_at hl 0 rfl) ?_
                      refine lv_iload_n hx hb d_MO_stage_123 rfl (lv_at hl 3 rfl) ?_
                      obtain ⟨g59, hf⟩ := z_gz hf
                      refine va_iast hx hb hK hP hD hS 12 11 rfl rfl g59 d_MO_stage_124 (fun H locs hP hD hS => ?_)
                      have hP : va_P (dC, dI) zCl (w_MO a k zpaths zsteps zcached zholds zinside zowner zmaker zcontent zruns zisThere ztarget zplace zrun (upd zstaged p1.toNatClampNeg ((zstaged p1.toNatClampNeg) + (1 : Int32))) zisOpen (upd zstagedAt (((nI 12) * p1) + (zstaged p1.toNatClampNeg)).toNatClampNeg p2) zstagedContent zstagedRuns zstagedLazy zisDirty zcache zhold zmet zrow) H := hP
                      have hD : va_D _ (w_MO a k zpaths zsteps zcached zholds zinside zowner zmaker zcontent zruns zisThere ztarget zplace zrun (upd zstaged p1.toNatClampNeg ((zstaged p1.toNatClampNeg) + (1 : Int32))) zisOpen (upd zstagedAt (((nI 12) * p1) + (zstaged p1.toNatClampNeg)).toNatClampNeg p2) zstagedContent zstagedRuns zstagedLazy zisDirty zcache zhold zmet zrow) := hD
                      refine lv_aload_n hx hb d_MO_stage_125 rfl (lv_at hl 1 rfl) ?_
                      refine va_get (D := (dC, dI)) (ci := 7) (v := .ref (a 13)) (C := R_MO) (T := F_MO) (N := 24) hx hb hts (fun w h => List.mem_cons_of_mem _ (in_MO w h)) hown hK hP 0 rfl rfl 16 (by decide) (hts _ (List.mem_cons_of_mem _ k_2_177)) (fun _ h9 => h9) rfl d_MO_stage_126 ?_
                      refine lv_iload hx hb d_MO_stage_129 (lv_at hl 0 rfl) ?_
                      refine lv_lload_n hx hb d_MO_stage_131 rfl (lv_at hl 4 rfl) ?_
                      obtain ⟨g60, hf⟩ := z_gz hf
                      refine va_last hx hb hK hP hD hS 13 12 rfl rfl g60 d_MO_stage_132 (fun H locs hP hD hS => ?_)
                      have hP : va_P (dC, dI) zCl (w_MO a k zpaths zsteps zcached zholds zinside zowner zmaker zcontent zruns zisThere ztarget zplace zrun (upd zstaged p1.toNatClampNeg ((zstaged p1.toNatClampNeg) + (1 : Int32))) zisOpen (upd zstagedAt (((nI 12) * p1) + (zstaged p1.toNatClampNeg)).toNatClampNeg p2) (vp_updL zstagedContent (((nI 12) * p1) + (zstaged p1.toNatClampNeg)).toNatClampNeg p3) zstagedRuns zstagedLazy zisDirty zcache zhold zmet zrow) H := hP
                      have hD : va_D _ (w_MO a k zpaths zsteps zcached zholds zinside zowner zmaker zcontent zruns zisThere ztarget zplace zrun (upd zstaged p1.toNatClampNeg ((zstaged p1.toNatClampNeg) + (1 : Int32))) zisOpen (upd zstagedAt (((nI 12) * p1) + (zstaged p1.toNatClampNeg)).toNatClampNeg p2) (vp_updL zstagedContent (((nI 12) * p1) + (zstaged p1.toNatClampNeg)).toNatClampNeg p3) zstagedRuns zstagedLazy zisDirty zcache zhold zmet zrow) := hD
                      refine lv_aload_n hx hb d_MO_stage_133 rfl (lv_at hl 1 rfl) ?_
                      refine va_get (D := (dC, dI)) (ci := 7) (v := .ref (a 14)) (C := R_MO) (T := F_MO) (N := 24) hx hb hts (fun w h => List.mem_cons_of_mem _ (in_MO w h)) hown hK hP 0 rfl rfl 17 (by decide) (hts _ (List.mem_cons_of_mem _ k_2_178)) (fun _ h9 => h9) rfl d_MO_stage_134 ?_
                      refine lv_iload hx hb d_MO_stage_137 (lv_at hl 0 rfl) ?_
                      refine lv_iload hx hb d_MO_stage_139 (lv_at hl 5 rfl) ?_
                      obtain ⟨g61, hf⟩ := z_gz hf
                      refine va_zast hx hb hK hP hD hS 14 13 rfl rfl g61 d_MO_stage_141 (fun H locs hP hD hS => ?_)
                      have hP : va_P (dC, dI) zCl (w_MO a k zpaths zsteps zcached zholds zinside zowner zmaker zcontent zruns zisThere ztarget zplace zrun (upd zstaged p1.toNatClampNeg ((zstaged p1.toNatClampNeg) + (1 : Int32))) zisOpen (upd zstagedAt (((nI 12) * p1) + (zstaged p1.toNatClampNeg)).toNatClampNeg p2) (vp_updL zstagedContent (((nI 12) * p1) + (zstaged p1.toNatClampNeg)).toNatClampNeg p3) (upd zstagedRuns (((nI 12) * p1) + (zstaged p1.toNatClampNeg)).toNatClampNeg (vp_nar .boolean p5)) zstagedLazy zisDirty zcache zhold zmet zrow) H := hP
                      have hD : va_D _ (w_MO a k zpaths zsteps zcached zholds zinside zowner zmaker zcontent zruns zisThere ztarget zplace zrun (upd zstaged p1.toNatClampNeg ((zstaged p1.toNatClampNeg) + (1 : Int32))) zisOpen (upd zstagedAt (((nI 12) * p1) + (zstaged p1.toNatClampNeg)).toNatClampNeg p2) (vp_updL zstagedContent (((nI 12) * p1) + (zstaged p1.toNatClampNeg)).toNatClampNeg p3) (upd zstagedRuns (((nI 12) * p1) + (zstaged p1.toNatClampNeg)).toNatClampNeg (vp_nar .boolean p5)) zstagedLazy zisDirty zcache zhold zmet zrow) := hD
                      refine lv_aload_n hx hb d_MO_stage_142 rfl (lv_at hl 1 rfl) ?_
                      refine va_get (D := (dC, dI)) (ci := 7) (v := .ref (a 15)) (C := R_MO) (T := F_MO) (N := 24) hx hb hts (fun w h => List.mem_cons_of_mem _ (in_MO w h)) hown hK hP 0 rfl rfl 18 (by decide) (hts _ (List.mem_cons_of_mem _ k_2_179)) (fun _ h9 => h9) rfl d_MO_stage_143 ?_
                      refine lv_iload hx hb d_MO_stage_146 (lv_at hl 0 rfl) ?_
                      refine lv_iload hx hb d_MO_stage_148 (lv_at hl 6 rfl) ?_
                      obtain ⟨g62, hf⟩ := z_gz hf
                      refine va_zast hx hb hK hP hD hS 15 14 rfl rfl g62 d_MO_stage_150 (fun H locs hP hD hS => ?_)
                      have hP : va_P (dC, dI) zCl (w_MO a k zpaths zsteps zcached zholds zinside zowner zmaker zcontent zruns zisThere ztarget zplace zrun (upd zstaged p1.toNatClampNeg ((zstaged p1.toNatClampNeg) + (1 : Int32))) zisOpen (upd zstagedAt (((nI 12) * p1) + (zstaged p1.toNatClampNeg)).toNatClampNeg p2) (vp_updL zstagedContent (((nI 12) * p1) + (zstaged p1.toNatClampNeg)).toNatClampNeg p3) (upd zstagedRuns (((nI 12) * p1) + (zstaged p1.toNatClampNeg)).toNatClampNeg (vp_nar .boolean p5)) (upd zstagedLazy (((nI 12) * p1) + (zstaged p1.toNatClampNeg)).toNatClampNeg (vp_nar .boolean p6)) zisDirty zcache zhold zmet zrow) H := hP
                      have hD : va_D _ (w_MO a k zpaths zsteps zcached zholds zinside zowner zmaker zcontent zruns zisThere ztarget zplace zrun (upd zstaged p1.toNatClampNeg ((zstaged p1.toNatClampNeg) + (1 : Int32))) zisOpen (upd zstagedAt (((nI 12) * p1) + (zstaged p1.toNatClampNeg)).toNatClampNeg p2) (vp_updL zstagedContent (((nI 12) * p1) + (zstaged p1.toNatClampNeg)).toNatClampNeg p3) (upd zstagedRuns (((nI 12) * p1) + (zstaged p1.toNatClampNeg)).toNatClampNeg (vp_nar .boolean p5)) (upd zstagedLazy (((nI 12) * p1) + (zstaged p1.toNatClampNeg)).toNatClampNeg (vp_nar .boolean p6)) zisDirty zcache zhold zmet zrow) := hD
                      refine lv_iconst (v := (1 : Int32)) hx hb d_MO_stage_151 (by decide) ?_
                      obtain rfl := Option.some.inj hf
                      exact z_iret hx hb hr hP hD hS d_MO_stage_152 hlocks
                  · have hf := z_fn c50 hf
                    refine lv_bipush (v := (-3 : Int32)) hx hb d_MO_stage_85 (by decide) ?_
                    obtain rfl := Option.some.inj hf
                    exact z_iret hx hb hr hP hD hS d_MO_stage_87 hlocks
              · have hf := z_f c36 hf
                refine lv_bipush (v := (-2 : Int32)) hx hb d_MO_stage_69 (by decide) ?_
                obtain rfl := Option.some.inj hf
                exact z_iret hx hb hr hP hD hS d_MO_stage_71 hlocks
          · have hf := z_fn c34 hf
            refine lv_iconst (v := (-1 : Int32)) hx hb d_MO_stage_49 (by decide) ?_
            obtain rfl := Option.some.inj hf
            exact z_iret hx hb hr hP hD hS d_MO_stage_50 hlocks
      · have hf := z_fn c3 hf
        refine lv_iconst (v := (-1 : Int32)) hx hb d_MO_stage_22 (by decide) ?_
        obtain rfl := Option.some.inj hf
        exact z_iret hx hb hr hP hD hS d_MO_stage_23 hlocks
set_option maxHeartbeats 4000000 in
set_option maxRecDepth 100000 in
theorem c_MO_goOld (l : Launch) (dC : Nat → ClassId) (dI : Nat → Nat → Nat) (N : Nat) (a : Nat → Nat) (k : Nat → ClassId) (zpaths : Int32) (zsteps : Int32) (zcached : Int32) (zholds : Int32) (zinside : Nat → Int32) (zowner : Nat → Int32) (zmaker : Nat → Int32) (zcontent : Nat → Int64) (zruns : Nat → Int32) (zisThere : Nat → Int32) (ztarget : Nat → Int32) (zplace : Nat → Int32) (zrun : Nat → Int32) (zstaged : Nat → Int32) (zisOpen : Nat → Int32) (zstagedAt : Nat → Int32) (zstagedContent : Nat → Int64) (zstagedRuns : Nat → Int32) (zstagedLazy : Nat → Int32) (zisDirty : Nat → Int32) (zcache : Nat → Int64) (zhold : Nat → Int64) (zmet : Int32) (zrow : Nat → Int64) (p1 : Int32) {y : (Int32 × (Nat → Int32))} (hf : pf_MO_goOld N zpaths zowner ztarget zplace zstaged zstagedAt p1 = some y) (sz : Nat) : Met l y_MO_goOld ww_MO_goOld ({ frames := 1, cells := 0, slots := 0, locals := 24 }) (va_Pc [.ref (a 0), .int p1] (zB (dC, dI) zCl (t_MO k) (w_MO a k zpaths zsteps zcached zholds zinside zowner zmaker zcontent zruns zisThere ztarget zplace zrun zstaged zisOpen zstagedAt zstagedContent zstagedRuns zstagedLazy zisDirty zcache zhold zmet zrow) sz)) (zQi (dC, dI) zCl (w_MO a k zpaths zsteps zcached zholds zinside zowner zmaker zcontent zruns zisThere ztarget zplace zrun zstaged zisOpen zstagedAt zstagedContent zstagedRuns zstagedLazy zisDirty zcache zhold zmet zrow) sz y.1 (w_MO a k zpaths zsteps zcached zholds zinside y.2 zmaker zcontent zruns zisThere ztarget zplace zrun zstaged zisOpen zstagedAt zstagedContent zstagedRuns zstagedLazy zisDirty zcache zhold zmet zrow)) 0 0 (va_A (w_MO a k zpaths zsteps zcached zholds zinside zowner zmaker zcontent zruns zisThere ztarget zplace zrun zstaged zisOpen zstagedAt zstagedContent zstagedRuns zstagedLazy zisDirty zcache zhold zmet zrow) sz) := by
  refine Met.ofW (cc := b_MO_goOld) (maxL := 5) (ret := (some .int)) (by decide) rfl ?_
  intro p e s m args below meth c s₁ B hml hv
  obtain ⟨rfl, rfl, hP, hK, hD, hN⟩ := hv
  have hx := B.exec
  have hb := B.bytes
  have hr := B.returns
  have hts := atoms_spec (ws := ww_MO_goOld) B.pre
  have hown : s.vm.findClass R_MO = some m.cls := findClass_of_methodNamed B.named
  have hlocks := B.notSynchronized
  have hA : ∀ q : Nat, s.heap.size ≤ q → va_A (w_MO a k zpaths zsteps zcached zholds zinside zowner zmaker zcontent zruns zisThere ztarget zplace zrun zstaged zisOpen zstagedAt zstagedContent zstagedRuns zstagedLazy zisDirty zcache zhold zmet zrow) s.heap.size q := fun q h => Or.inr h
  refine z_start (lv := [(0, .ref (a 0)), (1, .int p1)]) (Nat.le_of_ble_eq_true rfl) rfl hP hD (fun H locs ls hP hD hS hl => ?_)
  unfold pf_MO_goOld at hf
  refine lv_iconst (v := (0 : Int32)) hx hb d_MO_goOld_0 (by decide) ?_
  refine lv_istore_n (lv' := [(2, .int (0 : Int32)), (0, .ref (a 0)), (1, .int p1)]) hx hb d_MO_goOld_1 rfl hl (by decide) rfl (fun ls hl => ?_)
  refine lv_iconst (v := (0 : Int32)) hx hb d_MO_goOld_2 (by decide) ?_
  refine lv_istore_n (lv' := [(3, .int (0 : Int32)), (2, .int (0 : Int32)), (0, .ref (a 0)), (1, .int p1)]) hx hb d_MO_goOld_3 rfl hl (by decide) rfl (fun ls hl => ?_)
  have loop4 : ∀ (n : Nat) (zowner' : Nat → Int32) (x2 : Int32) (x3 : Int32), pf_MO_goOld_L4 N zpaths ztarget zplace zstaged zstagedAt p1 n zowner' x2 x3 = some y → ∀ (H : Heap) (locs : List Loc) (ls : Array Slot), va_P (dC, dI) zCl (w_MO a k zpaths zsteps zcached zholds zinside zowner' zmaker zcontent zruns zisThere ztarget zplace zrun zstaged zisOpen zstagedAt zstagedContent zstagedRuns zstagedLazy zisDirty zcache zhold zmet zrow) H → va_D (va_A (w_MO a k zpaths zsteps zcached zholds zinside zowner zmaker zcontent zruns zisThere ztarget zplace zrun zstaged zisOpen zstagedAt zstagedContent zstagedRuns zstagedLazy zisDirty zcache zhold zmet zrow) s.heap.size) (w_MO a k zpaths zsteps zcached zholds zinside zowner' zmaker zcontent zruns zisThere ztarget zplace zrun zstaged zisOpen zstagedAt zstagedContent zstagedRuns zstagedLazy zisDirty zcache zhold zmet zrow) → va_S (va_A (w_MO a k zpaths zsteps zcached zholds zinside zowner zmaker zcontent zruns zisThere ztarget zplace zrun zstaged zisOpen zstagedAt zstagedContent zstagedRuns zstagedLazy zisDirty zcache zhold zmet zrow) s.heap.size) s.heap H locs → lv_has ls 5 [(0, .ref (a 0)), (1, .int p1), (2, .int x2), (3, .int x3)] → W p l e (headSpec ww_MO_goOld ({ frames := 1, cells := 0, slots := 0, locals := 24 })).room s m ([.ref (a 0), .int p1] : List Value).toArray below meth c H locs 0 0 (MQ below (zQi (dC, dI) zCl (w_MO a k zpaths zsteps zcached zholds zinside zowner zmaker zcontent zruns zisThere ztarget zplace zrun zstaged zisOpen zstagedAt zstagedContent zstagedRuns zstagedLazy zisDirty zcache zhold zmet zrow) s.heap.size y.1 (w_MO a k zpaths zsteps zcached zholds zinside y.2 zmaker zcontent zruns zisThere ztarget zplace zrun zstaged zisOpen zstagedAt zstagedContent zstagedRuns zstagedLazy zisDirty zcache zhold zmet zrow)) ([.ref (a 0), .int p1] : List Value).toArray s 0 0 (va_A (w_MO a k zpaths zsteps zcached zholds zinside zowner zmaker zcontent zruns zisThere ztarget zplace zrun zstaged zisOpen zstagedAt zstagedContent zstagedRuns zstagedLazy zisDirty zcache zhold zmet zrow) s.heap.size)) (F0 m 4 ls []) := by
    intro n4
    induction n4 with
    | zero => intro zowner' x2 x3 hf; rw [pf_MO_goOld_L4.eq_1] at hf; cases hf
    | succ n4 ih4 =>
      intro zowner' x2 x3 hf H locs ls hP hD hS hl
      rw [pf_MO_goOld_L4.eq_2] at hf
      refine lv_iload_n hx hb d_MO_goOld_4 rfl (lv_at hl 3 rfl) ?_
      refine lv_aload_n hx hb d_MO_goOld_5 rfl (lv_at hl 0 rfl) ?_
      refine va_get (D := (dC, dI)) (ci := 7) (v := .int zpaths) (C := R_MO) (T := F_MO) (N := 24) hx hb hts (fun w h => List.mem_cons_of_mem _ (in_MO w h)) hown hK hP 0 rfl rfl 0 (by decide) (hts _ (List.mem_cons_of_mem _ k_2_161)) (fun _ h9 => h9) rfl d_MO_goOld_6 ?_
      refine lv_icmp_ge (tgt := 78) hx hb d_MO_goOld_9 (by decide) (fun c1 => ?_) (fun c1 => ?_)
      · have hf := z_t c1 hf
        refine lv_iload_n hx hb d_MO_goOld_78 rfl (lv_at hl 2 rfl) ?_
        obtain rfl := Option.some.inj hf
        exact z_iret hx hb hr hP hD hS d_MO_goOld_79 hlocks
      · have hf := z_f c1 hf
        refine lv_bipush (v := (nI 40)) hx hb d_MO_goOld_12 (by decide) ?_
        refine lv_aload_n hx hb d_MO_goOld_14 rfl (lv_at hl 0 rfl) ?_
        refine va_get (D := (dC, dI)) (ci := 7) (v := .ref (a 8)) (C := R_MO) (T := F_MO) (N := 24) hx hb hts (fun w h => List.mem_cons_of_mem _ (in_MO w h)) hown hK hP 0 rfl rfl 11 (by decide) (hts _ (List.mem_cons_of_mem _ k_2_172)) (fun _ h9 => h9) rfl d_MO_goOld_15 ?_
        refine lv_iload_n hx hb d_MO_goOld_18 rfl (lv_at hl 1 rfl) ?_
        obtain ⟨g2, hf⟩ := z_gz hf
        refine va_iald hx hb hK hP 8 7 rfl rfl g2 d_MO_goOld_19 ?_
        refine lv_imul hx hb d_MO_goOld_20 ?_
        refine lv_iload_n hx hb d_MO_goOld_21 rfl (lv_at hl 3 rfl) ?_
        refine lv_iadd hx hb d_MO_goOld_22 ?_
        refine lv_istore (lv' := [(4, .int (((nI 40) * (zplace p1.toNatClampNeg)) + x3)), (0, .ref (a 0)), (1, .int p1), (2, .int x2), (3, .int x3)]) hx hb d_MO_goOld_23 hl (by decide) rfl (fun ls hl => ?_)
        refine lv_aload_n hx hb d_MO_goOld_25 rfl (lv_at hl 1 rfl) ?_
        refine va_get (D := (dC, dI)) (ci := 7) (v := .ref (a 2)) (C := R_MO) (T := F_MO) (N := 24) hx hb hts (fun w h => List.mem_cons_of_mem _ (in_MO w h)) hown hK hP 0 rfl rfl 5 (by decide) (hts _ (List.mem_cons_of_mem _ k_2_166)) (fun _ h9 => h9) rfl d_MO_goOld_26 ?_
        refine lv_iload hx hb d_MO_goOld_29 (lv_at hl 0 rfl) ?_
        obtain ⟨g3, hf⟩ := z_gz hf
        refine va_iald hx hb hK hP 2 1 rfl rfl g3 d_MO_goOld_31 ?_
        refine lv_aload_n hx hb d_MO_goOld_32 rfl (lv_at hl 1 rfl) ?_
        refine va_get (D := (dC, dI)) (ci := 7) (v := .ref (a 7)) (C := R_MO) (T := F_MO) (N := 24) hx hb hts (fun w h => List.mem_cons_of_mem _ (in_MO w h)) hown hK hP 0 rfl rfl 10 (by decide) (hts _ (List.mem_cons_of_mem _ k_2_171)) (fun _ h9 => h9) rfl d_MO_goOld_33 ?_
        refine lv_iload_n hx hb d_MO_goOld_36 rfl (lv_at hl 2 rfl) ?_
        obtain ⟨g4, hf⟩ := z_gz hf
        refine va_iald hx hb hK hP 7 6 rfl rfl g4 d_MO_goOld_37 ?_
        refine lv_iconst (v := (1 : Int32)) hx hb d_MO_goOld_38 (by decide) ?_
        refine lv_iadd hx hb d_MO_goOld_39 ?_
        refine lv_icmp_eq (tgt := 46) hx hb d_MO_goOld_40 (by decide) (fun c5 => ?_) (fun c5 => ?_)
        · have hf := z_t c5 hf
          refine lv_iload_n hx hb d_MO_goOld_46 rfl (lv_at hl 3 rfl) ?_
          refine lv_aload_n hx hb d_MO_goOld_47 rfl (lv_at hl 1 rfl) ?_
          refine lv_iload_n hx hb d_MO_goOld_48 rfl (lv_at hl 2 rfl) ?_
          refine lv_iload_n hx hb d_MO_goOld_49 rfl (lv_at hl 4 rfl) ?_
          obtain ⟨u0, hu0, hf⟩ := z_b hf
          have hPc := hP
          have hDc := hD
          have hKc := hK
          refine z_cwi (va_runV (As := [.int p1, .int x3]) (rest := [.int x2]) ⟨hx, hb, hml, hown, hts⟩ (c_MO_placeOf l dC dI N a k zpaths zsteps zcached zholds zinside zowner' zmaker zcontent zruns zisThere ztarget zplace zrun zstaged zisOpen zstagedAt zstagedContent zstagedRuns zstagedLazy zisDirty zcache zhold zmet zrow p1 x3 hu0 H.size) (cwV 2 hts (zGV zsub_c k_3_17 k_3_19 s_MO_placeOf k_1_8 kc_MO_placeOf) rfl rfl rfl (by decide +kernel) ⟨Nat.le_of_ble_eq_true rfl, Nat.le_of_ble_eq_true rfl⟩) ⟨z_bl, va_recv hKc hPc (ci := 7) (q0 := 0) rfl rfl, fun U hU hW => ⟨rfl, z_pre hN hKc hPc hDc U hU hW⟩⟩ rfl rfl hl.1 rfl (lv_room (Nat.le_of_ble_eq_true rfl)) d_MO_goOld_50 ⟨Nat.zero_le _, Nat.zero_le _⟩) hD hS hA (fun H locs hP hD hS => ?_)
          refine lv_iconst (v := (-1 : Int32)) hx hb d_MO_goOld_53 (by decide) ?_
          refine lv_icmp_ne (tgt := 61) hx hb d_MO_goOld_54 (by decide) (fun c6 => ?_) (fun c6 => ?_)
          · have hf := z_t c6 hf
            refine lv_iconst (v := (0 : Int32)) hx hb d_MO_goOld_61 (by decide) ?_
            refine lv_iadd hx hb d_MO_goOld_62 ?_
            refine lv_istore_n (lv' := [(2, .int (x2 + (0 : Int32))), (4, .int (((nI 40) * (zplace p1.toNatClampNeg)) + x3)), (0, .ref (a 0)), (1, .int p1), (3, .int x3)]) hx hb d_MO_goOld_63 rfl hl (by decide) rfl (fun ls hl => ?_)
            refine lv_aload_n hx hb d_MO_goOld_64 rfl (lv_at hl 2 rfl) ?_
            refine va_get (D := (dC, dI)) (ci := 7) (v := .ref (a 2)) (C := R_MO) (T := F_MO) (N := 24) hx hb hts (fun w h => List.mem_cons_of_mem _ (in_MO w h)) hown hK hP 0 rfl rfl 5 (by decide) (hts _ (List.mem_cons_of_mem _ k_2_166)) (fun _ h9 => h9) rfl d_MO_goOld_65 ?_
            refine lv_iload hx hb d_MO_goOld_68 (lv_at hl 1 rfl) ?_
            refine lv_iconst (v := (0 : Int32)) hx hb d_MO_goOld_70 (by decide) ?_
            obtain ⟨g7, hf⟩ := z_gz hf
            refine va_iast hx hb hK hP hD hS 2 1 rfl rfl g7 d_MO_goOld_71 (fun H locs hP hD hS => ?_)
            have hP : va_P (dC, dI) zCl (w_MO a k zpaths zsteps zcached zholds zinside (upd zowner' (((nI 40) * (zplace p1.toNatClampNeg)) + x3).toNatClampNeg (0 : Int32)) zmaker zcontent zruns zisThere ztarget zplace zrun zstaged zisOpen zstagedAt zstagedContent zstagedRuns zstagedLazy zisDirty zcache zhold zmet zrow) H := hP
            have hD : va_D _ (w_MO a k zpaths zsteps zcached zholds zinside (upd zowner' (((nI 40) * (zplace p1.toNatClampNeg)) + x3).toNatClampNeg (0 : Int32)) zmaker zcontent zruns zisThere ztarget zplace zrun zstaged zisOpen zstagedAt zstagedContent zstagedRuns zstagedLazy zisDirty zcache zhold zmet zrow) := hD
            refine lv_iinc (v := (x3 + (1 : Int32))) (lv' := [(3, .int (x3 + (1 : Int32))), (2, .int (x2 + (0 : Int32))), (4, .int (((nI 40) * (zplace p1.toNatClampNeg)) + x3)), (0, .ref (a 0)), (1, .int p1)]) hx hb d_MO_goOld_72 hl (k := 4) rfl rfl (by decide) rfl (fun ls hl => ?_)
            refine lv_goto (tgt := 4) hx hb d_MO_goOld_75 (by decide) ?_
            exact ih4 (upd zowner' (((nI 40) * (zplace p1.toNatClampNeg)) + x3).toNatClampNeg (0 : Int32)) (x2 + (0 : Int32)) (x3 + (1 : Int32)) hf H locs ls hP hD hS (lv_sub hl [3, 4, 1, 0] rfl)
          · have hf := z_fn c6 hf
            refine lv_iconst (v := (1 : Int32)) hx hb d_MO_goOld_57 (by decide) ?_
            refine lv_goto (tgt := 62) hx hb d_MO_goOld_58 (by decide) ?_
            refine lv_iadd hx hb d_MO_goOld_62 ?_
            refine lv_istore_n (lv' := [(2, .int (x2 + (1 : Int32))), (4, .int (((nI 40) * (zplace p1.toNatClampNeg)) + x3)), (0, .ref (a 0)), (1, .int p1), (3, .int x3)]) hx hb d_MO_goOld_63 rfl hl (by decide) rfl (fun ls hl => ?_)
            refine lv_aload_n hx hb d_MO_goOld_64 rfl (lv_at hl 2 rfl) ?_
            refine va_get (D := (dC, dI)) (ci := 7) (v := .ref (a 2)) (C := R_MO) (T := F_MO) (N := 24) hx hb hts (fun w h => List.mem_cons_of_mem _ (in_MO w h)) hown hK hP 0 rfl rfl 5 (by decide) (hts _ (List.mem_cons_of_mem _ k_2_166)) (fun _ h9 => h9) rfl d_MO_goOld_65 ?_
            refine lv_iload hx hb d_MO_goOld_68 (lv_at hl 1 rfl) ?_
            refine lv_iconst (v := (0 : Int32)) hx hb d_MO_goOld_70 (by decide) ?_
            obtain ⟨g8, hf⟩ := z_gz hf
            refine va_iast hx hb hK hP hD hS 2 1 rfl rfl g8 d_MO_goOld_71 (fun H locs hP hD hS => ?_)
            have hP : va_P (dC, dI) zCl (w_MO a k zpaths zsteps zcached zholds zinside (upd zowner' (((nI 40) * (zplace p1.toNatClampNeg)) + x3).toNatClampNeg (0 : Int32)) zmaker zcontent zruns zisThere ztarget zplace zrun zstaged zisOpen zstagedAt zstagedContent zstagedRuns zstagedLazy zisDirty zcache zhold zmet zrow) H := hP
            have hD : va_D _ (w_MO a k zpaths zsteps zcached zholds zinside (upd zowner' (((nI 40) * (zplace p1.toNatClampNeg)) + x3).toNatClampNeg (0 : Int32)) zmaker zcontent zruns zisThere ztarget zplace zrun zstaged zisOpen zstagedAt zstagedContent zstagedRuns zstagedLazy zisDirty zcache zhold zmet zrow) := hD
            refine lv_iinc (v := (x3 + (1 : Int32))) (lv' := [(3, .int (x3 + (1 : Int32))), (2, .int (x2 + (1 : Int32))), (4, .int (((nI 40) * (zplace p1.toNatClampNeg)) + x3)), (0, .ref (a 0)), (1, .int p1)]) hx hb d_MO_goOld_72 hl (k := 4) rfl rfl (by decide) rfl (fun ls hl => ?_)
            refine lv_goto (tgt := 4) hx hb d_MO_goOld_75 (by decide) ?_
            exact ih4 (upd zowner' (((nI 40) * (zplace p1.toNatClampNeg)) + x3).toNatClampNeg (0 : Int32)) (x2 + (1 : Int32)) (x3 + (1 : Int32)) hf H locs ls hP hD hS (lv_sub hl [3, 4, 1, 0] rfl)
        · have hf := z_f c5 hf
          refine lv_goto (tgt := 72) hx hb d_MO_goOld_43 (by decide) ?_
          refine lv_iinc (v := (x3 + (1 : Int32))) (lv' := [(3, .int (x3 + (1 : Int32))), (4, .int (((nI 40) * (zplace p1.toNatClampNeg)) + x3)), (0, .ref (a 0)), (1, .int p1), (2, .int x2)]) hx hb d_MO_goOld_72 hl (k := 4) rfl rfl (by decide) rfl (fun ls hl => ?_)
          refine lv_goto (tgt := 4) hx hb d_MO_goOld_75 (by decide) ?_
          exact ih4 zowner' x2 (x3 + (1 : Int32)) hf H locs ls hP hD hS (lv_sub hl [2, 3, 4, 0] rfl)
  exact loop4 N zowner (0 : Int32) (0 : Int32) hf H locs ls hP hD hS (lv_sub hl [2, 3, 1, 0] rfl)
set_option maxHeartbeats 4000000 in
set_option maxRecDepth 100000 in
theorem c_MO_end (l : Launch) (dC : Nat → ClassId) (dI : Nat → Nat → Nat) (N : Nat) (a : Nat → Nat) (k : Nat → ClassId) (zpaths : Int32) (zsteps : Int32) (zcached : Int32) (zholds : Int32) (zinside : Nat → Int32) (zowner : Nat → Int32) (zmaker : Nat → Int32) (zcontent : Nat → Int64) (zruns : Nat → Int32) (zisThere : Nat → Int32) (ztarget : Nat → Int32) (zplace : Nat → Int32) (zrun : Nat → Int32) (zstaged : Nat → Int32) (zisOpen : Nat → Int32) (zstagedAt : Nat → Int32) (zstagedContent : Nat → Int64) (zstagedRuns : Nat → Int32) (zstagedLazy : Nat → Int32) (zisDirty : Nat → Int32) (zcache : Nat → Int64) (zhold : Nat → Int64) (zmet : Int32) (zrow : Nat → Int64) (p1 : Int32) (p2 : Int32) {y : (Int32 × (Nat → Int32) × (Nat → Int32) × (Nat → Int64) × (Nat → Int32) × (Nat → Int32) × (Nat → Int32) × (Nat → Int32))} (hf : pf_MO_end N zpaths zsteps zowner zmaker zcontent zruns zisThere ztarget zplace zstaged zisOpen zstagedAt zstagedContent zstagedRuns zstagedLazy zisDirty p1 p2 = some y) (sz : Nat) : Met l y_MO_end ww_MO_end ({ frames := 2, cells := 0, slots := 0, locals := 48 }) (va_Pc [.ref (a 0), .int p1, .int p2] (zB (dC, dI) zCl (t_MO k) (w_MO a k zpaths zsteps zcached zholds zinside zowner zmaker zcontent zruns zisThere ztarget zplace zrun zstaged zisOpen zstagedAt zstagedContent zstagedRuns zstagedLazy zisDirty zcache zhold zmet zrow) sz)) (zQi (dC, dI) zCl (w_MO a k zpaths zsteps zcached zholds zinside zowner zmaker zcontent zruns zisThere ztarget zplace zrun zstaged zisOpen zstagedAt zstagedContent zstagedRuns zstagedLazy zisDirty zcache zhold zmet zrow) sz y.1 (w_MO a k zpaths zsteps zcached zholds zinside y.2.1 y.2.2.1 y.2.2.2.1 y.2.2.2.2.1 y.2.2.2.2.2.1 ztarget zplace zrun zstaged y.2.2.2.2.2.2.1 zstagedAt zstagedContent zstagedRuns zstagedLazy y.2.2.2.2.2.2.2 zcache zhold zmet zrow)) 0 0 (va_A (w_MO a k zpaths zsteps zcached zholds zinside zowner zmaker zcontent zruns zisThere ztarget zplace zrun zstaged zisOpen zstagedAt zstagedContent zstagedRuns zstagedLazy zisDirty zcache zhold zmet zrow) sz) := by
  refine Met.ofW (cc := b_MO_end) (maxL := 6) (ret := (some .int)) (by decide) rfl ?_
  intro p e s m args below meth c s₁ B hml hv
  obtain ⟨rfl, rfl, hP, hK, hD, hN⟩ := hv
  have hx := B.exec
  have hb := B.bytes
  have hr := B.returns
  have hts := atoms_spec (ws := ww_MO_end) B.pre
  have hown : s.vm.findClass R_MO = some m.cls := findClass_of_methodNamed B.named
  have hlocks := B.notSynchronized
  have hA : ∀ q : Nat, s.heap.size ≤ q → va_A (w_MO a k zpaths zsteps zcached zholds zinside zowner zmaker zcontent zruns zisThere ztarget zplace zrun zstaged zisOpen zstagedAt zstagedContent zstagedRuns zstagedLazy zisDirty zcache zhold zmet zrow) s.heap.size q := fun q h => Or.inr h
  refine z_start (lv := [(0, .ref (a 0)), (1, .int p1), (2, .int p2)]) (Nat.le_of_ble_eq_true rfl) rfl hP hD (fun H locs ls hP hD hS hl => ?_)
  unfold pf_MO_end at hf
  refine lv_aload_n hx hb d_MO_end_0 rfl (lv_at hl 0 rfl) ?_
  refine lv_iload_n hx hb d_MO_end_1 rfl (lv_at hl 1 rfl) ?_
  obtain ⟨u0, hu0, hf⟩ := z_b hf
  have hPc := hP
  have hDc := hD
  have hKc := hK
  refine z_cwi (va_runV (As := [.int p1]) (rest := []) ⟨hx, hb, hml, hown, hts⟩ (c_MO_isOpenStep l dC dI N a k zpaths zsteps zcached zholds zinside zowner zmaker zcontent zruns zisThere ztarget zplace zrun zstaged zisOpen zstagedAt zstagedContent zstagedRuns zstagedLazy zisDirty zcache zhold zmet zrow p1 hu0 H.size) (cwV 1 hts (zGV zsub_c k_3_13 k_3_15 s_MO_isOpenStep k_1_8 kc_MO_isOpenStep) rfl rfl rfl (by decide +kernel) ⟨Nat.le_of_ble_eq_true rfl, Nat.le_of_ble_eq_true rfl⟩) ⟨z_bl, va_recv hKc hPc (ci := 7) (q0 := 0) rfl rfl, fun U hU hW => ⟨rfl, z_pre hN hKc hPc hDc U hU hW⟩⟩ rfl rfl hl.1 rfl (lv_room (Nat.le_of_ble_eq_true rfl)) d_MO_end_2 ⟨Nat.zero_le _, Nat.zero_le _⟩) hD hS hA (fun H locs hP hD hS => ?_)
  refine lv_if_ne (tgt := 10) hx hb d_MO_end_5 (by decide) (fun c1 => ?_) (fun c1 => ?_)
  · have hf := z_t c1 hf
    refine lv_aload_n hx hb d_MO_end_10 rfl (lv_at hl 0 rfl) ?_
    refine va_get (D := (dC, dI)) (ci := 7) (v := .ref (a 11)) (C := R_MO) (T := F_MO) (N := 24) hx hb hts (fun w h => List.mem_cons_of_mem _ (in_MO w h)) hown hK hP 0 rfl rfl 14 (by decide) (hts _ (List.mem_cons_of_mem _ k_2_175)) (fun _ h9 => h9) rfl d_MO_end_11 ?_
    refine lv_iload_n hx hb d_MO_end_14 rfl (lv_at hl 1 rfl) ?_
    refine lv_iconst (v := (0 : Int32)) hx hb d_MO_end_15 (by decide) ?_
    obtain ⟨g2, hf⟩ := z_gz hf
    refine va_zast hx hb hK hP hD hS 11 10 rfl rfl g2 d_MO_end_16 (fun H locs hP hD hS => ?_)
    have hP : va_P (dC, dI) zCl (w_MO a k zpaths zsteps zcached zholds zinside zowner zmaker zcontent zruns zisThere ztarget zplace zrun zstaged (upd zisOpen p1.toNatClampNeg (vp_nar .boolean (0 : Int32))) zstagedAt zstagedContent zstagedRuns zstagedLazy zisDirty zcache zhold zmet zrow) H := hP
    have hD : va_D _ (w_MO a k zpaths zsteps zcached zholds zinside zowner zmaker zcontent zruns zisThere ztarget zplace zrun zstaged (upd zisOpen p1.toNatClampNeg (vp_nar .boolean (0 : Int32))) zstagedAt zstagedContent zstagedRuns zstagedLazy zisDirty zcache zhold zmet zrow) := hD
    refine lv_iload_n hx hb d_MO_end_17 rfl (lv_at hl 2 rfl) ?_
    refine lv_if_ne (tgt := 23) hx hb d_MO_end_18 (by decide) (fun c3 => ?_) (fun c3 => ?_)
    · have hf := z_t c3 hf
      refine lv_aload_n hx hb d_MO_end_23 rfl (lv_at hl 0 rfl) ?_
      refine lv_iload_n hx hb d_MO_end_24 rfl (lv_at hl 1 rfl) ?_
      obtain ⟨u1, hu1, hf⟩ := z_b hf
      have hPc := hP
      have hDc := hD
      have hKc := hK
      refine z_cwi (va_runV (As := [.int p1]) (rest := []) ⟨hx, hb, hml, hown, hts⟩ (c_MO_goOld l dC dI N a k zpaths zsteps zcached zholds zinside zowner zmaker zcontent zruns zisThere ztarget zplace zrun zstaged (upd zisOpen p1.toNatClampNeg (vp_nar .boolean (0 : Int32))) zstagedAt zstagedContent zstagedRuns zstagedLazy zisDirty zcache zhold zmet zrow p1 hu1 H.size) (cwV 1 hts (zGV zsub_c k_3_45 k_3_47 s_MO_goOld k_1_8 kc_MO_goOld) rfl rfl rfl (by decide +kernel) ⟨Nat.le_of_ble_eq_true rfl, Nat.le_of_ble_eq_true rfl⟩) ⟨z_bl, va_recv hKc hPc (ci := 7) (q0 := 0) rfl rfl, fun U hU hW => ⟨rfl, z_pre hN hKc hPc hDc U hU hW⟩⟩ rfl rfl hl.1 rfl (lv_room (Nat.le_of_ble_eq_true rfl)) d_MO_end_25 ⟨Nat.zero_le _, Nat.zero_le _⟩) hD hS hA (fun H locs hP hD hS => ?_)
      refine lv_istore_n (lv' := [(3, .int u1.1), (0, .ref (a 0)), (1, .int p1), (2, .int p2)]) hx hb d_MO_end_28 rfl hl (by decide) rfl (fun ls hl => ?_)
      refine lv_bipush (v := (nI 12)) hx hb d_MO_end_29 (by decide) ?_
      refine lv_iload_n hx hb d_MO_end_31 rfl (lv_at hl 2 rfl) ?_
      refine lv_imul hx hb d_MO_end_32 ?_
      refine lv_istore (lv' := [(4, .int ((nI 12) * p1)), (3, .int u1.1), (0, .ref (a 0)), (1, .int p1), (2, .int p2)]) hx hb d_MO_end_33 hl (by decide) rfl (fun ls hl => ?_)
      have loop35 : ∀ (zisOpen' : Nat → Int32) (x3 : Int32) (n : Nat) (zowner' : Nat → Int32) (zmaker' : Nat → Int32) (zcontent' : Nat → Int64) (zruns' : Nat → Int32) (zisThere' : Nat → Int32) (x4 : Int32), pf_MO_end_L35 N ztarget zplace zstaged zisOpen' zstagedAt zstagedContent zstagedRuns zstagedLazy zisDirty p1 x3 n zowner' zmaker' zcontent' zruns' zisThere' x4 = some y → ∀ (H : Heap) (locs : List Loc) (ls : Array Slot), va_P (dC, dI) zCl (w_MO a k zpaths zsteps zcached zholds zinside zowner' zmaker' zcontent' zruns' zisThere' ztarget zplace zrun zstaged zisOpen' zstagedAt zstagedContent zstagedRuns zstagedLazy zisDirty zcache zhold zmet zrow) H → va_D (va_A (w_MO a k zpaths zsteps zcached zholds zinside zowner zmaker zcontent zruns zisThere ztarget zplace zrun zstaged zisOpen zstagedAt zstagedContent zstagedRuns zstagedLazy zisDirty zcache zhold zmet zrow) s.heap.size) (w_MO a k zpaths zsteps zcached zholds zinside zowner' zmaker' zcontent' zruns' zisThere' ztarget zplace zrun zstaged zisOpen' zstagedAt zstagedContent zstagedRuns zstagedLazy zisDirty zcache zhold zmet zrow) → va_S (va_A (w_MO a k zpaths zsteps zcached zholds zinside zowner zmaker zcontent zruns zisThere ztarget zplace zrun zstaged zisOpen zstagedAt zstagedContent zstagedRuns zstagedLazy zisDirty zcache zhold zmet zrow) s.heap.size) s.heap H locs → lv_has ls 6 [(0, .ref (a 0)), (1, .int p1), (2, .int p2), (3, .int x3), (4, .int x4)] → W p l e (headSpec ww_MO_end ({ frames := 2, cells := 0, slots := 0, locals := 48 })).room s m ([.ref (a 0), .int p1, .int p2] : List Value).toArray below meth c H locs 0 0 (MQ below (zQi (dC, dI) zCl (w_MO a k zpaths zsteps zcached zholds zinside zowner zmaker zcontent zruns zisThere ztarget zplace zrun zstaged zisOpen zstagedAt zstagedContent zstagedRuns zstagedLazy zisDirty zcache zhold zmet zrow) s.heap.size y.1 (w_MO a k zpaths zsteps zcached zholds zinside y.2.1 y.2.2.1 y.2.2.2.1 y.2.2.2.2.1 y.2.2.2.2.2.1 ztarget zplace zrun zstaged y.2.2.2.2.2.2.1 zstagedAt zstagedContent zstagedRuns zstagedLazy y.2.2.2.2.2.2.2 zcache zhold zmet zrow)) ([.ref (a 0), .int p1, .int p2] : List Value).toArray s 0 0 (va_A (w_MO a k zpaths zsteps zcached zholds zinside zowner zmaker zcontent zruns zisThere ztarget zplace zrun zstaged zisOpen zstagedAt zstagedContent zstagedRuns zstagedLazy zisDirty zcache zhold zmet zrow) s.heap.size)) (F0 m 35 ls []) := by
        intro zisOpen' x3 n35
        induction n35 with
        | zero => intro zowner' zmaker' zcontent' zruns' zisThere' x4 hf; rw [pf_MO_end_L35.eq_1] at hf; cases hf
        | succ n35 ih35 =>
          intro zowner' zmaker' zcontent' zruns' zisThere' x4 hf H locs ls hP hD hS hl
          rw [pf_MO_end_L35.eq_2] at hf
          refine lv_iload hx hb d_MO_end_35 (lv_at hl 4 rfl) ?_
          refine lv_bipush (v := (nI 12)) hx hb d_MO_end_37 (by decide) ?_
          refine lv_iload_n hx hb d_MO_end_39 rfl (lv_at hl 1 rfl) ?_
          refine lv_imul hx hb d_MO_end_40 ?_
          refine lv_aload_n hx hb d_MO_end_41 rfl (lv_at hl 0 rfl) ?_
          refine va_get (D := (dC, dI)) (ci := 7) (v := .ref (a 10)) (C := R_MO) (T := F_MO) (N := 24) hx hb hts (fun w h => List.mem_cons_of_mem _ (in_MO w h)) hown hK hP 0 rfl rfl 13 (by decide) (hts _ (List.mem_cons_of_mem _ k_2_174)) (fun _ h9 => h9) rfl d_MO_end_42 ?_
          refine lv_iload_n hx hb d_MO_end_45 rfl (lv_at hl 1 rfl) ?_
          obtain ⟨g4, hf⟩ := z_gz hf
          refine va_iald hx hb hK hP 10 9 rfl rfl g4 d_MO_end_46 ?_
          refine lv_iadd hx hb d_MO_end_47 ?_
          refine lv_icmp_ge (tgt := 149) hx hb d_MO_end_48 (by decide) (fun c5 => ?_) (fun c5 => ?_)
          · have hf := z_t c5 hf
            refine lv_aload_n hx hb d_MO_end_149 rfl (lv_at hl 0 rfl) ?_
            refine va_get (D := (dC, dI)) (ci := 7) (v := .ref (a 16)) (C := R_MO) (T := F_MO) (N := 24) hx hb hts (fun w h => List.mem_cons_of_mem _ (in_MO w h)) hown hK hP 0 rfl rfl 19 (by decide) (hts _ (List.mem_cons_of_mem _ k_2_180)) (fun _ h9 => h9) rfl d_MO_end_150 ?_
            refine lv_bipush (v := (nI 12)) hx hb d_MO_end_153 (by decide) ?_
            refine lv_aload_n hx hb d_MO_end_155 rfl (lv_at hl 0 rfl) ?_
            refine va_get (D := (dC, dI)) (ci := 7) (v := .ref (a 8)) (C := R_MO) (T := F_MO) (N := 24) hx hb hts (fun w h => List.mem_cons_of_mem _ (in_MO w h)) hown hK hP 0 rfl rfl 11 (by decide) (hts _ (List.mem_cons_of_mem _ k_2_172)) (fun _ h9 => h9) rfl d_MO_end_156 ?_
            refine lv_iload_n hx hb d_MO_end_159 rfl (lv_at hl 1 rfl) ?_
            obtain ⟨g6, hf⟩ := z_gz hf
            refine va_iald hx hb hK hP 8 7 rfl rfl g6 d_MO_end_160 ?_
            refine lv_imul hx hb d_MO_end_161 ?_
            refine lv_aload_n hx hb d_MO_end_162 rfl (lv_at hl 0 rfl) ?_
            refine va_get (D := (dC, dI)) (ci := 7) (v := .ref (a 7)) (C := R_MO) (T := F_MO) (N := 24) hx hb hts (fun w h => List.mem_cons_of_mem _ (in_MO w h)) hown hK hP 0 rfl rfl 10 (by decide) (hts _ (List.mem_cons_of_mem _ k_2_171)) (fun _ h9 => h9) rfl d_MO_end_163 ?_
            refine lv_iload_n hx hb d_MO_end_166 rfl (lv_at hl 1 rfl) ?_
            obtain ⟨g7, hf⟩ := z_gz hf
            refine va_iald hx hb hK hP 7 6 rfl rfl g7 d_MO_end_167 ?_
            refine lv_iadd hx hb d_MO_end_168 ?_
            refine lv_iconst (v := (0 : Int32)) hx hb d_MO_end_169 (by decide) ?_
            obtain ⟨g8, hf⟩ := z_gz hf
            refine va_zast hx hb hK hP hD hS 16 15 rfl rfl g8 d_MO_end_170 (fun H locs hP hD hS => ?_)
            have hP : va_P (dC, dI) zCl (w_MO a k zpaths zsteps zcached zholds zinside zowner' zmaker' zcontent' zruns' zisThere' ztarget zplace zrun zstaged zisOpen' zstagedAt zstagedContent zstagedRuns zstagedLazy (upd zisDirty (((nI 12) * (zplace p1.toNatClampNeg)) + (ztarget p1.toNatClampNeg)).toNatClampNeg (vp_nar .boolean (0 : Int32))) zcache zhold zmet zrow) H := hP
            have hD : va_D _ (w_MO a k zpaths zsteps zcached zholds zinside zowner' zmaker' zcontent' zruns' zisThere' ztarget zplace zrun zstaged zisOpen' zstagedAt zstagedContent zstagedRuns zstagedLazy (upd zisDirty (((nI 12) * (zplace p1.toNatClampNeg)) + (ztarget p1.toNatClampNeg)).toNatClampNeg (vp_nar .boolean (0 : Int32))) zcache zhold zmet zrow) := hD
            refine lv_iload_n hx hb d_MO_end_171 rfl (lv_at hl 3 rfl) ?_
            obtain rfl := Option.some.inj hf
            exact z_iret hx hb hr hP hD hS d_MO_end_172 hlocks
          · have hf := z_f c5 hf
            refine lv_bipush (v := (nI 40)) hx hb d_MO_end_51 (by decide) ?_
            refine lv_aload_n hx hb d_MO_end_53 rfl (lv_at hl 0 rfl) ?_
            refine va_get (D := (dC, dI)) (ci := 7) (v := .ref (a 8)) (C := R_MO) (T := F_MO) (N := 24) hx hb hts (fun w h => List.mem_cons_of_mem _ (in_MO w h)) hown hK hP 0 rfl rfl 11 (by decide) (hts _ (List.mem_cons_of_mem _ k_2_172)) (fun _ h9 => h9) rfl d_MO_end_54 ?_
            refine lv_iload_n hx hb d_MO_end_57 rfl (lv_at hl 1 rfl) ?_
            obtain ⟨g9, hf⟩ := z_gz hf
            refine va_iald hx hb hK hP 8 7 rfl rfl g9 d_MO_end_58 ?_
            refine lv_imul hx hb d_MO_end_59 ?_
            refine lv_aload_n hx hb d_MO_end_60 rfl (lv_at hl 0 rfl) ?_
            refine va_get (D := (dC, dI)) (ci := 7) (v := .ref (a 12)) (C := R_MO) (T := F_MO) (N := 24) hx hb hts (fun w h => List.mem_cons_of_mem _ (in_MO w h)) hown hK hP 0 rfl rfl 15 (by decide) (hts _ (List.mem_cons_of_mem _ k_2_176)) (fun _ h9 => h9) rfl d_MO_end_61 ?_
            refine lv_iload hx hb d_MO_end_64 (lv_at hl 4 rfl) ?_
            obtain ⟨g10, hf⟩ := z_gz hf
            refine va_iald hx hb hK hP 12 11 rfl rfl g10 d_MO_end_66 ?_
            refine lv_iadd hx hb d_MO_end_67 ?_
            refine lv_istore (lv' := [(5, .int (((nI 40) * (zplace p1.toNatClampNeg)) + (zstagedAt x4.toNatClampNeg))), (0, .ref (a 0)), (1, .int p1), (2, .int p2), (3, .int x3), (4, .int x4)]) hx hb d_MO_end_68 hl (by decide) rfl (fun ls hl => ?_)
            refine lv_aload_n hx hb d_MO_end_70 rfl (lv_at hl 1 rfl) ?_
            refine va_get (D := (dC, dI)) (ci := 7) (v := .ref (a 2)) (C := R_MO) (T := F_MO) (N := 24) hx hb hts (fun w h => List.mem_cons_of_mem _ (in_MO w h)) hown hK hP 0 rfl rfl 5 (by decide) (hts _ (List.mem_cons_of_mem _ k_2_166)) (fun _ h9 => h9) rfl d_MO_end_71 ?_
            refine lv_iload hx hb d_MO_end_74 (lv_at hl 0 rfl) ?_
            refine lv_aload_n hx hb d_MO_end_76 rfl (lv_at hl 1 rfl) ?_
            refine va_get (D := (dC, dI)) (ci := 7) (v := .ref (a 7)) (C := R_MO) (T := F_MO) (N := 24) hx hb hts (fun w h => List.mem_cons_of_mem _ (in_MO w h)) hown hK hP 0 rfl rfl 10 (by decide) (hts _ (List.mem_cons_of_mem _ k_2_171)) (fun _ h9 => h9) rfl d_MO_end_77 ?_
            refine lv_iload_n hx hb d_MO_end_80 rfl (lv_at hl 2 rfl) ?_
            obtain ⟨g11, hf⟩ := z_gz hf
            refine va_iald hx hb hK hP 7 6 rfl rfl g11 d_MO_end_81 ?_
            refine lv_iconst (v := (1 : Int32)) hx hb d_MO_end_82 (by decide) ?_
            refine lv_iadd hx hb d_MO_end_83 ?_
            obtain ⟨g12, hf⟩ := z_gz hf
            refine va_iast hx hb hK hP hD hS 2 1 rfl rfl g12 d_MO_end_84 (fun H locs hP hD hS => ?_)
            have hP : va_P (dC, dI) zCl (w_MO a k zpaths zsteps zcached zholds zinside (upd zowner' (((nI 40) * (zplace p1.toNatClampNeg)) + (zstagedAt x4.toNatClampNeg)).toNatClampNeg ((ztarget p1.toNatClampNeg) + (1 : Int32))) zmaker' zcontent' zruns' zisThere' ztarget zplace zrun zstaged zisOpen' zstagedAt zstagedContent zstagedRuns zstagedLazy zisDirty zcache zhold zmet zrow) H := hP
            have hD : va_D _ (w_MO a k zpaths zsteps zcached zholds zinside (upd zowner' (((nI 40) * (zplace p1.toNatClampNeg)) + (zstagedAt x4.toNatClampNeg)).toNatClampNeg ((ztarget p1.toNatClampNeg) + (1 : Int32))) zmaker' zcontent' zruns' zisThere' ztarget zplace zrun zstaged zisOpen' zstagedAt zstagedContent zstagedRuns zstagedLazy zisDirty zcache zhold zmet zrow) := hD
            refine lv_aload_n hx hb d_MO_end_85 rfl (lv_at hl 1 rfl) ?_
            refine va_get (D := (dC, dI)) (ci := 7) (v := .ref (a 3)) (C := R_MO) (T := F_MO) (N := 24) hx hb hts (fun w h => List.mem_cons_of_mem _ (in_MO w h)) hown hK hP 0 rfl rfl 6 (by decide) (hts _ (List.mem_cons_of_mem _ k_2_167)) (fun _ h9 => h9) rfl d_MO_end_86 ?_
            refine lv_iload hx hb d_MO_end_89 (lv_at hl 0 rfl) ?_
            refine lv_iload_n hx hb d_MO_end_91 rfl (lv_at hl 2 rfl) ?_
            obtain ⟨g13, hf⟩ := z_gz hf
            refine va_iast hx hb hK hP hD hS 3 2 rfl rfl g13 d_MO_end_92 (fun H locs hP hD hS => ?_)
            have hP : va_P (dC, dI) zCl (w_MO a k zpaths zsteps zcached zholds zinside (upd zowner' (((nI 40) * (zplace p1.toNatClampNeg)) + (zstagedAt x4.toNatClampNeg)).toNatClampNeg ((ztarget p1.toNatClampNeg) + (1 : Int32))) (upd zmaker' (((nI 40) * (zplace p1.toNatClampNeg)) + (zstagedAt x4.toNatClampNeg)).toNatClampNeg p1) zcontent' zruns' zisThere' ztarget zplace zrun zstaged zisOpen' zstagedAt zstagedContent zstagedRuns zstagedLazy zisDirty zcache zhold zmet zrow) H := hP
            have hD : va_D _ (w_MO a k zpaths zsteps zcached zholds zinside (upd zowner' (((nI 40) * (zplace p1.toNatClampNeg)) + (zstagedAt x4.toNatClampNeg)).toNatClampNeg ((ztarget p1.toNatClampNeg) + (1 : Int32))) (upd zmaker' (((nI 40) * (zplace p1.toNatClampNeg)) + (zstagedAt x4.toNatClampNeg)).toNatClampNeg p1) zcontent' zruns' zisThere' ztarget zplace zrun zstaged zisOpen' zstagedAt zstagedContent zstagedRuns zstagedLazy zisDirty zcache zhold zmet zrow) := hD
            refine lv_aload_n hx hb d_MO_end_93 rfl (lv_at hl 1 rfl) ?_
            refine va_get (D := (dC, dI)) (ci := 7) (v := .ref (a 4)) (C := R_MO) (T := F_MO) (N := 24) hx hb hts (fun w h => List.mem_cons_of_mem _ (in_MO w h)) hown hK hP 0 rfl rfl 7 (by decide) (hts _ (List.mem_cons_of_mem _ k_2_168)) (fun _ h9 => h9) rfl d_MO_end_94 ?_
            refine lv_iload hx hb d_MO_end_97 (lv_at hl 0 rfl) ?_
            refine lv_aload_n hx hb d_MO_end_99 rfl (lv_at hl 1 rfl) ?_
            refine va_get (D := (dC, dI)) (ci := 7) (v := .ref (a 13)) (C := R_MO) (T := F_MO) (N := 24) hx hb hts (fun w h => List.mem_cons_of_mem _ (in_MO w h)) hown hK hP 0 rfl rfl 16 (by decide) (hts _ (List.mem_cons_of_mem _ k_2_177)) (fun _ h9 => h9) rfl d_MO_end_100 ?_
            refine lv_iload hx hb d_MO_end_103 (lv_at hl 5 rfl) ?_
            obtain ⟨g14, hf⟩ := z_gz hf
            refine va_lald hx hb hK hP 13 12 rfl rfl g14 d_MO_end_105 ?_
            obtain ⟨g15, hf⟩ := z_gz hf
            refine va_last hx hb hK hP hD hS 4 3 rfl rfl g15 d_MO_end_106 (fun H locs hP hD hS => ?_)
            have hP : va_P (dC, dI) zCl (w_MO a k zpaths zsteps zcached zholds zinside (upd zowner' (((nI 40) * (zplace p1.toNatClampNeg)) + (zstagedAt x4.toNatClampNeg)).toNatClampNeg ((ztarget p1.toNatClampNeg) + (1 : Int32))) (upd zmaker' (((nI 40) * (zplace p1.toNatClampNeg)) + (zstagedAt x4.toNatClampNeg)).toNatClampNeg p1) (vp_updL zcontent' (((nI 40) * (zplace p1.toNatClampNeg)) + (zstagedAt x4.toNatClampNeg)).toNatClampNeg (zstagedContent x4.toNatClampNeg)) zruns' zisThere' ztarget zplace zrun zstaged zisOpen' zstagedAt zstagedContent zstagedRuns zstagedLazy zisDirty zcache zhold zmet zrow) H := hP
            have hD : va_D _ (w_MO a k zpaths zsteps zcached zholds zinside (upd zowner' (((nI 40) * (zplace p1.toNatClampNeg)) + (zstagedAt x4.toNatClampNeg)).toNatClampNeg ((ztarget p1.toNatClampNeg) + (1 : Int32))) (upd zmaker' (((nI 40) * (zplace p1.toNatClampNeg)) + (zstagedAt x4.toNatClampNeg)).toNatClampNeg p1) (vp_updL zcontent' (((nI 40) * (zplace p1.toNatClampNeg)) + (zstagedAt x4.toNatClampNeg)).toNatClampNeg (zstagedContent x4.toNatClampNeg)) zruns' zisThere' ztarget zplace zrun zstaged zisOpen' zstagedAt zstagedContent zstagedRuns zstagedLazy zisDirty zcache zhold zmet zrow) := hD
            refine lv_aload_n hx hb d_MO_end_107 rfl (lv_at hl 1 rfl) ?_
            refine va_get (D := (dC, dI)) (ci := 7) (v := .ref (a 5)) (C := R_MO) (T := F_MO) (N := 24) hx hb hts (fun w h => List.mem_cons_of_mem _ (in_MO w h)) hown hK hP 0 rfl rfl 8 (by decide) (hts _ (List.mem_cons_of_mem _ k_2_169)) (fun _ h9 => h9) rfl d_MO_end_108 ?_
            refine lv_iload hx hb d_MO_end_111 (lv_at hl 0 rfl) ?_
            refine lv_aload_n hx hb d_MO_end_113 rfl (lv_at hl 1 rfl) ?_
            refine va_get (D := (dC, dI)) (ci := 7) (v := .ref (a 14)) (C := R_MO) (T := F_MO) (N := 24) hx hb hts (fun w h => List.mem_cons_of_mem _ (in_MO w h)) hown hK hP 0 rfl rfl 17 (by decide) (hts _ (List.mem_cons_of_mem _ k_2_178)) (fun _ h9 => h9) rfl d_MO_end_114 ?_
            refine lv_iload hx hb d_MO_end_117 (lv_at hl 5 rfl) ?_
            obtain ⟨g16, hf⟩ := z_gz hf
            refine va_zald hx hb hK hP 14 13 rfl rfl g16 d_MO_end_119 ?_
            obtain ⟨g17, hf⟩ := z_gz hf
            refine va_zast hx hb hK hP hD hS 5 4 rfl rfl g17 d_MO_end_120 (fun H locs hP hD hS => ?_)
            have hP : va_P (dC, dI) zCl (w_MO a k zpaths zsteps zcached zholds zinside (upd zowner' (((nI 40) * (zplace p1.toNatClampNeg)) + (zstagedAt x4.toNatClampNeg)).toNatClampNeg ((ztarget p1.toNatClampNeg) + (1 : Int32))) (upd zmaker' (((nI 40) * (zplace p1.toNatClampNeg)) + (zstagedAt x4.toNatClampNeg)).toNatClampNeg p1) (vp_updL zcontent' (((nI 40) * (zplace p1.toNatClampNeg)) + (zstagedAt x4.toNatClampNeg)).toNatClampNeg (zstagedContent x4.toNatClampNeg)) (upd zruns' (((nI 40) * (zplace p1.toNatClampNeg)) + (zstagedAt x4.toNatClampNeg)).toNatClampNeg (vp_nar .boolean (zstagedRuns x4.toNatClampNeg))) zisThere' ztarget zplace zrun zstaged zisOpen' zstagedAt zstagedContent zstagedRuns zstagedLazy zisDirty zcache zhold zmet zrow) H := hP
            have hD : va_D _ (w_MO a k zpaths zsteps zcached zholds zinside (upd zowner' (((nI 40) * (zplace p1.toNatClampNeg)) + (zstagedAt x4.toNatClampNeg)).toNatClampNeg ((ztarget p1.toNatClampNeg) + (1 : Int32))) (upd zmaker' (((nI 40) * (zplace p1.toNatClampNeg)) + (zstagedAt x4.toNatClampNeg)).toNatClampNeg p1) (vp_updL zcontent' (((nI 40) * (zplace p1.toNatClampNeg)) + (zstagedAt x4.toNatClampNeg)).toNatClampNeg (zstagedContent x4.toNatClampNeg)) (upd zruns' (((nI 40) * (zplace p1.toNatClampNeg)) + (zstagedAt x4.toNatClampNeg)).toNatClampNeg (vp_nar .boolean (zstagedRuns x4.toNatClampNeg))) zisThere' ztarget zplace zrun zstaged zisOpen' zstagedAt zstagedContent zstagedRuns zstagedLazy zisDirty zcache zhold zmet zrow) := hD
            refine lv_aload_n hx hb d_MO_end_121 rfl (lv_at hl 1 rfl) ?_
            refine va_get (D := (dC, dI)) (ci := 7) (v := .ref (a 6)) (C := R_MO) (T := F_MO) (N := 24) hx hb hts (fun w h => List.mem_cons_of_mem _ (in_MO w h)) hown hK hP 0 rfl rfl 9 (by decide) (hts _ (List.mem_cons_of_mem _ k_2_170)) (fun _ h9 => h9) rfl d_MO_end_122 ?_
            refine lv_iload hx hb d_MO_end_125 (lv_at hl 0 rfl) ?_
            refine lv_aload_n hx hb d_MO_end_127 rfl (lv_at hl 1 rfl) ?_
            refine va_get (D := (dC, dI)) (ci := 7) (v := .ref (a 15)) (C := R_MO) (T := F_MO) (N := 24) hx hb hts (fun w h => List.mem_cons_of_mem _ (in_MO w h)) hown hK hP 0 rfl rfl 18 (by decide) (hts _ (List.mem_cons_of_mem _ k_2_179)) (fun _ h9 => h9) rfl d_MO_end_128 ?_
            refine lv_iload hx hb d_MO_end_131 (lv_at hl 5 rfl) ?_
            obtain ⟨g18, hf⟩ := z_gz hf
            refine va_zald hx hb hK hP 15 14 rfl rfl g18 d_MO_end_133 ?_
            refine lv_if_ne (tgt := 141) hx hb d_MO_end_134 (by decide) (fun c19 => ?_) (fun c19 => ?_)
            · have hf := z_t c19 hf
              refine lv_iconst (v := (0 : Int32)) hx hb d_MO_end_141 (by decide) ?_
              obtain ⟨g20, hf⟩ := z_gz hf
              refine va_zast hx hb hK hP hD hS 6 5 rfl rfl g20 d_MO_end_142 (fun H locs hP hD hS => ?_)
              have hP : va_P (dC, dI) zCl (w_MO a k zpaths zsteps zcached zholds zinside (upd zowner' (((nI 40) * (zplace p1.toNatClampNeg)) + (zstagedAt x4.toNatClampNeg)).toNatClampNeg ((ztarget p1.toNatClampNeg) + (1 : Int32))) (upd zmaker' (((nI 40) * (zplace p1.toNatClampNeg)) + (zstagedAt x4.toNatClampNeg)).toNatClampNeg p1) (vp_updL zcontent' (((nI 40) * (zplace p1.toNatClampNeg)) + (zstagedAt x4.toNatClampNeg)).toNatClampNeg (zstagedContent x4.toNatClampNeg)) (upd zruns' (((nI 40) * (zplace p1.toNatClampNeg)) + (zstagedAt x4.toNatClampNeg)).toNatClampNeg (vp_nar .boolean (zstagedRuns x4.toNatClampNeg))) (upd zisThere' (((nI 40) * (zplace p1.toNatClampNeg)) + (zstagedAt x4.toNatClampNeg)).toNatClampNeg (vp_nar .boolean (0 : Int32))) ztarget zplace zrun zstaged zisOpen' zstagedAt zstagedContent zstagedRuns zstagedLazy zisDirty zcache zhold zmet zrow) H := hP
              have hD : va_D _ (w_MO a k zpaths zsteps zcached zholds zinside (upd zowner' (((nI 40) * (zplace p1.toNatClampNeg)) + (zstagedAt x4.toNatClampNeg)).toNatClampNeg ((ztarget p1.toNatClampNeg) + (1 : Int32))) (upd zmaker' (((nI 40) * (zplace p1.toNatClampNeg)) + (zstagedAt x4.toNatClampNeg)).toNatClampNeg p1) (vp_updL zcontent' (((nI 40) * (zplace p1.toNatClampNeg)) + (zstagedAt x4.toNatClampNeg)).toNatClampNeg (zstagedContent x4.toNatClampNeg)) (upd zruns' (((nI 40) * (zplace p1.toNatClampNeg)) + (zstagedAt x4.toNatClampNeg)).toNatClampNeg (vp_nar .boolean (zstagedRuns x4.toNatClampNeg))) (upd zisThere' (((nI 40) * (zplace p1.toNatClampNeg)) + (zstagedAt x4.toNatClampNeg)).toNatClampNeg (vp_nar .boolean (0 : Int32))) ztarget zplace zrun zstaged zisOpen' zstagedAt zstagedContent zstagedRuns zstagedLazy zisDirty zcache zhold zmet zrow) := hD
              refine lv_iinc (v := (x4 + (1 : Int32))) (lv' := [(4, .int (x4 + (1 : Int32))), (5, .int (((nI 40) * (zplace p1.toNatClampNeg)) + (zstagedAt x4.toNatClampNeg))), (0, .ref (a 0)), (1, .int p1), (2, .int p2), (3, .int x3)]) hx hb d_MO_end_143 hl (k := 5) rfl rfl (by decide) rfl (fun ls hl => ?_)
              refine lv_goto (tgt := 35) hx hb d_MO_end_146 (by decide) ?_
              exact ih35 (upd zowner' (((nI 40) * (zplace p1.toNatClampNeg)) + (zstagedAt x4.toNatClampNeg)).toNatClampNeg ((ztarget p1.toNatClampNeg) + (1 : Int32))) (upd zmaker' (((nI 40) * (zplace p1.toNatClampNeg)) + (zstagedAt x4.toNatClampNeg)).toNatClampNeg p1) (vp_updL zcontent' (((nI 40) * (zplace p1.toNatClampNeg)) + (zstagedAt x4.toNatClampNeg)).toNatClampNeg (zstagedContent x4.toNatClampNeg)) (upd zruns' (((nI 40) * (zplace p1.toNatClampNeg)) + (zstagedAt x4.toNatClampNeg)).toNatClampNeg (vp_nar .boolean (zstagedRuns x4.toNatClampNeg))) (upd zisThere' (((nI 40) * (zplace p1.toNatClampNeg)) + (zstagedAt x4.toNatClampNeg)).toNatClampNeg (vp_nar .boolean (0 : Int32))) (x4 + (1 : Int32)) hf H locs ls hP hD hS (lv_sub hl [2, 3, 4, 5, 0] rfl)
            · have hf := z_fn c19 hf
              refine lv_iconst (v := (1 : Int32)) hx hb d_MO_end_137 (by decide) ?_
              refine lv_goto (tgt := 142) hx hb d_MO_end_138 (by decide) ?_
              obtain ⟨g21, hf⟩ := z_gz hf
              refine va_zast hx hb hK hP hD hS 6 5 rfl rfl g21 d_MO_end_142 (fun H locs hP hD hS => ?_)
              have hP : va_P (dC, dI) zCl (w_MO a k zpaths zsteps zcached zholds zinside (upd zowner' (((nI 40) * (zplace p1.toNatClampNeg)) + (zstagedAt x4.toNatClampNeg)).toNatClampNeg ((ztarget p1.toNatClampNeg) + (1 : Int32))) (upd zmaker' (((nI 40) * (zplace p1.toNatClampNeg)) + (zstagedAt x4.toNatClampNeg)).toNatClampNeg p1) (vp_updL zcontent' (((nI 40) * (zplace p1.toNatClampNeg)) + (zstagedAt x4.toNatClampNeg)).toNatClampNeg (zstagedContent x4.toNatClampNeg)) (upd zruns' (((nI 40) * (zplace p1.toNatClampNeg)) + (zstagedAt x4.toNatClampNeg)).toNatClampNeg (vp_nar .boolean (zstagedRuns x4.toNatClampNeg))) (upd zisThere' (((nI 40) * (zplace p1.toNatClampNeg)) + (zstagedAt x4.toNatClampNeg)).toNatClampNeg (vp_nar .boolean (1 : Int32))) ztarget zplace zrun zstaged zisOpen' zstagedAt zstagedContent zstagedRuns zstagedLazy zisDirty zcache zhold zmet zrow) H := hP
              have hD : va_D _ (w_MO a k zpaths zsteps zcached zholds zinside (upd zowner' (((nI 40) * (zplace p1.toNatClampNeg)) + (zstagedAt x4.toNatClampNeg)).toNatClampNeg ((ztarget p1.toNatClampNeg) + (1 : Int32))) (upd zmaker' (((nI 40) * (zplace p1.toNatClampNeg)) + (zstagedAt x4.toNatClampNeg)).toNatClampNeg p1) (vp_updL zcontent' (((nI 40) * (zplace p1.toNatClampNeg)) + (zstagedAt x4.toNatClampNeg)).toNatClampNeg (zstagedContent x4.toNatClampNeg)) (upd zruns' (((nI 40) * (zplace p1.toNatClampNeg)) + (zstagedAt x4.toNatClampNeg)).toNatClampNeg (vp_nar .boolean (zstagedRuns x4.toNatClampNeg))) (upd zisThere' (((nI 40) * (zplace p1.toNatClampNeg)) + (zstagedAt x4.toNatClampNeg)).toNatClampNeg (vp_nar .boolean (1 : Int32))) ztarget zplace zrun zstaged zisOpen' zstagedAt zstagedContent zstagedRuns zstagedLazy zisDirty zcache zhold zmet zrow) := hD
              refine lv_iinc (v := (x4 + (1 : Int32))) (lv' := [(4, .int (x4 + (1 : Int32))), (5, .int (((nI 40) * (zplace p1.toNatClampNeg)) + (zstagedAt x4.toNatClampNeg))), (0, .ref (a 0)), (1, .int p1), (2, .int p2), (3, .int x3)]) hx hb d_MO_end_143 hl (k := 5) rfl rfl (by decide) rfl (fun ls hl => ?_)
              refine lv_goto (tgt := 35) hx hb d_MO_end_146 (by decide) ?_
              exact ih35 (upd zowner' (((nI 40) * (zplace p1.toNatClampNeg)) + (zstagedAt x4.toNatClampNeg)).toNatClampNeg ((ztarget p1.toNatClampNeg) + (1 : Int32))) (upd zmaker' (((nI 40) * (zplace p1.toNatClampNeg)) + (zstagedAt x4.toNatClampNeg)).toNatClampNeg p1) (vp_updL zcontent' (((nI 40) * (zplace p1.toNatClampNeg)) + (zstagedAt x4.toNatClampNeg)).toNatClampNeg (zstagedContent x4.toNatClampNeg)) (upd zruns' (((nI 40) * (zplace p1.toNatClampNeg)) + (zstagedAt x4.toNatClampNeg)).toNatClampNeg (vp_nar .boolean (zstagedRuns x4.toNatClampNeg))) (upd zisThere' (((nI 40) * (zplace p1.toNatClampNeg)) + (zstagedAt x4.toNatClampNeg)).toNatClampNeg (vp_nar .boolean (1 : Int32))) (x4 + (1 : Int32)) hf H locs ls hP hD hS (lv_sub hl [2, 3, 4, 5, 0] rfl)
      exact loop35 (upd zisOpen p1.toNatClampNeg (vp_nar .boolean (0 : Int32))) u1.1 N u1.2 zmaker zcontent zruns zisThere ((nI 12) * p1) hf H locs ls hP hD hS (lv_sub hl [2, 3, 4, 1, 0] rfl)
    · have hf := z_fn c3 hf
      refine lv_iconst (v := (0 : Int32)) hx hb d_MO_end_21 (by decide) ?_
      obtain rfl := Option.some.inj hf
      exact z_iret hx hb hr hP hD hS d_MO_end_22 hlocks
  · have hf := z_fn c1 hf
    refine lv_iconst (v := (-1 : Int32)) hx hb d_MO_end_8 (by decide) ?_
    obtain rfl := Option.some.inj hf
    exact z_iret hx hb hr hP hD hS d_MO_end_9 hlocks
