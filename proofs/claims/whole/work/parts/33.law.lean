set_option maxHeartbeats 16000000 in
set_option maxRecDepth 100000 in
theorem law_loop {p : Program} {l : Launch} {e : Env} {s : State} {m : MethodId} {below : List Frame} {meth : Method} {c : Code} {dC : Nat → ClassId} {dI : Nat → Nat → Nat} {b L : Nat} {xs : Nat → Int32} (C0 : lw_At p s m meth c b L xs) (hN : zN s) (N : Nat) (a : Nat → Nat) (k : Nat → ClassId) (ao : Nat → Nat) (ko : Nat → ClassId) (hKa : va_K (dC, dI) zCl (t_OS k) s) (hKb : va_K (dC, dI) zCl (t_MO ko) s) :
    ∀ (n : Nat) (zpaths_outer : Nat → Int32) (zpaths_count : Int32) (zsteps_targets : Nat → Int32) (zsteps_configurations : Nat → Int32) (zsteps_runs : Nat → Int32) (zsteps_opened : Nat → Int32) (zsteps_count : Int32) (zoutputs_contents : Nat → Int64) (zoutputs_makers : Nat → Int32) (zoutputs_executables : Nat → Int32) (zoutputs_lazies : Nat → Int32) (zstaged_contents : Nat → Int64) (zstaged_makers : Nat → Int32) (zstaged_executables : Nat → Int32) (zstaged_lazies : Nat → Int32) (zcached_contents : Nat → Int64) (zcached_count : Int32) (zholds_contents : Nat → Int64) (zholds_count : Int32) (zdirtyMarks_marks : Nat → Int32) (zdifferent : Nat → Int64) (mzpaths : Int32) (mzsteps : Int32) (mzcached : Int32) (mzholds : Int32) (mzinside : Nat → Int32) (mzowner : Nat → Int32) (mzmaker : Nat → Int32) (mzcontent : Nat → Int64) (mzruns : Nat → Int32) (mzisThere : Nat → Int32) (mztarget : Nat → Int32) (mzplace : Nat → Int32) (mzrun : Nat → Int32) (mzstaged : Nat → Int32) (mzisOpen : Nat → Int32) (mzstagedAt : Nat → Int32) (mzstagedContent : Nat → Int64) (mzstagedRuns : Nat → Int32) (mzstagedLazy : Nat → Int32) (mzisDirty : Nat → Int32) (mzcache : Nat → Int64) (mzhold : Nat → Int64) (mzmet : Int32) (mzrow : Nat → Int64) (x3 : Int32), pf_law N L xs n zpaths_outer zpaths_count zsteps_targets zsteps_configurations zsteps_runs zsteps_opened zsteps_count zoutputs_contents zoutputs_makers zoutputs_executables zoutputs_lazies zstaged_contents zstaged_makers zstaged_executables zstaged_lazies zcached_contents zcached_count zholds_contents zholds_count zdirtyMarks_marks zdifferent mzpaths mzsteps mzcached mzholds mzinside mzowner mzmaker mzcontent mzruns mzisThere mztarget mzplace mzrun mzstaged mzisOpen mzstagedAt mzstagedContent mzstagedRuns mzstagedLazy mzisDirty mzcache mzhold mzmet mzrow x3 = some 1 → ∀ (H : Heap) (locs : List Loc) (ls : Array Slot), va_P (dC, dI) zCl (w_OS a k zpaths_outer zpaths_count zsteps_targets zsteps_configurations zsteps_runs zsteps_opened zsteps_count zoutputs_contents zoutputs_makers zoutputs_executables zoutputs_lazies zstaged_contents zstaged_makers zstaged_executables zstaged_lazies zcached_contents zcached_count zholds_contents zholds_count zdirtyMarks_marks zdifferent ++ w_MO ao ko mzpaths mzsteps mzcached mzholds mzinside mzowner mzmaker mzcontent mzruns mzisThere mztarget mzplace mzrun mzstaged mzisOpen mzstagedAt mzstagedContent mzstagedRuns mzstagedLazy mzisDirty mzcache mzhold mzmet mzrow) H → va_D (fun q : Nat => s.heap.size ≤ q) (w_OS a k zpaths_outer zpaths_count zsteps_targets zsteps_configurations zsteps_runs zsteps_opened zsteps_count zoutputs_contents zoutputs_makers zoutputs_executables zoutputs_lazies zstaged_contents zstaged_makers zstaged_executables zstaged_lazies zcached_contents zcached_count zholds_contents zholds_count zdirtyMarks_marks zdifferent ++ w_MO ao ko mzpaths mzsteps mzcached mzholds mzinside mzowner mzmaker mzcontent mzruns mzisThere mztarget mzplace mzrun mzstaged mzisOpen mzstagedAt mzstagedContent mzstagedRuns mzstagedLazy mzisDirty mzcache mzhold mzmet mzrow) → va_S (fun q : Nat => s.heap.size ≤ q) s.heap H locs → lv_has ls 4 [(0, .ref b), (1, .ref (a 0)), (2, .ref (ao 0)), (3, .int x3)] → W p l e room_1 s m #[Value.ref b] below meth c H locs 45 8828 (lw_Z below #[Value.ref b] s) (F0 m 18 ls []) := by
  obtain ⟨hx, hb, hr, hml, hown, hts, hX, hbl, hlocks, hgv⟩ := C0
  have hA : ∀ q : Nat, s.heap.size ≤ q → (fun q : Nat => s.heap.size ≤ q) q := fun _ h => h
  have hbA : ¬ (fun q : Nat => s.heap.size ≤ q) b := Nat.not_le.mpr hbl
  intro n
  induction n with
  | zero =>
    intro zpaths_outer zpaths_count zsteps_targets zsteps_configurations zsteps_runs zsteps_opened zsteps_count zoutputs_contents zoutputs_makers zoutputs_executables zoutputs_lazies zstaged_contents zstaged_makers zstaged_executables zstaged_lazies zcached_contents zcached_count zholds_contents zholds_count zdirtyMarks_marks zdifferent mzpaths mzsteps mzcached mzholds mzinside mzowner mzmaker mzcontent mzruns mzisThere mztarget mzplace mzrun mzstaged mzisOpen mzstagedAt mzstagedContent mzstagedRuns mzstagedLazy mzisDirty mzcache mzhold mzmet mzrow x3 hf
    rw [pf_law.eq_1] at hf
    cases hf
  | succ n ih =>
    intro zpaths_outer zpaths_count zsteps_targets zsteps_configurations zsteps_runs zsteps_opened zsteps_count zoutputs_contents zoutputs_makers zoutputs_executables zoutputs_lazies zstaged_contents zstaged_makers zstaged_executables zstaged_lazies zcached_contents zcached_count zholds_contents zholds_count zdirtyMarks_marks zdifferent mzpaths mzsteps mzcached mzholds mzinside mzowner mzmaker mzcontent mzruns mzisThere mztarget mzplace mzrun mzstaged mzisOpen mzstagedAt mzstagedContent mzstagedRuns mzstagedLazy mzisDirty mzcache mzhold mzmet mzrow x3 hf H locs ls hP hD hS hl
    rw [pf_law.eq_2] at hf
    refine lv_iload_n hx hb d_L_law_18 rfl (lv_at hl 3 rfl) ?_
    refine lv_aload_n hx hb d_L_law_19 rfl (lv_at hl 0 rfl) ?_
    refine va_slen hx hb hX hbl hbA hS d_L_law_20 ?_
    refine lv_bipush (v := (nI 7)) hx hb d_L_law_21 (by decide) ?_
    refine lv_isub hx hb d_L_law_23 ?_
    refine lv_icmp_gt (tgt := 784) hx hb d_L_law_24 (by decide) (fun c1 => ?_) (fun c1 => ?_)
    · have hf := z_t c1 hf
      refine lv_iconst (v := (1 : Int32)) hx hb d_L_law_784 (by decide) ?_
      refine va_forget (fun q hq => hS.2.2 q hq) ?_
      exact lw_ret hx hb hr hlocks d_L_law_785
    · have hf := z_f c1 hf
      refine lv_aload_n hx hb d_L_law_27 rfl (lv_at hl 0 rfl) ?_
      refine lv_iload_n hx hb d_L_law_28 rfl (lv_at hl 3 rfl) ?_
      obtain ⟨g2, hf⟩ := z_gz hf
      refine va_sld hx hb hX hbl hbA hS g2 d_L_law_29 ?_
      refine lv_bipush (v := (nI 15)) hx hb d_L_law_30 (by decide) ?_
      refine lv_iand hx hb d_L_law_32 ?_
      by_cases c3 : ((xs x3.toNatClampNeg) &&& (nI 15)) = 0
      · have hf := z_t c3 hf
        refine lv_tableIn (off := 79) (tgt := 112) hx hb d_L_law_33 (by rw [c3]; decide) (by rw [c3]; decide) (by rw [c3]; rfl) (by decide) ?_
        refine lv_aload_n hx hb d_L_law_112 rfl (lv_at hl 1 rfl) ?_
        refine lv_aload_n hx hb d_L_law_113 rfl (lv_at hl 0 rfl) ?_
        refine lv_iload_n hx hb d_L_law_114 rfl (lv_at hl 3 rfl) ?_
        refine lv_iconst (v := (1 : Int32)) hx hb d_L_law_115 (by decide) ?_
        refine lv_iadd hx hb d_L_law_116 ?_
        obtain ⟨g4, hf⟩ := z_gz hf
        refine va_sld hx hb hX hbl hbA hS g4 d_L_law_117 ?_
        obtain ⟨u0, hu0, hf⟩ := z_b hf
        have hPc := zP_fst hP
        have hDc := zD_fst hD
        have hKc := hKa
        refine z_lai (va_runV (As := [.int (xs (x3 + (1 : Int32)).toNatClampNeg)]) (rest := []) ⟨hx, hb, hml, hown, hts⟩ (c_OS_path l dC dI N a k zpaths_outer zpaths_count zsteps_targets zsteps_configurations zsteps_runs zsteps_opened zsteps_count zoutputs_contents zoutputs_makers zoutputs_executables zoutputs_lazies zstaged_contents zstaged_makers zstaged_executables zstaged_lazies zcached_contents zcached_count zholds_contents zholds_count zdirtyMarks_marks zdifferent (xs (x3 + (1 : Int32)).toNatClampNeg) hu0 H.size) (cwV 1 hts (zGV zsub_l k_1_135 k_1_136 k_1_137 k_1_1 kc_OS_path) rfl rfl rfl (by decide +kernel) ⟨Nat.le_of_ble_eq_true rfl, Nat.le_of_ble_eq_true rfl⟩) ⟨z_bl, va_recv hKc hPc (ci := 6) (q0 := 0) rfl rfl, fun U hU hW => ⟨rfl, z_pre hN hKc hPc hDc U hU hW⟩⟩ rfl rfl hl.1 rfl (lv_room (Nat.le_of_ble_eq_true rfl)) d_L_law_118 ⟨Nat.le_of_ble_eq_true rfl, Nat.le_of_ble_eq_true rfl⟩) hP hD hS hA (fun H locs hP hD hS => ?_)
        refine lv_aload_n hx hb d_L_law_121 rfl (lv_at hl 2 rfl) ?_
        refine lv_aload_n hx hb d_L_law_122 rfl (lv_at hl 0 rfl) ?_
        refine lv_iload_n hx hb d_L_law_123 rfl (lv_at hl 3 rfl) ?_
        refine lv_iconst (v := (1 : Int32)) hx hb d_L_law_124 (by decide) ?_
        refine lv_iadd hx hb d_L_law_125 ?_
        obtain ⟨g5, hf⟩ := z_gz hf
        refine va_sld hx hb hX hbl hbA hS g5 d_L_law_126 ?_
        obtain ⟨u1, hu1, hf⟩ := z_b hf
        have hPc := zP_end hP
        have hDc := zD_end hD
        have hKc := hKb
        refine z_lbi (va_runV (As := [.int (xs (x3 + (1 : Int32)).toNatClampNeg)]) (rest := [.int u0.1]) ⟨hx, hb, hml, hown, hts⟩ (c_MO_path l dC dI N ao ko mzpaths mzsteps mzcached mzholds mzinside mzowner mzmaker mzcontent mzruns mzisThere mztarget mzplace mzrun mzstaged mzisOpen mzstagedAt mzstagedContent mzstagedRuns mzstagedLazy mzisDirty mzcache mzhold mzmet mzrow (xs (x3 + (1 : Int32)).toNatClampNeg) hu1 H.size) (cwV 1 hts (zGV zsub_l k_2_234 k_2_235 k_2_236 k_1_8 kc_MO_path) rfl rfl rfl (by decide +kernel) ⟨Nat.le_of_ble_eq_true rfl, Nat.le_of_ble_eq_true rfl⟩) ⟨z_bl, va_recv hKc hPc (ci := 7) (q0 := 0) rfl rfl, fun U hU hW => ⟨rfl, z_pre hN hKc hPc hDc U hU hW⟩⟩ rfl rfl hl.1 rfl (lv_room (Nat.le_of_ble_eq_true rfl)) d_L_law_127 ⟨Nat.le_of_ble_eq_true rfl, Nat.le_of_ble_eq_true rfl⟩) hP hD hS hA (fun H locs hP hD hS => ?_)
        refine lv_icmp_eq (tgt := 778) hx hb d_L_law_130 (by decide) (fun c6 => ?_) (fun c6 => ?_)
        · have hf := z_t c6 hf
          refine lv_iinc (v := (x3 + (nI 7))) (lv' := [(3, .int (x3 + (nI 7))), (0, .ref b), (1, .ref (a 0)), (2, .ref (ao 0))]) hx hb d_L_law_778 hl (k := 3) rfl rfl (by decide) rfl (fun ls hl => ?_)
          refine lv_goto (tgt := 18) hx hb d_L_law_781 (by decide) ?_
          exact ih u0.2.1 u0.2.2 zsteps_targets zsteps_configurations zsteps_runs zsteps_opened zsteps_count zoutputs_contents zoutputs_makers zoutputs_executables zoutputs_lazies zstaged_contents zstaged_makers zstaged_executables zstaged_lazies zcached_contents zcached_count zholds_contents zholds_count zdirtyMarks_marks zdifferent u1.2.1 mzsteps mzcached mzholds u1.2.2 mzowner mzmaker mzcontent mzruns mzisThere mztarget mzplace mzrun mzstaged mzisOpen mzstagedAt mzstagedContent mzstagedRuns mzstagedLazy mzisDirty mzcache mzhold mzmet mzrow (x3 + (nI 7)) hf H locs ls hP hD hS (lv_sub hl [1, 2, 3, 0] rfl)
        · have hf := z_f c6 hf
          refine lv_iconst (v := (0 : Int32)) hx hb d_L_law_133 (by decide) ?_
          exact absurd (Option.some.inj hf) (by decide)
      have hf := z_f c3 hf
      by_cases c7 : ((xs x3.toNatClampNeg) &&& (nI 15)) = 1
      · have hf := z_t c7 hf
        refine lv_tableIn (off := 102) (tgt := 135) hx hb d_L_law_33 (by rw [c7]; decide) (by rw [c7]; decide) (by rw [c7]; rfl) (by decide) ?_
        refine lv_aload_n hx hb d_L_law_135 rfl (lv_at hl 1 rfl) ?_
        refine lv_aload_n hx hb d_L_law_136 rfl (lv_at hl 0 rfl) ?_
        refine lv_iload_n hx hb d_L_law_137 rfl (lv_at hl 3 rfl) ?_
        refine lv_iconst (v := (1 : Int32)) hx hb d_L_law_138 (by decide) ?_
        refine lv_iadd hx hb d_L_law_139 ?_
        obtain ⟨g8, hf⟩ := z_gz hf
        refine va_sld hx hb hX hbl hbA hS g8 d_L_law_140 ?_
        refine lv_aload_n hx hb d_L_law_141 rfl (lv_at hl 0 rfl) ?_
        refine lv_iload_n hx hb d_L_law_142 rfl (lv_at hl 3 rfl) ?_
        refine lv_iconst (v := (nI 2)) hx hb d_L_law_143 (by decide) ?_
        refine lv_iadd hx hb d_L_law_144 ?_
        obtain ⟨g9, hf⟩ := z_gz hf
        refine va_sld hx hb hX hbl hbA hS g9 d_L_law_145 ?_
        refine lv_aload_n hx hb d_L_law_146 rfl (lv_at hl 0 rfl) ?_
        refine lv_iload_n hx hb d_L_law_147 rfl (lv_at hl 3 rfl) ?_
        refine lv_iconst (v := (nI 3)) hx hb d_L_law_148 (by decide) ?_
        refine lv_iadd hx hb d_L_law_149 ?_
        obtain ⟨g10, hf⟩ := z_gz hf
        refine va_sld hx hb hX hbl hbA hS g10 d_L_law_150 ?_
        obtain ⟨u2, hu2, hf⟩ := z_b hf
        have hPc := zP_fst hP
        have hDc := zD_fst hD
        have hKc := hKa
        refine z_lai (va_runV (As := [.int (xs (x3 + (1 : Int32)).toNatClampNeg), .int (xs (x3 + (nI 2)).toNatClampNeg), .int (xs (x3 + (nI 3)).toNatClampNeg)]) (rest := []) ⟨hx, hb, hml, hown, hts⟩ (c_OS_begin l dC dI N a k zpaths_outer zpaths_count zsteps_targets zsteps_configurations zsteps_runs zsteps_opened zsteps_count zoutputs_contents zoutputs_makers zoutputs_executables zoutputs_lazies zstaged_contents zstaged_makers zstaged_executables zstaged_lazies zcached_contents zcached_count zholds_contents zholds_count zdirtyMarks_marks zdifferent (xs (x3 + (1 : Int32)).toNatClampNeg) (xs (x3 + (nI 2)).toNatClampNeg) (xs (x3 + (nI 3)).toNatClampNeg) hu2 H.size) (cwV 3 hts (zGV zsub_l k_1_147 k_1_148 k_1_149 k_1_1 kc_OS_begin) rfl rfl rfl (by decide +kernel) ⟨Nat.le_of_ble_eq_true rfl, Nat.le_of_ble_eq_true rfl⟩) ⟨z_bl, va_recv hKc hPc (ci := 6) (q0 := 0) rfl rfl, fun U hU hW => ⟨rfl, z_pre hN hKc hPc hDc U hU hW⟩⟩ rfl rfl hl.1 rfl (lv_room (Nat.le_of_ble_eq_true rfl)) d_L_law_151 ⟨Nat.le_of_ble_eq_true rfl, Nat.le_of_ble_eq_true rfl⟩) hP hD hS hA (fun H locs hP hD hS => ?_)
        refine lv_aload_n hx hb d_L_law_154 rfl (lv_at hl 2 rfl) ?_
        refine lv_aload_n hx hb d_L_law_155 rfl (lv_at hl 0 rfl) ?_
        refine lv_iload_n hx hb d_L_law_156 rfl (lv_at hl 3 rfl) ?_
        refine lv_iconst (v := (1 : Int32)) hx hb d_L_law_157 (by decide) ?_
        refine lv_iadd hx hb d_L_law_158 ?_
        obtain ⟨g11, hf⟩ := z_gz hf
        refine va_sld hx hb hX hbl hbA hS g11 d_L_law_159 ?_
        refine lv_aload_n hx hb d_L_law_160 rfl (lv_at hl 0 rfl) ?_
        refine lv_iload_n hx hb d_L_law_161 rfl (lv_at hl 3 rfl) ?_
        refine lv_iconst (v := (nI 2)) hx hb d_L_law_162 (by decide) ?_
        refine lv_iadd hx hb d_L_law_163 ?_
        obtain ⟨g12, hf⟩ := z_gz hf
        refine va_sld hx hb hX hbl hbA hS g12 d_L_law_164 ?_
        refine lv_aload_n hx hb d_L_law_165 rfl (lv_at hl 0 rfl) ?_
        refine lv_iload_n hx hb d_L_law_166 rfl (lv_at hl 3 rfl) ?_
        refine lv_iconst (v := (nI 3)) hx hb d_L_law_167 (by decide) ?_
        refine lv_iadd hx hb d_L_law_168 ?_
        obtain ⟨g13, hf⟩ := z_gz hf
        refine va_sld hx hb hX hbl hbA hS g13 d_L_law_169 ?_
        obtain ⟨u3, hu3, hf⟩ := z_b hf
        have hPc := zP_end hP
        have hDc := zD_end hD
        have hKc := hKb
        refine z_lbi (va_runV (As := [.int (xs (x3 + (1 : Int32)).toNatClampNeg), .int (xs (x3 + (nI 2)).toNatClampNeg), .int (xs (x3 + (nI 3)).toNatClampNeg)]) (rest := [.int u2.1]) ⟨hx, hb, hml, hown, hts⟩ (c_MO_begin l dC dI N ao ko mzpaths mzsteps mzcached mzholds mzinside mzowner mzmaker mzcontent mzruns mzisThere mztarget mzplace mzrun mzstaged mzisOpen mzstagedAt mzstagedContent mzstagedRuns mzstagedLazy mzisDirty mzcache mzhold mzmet mzrow (xs (x3 + (1 : Int32)).toNatClampNeg) (xs (x3 + (nI 2)).toNatClampNeg) (xs (x3 + (nI 3)).toNatClampNeg) hu3 H.size) (cwV 3 hts (zGV zsub_l k_3_2 k_3_3 k_3_4 k_1_8 kc_MO_begin) rfl rfl rfl (by decide +kernel) ⟨Nat.le_of_ble_eq_true rfl, Nat.le_of_ble_eq_true rfl⟩) ⟨z_bl, va_recv hKc hPc (ci := 7) (q0 := 0) rfl rfl, fun U hU hW => ⟨rfl, z_pre hN hKc hPc hDc U hU hW⟩⟩ rfl rfl hl.1 rfl (lv_room (Nat.le_of_ble_eq_true rfl)) d_L_law_170 ⟨Nat.le_of_ble_eq_true rfl, Nat.le_of_ble_eq_true rfl⟩) hP hD hS hA (fun H locs hP hD hS => ?_)
        refine lv_icmp_eq (tgt := 778) hx hb d_L_law_173 (by decide) (fun c14 => ?_) (fun c14 => ?_)
        · have hf := z_t c14 hf
          refine lv_iinc (v := (x3 + (nI 7))) (lv' := [(3, .int (x3 + (nI 7))), (0, .ref b), (1, .ref (a 0)), (2, .ref (ao 0))]) hx hb d_L_law_778 hl (k := 3) rfl rfl (by decide) rfl (fun ls hl => ?_)
          refine lv_goto (tgt := 18) hx hb d_L_law_781 (by decide) ?_
          exact ih zpaths_outer zpaths_count u2.2.1 u2.2.2.1 u2.2.2.2.1 u2.2.2.2.2.1 u2.2.2.2.2.2 zoutputs_contents zoutputs_makers zoutputs_executables zoutputs_lazies zstaged_contents zstaged_makers zstaged_executables zstaged_lazies zcached_contents zcached_count zholds_contents zholds_count zdirtyMarks_marks zdifferent mzpaths u3.2.1 mzcached mzholds mzinside mzowner mzmaker mzcontent mzruns mzisThere u3.2.2.1 u3.2.2.2.1 u3.2.2.2.2.1 u3.2.2.2.2.2.1 u3.2.2.2.2.2.2 mzstagedAt mzstagedContent mzstagedRuns mzstagedLazy mzisDirty mzcache mzhold mzmet mzrow (x3 + (nI 7)) hf H locs ls hP hD hS (lv_sub hl [1, 2, 3, 0] rfl)
        · have hf := z_f c14 hf
          refine lv_iconst (v := (0 : Int32)) hx hb d_L_law_176 (by decide) ?_
          exact absurd (Option.some.inj hf) (by decide)
      have hf := z_f c7 hf
      by_cases c15 : ((xs x3.toNatClampNeg) &&& (nI 15)) = 2
      · have hf := z_t c15 hf
        refine lv_tableIn (off := 145) (tgt := 178) hx hb d_L_law_33 (by rw [c15]; decide) (by rw [c15]; decide) (by rw [c15]; rfl) (by decide) ?_
        refine lv_aload_n hx hb d_L_law_178 rfl (lv_at hl 1 rfl) ?_
        refine lv_aload_n hx hb d_L_law_179 rfl (lv_at hl 0 rfl) ?_
        refine lv_iload_n hx hb d_L_law_180 rfl (lv_at hl 3 rfl) ?_
        refine lv_iconst (v := (1 : Int32)) hx hb d_L_law_181 (by decide) ?_
        refine lv_iadd hx hb d_L_law_182 ?_
        obtain ⟨g16, hf⟩ := z_gz hf
        refine va_sld hx hb hX hbl hbA hS g16 d_L_law_183 ?_
        refine lv_aload_n hx hb d_L_law_184 rfl (lv_at hl 0 rfl) ?_
        refine lv_iload_n hx hb d_L_law_185 rfl (lv_at hl 3 rfl) ?_
        refine lv_iconst (v := (nI 2)) hx hb d_L_law_186 (by decide) ?_
        refine lv_iadd hx hb d_L_law_187 ?_
        obtain ⟨g17, hf⟩ := z_gz hf
        refine va_sld hx hb hX hbl hbA hS g17 d_L_law_188 ?_
        refine lv_aload_n hx hb d_L_law_189 rfl (lv_at hl 0 rfl) ?_
        refine lv_iload_n hx hb d_L_law_190 rfl (lv_at hl 3 rfl) ?_
        refine lv_iconst (v := (nI 3)) hx hb d_L_law_191 (by decide) ?_
        refine lv_iadd hx hb d_L_law_192 ?_
        obtain ⟨g18, hf⟩ := z_gz hf
        refine va_sld hx hb hX hbl hbA hS g18 d_L_law_193 ?_
        refine lv_i2l (v := (xs (x3 + (nI 3)).toNatClampNeg).toInt64) hx hb d_L_law_194 rfl ?_
        refine lv_bipush (v := (nI 32)) hx hb d_L_law_195 (by decide) ?_
        refine lv_lshl (v := ((xs (x3 + (nI 3)).toNatClampNeg).toInt64 <<< ((nI 32).toInt64 &&& 63))) hx hb d_L_law_197 rfl ?_
        refine lv_aload_n hx hb d_L_law_198 rfl (lv_at hl 0 rfl) ?_
        refine lv_iload_n hx hb d_L_law_199 rfl (lv_at hl 3 rfl) ?_
        refine lv_iconst (v := (nI 4)) hx hb d_L_law_200 (by decide) ?_
        refine lv_iadd hx hb d_L_law_201 ?_
        obtain ⟨g19, hf⟩ := z_gz hf
        refine va_sld hx hb hX hbl hbA hS g19 d_L_law_202 ?_
        refine lv_i2l (v := (xs (x3 + (nI 4)).toNatClampNeg).toInt64) hx hb d_L_law_203 rfl ?_
        refine lv_ldc2 (v := 4294967295) hx hb hown (hts _ (zW_in k_3_109)) d_L_law_204 ?_
        refine lv_land hx hb d_L_law_207 ?_
        refine lv_lor hx hb d_L_law_208 ?_
        refine lv_aload_n hx hb d_L_law_209 rfl (lv_at hl 0 rfl) ?_
        refine lv_iload_n hx hb d_L_law_210 rfl (lv_at hl 3 rfl) ?_
        refine lv_iconst (v := (nI 5)) hx hb d_L_law_211 (by decide) ?_
        refine lv_iadd hx hb d_L_law_212 ?_
        obtain ⟨g20, hf⟩ := z_gz hf
        refine va_sld hx hb hX hbl hbA hS g20 d_L_law_213 ?_
        refine lv_if_eq (tgt := 221) hx hb d_L_law_214 (by decide) (fun c21 => ?_) (fun c21 => ?_)
        · have hf := z_t c21 hf
          refine lv_iconst (v := (0 : Int32)) hx hb d_L_law_221 (by decide) ?_
          refine lv_aload_n hx hb d_L_law_222 rfl (lv_at hl 0 rfl) ?_
          refine lv_iload_n hx hb d_L_law_223 rfl (lv_at hl 3 rfl) ?_
          refine lv_bipush (v := (nI 6)) hx hb d_L_law_224 (by decide) ?_
          refine lv_iadd hx hb d_L_law_226 ?_
          obtain ⟨g22, hf⟩ := z_gz hf
          refine va_sld hx hb hX hbl hbA hS g22 d_L_law_227 ?_
          refine lv_if_eq (tgt := 235) hx hb d_L_law_228 (by decide) (fun c23 => ?_) (fun c23 => ?_)
          · have hf := z_t c23 hf
            refine lv_iconst (v := (0 : Int32)) hx hb d_L_law_235 (by decide) ?_
            obtain ⟨u4, hu4, hf⟩ := z_b hf
            have hPc := zP_fst hP
            have hDc := zD_fst hD
            have hKc := hKa
            refine z_lai (va_runV (As := [.int (xs (x3 + (1 : Int32)).toNatClampNeg), .int (xs (x3 + (nI 2)).toNatClampNeg), .long (((xs (x3 + (nI 3)).toNatClampNeg).toInt64 <<< ((nI 32).toInt64 &&& 63)) ||| ((xs (x3 + (nI 4)).toNatClampNeg).toInt64 &&& (4294967295 : Int64))), .int (0 : Int32), .int (0 : Int32)]) (rest := []) ⟨hx, hb, hml, hown, hts⟩ (c_OS_stage l dC dI N a k zpaths_outer zpaths_count zsteps_targets zsteps_configurations zsteps_runs zsteps_opened zsteps_count zoutputs_contents zoutputs_makers zoutputs_executables zoutputs_lazies zstaged_contents zstaged_makers zstaged_executables zstaged_lazies zcached_contents zcached_count zholds_contents zholds_count zdirtyMarks_marks zdifferent (xs (x3 + (1 : Int32)).toNatClampNeg) (xs (x3 + (nI 2)).toNatClampNeg) (((xs (x3 + (nI 3)).toNatClampNeg).toInt64 <<< ((nI 32).toInt64 &&& 63)) ||| ((xs (x3 + (nI 4)).toNatClampNeg).toInt64 &&& (4294967295 : Int64))) (0 : Int32) (0 : Int32) hu4 H.size) (cwV 5 hts (zGV zsub_l k_1_181 k_1_182 k_1_183 k_1_1 kc_OS_stage) rfl rfl rfl (by decide +kernel) ⟨Nat.le_of_ble_eq_true rfl, Nat.le_of_ble_eq_true rfl⟩) ⟨z_bl, va_recv hKc hPc (ci := 6) (q0 := 0) rfl rfl, fun U hU hW => ⟨rfl, z_pre hN hKc hPc hDc U hU hW⟩⟩ rfl rfl hl.1 rfl (lv_room (Nat.le_of_ble_eq_true rfl)) d_L_law_236 ⟨Nat.le_of_ble_eq_true rfl, Nat.le_of_ble_eq_true rfl⟩) hP hD hS hA (fun H locs hP hD hS => ?_)
            refine lv_aload_n hx hb d_L_law_239 rfl (lv_at hl 2 rfl) ?_
            refine lv_aload_n hx hb d_L_law_240 rfl (lv_at hl 0 rfl) ?_
            refine lv_iload_n hx hb d_L_law_241 rfl (lv_at hl 3 rfl) ?_
            refine lv_iconst (v := (1 : Int32)) hx hb d_L_law_242 (by decide) ?_
            refine lv_iadd hx hb d_L_law_243 ?_
            obtain ⟨g24, hf⟩ := z_gz hf
            refine va_sld hx hb hX hbl hbA hS g24 d_L_law_244 ?_
            refine lv_aload_n hx hb d_L_law_245 rfl (lv_at hl 0 rfl) ?_
            refine lv_iload_n hx hb d_L_law_246 rfl (lv_at hl 3 rfl) ?_
            refine lv_iconst (v := (nI 2)) hx hb d_L_law_247 (by decide) ?_
            refine lv_iadd hx hb d_L_law_248 ?_
            obtain ⟨g25, hf⟩ := z_gz hf
            refine va_sld hx hb hX hbl hbA hS g25 d_L_law_249 ?_
            refine lv_aload_n hx hb d_L_law_250 rfl (lv_at hl 0 rfl) ?_
            refine lv_iload_n hx hb d_L_law_251 rfl (lv_at hl 3 rfl) ?_
            refine lv_iconst (v := (nI 3)) hx hb d_L_law_252 (by decide) ?_
            refine lv_iadd hx hb d_L_law_253 ?_
            obtain ⟨g26, hf⟩ := z_gz hf
            refine va_sld hx hb hX hbl hbA hS g26 d_L_law_254 ?_
            refine lv_i2l (v := (xs (x3 + (nI 3)).toNatClampNeg).toInt64) hx hb d_L_law_255 rfl ?_
            refine lv_bipush (v := (nI 32)) hx hb d_L_law_256 (by decide) ?_
            refine lv_lshl (v := ((xs (x3 + (nI 3)).toNatClampNeg).toInt64 <<< ((nI 32).toInt64 &&& 63))) hx hb d_L_law_258 rfl ?_
            refine lv_aload_n hx hb d_L_law_259 rfl (lv_at hl 0 rfl) ?_
            refine lv_iload_n hx hb d_L_law_260 rfl (lv_at hl 3 rfl) ?_
            refine lv_iconst (v := (nI 4)) hx hb d_L_law_261 (by decide) ?_
            refine lv_iadd hx hb d_L_law_262 ?_
            obtain ⟨g27, hf⟩ := z_gz hf
            refine va_sld hx hb hX hbl hbA hS g27 d_L_law_263 ?_
            refine lv_i2l (v := (xs (x3 + (nI 4)).toNatClampNeg).toInt64) hx hb d_L_law_264 rfl ?_
            refine lv_ldc2 (v := 4294967295) hx hb hown (hts _ (zW_in k_3_109)) d_L_law_265 ?_
            refine lv_land hx hb d_L_law_268 ?_
            refine lv_lor hx hb d_L_law_269 ?_
            refine lv_aload_n hx hb d_L_law_270 rfl (lv_at hl 0 rfl) ?_
            refine lv_iload_n hx hb d_L_law_271 rfl (lv_at hl 3 rfl) ?_
            refine lv_iconst (v := (nI 5)) hx hb d_L_law_272 (by decide) ?_
            refine lv_iadd hx hb d_L_law_273 ?_
            obtain ⟨g28, hf⟩ := z_gz hf
            refine va_sld hx hb hX hbl hbA hS g28 d_L_law_274 ?_
            refine lv_if_eq (tgt := 282) hx hb d_L_law_275 (by decide) (fun c29 => ?_) (fun c29 => absurd c21 c29)
            refine lv_iconst (v := (0 : Int32)) hx hb d_L_law_282 (by decide) ?_
            refine lv_aload_n hx hb d_L_law_283 rfl (lv_at hl 0 rfl) ?_
            refine lv_iload_n hx hb d_L_law_284 rfl (lv_at hl 3 rfl) ?_
            refine lv_bipush (v := (nI 6)) hx hb d_L_law_285 (by decide) ?_
            refine lv_iadd hx hb d_L_law_287 ?_
            obtain ⟨g30, hf⟩ := z_gz hf
            refine va_sld hx hb hX hbl hbA hS g30 d_L_law_288 ?_
            refine lv_if_eq (tgt := 296) hx hb d_L_law_289 (by decide) (fun c31 => ?_) (fun c31 => absurd c23 c31)
            refine lv_iconst (v := (0 : Int32)) hx hb d_L_law_296 (by decide) ?_
            obtain ⟨u5, hu5, hf⟩ := z_b hf
            have hPc := zP_end hP
            have hDc := zD_end hD
            have hKc := hKb
            refine z_lbi (va_runV (As := [.int (xs (x3 + (1 : Int32)).toNatClampNeg), .int (xs (x3 + (nI 2)).toNatClampNeg), .long (((xs (x3 + (nI 3)).toNatClampNeg).toInt64 <<< ((nI 32).toInt64 &&& 63)) ||| ((xs (x3 + (nI 4)).toNatClampNeg).toInt64 &&& (4294967295 : Int64))), .int (0 : Int32), .int (0 : Int32)]) (rest := [.int u4.1]) ⟨hx, hb, hml, hown, hts⟩ (c_MO_stage l dC dI N ao ko mzpaths mzsteps mzcached mzholds mzinside mzowner mzmaker mzcontent mzruns mzisThere mztarget mzplace mzrun mzstaged mzisOpen mzstagedAt mzstagedContent mzstagedRuns mzstagedLazy mzisDirty mzcache mzhold mzmet mzrow (xs (x3 + (1 : Int32)).toNatClampNeg) (xs (x3 + (nI 2)).toNatClampNeg) (((xs (x3 + (nI 3)).toNatClampNeg).toInt64 <<< ((nI 32).toInt64 &&& 63)) ||| ((xs (x3 + (nI 4)).toNatClampNeg).toInt64 &&& (4294967295 : Int64))) (0 : Int32) (0 : Int32) hu5 H.size) (cwV 5 hts (zGV zsub_l k_3_9 k_3_10 k_3_11 k_1_8 kc_MO_stage) rfl rfl rfl (by decide +kernel) ⟨Nat.le_of_ble_eq_true rfl, Nat.le_of_ble_eq_true rfl⟩) ⟨z_bl, va_recv hKc hPc (ci := 7) (q0 := 0) rfl rfl, fun U hU hW => ⟨rfl, z_pre hN hKc hPc hDc U hU hW⟩⟩ rfl rfl hl.1 rfl (lv_room (Nat.le_of_ble_eq_true rfl)) d_L_law_297 ⟨Nat.le_of_ble_eq_true rfl, Nat.le_of_ble_eq_true rfl⟩) hP hD hS hA (fun H locs hP hD hS => ?_)
            refine lv_icmp_eq (tgt := 778) hx hb d_L_law_300 (by decide) (fun c32 => ?_) (fun c32 => ?_)
            · have hf := z_t c32 hf
              refine lv_iinc (v := (x3 + (nI 7))) (lv' := [(3, .int (x3 + (nI 7))), (0, .ref b), (1, .ref (a 0)), (2, .ref (ao 0))]) hx hb d_L_law_778 hl (k := 3) rfl rfl (by decide) rfl (fun ls hl => ?_)
              refine lv_goto (tgt := 18) hx hb d_L_law_781 (by decide) ?_
              exact ih zpaths_outer zpaths_count zsteps_targets zsteps_configurations zsteps_runs zsteps_opened zsteps_count zoutputs_contents zoutputs_makers zoutputs_executables zoutputs_lazies u4.2.1 u4.2.2.1 u4.2.2.2.1 u4.2.2.2.2 zcached_contents zcached_count zholds_contents zholds_count zdirtyMarks_marks zdifferent mzpaths mzsteps mzcached mzholds mzinside mzowner mzmaker mzcontent mzruns mzisThere mztarget mzplace mzrun u5.2.1 mzisOpen u5.2.2.1 u5.2.2.2.1 u5.2.2.2.2.1 u5.2.2.2.2.2 mzisDirty mzcache mzhold mzmet mzrow (x3 + (nI 7)) hf H locs ls hP hD hS (lv_sub hl [1, 2, 3, 0] rfl)
            · have hf := z_f c32 hf
              refine lv_iconst (v := (0 : Int32)) hx hb d_L_law_303 (by decide) ?_
              exact absurd (Option.some.inj hf) (by decide)
          · have hf := z_f c23 hf
            refine lv_iconst (v := (1 : Int32)) hx hb d_L_law_231 (by decide) ?_
            refine lv_goto (tgt := 236) hx hb d_L_law_232 (by decide) ?_
            obtain ⟨u6, hu6, hf⟩ := z_b hf
            have hPc := zP_fst hP
            have hDc := zD_fst hD
            have hKc := hKa
            refine z_lai (va_runV (As := [.int (xs (x3 + (1 : Int32)).toNatClampNeg), .int (xs (x3 + (nI 2)).toNatClampNeg), .long (((xs (x3 + (nI 3)).toNatClampNeg).toInt64 <<< ((nI 32).toInt64 &&& 63)) ||| ((xs (x3 + (nI 4)).toNatClampNeg).toInt64 &&& (4294967295 : Int64))), .int (0 : Int32), .int (1 : Int32)]) (rest := []) ⟨hx, hb, hml, hown, hts⟩ (c_OS_stage l dC dI N a k zpaths_outer zpaths_count zsteps_targets zsteps_configurations zsteps_runs zsteps_opened zsteps_count zoutputs_contents zoutputs_makers zoutputs_executables zoutputs_lazies zstaged_contents zstaged_makers zstaged_executables zstaged_lazies zcached_contents zcached_count zholds_contents zholds_count zdirtyMarks_marks zdifferent (xs (x3 + (1 : Int32)).toNatClampNeg) (xs (x3 + (nI 2)).toNatClampNeg) (((xs (x3 + (nI 3)).toNatClampNeg).toInt64 <<< ((nI 32).toInt64 &&& 63)) ||| ((xs (x3 + (nI 4)).toNatClampNeg).toInt64 &&& (4294967295 : Int64))) (0 : Int32) (1 : Int32) hu6 H.size) (cwV 5 hts (zGV zsub_l k_1_181 k_1_182 k_1_183 k_1_1 kc_OS_stage) rfl rfl rfl (by decide +kernel) ⟨Nat.le_of_ble_eq_true rfl, Nat.le_of_ble_eq_true rfl⟩) ⟨z_bl, va_recv hKc hPc (ci := 6) (q0 := 0) rfl rfl, fun U hU hW => ⟨rfl, z_pre hN hKc hPc hDc U hU hW⟩⟩ rfl rfl hl.1 rfl (lv_room (Nat.le_of_ble_eq_true rfl)) d_L_law_236 ⟨Nat.le_of_ble_eq_true rfl, Nat.le_of_ble_eq_true rfl⟩) hP hD hS hA (fun H locs hP hD hS => ?_)
            refine lv_aload_n hx hb d_L_law_239 rfl (lv_at hl 2 rfl) ?_
            refine lv_aload_n hx hb d_L_law_240 rfl (lv_at hl 0 rfl) ?_
            refine lv_iload_n hx hb d_L_law_241 rfl (lv_at hl 3 rfl) ?_
            refine lv_iconst (v := (1 : Int32)) hx hb d_L_law_242 (by decide) ?_
            refine lv_iadd hx hb d_L_law_243 ?_
            obtain ⟨g33, hf⟩ := z_gz hf
            refine va_sld hx hb hX hbl hbA hS g33 d_L_law_244 ?_
            refine lv_aload_n hx hb d_L_law_245 rfl (lv_at hl 0 rfl) ?_
            refine lv_iload_n hx hb d_L_law_246 rfl (lv_at hl 3 rfl) ?_
            refine lv_iconst (v := (nI 2)) hx hb d_L_law_247 (by decide) ?_
            refine lv_iadd hx hb d_L_law_248 ?_
            obtain ⟨g34, hf⟩ := z_gz hf
            refine va_sld hx hb hX hbl hbA hS g34 d_L_law_249 ?_
            refine lv_aload_n hx hb d_L_law_250 rfl (lv_at hl 0 rfl) ?_
            refine lv_iload_n hx hb d_L_law_251 rfl (lv_at hl 3 rfl) ?_
            refine lv_iconst (v := (nI 3)) hx hb d_L_law_252 (by decide) ?_
            refine lv_iadd hx hb d_L_law_253 ?_
            obtain ⟨g35, hf⟩ := z_gz hf
            refine va_sld hx hb hX hbl hbA hS g35 d_L_law_254 ?_
            refine lv_i2l (v := (xs (x3 + (nI 3)).toNatClampNeg).toInt64) hx hb d_L_law_255 rfl ?_
            refine lv_bipush (v := (nI 32)) hx hb d_L_law_256 (by decide) ?_
            refine lv_lshl (v := ((xs (x3 + (nI 3)).toNatClampNeg).toInt64 <<< ((nI 32).toInt64 &&& 63))) hx hb d_L_law_258 rfl ?_
            refine lv_aload_n hx hb d_L_law_259 rfl (lv_at hl 0 rfl) ?_
            refine lv_iload_n hx hb d_L_law_260 rfl (lv_at hl 3 rfl) ?_
            refine lv_iconst (v := (nI 4)) hx hb d_L_law_261 (by decide) ?_
            refine lv_iadd hx hb d_L_law_262 ?_
            obtain ⟨g36, hf⟩ := z_gz hf
            refine va_sld hx hb hX hbl hbA hS g36 d_L_law_263 ?_
            refine lv_i2l (v := (xs (x3 + (nI 4)).toNatClampNeg).toInt64) hx hb d_L_law_264 rfl ?_
            refine lv_ldc2 (v := 4294967295) hx hb hown (hts _ (zW_in k_3_109)) d_L_law_265 ?_
            refine lv_land hx hb d_L_law_268 ?_
            refine lv_lor hx hb d_L_law_269 ?_
            refine lv_aload_n hx hb d_L_law_270 rfl (lv_at hl 0 rfl) ?_
            refine lv_iload_n hx hb d_L_law_271 rfl (lv_at hl 3 rfl) ?_
            refine lv_iconst (v := (nI 5)) hx hb d_L_law_272 (by decide) ?_
            refine lv_iadd hx hb d_L_law_273 ?_
            obtain ⟨g37, hf⟩ := z_gz hf
            refine va_sld hx hb hX hbl hbA hS g37 d_L_law_274 ?_
            refine lv_if_eq (tgt := 282) hx hb d_L_law_275 (by decide) (fun c38 => ?_) (fun c38 => absurd c21 c38)
            refine lv_iconst (v := (0 : Int32)) hx hb d_L_law_282 (by decide) ?_
            refine lv_aload_n hx hb d_L_law_283 rfl (lv_at hl 0 rfl) ?_
            refine lv_iload_n hx hb d_L_law_284 rfl (lv_at hl 3 rfl) ?_
            refine lv_bipush (v := (nI 6)) hx hb d_L_law_285 (by decide) ?_
            refine lv_iadd hx hb d_L_law_287 ?_
            obtain ⟨g39, hf⟩ := z_gz hf
            refine va_sld hx hb hX hbl hbA hS g39 d_L_law_288 ?_
            refine lv_if_eq (tgt := 296) hx hb d_L_law_289 (by decide) (fun c40 => absurd c40 c23) (fun c40 => ?_)
            refine lv_iconst (v := (1 : Int32)) hx hb d_L_law_292 (by decide) ?_
            refine lv_goto (tgt := 297) hx hb d_L_law_293 (by decide) ?_
            obtain ⟨u7, hu7, hf⟩ := z_b hf
            have hPc := zP_end hP
            have hDc := zD_end hD
            have hKc := hKb
            refine z_lbi (va_runV (As := [.int (xs (x3 + (1 : Int32)).toNatClampNeg), .int (xs (x3 + (nI 2)).toNatClampNeg), .long (((xs (x3 + (nI 3)).toNatClampNeg).toInt64 <<< ((nI 32).toInt64 &&& 63)) ||| ((xs (x3 + (nI 4)).toNatClampNeg).toInt64 &&& (4294967295 : Int64))), .int (0 : Int32), .int (1 : Int32)]) (rest := [.int u6.1]) ⟨hx, hb, hml, hown, hts⟩ (c_MO_stage l dC dI N ao ko mzpaths mzsteps mzcached mzholds mzinside mzowner mzmaker mzcontent mzruns mzisThere mztarget mzplace mzrun mzstaged mzisOpen mzstagedAt mzstagedContent mzstagedRuns mzstagedLazy mzisDirty mzcache mzhold mzmet mzrow (xs (x3 + (1 : Int32)).toNatClampNeg) (xs (x3 + (nI 2)).toNatClampNeg) (((xs (x3 + (nI 3)).toNatClampNeg).toInt64 <<< ((nI 32).toInt64 &&& 63)) ||| ((xs (x3 + (nI 4)).toNatClampNeg).toInt64 &&& (4294967295 : Int64))) (0 : Int32) (1 : Int32) hu7 H.size) (cwV 5 hts (zGV zsub_l k_3_9 k_3_10 k_3_11 k_1_8 kc_MO_stage) rfl rfl rfl (by decide +kernel) ⟨Nat.le_of_ble_eq_true rfl, Nat.le_of_ble_eq_true rfl⟩) ⟨z_bl, va_recv hKc hPc (ci := 7) (q0 := 0) rfl rfl, fun U hU hW => ⟨rfl, z_pre hN hKc hPc hDc U hU hW⟩⟩ rfl rfl hl.1 rfl (lv_room (Nat.le_of_ble_eq_true rfl)) d_L_law_297 ⟨Nat.le_of_ble_eq_true rfl, Nat.le_of_ble_eq_true rfl⟩) hP hD hS hA (fun H locs hP hD hS => ?_)
            refine lv_icmp_eq (tgt := 778) hx hb d_L_law_300 (by decide) (fun c41 => ?_) (fun c41 => ?_)
            · have hf := z_t c41 hf
              refine lv_iinc (v := (x3 + (nI 7))) (lv' := [(3, .int (x3 + (nI 7))), (0, .ref b), (1, .ref (a 0)), (2, .ref (ao 0))]) hx hb d_L_law_778 hl (k := 3) rfl rfl (by decide) rfl (fun ls hl => ?_)
              refine lv_goto (tgt := 18) hx hb d_L_law_781 (by decide) ?_
              exact ih zpaths_outer zpaths_count zsteps_targets zsteps_configurations zsteps_runs zsteps_opened zsteps_count zoutputs_contents zoutputs_makers zoutputs_executables zoutputs_lazies u6.2.1 u6.2.2.1 u6.2.2.2.1 u6.2.2.2.2 zcached_contents zcached_count zholds_contents zholds_count zdirtyMarks_marks zdifferent mzpaths mzsteps mzcached mzholds mzinside mzowner mzmaker mzcontent mzruns mzisThere mztarget mzplace mzrun u7.2.1 mzisOpen u7.2.2.1 u7.2.2.2.1 u7.2.2.2.2.1 u7.2.2.2.2.2 mzisDirty mzcache mzhold mzmet mzrow (x3 + (nI 7)) hf H locs ls hP hD hS (lv_sub hl [1, 2, 3, 0] rfl)
            · have hf := z_f c41 hf
              refine lv_iconst (v := (0 : Int32)) hx hb d_L_law_303 (by decide) ?_
              exact absurd (Option.some.inj hf) (by decide)
        · have hf := z_f c21 hf
          refine lv_iconst (v := (1 : Int32)) hx hb d_L_law_217 (by decide) ?_
          refine lv_goto (tgt := 222) hx hb d_L_law_218 (by decide) ?_
          refine lv_aload_n hx hb d_L_law_222 rfl (lv_at hl 0 rfl) ?_
          refine lv_iload_n hx hb d_L_law_223 rfl (lv_at hl 3 rfl) ?_
          refine lv_bipush (v := (nI 6)) hx hb d_L_law_224 (by decide) ?_
          refine lv_iadd hx hb d_L_law_226 ?_
          obtain ⟨g42, hf⟩ := z_gz hf
          refine va_sld hx hb hX hbl hbA hS g42 d_L_law_227 ?_
          refine lv_if_eq (tgt := 235) hx hb d_L_law_228 (by decide) (fun c43 => ?_) (fun c43 => ?_)
          · have hf := z_t c43 hf
            refine lv_iconst (v := (0 : Int32)) hx hb d_L_law_235 (by decide) ?_
            obtain ⟨u8, hu8, hf⟩ := z_b hf
            have hPc := zP_fst hP
            have hDc := zD_fst hD
            have hKc := hKa
            refine z_lai (va_runV (As := [.int (xs (x3 + (1 : Int32)).toNatClampNeg), .int (xs (x3 + (nI 2)).toNatClampNeg), .long (((xs (x3 + (nI 3)).toNatClampNeg).toInt64 <<< ((nI 32).toInt64 &&& 63)) ||| ((xs (x3 + (nI 4)).toNatClampNeg).toInt64 &&& (4294967295 : Int64))), .int (1 : Int32), .int (0 : Int32)]) (rest := []) ⟨hx, hb, hml, hown, hts⟩ (c_OS_stage l dC dI N a k zpaths_outer zpaths_count zsteps_targets zsteps_configurations zsteps_runs zsteps_opened zsteps_count zoutputs_contents zoutputs_makers zoutputs_executables zoutputs_lazies zstaged_contents zstaged_makers zstaged_executables zstaged_lazies zcached_contents zcached_count zholds_contents zholds_count zdirtyMarks_marks zdifferent (xs (x3 + (1 : Int32)).toNatClampNeg) (xs (x3 + (nI 2)).toNatClampNeg) (((xs (x3 + (nI 3)).toNatClampNeg).toInt64 <<< ((nI 32).toInt64 &&& 63)) ||| ((xs (x3 + (nI 4)).toNatClampNeg).toInt64 &&& (4294967295 : Int64))) (1 : Int32) (0 : Int32) hu8 H.size) (cwV 5 hts (zGV zsub_l k_1_181 k_1_182 k_1_183 k_1_1 kc_OS_stage) rfl rfl rfl (by decide +kernel) ⟨Nat.le_of_ble_eq_true rfl, Nat.le_of_ble_eq_true rfl⟩) ⟨z_bl, va_recv hKc hPc (ci := 6) (q0 := 0) rfl rfl, fun U hU hW => ⟨rfl, z_pre hN hKc hPc hDc U hU hW⟩⟩ rfl rfl hl.1 rfl (lv_room (Nat.le_of_ble_eq_true rfl)) d_L_law_236 ⟨Nat.le_of_ble_eq_true rfl, Nat.le_of_ble_eq_true rfl⟩) hP hD hS hA (fun H locs hP hD hS => ?_)
            refine lv_aload_n hx hb d_L_law_239 rfl (lv_at hl 2 rfl) ?_
            refine lv_aload_n hx hb d_L_law_240 rfl (lv_at hl 0 rfl) ?_
            refine lv_iload_n hx hb d_L_law_241 rfl (lv_at hl 3 rfl) ?_
            refine lv_iconst (v := (1 : Int32)) hx hb d_L_law_242 (by decide) ?_
            refine lv_iadd hx hb d_L_law_243 ?_
            obtain ⟨g44, hf⟩ := z_gz hf
            refine va_sld hx hb hX hbl hbA hS g44 d_L_law_244 ?_
            refine lv_aload_n hx hb d_L_law_245 rfl (lv_at hl 0 rfl) ?_
            refine lv_iload_n hx hb d_L_law_246 rfl (lv_at hl 3 rfl) ?_
            refine lv_iconst (v := (nI 2)) hx hb d_L_law_247 (by decide) ?_
            refine lv_iadd hx hb d_L_law_248 ?_
            obtain ⟨g45, hf⟩ := z_gz hf
            refine va_sld hx hb hX hbl hbA hS g45 d_L_law_249 ?_
            refine lv_aload_n hx hb d_L_law_250 rfl (lv_at hl 0 rfl) ?_
            refine lv_iload_n hx hb d_L_law_251 rfl (lv_at hl 3 rfl) ?_
            refine lv_iconst (v := (nI 3)) hx hb d_L_law_252 (by decide) ?_
            refine lv_iadd hx hb d_L_law_253 ?_
            obtain ⟨g46, hf⟩ := z_gz hf
            refine va_sld hx hb hX hbl hbA hS g46 d_L_law_254 ?_
            refine lv_i2l (v := (xs (x3 + (nI 3)).toNatClampNeg).toInt64) hx hb d_L_law_255 rfl ?_
            refine lv_bipush (v := (nI 32)) hx hb d_L_law_256 (by decide) ?_
            refine lv_lshl (v := ((xs (x3 + (nI 3)).toNatClampNeg).toInt64 <<< ((nI 32).toInt64 &&& 63))) hx hb d_L_law_258 rfl ?_
            refine lv_aload_n hx hb d_L_law_259 rfl (lv_at hl 0 rfl) ?_
            refine lv_iload_n hx hb d_L_law_260 rfl (lv_at hl 3 rfl) ?_
            refine lv_iconst (v := (nI 4)) hx hb d_L_law_261 (by decide) ?_
            refine lv_iadd hx hb d_L_law_262 ?_
            obtain ⟨g47, hf⟩ := z_gz hf
            refine va_sld hx hb hX hbl hbA hS g47 d_L_law_263 ?_
            refine lv_i2l (v := (xs (x3 + (nI 4)).toNatClampNeg).toInt64) hx hb d_L_law_264 rfl ?_
            refine lv_ldc2 (v := 4294967295) hx hb hown (hts _ (zW_in k_3_109)) d_L_law_265 ?_
            refine lv_land hx hb d_L_law_268 ?_
            refine lv_lor hx hb d_L_law_269 ?_
            refine lv_aload_n hx hb d_L_law_270 rfl (lv_at hl 0 rfl) ?_
            refine lv_iload_n hx hb d_L_law_271 rfl (lv_at hl 3 rfl) ?_
            refine lv_iconst (v := (nI 5)) hx hb d_L_law_272 (by decide) ?_
            refine lv_iadd hx hb d_L_law_273 ?_
            obtain ⟨g48, hf⟩ := z_gz hf
            refine va_sld hx hb hX hbl hbA hS g48 d_L_law_274 ?_
            refine lv_if_eq (tgt := 282) hx hb d_L_law_275 (by decide) (fun c49 => absurd c49 c21) (fun c49 => ?_)
            refine lv_iconst (v := (1 : Int32)) hx hb d_L_law_278 (by decide) ?_
            refine lv_goto (tgt := 283) hx hb d_L_law_279 (by decide) ?_
            refine lv_aload_n hx hb d_L_law_283 rfl (lv_at hl 0 rfl) ?_
            refine lv_iload_n hx hb d_L_law_284 rfl (lv_at hl 3 rfl) ?_
            refine lv_bipush (v := (nI 6)) hx hb d_L_law_285 (by decide) ?_
            refine lv_iadd hx hb d_L_law_287 ?_
            obtain ⟨g50, hf⟩ := z_gz hf
            refine va_sld hx hb hX hbl hbA hS g50 d_L_law_288 ?_
            refine lv_if_eq (tgt := 296) hx hb d_L_law_289 (by decide) (fun c51 => ?_) (fun c51 => absurd c43 c51)
            refine lv_iconst (v := (0 : Int32)) hx hb d_L_law_296 (by decide) ?_
            obtain ⟨u9, hu9, hf⟩ := z_b hf
            have hPc := zP_end hP
            have hDc := zD_end hD
            have hKc := hKb
            refine z_lbi (va_runV (As := [.int (xs (x3 + (1 : Int32)).toNatClampNeg), .int (xs (x3 + (nI 2)).toNatClampNeg), .long (((xs (x3 + (nI 3)).toNatClampNeg).toInt64 <<< ((nI 32).toInt64 &&& 63)) ||| ((xs (x3 + (nI 4)).toNatClampNeg).toInt64 &&& (4294967295 : Int64))), .int (1 : Int32), .int (0 : Int32)]) (rest := [.int u8.1]) ⟨hx, hb, hml, hown, hts⟩ (c_MO_stage l dC dI N ao ko mzpaths mzsteps mzcached mzholds mzinside mzowner mzmaker mzcontent mzruns mzisThere mztarget mzplace mzrun mzstaged mzisOpen mzstagedAt mzstagedContent mzstagedRuns mzstagedLazy mzisDirty mzcache mzhold mzmet mzrow (xs (x3 + (1 : Int32)).toNatClampNeg) (xs (x3 + (nI 2)).toNatClampNeg) (((xs (x3 + (nI 3)).toNatClampNeg).toInt64 <<< ((nI 32).toInt64 &&& 63)) ||| ((xs (x3 + (nI 4)).toNatClampNeg).toInt64 &&& (4294967295 : Int64))) (1 : Int32) (0 : Int32) hu9 H.size) (cwV 5 hts (zGV zsub_l k_3_9 k_3_10 k_3_11 k_1_8 kc_MO_stage) rfl rfl rfl (by decide +kernel) ⟨Nat.le_of_ble_eq_true rfl, Nat.le_of_ble_eq_true rfl⟩) ⟨z_bl, va_recv hKc hPc (ci := 7) (q0 := 0) rfl rfl, fun U hU hW => ⟨rfl, z_pre hN hKc hPc hDc U hU hW⟩⟩ rfl rfl hl.1 rfl (lv_room (Nat.le_of_ble_eq_true rfl)) d_L_law_297 ⟨Nat.le_of_ble_eq_true rfl, Nat.le_of_ble_eq_true rfl⟩) hP hD hS hA (fun H locs hP hD hS => ?_)
            refine lv_icmp_eq (tgt := 778) hx hb d_L_law_300 (by decide) (fun c52 => ?_) (fun c52 => ?_)
            · have hf := z_t c52 hf
              refine lv_iinc (v := (x3 + (nI 7))) (lv' := [(3, .int (x3 + (nI 7))), (0, .ref b), (1, .ref (a 0)), (2, .ref (ao 0))]) hx hb d_L_law_778 hl (k := 3) rfl rfl (by decide) rfl (fun ls hl => ?_)
              refine lv_goto (tgt := 18) hx hb d_L_law_781 (by decide) ?_
              exact ih zpaths_outer zpaths_count zsteps_targets zsteps_configurations zsteps_runs zsteps_opened zsteps_count zoutputs_contents zoutputs_makers zoutputs_executables zoutputs_lazies u8.2.1 u8.2.2.1 u8.2.2.2.1 u8.2.2.2.2 zcached_contents zcached_count zholds_contents zholds_count zdirtyMarks_marks zdifferent mzpaths mzsteps mzcached mzholds mzinside mzowner mzmaker mzcontent mzruns mzisThere mztarget mzplace mzrun u9.2.1 mzisOpen u9.2.2.1 u9.2.2.2.1 u9.2.2.2.2.1 u9.2.2.2.2.2 mzisDirty mzcache mzhold mzmet mzrow (x3 + (nI 7)) hf H locs ls hP hD hS (lv_sub hl [1, 2, 3, 0] rfl)
            · have hf := z_f c52 hf
              refine lv_iconst (v := (0 : Int32)) hx hb d_L_law_303 (by decide) ?_
              exact absurd (Option.some.inj hf) (by decide)
          · have hf := z_f c43 hf
            refine lv_iconst (v := (1 : Int32)) hx hb d_L_law_231 (by decide) ?_
            refine lv_goto (tgt := 236) hx hb d_L_law_232 (by decide) ?_
            obtain ⟨u10, hu10, hf⟩ := z_b hf
            have hPc := zP_fst hP
            have hDc := zD_fst hD
            have hKc := hKa
            refine z_lai (va_runV (As := [.int (xs (x3 + (1 : Int32)).toNatClampNeg), .int (xs (x3 + (nI 2)).toNatClampNeg), .long (((xs (x3 + (nI 3)).toNatClampNeg).toInt64 <<< ((nI 32).toInt64 &&& 63)) ||| ((xs (x3 + (nI 4)).toNatClampNeg).toInt64 &&& (4294967295 : Int64))), .int (1 : Int32), .int (1 : Int32)]) (rest := []) ⟨hx, hb, hml, hown, hts⟩ (c_OS_stage l dC dI N a k zpaths_outer zpaths_count zsteps_targets zsteps_configurations zsteps_runs zsteps_opened zsteps_count zoutputs_contents zoutputs_makers zoutputs_executables zoutputs_lazies zstaged_contents zstaged_makers zstaged_executables zstaged_lazies zcached_contents zcached_count zholds_contents zholds_count zdirtyMarks_marks zdifferent (xs (x3 + (1 : Int32)).toNatClampNeg) (xs (x3 + (nI 2)).toNatClampNeg) (((xs (x3 + (nI 3)).toNatClampNeg).toInt64 <<< ((nI 32).toInt64 &&& 63)) ||| ((xs (x3 + (nI 4)).toNatClampNeg).toInt64 &&& (4294967295 : Int64))) (1 : Int32) (1 : Int32) hu10 H.size) (cwV 5 hts (zGV zsub_l k_1_181 k_1_182 k_1_183 k_1_1 kc_OS_stage) rfl rfl rfl (by decide +kernel) ⟨Nat.le_of_ble_eq_true rfl, Nat.le_of_ble_eq_true rfl⟩) ⟨z_bl, va_recv hKc hPc (ci := 6) (q0 := 0) rfl rfl, fun U hU hW => ⟨rfl, z_pre hN hKc hPc hDc U hU hW⟩⟩ rfl rfl hl.1 rfl (lv_room (Nat.le_of_ble_eq_true rfl)) d_L_law_236 ⟨Nat.le_of_ble_eq_true rfl, Nat.le_of_ble_eq_true rfl⟩) hP hD hS hA (fun H locs hP hD hS => ?_)
            refine lv_aload_n hx hb d_L_law_239 rfl (lv_at hl 2 rfl) ?_
            refine lv_aload_n hx hb d_L_law_240 rfl (lv_at hl 0 rfl) ?_
            refine lv_iload_n hx hb d_L_law_241 rfl (lv_at hl 3 rfl) ?_
            refine lv_iconst (v := (1 : Int32)) hx hb d_L_law_242 (by decide) ?_
            refine lv_iadd hx hb d_L_law_243 ?_
            obtain ⟨g53, hf⟩ := z_gz hf
            refine va_sld hx hb hX hbl hbA hS g53 d_L_law_244 ?_
            refine lv_aload_n hx hb d_L_law_245 rfl (lv_at hl 0 rfl) ?_
            refine lv_iload_n hx hb d_L_law_246 rfl (lv_at hl 3 rfl) ?_
            refine lv_iconst (v := (nI 2)) hx hb d_L_law_247 (by decide) ?_
            refine lv_iadd hx hb d_L_law_248 ?_
            obtain ⟨g54, hf⟩ := z_gz hf
            refine va_sld hx hb hX hbl hbA hS g54 d_L_law_249 ?_
            refine lv_aload_n hx hb d_L_law_250 rfl (lv_at hl 0 rfl) ?_
            refine lv_iload_n hx hb d_L_law_251 rfl (lv_at hl 3 rfl) ?_
            refine lv_iconst (v := (nI 3)) hx hb d_L_law_252 (by decide) ?_
            refine lv_iadd hx hb d_L_law_253 ?_
            obtain ⟨g55, hf⟩ := z_gz hf
            refine va_sld hx hb hX hbl hbA hS g55 d_L_law_254 ?_
            refine lv_i2l (v := (xs (x3 + (nI 3)).toNatClampNeg).toInt64) hx hb d_L_law_255 rfl ?_
            refine lv_bipush (v := (nI 32)) hx hb d_L_law_256 (by decide) ?_
            refine lv_lshl (v := ((xs (x3 + (nI 3)).toNatClampNeg).toInt64 <<< ((nI 32).toInt64 &&& 63))) hx hb d_L_law_258 rfl ?_
            refine lv_aload_n hx hb d_L_law_259 rfl (lv_at hl 0 rfl) ?_
            refine lv_iload_n hx hb d_L_law_260 rfl (lv_at hl 3 rfl) ?_
            refine lv_iconst (v := (nI 4)) hx hb d_L_law_261 (by decide) ?_
            refine lv_iadd hx hb d_L_law_262 ?_
            obtain ⟨g56, hf⟩ := z_gz hf
            refine va_sld hx hb hX hbl hbA hS g56 d_L_law_263 ?_
            refine lv_i2l (v := (xs (x3 + (nI 4)).toNatClampNeg).toInt64) hx hb d_L_law_264 rfl ?_
            refine lv_ldc2 (v := 4294967295) hx hb hown (hts _ (zW_in k_3_109)) d_L_law_265 ?_
            refine lv_land hx hb d_L_law_268 ?_
            refine lv_lor hx hb d_L_law_269 ?_
            refine lv_aload_n hx hb d_L_law_270 rfl (lv_at hl 0 rfl) ?_
            refine lv_iload_n hx hb d_L_law_271 rfl (lv_at hl 3 rfl) ?_
            refine lv_iconst (v := (nI 5)) hx hb d_L_law_272 (by decide) ?_
            refine lv_iadd hx hb d_L_law_273 ?_
            obtain ⟨g57, hf⟩ := z_gz hf
            refine va_sld hx hb hX hbl hbA hS g57 d_L_law_274 ?_
            refine lv_if_eq (tgt := 282) hx hb d_L_law_275 (by decide) (fun c58 => absurd c58 c21) (fun c58 => ?_)
            refine lv_iconst (v := (1 : Int32)) hx hb d_L_law_278 (by decide) ?_
            refine lv_goto (tgt := 283) hx hb d_L_law_279 (by decide) ?_
            refine lv_aload_n hx hb d_L_law_283 rfl (lv_at hl 0 rfl) ?_
            refine lv_iload_n hx hb d_L_law_284 rfl (lv_at hl 3 rfl) ?_
            refine lv_bipush (v := (nI 6)) hx hb d_L_law_285 (by decide) ?_
            refine lv_iadd hx hb d_L_law_287 ?_
            obtain ⟨g59, hf⟩ := z_gz hf
            refine va_sld hx hb hX hbl hbA hS g59 d_L_law_288 ?_
            refine lv_if_eq (tgt := 296) hx hb d_L_law_289 (by decide) (fun c60 => absurd c60 c43) (fun c60 => ?_)
            refine lv_iconst (v := (1 : Int32)) hx hb d_L_law_292 (by decide) ?_
            refine lv_goto (tgt := 297) hx hb d_L_law_293 (by decide) ?_
            obtain ⟨u11, hu11, hf⟩ := z_b hf
            have hPc := zP_end hP
            have hDc := zD_end hD
            have hKc := hKb
            refine z_lbi (va_runV (As := [.int (xs (x3 + (1 : Int32)).toNatClampNeg), .int (xs (x3 + (nI 2)).toNatClampNeg), .long (((xs (x3 + (nI 3)).toNatClampNeg).toInt64 <<< ((nI 32).toInt64 &&& 63)) ||| ((xs (x3 + (nI 4)).toNatClampNeg).toInt64 &&& (4294967295 : Int64))), .int (1 : Int32), .int (1 : Int32)]) (rest := [.int u10.1]) ⟨hx, hb, hml, hown, hts⟩ (c_MO_stage l dC dI N ao ko mzpaths mzsteps mzcached mzholds mzinside mzowner mzmaker mzcontent mzruns mzisThere mztarget mzplace mzrun mzstaged mzisOpen mzstagedAt mzstagedContent mzstagedRuns mzstagedLazy mzisDirty mzcache mzhold mzmet mzrow (xs (x3 + (1 : Int32)).toNatClampNeg) (xs (x3 + (nI 2)).toNatClampNeg) (((xs (x3 + (nI 3)).toNatClampNeg).toInt64 <<< ((nI 32).toInt64 &&& 63)) ||| ((xs (x3 + (nI 4)).toNatClampNeg).toInt64 &&& (4294967295 : Int64))) (1 : Int32) (1 : Int32) hu11 H.size) (cwV 5 hts (zGV zsub_l k_3_9 k_3_10 k_3_11 k_1_8 kc_MO_stage) rfl rfl rfl (by decide +kernel) ⟨Nat.le_of_ble_eq_true rfl, Nat.le_of_ble_eq_true rfl⟩) ⟨z_bl, va_recv hKc hPc (ci := 7) (q0 := 0) rfl rfl, fun U hU hW => ⟨rfl, z_pre hN hKc hPc hDc U hU hW⟩⟩ rfl rfl hl.1 rfl (lv_room (Nat.le_of_ble_eq_true rfl)) d_L_law_297 ⟨Nat.le_of_ble_eq_true rfl, Nat.le_of_ble_eq_true rfl⟩) hP hD hS hA (fun H locs hP hD hS => ?_)
            refine lv_icmp_eq (tgt := 778) hx hb d_L_law_300 (by decide) (fun c61 => ?_) (fun c61 => ?_)
            · have hf := z_t c61 hf
              refine lv_iinc (v := (x3 + (nI 7))) (lv' := [(3, .int (x3 + (nI 7))), (0, .ref b), (1, .ref (a 0)), (2, .ref (ao 0))]) hx hb d_L_law_778 hl (k := 3) rfl rfl (by decide) rfl (fun ls hl => ?_)
              refine lv_goto (tgt := 18) hx hb d_L_law_781 (by decide) ?_
              exact ih zpaths_outer zpaths_count zsteps_targets zsteps_configurations zsteps_runs zsteps_opened zsteps_count zoutputs_contents zoutputs_makers zoutputs_executables zoutputs_lazies u10.2.1 u10.2.2.1 u10.2.2.2.1 u10.2.2.2.2 zcached_contents zcached_count zholds_contents zholds_count zdirtyMarks_marks zdifferent mzpaths mzsteps mzcached mzholds mzinside mzowner mzmaker mzcontent mzruns mzisThere mztarget mzplace mzrun u11.2.1 mzisOpen u11.2.2.1 u11.2.2.2.1 u11.2.2.2.2.1 u11.2.2.2.2.2 mzisDirty mzcache mzhold mzmet mzrow (x3 + (nI 7)) hf H locs ls hP hD hS (lv_sub hl [1, 2, 3, 0] rfl)
            · have hf := z_f c61 hf
              refine lv_iconst (v := (0 : Int32)) hx hb d_L_law_303 (by decide) ?_
              exact absurd (Option.some.inj hf) (by decide)
      have hf := z_f c15 hf
      by_cases c62 : ((xs x3.toNatClampNeg) &&& (nI 15)) = 3
      · have hf := z_t c62 hf
        refine lv_tableIn (off := 272) (tgt := 305) hx hb d_L_law_33 (by rw [c62]; decide) (by rw [c62]; decide) (by rw [c62]; rfl) (by decide) ?_
        refine lv_aload_n hx hb d_L_law_305 rfl (lv_at hl 1 rfl) ?_
        refine lv_aload_n hx hb d_L_law_306 rfl (lv_at hl 0 rfl) ?_
        refine lv_iload_n hx hb d_L_law_307 rfl (lv_at hl 3 rfl) ?_
        refine lv_iconst (v := (1 : Int32)) hx hb d_L_law_308 (by decide) ?_
        refine lv_iadd hx hb d_L_law_309 ?_
        obtain ⟨g63, hf⟩ := z_gz hf
        refine va_sld hx hb hX hbl hbA hS g63 d_L_law_310 ?_
        refine lv_aload_n hx hb d_L_law_311 rfl (lv_at hl 0 rfl) ?_
        refine lv_iload_n hx hb d_L_law_312 rfl (lv_at hl 3 rfl) ?_
        refine lv_iconst (v := (nI 2)) hx hb d_L_law_313 (by decide) ?_
        refine lv_iadd hx hb d_L_law_314 ?_
        obtain ⟨g64, hf⟩ := z_gz hf
        refine va_sld hx hb hX hbl hbA hS g64 d_L_law_315 ?_
        refine lv_if_eq (tgt := 323) hx hb d_L_law_316 (by decide) (fun c65 => ?_) (fun c65 => ?_)
        · have hf := z_t c65 hf
          refine lv_iconst (v := (0 : Int32)) hx hb d_L_law_323 (by decide) ?_
          obtain ⟨u12, hu12, hf⟩ := z_b hf
          have hPc := zP_fst hP
          have hDc := zD_fst hD
          have hKc := hKa
          refine z_lai (va_runV (As := [.int (xs (x3 + (1 : Int32)).toNatClampNeg), .int (0 : Int32)]) (rest := []) ⟨hx, hb, hml, hown, hts⟩ (c_OS_end l dC dI N a k zpaths_outer zpaths_count zsteps_targets zsteps_configurations zsteps_runs zsteps_opened zsteps_count zoutputs_contents zoutputs_makers zoutputs_executables zoutputs_lazies zstaged_contents zstaged_makers zstaged_executables zstaged_lazies zcached_contents zcached_count zholds_contents zholds_count zdirtyMarks_marks zdifferent (xs (x3 + (1 : Int32)).toNatClampNeg) (0 : Int32) hu12 H.size) (cwV 2 hts (zGV zsub_l k_2_11 k_2_12 k_2_13 k_1_1 kc_OS_end) rfl rfl rfl (by decide +kernel) ⟨Nat.le_of_ble_eq_true rfl, Nat.le_of_ble_eq_true rfl⟩) ⟨z_bl, va_recv hKc hPc (ci := 6) (q0 := 0) rfl rfl, fun U hU hW => ⟨rfl, z_pre hN hKc hPc hDc U hU hW⟩⟩ rfl rfl hl.1 rfl (lv_room (Nat.le_of_ble_eq_true rfl)) d_L_law_324 ⟨Nat.le_of_ble_eq_true rfl, Nat.le_of_ble_eq_true rfl⟩) hP hD hS hA (fun H locs hP hD hS => ?_)
          refine lv_aload_n hx hb d_L_law_327 rfl (lv_at hl 2 rfl) ?_
          refine lv_aload_n hx hb d_L_law_328 rfl (lv_at hl 0 rfl) ?_
          refine lv_iload_n hx hb d_L_law_329 rfl (lv_at hl 3 rfl) ?_
          refine lv_iconst (v := (1 : Int32)) hx hb d_L_law_330 (by decide) ?_
          refine lv_iadd hx hb d_L_law_331 ?_
          obtain ⟨g66, hf⟩ := z_gz hf
          refine va_sld hx hb hX hbl hbA hS g66 d_L_law_332 ?_
          refine lv_aload_n hx hb d_L_law_333 rfl (lv_at hl 0 rfl) ?_
          refine lv_iload_n hx hb d_L_law_334 rfl (lv_at hl 3 rfl) ?_
          refine lv_iconst (v := (nI 2)) hx hb d_L_law_335 (by decide) ?_
          refine lv_iadd hx hb d_L_law_336 ?_
          obtain ⟨g67, hf⟩ := z_gz hf
          refine va_sld hx hb hX hbl hbA hS g67 d_L_law_337 ?_
          refine lv_if_eq (tgt := 345) hx hb d_L_law_338 (by decide) (fun c68 => ?_) (fun c68 => absurd c65 c68)
          refine lv_iconst (v := (0 : Int32)) hx hb d_L_law_345 (by decide) ?_
          obtain ⟨u13, hu13, hf⟩ := z_b hf
          have hPc := zP_end hP
          have hDc := zD_end hD
          have hKc := hKb
          refine z_lbi (va_runV (As := [.int (xs (x3 + (1 : Int32)).toNatClampNeg), .int (0 : Int32)]) (rest := [.int u12.1]) ⟨hx, hb, hml, hown, hts⟩ (c_MO_end l dC dI N ao ko mzpaths mzsteps mzcached mzholds mzinside mzowner mzmaker mzcontent mzruns mzisThere mztarget mzplace mzrun mzstaged mzisOpen mzstagedAt mzstagedContent mzstagedRuns mzstagedLazy mzisDirty mzcache mzhold mzmet mzrow (xs (x3 + (1 : Int32)).toNatClampNeg) (0 : Int32) hu13 H.size) (cwV 2 hts (zGV zsub_l k_3_41 k_3_42 k_3_43 k_1_8 kc_MO_end) rfl rfl rfl (by decide +kernel) ⟨Nat.le_of_ble_eq_true rfl, Nat.le_of_ble_eq_true rfl⟩) ⟨z_bl, va_recv hKc hPc (ci := 7) (q0 := 0) rfl rfl, fun U hU hW => ⟨rfl, z_pre hN hKc hPc hDc U hU hW⟩⟩ rfl rfl hl.1 rfl (lv_room (Nat.le_of_ble_eq_true rfl)) d_L_law_346 ⟨Nat.le_of_ble_eq_true rfl, Nat.le_of_ble_eq_true rfl⟩) hP hD hS hA (fun H locs hP hD hS => ?_)
          refine lv_icmp_eq (tgt := 778) hx hb d_L_law_349 (by decide) (fun c69 => ?_) (fun c69 => ?_)
          · have hf := z_t c69 hf
            refine lv_iinc (v := (x3 + (nI 7))) (lv' := [(3, .int (x3 + (nI 7))), (0, .ref b), (1, .ref (a 0)), (2, .ref (ao 0))]) hx hb d_L_law_778 hl (k := 3) rfl rfl (by decide) rfl (fun ls hl => ?_)
            refine lv_goto (tgt := 18) hx hb d_L_law_781 (by decide) ?_
            exact ih zpaths_outer zpaths_count zsteps_targets zsteps_configurations zsteps_runs u12.2.1 zsteps_count u12.2.2.1 u12.2.2.2.1 u12.2.2.2.2.1 u12.2.2.2.2.2.1 u12.2.2.2.2.2.2.1 zstaged_makers zstaged_executables zstaged_lazies zcached_contents zcached_count zholds_contents zholds_count u12.2.2.2.2.2.2.2 zdifferent mzpaths mzsteps mzcached mzholds mzinside u13.2.1 u13.2.2.1 u13.2.2.2.1 u13.2.2.2.2.1 u13.2.2.2.2.2.1 mztarget mzplace mzrun mzstaged u13.2.2.2.2.2.2.1 mzstagedAt mzstagedContent mzstagedRuns mzstagedLazy u13.2.2.2.2.2.2.2 mzcache mzhold mzmet mzrow (x3 + (nI 7)) hf H locs ls hP hD hS (lv_sub hl [1, 2, 3, 0] rfl)
          · have hf := z_f c69 hf
            refine lv_iconst (v := (0 : Int32)) hx hb d_L_law_352 (by decide) ?_
            exact absurd (Option.some.inj hf) (by decide)
        · have hf := z_f c65 hf
          refine lv_iconst (v := (1 : Int32)) hx hb d_L_law_319 (by decide) ?_
          refine lv_goto (tgt := 324) hx hb d_L_law_320 (by decide) ?_
          obtain ⟨u14, hu14, hf⟩ := z_b hf
          have hPc := zP_fst hP
          have hDc := zD_fst hD
          have hKc := hKa
          refine z_lai (va_runV (As := [.int (xs (x3 + (1 : Int32)).toNatClampNeg), .int (1 : Int32)]) (rest := []) ⟨hx, hb, hml, hown, hts⟩ (c_OS_end l dC dI N a k zpaths_outer zpaths_count zsteps_targets zsteps_configurations zsteps_runs zsteps_opened zsteps_count zoutputs_contents zoutputs_makers zoutputs_executables zoutputs_lazies zstaged_contents zstaged_makers zstaged_executables zstaged_lazies zcached_contents zcached_count zholds_contents zholds_count zdirtyMarks_marks zdifferent (xs (x3 + (1 : Int32)).toNatClampNeg) (1 : Int32) hu14 H.size) (cwV 2 hts (zGV zsub_l k_2_11 k_2_12 k_2_13 k_1_1 kc_OS_end) rfl rfl rfl (by decide +kernel) ⟨Nat.le_of_ble_eq_true rfl, Nat.le_of_ble_eq_true rfl⟩) ⟨z_bl, va_recv hKc hPc (ci := 6) (q0 := 0) rfl rfl, fun U hU hW => ⟨rfl, z_pre hN hKc hPc hDc U hU hW⟩⟩ rfl rfl hl.1 rfl (lv_room (Nat.le_of_ble_eq_true rfl)) d_L_law_324 ⟨Nat.le_of_ble_eq_true rfl, Nat.le_of_ble_eq_true rfl⟩) hP hD hS hA (fun H locs hP hD hS => ?_)
          refine lv_aload_n hx hb d_L_law_327 rfl (lv_at hl 2 rfl) ?_
          refine lv_aload_n hx hb d_L_law_328 rfl (lv_at hl 0 rfl) ?_
          refine lv_iload_n hx hb d_L_law_329 rfl (lv_at hl 3 rfl) ?_
          refine lv_iconst (v := (1 : Int32)) hx hb d_L_law_330 (by decide) ?_
          refine lv_iadd hx hb d_L_law_331 ?_
          obtain ⟨g70, hf⟩ := z_gz hf
          refine va_sld hx hb hX hbl hbA hS g70 d_L_law_332 ?_
          refine lv_aload_n hx hb d_L_law_333 rfl (lv_at hl 0 rfl) ?_
          refine lv_iload_n hx hb d_L_law_334 rfl (lv_at hl 3 rfl) ?_
          refine lv_iconst (v := (nI 2)) hx hb d_L_law_335 (by decide) ?_
          refine lv_iadd hx hb d_L_law_336 ?_
          obtain ⟨g71, hf⟩ := z_gz hf
          refine va_sld hx hb hX hbl hbA hS g71 d_L_law_337 ?_
          refine lv_if_eq (tgt := 345) hx hb d_L_law_338 (by decide) (fun c72 => absurd c72 c65) (fun c72 => ?_)
          refine lv_iconst (v := (1 : Int32)) hx hb d_L_law_341 (by decide) ?_
          refine lv_goto (tgt := 346) hx hb d_L_law_342 (by decide) ?_
          obtain ⟨u15, hu15, hf⟩ := z_b hf
          have hPc := zP_end hP
          have hDc := zD_end hD
          have hKc := hKb
          refine z_lbi (va_runV (As := [.int (xs (x3 + (1 : Int32)).toNatClampNeg), .int (1 : Int32)]) (rest := [.int u14.1]) ⟨hx, hb, hml, hown, hts⟩ (c_MO_end l dC dI N ao ko mzpaths mzsteps mzcached mzholds mzinside mzowner mzmaker mzcontent mzruns mzisThere mztarget mzplace mzrun mzstaged mzisOpen mzstagedAt mzstagedContent mzstagedRuns mzstagedLazy mzisDirty mzcache mzhold mzmet mzrow (xs (x3 + (1 : Int32)).toNatClampNeg) (1 : Int32) hu15 H.size) (cwV 2 hts (zGV zsub_l k_3_41 k_3_42 k_3_43 k_1_8 kc_MO_end) rfl rfl rfl (by decide +kernel) ⟨Nat.le_of_ble_eq_true rfl, Nat.le_of_ble_eq_true rfl⟩) ⟨z_bl, va_recv hKc hPc (ci := 7) (q0 := 0) rfl rfl, fun U hU hW => ⟨rfl, z_pre hN hKc hPc hDc U hU hW⟩⟩ rfl rfl hl.1 rfl (lv_room (Nat.le_of_ble_eq_true rfl)) d_L_law_346 ⟨Nat.le_of_ble_eq_true rfl, Nat.le_of_ble_eq_true rfl⟩) hP hD hS hA (fun H locs hP hD hS => ?_)
          refine lv_icmp_eq (tgt := 778) hx hb d_L_law_349 (by decide) (fun c73 => ?_) (fun c73 => ?_)
          · have hf := z_t c73 hf
            refine lv_iinc (v := (x3 + (nI 7))) (lv' := [(3, .int (x3 + (nI 7))), (0, .ref b), (1, .ref (a 0)), (2, .ref (ao 0))]) hx hb d_L_law_778 hl (k := 3) rfl rfl (by decide) rfl (fun ls hl => ?_)
            refine lv_goto (tgt := 18) hx hb d_L_law_781 (by decide) ?_
            exact ih zpaths_outer zpaths_count zsteps_targets zsteps_configurations zsteps_runs u14.2.1 zsteps_count u14.2.2.1 u14.2.2.2.1 u14.2.2.2.2.1 u14.2.2.2.2.2.1 u14.2.2.2.2.2.2.1 zstaged_makers zstaged_executables zstaged_lazies zcached_contents zcached_count zholds_contents zholds_count u14.2.2.2.2.2.2.2 zdifferent mzpaths mzsteps mzcached mzholds mzinside u15.2.1 u15.2.2.1 u15.2.2.2.1 u15.2.2.2.2.1 u15.2.2.2.2.2.1 mztarget mzplace mzrun mzstaged u15.2.2.2.2.2.2.1 mzstagedAt mzstagedContent mzstagedRuns mzstagedLazy u15.2.2.2.2.2.2.2 mzcache mzhold mzmet mzrow (x3 + (nI 7)) hf H locs ls hP hD hS (lv_sub hl [1, 2, 3, 0] rfl)
          · have hf := z_f c73 hf
            refine lv_iconst (v := (0 : Int32)) hx hb d_L_law_352 (by decide) ?_
            exact absurd (Option.some.inj hf) (by decide)
      have hf := z_f c62 hf
      by_cases c74 : ((xs x3.toNatClampNeg) &&& (nI 15)) = 4
      · have hf := z_t c74 hf
        refine lv_tableIn (off := 321) (tgt := 354) hx hb d_L_law_33 (by rw [c74]; decide) (by rw [c74]; decide) (by rw [c74]; rfl) (by decide) ?_
        refine lv_aload_n hx hb d_L_law_354 rfl (lv_at hl 1 rfl) ?_
        refine lv_aload_n hx hb d_L_law_355 rfl (lv_at hl 0 rfl) ?_
        refine lv_iload_n hx hb d_L_law_356 rfl (lv_at hl 3 rfl) ?_
        refine lv_iconst (v := (1 : Int32)) hx hb d_L_law_357 (by decide) ?_
        refine lv_iadd hx hb d_L_law_358 ?_
        obtain ⟨g75, hf⟩ := z_gz hf
        refine va_sld hx hb hX hbl hbA hS g75 d_L_law_359 ?_
        obtain ⟨u16, hu16, hf⟩ := z_b hf
        have hPc := zP_fst hP
        have hDc := zD_fst hD
        have hKc := hKa
        refine z_lai (va_runV (As := [.int (xs (x3 + (1 : Int32)).toNatClampNeg)]) (rest := []) ⟨hx, hb, hml, hown, hts⟩ (c_OS_abandon l dC dI N a k zpaths_outer zpaths_count zsteps_targets zsteps_configurations zsteps_runs zsteps_opened zsteps_count zoutputs_contents zoutputs_makers zoutputs_executables zoutputs_lazies zstaged_contents zstaged_makers zstaged_executables zstaged_lazies zcached_contents zcached_count zholds_contents zholds_count zdirtyMarks_marks zdifferent (xs (x3 + (1 : Int32)).toNatClampNeg) hu16 H.size) (cwV 1 hts (zGV zsub_l k_2_49 k_2_50 k_2_51 k_1_1 kc_OS_abandon) rfl rfl rfl (by decide +kernel) ⟨Nat.le_of_ble_eq_true rfl, Nat.le_of_ble_eq_true rfl⟩) ⟨z_bl, va_recv hKc hPc (ci := 6) (q0 := 0) rfl rfl, fun U hU hW => ⟨rfl, z_pre hN hKc hPc hDc U hU hW⟩⟩ rfl rfl hl.1 rfl (lv_room (Nat.le_of_ble_eq_true rfl)) d_L_law_360 ⟨Nat.le_of_ble_eq_true rfl, Nat.le_of_ble_eq_true rfl⟩) hP hD hS hA (fun H locs hP hD hS => ?_)
        refine lv_aload_n hx hb d_L_law_363 rfl (lv_at hl 2 rfl) ?_
        refine lv_aload_n hx hb d_L_law_364 rfl (lv_at hl 0 rfl) ?_
        refine lv_iload_n hx hb d_L_law_365 rfl (lv_at hl 3 rfl) ?_
        refine lv_iconst (v := (1 : Int32)) hx hb d_L_law_366 (by decide) ?_
        refine lv_iadd hx hb d_L_law_367 ?_
        obtain ⟨g76, hf⟩ := z_gz hf
        refine va_sld hx hb hX hbl hbA hS g76 d_L_law_368 ?_
        obtain ⟨u17, hu17, hf⟩ := z_b hf
        have hPc := zP_end hP
        have hDc := zD_end hD
        have hKc := hKb
        refine z_lbi (va_runV (As := [.int (xs (x3 + (1 : Int32)).toNatClampNeg)]) (rest := [.int u16.1]) ⟨hx, hb, hml, hown, hts⟩ (c_MO_abandon l dC dI N ao ko mzpaths mzsteps mzcached mzholds mzinside mzowner mzmaker mzcontent mzruns mzisThere mztarget mzplace mzrun mzstaged mzisOpen mzstagedAt mzstagedContent mzstagedRuns mzstagedLazy mzisDirty mzcache mzhold mzmet mzrow (xs (x3 + (1 : Int32)).toNatClampNeg) hu17 H.size) (cwV 1 hts (zGV zsub_l k_3_49 k_3_50 k_3_51 k_1_8 kc_MO_abandon) rfl rfl rfl (by decide +kernel) ⟨Nat.le_of_ble_eq_true rfl, Nat.le_of_ble_eq_true rfl⟩) ⟨z_bl, va_recv hKc hPc (ci := 7) (q0 := 0) rfl rfl, fun U hU hW => ⟨rfl, z_pre hN hKc hPc hDc U hU hW⟩⟩ rfl rfl hl.1 rfl (lv_room (Nat.le_of_ble_eq_true rfl)) d_L_law_369 ⟨Nat.le_of_ble_eq_true rfl, Nat.le_of_ble_eq_true rfl⟩) hP hD hS hA (fun H locs hP hD hS => ?_)
        refine lv_icmp_eq (tgt := 778) hx hb d_L_law_372 (by decide) (fun c77 => ?_) (fun c77 => ?_)
        · have hf := z_t c77 hf
          refine lv_iinc (v := (x3 + (nI 7))) (lv' := [(3, .int (x3 + (nI 7))), (0, .ref b), (1, .ref (a 0)), (2, .ref (ao 0))]) hx hb d_L_law_778 hl (k := 3) rfl rfl (by decide) rfl (fun ls hl => ?_)
          refine lv_goto (tgt := 18) hx hb d_L_law_781 (by decide) ?_
          exact ih zpaths_outer zpaths_count zsteps_targets zsteps_configurations zsteps_runs u16.2.1 zsteps_count zoutputs_contents zoutputs_makers zoutputs_executables zoutputs_lazies u16.2.2 zstaged_makers zstaged_executables zstaged_lazies zcached_contents zcached_count zholds_contents zholds_count zdirtyMarks_marks zdifferent mzpaths mzsteps mzcached mzholds mzinside mzowner mzmaker mzcontent mzruns mzisThere mztarget mzplace mzrun mzstaged u17.2 mzstagedAt mzstagedContent mzstagedRuns mzstagedLazy mzisDirty mzcache mzhold mzmet mzrow (x3 + (nI 7)) hf H locs ls hP hD hS (lv_sub hl [1, 2, 3, 0] rfl)
        · have hf := z_f c77 hf
          refine lv_iconst (v := (0 : Int32)) hx hb d_L_law_375 (by decide) ?_
          exact absurd (Option.some.inj hf) (by decide)
      have hf := z_f c74 hf
      by_cases c78 : ((xs x3.toNatClampNeg) &&& (nI 15)) = 5
      · have hf := z_t c78 hf
        refine lv_tableIn (off := 344) (tgt := 377) hx hb d_L_law_33 (by rw [c78]; decide) (by rw [c78]; decide) (by rw [c78]; rfl) (by decide) ?_
        refine lv_aload_n hx hb d_L_law_377 rfl (lv_at hl 1 rfl) ?_
        refine lv_aload_n hx hb d_L_law_378 rfl (lv_at hl 0 rfl) ?_
        refine lv_iload_n hx hb d_L_law_379 rfl (lv_at hl 3 rfl) ?_
        refine lv_iconst (v := (1 : Int32)) hx hb d_L_law_380 (by decide) ?_
        refine lv_iadd hx hb d_L_law_381 ?_
        obtain ⟨g79, hf⟩ := z_gz hf
        refine va_sld hx hb hX hbl hbA hS g79 d_L_law_382 ?_
        refine lv_i2l (v := (xs (x3 + (1 : Int32)).toNatClampNeg).toInt64) hx hb d_L_law_383 rfl ?_
        refine lv_bipush (v := (nI 32)) hx hb d_L_law_384 (by decide) ?_
        refine lv_lshl (v := ((xs (x3 + (1 : Int32)).toNatClampNeg).toInt64 <<< ((nI 32).toInt64 &&& 63))) hx hb d_L_law_386 rfl ?_
        refine lv_aload_n hx hb d_L_law_387 rfl (lv_at hl 0 rfl) ?_
        refine lv_iload_n hx hb d_L_law_388 rfl (lv_at hl 3 rfl) ?_
        refine lv_iconst (v := (nI 2)) hx hb d_L_law_389 (by decide) ?_
        refine lv_iadd hx hb d_L_law_390 ?_
        obtain ⟨g80, hf⟩ := z_gz hf
        refine va_sld hx hb hX hbl hbA hS g80 d_L_law_391 ?_
        refine lv_i2l (v := (xs (x3 + (nI 2)).toNatClampNeg).toInt64) hx hb d_L_law_392 rfl ?_
        refine lv_ldc2 (v := 4294967295) hx hb hown (hts _ (zW_in k_3_109)) d_L_law_393 ?_
        refine lv_land hx hb d_L_law_396 ?_
        refine lv_lor hx hb d_L_law_397 ?_
        refine lv_aload_n hx hb d_L_law_398 rfl (lv_at hl 0 rfl) ?_
        refine lv_iload_n hx hb d_L_law_399 rfl (lv_at hl 3 rfl) ?_
        refine lv_iconst (v := (nI 3)) hx hb d_L_law_400 (by decide) ?_
        refine lv_iadd hx hb d_L_law_401 ?_
        obtain ⟨g81, hf⟩ := z_gz hf
        refine va_sld hx hb hX hbl hbA hS g81 d_L_law_402 ?_
        refine lv_if_eq (tgt := 410) hx hb d_L_law_403 (by decide) (fun c82 => ?_) (fun c82 => ?_)
        · have hf := z_t c82 hf
          refine lv_iconst (v := (0 : Int32)) hx hb d_L_law_410 (by decide) ?_
          obtain ⟨u18, hu18, hf⟩ := z_b hf
          have hPc := zP_fst hP
          have hDc := zD_fst hD
          have hKc := hKa
          refine z_lai (va_runV (As := [.long (((xs (x3 + (1 : Int32)).toNatClampNeg).toInt64 <<< ((nI 32).toInt64 &&& 63)) ||| ((xs (x3 + (nI 2)).toNatClampNeg).toInt64 &&& (4294967295 : Int64))), .int (0 : Int32)]) (rest := []) ⟨hx, hb, hml, hown, hts⟩ (c_OS_cache l dC dI N a k zpaths_outer zpaths_count zsteps_targets zsteps_configurations zsteps_runs zsteps_opened zsteps_count zoutputs_contents zoutputs_makers zoutputs_executables zoutputs_lazies zstaged_contents zstaged_makers zstaged_executables zstaged_lazies zcached_contents zcached_count zholds_contents zholds_count zdirtyMarks_marks zdifferent (((xs (x3 + (1 : Int32)).toNatClampNeg).toInt64 <<< ((nI 32).toInt64 &&& 63)) ||| ((xs (x3 + (nI 2)).toNatClampNeg).toInt64 &&& (4294967295 : Int64))) (0 : Int32) hu18 H.size) (cwV 2 hts (zGV zsub_l k_2_57 k_2_58 k_2_59 k_1_1 kc_OS_cache) rfl rfl rfl (by decide +kernel) ⟨Nat.le_of_ble_eq_true rfl, Nat.le_of_ble_eq_true rfl⟩) ⟨z_bl, va_recv hKc hPc (ci := 6) (q0 := 0) rfl rfl, fun U hU hW => ⟨rfl, z_pre hN hKc hPc hDc U hU hW⟩⟩ rfl rfl hl.1 rfl (lv_room (Nat.le_of_ble_eq_true rfl)) d_L_law_411 ⟨Nat.le_of_ble_eq_true rfl, Nat.le_of_ble_eq_true rfl⟩) hP hD hS hA (fun H locs hP hD hS => ?_)
          refine lv_aload_n hx hb d_L_law_414 rfl (lv_at hl 2 rfl) ?_
          refine lv_aload_n hx hb d_L_law_415 rfl (lv_at hl 0 rfl) ?_
          refine lv_iload_n hx hb d_L_law_416 rfl (lv_at hl 3 rfl) ?_
          refine lv_iconst (v := (1 : Int32)) hx hb d_L_law_417 (by decide) ?_
          refine lv_iadd hx hb d_L_law_418 ?_
          obtain ⟨g83, hf⟩ := z_gz hf
          refine va_sld hx hb hX hbl hbA hS g83 d_L_law_419 ?_
          refine lv_i2l (v := (xs (x3 + (1 : Int32)).toNatClampNeg).toInt64) hx hb d_L_law_420 rfl ?_
          refine lv_bipush (v := (nI 32)) hx hb d_L_law_421 (by decide) ?_
          refine lv_lshl (v := ((xs (x3 + (1 : Int32)).toNatClampNeg).toInt64 <<< ((nI 32).toInt64 &&& 63))) hx hb d_L_law_423 rfl ?_
          refine lv_aload_n hx hb d_L_law_424 rfl (lv_at hl 0 rfl) ?_
          refine lv_iload_n hx hb d_L_law_425 rfl (lv_at hl 3 rfl) ?_
          refine lv_iconst (v := (nI 2)) hx hb d_L_law_426 (by decide) ?_
          refine lv_iadd hx hb d_L_law_427 ?_
          obtain ⟨g84, hf⟩ := z_gz hf
          refine va_sld hx hb hX hbl hbA hS g84 d_L_law_428 ?_
          refine lv_i2l (v := (xs (x3 + (nI 2)).toNatClampNeg).toInt64) hx hb d_L_law_429 rfl ?_
          refine lv_ldc2 (v := 4294967295) hx hb hown (hts _ (zW_in k_3_109)) d_L_law_430 ?_
          refine lv_land hx hb d_L_law_433 ?_
          refine lv_lor hx hb d_L_law_434 ?_
          refine lv_aload_n hx hb d_L_law_435 rfl (lv_at hl 0 rfl) ?_
          refine lv_iload_n hx hb d_L_law_436 rfl (lv_at hl 3 rfl) ?_
          refine lv_iconst (v := (nI 3)) hx hb d_L_law_437 (by decide) ?_
          refine lv_iadd hx hb d_L_law_438 ?_
          obtain ⟨g85, hf⟩ := z_gz hf
          refine va_sld hx hb hX hbl hbA hS g85 d_L_law_439 ?_
          refine lv_if_eq (tgt := 447) hx hb d_L_law_440 (by decide) (fun c86 => ?_) (fun c86 => absurd c82 c86)
          refine lv_iconst (v := (0 : Int32)) hx hb d_L_law_447 (by decide) ?_
          obtain ⟨u19, hu19, hf⟩ := z_b hf
          have hPc := zP_end hP
          have hDc := zD_end hD
          have hKc := hKb
          refine z_lbi (va_runV (As := [.long (((xs (x3 + (1 : Int32)).toNatClampNeg).toInt64 <<< ((nI 32).toInt64 &&& 63)) ||| ((xs (x3 + (nI 2)).toNatClampNeg).toInt64 &&& (4294967295 : Int64))), .int (0 : Int32)]) (rest := [.int u18.1]) ⟨hx, hb, hml, hown, hts⟩ (c_MO_cache l dC dI N ao ko mzpaths mzsteps mzcached mzholds mzinside mzowner mzmaker mzcontent mzruns mzisThere mztarget mzplace mzrun mzstaged mzisOpen mzstagedAt mzstagedContent mzstagedRuns mzstagedLazy mzisDirty mzcache mzhold mzmet mzrow (((xs (x3 + (1 : Int32)).toNatClampNeg).toInt64 <<< ((nI 32).toInt64 &&& 63)) ||| ((xs (x3 + (nI 2)).toNatClampNeg).toInt64 &&& (4294967295 : Int64))) (0 : Int32) hu19 H.size) (cwV 2 hts (zGV zsub_l k_3_53 k_3_54 k_3_55 k_1_8 kc_MO_cache) rfl rfl rfl (by decide +kernel) ⟨Nat.le_of_ble_eq_true rfl, Nat.le_of_ble_eq_true rfl⟩) ⟨z_bl, va_recv hKc hPc (ci := 7) (q0 := 0) rfl rfl, fun U hU hW => ⟨rfl, z_pre hN hKc hPc hDc U hU hW⟩⟩ rfl rfl hl.1 rfl (lv_room (Nat.le_of_ble_eq_true rfl)) d_L_law_448 ⟨Nat.le_of_ble_eq_true rfl, Nat.le_of_ble_eq_true rfl⟩) hP hD hS hA (fun H locs hP hD hS => ?_)
          refine lv_icmp_eq (tgt := 778) hx hb d_L_law_451 (by decide) (fun c87 => ?_) (fun c87 => ?_)
          · have hf := z_t c87 hf
            refine lv_iinc (v := (x3 + (nI 7))) (lv' := [(3, .int (x3 + (nI 7))), (0, .ref b), (1, .ref (a 0)), (2, .ref (ao 0))]) hx hb d_L_law_778 hl (k := 3) rfl rfl (by decide) rfl (fun ls hl => ?_)
            refine lv_goto (tgt := 18) hx hb d_L_law_781 (by decide) ?_
            exact ih zpaths_outer zpaths_count zsteps_targets zsteps_configurations zsteps_runs zsteps_opened zsteps_count zoutputs_contents zoutputs_makers zoutputs_executables zoutputs_lazies zstaged_contents zstaged_makers zstaged_executables zstaged_lazies u18.2.1 u18.2.2 zholds_contents zholds_count zdirtyMarks_marks zdifferent mzpaths mzsteps u19.2.1 mzholds mzinside mzowner mzmaker mzcontent mzruns mzisThere mztarget mzplace mzrun mzstaged mzisOpen mzstagedAt mzstagedContent mzstagedRuns mzstagedLazy mzisDirty u19.2.2 mzhold mzmet mzrow (x3 + (nI 7)) hf H locs ls hP hD hS (lv_sub hl [1, 2, 3, 0] rfl)
          · have hf := z_f c87 hf
            refine lv_iconst (v := (0 : Int32)) hx hb d_L_law_454 (by decide) ?_
            exact absurd (Option.some.inj hf) (by decide)
        · have hf := z_f c82 hf
          refine lv_iconst (v := (1 : Int32)) hx hb d_L_law_406 (by decide) ?_
          refine lv_goto (tgt := 411) hx hb d_L_law_407 (by decide) ?_
          obtain ⟨u20, hu20, hf⟩ := z_b hf
          have hPc := zP_fst hP
          have hDc := zD_fst hD
          have hKc := hKa
          refine z_lai (va_runV (As := [.long (((xs (x3 + (1 : Int32)).toNatClampNeg).toInt64 <<< ((nI 32).toInt64 &&& 63)) ||| ((xs (x3 + (nI 2)).toNatClampNeg).toInt64 &&& (4294967295 : Int64))), .int (1 : Int32)]) (rest := []) ⟨hx, hb, hml, hown, hts⟩ (c_OS_cache l dC dI N a k zpaths_outer zpaths_count zsteps_targets zsteps_configurations zsteps_runs zsteps_opened zsteps_count zoutputs_contents zoutputs_makers zoutputs_executables zoutputs_lazies zstaged_contents zstaged_makers zstaged_executables zstaged_lazies zcached_contents zcached_count zholds_contents zholds_count zdirtyMarks_marks zdifferent (((xs (x3 + (1 : Int32)).toNatClampNeg).toInt64 <<< ((nI 32).toInt64 &&& 63)) ||| ((xs (x3 + (nI 2)).toNatClampNeg).toInt64 &&& (4294967295 : Int64))) (1 : Int32) hu20 H.size) (cwV 2 hts (zGV zsub_l k_2_57 k_2_58 k_2_59 k_1_1 kc_OS_cache) rfl rfl rfl (by decide +kernel) ⟨Nat.le_of_ble_eq_true rfl, Nat.le_of_ble_eq_true rfl⟩) ⟨z_bl, va_recv hKc hPc (ci := 6) (q0 := 0) rfl rfl, fun U hU hW => ⟨rfl, z_pre hN hKc hPc hDc U hU hW⟩⟩ rfl rfl hl.1 rfl (lv_room (Nat.le_of_ble_eq_true rfl)) d_L_law_411 ⟨Nat.le_of_ble_eq_true rfl, Nat.le_of_ble_eq_true rfl⟩) hP hD hS hA (fun H locs hP hD hS => ?_)
          refine lv_aload_n hx hb d_L_law_414 rfl (lv_at hl 2 rfl) ?_
          refine lv_aload_n hx hb d_L_law_415 rfl (lv_at hl 0 rfl) ?_
          refine lv_iload_n hx hb d_L_law_416 rfl (lv_at hl 3 rfl) ?_
          refine lv_iconst (v := (1 : Int32)) hx hb d_L_law_417 (by decide) ?_
          refine lv_iadd hx hb d_L_law_418 ?_
          obtain ⟨g88, hf⟩ := z_gz hf
          refine va_sld hx hb hX hbl hbA hS g88 d_L_law_419 ?_
          refine lv_i2l (v := (xs (x3 + (1 : Int32)).toNatClampNeg).toInt64) hx hb d_L_law_420 rfl ?_
          refine lv_bipush (v := (nI 32)) hx hb d_L_law_421 (by decide) ?_
          refine lv_lshl (v := ((xs (x3 + (1 : Int32)).toNatClampNeg).toInt64 <<< ((nI 32).toInt64 &&& 63))) hx hb d_L_law_423 rfl ?_
          refine lv_aload_n hx hb d_L_law_424 rfl (lv_at hl 0 rfl) ?_
          refine lv_iload_n hx hb d_L_law_425 rfl (lv_at hl 3 rfl) ?_
          refine lv_iconst (v := (nI 2)) hx hb d_L_law_426 (by decide) ?_
          refine lv_iadd hx hb d_L_law_427 ?_
          obtain ⟨g89, hf⟩ := z_gz hf
          refine va_sld hx hb hX hbl hbA hS g89 d_L_law_428 ?_
          refine lv_i2l (v := (xs (x3 + (nI 2)).toNatClampNeg).toInt64) hx hb d_L_law_429 rfl ?_
          refine lv_ldc2 (v := 4294967295) hx hb hown (hts _ (zW_in k_3_109)) d_L_law_430 ?_
          refine lv_land hx hb d_L_law_433 ?_
          refine lv_lor hx hb d_L_law_434 ?_
          refine lv_aload_n hx hb d_L_law_435 rfl (lv_at hl 0 rfl) ?_
          refine lv_iload_n hx hb d_L_law_436 rfl (lv_at hl 3 rfl) ?_
          refine lv_iconst (v := (nI 3)) hx hb d_L_law_437 (by decide) ?_
          refine lv_iadd hx hb d_L_law_438 ?_
          obtain ⟨g90, hf⟩ := z_gz hf
          refine va_sld hx hb hX hbl hbA hS g90 d_L_law_439 ?_
          refine lv_if_eq (tgt := 447) hx hb d_L_law_440 (by decide) (fun c91 => absurd c91 c82) (fun c91 => ?_)
          refine lv_iconst (v := (1 : Int32)) hx hb d_L_law_443 (by decide) ?_
          refine lv_goto (tgt := 448) hx hb d_L_law_444 (by decide) ?_
          obtain ⟨u21, hu21, hf⟩ := z_b hf
          have hPc := zP_end hP
          have hDc := zD_end hD
          have hKc := hKb
          refine z_lbi (va_runV (As := [.long (((xs (x3 + (1 : Int32)).toNatClampNeg).toInt64 <<< ((nI 32).toInt64 &&& 63)) ||| ((xs (x3 + (nI 2)).toNatClampNeg).toInt64 &&& (4294967295 : Int64))), .int (1 : Int32)]) (rest := [.int u20.1]) ⟨hx, hb, hml, hown, hts⟩ (c_MO_cache l dC dI N ao ko mzpaths mzsteps mzcached mzholds mzinside mzowner mzmaker mzcontent mzruns mzisThere mztarget mzplace mzrun mzstaged mzisOpen mzstagedAt mzstagedContent mzstagedRuns mzstagedLazy mzisDirty mzcache mzhold mzmet mzrow (((xs (x3 + (1 : Int32)).toNatClampNeg).toInt64 <<< ((nI 32).toInt64 &&& 63)) ||| ((xs (x3 + (nI 2)).toNatClampNeg).toInt64 &&& (4294967295 : Int64))) (1 : Int32) hu21 H.size) (cwV 2 hts (zGV zsub_l k_3_53 k_3_54 k_3_55 k_1_8 kc_MO_cache) rfl rfl rfl (by decide +kernel) ⟨Nat.le_of_ble_eq_true rfl, Nat.le_of_ble_eq_true rfl⟩) ⟨z_bl, va_recv hKc hPc (ci := 7) (q0 := 0) rfl rfl, fun U hU hW => ⟨rfl, z_pre hN hKc hPc hDc U hU hW⟩⟩ rfl rfl hl.1 rfl (lv_room (Nat.le_of_ble_eq_true rfl)) d_L_law_448 ⟨Nat.le_of_ble_eq_true rfl, Nat.le_of_ble_eq_true rfl⟩) hP hD hS hA (fun H locs hP hD hS => ?_)
          refine lv_icmp_eq (tgt := 778) hx hb d_L_law_451 (by decide) (fun c92 => ?_) (fun c92 => ?_)
          · have hf := z_t c92 hf
            refine lv_iinc (v := (x3 + (nI 7))) (lv' := [(3, .int (x3 + (nI 7))), (0, .ref b), (1, .ref (a 0)), (2, .ref (ao 0))]) hx hb d_L_law_778 hl (k := 3) rfl rfl (by decide) rfl (fun ls hl => ?_)
            refine lv_goto (tgt := 18) hx hb d_L_law_781 (by decide) ?_
            exact ih zpaths_outer zpaths_count zsteps_targets zsteps_configurations zsteps_runs zsteps_opened zsteps_count zoutputs_contents zoutputs_makers zoutputs_executables zoutputs_lazies zstaged_contents zstaged_makers zstaged_executables zstaged_lazies u20.2.1 u20.2.2 zholds_contents zholds_count zdirtyMarks_marks zdifferent mzpaths mzsteps u21.2.1 mzholds mzinside mzowner mzmaker mzcontent mzruns mzisThere mztarget mzplace mzrun mzstaged mzisOpen mzstagedAt mzstagedContent mzstagedRuns mzstagedLazy mzisDirty u21.2.2 mzhold mzmet mzrow (x3 + (nI 7)) hf H locs ls hP hD hS (lv_sub hl [1, 2, 3, 0] rfl)
          · have hf := z_f c92 hf
            refine lv_iconst (v := (0 : Int32)) hx hb d_L_law_454 (by decide) ?_
            exact absurd (Option.some.inj hf) (by decide)
      have hf := z_f c78 hf
      by_cases c93 : ((xs x3.toNatClampNeg) &&& (nI 15)) = 6
      · have hf := z_t c93 hf
        refine lv_tableIn (off := 423) (tgt := 456) hx hb d_L_law_33 (by rw [c93]; decide) (by rw [c93]; decide) (by rw [c93]; rfl) (by decide) ?_
        refine lv_aload_n hx hb d_L_law_456 rfl (lv_at hl 1 rfl) ?_
        refine lv_aload_n hx hb d_L_law_457 rfl (lv_at hl 0 rfl) ?_
        refine lv_iload_n hx hb d_L_law_458 rfl (lv_at hl 3 rfl) ?_
        refine lv_iconst (v := (1 : Int32)) hx hb d_L_law_459 (by decide) ?_
        refine lv_iadd hx hb d_L_law_460 ?_
        obtain ⟨g94, hf⟩ := z_gz hf
        refine va_sld hx hb hX hbl hbA hS g94 d_L_law_461 ?_
        refine lv_aload_n hx hb d_L_law_462 rfl (lv_at hl 0 rfl) ?_
        refine lv_iload_n hx hb d_L_law_463 rfl (lv_at hl 3 rfl) ?_
        refine lv_iconst (v := (nI 2)) hx hb d_L_law_464 (by decide) ?_
        refine lv_iadd hx hb d_L_law_465 ?_
        obtain ⟨g95, hf⟩ := z_gz hf
        refine va_sld hx hb hX hbl hbA hS g95 d_L_law_466 ?_
        obtain ⟨u22, hu22, hf⟩ := z_b hf
        have hPc := zP_fst hP
        have hDc := zD_fst hD
        have hKc := hKa
        refine z_lai (va_runV (As := [.int (xs (x3 + (1 : Int32)).toNatClampNeg), .int (xs (x3 + (nI 2)).toNatClampNeg)]) (rest := []) ⟨hx, hb, hml, hown, hts⟩ (c_OS_read l dC dI N a k zpaths_outer zpaths_count zsteps_targets zsteps_configurations zsteps_runs zsteps_opened zsteps_count zoutputs_contents zoutputs_makers zoutputs_executables zoutputs_lazies zstaged_contents zstaged_makers zstaged_executables zstaged_lazies zcached_contents zcached_count zholds_contents zholds_count zdirtyMarks_marks zdifferent (xs (x3 + (1 : Int32)).toNatClampNeg) (xs (x3 + (nI 2)).toNatClampNeg) hu22 H.size) (cwV 2 hts (zGV zsub_l k_2_70 k_2_71 k_2_72 k_1_1 kc_OS_read) rfl rfl rfl (by decide +kernel) ⟨Nat.le_of_ble_eq_true rfl, Nat.le_of_ble_eq_true rfl⟩) ⟨z_bl, va_recv hKc hPc (ci := 6) (q0 := 0) rfl rfl, fun U hU hW => ⟨rfl, z_pre hN hKc hPc hDc U hU hW⟩⟩ rfl rfl hl.1 rfl (lv_room (Nat.le_of_ble_eq_true rfl)) d_L_law_467 ⟨Nat.le_of_ble_eq_true rfl, Nat.le_of_ble_eq_true rfl⟩) hP hD hS hA (fun H locs hP hD hS => ?_)
        refine lv_aload_n hx hb d_L_law_470 rfl (lv_at hl 2 rfl) ?_
        refine lv_aload_n hx hb d_L_law_471 rfl (lv_at hl 0 rfl) ?_
        refine lv_iload_n hx hb d_L_law_472 rfl (lv_at hl 3 rfl) ?_
        refine lv_iconst (v := (1 : Int32)) hx hb d_L_law_473 (by decide) ?_
        refine lv_iadd hx hb d_L_law_474 ?_
        obtain ⟨g96, hf⟩ := z_gz hf
        refine va_sld hx hb hX hbl hbA hS g96 d_L_law_475 ?_
        refine lv_aload_n hx hb d_L_law_476 rfl (lv_at hl 0 rfl) ?_
        refine lv_iload_n hx hb d_L_law_477 rfl (lv_at hl 3 rfl) ?_
        refine lv_iconst (v := (nI 2)) hx hb d_L_law_478 (by decide) ?_
        refine lv_iadd hx hb d_L_law_479 ?_
        obtain ⟨g97, hf⟩ := z_gz hf
        refine va_sld hx hb hX hbl hbA hS g97 d_L_law_480 ?_
        obtain ⟨u23, hu23, hf⟩ := z_b hf
        have hPc := zP_end hP
        have hDc := zD_end hD
        have hKc := hKb
        refine z_lbi (va_runV (As := [.int (xs (x3 + (1 : Int32)).toNatClampNeg), .int (xs (x3 + (nI 2)).toNatClampNeg)]) (rest := [.int u22.1]) ⟨hx, hb, hml, hown, hts⟩ (c_MO_read l dC dI N ao ko mzpaths mzsteps mzcached mzholds mzinside mzowner mzmaker mzcontent mzruns mzisThere mztarget mzplace mzrun mzstaged mzisOpen mzstagedAt mzstagedContent mzstagedRuns mzstagedLazy mzisDirty mzcache mzhold mzmet mzrow (xs (x3 + (1 : Int32)).toNatClampNeg) (xs (x3 + (nI 2)).toNatClampNeg) hu23 H.size) (cwV 2 hts (zGV zsub_l k_3_57 k_3_58 k_3_59 k_1_8 kc_MO_read) rfl rfl rfl (by decide +kernel) ⟨Nat.le_of_ble_eq_true rfl, Nat.le_of_ble_eq_true rfl⟩) ⟨z_bl, va_recv hKc hPc (ci := 7) (q0 := 0) rfl rfl, fun U hU hW => ⟨rfl, z_pre hN hKc hPc hDc U hU hW⟩⟩ rfl rfl hl.1 rfl (lv_room (Nat.le_of_ble_eq_true rfl)) d_L_law_481 ⟨Nat.le_of_ble_eq_true rfl, Nat.le_of_ble_eq_true rfl⟩) hP hD hS hA (fun H locs hP hD hS => ?_)
        refine lv_icmp_eq (tgt := 778) hx hb d_L_law_484 (by decide) (fun c98 => ?_) (fun c98 => ?_)
        · have hf := z_t c98 hf
          refine lv_iinc (v := (x3 + (nI 7))) (lv' := [(3, .int (x3 + (nI 7))), (0, .ref b), (1, .ref (a 0)), (2, .ref (ao 0))]) hx hb d_L_law_778 hl (k := 3) rfl rfl (by decide) rfl (fun ls hl => ?_)
          refine lv_goto (tgt := 18) hx hb d_L_law_781 (by decide) ?_
          exact ih zpaths_outer zpaths_count zsteps_targets zsteps_configurations zsteps_runs zsteps_opened zsteps_count u22.2.1 zoutputs_makers zoutputs_executables u22.2.2.1 zstaged_contents zstaged_makers zstaged_executables zstaged_lazies zcached_contents zcached_count u22.2.2.2.1 u22.2.2.2.2.1 u22.2.2.2.2.2 zdifferent mzpaths mzsteps mzcached u23.2.1 mzinside u23.2.2.1 mzmaker mzcontent mzruns u23.2.2.2.1 mztarget mzplace mzrun mzstaged mzisOpen mzstagedAt mzstagedContent mzstagedRuns mzstagedLazy u23.2.2.2.2.1 mzcache u23.2.2.2.2.2 mzmet mzrow (x3 + (nI 7)) hf H locs ls hP hD hS (lv_sub hl [1, 2, 3, 0] rfl)
        · have hf := z_f c98 hf
          refine lv_iconst (v := (0 : Int32)) hx hb d_L_law_487 (by decide) ?_
          exact absurd (Option.some.inj hf) (by decide)
      have hf := z_f c93 hf
      by_cases c99 : ((xs x3.toNatClampNeg) &&& (nI 15)) = 7
      · have hf := z_t c99 hf
        refine lv_tableIn (off := 456) (tgt := 489) hx hb d_L_law_33 (by rw [c99]; decide) (by rw [c99]; decide) (by rw [c99]; rfl) (by decide) ?_
        refine lv_aload_n hx hb d_L_law_489 rfl (lv_at hl 1 rfl) ?_
        refine lv_aload_n hx hb d_L_law_490 rfl (lv_at hl 0 rfl) ?_
        refine lv_iload_n hx hb d_L_law_491 rfl (lv_at hl 3 rfl) ?_
        refine lv_iconst (v := (1 : Int32)) hx hb d_L_law_492 (by decide) ?_
        refine lv_iadd hx hb d_L_law_493 ?_
        obtain ⟨g100, hf⟩ := z_gz hf
        refine va_sld hx hb hX hbl hbA hS g100 d_L_law_494 ?_
        obtain ⟨u24, hu24, hf⟩ := z_b hf
        have hPc := zP_fst hP
        have hDc := zD_fst hD
        have hKc := hKa
        refine z_lal (va_runV (As := [.int (xs (x3 + (1 : Int32)).toNatClampNeg)]) (rest := []) ⟨hx, hb, hml, hown, hts⟩ (c_OS_held l dC dI N a k zpaths_outer zpaths_count zsteps_targets zsteps_configurations zsteps_runs zsteps_opened zsteps_count zoutputs_contents zoutputs_makers zoutputs_executables zoutputs_lazies zstaged_contents zstaged_makers zstaged_executables zstaged_lazies zcached_contents zcached_count zholds_contents zholds_count zdirtyMarks_marks zdifferent (xs (x3 + (1 : Int32)).toNatClampNeg) hu24 H.size) (cwV 1 hts (zGV zsub_l k_2_87 k_2_88 k_2_89 k_1_1 kc_OS_held) rfl rfl rfl (by decide +kernel) ⟨Nat.le_of_ble_eq_true rfl, Nat.le_of_ble_eq_true rfl⟩) ⟨z_bl, va_recv hKc hPc (ci := 6) (q0 := 0) rfl rfl, fun U hU hW => ⟨rfl, z_pre hN hKc hPc hDc U hU hW⟩⟩ rfl rfl hl.1 rfl (lv_room (Nat.le_of_ble_eq_true rfl)) d_L_law_495 ⟨Nat.le_of_ble_eq_true rfl, Nat.le_of_ble_eq_true rfl⟩) hP hD hS hA (fun H locs hP hD hS => ?_)
        refine lv_aload_n hx hb d_L_law_498 rfl (lv_at hl 2 rfl) ?_
        refine lv_aload_n hx hb d_L_law_499 rfl (lv_at hl 0 rfl) ?_
        refine lv_iload_n hx hb d_L_law_500 rfl (lv_at hl 3 rfl) ?_
        refine lv_iconst (v := (1 : Int32)) hx hb d_L_law_501 (by decide) ?_
        refine lv_iadd hx hb d_L_law_502 ?_
        obtain ⟨g101, hf⟩ := z_gz hf
        refine va_sld hx hb hX hbl hbA hS g101 d_L_law_503 ?_
        obtain ⟨u25, hu25, hf⟩ := z_b hf
        have hPc := zP_end hP
        have hDc := zD_end hD
        have hKc := hKb
        refine z_lbl (va_runV (As := [.int (xs (x3 + (1 : Int32)).toNatClampNeg)]) (rest := [.long u24]) ⟨hx, hb, hml, hown, hts⟩ (c_MO_held l dC dI N ao ko mzpaths mzsteps mzcached mzholds mzinside mzowner mzmaker mzcontent mzruns mzisThere mztarget mzplace mzrun mzstaged mzisOpen mzstagedAt mzstagedContent mzstagedRuns mzstagedLazy mzisDirty mzcache mzhold mzmet mzrow (xs (x3 + (1 : Int32)).toNatClampNeg) hu25 H.size) (cwV 1 hts (zGV zsub_l k_3_65 k_3_66 k_3_67 k_1_8 kc_MO_held) rfl rfl rfl (by decide +kernel) ⟨Nat.le_of_ble_eq_true rfl, Nat.le_of_ble_eq_true rfl⟩) ⟨z_bl, va_recv hKc hPc (ci := 7) (q0 := 0) rfl rfl, fun U hU hW => ⟨rfl, z_pre hN hKc hPc hDc U hU hW⟩⟩ rfl rfl hl.1 rfl (lv_room (Nat.le_of_ble_eq_true rfl)) d_L_law_504 ⟨Nat.le_of_ble_eq_true rfl, Nat.le_of_ble_eq_true rfl⟩) hP hD hS hA (fun H locs hP hD hS => ?_)
        refine W.lcmp hx hb d_L_law_507 ?_
        refine lv_if_eq (tgt := 778) hx hb d_L_law_508 (by decide) (fun c102 => ?_) (fun c102 => ?_)
        · have hf := z_t c102 hf
          refine lv_iinc (v := (x3 + (nI 7))) (lv' := [(3, .int (x3 + (nI 7))), (0, .ref b), (1, .ref (a 0)), (2, .ref (ao 0))]) hx hb d_L_law_778 hl (k := 3) rfl rfl (by decide) rfl (fun ls hl => ?_)
          refine lv_goto (tgt := 18) hx hb d_L_law_781 (by decide) ?_
          exact ih zpaths_outer zpaths_count zsteps_targets zsteps_configurations zsteps_runs zsteps_opened zsteps_count zoutputs_contents zoutputs_makers zoutputs_executables zoutputs_lazies zstaged_contents zstaged_makers zstaged_executables zstaged_lazies zcached_contents zcached_count zholds_contents zholds_count zdirtyMarks_marks zdifferent mzpaths mzsteps mzcached mzholds mzinside mzowner mzmaker mzcontent mzruns mzisThere mztarget mzplace mzrun mzstaged mzisOpen mzstagedAt mzstagedContent mzstagedRuns mzstagedLazy mzisDirty mzcache mzhold mzmet mzrow (x3 + (nI 7)) hf H locs ls hP hD hS (lv_sub hl [1, 2, 3, 0] rfl)
        · have hf := z_f c102 hf
          refine lv_iconst (v := (0 : Int32)) hx hb d_L_law_511 (by decide) ?_
          exact absurd (Option.some.inj hf) (by decide)
      have hf := z_f c99 hf
      by_cases c103 : ((xs x3.toNatClampNeg) &&& (nI 15)) = 8
      · have hf := z_t c103 hf
        refine lv_tableIn (off := 480) (tgt := 513) hx hb d_L_law_33 (by rw [c103]; decide) (by rw [c103]; decide) (by rw [c103]; rfl) (by decide) ?_
        refine lv_aload_n hx hb d_L_law_513 rfl (lv_at hl 1 rfl) ?_
        refine lv_aload_n hx hb d_L_law_514 rfl (lv_at hl 0 rfl) ?_
        refine lv_iload_n hx hb d_L_law_515 rfl (lv_at hl 3 rfl) ?_
        refine lv_iconst (v := (1 : Int32)) hx hb d_L_law_516 (by decide) ?_
        refine lv_iadd hx hb d_L_law_517 ?_
        obtain ⟨g104, hf⟩ := z_gz hf
        refine va_sld hx hb hX hbl hbA hS g104 d_L_law_518 ?_
        obtain ⟨u26, hu26, hf⟩ := z_b hf
        have hPc := zP_fst hP
        have hDc := zD_fst hD
        have hKc := hKa
        refine z_lai (va_runV (As := [.int (xs (x3 + (1 : Int32)).toNatClampNeg)]) (rest := []) ⟨hx, hb, hml, hown, hts⟩ (c_OS_letGo l dC dI N a k zpaths_outer zpaths_count zsteps_targets zsteps_configurations zsteps_runs zsteps_opened zsteps_count zoutputs_contents zoutputs_makers zoutputs_executables zoutputs_lazies zstaged_contents zstaged_makers zstaged_executables zstaged_lazies zcached_contents zcached_count zholds_contents zholds_count zdirtyMarks_marks zdifferent (xs (x3 + (1 : Int32)).toNatClampNeg) hu26 H.size) (cwV 1 hts (zGV zsub_l k_2_99 k_2_100 k_2_101 k_1_1 kc_OS_letGo) rfl rfl rfl (by decide +kernel) ⟨Nat.le_of_ble_eq_true rfl, Nat.le_of_ble_eq_true rfl⟩) ⟨z_bl, va_recv hKc hPc (ci := 6) (q0 := 0) rfl rfl, fun U hU hW => ⟨rfl, z_pre hN hKc hPc hDc U hU hW⟩⟩ rfl rfl hl.1 rfl (lv_room (Nat.le_of_ble_eq_true rfl)) d_L_law_519 ⟨Nat.le_of_ble_eq_true rfl, Nat.le_of_ble_eq_true rfl⟩) hP hD hS hA (fun H locs hP hD hS => ?_)
        refine lv_aload_n hx hb d_L_law_522 rfl (lv_at hl 2 rfl) ?_
        refine lv_aload_n hx hb d_L_law_523 rfl (lv_at hl 0 rfl) ?_
        refine lv_iload_n hx hb d_L_law_524 rfl (lv_at hl 3 rfl) ?_
        refine lv_iconst (v := (1 : Int32)) hx hb d_L_law_525 (by decide) ?_
        refine lv_iadd hx hb d_L_law_526 ?_
        obtain ⟨g105, hf⟩ := z_gz hf
        refine va_sld hx hb hX hbl hbA hS g105 d_L_law_527 ?_
        obtain ⟨u27, hu27, hf⟩ := z_b hf
        have hPc := zP_end hP
        have hDc := zD_end hD
        have hKc := hKb
        refine z_lbi (va_runV (As := [.int (xs (x3 + (1 : Int32)).toNatClampNeg)]) (rest := [.int u26.1]) ⟨hx, hb, hml, hown, hts⟩ (c_MO_letGo l dC dI N ao ko mzpaths mzsteps mzcached mzholds mzinside mzowner mzmaker mzcontent mzruns mzisThere mztarget mzplace mzrun mzstaged mzisOpen mzstagedAt mzstagedContent mzstagedRuns mzstagedLazy mzisDirty mzcache mzhold mzmet mzrow (xs (x3 + (1 : Int32)).toNatClampNeg) hu27 H.size) (cwV 1 hts (zGV zsub_l k_3_69 k_3_70 k_3_71 k_1_8 kc_MO_letGo) rfl rfl rfl (by decide +kernel) ⟨Nat.le_of_ble_eq_true rfl, Nat.le_of_ble_eq_true rfl⟩) ⟨z_bl, va_recv hKc hPc (ci := 7) (q0 := 0) rfl rfl, fun U hU hW => ⟨rfl, z_pre hN hKc hPc hDc U hU hW⟩⟩ rfl rfl hl.1 rfl (lv_room (Nat.le_of_ble_eq_true rfl)) d_L_law_528 ⟨Nat.le_of_ble_eq_true rfl, Nat.le_of_ble_eq_true rfl⟩) hP hD hS hA (fun H locs hP hD hS => ?_)
        refine lv_icmp_eq (tgt := 778) hx hb d_L_law_531 (by decide) (fun c106 => ?_) (fun c106 => ?_)
        · have hf := z_t c106 hf
          refine lv_iinc (v := (x3 + (nI 7))) (lv' := [(3, .int (x3 + (nI 7))), (0, .ref b), (1, .ref (a 0)), (2, .ref (ao 0))]) hx hb d_L_law_778 hl (k := 3) rfl rfl (by decide) rfl (fun ls hl => ?_)
          refine lv_goto (tgt := 18) hx hb d_L_law_781 (by decide) ?_
          exact ih zpaths_outer zpaths_count zsteps_targets zsteps_configurations zsteps_runs zsteps_opened zsteps_count zoutputs_contents zoutputs_makers zoutputs_executables zoutputs_lazies zstaged_contents zstaged_makers zstaged_executables zstaged_lazies zcached_contents zcached_count u26.2 zholds_count zdirtyMarks_marks zdifferent mzpaths mzsteps mzcached mzholds mzinside mzowner mzmaker mzcontent mzruns mzisThere mztarget mzplace mzrun mzstaged mzisOpen mzstagedAt mzstagedContent mzstagedRuns mzstagedLazy mzisDirty mzcache u27.2 mzmet mzrow (x3 + (nI 7)) hf H locs ls hP hD hS (lv_sub hl [1, 2, 3, 0] rfl)
        · have hf := z_f c106 hf
          refine lv_iconst (v := (0 : Int32)) hx hb d_L_law_534 (by decide) ?_
          exact absurd (Option.some.inj hf) (by decide)
      have hf := z_f c103 hf
      by_cases c107 : ((xs x3.toNatClampNeg) &&& (nI 15)) = 9
      · have hf := z_t c107 hf
        refine lv_tableIn (off := 503) (tgt := 536) hx hb d_L_law_33 (by rw [c107]; decide) (by rw [c107]; decide) (by rw [c107]; rfl) (by decide) ?_
        refine lv_aload_n hx hb d_L_law_536 rfl (lv_at hl 1 rfl) ?_
        refine lv_aload_n hx hb d_L_law_537 rfl (lv_at hl 0 rfl) ?_
        refine lv_iload_n hx hb d_L_law_538 rfl (lv_at hl 3 rfl) ?_
        refine lv_iconst (v := (1 : Int32)) hx hb d_L_law_539 (by decide) ?_
        refine lv_iadd hx hb d_L_law_540 ?_
        obtain ⟨g108, hf⟩ := z_gz hf
        refine va_sld hx hb hX hbl hbA hS g108 d_L_law_541 ?_
        refine lv_aload_n hx hb d_L_law_542 rfl (lv_at hl 0 rfl) ?_
        refine lv_iload_n hx hb d_L_law_543 rfl (lv_at hl 3 rfl) ?_
        refine lv_iconst (v := (nI 2)) hx hb d_L_law_544 (by decide) ?_
        refine lv_iadd hx hb d_L_law_545 ?_
        obtain ⟨g109, hf⟩ := z_gz hf
        refine va_sld hx hb hX hbl hbA hS g109 d_L_law_546 ?_
        obtain ⟨u28, hu28, hf⟩ := z_b hf
        have hPc := zP_fst hP
        have hDc := zD_fst hD
        have hKc := hKa
        refine z_lal (va_runV (As := [.int (xs (x3 + (1 : Int32)).toNatClampNeg), .int (xs (x3 + (nI 2)).toNatClampNeg)]) (rest := []) ⟨hx, hb, hml, hown, hts⟩ (c_OS_content l dC dI N a k zpaths_outer zpaths_count zsteps_targets zsteps_configurations zsteps_runs zsteps_opened zsteps_count zoutputs_contents zoutputs_makers zoutputs_executables zoutputs_lazies zstaged_contents zstaged_makers zstaged_executables zstaged_lazies zcached_contents zcached_count zholds_contents zholds_count zdirtyMarks_marks zdifferent (xs (x3 + (1 : Int32)).toNatClampNeg) (xs (x3 + (nI 2)).toNatClampNeg) hu28 H.size) (cwV 2 hts (zGV zsub_l k_2_107 k_2_108 k_2_109 k_1_1 kc_OS_content) rfl rfl rfl (by decide +kernel) ⟨Nat.le_of_ble_eq_true rfl, Nat.le_of_ble_eq_true rfl⟩) ⟨z_bl, va_recv hKc hPc (ci := 6) (q0 := 0) rfl rfl, fun U hU hW => ⟨rfl, z_pre hN hKc hPc hDc U hU hW⟩⟩ rfl rfl hl.1 rfl (lv_room (Nat.le_of_ble_eq_true rfl)) d_L_law_547 ⟨Nat.le_of_ble_eq_true rfl, Nat.le_of_ble_eq_true rfl⟩) hP hD hS hA (fun H locs hP hD hS => ?_)
        refine lv_aload_n hx hb d_L_law_550 rfl (lv_at hl 2 rfl) ?_
        refine lv_aload_n hx hb d_L_law_551 rfl (lv_at hl 0 rfl) ?_
        refine lv_iload_n hx hb d_L_law_552 rfl (lv_at hl 3 rfl) ?_
        refine lv_iconst (v := (1 : Int32)) hx hb d_L_law_553 (by decide) ?_
        refine lv_iadd hx hb d_L_law_554 ?_
        obtain ⟨g110, hf⟩ := z_gz hf
        refine va_sld hx hb hX hbl hbA hS g110 d_L_law_555 ?_
        refine lv_aload_n hx hb d_L_law_556 rfl (lv_at hl 0 rfl) ?_
        refine lv_iload_n hx hb d_L_law_557 rfl (lv_at hl 3 rfl) ?_
        refine lv_iconst (v := (nI 2)) hx hb d_L_law_558 (by decide) ?_
        refine lv_iadd hx hb d_L_law_559 ?_
        obtain ⟨g111, hf⟩ := z_gz hf
        refine va_sld hx hb hX hbl hbA hS g111 d_L_law_560 ?_
        obtain ⟨u29, hu29, hf⟩ := z_b hf
        have hPc := zP_end hP
        have hDc := zD_end hD
        have hKc := hKb
        refine z_lbl (va_runV (As := [.int (xs (x3 + (1 : Int32)).toNatClampNeg), .int (xs (x3 + (nI 2)).toNatClampNeg)]) (rest := [.long u28]) ⟨hx, hb, hml, hown, hts⟩ (c_MO_content l dC dI N ao ko mzpaths mzsteps mzcached mzholds mzinside mzowner mzmaker mzcontent mzruns mzisThere mztarget mzplace mzrun mzstaged mzisOpen mzstagedAt mzstagedContent mzstagedRuns mzstagedLazy mzisDirty mzcache mzhold mzmet mzrow (xs (x3 + (1 : Int32)).toNatClampNeg) (xs (x3 + (nI 2)).toNatClampNeg) hu29 H.size) (cwV 2 hts (zGV zsub_l k_3_73 k_3_74 k_3_75 k_1_8 kc_MO_content) rfl rfl rfl (by decide +kernel) ⟨Nat.le_of_ble_eq_true rfl, Nat.le_of_ble_eq_true rfl⟩) ⟨z_bl, va_recv hKc hPc (ci := 7) (q0 := 0) rfl rfl, fun U hU hW => ⟨rfl, z_pre hN hKc hPc hDc U hU hW⟩⟩ rfl rfl hl.1 rfl (lv_room (Nat.le_of_ble_eq_true rfl)) d_L_law_561 ⟨Nat.le_of_ble_eq_true rfl, Nat.le_of_ble_eq_true rfl⟩) hP hD hS hA (fun H locs hP hD hS => ?_)
        refine W.lcmp hx hb d_L_law_564 ?_
        refine lv_if_eq (tgt := 778) hx hb d_L_law_565 (by decide) (fun c112 => ?_) (fun c112 => ?_)
        · have hf := z_t c112 hf
          refine lv_iinc (v := (x3 + (nI 7))) (lv' := [(3, .int (x3 + (nI 7))), (0, .ref b), (1, .ref (a 0)), (2, .ref (ao 0))]) hx hb d_L_law_778 hl (k := 3) rfl rfl (by decide) rfl (fun ls hl => ?_)
          refine lv_goto (tgt := 18) hx hb d_L_law_781 (by decide) ?_
          exact ih zpaths_outer zpaths_count zsteps_targets zsteps_configurations zsteps_runs zsteps_opened zsteps_count zoutputs_contents zoutputs_makers zoutputs_executables zoutputs_lazies zstaged_contents zstaged_makers zstaged_executables zstaged_lazies zcached_contents zcached_count zholds_contents zholds_count zdirtyMarks_marks zdifferent mzpaths mzsteps mzcached mzholds mzinside mzowner mzmaker mzcontent mzruns mzisThere mztarget mzplace mzrun mzstaged mzisOpen mzstagedAt mzstagedContent mzstagedRuns mzstagedLazy mzisDirty mzcache mzhold mzmet mzrow (x3 + (nI 7)) hf H locs ls hP hD hS (lv_sub hl [1, 2, 3, 0] rfl)
        · have hf := z_f c112 hf
          refine lv_iconst (v := (0 : Int32)) hx hb d_L_law_568 (by decide) ?_
          exact absurd (Option.some.inj hf) (by decide)
      have hf := z_f c107 hf
      by_cases c113 : ((xs x3.toNatClampNeg) &&& (nI 15)) = 10
      · have hf := z_t c113 hf
        refine lv_tableIn (off := 537) (tgt := 570) hx hb d_L_law_33 (by rw [c113]; decide) (by rw [c113]; decide) (by rw [c113]; rfl) (by decide) ?_
        refine lv_aload_n hx hb d_L_law_570 rfl (lv_at hl 1 rfl) ?_
        refine lv_aload_n hx hb d_L_law_571 rfl (lv_at hl 0 rfl) ?_
        refine lv_iload_n hx hb d_L_law_572 rfl (lv_at hl 3 rfl) ?_
        refine lv_iconst (v := (1 : Int32)) hx hb d_L_law_573 (by decide) ?_
        refine lv_iadd hx hb d_L_law_574 ?_
        obtain ⟨g114, hf⟩ := z_gz hf
        refine va_sld hx hb hX hbl hbA hS g114 d_L_law_575 ?_
        refine lv_aload_n hx hb d_L_law_576 rfl (lv_at hl 0 rfl) ?_
        refine lv_iload_n hx hb d_L_law_577 rfl (lv_at hl 3 rfl) ?_
        refine lv_iconst (v := (nI 2)) hx hb d_L_law_578 (by decide) ?_
        refine lv_iadd hx hb d_L_law_579 ?_
        obtain ⟨g115, hf⟩ := z_gz hf
        refine va_sld hx hb hX hbl hbA hS g115 d_L_law_580 ?_
        refine lv_aload_n hx hb d_L_law_581 rfl (lv_at hl 0 rfl) ?_
        refine lv_iload_n hx hb d_L_law_582 rfl (lv_at hl 3 rfl) ?_
        refine lv_iconst (v := (nI 3)) hx hb d_L_law_583 (by decide) ?_
        refine lv_iadd hx hb d_L_law_584 ?_
        obtain ⟨g116, hf⟩ := z_gz hf
        refine va_sld hx hb hX hbl hbA hS g116 d_L_law_585 ?_
        obtain ⟨u30, hu30, hf⟩ := z_b hf
        have hPc := zP_fst hP
        have hDc := zD_fst hD
        have hKc := hKa
        refine z_lai (va_runV (As := [.int (xs (x3 + (1 : Int32)).toNatClampNeg), .int (xs (x3 + (nI 2)).toNatClampNeg), .int (xs (x3 + (nI 3)).toNatClampNeg)]) (rest := []) ⟨hx, hb, hml, hown, hts⟩ (c_OS_about l dC dI N a k zpaths_outer zpaths_count zsteps_targets zsteps_configurations zsteps_runs zsteps_opened zsteps_count zoutputs_contents zoutputs_makers zoutputs_executables zoutputs_lazies zstaged_contents zstaged_makers zstaged_executables zstaged_lazies zcached_contents zcached_count zholds_contents zholds_count zdirtyMarks_marks zdifferent (xs (x3 + (1 : Int32)).toNatClampNeg) (xs (x3 + (nI 2)).toNatClampNeg) (xs (x3 + (nI 3)).toNatClampNeg) hu30 H.size) (cwV 3 hts (zGV zsub_l k_2_111 k_2_112 k_2_113 k_1_1 kc_OS_about) rfl rfl rfl (by decide +kernel) ⟨Nat.le_of_ble_eq_true rfl, Nat.le_of_ble_eq_true rfl⟩) ⟨z_bl, va_recv hKc hPc (ci := 6) (q0 := 0) rfl rfl, fun U hU hW => ⟨rfl, z_pre hN hKc hPc hDc U hU hW⟩⟩ rfl rfl hl.1 rfl (lv_room (Nat.le_of_ble_eq_true rfl)) d_L_law_586 ⟨Nat.le_of_ble_eq_true rfl, Nat.le_of_ble_eq_true rfl⟩) hP hD hS hA (fun H locs hP hD hS => ?_)
        refine lv_aload_n hx hb d_L_law_589 rfl (lv_at hl 2 rfl) ?_
        refine lv_aload_n hx hb d_L_law_590 rfl (lv_at hl 0 rfl) ?_
        refine lv_iload_n hx hb d_L_law_591 rfl (lv_at hl 3 rfl) ?_
        refine lv_iconst (v := (1 : Int32)) hx hb d_L_law_592 (by decide) ?_
        refine lv_iadd hx hb d_L_law_593 ?_
        obtain ⟨g117, hf⟩ := z_gz hf
        refine va_sld hx hb hX hbl hbA hS g117 d_L_law_594 ?_
        refine lv_aload_n hx hb d_L_law_595 rfl (lv_at hl 0 rfl) ?_
        refine lv_iload_n hx hb d_L_law_596 rfl (lv_at hl 3 rfl) ?_
        refine lv_iconst (v := (nI 2)) hx hb d_L_law_597 (by decide) ?_
        refine lv_iadd hx hb d_L_law_598 ?_
        obtain ⟨g118, hf⟩ := z_gz hf
        refine va_sld hx hb hX hbl hbA hS g118 d_L_law_599 ?_
        refine lv_aload_n hx hb d_L_law_600 rfl (lv_at hl 0 rfl) ?_
        refine lv_iload_n hx hb d_L_law_601 rfl (lv_at hl 3 rfl) ?_
        refine lv_iconst (v := (nI 3)) hx hb d_L_law_602 (by decide) ?_
        refine lv_iadd hx hb d_L_law_603 ?_
        obtain ⟨g119, hf⟩ := z_gz hf
        refine va_sld hx hb hX hbl hbA hS g119 d_L_law_604 ?_
        obtain ⟨u31, hu31, hf⟩ := z_b hf
        have hPc := zP_end hP
        have hDc := zD_end hD
        have hKc := hKb
        refine z_lbi (va_runV (As := [.int (xs (x3 + (1 : Int32)).toNatClampNeg), .int (xs (x3 + (nI 2)).toNatClampNeg), .int (xs (x3 + (nI 3)).toNatClampNeg)]) (rest := [.int u30]) ⟨hx, hb, hml, hown, hts⟩ (c_MO_about l dC dI N ao ko mzpaths mzsteps mzcached mzholds mzinside mzowner mzmaker mzcontent mzruns mzisThere mztarget mzplace mzrun mzstaged mzisOpen mzstagedAt mzstagedContent mzstagedRuns mzstagedLazy mzisDirty mzcache mzhold mzmet mzrow (xs (x3 + (1 : Int32)).toNatClampNeg) (xs (x3 + (nI 2)).toNatClampNeg) (xs (x3 + (nI 3)).toNatClampNeg) hu31 H.size) (cwV 3 hts (zGV zsub_l k_3_77 k_3_78 k_3_79 k_1_8 kc_MO_about) rfl rfl rfl (by decide +kernel) ⟨Nat.le_of_ble_eq_true rfl, Nat.le_of_ble_eq_true rfl⟩) ⟨z_bl, va_recv hKc hPc (ci := 7) (q0 := 0) rfl rfl, fun U hU hW => ⟨rfl, z_pre hN hKc hPc hDc U hU hW⟩⟩ rfl rfl hl.1 rfl (lv_room (Nat.le_of_ble_eq_true rfl)) d_L_law_605 ⟨Nat.le_of_ble_eq_true rfl, Nat.le_of_ble_eq_true rfl⟩) hP hD hS hA (fun H locs hP hD hS => ?_)
        refine lv_icmp_eq (tgt := 778) hx hb d_L_law_608 (by decide) (fun c120 => ?_) (fun c120 => ?_)
        · have hf := z_t c120 hf
          refine lv_iinc (v := (x3 + (nI 7))) (lv' := [(3, .int (x3 + (nI 7))), (0, .ref b), (1, .ref (a 0)), (2, .ref (ao 0))]) hx hb d_L_law_778 hl (k := 3) rfl rfl (by decide) rfl (fun ls hl => ?_)
          refine lv_goto (tgt := 18) hx hb d_L_law_781 (by decide) ?_
          exact ih zpaths_outer zpaths_count zsteps_targets zsteps_configurations zsteps_runs zsteps_opened zsteps_count zoutputs_contents zoutputs_makers zoutputs_executables zoutputs_lazies zstaged_contents zstaged_makers zstaged_executables zstaged_lazies zcached_contents zcached_count zholds_contents zholds_count zdirtyMarks_marks zdifferent mzpaths mzsteps mzcached mzholds mzinside mzowner mzmaker mzcontent mzruns mzisThere mztarget mzplace mzrun mzstaged mzisOpen mzstagedAt mzstagedContent mzstagedRuns mzstagedLazy mzisDirty mzcache mzhold mzmet mzrow (x3 + (nI 7)) hf H locs ls hP hD hS (lv_sub hl [1, 2, 3, 0] rfl)
        · have hf := z_f c120 hf
          refine lv_iconst (v := (0 : Int32)) hx hb d_L_law_611 (by decide) ?_
          exact absurd (Option.some.inj hf) (by decide)
      have hf := z_f c113 hf
      by_cases c121 : ((xs x3.toNatClampNeg) &&& (nI 15)) = 11
      · have hf := z_t c121 hf
        refine lv_tableIn (off := 580) (tgt := 613) hx hb d_L_law_33 (by rw [c121]; decide) (by rw [c121]; decide) (by rw [c121]; rfl) (by decide) ?_
        refine lv_aload_n hx hb d_L_law_613 rfl (lv_at hl 1 rfl) ?_
        refine lv_aload_n hx hb d_L_law_614 rfl (lv_at hl 0 rfl) ?_
        refine lv_iload_n hx hb d_L_law_615 rfl (lv_at hl 3 rfl) ?_
        refine lv_iconst (v := (1 : Int32)) hx hb d_L_law_616 (by decide) ?_
        refine lv_iadd hx hb d_L_law_617 ?_
        obtain ⟨g122, hf⟩ := z_gz hf
        refine va_sld hx hb hX hbl hbA hS g122 d_L_law_618 ?_
        refine lv_aload_n hx hb d_L_law_619 rfl (lv_at hl 0 rfl) ?_
        refine lv_iload_n hx hb d_L_law_620 rfl (lv_at hl 3 rfl) ?_
        refine lv_iconst (v := (nI 2)) hx hb d_L_law_621 (by decide) ?_
        refine lv_iadd hx hb d_L_law_622 ?_
        obtain ⟨g123, hf⟩ := z_gz hf
        refine va_sld hx hb hX hbl hbA hS g123 d_L_law_623 ?_
        refine lv_aload_n hx hb d_L_law_624 rfl (lv_at hl 0 rfl) ?_
        refine lv_iload_n hx hb d_L_law_625 rfl (lv_at hl 3 rfl) ?_
        refine lv_iconst (v := (nI 3)) hx hb d_L_law_626 (by decide) ?_
        refine lv_iadd hx hb d_L_law_627 ?_
        obtain ⟨g124, hf⟩ := z_gz hf
        refine va_sld hx hb hX hbl hbA hS g124 d_L_law_628 ?_
        obtain ⟨u32, hu32, hf⟩ := z_b hf
        have hPc := zP_fst hP
        have hDc := zD_fst hD
        have hKc := hKa
        refine z_lai (va_runV (As := [.int (xs (x3 + (1 : Int32)).toNatClampNeg), .int (xs (x3 + (nI 2)).toNatClampNeg), .int (xs (x3 + (nI 3)).toNatClampNeg)]) (rest := []) ⟨hx, hb, hml, hown, hts⟩ (c_OS_list l dC dI N a k zpaths_outer zpaths_count zsteps_targets zsteps_configurations zsteps_runs zsteps_opened zsteps_count zoutputs_contents zoutputs_makers zoutputs_executables zoutputs_lazies zstaged_contents zstaged_makers zstaged_executables zstaged_lazies zcached_contents zcached_count zholds_contents zholds_count zdirtyMarks_marks zdifferent (xs (x3 + (1 : Int32)).toNatClampNeg) (xs (x3 + (nI 2)).toNatClampNeg) (xs (x3 + (nI 3)).toNatClampNeg) hu32 H.size) (cwV 3 hts (zGV zsub_l k_2_115 k_2_116 k_2_117 k_1_1 kc_OS_list) rfl rfl rfl (by decide +kernel) ⟨Nat.le_of_ble_eq_true rfl, Nat.le_of_ble_eq_true rfl⟩) ⟨z_bl, va_recv hKc hPc (ci := 6) (q0 := 0) rfl rfl, fun U hU hW => ⟨rfl, z_pre hN hKc hPc hDc U hU hW⟩⟩ rfl rfl hl.1 rfl (lv_room (Nat.le_of_ble_eq_true rfl)) d_L_law_629 ⟨Nat.le_of_ble_eq_true rfl, Nat.le_of_ble_eq_true rfl⟩) hP hD hS hA (fun H locs hP hD hS => ?_)
        refine lv_aload_n hx hb d_L_law_632 rfl (lv_at hl 2 rfl) ?_
        refine lv_aload_n hx hb d_L_law_633 rfl (lv_at hl 0 rfl) ?_
        refine lv_iload_n hx hb d_L_law_634 rfl (lv_at hl 3 rfl) ?_
        refine lv_iconst (v := (1 : Int32)) hx hb d_L_law_635 (by decide) ?_
        refine lv_iadd hx hb d_L_law_636 ?_
        obtain ⟨g125, hf⟩ := z_gz hf
        refine va_sld hx hb hX hbl hbA hS g125 d_L_law_637 ?_
        refine lv_aload_n hx hb d_L_law_638 rfl (lv_at hl 0 rfl) ?_
        refine lv_iload_n hx hb d_L_law_639 rfl (lv_at hl 3 rfl) ?_
        refine lv_iconst (v := (nI 2)) hx hb d_L_law_640 (by decide) ?_
        refine lv_iadd hx hb d_L_law_641 ?_
        obtain ⟨g126, hf⟩ := z_gz hf
        refine va_sld hx hb hX hbl hbA hS g126 d_L_law_642 ?_
        refine lv_aload_n hx hb d_L_law_643 rfl (lv_at hl 0 rfl) ?_
        refine lv_iload_n hx hb d_L_law_644 rfl (lv_at hl 3 rfl) ?_
        refine lv_iconst (v := (nI 3)) hx hb d_L_law_645 (by decide) ?_
        refine lv_iadd hx hb d_L_law_646 ?_
        obtain ⟨g127, hf⟩ := z_gz hf
        refine va_sld hx hb hX hbl hbA hS g127 d_L_law_647 ?_
        obtain ⟨u33, hu33, hf⟩ := z_b hf
        have hPc := zP_end hP
        have hDc := zD_end hD
        have hKc := hKb
        refine z_lbi (va_runV (As := [.int (xs (x3 + (1 : Int32)).toNatClampNeg), .int (xs (x3 + (nI 2)).toNatClampNeg), .int (xs (x3 + (nI 3)).toNatClampNeg)]) (rest := [.int u32]) ⟨hx, hb, hml, hown, hts⟩ (c_MO_list l dC dI N ao ko mzpaths mzsteps mzcached mzholds mzinside mzowner mzmaker mzcontent mzruns mzisThere mztarget mzplace mzrun mzstaged mzisOpen mzstagedAt mzstagedContent mzstagedRuns mzstagedLazy mzisDirty mzcache mzhold mzmet mzrow (xs (x3 + (1 : Int32)).toNatClampNeg) (xs (x3 + (nI 2)).toNatClampNeg) (xs (x3 + (nI 3)).toNatClampNeg) hu33 H.size) (cwV 3 hts (zGV zsub_l k_3_81 k_3_82 k_3_83 k_1_8 kc_MO_list) rfl rfl rfl (by decide +kernel) ⟨Nat.le_of_ble_eq_true rfl, Nat.le_of_ble_eq_true rfl⟩) ⟨z_bl, va_recv hKc hPc (ci := 7) (q0 := 0) rfl rfl, fun U hU hW => ⟨rfl, z_pre hN hKc hPc hDc U hU hW⟩⟩ rfl rfl hl.1 rfl (lv_room (Nat.le_of_ble_eq_true rfl)) d_L_law_648 ⟨Nat.le_of_ble_eq_true rfl, Nat.le_of_ble_eq_true rfl⟩) hP hD hS hA (fun H locs hP hD hS => ?_)
        refine lv_icmp_eq (tgt := 778) hx hb d_L_law_651 (by decide) (fun c128 => ?_) (fun c128 => ?_)
        · have hf := z_t c128 hf
          refine lv_iinc (v := (x3 + (nI 7))) (lv' := [(3, .int (x3 + (nI 7))), (0, .ref b), (1, .ref (a 0)), (2, .ref (ao 0))]) hx hb d_L_law_778 hl (k := 3) rfl rfl (by decide) rfl (fun ls hl => ?_)
          refine lv_goto (tgt := 18) hx hb d_L_law_781 (by decide) ?_
          exact ih zpaths_outer zpaths_count zsteps_targets zsteps_configurations zsteps_runs zsteps_opened zsteps_count zoutputs_contents zoutputs_makers zoutputs_executables zoutputs_lazies zstaged_contents zstaged_makers zstaged_executables zstaged_lazies zcached_contents zcached_count zholds_contents zholds_count zdirtyMarks_marks zdifferent mzpaths mzsteps mzcached mzholds mzinside mzowner mzmaker mzcontent mzruns mzisThere mztarget mzplace mzrun mzstaged mzisOpen mzstagedAt mzstagedContent mzstagedRuns mzstagedLazy mzisDirty mzcache mzhold mzmet mzrow (x3 + (nI 7)) hf H locs ls hP hD hS (lv_sub hl [1, 2, 3, 0] rfl)
        · have hf := z_f c128 hf
          refine lv_iconst (v := (0 : Int32)) hx hb d_L_law_654 (by decide) ?_
          exact absurd (Option.some.inj hf) (by decide)
      have hf := z_f c121 hf
      by_cases c129 : ((xs x3.toNatClampNeg) &&& (nI 15)) = 12
      · have hf := z_t c129 hf
        refine lv_tableIn (off := 623) (tgt := 656) hx hb d_L_law_33 (by rw [c129]; decide) (by rw [c129]; decide) (by rw [c129]; rfl) (by decide) ?_
        refine lv_aload_n hx hb d_L_law_656 rfl (lv_at hl 1 rfl) ?_
        refine lv_aload_n hx hb d_L_law_657 rfl (lv_at hl 0 rfl) ?_
        refine lv_iload_n hx hb d_L_law_658 rfl (lv_at hl 3 rfl) ?_
        refine lv_iconst (v := (1 : Int32)) hx hb d_L_law_659 (by decide) ?_
        refine lv_iadd hx hb d_L_law_660 ?_
        obtain ⟨g130, hf⟩ := z_gz hf
        refine va_sld hx hb hX hbl hbA hS g130 d_L_law_661 ?_
        refine lv_aload_n hx hb d_L_law_662 rfl (lv_at hl 0 rfl) ?_
        refine lv_iload_n hx hb d_L_law_663 rfl (lv_at hl 3 rfl) ?_
        refine lv_iconst (v := (nI 2)) hx hb d_L_law_664 (by decide) ?_
        refine lv_iadd hx hb d_L_law_665 ?_
        obtain ⟨g131, hf⟩ := z_gz hf
        refine va_sld hx hb hX hbl hbA hS g131 d_L_law_666 ?_
        obtain ⟨u34, hu34, hf⟩ := z_b hf
        have hPc := zP_fst hP
        have hDc := zD_fst hD
        have hKc := hKa
        refine z_lai (va_runV (As := [.int (xs (x3 + (1 : Int32)).toNatClampNeg), .int (xs (x3 + (nI 2)).toNatClampNeg)]) (rest := []) ⟨hx, hb, hml, hown, hts⟩ (c_OS_dirty l dC dI N a k zpaths_outer zpaths_count zsteps_targets zsteps_configurations zsteps_runs zsteps_opened zsteps_count zoutputs_contents zoutputs_makers zoutputs_executables zoutputs_lazies zstaged_contents zstaged_makers zstaged_executables zstaged_lazies zcached_contents zcached_count zholds_contents zholds_count zdirtyMarks_marks zdifferent (xs (x3 + (1 : Int32)).toNatClampNeg) (xs (x3 + (nI 2)).toNatClampNeg) hu34 H.size) (cwV 2 hts (zGV zsub_l k_2_120 k_2_121 k_2_122 k_1_1 kc_OS_dirty) rfl rfl rfl (by decide +kernel) ⟨Nat.le_of_ble_eq_true rfl, Nat.le_of_ble_eq_true rfl⟩) ⟨z_bl, va_recv hKc hPc (ci := 6) (q0 := 0) rfl rfl, fun U hU hW => ⟨rfl, z_pre hN hKc hPc hDc U hU hW⟩⟩ rfl rfl hl.1 rfl (lv_room (Nat.le_of_ble_eq_true rfl)) d_L_law_667 ⟨Nat.le_of_ble_eq_true rfl, Nat.le_of_ble_eq_true rfl⟩) hP hD hS hA (fun H locs hP hD hS => ?_)
        refine lv_aload_n hx hb d_L_law_670 rfl (lv_at hl 2 rfl) ?_
        refine lv_aload_n hx hb d_L_law_671 rfl (lv_at hl 0 rfl) ?_
        refine lv_iload_n hx hb d_L_law_672 rfl (lv_at hl 3 rfl) ?_
        refine lv_iconst (v := (1 : Int32)) hx hb d_L_law_673 (by decide) ?_
        refine lv_iadd hx hb d_L_law_674 ?_
        obtain ⟨g132, hf⟩ := z_gz hf
        refine va_sld hx hb hX hbl hbA hS g132 d_L_law_675 ?_
        refine lv_aload_n hx hb d_L_law_676 rfl (lv_at hl 0 rfl) ?_
        refine lv_iload_n hx hb d_L_law_677 rfl (lv_at hl 3 rfl) ?_
        refine lv_iconst (v := (nI 2)) hx hb d_L_law_678 (by decide) ?_
        refine lv_iadd hx hb d_L_law_679 ?_
        obtain ⟨g133, hf⟩ := z_gz hf
        refine va_sld hx hb hX hbl hbA hS g133 d_L_law_680 ?_
        obtain ⟨u35, hu35, hf⟩ := z_b hf
        have hPc := zP_end hP
        have hDc := zD_end hD
        have hKc := hKb
        refine z_lbi (va_runV (As := [.int (xs (x3 + (1 : Int32)).toNatClampNeg), .int (xs (x3 + (nI 2)).toNatClampNeg)]) (rest := [.int u34]) ⟨hx, hb, hml, hown, hts⟩ (c_MO_dirty l dC dI N ao ko mzpaths mzsteps mzcached mzholds mzinside mzowner mzmaker mzcontent mzruns mzisThere mztarget mzplace mzrun mzstaged mzisOpen mzstagedAt mzstagedContent mzstagedRuns mzstagedLazy mzisDirty mzcache mzhold mzmet mzrow (xs (x3 + (1 : Int32)).toNatClampNeg) (xs (x3 + (nI 2)).toNatClampNeg) hu35 H.size) (cwV 2 hts (zGV zsub_l k_3_85 k_3_86 k_3_87 k_1_8 kc_MO_dirty) rfl rfl rfl (by decide +kernel) ⟨Nat.le_of_ble_eq_true rfl, Nat.le_of_ble_eq_true rfl⟩) ⟨z_bl, va_recv hKc hPc (ci := 7) (q0 := 0) rfl rfl, fun U hU hW => ⟨rfl, z_pre hN hKc hPc hDc U hU hW⟩⟩ rfl rfl hl.1 rfl (lv_room (Nat.le_of_ble_eq_true rfl)) d_L_law_681 ⟨Nat.le_of_ble_eq_true rfl, Nat.le_of_ble_eq_true rfl⟩) hP hD hS hA (fun H locs hP hD hS => ?_)
        refine lv_icmp_eq (tgt := 778) hx hb d_L_law_684 (by decide) (fun c134 => ?_) (fun c134 => ?_)
        · have hf := z_t c134 hf
          refine lv_iinc (v := (x3 + (nI 7))) (lv' := [(3, .int (x3 + (nI 7))), (0, .ref b), (1, .ref (a 0)), (2, .ref (ao 0))]) hx hb d_L_law_778 hl (k := 3) rfl rfl (by decide) rfl (fun ls hl => ?_)
          refine lv_goto (tgt := 18) hx hb d_L_law_781 (by decide) ?_
          exact ih zpaths_outer zpaths_count zsteps_targets zsteps_configurations zsteps_runs zsteps_opened zsteps_count zoutputs_contents zoutputs_makers zoutputs_executables zoutputs_lazies zstaged_contents zstaged_makers zstaged_executables zstaged_lazies zcached_contents zcached_count zholds_contents zholds_count zdirtyMarks_marks zdifferent mzpaths mzsteps mzcached mzholds mzinside mzowner mzmaker mzcontent mzruns mzisThere mztarget mzplace mzrun mzstaged mzisOpen mzstagedAt mzstagedContent mzstagedRuns mzstagedLazy mzisDirty mzcache mzhold mzmet mzrow (x3 + (nI 7)) hf H locs ls hP hD hS (lv_sub hl [1, 2, 3, 0] rfl)
        · have hf := z_f c134 hf
          refine lv_iconst (v := (0 : Int32)) hx hb d_L_law_687 (by decide) ?_
          exact absurd (Option.some.inj hf) (by decide)
      have hf := z_f c129 hf
      by_cases c135 : ((xs x3.toNatClampNeg) &&& (nI 15)) = 13
      · have hf := z_t c135 hf
        refine lv_tableIn (off := 656) (tgt := 689) hx hb d_L_law_33 (by rw [c135]; decide) (by rw [c135]; decide) (by rw [c135]; rfl) (by decide) ?_
        refine lv_aload_n hx hb d_L_law_689 rfl (lv_at hl 1 rfl) ?_
        refine lv_aload_n hx hb d_L_law_690 rfl (lv_at hl 0 rfl) ?_
        refine lv_iload_n hx hb d_L_law_691 rfl (lv_at hl 3 rfl) ?_
        refine lv_iconst (v := (1 : Int32)) hx hb d_L_law_692 (by decide) ?_
        refine lv_iadd hx hb d_L_law_693 ?_
        obtain ⟨g136, hf⟩ := z_gz hf
        refine va_sld hx hb hX hbl hbA hS g136 d_L_law_694 ?_
        obtain ⟨u36, hu36, hf⟩ := z_b hf
        have hPc := zP_fst hP
        have hDc := zD_fst hD
        have hKc := hKa
        refine z_lai (va_runV (As := [.int (xs (x3 + (1 : Int32)).toNatClampNeg)]) (rest := []) ⟨hx, hb, hml, hown, hts⟩ (c_OS_clear l dC dI N a k zpaths_outer zpaths_count zsteps_targets zsteps_configurations zsteps_runs zsteps_opened zsteps_count zoutputs_contents zoutputs_makers zoutputs_executables zoutputs_lazies zstaged_contents zstaged_makers zstaged_executables zstaged_lazies zcached_contents zcached_count zholds_contents zholds_count zdirtyMarks_marks zdifferent (xs (x3 + (1 : Int32)).toNatClampNeg) hu36 H.size) (cwV 1 hts (zGV zsub_l k_2_128 k_2_129 k_2_130 k_1_1 kc_OS_clear) rfl rfl rfl (by decide +kernel) ⟨Nat.le_of_ble_eq_true rfl, Nat.le_of_ble_eq_true rfl⟩) ⟨z_bl, va_recv hKc hPc (ci := 6) (q0 := 0) rfl rfl, fun U hU hW => ⟨rfl, z_pre hN hKc hPc hDc U hU hW⟩⟩ rfl rfl hl.1 rfl (lv_room (Nat.le_of_ble_eq_true rfl)) d_L_law_695 ⟨Nat.le_of_ble_eq_true rfl, Nat.le_of_ble_eq_true rfl⟩) hP hD hS hA (fun H locs hP hD hS => ?_)
        refine lv_aload_n hx hb d_L_law_698 rfl (lv_at hl 2 rfl) ?_
        refine lv_aload_n hx hb d_L_law_699 rfl (lv_at hl 0 rfl) ?_
        refine lv_iload_n hx hb d_L_law_700 rfl (lv_at hl 3 rfl) ?_
        refine lv_iconst (v := (1 : Int32)) hx hb d_L_law_701 (by decide) ?_
        refine lv_iadd hx hb d_L_law_702 ?_
        obtain ⟨g137, hf⟩ := z_gz hf
        refine va_sld hx hb hX hbl hbA hS g137 d_L_law_703 ?_
        obtain ⟨u37, hu37, hf⟩ := z_b hf
        have hPc := zP_end hP
        have hDc := zD_end hD
        have hKc := hKb
        refine z_lbi (va_runV (As := [.int (xs (x3 + (1 : Int32)).toNatClampNeg)]) (rest := [.int u36.1]) ⟨hx, hb, hml, hown, hts⟩ (c_MO_clear l dC dI N ao ko mzpaths mzsteps mzcached mzholds mzinside mzowner mzmaker mzcontent mzruns mzisThere mztarget mzplace mzrun mzstaged mzisOpen mzstagedAt mzstagedContent mzstagedRuns mzstagedLazy mzisDirty mzcache mzhold mzmet mzrow (xs (x3 + (1 : Int32)).toNatClampNeg) hu37 H.size) (cwV 1 hts (zGV zsub_l k_3_89 k_3_90 k_3_91 k_1_8 kc_MO_clear) rfl rfl rfl (by decide +kernel) ⟨Nat.le_of_ble_eq_true rfl, Nat.le_of_ble_eq_true rfl⟩) ⟨z_bl, va_recv hKc hPc (ci := 7) (q0 := 0) rfl rfl, fun U hU hW => ⟨rfl, z_pre hN hKc hPc hDc U hU hW⟩⟩ rfl rfl hl.1 rfl (lv_room (Nat.le_of_ble_eq_true rfl)) d_L_law_704 ⟨Nat.le_of_ble_eq_true rfl, Nat.le_of_ble_eq_true rfl⟩) hP hD hS hA (fun H locs hP hD hS => ?_)
        refine lv_icmp_eq (tgt := 778) hx hb d_L_law_707 (by decide) (fun c138 => ?_) (fun c138 => ?_)
        · have hf := z_t c138 hf
          refine lv_iinc (v := (x3 + (nI 7))) (lv' := [(3, .int (x3 + (nI 7))), (0, .ref b), (1, .ref (a 0)), (2, .ref (ao 0))]) hx hb d_L_law_778 hl (k := 3) rfl rfl (by decide) rfl (fun ls hl => ?_)
          refine lv_goto (tgt := 18) hx hb d_L_law_781 (by decide) ?_
          exact ih zpaths_outer zpaths_count zsteps_targets zsteps_configurations zsteps_runs zsteps_opened zsteps_count u36.2 zoutputs_makers zoutputs_executables zoutputs_lazies zstaged_contents zstaged_makers zstaged_executables zstaged_lazies zcached_contents zcached_count zholds_contents zholds_count zdirtyMarks_marks zdifferent mzpaths mzsteps mzcached mzholds mzinside u37.2 mzmaker mzcontent mzruns mzisThere mztarget mzplace mzrun mzstaged mzisOpen mzstagedAt mzstagedContent mzstagedRuns mzstagedLazy mzisDirty mzcache mzhold mzmet mzrow (x3 + (nI 7)) hf H locs ls hP hD hS (lv_sub hl [1, 2, 3, 0] rfl)
        · have hf := z_f c138 hf
          refine lv_iconst (v := (0 : Int32)) hx hb d_L_law_710 (by decide) ?_
          exact absurd (Option.some.inj hf) (by decide)
      have hf := z_f c135 hf
      by_cases c139 : ((xs x3.toNatClampNeg) &&& (nI 15)) = 14
      · have hf := z_t c139 hf
        refine lv_tableIn (off := 679) (tgt := 712) hx hb d_L_law_33 (by rw [c139]; decide) (by rw [c139]; decide) (by rw [c139]; rfl) (by decide) ?_
        refine lv_aload_n hx hb d_L_law_712 rfl (lv_at hl 1 rfl) ?_
        refine lv_aload_n hx hb d_L_law_713 rfl (lv_at hl 0 rfl) ?_
        refine lv_iload_n hx hb d_L_law_714 rfl (lv_at hl 3 rfl) ?_
        refine lv_iconst (v := (1 : Int32)) hx hb d_L_law_715 (by decide) ?_
        refine lv_iadd hx hb d_L_law_716 ?_
        obtain ⟨g140, hf⟩ := z_gz hf
        refine va_sld hx hb hX hbl hbA hS g140 d_L_law_717 ?_
        refine lv_i2l (v := (xs (x3 + (1 : Int32)).toNatClampNeg).toInt64) hx hb d_L_law_718 rfl ?_
        refine lv_bipush (v := (nI 32)) hx hb d_L_law_719 (by decide) ?_
        refine lv_lshl (v := ((xs (x3 + (1 : Int32)).toNatClampNeg).toInt64 <<< ((nI 32).toInt64 &&& 63))) hx hb d_L_law_721 rfl ?_
        refine lv_aload_n hx hb d_L_law_722 rfl (lv_at hl 0 rfl) ?_
        refine lv_iload_n hx hb d_L_law_723 rfl (lv_at hl 3 rfl) ?_
        refine lv_iconst (v := (nI 2)) hx hb d_L_law_724 (by decide) ?_
        refine lv_iadd hx hb d_L_law_725 ?_
        obtain ⟨g141, hf⟩ := z_gz hf
        refine va_sld hx hb hX hbl hbA hS g141 d_L_law_726 ?_
        refine lv_i2l (v := (xs (x3 + (nI 2)).toNatClampNeg).toInt64) hx hb d_L_law_727 rfl ?_
        refine lv_ldc2 (v := 4294967295) hx hb hown (hts _ (zW_in k_3_109)) d_L_law_728 ?_
        refine lv_land hx hb d_L_law_731 ?_
        refine lv_lor hx hb d_L_law_732 ?_
        obtain ⟨u38, hu38, hf⟩ := z_b hf
        have hPc := zP_fst hP
        have hDc := zD_fst hD
        have hKc := hKa
        refine z_lai (va_runV (As := [.long (((xs (x3 + (1 : Int32)).toNatClampNeg).toInt64 <<< ((nI 32).toInt64 &&& 63)) ||| ((xs (x3 + (nI 2)).toNatClampNeg).toInt64 &&& (4294967295 : Int64)))]) (rest := []) ⟨hx, hb, hml, hown, hts⟩ (c_OS_copies l dC dI N a k zpaths_outer zpaths_count zsteps_targets zsteps_configurations zsteps_runs zsteps_opened zsteps_count zoutputs_contents zoutputs_makers zoutputs_executables zoutputs_lazies zstaged_contents zstaged_makers zstaged_executables zstaged_lazies zcached_contents zcached_count zholds_contents zholds_count zdirtyMarks_marks zdifferent (((xs (x3 + (1 : Int32)).toNatClampNeg).toInt64 <<< ((nI 32).toInt64 &&& 63)) ||| ((xs (x3 + (nI 2)).toNatClampNeg).toInt64 &&& (4294967295 : Int64))) hu38 H.size) (cwV 1 hts (zGV zsub_l k_2_136 k_2_137 k_2_138 k_1_1 kc_OS_copies) rfl rfl rfl (by decide +kernel) ⟨Nat.le_of_ble_eq_true rfl, Nat.le_of_ble_eq_true rfl⟩) ⟨z_bl, va_recv hKc hPc (ci := 6) (q0 := 0) rfl rfl, fun U hU hW => ⟨rfl, z_pre hN hKc hPc hDc U hU hW⟩⟩ rfl rfl hl.1 rfl (lv_room (Nat.le_of_ble_eq_true rfl)) d_L_law_733 ⟨Nat.le_of_ble_eq_true rfl, Nat.le_of_ble_eq_true rfl⟩) hP hD hS hA (fun H locs hP hD hS => ?_)
        refine lv_aload_n hx hb d_L_law_736 rfl (lv_at hl 2 rfl) ?_
        refine lv_aload_n hx hb d_L_law_737 rfl (lv_at hl 0 rfl) ?_
        refine lv_iload_n hx hb d_L_law_738 rfl (lv_at hl 3 rfl) ?_
        refine lv_iconst (v := (1 : Int32)) hx hb d_L_law_739 (by decide) ?_
        refine lv_iadd hx hb d_L_law_740 ?_
        obtain ⟨g142, hf⟩ := z_gz hf
        refine va_sld hx hb hX hbl hbA hS g142 d_L_law_741 ?_
        refine lv_i2l (v := (xs (x3 + (1 : Int32)).toNatClampNeg).toInt64) hx hb d_L_law_742 rfl ?_
        refine lv_bipush (v := (nI 32)) hx hb d_L_law_743 (by decide) ?_
        refine lv_lshl (v := ((xs (x3 + (1 : Int32)).toNatClampNeg).toInt64 <<< ((nI 32).toInt64 &&& 63))) hx hb d_L_law_745 rfl ?_
        refine lv_aload_n hx hb d_L_law_746 rfl (lv_at hl 0 rfl) ?_
        refine lv_iload_n hx hb d_L_law_747 rfl (lv_at hl 3 rfl) ?_
        refine lv_iconst (v := (nI 2)) hx hb d_L_law_748 (by decide) ?_
        refine lv_iadd hx hb d_L_law_749 ?_
        obtain ⟨g143, hf⟩ := z_gz hf
        refine va_sld hx hb hX hbl hbA hS g143 d_L_law_750 ?_
        refine lv_i2l (v := (xs (x3 + (nI 2)).toNatClampNeg).toInt64) hx hb d_L_law_751 rfl ?_
        refine lv_ldc2 (v := 4294967295) hx hb hown (hts _ (zW_in k_3_109)) d_L_law_752 ?_
        refine lv_land hx hb d_L_law_755 ?_
        refine lv_lor hx hb d_L_law_756 ?_
        obtain ⟨u39, hu39, hf⟩ := z_b hf
        have hPc := zP_end hP
        have hDc := zD_end hD
        have hKc := hKb
        refine z_lbi (va_runV (As := [.long (((xs (x3 + (1 : Int32)).toNatClampNeg).toInt64 <<< ((nI 32).toInt64 &&& 63)) ||| ((xs (x3 + (nI 2)).toNatClampNeg).toInt64 &&& (4294967295 : Int64)))]) (rest := [.int u38]) ⟨hx, hb, hml, hown, hts⟩ (c_MO_copies l dC dI N ao ko mzpaths mzsteps mzcached mzholds mzinside mzowner mzmaker mzcontent mzruns mzisThere mztarget mzplace mzrun mzstaged mzisOpen mzstagedAt mzstagedContent mzstagedRuns mzstagedLazy mzisDirty mzcache mzhold mzmet mzrow (((xs (x3 + (1 : Int32)).toNatClampNeg).toInt64 <<< ((nI 32).toInt64 &&& 63)) ||| ((xs (x3 + (nI 2)).toNatClampNeg).toInt64 &&& (4294967295 : Int64))) hu39 H.size) (cwV 1 hts (zGV zsub_l k_3_93 k_3_94 k_3_95 k_1_8 kc_MO_copies) rfl rfl rfl (by decide +kernel) ⟨Nat.le_of_ble_eq_true rfl, Nat.le_of_ble_eq_true rfl⟩) ⟨z_bl, va_recv hKc hPc (ci := 7) (q0 := 0) rfl rfl, fun U hU hW => ⟨rfl, z_pre hN hKc hPc hDc U hU hW⟩⟩ rfl rfl hl.1 rfl (lv_room (Nat.le_of_ble_eq_true rfl)) d_L_law_757 ⟨Nat.le_of_ble_eq_true rfl, Nat.le_of_ble_eq_true rfl⟩) hP hD hS hA (fun H locs hP hD hS => ?_)
        refine lv_icmp_eq (tgt := 778) hx hb d_L_law_760 (by decide) (fun c144 => ?_) (fun c144 => ?_)
        · have hf := z_t c144 hf
          refine lv_iinc (v := (x3 + (nI 7))) (lv' := [(3, .int (x3 + (nI 7))), (0, .ref b), (1, .ref (a 0)), (2, .ref (ao 0))]) hx hb d_L_law_778 hl (k := 3) rfl rfl (by decide) rfl (fun ls hl => ?_)
          refine lv_goto (tgt := 18) hx hb d_L_law_781 (by decide) ?_
          exact ih zpaths_outer zpaths_count zsteps_targets zsteps_configurations zsteps_runs zsteps_opened zsteps_count zoutputs_contents zoutputs_makers zoutputs_executables zoutputs_lazies zstaged_contents zstaged_makers zstaged_executables zstaged_lazies zcached_contents zcached_count zholds_contents zholds_count zdirtyMarks_marks zdifferent mzpaths mzsteps mzcached mzholds mzinside mzowner mzmaker mzcontent mzruns mzisThere mztarget mzplace mzrun mzstaged mzisOpen mzstagedAt mzstagedContent mzstagedRuns mzstagedLazy mzisDirty mzcache mzhold u39.2.1 u39.2.2 (x3 + (nI 7)) hf H locs ls hP hD hS (lv_sub hl [1, 2, 3, 0] rfl)
        · have hf := z_f c144 hf
          refine lv_iconst (v := (0 : Int32)) hx hb d_L_law_763 (by decide) ?_
          exact absurd (Option.some.inj hf) (by decide)
      have hf := z_f c139 hf
      by_cases c145 : ((xs x3.toNatClampNeg) &&& (nI 15)) = 15
      · have hf := z_t c145 hf
        refine lv_tableIn (off := 732) (tgt := 765) hx hb d_L_law_33 (by rw [c145]; decide) (by rw [c145]; decide) (by rw [c145]; rfl) (by decide) ?_
        refine lv_aload_n hx hb d_L_law_765 rfl (lv_at hl 1 rfl) ?_
        obtain ⟨u40, hu40, hf⟩ := z_b hf
        have hPc := zP_fst hP
        have hDc := zD_fst hD
        have hKc := hKa
        refine z_lai (va_runV (As := []) (rest := []) ⟨hx, hb, hml, hown, hts⟩ (c_OS_stored l dC dI N a k zpaths_outer zpaths_count zsteps_targets zsteps_configurations zsteps_runs zsteps_opened zsteps_count zoutputs_contents zoutputs_makers zoutputs_executables zoutputs_lazies zstaged_contents zstaged_makers zstaged_executables zstaged_lazies zcached_contents zcached_count zholds_contents zholds_count zdirtyMarks_marks zdifferent hu40 H.size) (cwV 0 hts (zGV zsub_l k_2_150 k_2_151 k_2_152 k_1_1 kc_OS_stored) rfl rfl rfl (by decide +kernel) ⟨Nat.le_of_ble_eq_true rfl, Nat.le_of_ble_eq_true rfl⟩) ⟨z_bl, va_recv hKc hPc (ci := 6) (q0 := 0) rfl rfl, fun U hU hW => ⟨rfl, z_pre hN hKc hPc hDc U hU hW⟩⟩ rfl rfl hl.1 rfl (lv_room (Nat.le_of_ble_eq_true rfl)) d_L_law_766 ⟨Nat.le_of_ble_eq_true rfl, Nat.le_of_ble_eq_true rfl⟩) hP hD hS hA (fun H locs hP hD hS => ?_)
        refine lv_aload_n hx hb d_L_law_769 rfl (lv_at hl 2 rfl) ?_
        obtain ⟨u41, hu41, hf⟩ := z_b hf
        have hPc := zP_end hP
        have hDc := zD_end hD
        have hKc := hKb
        refine z_lbi (va_runV (As := []) (rest := [.int u40.1]) ⟨hx, hb, hml, hown, hts⟩ (c_MO_stored l dC dI N ao ko mzpaths mzsteps mzcached mzholds mzinside mzowner mzmaker mzcontent mzruns mzisThere mztarget mzplace mzrun mzstaged mzisOpen mzstagedAt mzstagedContent mzstagedRuns mzstagedLazy mzisDirty mzcache mzhold mzmet mzrow hu41 H.size) (cwV 0 hts (zGV zsub_l k_3_105 k_3_106 k_3_107 k_1_8 kc_MO_stored) rfl rfl rfl (by decide +kernel) ⟨Nat.le_of_ble_eq_true rfl, Nat.le_of_ble_eq_true rfl⟩) ⟨z_bl, va_recv hKc hPc (ci := 7) (q0 := 0) rfl rfl, fun U hU hW => ⟨rfl, z_pre hN hKc hPc hDc U hU hW⟩⟩ rfl rfl hl.1 rfl (lv_room (Nat.le_of_ble_eq_true rfl)) d_L_law_770 ⟨Nat.le_of_ble_eq_true rfl, Nat.le_of_ble_eq_true rfl⟩) hP hD hS hA (fun H locs hP hD hS => ?_)
        refine lv_icmp_eq (tgt := 778) hx hb d_L_law_773 (by decide) (fun c146 => ?_) (fun c146 => ?_)
        · have hf := z_t c146 hf
          refine lv_iinc (v := (x3 + (nI 7))) (lv' := [(3, .int (x3 + (nI 7))), (0, .ref b), (1, .ref (a 0)), (2, .ref (ao 0))]) hx hb d_L_law_778 hl (k := 3) rfl rfl (by decide) rfl (fun ls hl => ?_)
          refine lv_goto (tgt := 18) hx hb d_L_law_781 (by decide) ?_
          exact ih zpaths_outer zpaths_count zsteps_targets zsteps_configurations zsteps_runs zsteps_opened zsteps_count zoutputs_contents zoutputs_makers zoutputs_executables zoutputs_lazies zstaged_contents zstaged_makers zstaged_executables zstaged_lazies zcached_contents zcached_count zholds_contents zholds_count zdirtyMarks_marks u40.2 mzpaths mzsteps mzcached mzholds mzinside mzowner mzmaker mzcontent mzruns mzisThere mztarget mzplace mzrun mzstaged mzisOpen mzstagedAt mzstagedContent mzstagedRuns mzstagedLazy mzisDirty mzcache mzhold u41.2.1 u41.2.2 (x3 + (nI 7)) hf H locs ls hP hD hS (lv_sub hl [1, 2, 3, 0] rfl)
        · have hf := z_f c146 hf
          refine lv_iconst (v := (0 : Int32)) hx hb d_L_law_776 (by decide) ?_
          exact absurd (Option.some.inj hf) (by decide)
      have hf := z_f c145 hf
      refine lv_tableOut (tgt := 778) hx hb d_L_law_33 (z_sw16 c3 c7 c15 c62 c74 c78 c93 c99 c103 c107 c113 c121 c129 c135 c139 c145) (by decide) ?_
      refine lv_iinc (v := (x3 + (nI 7))) (lv' := [(3, .int (x3 + (nI 7))), (0, .ref b), (1, .ref (a 0)), (2, .ref (ao 0))]) hx hb d_L_law_778 hl (k := 3) rfl rfl (by decide) rfl (fun ls hl => ?_)
      refine lv_goto (tgt := 18) hx hb d_L_law_781 (by decide) ?_
      exact ih zpaths_outer zpaths_count zsteps_targets zsteps_configurations zsteps_runs zsteps_opened zsteps_count zoutputs_contents zoutputs_makers zoutputs_executables zoutputs_lazies zstaged_contents zstaged_makers zstaged_executables zstaged_lazies zcached_contents zcached_count zholds_contents zholds_count zdirtyMarks_marks zdifferent mzpaths mzsteps mzcached mzholds mzinside mzowner mzmaker mzcontent mzruns mzisThere mztarget mzplace mzrun mzstaged mzisOpen mzstagedAt mzstagedContent mzstagedRuns mzstagedLazy mzisDirty mzcache mzhold mzmet mzrow (x3 + (nI 7)) hf H locs ls hP hD hS (lv_sub hl [1, 2, 3, 0] rfl)
