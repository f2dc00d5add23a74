set_option maxHeartbeats 4000000 in
set_option maxRecDepth 100000 in
theorem c_MO_within (l : Launch) (dC : Nat → ClassId) (dI : Nat → Nat → Nat) (N : Nat) (a : Nat → Nat) (k : Nat → ClassId) (p0 : Int32) (p1 : Int32) {y : (Int32)} (hf : pf_MO_within N p0 p1 = some y) (sz : Nat) : Met l y_MO_within ww_MO_within ({ frames := 0, cells := 0, slots := 0, locals := 0 }) (va_Pc [.int p0, .int p1] (zB (dC, dI) zCl ([] : List (ClassId × FieldType)) ([] : va_W) sz)) (zQi (dC, dI) zCl ([] : va_W) sz y ([] : va_W)) 0 0 (va_A ([] : va_W) sz) := by
  refine Met.ofW (cc := b_MO_within) (maxL := 2) (ret := (some .boolean)) (by decide) rfl ?_
  intro p e s m args below meth c s₁ B hml hv
  obtain ⟨rfl, rfl, hP, hK, hD, hN⟩ := hv
  have hx := B.exec
  have hb := B.bytes
  have hr := B.returns
  have hts := atoms_spec (ws := ww_MO_within) B.pre
  have hown : s.vm.findClass R_MO = some m.cls := findClass_of_methodNamed B.named
  have hlocks := B.notSynchronized
  have hA : ∀ q : Nat, s.heap.size ≤ q → va_A ([] : va_W) s.heap.size q := fun q h => Or.inr h
  refine z_start (lv := [(0, .int p0), (1, .int p1)]) (Nat.le_of_ble_eq_true rfl) rfl hP hD (fun H locs ls hP hD hS hl => ?_)
  unfold pf_MO_within at hf
  refine lv_iload_n hx hb d_MO_within_0 rfl (lv_at hl 0 rfl) ?_
  refine lv_if_lt (tgt := 13) hx hb d_MO_within_1 (by decide) (fun c1 => ?_) (fun c1 => ?_)
  · have hf := z_t c1 hf
    refine lv_iconst (v := (0 : Int32)) hx hb d_MO_within_13 (by decide) ?_
    obtain rfl := Option.some.inj hf
    exact z_zret hx hb hr (Or.inl rfl) hP hD hS d_MO_within_14 hlocks
  · have hf := z_f c1 hf
    refine lv_iload_n hx hb d_MO_within_4 rfl (lv_at hl 0 rfl) ?_
    refine lv_iload_n hx hb d_MO_within_5 rfl (lv_at hl 1 rfl) ?_
    refine lv_icmp_gt (tgt := 13) hx hb d_MO_within_6 (by decide) (fun c2 => ?_) (fun c2 => ?_)
    · have hf := z_t c2 hf
      refine lv_iconst (v := (0 : Int32)) hx hb d_MO_within_13 (by decide) ?_
      obtain rfl := Option.some.inj hf
      exact z_zret hx hb hr (Or.inl rfl) hP hD hS d_MO_within_14 hlocks
    · have hf := z_f c2 hf
      refine lv_iconst (v := (1 : Int32)) hx hb d_MO_within_9 (by decide) ?_
      refine lv_goto (tgt := 14) hx hb d_MO_within_10 (by decide) ?_
      obtain rfl := Option.some.inj hf
      exact z_zret hx hb hr (Or.inr rfl) hP hD hS d_MO_within_14 hlocks
set_option maxHeartbeats 4000000 in
set_option maxRecDepth 100000 in
theorem c_MO_isPath (l : Launch) (dC : Nat → ClassId) (dI : Nat → Nat → Nat) (N : Nat) (a : Nat → Nat) (k : Nat → ClassId) (zpaths : Int32) (zsteps : Int32) (zcached : Int32) (zholds : Int32) (zinside : Nat → Int32) (zowner : Nat → Int32) (zmaker : Nat → Int32) (zcontent : Nat → Int64) (zruns : Nat → Int32) (zisThere : Nat → Int32) (ztarget : Nat → Int32) (zplace : Nat → Int32) (zrun : Nat → Int32) (zstaged : Nat → Int32) (zisOpen : Nat → Int32) (zstagedAt : Nat → Int32) (zstagedContent : Nat → Int64) (zstagedRuns : Nat → Int32) (zstagedLazy : Nat → Int32) (zisDirty : Nat → Int32) (zcache : Nat → Int64) (zhold : Nat → Int64) (zmet : Int32) (zrow : Nat → Int64) (p1 : Int32) {y : (Int32)} (hf : pf_MO_isPath N zpaths p1 = some y) (sz : Nat) : Met l y_MO_isPath ww_MO_isPath ({ frames := 0, cells := 0, slots := 0, locals := 0 }) (va_Pc [.ref (a 0), .int p1] (zB (dC, dI) zCl (t_MO k) (w_MO a k zpaths zsteps zcached zholds zinside zowner zmaker zcontent zruns zisThere ztarget zplace zrun zstaged zisOpen zstagedAt zstagedContent zstagedRuns zstagedLazy zisDirty zcache zhold zmet zrow) sz)) (zQi (dC, dI) zCl (w_MO a k zpaths zsteps zcached zholds zinside zowner zmaker zcontent zruns zisThere ztarget zplace zrun zstaged zisOpen zstagedAt zstagedContent zstagedRuns zstagedLazy zisDirty zcache zhold zmet zrow) sz y (w_MO a k zpaths zsteps zcached zholds zinside zowner zmaker zcontent zruns zisThere ztarget zplace zrun zstaged zisOpen zstagedAt zstagedContent zstagedRuns zstagedLazy zisDirty zcache zhold zmet zrow)) 0 0 (va_A (w_MO a k zpaths zsteps zcached zholds zinside zowner zmaker zcontent zruns zisThere ztarget zplace zrun zstaged zisOpen zstagedAt zstagedContent zstagedRuns zstagedLazy zisDirty zcache zhold zmet zrow) sz) := by
  refine Met.ofW (cc := b_MO_isPath) (maxL := 2) (ret := (some .boolean)) (by decide) rfl ?_
  intro p e s m args below meth c s₁ B hml hv
  obtain ⟨rfl, rfl, hP, hK, hD, hN⟩ := hv
  have hx := B.exec
  have hb := B.bytes
  have hr := B.returns
  have hts := atoms_spec (ws := ww_MO_isPath) B.pre
  have hown : s.vm.findClass R_MO = some m.cls := findClass_of_methodNamed B.named
  have hlocks := B.notSynchronized
  have hA : ∀ q : Nat, s.heap.size ≤ q → va_A (w_MO a k zpaths zsteps zcached zholds zinside zowner zmaker zcontent zruns zisThere ztarget zplace zrun zstaged zisOpen zstagedAt zstagedContent zstagedRuns zstagedLazy zisDirty zcache zhold zmet zrow) s.heap.size q := fun q h => Or.inr h
  refine z_start (lv := [(0, .ref (a 0)), (1, .int p1)]) (Nat.le_of_ble_eq_true rfl) rfl hP hD (fun H locs ls hP hD hS hl => ?_)
  unfold pf_MO_isPath at hf
  refine lv_iload_n hx hb d_MO_isPath_0 rfl (lv_at hl 1 rfl) ?_
  refine lv_if_lt (tgt := 16) hx hb d_MO_isPath_1 (by decide) (fun c1 => ?_) (fun c1 => ?_)
  · have hf := z_t c1 hf
    refine lv_iconst (v := (0 : Int32)) hx hb d_MO_isPath_16 (by decide) ?_
    obtain rfl := Option.some.inj hf
    exact z_zret hx hb hr (Or.inl rfl) hP hD hS d_MO_isPath_17 hlocks
  · have hf := z_f c1 hf
    refine lv_iload_n hx hb d_MO_isPath_4 rfl (lv_at hl 1 rfl) ?_
    refine lv_aload_n hx hb d_MO_isPath_5 rfl (lv_at hl 0 rfl) ?_
    refine va_get (D := (dC, dI)) (ci := 7) (v := .int zpaths) (C := R_MO) (T := F_MO) (N := 24) hx hb hts (fun w h => List.mem_cons_of_mem _ (in_MO w h)) hown hK hP 0 rfl rfl 0 (by decide) (hts _ (List.mem_cons_of_mem _ k_2_161)) (fun _ h9 => h9) rfl d_MO_isPath_6 ?_
    refine lv_icmp_ge (tgt := 16) hx hb d_MO_isPath_9 (by decide) (fun c2 => ?_) (fun c2 => ?_)
    · have hf := z_t c2 hf
      refine lv_iconst (v := (0 : Int32)) hx hb d_MO_isPath_16 (by decide) ?_
      obtain rfl := Option.some.inj hf
      exact z_zret hx hb hr (Or.inl rfl) hP hD hS d_MO_isPath_17 hlocks
    · have hf := z_f c2 hf
      refine lv_iconst (v := (1 : Int32)) hx hb d_MO_isPath_12 (by decide) ?_
      refine lv_goto (tgt := 17) hx hb d_MO_isPath_13 (by decide) ?_
      obtain rfl := Option.some.inj hf
      exact z_zret hx hb hr (Or.inr rfl) hP hD hS d_MO_isPath_17 hlocks
set_option maxHeartbeats 4000000 in
set_option maxRecDepth 100000 in
theorem c_MO_isOpenStep (l : Launch) (dC : Nat → ClassId) (dI : Nat → Nat → Nat) (N : Nat) (a : Nat → Nat) (k : Nat → ClassId) (zpaths : Int32) (zsteps : Int32) (zcached : Int32) (zholds : Int32) (zinside : Nat → Int32) (zowner : Nat → Int32) (zmaker : Nat → Int32) (zcontent : Nat → Int64) (zruns : Nat → Int32) (zisThere : Nat → Int32) (ztarget : Nat → Int32) (zplace : Nat → Int32) (zrun : Nat → Int32) (zstaged : Nat → Int32) (zisOpen : Nat → Int32) (zstagedAt : Nat → Int32) (zstagedContent : Nat → Int64) (zstagedRuns : Nat → Int32) (zstagedLazy : Nat → Int32) (zisDirty : Nat → Int32) (zcache : Nat → Int64) (zhold : Nat → Int64) (zmet : Int32) (zrow : Nat → Int64) (p1 : Int32) {y : (Int32)} (hf : pf_MO_isOpenStep N zsteps zisOpen p1 = some y) (sz : Nat) : Met l y_MO_isOpenStep ww_MO_isOpenStep ({ frames := 0, cells := 0, slots := 0, locals := 0 }) (va_Pc [.ref (a 0), .int p1] (zB (dC, dI) zCl (t_MO k) (w_MO a k zpaths zsteps zcached zholds zinside zowner zmaker zcontent zruns zisThere ztarget zplace zrun zstaged zisOpen zstagedAt zstagedContent zstagedRuns zstagedLazy zisDirty zcache zhold zmet zrow) sz)) (zQi (dC, dI) zCl (w_MO a k zpaths zsteps zcached zholds zinside zowner zmaker zcontent zruns zisThere ztarget zplace zrun zstaged zisOpen zstagedAt zstagedContent zstagedRuns zstagedLazy zisDirty zcache zhold zmet zrow) sz y (w_MO a k zpaths zsteps zcached zholds zinside zowner zmaker zcontent zruns zisThere ztarget zplace zrun zstaged zisOpen zstagedAt zstagedContent zstagedRuns zstagedLazy zisDirty zcache zhold zmet zrow)) 0 0 (va_A (w_MO a k zpaths zsteps zcached zholds zinside zowner zmaker zcontent zruns zisThere ztarget zplace zrun zstaged zisOpen zstagedAt zstagedContent zstagedRuns zstagedLazy zisDirty zcache zhold zmet zrow) sz) := by
  refine Met.ofW (cc := b_MO_isOpenStep) (maxL := 2) (ret := (some .boolean)) (by decide) rfl ?_
  intro p e s m args below meth c s₁ B hml hv
  obtain ⟨rfl, rfl, hP, hK, hD, hN⟩ := hv
  have hx := B.exec
  have hb := B.bytes
  have hr := B.returns
  have hts := atoms_spec (ws := ww_MO_isOpenStep) B.pre
  have hown : s.vm.findClass R_MO = some m.cls := findClass_of_methodNamed B.named
  have hlocks := B.notSynchronized
  have hA : ∀ q : Nat, s.heap.size ≤ q → va_A (w_MO a k zpaths zsteps zcached zholds zinside zowner zmaker zcontent zruns zisThere ztarget zplace zrun zstaged zisOpen zstagedAt zstagedContent zstagedRuns zstagedLazy zisDirty zcache zhold zmet zrow) s.heap.size q := fun q h => Or.inr h
  refine z_start (lv := [(0, .ref (a 0)), (1, .int p1)]) (Nat.le_of_ble_eq_true rfl) rfl hP hD (fun H locs ls hP hD hS hl => ?_)
  unfold pf_MO_isOpenStep at hf
  refine lv_iload_n hx hb d_MO_isOpenStep_0 rfl (lv_at hl 1 rfl) ?_
  refine lv_if_lt (tgt := 41) hx hb d_MO_isOpenStep_1 (by decide) (fun c1 => ?_) (fun c1 => ?_)
  · have hf := z_t c1 hf
    refine lv_iconst (v := (0 : Int32)) hx hb d_MO_isOpenStep_41 (by decide) ?_
    obtain rfl := Option.some.inj hf
    exact z_zret hx hb hr (Or.inl rfl) hP hD hS d_MO_isOpenStep_42 hlocks
  · have hf := z_f c1 hf
    refine lv_iload_n hx hb d_MO_isOpenStep_4 rfl (lv_at hl 1 rfl) ?_
    refine lv_aload_n hx hb d_MO_isOpenStep_5 rfl (lv_at hl 0 rfl) ?_
    refine va_get (D := (dC, dI)) (ci := 7) (v := .int zsteps) (C := R_MO) (T := F_MO) (N := 24) hx hb hts (fun w h => List.mem_cons_of_mem _ (in_MO w h)) hown hK hP 0 rfl rfl 1 (by decide) (hts _ (List.mem_cons_of_mem _ k_2_162)) (fun _ h9 => h9) rfl d_MO_isOpenStep_6 ?_
    refine lv_icmp_ge (tgt := 41) hx hb d_MO_isOpenStep_9 (by decide) (fun c2 => ?_) (fun c2 => ?_)
    · have hf := z_t c2 hf
      refine lv_iconst (v := (0 : Int32)) hx hb d_MO_isOpenStep_41 (by decide) ?_
      obtain rfl := Option.some.inj hf
      exact z_zret hx hb hr (Or.inl rfl) hP hD hS d_MO_isOpenStep_42 hlocks
    · have hf := z_f c2 hf
      refine lv_aload_n hx hb d_MO_isOpenStep_12 rfl (lv_at hl 0 rfl) ?_
      refine va_get (D := (dC, dI)) (ci := 7) (v := .ref (a 11)) (C := R_MO) (T := F_MO) (N := 24) hx hb hts (fun w h => List.mem_cons_of_mem _ (in_MO w h)) hown hK hP 0 rfl rfl 14 (by decide) (hts _ (List.mem_cons_of_mem _ k_2_175)) (fun _ h9 => h9) rfl d_MO_isOpenStep_13 ?_
      refine lv_iload_n hx hb d_MO_isOpenStep_16 rfl (lv_at hl 1 rfl) ?_
      refine lv_if_lt (tgt := 32) hx hb d_MO_isOpenStep_17 (by decide) (fun c3 => ?_) (fun c3 => ?_)
      · have hf := z_t c3 hf
        refine lv_iconst (v := (0 : Int32)) hx hb d_MO_isOpenStep_32 (by decide) ?_
        obtain ⟨g4, hf⟩ := z_gz hf
        refine va_zald hx hb hK hP 11 10 rfl rfl g4 d_MO_isOpenStep_33 ?_
        refine lv_if_eq (tgt := 41) hx hb d_MO_isOpenStep_34 (by decide) (fun c5 => ?_) (fun c5 => ?_)
        · have hf := z_t c5 hf
          refine lv_iconst (v := (0 : Int32)) hx hb d_MO_isOpenStep_41 (by decide) ?_
          obtain rfl := Option.some.inj hf
          exact z_zret hx hb hr (Or.inl rfl) hP hD hS d_MO_isOpenStep_42 hlocks
        · have hf := z_f c5 hf
          refine lv_iconst (v := (1 : Int32)) hx hb d_MO_isOpenStep_37 (by decide) ?_
          refine lv_goto (tgt := 42) hx hb d_MO_isOpenStep_38 (by decide) ?_
          obtain rfl := Option.some.inj hf
          exact z_zret hx hb hr (Or.inr rfl) hP hD hS d_MO_isOpenStep_42 hlocks
      · have hf := z_f c3 hf
        refine lv_iload_n hx hb d_MO_isOpenStep_20 rfl (lv_at hl 1 rfl) ?_
        refine lv_aload_n hx hb d_MO_isOpenStep_21 rfl (lv_at hl 0 rfl) ?_
        refine va_get (D := (dC, dI)) (ci := 7) (v := .int zsteps) (C := R_MO) (T := F_MO) (N := 24) hx hb hts (fun w h => List.mem_cons_of_mem _ (in_MO w h)) hown hK hP 0 rfl rfl 1 (by decide) (hts _ (List.mem_cons_of_mem _ k_2_162)) (fun _ h9 => h9) rfl d_MO_isOpenStep_22 ?_
        refine lv_icmp_ge (tgt := 32) hx hb d_MO_isOpenStep_25 (by decide) (fun c6 => ?_) (fun c6 => ?_)
        · have hf := z_t c6 hf
          refine lv_iconst (v := (0 : Int32)) hx hb d_MO_isOpenStep_32 (by decide) ?_
          obtain ⟨g7, hf⟩ := z_gz hf
          refine va_zald hx hb hK hP 11 10 rfl rfl g7 d_MO_isOpenStep_33 ?_
          refine lv_if_eq (tgt := 41) hx hb d_MO_isOpenStep_34 (by decide) (fun c8 => ?_) (fun c8 => ?_)
          · have hf := z_t c8 hf
            refine lv_iconst (v := (0 : Int32)) hx hb d_MO_isOpenStep_41 (by decide) ?_
            obtain rfl := Option.some.inj hf
            exact z_zret hx hb hr (Or.inl rfl) hP hD hS d_MO_isOpenStep_42 hlocks
          · have hf := z_f c8 hf
            refine lv_iconst (v := (1 : Int32)) hx hb d_MO_isOpenStep_37 (by decide) ?_
            refine lv_goto (tgt := 42) hx hb d_MO_isOpenStep_38 (by decide) ?_
            obtain rfl := Option.some.inj hf
            exact z_zret hx hb hr (Or.inr rfl) hP hD hS d_MO_isOpenStep_42 hlocks
        · have hf := z_f c6 hf
          refine lv_iload_n hx hb d_MO_isOpenStep_28 rfl (lv_at hl 1 rfl) ?_
          refine lv_goto (tgt := 33) hx hb d_MO_isOpenStep_29 (by decide) ?_
          obtain ⟨g9, hf⟩ := z_gz hf
          refine va_zald hx hb hK hP 11 10 rfl rfl g9 d_MO_isOpenStep_33 ?_
          refine lv_if_eq (tgt := 41) hx hb d_MO_isOpenStep_34 (by decide) (fun c10 => ?_) (fun c10 => ?_)
          · have hf := z_t c10 hf
            refine lv_iconst (v := (0 : Int32)) hx hb d_MO_isOpenStep_41 (by decide) ?_
            obtain rfl := Option.some.inj hf
            exact z_zret hx hb hr (Or.inl rfl) hP hD hS d_MO_isOpenStep_42 hlocks
          · have hf := z_f c10 hf
            refine lv_iconst (v := (1 : Int32)) hx hb d_MO_isOpenStep_37 (by decide) ?_
            refine lv_goto (tgt := 42) hx hb d_MO_isOpenStep_38 (by decide) ?_
            obtain rfl := Option.some.inj hf
            exact z_zret hx hb hr (Or.inr rfl) hP hD hS d_MO_isOpenStep_42 hlocks
set_option maxHeartbeats 4000000 in
set_option maxRecDepth 100000 in
theorem c_MO_path (l : Launch) (dC : Nat → ClassId) (dI : Nat → Nat → Nat) (N : Nat) (a : Nat → Nat) (k : Nat → ClassId) (zpaths : Int32) (zsteps : Int32) (zcached : Int32) (zholds : Int32) (zinside : Nat → Int32) (zowner : Nat → Int32) (zmaker : Nat → Int32) (zcontent : Nat → Int64) (zruns : Nat → Int32) (zisThere : Nat → Int32) (ztarget : Nat → Int32) (zplace : Nat → Int32) (zrun : Nat → Int32) (zstaged : Nat → Int32) (zisOpen : Nat → Int32) (zstagedAt : Nat → Int32) (zstagedContent : Nat → Int64) (zstagedRuns : Nat → Int32) (zstagedLazy : Nat → Int32) (zisDirty : Nat → Int32) (zcache : Nat → Int64) (zhold : Nat → Int64) (zmet : Int32) (zrow : Nat → Int64) (p1 : Int32) {y : (Int32 × Int32 × (Nat → Int32))} (hf : pf_MO_path N zpaths zinside p1 = some y) (sz : Nat) : Met l y_MO_path ww_MO_path ({ frames := 1, cells := 0, slots := 0, locals := 21 }) (va_Pc [.ref (a 0), .int p1] (zB (dC, dI) zCl (t_MO k) (w_MO a k zpaths zsteps zcached zholds zinside zowner zmaker zcontent zruns zisThere ztarget zplace zrun zstaged zisOpen zstagedAt zstagedContent zstagedRuns zstagedLazy zisDirty zcache zhold zmet zrow) sz)) (zQi (dC, dI) zCl (w_MO a k zpaths zsteps zcached zholds zinside zowner zmaker zcontent zruns zisThere ztarget zplace zrun zstaged zisOpen zstagedAt zstagedContent zstagedRuns zstagedLazy zisDirty zcache zhold zmet zrow) sz y.1 (w_MO a k y.2.1 zsteps zcached zholds y.2.2 zowner zmaker zcontent zruns zisThere ztarget zplace zrun zstaged zisOpen zstagedAt zstagedContent zstagedRuns zstagedLazy zisDirty zcache zhold zmet zrow)) 0 0 (va_A (w_MO a k zpaths zsteps zcached zholds zinside zowner zmaker zcontent zruns zisThere ztarget zplace zrun zstaged zisOpen zstagedAt zstagedContent zstagedRuns zstagedLazy zisDirty zcache zhold zmet zrow) sz) := by
  refine Met.ofW (cc := b_MO_path) (maxL := 2) (ret := (some .int)) (by decide) rfl ?_
  intro p e s m args below meth c s₁ B hml hv
  obtain ⟨rfl, rfl, hP, hK, hD, hN⟩ := hv
  have hx := B.exec
  have hb := B.bytes
  have hr := B.returns
  have hts := atoms_spec (ws := ww_MO_path) B.pre
  have hown : s.vm.findClass R_MO = some m.cls := findClass_of_methodNamed B.named
  have hlocks := B.notSynchronized
  have hA : ∀ q : Nat, s.heap.size ≤ q → va_A (w_MO a k zpaths zsteps zcached zholds zinside zowner zmaker zcontent zruns zisThere ztarget zplace zrun zstaged zisOpen zstagedAt zstagedContent zstagedRuns zstagedLazy zisDirty zcache zhold zmet zrow) s.heap.size q := fun q h => Or.inr h
  refine z_start (lv := [(0, .ref (a 0)), (1, .int p1)]) (Nat.le_of_ble_eq_true rfl) rfl hP hD (fun H locs ls hP hD hS hl => ?_)
  unfold pf_MO_path at hf
  refine lv_aload_n hx hb d_MO_path_0 rfl (lv_at hl 0 rfl) ?_
  refine va_get (D := (dC, dI)) (ci := 7) (v := .int zpaths) (C := R_MO) (T := F_MO) (N := 24) hx hb hts (fun w h => List.mem_cons_of_mem _ (in_MO w h)) hown hK hP 0 rfl rfl 0 (by decide) (hts _ (List.mem_cons_of_mem _ k_2_161)) (fun _ h9 => h9) rfl d_MO_path_1 ?_
  refine lv_bipush (v := (nI 40)) hx hb d_MO_path_4 (by decide) ?_
  refine lv_icmp_eq (tgt := 22) hx hb d_MO_path_6 (by decide) (fun c1 => ?_) (fun c1 => ?_)
  · have hf := z_t c1 hf
    refine lv_iconst (v := (-1 : Int32)) hx hb d_MO_path_22 (by decide) ?_
    obtain rfl := Option.some.inj hf
    exact z_iret hx hb hr hP hD hS d_MO_path_23 hlocks
  · have hf := z_f c1 hf
    refine lv_iload_n hx hb d_MO_path_9 rfl (lv_at hl 1 rfl) ?_
    refine lv_iconst (v := (-1 : Int32)) hx hb d_MO_path_10 (by decide) ?_
    refine lv_icmp_eq (tgt := 24) hx hb d_MO_path_11 (by decide) (fun c2 => ?_) (fun c2 => ?_)
    · have hf := z_t c2 hf
      refine lv_aload_n hx hb d_MO_path_24 rfl (lv_at hl 0 rfl) ?_
      refine va_get (D := (dC, dI)) (ci := 7) (v := .ref (a 1)) (C := R_MO) (T := F_MO) (N := 24) hx hb hts (fun w h => List.mem_cons_of_mem _ (in_MO w h)) hown hK hP 0 rfl rfl 4 (by decide) (hts _ (List.mem_cons_of_mem _ k_2_165)) (fun _ h9 => h9) rfl d_MO_path_25 ?_
      refine lv_aload_n hx hb d_MO_path_28 rfl (lv_at hl 0 rfl) ?_
      refine va_get (D := (dC, dI)) (ci := 7) (v := .int zpaths) (C := R_MO) (T := F_MO) (N := 24) hx hb hts (fun w h => List.mem_cons_of_mem _ (in_MO w h)) hown hK hP 0 rfl rfl 0 (by decide) (hts _ (List.mem_cons_of_mem _ k_2_161)) (fun _ h9 => h9) rfl d_MO_path_29 ?_
      refine lv_iload_n hx hb d_MO_path_32 rfl (lv_at hl 1 rfl) ?_
      obtain ⟨g3, hf⟩ := z_gz hf
      refine va_iast hx hb hK hP hD hS 1 0 rfl rfl g3 d_MO_path_33 (fun H locs hP hD hS => ?_)
      have hP : va_P (dC, dI) zCl (w_MO a k zpaths zsteps zcached zholds (upd zinside zpaths.toNatClampNeg p1) zowner zmaker zcontent zruns zisThere ztarget zplace zrun zstaged zisOpen zstagedAt zstagedContent zstagedRuns zstagedLazy zisDirty zcache zhold zmet zrow) H := hP
      have hD : va_D _ (w_MO a k zpaths zsteps zcached zholds (upd zinside zpaths.toNatClampNeg p1) zowner zmaker zcontent zruns zisThere ztarget zplace zrun zstaged zisOpen zstagedAt zstagedContent zstagedRuns zstagedLazy zisDirty zcache zhold zmet zrow) := hD
      refine lv_aload_n hx hb d_MO_path_34 rfl (lv_at hl 0 rfl) ?_
      refine lv_dup hx hb d_MO_path_35 rfl ?_
      refine va_get (D := (dC, dI)) (ci := 7) (v := .int zpaths) (C := R_MO) (T := F_MO) (N := 24) hx hb hts (fun w h => List.mem_cons_of_mem _ (in_MO w h)) hown hK hP 0 rfl rfl 0 (by decide) (hts _ (List.mem_cons_of_mem _ k_2_161)) (fun _ h9 => h9) rfl d_MO_path_36 ?_
      refine lv_iconst (v := (1 : Int32)) hx hb d_MO_path_39 (by decide) ?_
      refine lv_iadd hx hb d_MO_path_40 ?_
      refine va_put (D := (dC, dI)) (ci := 7) (v := .int (zpaths + (1 : Int32))) (ty := .int) (C := R_MO) (T := F_MO) (N := 24) hx hb hts (fun w h => List.mem_cons_of_mem _ (in_MO w h)) ty_MO ty_MO_ok nm_MO hown hK hP hD hS 0 rfl rfl 0 (by decide) (hts _ (List.mem_cons_of_mem _ k_2_161)) (fun _ h9 => h9) rfl (by decide +kernel) rfl rfl (Nat.le_of_ble_eq_true rfl) d_MO_path_41 (fun H locs hP hD hS => ?_)
      have hP : va_P (dC, dI) zCl (w_MO a k (zpaths + (1 : Int32)) zsteps zcached zholds (upd zinside zpaths.toNatClampNeg p1) zowner zmaker zcontent zruns zisThere ztarget zplace zrun zstaged zisOpen zstagedAt zstagedContent zstagedRuns zstagedLazy zisDirty zcache zhold zmet zrow) H := hP
      have hD : va_D _ (w_MO a k (zpaths + (1 : Int32)) zsteps zcached zholds (upd zinside zpaths.toNatClampNeg p1) zowner zmaker zcontent zruns zisThere ztarget zplace zrun zstaged zisOpen zstagedAt zstagedContent zstagedRuns zstagedLazy zisDirty zcache zhold zmet zrow) := hD
      refine lv_aload_n hx hb d_MO_path_44 rfl (lv_at hl 0 rfl) ?_
      refine va_get (D := (dC, dI)) (ci := 7) (v := .int (zpaths + (1 : Int32))) (C := R_MO) (T := F_MO) (N := 24) hx hb hts (fun w h => List.mem_cons_of_mem _ (in_MO w h)) hown hK hP 0 rfl rfl 0 (by decide) (hts _ (List.mem_cons_of_mem _ k_2_161)) (fun _ h9 => h9) rfl d_MO_path_45 ?_
      refine lv_iconst (v := (1 : Int32)) hx hb d_MO_path_48 (by decide) ?_
      refine lv_isub hx hb d_MO_path_49 ?_
      obtain rfl := Option.some.inj hf
      exact z_iret hx hb hr hP hD hS d_MO_path_50 hlocks
    · have hf := z_f c2 hf
      refine lv_aload_n hx hb d_MO_path_14 rfl (lv_at hl 0 rfl) ?_
      refine lv_iload_n hx hb d_MO_path_15 rfl (lv_at hl 1 rfl) ?_
      obtain ⟨u0, hu0, hf⟩ := z_b hf
      have hPc := hP
      have hDc := hD
      have hKc := hK
      refine z_cwi (va_runV (As := [.int p1]) (rest := []) ⟨hx, hb, hml, hown, hts⟩ (c_MO_isPath l dC dI N a k zpaths zsteps zcached zholds zinside zowner zmaker zcontent zruns zisThere ztarget zplace zrun zstaged zisOpen zstagedAt zstagedContent zstagedRuns zstagedLazy zisDirty zcache zhold zmet zrow p1 hu0 H.size) (cwV 1 hts (zGV zsub_c k_2_238 k_3_0 s_MO_isPath k_1_8 kc_MO_isPath) rfl rfl rfl (by decide +kernel) ⟨Nat.le_of_ble_eq_true rfl, Nat.le_of_ble_eq_true rfl⟩) ⟨z_bl, va_recv hKc hPc (ci := 7) (q0 := 0) rfl rfl, fun U hU hW => ⟨rfl, z_pre hN hKc hPc hDc U hU hW⟩⟩ rfl rfl hl.1 rfl (lv_room (Nat.le_of_ble_eq_true rfl)) d_MO_path_16 ⟨Nat.zero_le _, Nat.zero_le _⟩) hD hS hA (fun H locs hP hD hS => ?_)
      refine lv_if_ne (tgt := 24) hx hb d_MO_path_19 (by decide) (fun c4 => ?_) (fun c4 => ?_)
      · have hf := z_t c4 hf
        refine lv_aload_n hx hb d_MO_path_24 rfl (lv_at hl 0 rfl) ?_
        refine va_get (D := (dC, dI)) (ci := 7) (v := .ref (a 1)) (C := R_MO) (T := F_MO) (N := 24) hx hb hts (fun w h => List.mem_cons_of_mem _ (in_MO w h)) hown hK hP 0 rfl rfl 4 (by decide) (hts _ (List.mem_cons_of_mem _ k_2_165)) (fun _ h9 => h9) rfl d_MO_path_25 ?_
        refine lv_aload_n hx hb d_MO_path_28 rfl (lv_at hl 0 rfl) ?_
        refine va_get (D := (dC, dI)) (ci := 7) (v := .int zpaths) (C := R_MO) (T := F_MO) (N := 24) hx hb hts (fun w h => List.mem_cons_of_mem _ (in_MO w h)) hown hK hP 0 rfl rfl 0 (by decide) (hts _ (List.mem_cons_of_mem _ k_2_161)) (fun _ h9 => h9) rfl d_MO_path_29 ?_
        refine lv_iload_n hx hb d_MO_path_32 rfl (lv_at hl 1 rfl) ?_
        obtain ⟨g5, hf⟩ := z_gz hf
        refine va_iast hx hb hK hP hD hS 1 0 rfl rfl g5 d_MO_path_33 (fun H locs hP hD hS => ?_)
        have hP : va_P (dC, dI) zCl (w_MO a k zpaths zsteps zcached zholds (upd zinside zpaths.toNatClampNeg p1) zowner zmaker zcontent zruns zisThere ztarget zplace zrun zstaged zisOpen zstagedAt zstagedContent zstagedRuns zstagedLazy zisDirty zcache zhold zmet zrow) H := hP
        have hD : va_D _ (w_MO a k zpaths zsteps zcached zholds (upd zinside zpaths.toNatClampNeg p1) zowner zmaker zcontent zruns zisThere ztarget zplace zrun zstaged zisOpen zstagedAt zstagedContent zstagedRuns zstagedLazy zisDirty zcache zhold zmet zrow) := hD
        refine lv_aload_n hx hb d_MO_path_34 rfl (lv_at hl 0 rfl) ?_
        refine lv_dup hx hb d_MO_path_35 rfl ?_
        refine va_get (D := (dC, dI)) (ci := 7) (v := .int zpaths) (C := R_MO) (T := F_MO) (N := 24) hx hb hts (fun w h => List.mem_cons_of_mem _ (in_MO w h)) hown hK hP 0 rfl rfl 0 (by decide) (hts _ (List.mem_cons_of_mem _ k_2_161)) (fun _ h9 => h9) rfl d_MO_path_36 ?_
        refine lv_iconst (v := (1 : Int32)) hx hb d_MO_path_39 (by decide) ?_
        refine lv_iadd hx hb d_MO_path_40 ?_
        refine va_put (D := (dC, dI)) (ci := 7) (v := .int (zpaths + (1 : Int32))) (ty := .int) (C := R_MO) (T := F_MO) (N := 24) hx hb hts (fun w h => List.mem_cons_of_mem _ (in_MO w h)) ty_MO ty_MO_ok nm_MO hown hK hP hD hS 0 rfl rfl 0 (by decide) (hts _ (List.mem_cons_of_mem _ k_2_161)) (fun _ h9 => h9) rfl (by decide +kernel) rfl rfl (Nat.le_of_ble_eq_true rfl) d_MO_path_41 (fun H locs hP hD hS => ?_)
        have hP : va_P (dC, dI) zCl (w_MO a k (zpaths + (1 : Int32)) zsteps zcached zholds (upd zinside zpaths.toNatClampNeg p1) zowner zmaker zcontent zruns zisThere ztarget zplace zrun zstaged zisOpen zstagedAt zstagedContent zstagedRuns zstagedLazy zisDirty zcache zhold zmet zrow) H := hP
        have hD : va_D _ (w_MO a k (zpaths + (1 : Int32)) zsteps zcached zholds (upd zinside zpaths.toNatClampNeg p1) zowner zmaker zcontent zruns zisThere ztarget zplace zrun zstaged zisOpen zstagedAt zstagedContent zstagedRuns zstagedLazy zisDirty zcache zhold zmet zrow) := hD
        refine lv_aload_n hx hb d_MO_path_44 rfl (lv_at hl 0 rfl) ?_
        refine va_get (D := (dC, dI)) (ci := 7) (v := .int (zpaths + (1 : Int32))) (C := R_MO) (T := F_MO) (N := 24) hx hb hts (fun w h => List.mem_cons_of_mem _ (in_MO w h)) hown hK hP 0 rfl rfl 0 (by decide) (hts _ (List.mem_cons_of_mem _ k_2_161)) (fun _ h9 => h9) rfl d_MO_path_45 ?_
        refine lv_iconst (v := (1 : Int32)) hx hb d_MO_path_48 (by decide) ?_
        refine lv_isub hx hb d_MO_path_49 ?_
        obtain rfl := Option.some.inj hf
        exact z_iret hx hb hr hP hD hS d_MO_path_50 hlocks
      · have hf := z_fn c4 hf
        refine lv_iconst (v := (-1 : Int32)) hx hb d_MO_path_22 (by decide) ?_
        obtain rfl := Option.some.inj hf
        exact z_iret hx hb hr hP hD hS d_MO_path_23 hlocks
set_option maxHeartbeats 4000000 in
set_option maxRecDepth 100000 in
theorem c_MO_isWithin (l : Launch) (dC : Nat → ClassId) (dI : Nat → Nat → Nat) (N : Nat) (a : Nat → Nat) (k : Nat → ClassId) (zpaths : Int32) (zsteps : Int32) (zcached : Int32) (zholds : Int32) (zinside : Nat → Int32) (zowner : Nat → Int32) (zmaker : Nat → Int32) (zcontent : Nat → Int64) (zruns : Nat → Int32) (zisThere : Nat → Int32) (ztarget : Nat → Int32) (zplace : Nat → Int32) (zrun : Nat → Int32) (zstaged : Nat → Int32) (zisOpen : Nat → Int32) (zstagedAt : Nat → Int32) (zstagedContent : Nat → Int64) (zstagedRuns : Nat → Int32) (zstagedLazy : Nat → Int32) (zisDirty : Nat → Int32) (zcache : Nat → Int64) (zhold : Nat → Int64) (zmet : Int32) (zrow : Nat → Int64) (p1 : Int32) (p2 : Int32) {y : (Int32)} (hf : pf_MO_isWithin N zinside p1 p2 = some y) (sz : Nat) : Met l y_MO_isWithin ww_MO_isWithin ({ frames := 0, cells := 0, slots := 0, locals := 0 }) (va_Pc [.ref (a 0), .int p1, .int p2] (zB (dC, dI) zCl (t_MO k) (w_MO a k zpaths zsteps zcached zholds zinside zowner zmaker zcontent zruns zisThere ztarget zplace zrun zstaged zisOpen zstagedAt zstagedContent zstagedRuns zstagedLazy zisDirty zcache zhold zmet zrow) sz)) (zQi (dC, dI) zCl (w_MO a k zpaths zsteps zcached zholds zinside zowner zmaker zcontent zruns zisThere ztarget zplace zrun zstaged zisOpen zstagedAt zstagedContent zstagedRuns zstagedLazy zisDirty zcache zhold zmet zrow) sz y (w_MO a k zpaths zsteps zcached zholds zinside zowner zmaker zcontent zruns zisThere ztarget zplace zrun zstaged zisOpen zstagedAt zstagedContent zstagedRuns zstagedLazy zisDirty zcache zhold zmet zrow)) 0 0 (va_A (w_MO a k zpaths zsteps zcached zholds zinside zowner zmaker zcontent zruns zisThere ztarget zplace zrun zstaged zisOpen zstagedAt zstagedContent zstagedRuns zstagedLazy zisDirty zcache zhold zmet zrow) sz) := by
  refine Met.ofW (cc := b_MO_isWithin) (maxL := 4) (ret := (some .boolean)) (by decide) rfl ?_
  intro p e s m args below meth c s₁ B hml hv
  obtain ⟨rfl, rfl, hP, hK, hD, hN⟩ := hv
  have hx := B.exec
  have hb := B.bytes
  have hr := B.returns
  have hts := atoms_spec (ws := ww_MO_isWithin) B.pre
  have hown : s.vm.findClass R_MO = some m.cls := findClass_of_methodNamed B.named
  have hlocks := B.notSynchronized
  have hA : ∀ q : Nat, s.heap.size ≤ q → va_A (w_MO a k zpaths zsteps zcached zholds zinside zowner zmaker zcontent zruns zisThere ztarget zplace zrun zstaged zisOpen zstagedAt zstagedContent zstagedRuns zstagedLazy zisDirty zcache zhold zmet zrow) s.heap.size q := fun q h => Or.inr h
  refine z_start (lv := [(0, .ref (a 0)), (1, .int p1), (2, .int p2)]) (Nat.le_of_ble_eq_true rfl) rfl hP hD (fun H locs ls hP hD hS hl => ?_)
  unfold pf_MO_isWithin at hf
  refine lv_aload_n hx hb d_MO_isWithin_0 rfl (lv_at hl 0 rfl) ?_
  refine va_get (D := (dC, dI)) (ci := 7) (v := .ref (a 1)) (C := R_MO) (T := F_MO) (N := 24) hx hb hts (fun w h => List.mem_cons_of_mem _ (in_MO w h)) hown hK hP 0 rfl rfl 4 (by decide) (hts _ (List.mem_cons_of_mem _ k_2_165)) (fun _ h9 => h9) rfl d_MO_isWithin_1 ?_
  refine lv_iload_n hx hb d_MO_isWithin_4 rfl (lv_at hl 1 rfl) ?_
  obtain ⟨g1, hf⟩ := z_gz hf
  refine va_iald hx hb hK hP 1 0 rfl rfl g1 d_MO_isWithin_5 ?_
  refine lv_istore_n (lv' := [(3, .int (zinside p1.toNatClampNeg)), (0, .ref (a 0)), (1, .int p1), (2, .int p2)]) hx hb d_MO_isWithin_6 rfl hl (by decide) rfl (fun ls hl => ?_)
  have loop7 : ∀ (n : Nat) (x3 : Int32), pf_MO_isWithin_L7 N zinside p2 n x3 = some y → ∀ (H : Heap) (locs : List Loc) (ls : Array Slot), va_P (dC, dI) zCl (w_MO a k zpaths zsteps zcached zholds zinside zowner zmaker zcontent zruns zisThere ztarget zplace zrun zstaged zisOpen zstagedAt zstagedContent zstagedRuns zstagedLazy zisDirty zcache zhold zmet zrow) H → va_D (va_A (w_MO a k zpaths zsteps zcached zholds zinside zowner zmaker zcontent zruns zisThere ztarget zplace zrun zstaged zisOpen zstagedAt zstagedContent zstagedRuns zstagedLazy zisDirty zcache zhold zmet zrow) s.heap.size) (w_MO a k zpaths zsteps zcached zholds zinside zowner zmaker zcontent zruns zisThere ztarget zplace zrun zstaged zisOpen zstagedAt zstagedContent zstagedRuns zstagedLazy zisDirty zcache zhold zmet zrow) → va_S (va_A (w_MO a k zpaths zsteps zcached zholds zinside zowner zmaker zcontent zruns zisThere ztarget zplace zrun zstaged zisOpen zstagedAt zstagedContent zstagedRuns zstagedLazy zisDirty zcache zhold zmet zrow) s.heap.size) s.heap H locs → lv_has ls 4 [(0, .ref (a 0)), (1, .int p1), (2, .int p2), (3, .int x3)] → W p l e (headSpec ww_MO_isWithin ({ frames := 0, cells := 0, slots := 0, locals := 0 })).room s m ([.ref (a 0), .int p1, .int p2] : List Value).toArray below meth c H locs 0 0 (MQ below (zQi (dC, dI) zCl (w_MO a k zpaths zsteps zcached zholds zinside zowner zmaker zcontent zruns zisThere ztarget zplace zrun zstaged zisOpen zstagedAt zstagedContent zstagedRuns zstagedLazy zisDirty zcache zhold zmet zrow) s.heap.size y (w_MO a k zpaths zsteps zcached zholds zinside zowner zmaker zcontent zruns zisThere ztarget zplace zrun zstaged zisOpen zstagedAt zstagedContent zstagedRuns zstagedLazy zisDirty zcache zhold zmet zrow)) ([.ref (a 0), .int p1, .int p2] : List Value).toArray s 0 0 (va_A (w_MO a k zpaths zsteps zcached zholds zinside zowner zmaker zcontent zruns zisThere ztarget zplace zrun zstaged zisOpen zstagedAt zstagedContent zstagedRuns zstagedLazy zisDirty zcache zhold zmet zrow) s.heap.size)) (F0 m 7 ls []) := by
    intro n7
    induction n7 with
    | zero => intro x3 hf; rw [pf_MO_isWithin_L7.eq_1] at hf; cases hf
    | succ n7 ih7 =>
      intro x3 hf H locs ls hP hD hS hl
      rw [pf_MO_isWithin_L7.eq_2] at hf
      refine lv_iload_n hx hb d_MO_isWithin_7 rfl (lv_at hl 3 rfl) ?_
      refine lv_iconst (v := (-1 : Int32)) hx hb d_MO_isWithin_8 (by decide) ?_
      refine lv_icmp_eq (tgt := 27) hx hb d_MO_isWithin_9 (by decide) (fun c2 => ?_) (fun c2 => ?_)
      · have hf := z_t c2 hf
        refine lv_iload_n hx hb d_MO_isWithin_27 rfl (lv_at hl 3 rfl) ?_
        refine lv_iload_n hx hb d_MO_isWithin_28 rfl (lv_at hl 2 rfl) ?_
        refine lv_icmp_ne (tgt := 36) hx hb d_MO_isWithin_29 (by decide) (fun c3 => ?_) (fun c3 => ?_)
        · have hf := z_t c3 hf
          refine lv_iconst (v := (0 : Int32)) hx hb d_MO_isWithin_36 (by decide) ?_
          obtain rfl := Option.some.inj hf
          exact z_zret hx hb hr (Or.inl rfl) hP hD hS d_MO_isWithin_37 hlocks
        · have hf := z_fn c3 hf
          refine lv_iconst (v := (1 : Int32)) hx hb d_MO_isWithin_32 (by decide) ?_
          refine lv_goto (tgt := 37) hx hb d_MO_isWithin_33 (by decide) ?_
          obtain rfl := Option.some.inj hf
          exact z_zret hx hb hr (Or.inr rfl) hP hD hS d_MO_isWithin_37 hlocks
      · have hf := z_f c2 hf
        refine lv_iload_n hx hb d_MO_isWithin_12 rfl (lv_at hl 3 rfl) ?_
        refine lv_iload_n hx hb d_MO_isWithin_13 rfl (lv_at hl 2 rfl) ?_
        refine lv_icmp_eq (tgt := 27) hx hb d_MO_isWithin_14 (by decide) (fun c4 => ?_) (fun c4 => ?_)
        · have hf := z_t c4 hf
          refine lv_iload_n hx hb d_MO_isWithin_27 rfl (lv_at hl 3 rfl) ?_
          refine lv_iload_n hx hb d_MO_isWithin_28 rfl (lv_at hl 2 rfl) ?_
          refine lv_icmp_ne (tgt := 36) hx hb d_MO_isWithin_29 (by decide) (fun c5 => ?_) (fun c5 => ?_)
          · have hf := z_t c5 hf
            refine lv_iconst (v := (0 : Int32)) hx hb d_MO_isWithin_36 (by decide) ?_
            obtain rfl := Option.some.inj hf
            exact z_zret hx hb hr (Or.inl rfl) hP hD hS d_MO_isWithin_37 hlocks
          · have hf := z_fn c5 hf
            refine lv_iconst (v := (1 : Int32)) hx hb d_MO_isWithin_32 (by decide) ?_
            refine lv_goto (tgt := 37) hx hb d_MO_isWithin_33 (by decide) ?_
            obtain rfl := Option.some.inj hf
            exact z_zret hx hb hr (Or.inr rfl) hP hD hS d_MO_isWithin_37 hlocks
        · have hf := z_f c4 hf
          refine lv_aload_n hx hb d_MO_isWithin_17 rfl (lv_at hl 0 rfl) ?_
          refine va_get (D := (dC, dI)) (ci := 7) (v := .ref (a 1)) (C := R_MO) (T := F_MO) (N := 24) hx hb hts (fun w h => List.mem_cons_of_mem _ (in_MO w h)) hown hK hP 0 rfl rfl 4 (by decide) (hts _ (List.mem_cons_of_mem _ k_2_165)) (fun _ h9 => h9) rfl d_MO_isWithin_18 ?_
          refine lv_iload_n hx hb d_MO_isWithin_21 rfl (lv_at hl 3 rfl) ?_
          obtain ⟨g6, hf⟩ := z_gz hf
          refine va_iald hx hb hK hP 1 0 rfl rfl g6 d_MO_isWithin_22 ?_
          refine lv_istore_n (lv' := [(3, .int (zinside x3.toNatClampNeg)), (0, .ref (a 0)), (1, .int p1), (2, .int p2)]) hx hb d_MO_isWithin_23 rfl hl (by decide) rfl (fun ls hl => ?_)
          refine lv_goto (tgt := 7) hx hb d_MO_isWithin_24 (by decide) ?_
          exact ih7 (zinside x3.toNatClampNeg) hf H locs ls hP hD hS (lv_sub hl [1, 2, 3, 0] rfl)
  exact loop7 N (zinside p1.toNatClampNeg) hf H locs ls hP hD hS (lv_sub hl [1, 2, 3, 0] rfl)
set_option maxHeartbeats 4000000 in
set_option maxRecDepth 100000 in
theorem c_MO_meet (l : Launch) (dC : Nat → ClassId) (dI : Nat → Nat → Nat) (N : Nat) (a : Nat → Nat) (k : Nat → ClassId) (zpaths : Int32) (zsteps : Int32) (zcached : Int32) (zholds : Int32) (zinside : Nat → Int32) (zowner : Nat → Int32) (zmaker : Nat → Int32) (zcontent : Nat → Int64) (zruns : Nat → Int32) (zisThere : Nat → Int32) (ztarget : Nat → Int32) (zplace : Nat → Int32) (zrun : Nat → Int32) (zstaged : Nat → Int32) (zisOpen : Nat → Int32) (zstagedAt : Nat → Int32) (zstagedContent : Nat → Int64) (zstagedRuns : Nat → Int32) (zstagedLazy : Nat → Int32) (zisDirty : Nat → Int32) (zcache : Nat → Int64) (zhold : Nat → Int64) (zmet : Int32) (zrow : Nat → Int64) (p1 : Int32) (p2 : Int32) {y : (Int32)} (hf : pf_MO_meet N zinside p1 p2 = some y) (sz : Nat) : Met l y_MO_meet ww_MO_meet ({ frames := 1, cells := 0, slots := 0, locals := 23 }) (va_Pc [.ref (a 0), .int p1, .int p2] (zB (dC, dI) zCl (t_MO k) (w_MO a k zpaths zsteps zcached zholds zinside zowner zmaker zcontent zruns zisThere ztarget zplace zrun zstaged zisOpen zstagedAt zstagedContent zstagedRuns zstagedLazy zisDirty zcache zhold zmet zrow) sz)) (zQi (dC, dI) zCl (w_MO a k zpaths zsteps zcached zholds zinside zowner zmaker zcontent zruns zisThere ztarget zplace zrun zstaged zisOpen zstagedAt zstagedContent zstagedRuns zstagedLazy zisDirty zcache zhold zmet zrow) sz y (w_MO a k zpaths zsteps zcached zholds zinside zowner zmaker zcontent zruns zisThere ztarget zplace zrun zstaged zisOpen zstagedAt zstagedContent zstagedRuns zstagedLazy zisDirty zcache zhold zmet zrow)) 0 0 (va_A (w_MO a k zpaths zsteps zcached zholds zinside zowner zmaker zcontent zruns zisThere ztarget zplace zrun zstaged zisOpen zstagedAt zstagedContent zstagedRuns zstagedLazy zisDirty zcache zhold zmet zrow) sz) := by
  refine Met.ofW (cc := b_MO_meet) (maxL := 3) (ret := (some .boolean)) (by decide) rfl ?_
  intro p e s m args below meth c s₁ B hml hv
  obtain ⟨rfl, rfl, hP, hK, hD, hN⟩ := hv
  have hx := B.exec
  have hb := B.bytes
  have hr := B.returns
  have hts := atoms_spec (ws := ww_MO_meet) B.pre
  have hown : s.vm.findClass R_MO = some m.cls := findClass_of_methodNamed B.named
  have hlocks := B.notSynchronized
  have hA : ∀ q : Nat, s.heap.size ≤ q → va_A (w_MO a k zpaths zsteps zcached zholds zinside zowner zmaker zcontent zruns zisThere ztarget zplace zrun zstaged zisOpen zstagedAt zstagedContent zstagedRuns zstagedLazy zisDirty zcache zhold zmet zrow) s.heap.size q := fun q h => Or.inr h
  refine z_start (lv := [(0, .ref (a 0)), (1, .int p1), (2, .int p2)]) (Nat.le_of_ble_eq_true rfl) rfl hP hD (fun H locs ls hP hD hS hl => ?_)
  unfold pf_MO_meet at hf
  refine lv_iload_n hx hb d_MO_meet_0 rfl (lv_at hl 1 rfl) ?_
  refine lv_iload_n hx hb d_MO_meet_1 rfl (lv_at hl 2 rfl) ?_
  refine lv_icmp_eq (tgt := 23) hx hb d_MO_meet_2 (by decide) (fun c1 => ?_) (fun c1 => ?_)
  · have hf := z_t c1 hf
    refine lv_iconst (v := (1 : Int32)) hx hb d_MO_meet_23 (by decide) ?_
    refine lv_goto (tgt := 28) hx hb d_MO_meet_24 (by decide) ?_
    obtain rfl := Option.some.inj hf
    exact z_zret hx hb hr (Or.inr rfl) hP hD hS d_MO_meet_28 hlocks
  · have hf := z_f c1 hf
    refine lv_aload_n hx hb d_MO_meet_5 rfl (lv_at hl 0 rfl) ?_
    refine lv_iload_n hx hb d_MO_meet_6 rfl (lv_at hl 1 rfl) ?_
    refine lv_iload_n hx hb d_MO_meet_7 rfl (lv_at hl 2 rfl) ?_
    obtain ⟨u0, hu0, hf⟩ := z_b hf
    have hPc := hP
    have hDc := hD
    have hKc := hK
    refine z_cwi (va_runV (As := [.int p1, .int p2]) (rest := []) ⟨hx, hb, hml, hown, hts⟩ (c_MO_isWithin l dC dI N a k zpaths zsteps zcached zholds zinside zowner zmaker zcontent zruns zisThere ztarget zplace zrun zstaged zisOpen zstagedAt zstagedContent zstagedRuns zstagedLazy zisDirty zcache zhold zmet zrow p1 p2 hu0 H.size) (cwV 2 hts (zGV zsub_c k_3_29 k_3_31 s_MO_isWithin k_1_8 kc_MO_isWithin) rfl rfl rfl (by decide +kernel) ⟨Nat.le_of_ble_eq_true rfl, Nat.le_of_ble_eq_true rfl⟩) ⟨z_bl, va_recv hKc hPc (ci := 7) (q0 := 0) rfl rfl, fun U hU hW => ⟨rfl, z_pre hN hKc hPc hDc U hU hW⟩⟩ rfl rfl hl.1 rfl (lv_room (Nat.le_of_ble_eq_true rfl)) d_MO_meet_8 ⟨Nat.zero_le _, Nat.zero_le _⟩) hD hS hA (fun H locs hP hD hS => ?_)
    refine lv_if_ne (tgt := 23) hx hb d_MO_meet_11 (by decide) (fun c2 => ?_) (fun c2 => ?_)
    · have hf := z_t c2 hf
      refine lv_iconst (v := (1 : Int32)) hx hb d_MO_meet_23 (by decide) ?_
      refine lv_goto (tgt := 28) hx hb d_MO_meet_24 (by decide) ?_
      obtain rfl := Option.some.inj hf
      exact z_zret hx hb hr (Or.inr rfl) hP hD hS d_MO_meet_28 hlocks
    · have hf := z_fn c2 hf
      refine lv_aload_n hx hb d_MO_meet_14 rfl (lv_at hl 0 rfl) ?_
      refine lv_iload_n hx hb d_MO_meet_15 rfl (lv_at hl 2 rfl) ?_
      refine lv_iload_n hx hb d_MO_meet_16 rfl (lv_at hl 1 rfl) ?_
      obtain ⟨u1, hu1, hf⟩ := z_b hf
      have hPc := hP
      have hDc := hD
      have hKc := hK
      refine z_cwi (va_runV (As := [.int p2, .int p1]) (rest := []) ⟨hx, hb, hml, hown, hts⟩ (c_MO_isWithin l dC dI N a k zpaths zsteps zcached zholds zinside zowner zmaker zcontent zruns zisThere ztarget zplace zrun zstaged zisOpen zstagedAt zstagedContent zstagedRuns zstagedLazy zisDirty zcache zhold zmet zrow p2 p1 hu1 H.size) (cwV 2 hts (zGV zsub_c k_3_29 k_3_31 s_MO_isWithin k_1_8 kc_MO_isWithin) rfl rfl rfl (by decide +kernel) ⟨Nat.le_of_ble_eq_true rfl, Nat.le_of_ble_eq_true rfl⟩) ⟨z_bl, va_recv hKc hPc (ci := 7) (q0 := 0) rfl rfl, fun U hU hW => ⟨rfl, z_pre hN hKc hPc hDc U hU hW⟩⟩ rfl rfl hl.1 rfl (lv_room (Nat.le_of_ble_eq_true rfl)) d_MO_meet_17 ⟨Nat.zero_le _, Nat.zero_le _⟩) hD hS hA (fun H locs hP hD hS => ?_)
      refine lv_if_eq (tgt := 27) hx hb d_MO_meet_20 (by decide) (fun c3 => ?_) (fun c3 => ?_)
      · have hf := z_t c3 hf
        refine lv_iconst (v := (0 : Int32)) hx hb d_MO_meet_27 (by decide) ?_
        obtain rfl := Option.some.inj hf
        exact z_zret hx hb hr (Or.inl rfl) hP hD hS d_MO_meet_28 hlocks
      · have hf := z_f c3 hf
        refine lv_iconst (v := (1 : Int32)) hx hb d_MO_meet_23 (by decide) ?_
        refine lv_goto (tgt := 28) hx hb d_MO_meet_24 (by decide) ?_
        obtain rfl := Option.some.inj hf
        exact z_zret hx hb hr (Or.inr rfl) hP hD hS d_MO_meet_28 hlocks
set_option maxHeartbeats 4000000 in
set_option maxRecDepth 100000 in
theorem c_MO_begin (l : Launch) (dC : Nat → ClassId) (dI : Nat → Nat → Nat) (N : Nat) (a : Nat → Nat) (k : Nat → ClassId) (zpaths : Int32) (zsteps : Int32) (zcached : Int32) (zholds : Int32) (zinside : Nat → Int32) (zowner : Nat → Int32) (zmaker : Nat → Int32) (zcontent : Nat → Int64) (zruns : Nat → Int32) (zisThere : Nat → Int32) (ztarget : Nat → Int32) (zplace : Nat → Int32) (zrun : Nat → Int32) (zstaged : Nat → Int32) (zisOpen : Nat → Int32) (zstagedAt : Nat → Int32) (zstagedContent : Nat → Int64) (zstagedRuns : Nat → Int32) (zstagedLazy : Nat → Int32) (zisDirty : Nat → Int32) (zcache : Nat → Int64) (zhold : Nat → Int64) (zmet : Int32) (zrow : Nat → Int64) (p1 : Int32) (p2 : Int32) (p3 : Int32) {y : (Int32 × Int32 × (Nat → Int32) × (Nat → Int32) × (Nat → Int32) × (Nat → Int32) × (Nat → Int32))} (hf : pf_MO_begin N zsteps ztarget zplace zrun zstaged zisOpen p1 p2 p3 = some y) (sz : Nat) : Met l y_MO_begin ww_MO_begin ({ frames := 1, cells := 0, slots := 0, locals := 21 }) (va_Pc [.ref (a 0), .int p1, .int p2, .int p3] (zB (dC, dI) zCl (t_MO k) (w_MO a k zpaths zsteps zcached zholds zinside zowner zmaker zcontent zruns zisThere ztarget zplace zrun zstaged zisOpen zstagedAt zstagedContent zstagedRuns zstagedLazy zisDirty zcache zhold zmet zrow) sz)) (zQi (dC, dI) zCl (w_MO a k zpaths zsteps zcached zholds zinside zowner zmaker zcontent zruns zisThere ztarget zplace zrun zstaged zisOpen zstagedAt zstagedContent zstagedRuns zstagedLazy zisDirty zcache zhold zmet zrow) sz y.1 (w_MO a k zpaths y.2.1 zcached zholds zinside zowner zmaker zcontent zruns zisThere y.2.2.1 y.2.2.2.1 y.2.2.2.2.1 y.2.2.2.2.2.1 y.2.2.2.2.2.2 zstagedAt zstagedContent zstagedRuns zstagedLazy zisDirty zcache zhold zmet zrow)) 0 0 (va_A (w_MO a k zpaths zsteps zcached zholds zinside zowner zmaker zcontent zruns zisThere ztarget zplace zrun zstaged zisOpen zstagedAt zstagedContent zstagedRuns zstagedLazy zisDirty zcache zhold zmet zrow) sz) := by
  refine Met.ofW (cc := b_MO_begin) (maxL := 5) (ret := (some .int)) (by decide) rfl ?_
  intro p e s m args below meth c s₁ B hml hv
  obtain ⟨rfl, rfl, hP, hK, hD, hN⟩ := hv
  have hx := B.exec
  have hb := B.bytes
  have hr := B.returns
  have hts := atoms_spec (ws := ww_MO_begin) B.pre
  have hown : s.vm.findClass R_MO = some m.cls := findClass_of_methodNamed B.named
  have hlocks := B.notSynchronized
  have hA : ∀ q : Nat, s.heap.size ≤ q → va_A (w_MO a k zpaths zsteps zcached zholds zinside zowner zmaker zcontent zruns zisThere ztarget zplace zrun zstaged zisOpen zstagedAt zstagedContent zstagedRuns zstagedLazy zisDirty zcache zhold zmet zrow) s.heap.size q := fun q h => Or.inr h
  refine z_start (lv := [(0, .ref (a 0)), (1, .int p1), (2, .int p2), (3, .int p3)]) (Nat.le_of_ble_eq_true rfl) rfl hP hD (fun H locs ls hP hD hS hl => ?_)
  unfold pf_MO_begin at hf
  refine lv_iload_n hx hb d_MO_begin_0 rfl (lv_at hl 1 rfl) ?_
  refine lv_bipush (v := (nI 11)) hx hb d_MO_begin_1 (by decide) ?_
  obtain ⟨u0, hu0, hf⟩ := z_b hf
  have hPc := zP_cut (wc := ([] : va_W)) 0 0 hP rfl
  have hDc := zD_cut (wc := ([] : va_W)) 0 0 hD rfl
  have hKc := hK.sub (tys' := ([] : List (ClassId × FieldType))) [] rfl
  refine z_ci (va_runS (As := [.int p1, .int (nI 11)]) (rest := []) ⟨hx, hb, hml, hown, hts⟩ (c_MO_within l dC dI N (fun i => a (0 + i)) (fun i => k (0 + i)) p1 (nI 11) hu0 H.size) (cwS 2 hts (zGS zsub_c k_3_6 k_3_7 k_1_8 kc_MO_within) rfl rfl rfl (by decide +kernel) ⟨Nat.le_of_ble_eq_true rfl, Nat.le_of_ble_eq_true rfl⟩) ⟨z_bl, fun U hU hW => ⟨rfl, z_pre hN hKc hPc hDc U hU hW⟩⟩ rfl rfl hl.1 rfl (lv_room (Nat.le_of_ble_eq_true rfl)) d_MO_begin_3 ⟨Nat.zero_le _, Nat.zero_le _⟩) 0 0 (w_MO a k zpaths zsteps zcached zholds zinside zowner zmaker zcontent zruns zisThere ztarget zplace zrun zstaged zisOpen zstagedAt zstagedContent zstagedRuns zstagedLazy zisDirty zcache zhold zmet zrow) hP hD hS hA rfl rfl (fun H locs hP hD hS => ?_)
  refine lv_if_eq (tgt := 35) hx hb d_MO_begin_6 (by decide) (fun c1 => ?_) (fun c1 => ?_)
  · have hf := z_t c1 hf
    refine lv_iconst (v := (-1 : Int32)) hx hb d_MO_begin_35 (by decide) ?_
    obtain rfl := Option.some.inj hf
    exact z_iret hx hb hr hP hD hS d_MO_begin_36 hlocks
  · have hf := z_f c1 hf
    refine lv_iload_n hx hb d_MO_begin_9 rfl (lv_at hl 2 rfl) ?_
    refine lv_iconst (v := (nI 3)) hx hb d_MO_begin_10 (by decide) ?_
    obtain ⟨u1, hu1, hf⟩ := z_b hf
    have hPc := zP_cut (wc := ([] : va_W)) 0 0 hP rfl
    have hDc := zD_cut (wc := ([] : va_W)) 0 0 hD rfl
    have hKc := hK.sub (tys' := ([] : List (ClassId × FieldType))) [] rfl
    refine z_ci (va_runS (As := [.int p2, .int (nI 3)]) (rest := []) ⟨hx, hb, hml, hown, hts⟩ (c_MO_within l dC dI N (fun i => a (0 + i)) (fun i => k (0 + i)) p2 (nI 3) hu1 H.size) (cwS 2 hts (zGS zsub_c k_3_6 k_3_7 k_1_8 kc_MO_within) rfl rfl rfl (by decide +kernel) ⟨Nat.le_of_ble_eq_true rfl, Nat.le_of_ble_eq_true rfl⟩) ⟨z_bl, fun U hU hW => ⟨rfl, z_pre hN hKc hPc hDc U hU hW⟩⟩ rfl rfl hl.1 rfl (lv_room (Nat.le_of_ble_eq_true rfl)) d_MO_begin_11 ⟨Nat.zero_le _, Nat.zero_le _⟩) 0 0 (w_MO a k zpaths zsteps zcached zholds zinside zowner zmaker zcontent zruns zisThere ztarget zplace zrun zstaged zisOpen zstagedAt zstagedContent zstagedRuns zstagedLazy zisDirty zcache zhold zmet zrow) hP hD hS hA rfl rfl (fun H locs hP hD hS => ?_)
    refine lv_if_eq (tgt := 35) hx hb d_MO_begin_14 (by decide) (fun c2 => ?_) (fun c2 => ?_)
    · have hf := z_t c2 hf
      refine lv_iconst (v := (-1 : Int32)) hx hb d_MO_begin_35 (by decide) ?_
      obtain rfl := Option.some.inj hf
      exact z_iret hx hb hr hP hD hS d_MO_begin_36 hlocks
    · have hf := z_f c2 hf
      refine lv_iload_n hx hb d_MO_begin_17 rfl (lv_at hl 3 rfl) ?_
      refine lv_bipush (v := (nI 7)) hx hb d_MO_begin_18 (by decide) ?_
      obtain ⟨u2, hu2, hf⟩ := z_b hf
      have hPc := zP_cut (wc := ([] : va_W)) 0 0 hP rfl
      have hDc := zD_cut (wc := ([] : va_W)) 0 0 hD rfl
      have hKc := hK.sub (tys' := ([] : List (ClassId × FieldType))) [] rfl
      refine z_ci (va_runS (As := [.int p3, .int (nI 7)]) (rest := []) ⟨hx, hb, hml, hown, hts⟩ (c_MO_within l dC dI N (fun i => a (0 + i)) (fun i => k (0 + i)) p3 (nI 7) hu2 H.size) (cwS 2 hts (zGS zsub_c k_3_6 k_3_7 k_1_8 kc_MO_within) rfl rfl rfl (by decide +kernel) ⟨Nat.le_of_ble_eq_true rfl, Nat.le_of_ble_eq_true rfl⟩) ⟨z_bl, fun U hU hW => ⟨rfl, z_pre hN hKc hPc hDc U hU hW⟩⟩ rfl rfl hl.1 rfl (lv_room (Nat.le_of_ble_eq_true rfl)) d_MO_begin_20 ⟨Nat.zero_le _, Nat.zero_le _⟩) 0 0 (w_MO a k zpaths zsteps zcached zholds zinside zowner zmaker zcontent zruns zisThere ztarget zplace zrun zstaged zisOpen zstagedAt zstagedContent zstagedRuns zstagedLazy zisDirty zcache zhold zmet zrow) hP hD hS hA rfl rfl (fun H locs hP hD hS => ?_)
      refine lv_if_eq (tgt := 35) hx hb d_MO_begin_23 (by decide) (fun c3 => ?_) (fun c3 => ?_)
      · have hf := z_t c3 hf
        refine lv_iconst (v := (-1 : Int32)) hx hb d_MO_begin_35 (by decide) ?_
        obtain rfl := Option.some.inj hf
        exact z_iret hx hb hr hP hD hS d_MO_begin_36 hlocks
      · have hf := z_f c3 hf
        refine lv_aload_n hx hb d_MO_begin_26 rfl (lv_at hl 0 rfl) ?_
        refine va_get (D := (dC, dI)) (ci := 7) (v := .int zsteps) (C := R_MO) (T := F_MO) (N := 24) hx hb hts (fun w h => List.mem_cons_of_mem _ (in_MO w h)) hown hK hP 0 rfl rfl 1 (by decide) (hts _ (List.mem_cons_of_mem _ k_2_162)) (fun _ h9 => h9) rfl d_MO_begin_27 ?_
        refine lv_bipush (v := (nI 80)) hx hb d_MO_begin_30 (by decide) ?_
        refine lv_icmp_ne (tgt := 37) hx hb d_MO_begin_32 (by decide) (fun c4 => ?_) (fun c4 => ?_)
        · have hf := z_t c4 hf
          refine lv_iconst (v := (0 : Int32)) hx hb d_MO_begin_37 (by decide) ?_
          refine lv_istore (lv' := [(4, .int (0 : Int32)), (0, .ref (a 0)), (1, .int p1), (2, .int p2), (3, .int p3)]) hx hb d_MO_begin_38 hl (by decide) rfl (fun ls hl => ?_)
          have loop40 : ∀ (n : Nat) (x4 : Int32), pf_MO_begin_L40 N zsteps ztarget zplace zrun zstaged zisOpen p1 p2 p3 n x4 = some y → ∀ (H : Heap) (locs : List Loc) (ls : Array Slot), va_P (dC, dI) zCl (w_MO a k zpaths zsteps zcached zholds zinside zowner zmaker zcontent zruns zisThere ztarget zplace zrun zstaged zisOpen zstagedAt zstagedContent zstagedRuns zstagedLazy zisDirty zcache zhold zmet zrow) H → va_D (va_A (w_MO a k zpaths zsteps zcached zholds zinside zowner zmaker zcontent zruns zisThere ztarget zplace zrun zstaged zisOpen zstagedAt zstagedContent zstagedRuns zstagedLazy zisDirty zcache zhold zmet zrow) s.heap.size) (w_MO a k zpaths zsteps zcached zholds zinside zowner zmaker zcontent zruns zisThere ztarget zplace zrun zstaged zisOpen zstagedAt zstagedContent zstagedRuns zstagedLazy zisDirty zcache zhold zmet zrow) → va_S (va_A (w_MO a k zpaths zsteps zcached zholds zinside zowner zmaker zcontent zruns zisThere ztarget zplace zrun zstaged zisOpen zstagedAt zstagedContent zstagedRuns zstagedLazy zisDirty zcache zhold zmet zrow) s.heap.size) s.heap H locs → lv_has ls 5 [(0, .ref (a 0)), (1, .int p1), (2, .int p2), (3, .int p3), (4, .int x4)] → W p l e (headSpec ww_MO_begin ({ frames := 1, cells := 0, slots := 0, locals := 21 })).room s m ([.ref (a 0), .int p1, .int p2, .int p3] : List Value).toArray below meth c H locs 0 0 (MQ below (zQi (dC, dI) zCl (w_MO a k zpaths zsteps zcached zholds zinside zowner zmaker zcontent zruns zisThere ztarget zplace zrun zstaged zisOpen zstagedAt zstagedContent zstagedRuns zstagedLazy zisDirty zcache zhold zmet zrow) s.heap.size y.1 (w_MO a k zpaths y.2.1 zcached zholds zinside zowner zmaker zcontent zruns zisThere y.2.2.1 y.2.2.2.1 y.2.2.2.2.1 y.2.2.2.2.2.1 y.2.2.2.2.2.2 zstagedAt zstagedContent zstagedRuns zstagedLazy zisDirty zcache zhold zmet zrow)) ([.ref (a 0), .int p1, .int p2, .int p3] : List Value).toArray s 0 0 (va_A (w_MO a k zpaths zsteps zcached zholds zinside zowner zmaker zcontent zruns zisThere ztarget zplace zrun zstaged zisOpen zstagedAt zstagedContent zstagedRuns zstagedLazy zisDirty zcache zhold zmet zrow) s.heap.size)) (F0 m 40 ls []) := by
            intro n40
            induction n40 with
            | zero => intro x4 hf; rw [pf_MO_begin_L40.eq_1] at hf; cases hf
            | succ n40 ih40 =>
              intro x4 hf H locs ls hP hD hS hl
              rw [pf_MO_begin_L40.eq_2] at hf
              refine lv_iload hx hb d_MO_begin_40 (lv_at hl 4 rfl) ?_
              refine lv_aload_n hx hb d_MO_begin_42 rfl (lv_at hl 0 rfl) ?_
              refine va_get (D := (dC, dI)) (ci := 7) (v := .int zsteps) (C := R_MO) (T := F_MO) (N := 24) hx hb hts (fun w h => List.mem_cons_of_mem _ (in_MO w h)) hown hK hP 0 rfl rfl 1 (by decide) (hts _ (List.mem_cons_of_mem _ k_2_162)) (fun _ h9 => h9) rfl d_MO_begin_43 ?_
              refine lv_icmp_ge (tgt := 90) hx hb d_MO_begin_46 (by decide) (fun c5 => ?_) (fun c5 => ?_)
              · have hf := z_t c5 hf
                refine lv_aload_n hx hb d_MO_begin_90 rfl (lv_at hl 0 rfl) ?_
                refine va_get (D := (dC, dI)) (ci := 7) (v := .ref (a 7)) (C := R_MO) (T := F_MO) (N := 24) hx hb hts (fun w h => List.mem_cons_of_mem _ (in_MO w h)) hown hK hP 0 rfl rfl 10 (by decide) (hts _ (List.mem_cons_of_mem _ k_2_171)) (fun _ h9 => h9) rfl d_MO_begin_91 ?_
                refine lv_aload_n hx hb d_MO_begin_94 rfl (lv_at hl 0 rfl) ?_
                refine va_get (D := (dC, dI)) (ci := 7) (v := .int zsteps) (C := R_MO) (T := F_MO) (N := 24) hx hb hts (fun w h => List.mem_cons_of_mem _ (in_MO w h)) hown hK hP 0 rfl rfl 1 (by decide) (hts _ (List.mem_cons_of_mem _ k_2_162)) (fun _ h9 => h9) rfl d_MO_begin_95 ?_
                refine lv_iload_n hx hb d_MO_begin_98 rfl (lv_at hl 1 rfl) ?_
                obtain ⟨g6, hf⟩ := z_gz hf
                refine va_iast hx hb hK hP hD hS 7 6 rfl rfl g6 d_MO_begin_99 (fun H locs hP hD hS => ?_)
                have hP : va_P (dC, dI) zCl (w_MO a k zpaths zsteps zcached zholds zinside zowner zmaker zcontent zruns zisThere (upd ztarget zsteps.toNatClampNeg p1) zplace zrun zstaged zisOpen zstagedAt zstagedContent zstagedRuns zstagedLazy zisDirty zcache zhold zmet zrow) H := hP
                have hD : va_D _ (w_MO a k zpaths zsteps zcached zholds zinside zowner zmaker zcontent zruns zisThere (upd ztarget zsteps.toNatClampNeg p1) zplace zrun zstaged zisOpen zstagedAt zstagedContent zstagedRuns zstagedLazy zisDirty zcache zhold zmet zrow) := hD
                refine lv_aload_n hx hb d_MO_begin_100 rfl (lv_at hl 0 rfl) ?_
                refine va_get (D := (dC, dI)) (ci := 7) (v := .ref (a 8)) (C := R_MO) (T := F_MO) (N := 24) hx hb hts (fun w h => List.mem_cons_of_mem _ (in_MO w h)) hown hK hP 0 rfl rfl 11 (by decide) (hts _ (List.mem_cons_of_mem _ k_2_172)) (fun _ h9 => h9) rfl d_MO_begin_101 ?_
                refine lv_aload_n hx hb d_MO_begin_104 rfl (lv_at hl 0 rfl) ?_
                refine va_get (D := (dC, dI)) (ci := 7) (v := .int zsteps) (C := R_MO) (T := F_MO) (N := 24) hx hb hts (fun w h => List.mem_cons_of_mem _ (in_MO w h)) hown hK hP 0 rfl rfl 1 (by decide) (hts _ (List.mem_cons_of_mem _ k_2_162)) (fun _ h9 => h9) rfl d_MO_begin_105 ?_
                refine lv_iload_n hx hb d_MO_begin_108 rfl (lv_at hl 2 rfl) ?_
                obtain ⟨g7, hf⟩ := z_gz hf
                refine va_iast hx hb hK hP hD hS 8 7 rfl rfl g7 d_MO_begin_109 (fun H locs hP hD hS => ?_)
                have hP : va_P (dC, dI) zCl (w_MO a k zpaths zsteps zcached zholds zinside zowner zmaker zcontent zruns zisThere (upd ztarget zsteps.toNatClampNeg p1) (upd zplace zsteps.toNatClampNeg p2) zrun zstaged zisOpen zstagedAt zstagedContent zstagedRuns zstagedLazy zisDirty zcache zhold zmet zrow) H := hP
                have hD : va_D _ (w_MO a k zpaths zsteps zcached zholds zinside zowner zmaker zcontent zruns zisThere (upd ztarget zsteps.toNatClampNeg p1) (upd zplace zsteps.toNatClampNeg p2) zrun zstaged zisOpen zstagedAt zstagedContent zstagedRuns zstagedLazy zisDirty zcache zhold zmet zrow) := hD
                refine lv_aload_n hx hb d_MO_begin_110 rfl (lv_at hl 0 rfl) ?_
                refine va_get (D := (dC, dI)) (ci := 7) (v := .ref (a 9)) (C := R_MO) (T := F_MO) (N := 24) hx hb hts (fun w h => List.mem_cons_of_mem _ (in_MO w h)) hown hK hP 0 rfl rfl 12 (by decide) (hts _ (List.mem_cons_of_mem _ k_2_173)) (fun _ h9 => h9) rfl d_MO_begin_111 ?_
                refine lv_aload_n hx hb d_MO_begin_114 rfl (lv_at hl 0 rfl) ?_
                refine va_get (D := (dC, dI)) (ci := 7) (v := .int zsteps) (C := R_MO) (T := F_MO) (N := 24) hx hb hts (fun w h => List.mem_cons_of_mem _ (in_MO w h)) hown hK hP 0 rfl rfl 1 (by decide) (hts _ (List.mem_cons_of_mem _ k_2_162)) (fun _ h9 => h9) rfl d_MO_begin_115 ?_
                refine lv_iload_n hx hb d_MO_begin_118 rfl (lv_at hl 3 rfl) ?_
                obtain ⟨g8, hf⟩ := z_gz hf
                refine va_iast hx hb hK hP hD hS 9 8 rfl rfl g8 d_MO_begin_119 (fun H locs hP hD hS => ?_)
                have hP : va_P (dC, dI) zCl (w_MO a k zpaths zsteps zcached zholds zinside zowner zmaker zcontent zruns zisThere (upd ztarget zsteps.toNatClampNeg p1) (upd zplace zsteps.toNatClampNeg p2) (upd zrun zsteps.toNatClampNeg p3) zstaged zisOpen zstagedAt zstagedContent zstagedRuns zstagedLazy zisDirty zcache zhold zmet zrow) H := hP
                have hD : va_D _ (w_MO a k zpaths zsteps zcached zholds zinside zowner zmaker zcontent zruns zisThere (upd ztarget zsteps.toNatClampNeg p1) (upd zplace zsteps.toNatClampNeg p2) (upd zrun zsteps.toNatClampNeg p3) zstaged zisOpen zstagedAt zstagedContent zstagedRuns zstagedLazy zisDirty zcache zhold zmet zrow) := hD
                refine lv_aload_n hx hb d_MO_begin_120 rfl (lv_at hl 0 rfl) ?_
                refine va_get (D := (dC, dI)) (ci := 7) (v := .ref (a 10)) (C := R_MO) (T := F_MO) (N := 24) hx hb hts (fun w h => List.mem_cons_of_mem _ (in_MO w h)) hown hK hP 0 rfl rfl 13 (by decide) (hts _ (List.mem_cons_of_mem _ k_2_174)) (fun _ h9 => h9) rfl d_MO_begin_121 ?_
                refine lv_aload_n hx hb d_MO_begin_124 rfl (lv_at hl 0 rfl) ?_
                refine va_get (D := (dC, dI)) (ci := 7) (v := .int zsteps) (C := R_MO) (T := F_MO) (N := 24) hx hb hts (fun w h => List.mem_cons_of_mem _ (in_MO w h)) hown hK hP 0 rfl rfl 1 (by decide) (hts _ (List.mem_cons_of_mem _ k_2_162)) (fun _ h9 => h9) rfl d_MO_begin_125 ?_
                refine lv_iconst (v := (0 : Int32)) hx hb d_MO_begin_128 (by decide) ?_
                obtain ⟨g9, hf⟩ := z_gz hf
                refine va_iast hx hb hK hP hD hS 10 9 rfl rfl g9 d_MO_begin_129 (fun H locs hP hD hS => ?_)
                have hP : va_P (dC, dI) zCl (w_MO a k zpaths zsteps zcached zholds zinside zowner zmaker zcontent zruns zisThere (upd ztarget zsteps.toNatClampNeg p1) (upd zplace zsteps.toNatClampNeg p2) (upd zrun zsteps.toNatClampNeg p3) (upd zstaged zsteps.toNatClampNeg (0 : Int32)) zisOpen zstagedAt zstagedContent zstagedRuns zstagedLazy zisDirty zcache zhold zmet zrow) H := hP
                have hD : va_D _ (w_MO a k zpaths zsteps zcached zholds zinside zowner zmaker zcontent zruns zisThere (upd ztarget zsteps.toNatClampNeg p1) (upd zplace zsteps.toNatClampNeg p2) (upd zrun zsteps.toNatClampNeg p3) (upd zstaged zsteps.toNatClampNeg (0 : Int32)) zisOpen zstagedAt zstagedContent zstagedRuns zstagedLazy zisDirty zcache zhold zmet zrow) := hD
                refine lv_aload_n hx hb d_MO_begin_130 rfl (lv_at hl 0 rfl) ?_
                refine va_get (D := (dC, dI)) (ci := 7) (v := .ref (a 11)) (C := R_MO) (T := F_MO) (N := 24) hx hb hts (fun w h => List.mem_cons_of_mem _ (in_MO w h)) hown hK hP 0 rfl rfl 14 (by decide) (hts _ (List.mem_cons_of_mem _ k_2_175)) (fun _ h9 => h9) rfl d_MO_begin_131 ?_
                refine lv_aload_n hx hb d_MO_begin_134 rfl (lv_at hl 0 rfl) ?_
                refine va_get (D := (dC, dI)) (ci := 7) (v := .int zsteps) (C := R_MO) (T := F_MO) (N := 24) hx hb hts (fun w h => List.mem_cons_of_mem _ (in_MO w h)) hown hK hP 0 rfl rfl 1 (by decide) (hts _ (List.mem_cons_of_mem _ k_2_162)) (fun _ h9 => h9) rfl d_MO_begin_135 ?_
                refine lv_iconst (v := (1 : Int32)) hx hb d_MO_begin_138 (by decide) ?_
                obtain ⟨g10, hf⟩ := z_gz hf
                refine va_zast hx hb hK hP hD hS 11 10 rfl rfl g10 d_MO_begin_139 (fun H locs hP hD hS => ?_)
                have hP : va_P (dC, dI) zCl (w_MO a k zpaths zsteps zcached zholds zinside zowner zmaker zcontent zruns zisThere (upd ztarget zsteps.toNatClampNeg p1) (upd zplace zsteps.toNatClampNeg p2) (upd zrun zsteps.toNatClampNeg p3) (upd zstaged zsteps.toNatClampNeg (0 : Int32)) (upd zisOpen zsteps.toNatClampNeg (vp_nar .boolean (1 : Int32))) zstagedAt zstagedContent zstagedRuns zstagedLazy zisDirty zcache zhold zmet zrow) H := hP
                have hD : va_D _ (w_MO a k zpaths zsteps zcached zholds zinside zowner zmaker zcontent zruns zisThere (upd ztarget zsteps.toNatClampNeg p1) (upd zplace zsteps.toNatClampNeg p2) (upd zrun zsteps.toNatClampNeg p3) (upd zstaged zsteps.toNatClampNeg (0 : Int32)) (upd zisOpen zsteps.toNatClampNeg (vp_nar .boolean (1 : Int32))) zstagedAt zstagedContent zstagedRuns zstagedLazy zisDirty zcache zhold zmet zrow) := hD
                refine lv_aload_n hx hb d_MO_begin_140 rfl (lv_at hl 0 rfl) ?_
                refine lv_dup hx hb d_MO_begin_141 rfl ?_
                refine va_get (D := (dC, dI)) (ci := 7) (v := .int zsteps) (C := R_MO) (T := F_MO) (N := 24) hx hb hts (fun w h => List.mem_cons_of_mem _ (in_MO w h)) hown hK hP 0 rfl rfl 1 (by decide) (hts _ (List.mem_cons_of_mem _ k_2_162)) (fun _ h9 => h9) rfl d_MO_begin_142 ?_
                refine lv_iconst (v := (1 : Int32)) hx hb d_MO_begin_145 (by decide) ?_
                refine lv_iadd hx hb d_MO_begin_146 ?_
                refine va_put (D := (dC, dI)) (ci := 7) (v := .int (zsteps + (1 : Int32))) (ty := .int) (C := R_MO) (T := F_MO) (N := 24) hx hb hts (fun w h => List.mem_cons_of_mem _ (in_MO w h)) ty_MO ty_MO_ok nm_MO hown hK hP hD hS 0 rfl rfl 1 (by decide) (hts _ (List.mem_cons_of_mem _ k_2_162)) (fun _ h9 => h9) rfl (by decide +kernel) rfl rfl (Nat.le_of_ble_eq_true rfl) d_MO_begin_147 (fun H locs hP hD hS => ?_)
                have hP : va_P (dC, dI) zCl (w_MO a k zpaths (zsteps + (1 : Int32)) zcached zholds zinside zowner zmaker zcontent zruns zisThere (upd ztarget zsteps.toNatClampNeg p1) (upd zplace zsteps.toNatClampNeg p2) (upd zrun zsteps.toNatClampNeg p3) (upd zstaged zsteps.toNatClampNeg (0 : Int32)) (upd zisOpen zsteps.toNatClampNeg (vp_nar .boolean (1 : Int32))) zstagedAt zstagedContent zstagedRuns zstagedLazy zisDirty zcache zhold zmet zrow) H := hP
                have hD : va_D _ (w_MO a k zpaths (zsteps + (1 : Int32)) zcached zholds zinside zowner zmaker zcontent zruns zisThere (upd ztarget zsteps.toNatClampNeg p1) (upd zplace zsteps.toNatClampNeg p2) (upd zrun zsteps.toNatClampNeg p3) (upd zstaged zsteps.toNatClampNeg (0 : Int32)) (upd zisOpen zsteps.toNatClampNeg (vp_nar .boolean (1 : Int32))) zstagedAt zstagedContent zstagedRuns zstagedLazy zisDirty zcache zhold zmet zrow) := hD
                refine lv_aload_n hx hb d_MO_begin_150 rfl (lv_at hl 0 rfl) ?_
                refine va_get (D := (dC, dI)) (ci := 7) (v := .int (zsteps + (1 : Int32))) (C := R_MO) (T := F_MO) (N := 24) hx hb hts (fun w h => List.mem_cons_of_mem _ (in_MO w h)) hown hK hP 0 rfl rfl 1 (by decide) (hts _ (List.mem_cons_of_mem _ k_2_162)) (fun _ h9 => h9) rfl d_MO_begin_151 ?_
                refine lv_iconst (v := (1 : Int32)) hx hb d_MO_begin_154 (by decide) ?_
                refine lv_isub hx hb d_MO_begin_155 ?_
                obtain rfl := Option.some.inj hf
                exact z_iret hx hb hr hP hD hS d_MO_begin_156 hlocks
              · have hf := z_f c5 hf
                refine lv_aload_n hx hb d_MO_begin_49 rfl (lv_at hl 0 rfl) ?_
                refine va_get (D := (dC, dI)) (ci := 7) (v := .ref (a 11)) (C := R_MO) (T := F_MO) (N := 24) hx hb hts (fun w h => List.mem_cons_of_mem _ (in_MO w h)) hown hK hP 0 rfl rfl 14 (by decide) (hts _ (List.mem_cons_of_mem _ k_2_175)) (fun _ h9 => h9) rfl d_MO_begin_50 ?_
                refine lv_iload hx hb d_MO_begin_53 (lv_at hl 4 rfl) ?_
                obtain ⟨g11, hf⟩ := z_gz hf
                refine va_zald hx hb hK hP 11 10 rfl rfl g11 d_MO_begin_55 ?_
                refine lv_if_eq (tgt := 84) hx hb d_MO_begin_56 (by decide) (fun c12 => ?_) (fun c12 => ?_)
                · have hf := z_t c12 hf
                  refine lv_iinc (v := (x4 + (1 : Int32))) (lv' := [(4, .int (x4 + (1 : Int32))), (0, .ref (a 0)), (1, .int p1), (2, .int p2), (3, .int p3)]) hx hb d_MO_begin_84 hl (k := 4) rfl rfl (by decide) rfl (fun ls hl => ?_)
                  refine lv_goto (tgt := 40) hx hb d_MO_begin_87 (by decide) ?_
                  exact ih40 (x4 + (1 : Int32)) hf H locs ls hP hD hS (lv_sub hl [1, 2, 3, 4, 0] rfl)
                · have hf := z_f c12 hf
                  refine lv_aload_n hx hb d_MO_begin_59 rfl (lv_at hl 0 rfl) ?_
                  refine va_get (D := (dC, dI)) (ci := 7) (v := .ref (a 7)) (C := R_MO) (T := F_MO) (N := 24) hx hb hts (fun w h => List.mem_cons_of_mem _ (in_MO w h)) hown hK hP 0 rfl rfl 10 (by decide) (hts _ (List.mem_cons_of_mem _ k_2_171)) (fun _ h9 => h9) rfl d_MO_begin_60 ?_
                  refine lv_iload hx hb d_MO_begin_63 (lv_at hl 4 rfl) ?_
                  obtain ⟨g13, hf⟩ := z_gz hf
                  refine va_iald hx hb hK hP 7 6 rfl rfl g13 d_MO_begin_65 ?_
                  refine lv_iload_n hx hb d_MO_begin_66 rfl (lv_at hl 1 rfl) ?_
                  refine lv_icmp_ne (tgt := 84) hx hb d_MO_begin_67 (by decide) (fun c14 => ?_) (fun c14 => ?_)
                  · have hf := z_t c14 hf
                    refine lv_iinc (v := (x4 + (1 : Int32))) (lv' := [(4, .int (x4 + (1 : Int32))), (0, .ref (a 0)), (1, .int p1), (2, .int p2), (3, .int p3)]) hx hb d_MO_begin_84 hl (k := 4) rfl rfl (by decide) rfl (fun ls hl => ?_)
                    refine lv_goto (tgt := 40) hx hb d_MO_begin_87 (by decide) ?_
                    exact ih40 (x4 + (1 : Int32)) hf H locs ls hP hD hS (lv_sub hl [1, 2, 3, 4, 0] rfl)
                  · have hf := z_fn c14 hf
                    refine lv_aload_n hx hb d_MO_begin_70 rfl (lv_at hl 0 rfl) ?_
                    refine va_get (D := (dC, dI)) (ci := 7) (v := .ref (a 8)) (C := R_MO) (T := F_MO) (N := 24) hx hb hts (fun w h => List.mem_cons_of_mem _ (in_MO w h)) hown hK hP 0 rfl rfl 11 (by decide) (hts _ (List.mem_cons_of_mem _ k_2_172)) (fun _ h9 => h9) rfl d_MO_begin_71 ?_
                    refine lv_iload hx hb d_MO_begin_74 (lv_at hl 4 rfl) ?_
                    obtain ⟨g15, hf⟩ := z_gz hf
                    refine va_iald hx hb hK hP 8 7 rfl rfl g15 d_MO_begin_76 ?_
                    refine lv_iload_n hx hb d_MO_begin_77 rfl (lv_at hl 2 rfl) ?_
                    refine lv_icmp_ne (tgt := 84) hx hb d_MO_begin_78 (by decide) (fun c16 => ?_) (fun c16 => ?_)
                    · have hf := z_t c16 hf
                      refine lv_iinc (v := (x4 + (1 : Int32))) (lv' := [(4, .int (x4 + (1 : Int32))), (0, .ref (a 0)), (1, .int p1), (2, .int p2), (3, .int p3)]) hx hb d_MO_begin_84 hl (k := 4) rfl rfl (by decide) rfl (fun ls hl => ?_)
                      refine lv_goto (tgt := 40) hx hb d_MO_begin_87 (by decide) ?_
                      exact ih40 (x4 + (1 : Int32)) hf H locs ls hP hD hS (lv_sub hl [1, 2, 3, 4, 0] rfl)
                    · have hf := z_fn c16 hf
                      refine lv_bipush (v := (-2 : Int32)) hx hb d_MO_begin_81 (by decide) ?_
                      obtain rfl := Option.some.inj hf
                      exact z_iret hx hb hr hP hD hS d_MO_begin_83 hlocks
          exact loop40 N (0 : Int32) hf H locs ls hP hD hS (lv_sub hl [1, 2, 3, 4, 0] rfl)
        · have hf := z_fn c4 hf
          refine lv_iconst (v := (-1 : Int32)) hx hb d_MO_begin_35 (by decide) ?_
          obtain rfl := Option.some.inj hf
          exact z_iret hx hb hr hP hD hS d_MO_begin_36 hlocks
set_option maxHeartbeats 4000000 in
set_option maxRecDepth 100000 in
theorem c_MO_placeOf (l : Launch) (dC : Nat → ClassId) (dI : Nat → Nat → Nat) (N : Nat) (a : Nat → Nat) (k : Nat → ClassId) (zpaths : Int32) (zsteps : Int32) (zcached : Int32) (zholds : Int32) (zinside : Nat → Int32) (zowner : Nat → Int32) (zmaker : Nat → Int32) (zcontent : Nat → Int64) (zruns : Nat → Int32) (zisThere : Nat → Int32) (ztarget : Nat → Int32) (zplace : Nat → Int32) (zrun : Nat → Int32) (zstaged : Nat → Int32) (zisOpen : Nat → Int32) (zstagedAt : Nat → Int32) (zstagedContent : Nat → Int64) (zstagedRuns : Nat → Int32) (zstagedLazy : Nat → Int32) (zisDirty : Nat → Int32) (zcache : Nat → Int64) (zhold : Nat → Int64) (zmet : Int32) (zrow : Nat → Int64) (p1 : Int32) (p2 : Int32) {y : (Int32)} (hf : pf_MO_placeOf N zstaged zstagedAt p1 p2 = some y) (sz : Nat) : Met l y_MO_placeOf ww_MO_placeOf ({ frames := 0, cells := 0, slots := 0, locals := 0 }) (va_Pc [.ref (a 0), .int p1, .int p2] (zB (dC, dI) zCl (t_MO k) (w_MO a k zpaths zsteps zcached zholds zinside zowner zmaker zcontent zruns zisThere ztarget zplace zrun zstaged zisOpen zstagedAt zstagedContent zstagedRuns zstagedLazy zisDirty zcache zhold zmet zrow) sz)) (zQi (dC, dI) zCl (w_MO a k zpaths zsteps zcached zholds zinside zowner zmaker zcontent zruns zisThere ztarget zplace zrun zstaged zisOpen zstagedAt zstagedContent zstagedRuns zstagedLazy zisDirty zcache zhold zmet zrow) sz y (w_MO a k zpaths zsteps zcached zholds zinside zowner zmaker zcontent zruns zisThere ztarget zplace zrun zstaged zisOpen zstagedAt zstagedContent zstagedRuns zstagedLazy zisDirty zcache zhold zmet zrow)) 0 0 (va_A (w_MO a k zpaths zsteps zcached zholds zinside zowner zmaker zcontent zruns zisThere ztarget zplace zrun zstaged zisOpen zstagedAt zstagedContent zstagedRuns zstagedLazy zisDirty zcache zhold zmet zrow) sz) := by
  refine Met.ofW (cc := b_MO_placeOf) (maxL := 5) (ret := (some .int)) (by decide) rfl ?_
  intro p e s m args below meth c s₁ B hml hv
  obtain ⟨rfl, rfl, hP, hK, hD, hN⟩ := hv
  have hx := B.exec
  have hb := B.bytes
  have hr := B.returns
  have hts := atoms_spec (ws := ww_MO_placeOf) B.pre
  have hown : s.vm.findClass R_MO = some m.cls := findClass_of_methodNamed B.named
  have hlocks := B.notSynchronized
  have hA : ∀ q : Nat, s.heap.size ≤ q → va_A (w_MO a k zpaths zsteps zcached zholds zinside zowner zmaker zcontent zruns zisThere ztarget zplace zrun zstaged zisOpen zstagedAt zstagedContent zstagedRuns zstagedLazy zisDirty zcache zhold zmet zrow) s.heap.size q := fun q h => Or.inr h
  refine z_start (lv := [(0, .ref (a 0)), (1, .int p1), (2, .int p2)]) (Nat.le_of_ble_eq_true rfl) rfl hP hD (fun H locs ls hP hD hS hl => ?_)
  unfold pf_MO_placeOf at hf
  refine lv_iconst (v := (-1 : Int32)) hx hb d_MO_placeOf_0 (by decide) ?_
  refine lv_istore_n (lv' := [(3, .int (-1 : Int32)), (0, .ref (a 0)), (1, .int p1), (2, .int p2)]) hx hb d_MO_placeOf_1 rfl hl (by decide) rfl (fun ls hl => ?_)
  refine lv_iconst (v := (0 : Int32)) hx hb d_MO_placeOf_2 (by decide) ?_
  refine lv_istore (lv' := [(4, .int (0 : Int32)), (3, .int (-1 : Int32)), (0, .ref (a 0)), (1, .int p1), (2, .int p2)]) hx hb d_MO_placeOf_3 hl (by decide) rfl (fun ls hl => ?_)
  have loop5 : ∀ (n : Nat) (x3 : Int32) (x4 : Int32), pf_MO_placeOf_L5 N zstaged zstagedAt p1 p2 n x3 x4 = some y → ∀ (H : Heap) (locs : List Loc) (ls : Array Slot), va_P (dC, dI) zCl (w_MO a k zpaths zsteps zcached zholds zinside zowner zmaker zcontent zruns zisThere ztarget zplace zrun zstaged zisOpen zstagedAt zstagedContent zstagedRuns zstagedLazy zisDirty zcache zhold zmet zrow) H → va_D (va_A (w_MO a k zpaths zsteps zcached zholds zinside zowner zmaker zcontent zruns zisThere ztarget zplace zrun zstaged zisOpen zstagedAt zstagedContent zstagedRuns zstagedLazy zisDirty zcache zhold zmet zrow) s.heap.size) (w_MO a k zpaths zsteps zcached zholds zinside zowner zmaker zcontent zruns zisThere ztarget zplace zrun zstaged zisOpen zstagedAt zstagedContent zstagedRuns zstagedLazy zisDirty zcache zhold zmet zrow) → va_S (va_A (w_MO a k zpaths zsteps zcached zholds zinside zowner zmaker zcontent zruns zisThere ztarget zplace zrun zstaged zisOpen zstagedAt zstagedContent zstagedRuns zstagedLazy zisDirty zcache zhold zmet zrow) s.heap.size) s.heap H locs → lv_has ls 5 [(0, .ref (a 0)), (1, .int p1), (2, .int p2), (3, .int x3), (4, .int x4)] → W p l e (headSpec ww_MO_placeOf ({ frames := 0, cells := 0, slots := 0, locals := 0 })).room s m ([.ref (a 0), .int p1, .int p2] : List Value).toArray below meth c H locs 0 0 (MQ below (zQi (dC, dI) zCl (w_MO a k zpaths zsteps zcached zholds zinside zowner zmaker zcontent zruns zisThere ztarget zplace zrun zstaged zisOpen zstagedAt zstagedContent zstagedRuns zstagedLazy zisDirty zcache zhold zmet zrow) s.heap.size y (w_MO a k zpaths zsteps zcached zholds zinside zowner zmaker zcontent zruns zisThere ztarget zplace zrun zstaged zisOpen zstagedAt zstagedContent zstagedRuns zstagedLazy zisDirty zcache zhold zmet zrow)) ([.ref (a 0), .int p1, .int p2] : List Value).toArray s 0 0 (va_A (w_MO a k zpaths zsteps zcached zholds zinside zowner zmaker zcontent zruns zisThere ztarget zplace zrun zstaged zisOpen zstagedAt zstagedContent zstagedRuns zstagedLazy zisDirty zcache zhold zmet zrow) s.heap.size)) (F0 m 5 ls []) := by
    intro n5
    induction n5 with
    | zero => intro x3 x4 hf; rw [pf_MO_placeOf_L5.eq_1] at hf; cases hf
    | succ n5 ih5 =>
      intro x3 x4 hf H locs ls hP hD hS hl
      rw [pf_MO_placeOf_L5.eq_2] at hf
      refine lv_iload hx hb d_MO_placeOf_5 (lv_at hl 4 rfl) ?_
      refine lv_aload_n hx hb d_MO_placeOf_7 rfl (lv_at hl 0 rfl) ?_
      refine va_get (D := (dC, dI)) (ci := 7) (v := .ref (a 10)) (C := R_MO) (T := F_MO) (N := 24) hx hb hts (fun w h => List.mem_cons_of_mem _ (in_MO w h)) hown hK hP 0 rfl rfl 13 (by decide) (hts _ (List.mem_cons_of_mem _ k_2_174)) (fun _ h9 => h9) rfl d_MO_placeOf_8 ?_
      refine lv_iload_n hx hb d_MO_placeOf_11 rfl (lv_at hl 1 rfl) ?_
      obtain ⟨g1, hf⟩ := z_gz hf
      refine va_iald hx hb hK hP 10 9 rfl rfl g1 d_MO_placeOf_12 ?_
      refine lv_icmp_ge (tgt := 50) hx hb d_MO_placeOf_13 (by decide) (fun c2 => ?_) (fun c2 => ?_)
      · have hf := z_t c2 hf
        refine lv_iload_n hx hb d_MO_placeOf_50 rfl (lv_at hl 3 rfl) ?_
        obtain rfl := Option.some.inj hf
        exact z_iret hx hb hr hP hD hS d_MO_placeOf_51 hlocks
      · have hf := z_f c2 hf
        refine lv_aload_n hx hb d_MO_placeOf_16 rfl (lv_at hl 0 rfl) ?_
        refine va_get (D := (dC, dI)) (ci := 7) (v := .ref (a 12)) (C := R_MO) (T := F_MO) (N := 24) hx hb hts (fun w h => List.mem_cons_of_mem _ (in_MO w h)) hown hK hP 0 rfl rfl 15 (by decide) (hts _ (List.mem_cons_of_mem _ k_2_176)) (fun _ h9 => h9) rfl d_MO_placeOf_17 ?_
        refine lv_bipush (v := (nI 12)) hx hb d_MO_placeOf_20 (by decide) ?_
        refine lv_iload_n hx hb d_MO_placeOf_22 rfl (lv_at hl 1 rfl) ?_
        refine lv_imul hx hb d_MO_placeOf_23 ?_
        refine lv_iload hx hb d_MO_placeOf_24 (lv_at hl 4 rfl) ?_
        refine lv_iadd hx hb d_MO_placeOf_26 ?_
        obtain ⟨g3, hf⟩ := z_gz hf
        refine va_iald hx hb hK hP 12 11 rfl rfl g3 d_MO_placeOf_27 ?_
        refine lv_iload_n hx hb d_MO_placeOf_28 rfl (lv_at hl 2 rfl) ?_
        refine lv_icmp_ne (tgt := 42) hx hb d_MO_placeOf_29 (by decide) (fun c4 => ?_) (fun c4 => ?_)
        · have hf := z_t c4 hf
          refine lv_iload_n hx hb d_MO_placeOf_42 rfl (lv_at hl 3 rfl) ?_
          refine lv_istore_n (lv' := [(3, .int x3), (0, .ref (a 0)), (1, .int p1), (2, .int p2), (4, .int x4)]) hx hb d_MO_placeOf_43 rfl hl (by decide) rfl (fun ls hl => ?_)
          refine lv_iinc (v := (x4 + (1 : Int32))) (lv' := [(4, .int (x4 + (1 : Int32))), (3, .int x3), (0, .ref (a 0)), (1, .int p1), (2, .int p2)]) hx hb d_MO_placeOf_44 hl (k := 4) rfl rfl (by decide) rfl (fun ls hl => ?_)
          refine lv_goto (tgt := 5) hx hb d_MO_placeOf_47 (by decide) ?_
          exact ih5 x3 (x4 + (1 : Int32)) hf H locs ls hP hD hS (lv_sub hl [2, 3, 4, 1, 0] rfl)
        · have hf := z_fn c4 hf
          refine lv_bipush (v := (nI 12)) hx hb d_MO_placeOf_32 (by decide) ?_
          refine lv_iload_n hx hb d_MO_placeOf_34 rfl (lv_at hl 1 rfl) ?_
          refine lv_imul hx hb d_MO_placeOf_35 ?_
          refine lv_iload hx hb d_MO_placeOf_36 (lv_at hl 4 rfl) ?_
          refine lv_iadd hx hb d_MO_placeOf_38 ?_
          refine lv_goto (tgt := 43) hx hb d_MO_placeOf_39 (by decide) ?_
          refine lv_istore_n (lv' := [(3, .int (((nI 12) * p1) + x4)), (0, .ref (a 0)), (1, .int p1), (2, .int p2), (4, .int x4)]) hx hb d_MO_placeOf_43 rfl hl (by decide) rfl (fun ls hl => ?_)
          refine lv_iinc (v := (x4 + (1 : Int32))) (lv' := [(4, .int (x4 + (1 : Int32))), (3, .int (((nI 12) * p1) + x4)), (0, .ref (a 0)), (1, .int p1), (2, .int p2)]) hx hb d_MO_placeOf_44 hl (k := 4) rfl rfl (by decide) rfl (fun ls hl => ?_)
          refine lv_goto (tgt := 5) hx hb d_MO_placeOf_47 (by decide) ?_
          exact ih5 (((nI 12) * p1) + x4) (x4 + (1 : Int32)) hf H locs ls hP hD hS (lv_sub hl [2, 3, 4, 1, 0] rfl)
  exact loop5 N (-1 : Int32) (0 : Int32) hf H locs ls hP hD hS (lv_sub hl [2, 3, 4, 1, 0] rfl)
set_option maxHeartbeats 4000000 in
set_option maxRecDepth 100000 in
theorem c_MO_meetsOutput (l : Launch) (dC : Nat → ClassId) (dI : Nat → Nat → Nat) (N : Nat) (a : Nat → Nat) (k : Nat → ClassId) (zpaths : Int32) (zsteps : Int32) (zcached : Int32) (zholds : Int32) (zinside : Nat → Int32) (zowner : Nat → Int32) (zmaker : Nat → Int32) (zcontent : Nat → Int64) (zruns : Nat → Int32) (zisThere : Nat → Int32) (ztarget : Nat → Int32) (zplace : Nat → Int32) (zrun : Nat → Int32) (zstaged : Nat → Int32) (zisOpen : Nat → Int32) (zstagedAt : Nat → Int32) (zstagedContent : Nat → Int64) (zstagedRuns : Nat → Int32) (zstagedLazy : Nat → Int32) (zisDirty : Nat → Int32) (zcache : Nat → Int64) (zhold : Nat → Int64) (zmet : Int32) (zrow : Nat → Int64) (p1 : Int32) (p2 : Int32) {y : (Int32)} (hf : pf_MO_meetsOutput N zpaths zinside zowner ztarget zplace p1 p2 = some y) (sz : Nat) : Met l y_MO_meetsOutput ww_MO_meetsOutput ({ frames := 2, cells := 0, slots := 0, locals := 45 }) (va_Pc [.ref (a 0), .int p1, .int p2] (zB (dC, dI) zCl (t_MO k) (w_MO a k zpaths zsteps zcached zholds zinside zowner zmaker zcontent zruns zisThere ztarget zplace zrun zstaged zisOpen zstagedAt zstagedContent zstagedRuns zstagedLazy zisDirty zcache zhold zmet zrow) sz)) (zQi (dC, dI) zCl (w_MO a k zpaths zsteps zcached zholds zinside zowner zmaker zcontent zruns zisThere ztarget zplace zrun zstaged zisOpen zstagedAt zstagedContent zstagedRuns zstagedLazy zisDirty zcache zhold zmet zrow) sz y (w_MO a k zpaths zsteps zcached zholds zinside zowner zmaker zcontent zruns zisThere ztarget zplace zrun zstaged zisOpen zstagedAt zstagedContent zstagedRuns zstagedLazy zisDirty zcache zhold zmet zrow)) 0 0 (va_A (w_MO a k zpaths zsteps zcached zholds zinside zowner zmaker zcontent zruns zisThere ztarget zplace zrun zstaged zisOpen zstagedAt zstagedContent zstagedRuns zstagedLazy zisDirty zcache zhold zmet zrow) sz) := by
  refine Met.ofW (cc := b_MO_meetsOutput) (maxL := 5) (ret := (some .boolean)) (by decide) rfl ?_
  intro p e s m args below meth c s₁ B hml hv
  obtain ⟨rfl, rfl, hP, hK, hD, hN⟩ := hv
  have hx := B.exec
  have hb := B.bytes
  have hr := B.returns
  have hts := atoms_spec (ws := ww_MO_meetsOutput) B.pre
  have hown : s.vm.findClass R_MO = some m.cls := findClass_of_methodNamed B.named
  have hlocks := B.notSynchronized
  have hA : ∀ q : Nat, s.heap.size ≤ q → va_A (w_MO a k zpaths zsteps zcached zholds zinside zowner zmaker zcontent zruns zisThere ztarget zplace zrun zstaged zisOpen zstagedAt zstagedContent zstagedRuns zstagedLazy zisDirty zcache zhold zmet zrow) s.heap.size q := fun q h => Or.inr h
  refine z_start (lv := [(0, .ref (a 0)), (1, .int p1), (2, .int p2)]) (Nat.le_of_ble_eq_true rfl) rfl hP hD (fun H locs ls hP hD hS hl => ?_)
  unfold pf_MO_meetsOutput at hf
  refine lv_iconst (v := (0 : Int32)) hx hb d_MO_meetsOutput_0 (by decide) ?_
  refine lv_istore_n (lv' := [(3, .int (0 : Int32)), (0, .ref (a 0)), (1, .int p1), (2, .int p2)]) hx hb d_MO_meetsOutput_1 rfl hl (by decide) rfl (fun ls hl => ?_)
  have loop2 : ∀ (n : Nat) (x3 : Int32), pf_MO_meetsOutput_L2 N zpaths zinside zowner ztarget zplace p1 p2 n x3 = some y → ∀ (H : Heap) (locs : List Loc) (ls : Array Slot), va_P (dC, dI) zCl (w_MO a k zpaths zsteps zcached zholds zinside zowner zmaker zcontent zruns zisThere ztarget zplace zrun zstaged zisOpen zstagedAt zstagedContent zstagedRuns zstagedLazy zisDirty zcache zhold zmet zrow) H → va_D (va_A (w_MO a k zpaths zsteps zcached zholds zinside zowner zmaker zcontent zruns zisThere ztarget zplace zrun zstaged zisOpen zstagedAt zstagedContent zstagedRuns zstagedLazy zisDirty zcache zhold zmet zrow) s.heap.size) (w_MO a k zpaths zsteps zcached zholds zinside zowner zmaker zcontent zruns zisThere ztarget zplace zrun zstaged zisOpen zstagedAt zstagedContent zstagedRuns zstagedLazy zisDirty zcache zhold zmet zrow) → va_S (va_A (w_MO a k zpaths zsteps zcached zholds zinside zowner zmaker zcontent zruns zisThere ztarget zplace zrun zstaged zisOpen zstagedAt zstagedContent zstagedRuns zstagedLazy zisDirty zcache zhold zmet zrow) s.heap.size) s.heap H locs → lv_has ls 5 [(0, .ref (a 0)), (1, .int p1), (2, .int p2), (3, .int x3)] → W p l e (headSpec ww_MO_meetsOutput ({ frames := 2, cells := 0, slots := 0, locals := 45 })).room s m ([.ref (a 0), .int p1, .int p2] : List Value).toArray below meth c H locs 0 0 (MQ below (zQi (dC, dI) zCl (w_MO a k zpaths zsteps zcached zholds zinside zowner zmaker zcontent zruns zisThere ztarget zplace zrun zstaged zisOpen zstagedAt zstagedContent zstagedRuns zstagedLazy zisDirty zcache zhold zmet zrow) s.heap.size y (w_MO a k zpaths zsteps zcached zholds zinside zowner zmaker zcontent zruns zisThere ztarget zplace zrun zstaged zisOpen zstagedAt zstagedContent zstagedRuns zstagedLazy zisDirty zcache zhold zmet zrow)) ([.ref (a 0), .int p1, .int p2] : List Value).toArray s 0 0 (va_A (w_MO a k zpaths zsteps zcached zholds zinside zowner zmaker zcontent zruns zisThere ztarget zplace zrun zstaged zisOpen zstagedAt zstagedContent zstagedRuns zstagedLazy zisDirty zcache zhold zmet zrow) s.heap.size)) (F0 m 2 ls []) := by
    intro n2
    induction n2 with
    | zero => intro x3 hf; rw [pf_MO_meetsOutput_L2.eq_1] at hf; cases hf
    | succ n2 ih2 =>
      intro x3 hf H locs ls hP hD hS hl
      rw [pf_MO_meetsOutput_L2.eq_2] at hf
      refine lv_iload_n hx hb d_MO_meetsOutput_2 rfl (lv_at hl 3 rfl) ?_
      refine lv_aload_n hx hb d_MO_meetsOutput_3 rfl (lv_at hl 0 rfl) ?_
      refine va_get (D := (dC, dI)) (ci := 7) (v := .int zpaths) (C := R_MO) (T := F_MO) (N := 24) hx hb hts (fun w h => List.mem_cons_of_mem _ (in_MO w h)) hown hK hP 0 rfl rfl 0 (by decide) (hts _ (List.mem_cons_of_mem _ k_2_161)) (fun _ h9 => h9) rfl d_MO_meetsOutput_4 ?_
      refine lv_icmp_ge (tgt := 63) hx hb d_MO_meetsOutput_7 (by decide) (fun c1 => ?_) (fun c1 => ?_)
      · have hf := z_t c1 hf
        refine lv_iconst (v := (0 : Int32)) hx hb d_MO_meetsOutput_63 (by decide) ?_
        obtain rfl := Option.some.inj hf
        exact z_zret hx hb hr (Or.inl rfl) hP hD hS d_MO_meetsOutput_64 hlocks
      · have hf := z_f c1 hf
        refine lv_aload_n hx hb d_MO_meetsOutput_10 rfl (lv_at hl 0 rfl) ?_
        refine va_get (D := (dC, dI)) (ci := 7) (v := .ref (a 2)) (C := R_MO) (T := F_MO) (N := 24) hx hb hts (fun w h => List.mem_cons_of_mem _ (in_MO w h)) hown hK hP 0 rfl rfl 5 (by decide) (hts _ (List.mem_cons_of_mem _ k_2_166)) (fun _ h9 => h9) rfl d_MO_meetsOutput_11 ?_
        refine lv_bipush (v := (nI 40)) hx hb d_MO_meetsOutput_14 (by decide) ?_
        refine lv_aload_n hx hb d_MO_meetsOutput_16 rfl (lv_at hl 0 rfl) ?_
        refine va_get (D := (dC, dI)) (ci := 7) (v := .ref (a 8)) (C := R_MO) (T := F_MO) (N := 24) hx hb hts (fun w h => List.mem_cons_of_mem _ (in_MO w h)) hown hK hP 0 rfl rfl 11 (by decide) (hts _ (List.mem_cons_of_mem _ k_2_172)) (fun _ h9 => h9) rfl d_MO_meetsOutput_17 ?_
        refine lv_iload_n hx hb d_MO_meetsOutput_20 rfl (lv_at hl 1 rfl) ?_
        obtain ⟨g2, hf⟩ := z_gz hf
        refine va_iald hx hb hK hP 8 7 rfl rfl g2 d_MO_meetsOutput_21 ?_
        refine lv_imul hx hb d_MO_meetsOutput_22 ?_
        refine lv_iload_n hx hb d_MO_meetsOutput_23 rfl (lv_at hl 3 rfl) ?_
        refine lv_iadd hx hb d_MO_meetsOutput_24 ?_
        obtain ⟨g3, hf⟩ := z_gz hf
        refine va_iald hx hb hK hP 2 1 rfl rfl g3 d_MO_meetsOutput_25 ?_
        refine lv_istore (lv' := [(4, .int (zowner (((nI 40) * (zplace p1.toNatClampNeg)) + x3).toNatClampNeg)), (0, .ref (a 0)), (1, .int p1), (2, .int p2), (3, .int x3)]) hx hb d_MO_meetsOutput_26 hl (by decide) rfl (fun ls hl => ?_)
        refine lv_iload hx hb d_MO_meetsOutput_28 (lv_at hl 0 rfl) ?_
        refine lv_if_eq (tgt := 57) hx hb d_MO_meetsOutput_30 (by decide) (fun c4 => ?_) (fun c4 => ?_)
        · have hf := z_t c4 hf
          refine lv_iinc (v := (x3 + (1 : Int32))) (lv' := [(3, .int (x3 + (1 : Int32))), (4, .int (zowner (((nI 40) * (zplace p1.toNatClampNeg)) + x3).toNatClampNeg)), (0, .ref (a 0)), (1, .int p1), (2, .int p2)]) hx hb d_MO_meetsOutput_57 hl (k := 4) rfl rfl (by decide) rfl (fun ls hl => ?_)
          refine lv_goto (tgt := 2) hx hb d_MO_meetsOutput_60 (by decide) ?_
          exact ih2 (x3 + (1 : Int32)) hf H locs ls hP hD hS (lv_sub hl [2, 3, 4, 0] rfl)
        · have hf := z_f c4 hf
          refine lv_iload hx hb d_MO_meetsOutput_33 (lv_at hl 0 rfl) ?_
          refine lv_aload_n hx hb d_MO_meetsOutput_35 rfl (lv_at hl 1 rfl) ?_
          refine va_get (D := (dC, dI)) (ci := 7) (v := .ref (a 7)) (C := R_MO) (T := F_MO) (N := 24) hx hb hts (fun w h => List.mem_cons_of_mem _ (in_MO w h)) hown hK hP 0 rfl rfl 10 (by decide) (hts _ (List.mem_cons_of_mem _ k_2_171)) (fun _ h9 => h9) rfl d_MO_meetsOutput_36 ?_
          refine lv_iload_n hx hb d_MO_meetsOutput_39 rfl (lv_at hl 2 rfl) ?_
          obtain ⟨g5, hf⟩ := z_gz hf
          refine va_iald hx hb hK hP 7 6 rfl rfl g5 d_MO_meetsOutput_40 ?_
          refine lv_iconst (v := (1 : Int32)) hx hb d_MO_meetsOutput_41 (by decide) ?_
          refine lv_iadd hx hb d_MO_meetsOutput_42 ?_
          refine lv_icmp_eq (tgt := 57) hx hb d_MO_meetsOutput_43 (by decide) (fun c6 => ?_) (fun c6 => ?_)
          · have hf := z_t c6 hf
            refine lv_iinc (v := (x3 + (1 : Int32))) (lv' := [(3, .int (x3 + (1 : Int32))), (4, .int (zowner (((nI 40) * (zplace p1.toNatClampNeg)) + x3).toNatClampNeg)), (0, .ref (a 0)), (1, .int p1), (2, .int p2)]) hx hb d_MO_meetsOutput_57 hl (k := 4) rfl rfl (by decide) rfl (fun ls hl => ?_)
            refine lv_goto (tgt := 2) hx hb d_MO_meetsOutput_60 (by decide) ?_
            exact ih2 (x3 + (1 : Int32)) hf H locs ls hP hD hS (lv_sub hl [2, 3, 4, 0] rfl)
          · have hf := z_f c6 hf
            refine lv_aload_n hx hb d_MO_meetsOutput_46 rfl (lv_at hl 1 rfl) ?_
            refine lv_iload_n hx hb d_MO_meetsOutput_47 rfl (lv_at hl 3 rfl) ?_
            refine lv_iload_n hx hb d_MO_meetsOutput_48 rfl (lv_at hl 4 rfl) ?_
            obtain ⟨u0, hu0, hf⟩ := z_b hf
            have hPc := hP
            have hDc := hD
            have hKc := hK
            refine z_cwi (va_runV (As := [.int p2, .int x3]) (rest := []) ⟨hx, hb, hml, hown, hts⟩ (c_MO_meet l dC dI N a k zpaths zsteps zcached zholds zinside zowner zmaker zcontent zruns zisThere ztarget zplace zrun zstaged zisOpen zstagedAt zstagedContent zstagedRuns zstagedLazy zisDirty zcache zhold zmet zrow p2 x3 hu0 H.size) (cwV 2 hts (zGV zsub_c k_3_25 k_3_27 s_MO_meet k_1_8 kc_MO_meet) rfl rfl rfl (by decide +kernel) ⟨Nat.le_of_ble_eq_true rfl, Nat.le_of_ble_eq_true rfl⟩) ⟨z_bl, va_recv hKc hPc (ci := 7) (q0 := 0) rfl rfl, fun U hU hW => ⟨rfl, z_pre hN hKc hPc hDc U hU hW⟩⟩ rfl rfl hl.1 rfl (lv_room (Nat.le_of_ble_eq_true rfl)) d_MO_meetsOutput_49 ⟨Nat.zero_le _, Nat.zero_le _⟩) hD hS hA (fun H locs hP hD hS => ?_)
            refine lv_if_eq (tgt := 57) hx hb d_MO_meetsOutput_52 (by decide) (fun c7 => ?_) (fun c7 => ?_)
            · have hf := z_t c7 hf
              refine lv_iinc (v := (x3 + (1 : Int32))) (lv' := [(3, .int (x3 + (1 : Int32))), (4, .int (zowner (((nI 40) * (zplace p1.toNatClampNeg)) + x3).toNatClampNeg)), (0, .ref (a 0)), (1, .int p1), (2, .int p2)]) hx hb d_MO_meetsOutput_57 hl (k := 4) rfl rfl (by decide) rfl (fun ls hl => ?_)
              refine lv_goto (tgt := 2) hx hb d_MO_meetsOutput_60 (by decide) ?_
              exact ih2 (x3 + (1 : Int32)) hf H locs ls hP hD hS (lv_sub hl [2, 3, 4, 0] rfl)
            · have hf := z_f c7 hf
              refine lv_iconst (v := (1 : Int32)) hx hb d_MO_meetsOutput_55 (by decide) ?_
              obtain rfl := Option.some.inj hf
              exact z_zret hx hb hr (Or.inr rfl) hP hD hS d_MO_meetsOutput_56 hlocks
  exact loop2 N (0 : Int32) hf H locs ls hP hD hS (lv_sub hl [1, 2, 3, 0] rfl)
set_option maxHeartbeats 4000000 in
set_option maxRecDepth 100000 in
theorem c_MO_meetsStaged (l : Launch) (dC : Nat → ClassId) (dI : Nat → Nat → Nat) (N : Nat) (a : Nat → Nat) (k : Nat → ClassId) (zpaths : Int32) (zsteps : Int32) (zcached : Int32) (zholds : Int32) (zinside : Nat → Int32) (zowner : Nat → Int32) (zmaker : Nat → Int32) (zcontent : Nat → Int64) (zruns : Nat → Int32) (zisThere : Nat → Int32) (ztarget : Nat → Int32) (zplace : Nat → Int32) (zrun : Nat → Int32) (zstaged : Nat → Int32) (zisOpen : Nat → Int32) (zstagedAt : Nat → Int32) (zstagedContent : Nat → Int64) (zstagedRuns : Nat → Int32) (zstagedLazy : Nat → Int32) (zisDirty : Nat → Int32) (zcache : Nat → Int64) (zhold : Nat → Int64) (zmet : Int32) (zrow : Nat → Int64) (p1 : Int32) (p2 : Int32) {y : (Int32)} (hf : pf_MO_meetsStaged N zsteps zinside zplace zstaged zisOpen zstagedAt p1 p2 = some y) (sz : Nat) : Met l y_MO_meetsStaged ww_MO_meetsStaged ({ frames := 2, cells := 0, slots := 0, locals := 45 }) (va_Pc [.ref (a 0), .int p1, .int p2] (zB (dC, dI) zCl (t_MO k) (w_MO a k zpaths zsteps zcached zholds zinside zowner zmaker zcontent zruns zisThere ztarget zplace zrun zstaged zisOpen zstagedAt zstagedContent zstagedRuns zstagedLazy zisDirty zcache zhold zmet zrow) sz)) (zQi (dC, dI) zCl (w_MO a k zpaths zsteps zcached zholds zinside zowner zmaker zcontent zruns zisThere ztarget zplace zrun zstaged zisOpen zstagedAt zstagedContent zstagedRuns zstagedLazy zisDirty zcache zhold zmet zrow) sz y (w_MO a k zpaths zsteps zcached zholds zinside zowner zmaker zcontent zruns zisThere ztarget zplace zrun zstaged zisOpen zstagedAt zstagedContent zstagedRuns zstagedLazy zisDirty zcache zhold zmet zrow)) 0 0 (va_A (w_MO a k zpaths zsteps zcached zholds zinside zowner zmaker zcontent zruns zisThere ztarget zplace zrun zstaged zisOpen zstagedAt zstagedContent zstagedRuns zstagedLazy zisDirty zcache zhold zmet zrow) sz) := by
  refine Met.ofW (cc := b_MO_meetsStaged) (maxL := 6) (ret := (some .boolean)) (by decide) rfl ?_
  intro p e s m args below meth c s₁ B hml hv
  obtain ⟨rfl, rfl, hP, hK, hD, hN⟩ := hv
  have hx := B.exec
  have hb := B.bytes
  have hr := B.returns
  have hts := atoms_spec (ws := ww_MO_meetsStaged) B.pre
  have hown : s.vm.findClass R_MO = some m.cls := findClass_of_methodNamed B.named
  have hlocks := B.notSynchronized
  have hA : ∀ q : Nat, s.heap.size ≤ q → va_A (w_MO a k zpaths zsteps zcached zholds zinside zowner zmaker zcontent zruns zisThere ztarget zplace zrun zstaged zisOpen zstagedAt zstagedContent zstagedRuns zstagedLazy zisDirty zcache zhold zmet zrow) s.heap.size q := fun q h => Or.inr h
  refine z_start (lv := [(0, .ref (a 0)), (1, .int p1), (2, .int p2)]) (Nat.le_of_ble_eq_true rfl) rfl hP hD (fun H locs ls hP hD hS hl => ?_)
  unfold pf_MO_meetsStaged at hf
  refine lv_iconst (v := (0 : Int32)) hx hb d_MO_meetsStaged_0 (by decide) ?_
  refine lv_istore_n (lv' := [(3, .int (0 : Int32)), (0, .ref (a 0)), (1, .int p1), (2, .int p2)]) hx hb d_MO_meetsStaged_1 rfl hl (by decide) rfl (fun ls hl => ?_)
  have loop2 : ∀ (n : Nat) (x3 : Int32), pf_MO_meetsStaged_L2 N zsteps zinside zplace zstaged zisOpen zstagedAt p1 p2 n x3 = some y → ∀ (H : Heap) (locs : List Loc) (ls : Array Slot), va_P (dC, dI) zCl (w_MO a k zpaths zsteps zcached zholds zinside zowner zmaker zcontent zruns zisThere ztarget zplace zrun zstaged zisOpen zstagedAt zstagedContent zstagedRuns zstagedLazy zisDirty zcache zhold zmet zrow) H → va_D (va_A (w_MO a k zpaths zsteps zcached zholds zinside zowner zmaker zcontent zruns zisThere ztarget zplace zrun zstaged zisOpen zstagedAt zstagedContent zstagedRuns zstagedLazy zisDirty zcache zhold zmet zrow) s.heap.size) (w_MO a k zpaths zsteps zcached zholds zinside zowner zmaker zcontent zruns zisThere ztarget zplace zrun zstaged zisOpen zstagedAt zstagedContent zstagedRuns zstagedLazy zisDirty zcache zhold zmet zrow) → va_S (va_A (w_MO a k zpaths zsteps zcached zholds zinside zowner zmaker zcontent zruns zisThere ztarget zplace zrun zstaged zisOpen zstagedAt zstagedContent zstagedRuns zstagedLazy zisDirty zcache zhold zmet zrow) s.heap.size) s.heap H locs → lv_has ls 6 [(0, .ref (a 0)), (1, .int p1), (2, .int p2), (3, .int x3)] → W p l e (headSpec ww_MO_meetsStaged ({ frames := 2, cells := 0, slots := 0, locals := 45 })).room s m ([.ref (a 0), .int p1, .int p2] : List Value).toArray below meth c H locs 0 0 (MQ below (zQi (dC, dI) zCl (w_MO a k zpaths zsteps zcached zholds zinside zowner zmaker zcontent zruns zisThere ztarget zplace zrun zstaged zisOpen zstagedAt zstagedContent zstagedRuns zstagedLazy zisDirty zcache zhold zmet zrow) s.heap.size y (w_MO a k zpaths zsteps zcached zholds zinside zowner zmaker zcontent zruns zisThere ztarget zplace zrun zstaged zisOpen zstagedAt zstagedContent zstagedRuns zstagedLazy zisDirty zcache zhold zmet zrow)) ([.ref (a 0), .int p1, .int p2] : List Value).toArray s 0 0 (va_A (w_MO a k zpaths zsteps zcached zholds zinside zowner zmaker zcontent zruns zisThere ztarget zplace zrun zstaged zisOpen zstagedAt zstagedContent zstagedRuns zstagedLazy zisDirty zcache zhold zmet zrow) s.heap.size)) (F0 m 2 ls []) := by
    intro n2
    induction n2 with
    | zero => intro x3 hf; rw [pf_MO_meetsStaged_L2.eq_1] at hf; cases hf
    | succ n2 ih2 =>
      intro x3 hf H locs ls hP hD hS hl
      rw [pf_MO_meetsStaged_L2.eq_2] at hf
      refine lv_iload_n hx hb d_MO_meetsStaged_2 rfl (lv_at hl 3 rfl) ?_
      refine lv_aload_n hx hb d_MO_meetsStaged_3 rfl (lv_at hl 0 rfl) ?_
      refine va_get (D := (dC, dI)) (ci := 7) (v := .int zsteps) (C := R_MO) (T := F_MO) (N := 24) hx hb hts (fun w h => List.mem_cons_of_mem _ (in_MO w h)) hown hK hP 0 rfl rfl 1 (by decide) (hts _ (List.mem_cons_of_mem _ k_2_162)) (fun _ h9 => h9) rfl d_MO_meetsStaged_4 ?_
      refine lv_icmp_ge (tgt := 100) hx hb d_MO_meetsStaged_7 (by decide) (fun c1 => ?_) (fun c1 => ?_)
      · have hf := z_t c1 hf
        refine lv_iconst (v := (0 : Int32)) hx hb d_MO_meetsStaged_100 (by decide) ?_
        obtain rfl := Option.some.inj hf
        exact z_zret hx hb hr (Or.inl rfl) hP hD hS d_MO_meetsStaged_101 hlocks
      · have hf := z_f c1 hf
        refine lv_aload_n hx hb d_MO_meetsStaged_10 rfl (lv_at hl 0 rfl) ?_
        refine va_get (D := (dC, dI)) (ci := 7) (v := .ref (a 11)) (C := R_MO) (T := F_MO) (N := 24) hx hb hts (fun w h => List.mem_cons_of_mem _ (in_MO w h)) hown hK hP 0 rfl rfl 14 (by decide) (hts _ (List.mem_cons_of_mem _ k_2_175)) (fun _ h9 => h9) rfl d_MO_meetsStaged_11 ?_
        refine lv_iload_n hx hb d_MO_meetsStaged_14 rfl (lv_at hl 3 rfl) ?_
        obtain ⟨g2, hf⟩ := z_gz hf
        refine va_zald hx hb hK hP 11 10 rfl rfl g2 d_MO_meetsStaged_15 ?_
        refine lv_if_eq (tgt := 94) hx hb d_MO_meetsStaged_16 (by decide) (fun c3 => ?_) (fun c3 => ?_)
        · have hf := z_t c3 hf
          refine lv_iinc (v := (x3 + (1 : Int32))) (lv' := [(3, .int (x3 + (1 : Int32))), (0, .ref (a 0)), (1, .int p1), (2, .int p2)]) hx hb d_MO_meetsStaged_94 hl (k := 3) rfl rfl (by decide) rfl (fun ls hl => ?_)
          refine lv_goto (tgt := 2) hx hb d_MO_meetsStaged_97 (by decide) ?_
          exact ih2 (x3 + (1 : Int32)) hf H locs ls hP hD hS (lv_sub hl [1, 2, 3, 0] rfl)
        · have hf := z_f c3 hf
          refine lv_aload_n hx hb d_MO_meetsStaged_19 rfl (lv_at hl 0 rfl) ?_
          refine va_get (D := (dC, dI)) (ci := 7) (v := .ref (a 8)) (C := R_MO) (T := F_MO) (N := 24) hx hb hts (fun w h => List.mem_cons_of_mem _ (in_MO w h)) hown hK hP 0 rfl rfl 11 (by decide) (hts _ (List.mem_cons_of_mem _ k_2_172)) (fun _ h9 => h9) rfl d_MO_meetsStaged_20 ?_
          refine lv_iload_n hx hb d_MO_meetsStaged_23 rfl (lv_at hl 3 rfl) ?_
          obtain ⟨g4, hf⟩ := z_gz hf
          refine va_iald hx hb hK hP 8 7 rfl rfl g4 d_MO_meetsStaged_24 ?_
          refine lv_aload_n hx hb d_MO_meetsStaged_25 rfl (lv_at hl 0 rfl) ?_
          refine va_get (D := (dC, dI)) (ci := 7) (v := .ref (a 8)) (C := R_MO) (T := F_MO) (N := 24) hx hb hts (fun w h => List.mem_cons_of_mem _ (in_MO w h)) hown hK hP 0 rfl rfl 11 (by decide) (hts _ (List.mem_cons_of_mem _ k_2_172)) (fun _ h9 => h9) rfl d_MO_meetsStaged_26 ?_
          refine lv_iload_n hx hb d_MO_meetsStaged_29 rfl (lv_at hl 1 rfl) ?_
          obtain ⟨g5, hf⟩ := z_gz hf
          refine va_iald hx hb hK hP 8 7 rfl rfl g5 d_MO_meetsStaged_30 ?_
          refine lv_icmp_eq (tgt := 37) hx hb d_MO_meetsStaged_31 (by decide) (fun c6 => ?_) (fun c6 => ?_)
          · have hf := z_t c6 hf
            refine lv_iconst (v := (0 : Int32)) hx hb d_MO_meetsStaged_37 (by decide) ?_
            refine lv_istore (lv' := [(4, .int (0 : Int32)), (0, .ref (a 0)), (1, .int p1), (2, .int p2), (3, .int x3)]) hx hb d_MO_meetsStaged_38 hl (by decide) rfl (fun ls hl => ?_)
            have loop40 : ∀ (n : Nat) (x4' : Int32), pf_MO_meetsStaged_L40 N (pf_MO_meetsStaged_L2 N zsteps zinside zplace zstaged zisOpen zstagedAt p1 p2 n2) zinside zstaged zstagedAt p1 p2 x3 n x4' = some y → ∀ (H : Heap) (locs : List Loc) (ls : Array Slot), va_P (dC, dI) zCl (w_MO a k zpaths zsteps zcached zholds zinside zowner zmaker zcontent zruns zisThere ztarget zplace zrun zstaged zisOpen zstagedAt zstagedContent zstagedRuns zstagedLazy zisDirty zcache zhold zmet zrow) H → va_D (va_A (w_MO a k zpaths zsteps zcached zholds zinside zowner zmaker zcontent zruns zisThere ztarget zplace zrun zstaged zisOpen zstagedAt zstagedContent zstagedRuns zstagedLazy zisDirty zcache zhold zmet zrow) s.heap.size) (w_MO a k zpaths zsteps zcached zholds zinside zowner zmaker zcontent zruns zisThere ztarget zplace zrun zstaged zisOpen zstagedAt zstagedContent zstagedRuns zstagedLazy zisDirty zcache zhold zmet zrow) → va_S (va_A (w_MO a k zpaths zsteps zcached zholds zinside zowner zmaker zcontent zruns zisThere ztarget zplace zrun zstaged zisOpen zstagedAt zstagedContent zstagedRuns zstagedLazy zisDirty zcache zhold zmet zrow) s.heap.size) s.heap H locs → lv_has ls 6 [(0, .ref (a 0)), (1, .int p1), (2, .int p2), (3, .int x3), (4, .int x4')] → W p l e (headSpec ww_MO_meetsStaged ({ frames := 2, cells := 0, slots := 0, locals := 45 })).room s m ([.ref (a 0), .int p1, .int p2] : List Value).toArray below meth c H locs 0 0 (MQ below (zQi (dC, dI) zCl (w_MO a k zpaths zsteps zcached zholds zinside zowner zmaker zcontent zruns zisThere ztarget zplace zrun zstaged zisOpen zstagedAt zstagedContent zstagedRuns zstagedLazy zisDirty zcache zhold zmet zrow) s.heap.size y (w_MO a k zpaths zsteps zcached zholds zinside zowner zmaker zcontent zruns zisThere ztarget zplace zrun zstaged zisOpen zstagedAt zstagedContent zstagedRuns zstagedLazy zisDirty zcache zhold zmet zrow)) ([.ref (a 0), .int p1, .int p2] : List Value).toArray s 0 0 (va_A (w_MO a k zpaths zsteps zcached zholds zinside zowner zmaker zcontent zruns zisThere ztarget zplace zrun zstaged zisOpen zstagedAt zstagedContent zstagedRuns zstagedLazy zisDirty zcache zhold zmet zrow) s.heap.size)) (F0 m 40 ls []) := by
              intro n40
              induction n40 with
              | zero => intro x4' hf; rw [pf_MO_meetsStaged_L40.eq_1] at hf; cases hf
              | succ n40 ih40 =>
                intro x4' hf H locs ls hP hD hS hl
                rw [pf_MO_meetsStaged_L40.eq_2] at hf
                refine lv_iload hx hb d_MO_meetsStaged_40 (lv_at hl 4 rfl) ?_
                refine lv_aload_n hx hb d_MO_meetsStaged_42 rfl (lv_at hl 0 rfl) ?_
                refine va_get (D := (dC, dI)) (ci := 7) (v := .ref (a 10)) (C := R_MO) (T := F_MO) (N := 24) hx hb hts (fun w h => List.mem_cons_of_mem _ (in_MO w h)) hown hK hP 0 rfl rfl 13 (by decide) (hts _ (List.mem_cons_of_mem _ k_2_174)) (fun _ h9 => h9) rfl d_MO_meetsStaged_43 ?_
                refine lv_iload_n hx hb d_MO_meetsStaged_46 rfl (lv_at hl 3 rfl) ?_
                obtain ⟨g7, hf⟩ := z_gz hf
                refine va_iald hx hb hK hP 10 9 rfl rfl g7 d_MO_meetsStaged_47 ?_
                refine lv_icmp_ge (tgt := 94) hx hb d_MO_meetsStaged_48 (by decide) (fun c8 => ?_) (fun c8 => ?_)
                · have hf := z_t c8 hf
                  refine lv_iinc (v := (x3 + (1 : Int32))) (lv' := [(3, .int (x3 + (1 : Int32))), (0, .ref (a 0)), (1, .int p1), (2, .int p2), (4, .int x4')]) hx hb d_MO_meetsStaged_94 hl (k := 3) rfl rfl (by decide) rfl (fun ls hl => ?_)
                  refine lv_goto (tgt := 2) hx hb d_MO_meetsStaged_97 (by decide) ?_
                  exact ih2 (x3 + (1 : Int32)) hf H locs ls hP hD hS (lv_sub hl [1, 2, 3, 0] rfl)
                · have hf := z_f c8 hf
                  refine lv_aload_n hx hb d_MO_meetsStaged_51 rfl (lv_at hl 0 rfl) ?_
                  refine va_get (D := (dC, dI)) (ci := 7) (v := .ref (a 12)) (C := R_MO) (T := F_MO) (N := 24) hx hb hts (fun w h => List.mem_cons_of_mem _ (in_MO w h)) hown hK hP 0 rfl rfl 15 (by decide) (hts _ (List.mem_cons_of_mem _ k_2_176)) (fun _ h9 => h9) rfl d_MO_meetsStaged_52 ?_
                  refine lv_bipush (v := (nI 12)) hx hb d_MO_meetsStaged_55 (by decide) ?_
                  refine lv_iload_n hx hb d_MO_meetsStaged_57 rfl (lv_at hl 3 rfl) ?_
                  refine lv_imul hx hb d_MO_meetsStaged_58 ?_
                  refine lv_iload hx hb d_MO_meetsStaged_59 (lv_at hl 4 rfl) ?_
                  refine lv_iadd hx hb d_MO_meetsStaged_61 ?_
                  obtain ⟨g9, hf⟩ := z_gz hf
                  refine va_iald hx hb hK hP 12 11 rfl rfl g9 d_MO_meetsStaged_62 ?_
                  refine lv_istore (lv' := [(5, .int (zstagedAt (((nI 12) * x3) + x4').toNatClampNeg)), (0, .ref (a 0)), (1, .int p1), (2, .int p2), (3, .int x3), (4, .int x4')]) hx hb d_MO_meetsStaged_63 hl (by decide) rfl (fun ls hl => ?_)
                  refine lv_iload_n hx hb d_MO_meetsStaged_65 rfl (lv_at hl 4 rfl) ?_
                  refine lv_iload_n hx hb d_MO_meetsStaged_66 rfl (lv_at hl 2 rfl) ?_
                  refine lv_icmp_ne (tgt := 76) hx hb d_MO_meetsStaged_67 (by decide) (fun c10 => ?_) (fun c10 => ?_)
                  · have hf := z_t c10 hf
                    refine lv_aload_n hx hb d_MO_meetsStaged_76 rfl (lv_at hl 1 rfl) ?_
                    refine lv_iload_n hx hb d_MO_meetsStaged_77 rfl (lv_at hl 3 rfl) ?_
                    refine lv_iload hx hb d_MO_meetsStaged_78 (lv_at hl 0 rfl) ?_
                    obtain ⟨u0, hu0, hf⟩ := z_b hf
                    have hPc := hP
                    have hDc := hD
                    have hKc := hK
                    refine z_cwi (va_runV (As := [.int p2, .int (zstagedAt (((nI 12) * x3) + x4').toNatClampNeg)]) (rest := []) ⟨hx, hb, hml, hown, hts⟩ (c_MO_meet l dC dI N a k zpaths zsteps zcached zholds zinside zowner zmaker zcontent zruns zisThere ztarget zplace zrun zstaged zisOpen zstagedAt zstagedContent zstagedRuns zstagedLazy zisDirty zcache zhold zmet zrow p2 (zstagedAt (((nI 12) * x3) + x4').toNatClampNeg) hu0 H.size) (cwV 2 hts (zGV zsub_c k_3_25 k_3_27 s_MO_meet k_1_8 kc_MO_meet) rfl rfl rfl (by decide +kernel) ⟨Nat.le_of_ble_eq_true rfl, Nat.le_of_ble_eq_true rfl⟩) ⟨z_bl, va_recv hKc hPc (ci := 7) (q0 := 0) rfl rfl, fun U hU hW => ⟨rfl, z_pre hN hKc hPc hDc U hU hW⟩⟩ rfl rfl hl.1 rfl (lv_room (Nat.le_of_ble_eq_true rfl)) d_MO_meetsStaged_80 ⟨Nat.zero_le _, Nat.zero_le _⟩) hD hS hA (fun H locs hP hD hS => ?_)
                    refine lv_if_eq (tgt := 88) hx hb d_MO_meetsStaged_83 (by decide) (fun c11 => ?_) (fun c11 => ?_)
                    · have hf := z_t c11 hf
                      refine lv_iinc (v := (x4' + (1 : Int32))) (lv' := [(4, .int (x4' + (1 : Int32))), (5, .int (zstagedAt (((nI 12) * x3) + x4').toNatClampNeg)), (0, .ref (a 0)), (1, .int p1), (2, .int p2), (3, .int x3)]) hx hb d_MO_meetsStaged_88 hl (k := 5) rfl rfl (by decide) rfl (fun ls hl => ?_)
                      refine lv_goto (tgt := 40) hx hb d_MO_meetsStaged_91 (by decide) ?_
                      exact ih40 (x4' + (1 : Int32)) hf H locs ls hP hD hS (lv_sub hl [2, 3, 4, 5, 0] rfl)
                    · have hf := z_f c11 hf
                      refine lv_iconst (v := (1 : Int32)) hx hb d_MO_meetsStaged_86 (by decide) ?_
                      obtain rfl := Option.some.inj hf
                      exact z_zret hx hb hr (Or.inr rfl) hP hD hS d_MO_meetsStaged_87 hlocks
                  · have hf := z_fn c10 hf
                    refine lv_iload hx hb d_MO_meetsStaged_70 (lv_at hl 0 rfl) ?_
                    refine lv_iload_n hx hb d_MO_meetsStaged_72 rfl (lv_at hl 3 rfl) ?_
                    refine lv_icmp_eq (tgt := 88) hx hb d_MO_meetsStaged_73 (by decide) (fun c12 => ?_) (fun c12 => ?_)
                    · have hf := z_t c12 hf
                      refine lv_iinc (v := (x4' + (1 : Int32))) (lv' := [(4, .int (x4' + (1 : Int32))), (5, .int (zstagedAt (((nI 12) * x3) + x4').toNatClampNeg)), (0, .ref (a 0)), (1, .int p1), (2, .int p2), (3, .int x3)]) hx hb d_MO_meetsStaged_88 hl (k := 5) rfl rfl (by decide) rfl (fun ls hl => ?_)
                      refine lv_goto (tgt := 40) hx hb d_MO_meetsStaged_91 (by decide) ?_
                      exact ih40 (x4' + (1 : Int32)) hf H locs ls hP hD hS (lv_sub hl [2, 3, 4, 5, 0] rfl)
                    · have hf := z_f c12 hf
                      refine lv_aload_n hx hb d_MO_meetsStaged_76 rfl (lv_at hl 1 rfl) ?_
                      refine lv_iload_n hx hb d_MO_meetsStaged_77 rfl (lv_at hl 3 rfl) ?_
                      refine lv_iload hx hb d_MO_meetsStaged_78 (lv_at hl 0 rfl) ?_
                      obtain ⟨u1, hu1, hf⟩ := z_b hf
                      have hPc := hP
                      have hDc := hD
                      have hKc := hK
                      refine z_cwi (va_runV (As := [.int p2, .int (zstagedAt (((nI 12) * x3) + x4').toNatClampNeg)]) (rest := []) ⟨hx, hb, hml, hown, hts⟩ (c_MO_meet l dC dI N a k zpaths zsteps zcached zholds zinside zowner zmaker zcontent zruns zisThere ztarget zplace zrun zstaged zisOpen zstagedAt zstagedContent zstagedRuns zstagedLazy zisDirty zcache zhold zmet zrow p2 (zstagedAt (((nI 12) * x3) + x4').toNatClampNeg) hu1 H.size) (cwV 2 hts (zGV zsub_c k_3_25 k_3_27 s_MO_meet k_1_8 kc_MO_meet) rfl rfl rfl (by decide +kernel) ⟨Nat.le_of_ble_eq_true rfl, Nat.le_of_ble_eq_true rfl⟩) ⟨z_bl, va_recv hKc hPc (ci := 7) (q0 := 0) rfl rfl, fun U hU hW => ⟨rfl, z_pre hN hKc hPc hDc U hU hW⟩⟩ rfl rfl hl.1 rfl (lv_room (Nat.le_of_ble_eq_true rfl)) d_MO_meetsStaged_80 ⟨Nat.zero_le _, Nat.zero_le _⟩) hD hS hA (fun H locs hP hD hS => ?_)
                      refine lv_if_eq (tgt := 88) hx hb d_MO_meetsStaged_83 (by decide) (fun c13 => ?_) (fun c13 => ?_)
                      · have hf := z_t c13 hf
                        refine lv_iinc (v := (x4' + (1 : Int32))) (lv' := [(4, .int (x4' + (1 : Int32))), (5, .int (zstagedAt (((nI 12) * x3) + x4').toNatClampNeg)), (0, .ref (a 0)), (1, .int p1), (2, .int p2), (3, .int x3)]) hx hb d_MO_meetsStaged_88 hl (k := 5) rfl rfl (by decide) rfl (fun ls hl => ?_)
                        refine lv_goto (tgt := 40) hx hb d_MO_meetsStaged_91 (by decide) ?_
                        exact ih40 (x4' + (1 : Int32)) hf H locs ls hP hD hS (lv_sub hl [2, 3, 4, 5, 0] rfl)
                      · have hf := z_f c13 hf
                        refine lv_iconst (v := (1 : Int32)) hx hb d_MO_meetsStaged_86 (by decide) ?_
                        obtain rfl := Option.some.inj hf
                        exact z_zret hx hb hr (Or.inr rfl) hP hD hS d_MO_meetsStaged_87 hlocks
            exact loop40 N (0 : Int32) hf H locs ls hP hD hS (lv_sub hl [1, 2, 3, 4, 0] rfl)
          · have hf := z_f c6 hf
            refine lv_goto (tgt := 94) hx hb d_MO_meetsStaged_34 (by decide) ?_
            refine lv_iinc (v := (x3 + (1 : Int32))) (lv' := [(3, .int (x3 + (1 : Int32))), (0, .ref (a 0)), (1, .int p1), (2, .int p2)]) hx hb d_MO_meetsStaged_94 hl (k := 3) rfl rfl (by decide) rfl (fun ls hl => ?_)
            refine lv_goto (tgt := 2) hx hb d_MO_meetsStaged_97 (by decide) ?_
            exact ih2 (x3 + (1 : Int32)) hf H locs ls hP hD hS (lv_sub hl [1, 2, 3, 0] rfl)
  exact loop2 N (0 : Int32) hf H locs ls hP hD hS (lv_sub hl [1, 2, 3, 0] rfl)
set_option maxHeartbeats 4000000 in
set_option maxRecDepth 100000 in
theorem c_MO_isCached (l : Launch) (dC : Nat → ClassId) (dI : Nat → Nat → Nat) (N : Nat) (a : Nat → Nat) (k : Nat → ClassId) (zpaths : Int32) (zsteps : Int32) (zcached : Int32) (zholds : Int32) (zinside : Nat → Int32) (zowner : Nat → Int32) (zmaker : Nat → Int32) (zcontent : Nat → Int64) (zruns : Nat → Int32) (zisThere : Nat → Int32) (ztarget : Nat → Int32) (zplace : Nat → Int32) (zrun : Nat → Int32) (zstaged : Nat → Int32) (zisOpen : Nat → Int32) (zstagedAt : Nat → Int32) (zstagedContent : Nat → Int64) (zstagedRuns : Nat → Int32) (zstagedLazy : Nat → Int32) (zisDirty : Nat → Int32) (zcache : Nat → Int64) (zhold : Nat → Int64) (zmet : Int32) (zrow : Nat → Int64) (p1 : Int64) {y : (Int32)} (hf : pf_MO_isCached N zcached zcache p1 = some y) (sz : Nat) : Met l y_MO_isCached ww_MO_isCached ({ frames := 0, cells := 0, slots := 0, locals := 0 }) (va_Pc [.ref (a 0), .long p1] (zB (dC, dI) zCl (t_MO k) (w_MO a k zpaths zsteps zcached zholds zinside zowner zmaker zcontent zruns zisThere ztarget zplace zrun zstaged zisOpen zstagedAt zstagedContent zstagedRuns zstagedLazy zisDirty zcache zhold zmet zrow) sz)) (zQi (dC, dI) zCl (w_MO a k zpaths zsteps zcached zholds zinside zowner zmaker zcontent zruns zisThere ztarget zplace zrun zstaged zisOpen zstagedAt zstagedContent zstagedRuns zstagedLazy zisDirty zcache zhold zmet zrow) sz y (w_MO a k zpaths zsteps zcached zholds zinside zowner zmaker zcontent zruns zisThere ztarget zplace zrun zstaged zisOpen zstagedAt zstagedContent zstagedRuns zstagedLazy zisDirty zcache zhold zmet zrow)) 0 0 (va_A (w_MO a k zpaths zsteps zcached zholds zinside zowner zmaker zcontent zruns zisThere ztarget zplace zrun zstaged zisOpen zstagedAt zstagedContent zstagedRuns zstagedLazy zisDirty zcache zhold zmet zrow) sz) := by
  refine Met.ofW (cc := b_MO_isCached) (maxL := 5) (ret := (some .boolean)) (by decide) rfl ?_
  intro p e s m args below meth c s₁ B hml hv
  obtain ⟨rfl, rfl, hP, hK, hD, hN⟩ := hv
  have hx := B.exec
  have hb := B.bytes
  have hr := B.returns
  have hts := atoms_spec (ws := ww_MO_isCached) B.pre
  have hown : s.vm.findClass R_MO = some m.cls := findClass_of_methodNamed B.named
  have hlocks := B.notSynchronized
  have hA : ∀ q : Nat, s.heap.size ≤ q → va_A (w_MO a k zpaths zsteps zcached zholds zinside zowner zmaker zcontent zruns zisThere ztarget zplace zrun zstaged zisOpen zstagedAt zstagedContent zstagedRuns zstagedLazy zisDirty zcache zhold zmet zrow) s.heap.size q := fun q h => Or.inr h
  refine z_start (lv := [(0, .ref (a 0)), (1, .long p1)]) (Nat.le_of_ble_eq_true rfl) rfl hP hD (fun H locs ls hP hD hS hl => ?_)
  unfold pf_MO_isCached at hf
  refine lv_iconst (v := (0 : Int32)) hx hb d_MO_isCached_0 (by decide) ?_
  refine lv_istore_n (lv' := [(3, .int (0 : Int32)), (0, .ref (a 0)), (1, .long p1)]) hx hb d_MO_isCached_1 rfl hl (by decide) rfl (fun ls hl => ?_)
  refine lv_iconst (v := (0 : Int32)) hx hb d_MO_isCached_2 (by decide) ?_
  refine lv_istore (lv' := [(4, .int (0 : Int32)), (3, .int (0 : Int32)), (0, .ref (a 0)), (1, .long p1)]) hx hb d_MO_isCached_3 hl (by decide) rfl (fun ls hl => ?_)
  have loop5 : ∀ (n : Nat) (x3 : Int32) (x4 : Int32), pf_MO_isCached_L5 N zcached zcache p1 n x3 x4 = some y → ∀ (H : Heap) (locs : List Loc) (ls : Array Slot), va_P (dC, dI) zCl (w_MO a k zpaths zsteps zcached zholds zinside zowner zmaker zcontent zruns zisThere ztarget zplace zrun zstaged zisOpen zstagedAt zstagedContent zstagedRuns zstagedLazy zisDirty zcache zhold zmet zrow) H → va_D (va_A (w_MO a k zpaths zsteps zcached zholds zinside zowner zmaker zcontent zruns zisThere ztarget zplace zrun zstaged zisOpen zstagedAt zstagedContent zstagedRuns zstagedLazy zisDirty zcache zhold zmet zrow) s.heap.size) (w_MO a k zpaths zsteps zcached zholds zinside zowner zmaker zcontent zruns zisThere ztarget zplace zrun zstaged zisOpen zstagedAt zstagedContent zstagedRuns zstagedLazy zisDirty zcache zhold zmet zrow) → va_S (va_A (w_MO a k zpaths zsteps zcached zholds zinside zowner zmaker zcontent zruns zisThere ztarget zplace zrun zstaged zisOpen zstagedAt zstagedContent zstagedRuns zstagedLazy zisDirty zcache zhold zmet zrow) s.heap.size) s.heap H locs → lv_has ls 5 [(0, .ref (a 0)), (1, .long p1), (3, .int x3), (4, .int x4)] → W p l e (headSpec ww_MO_isCached ({ frames := 0, cells := 0, slots := 0, locals := 0 })).room s m ([.ref (a 0), .long p1] : List Value).toArray below meth c H locs 0 0 (MQ below (zQi (dC, dI) zCl (w_MO a k zpaths zsteps zcached zholds zinside zowner zmaker zcontent zruns zisThere ztarget zplace zrun zstaged zisOpen zstagedAt zstagedContent zstagedRuns zstagedLazy zisDirty zcache zhold zmet zrow) s.heap.size y (w_MO a k zpaths zsteps zcached zholds zinside zowner zmaker zcontent zruns zisThere ztarget zplace zrun zstaged zisOpen zstagedAt zstagedContent zstagedRuns zstagedLazy zisDirty zcache zhold zmet zrow)) ([.ref (a 0), .long p1] : List Value).toArray s 0 0 (va_A (w_MO a k zpaths zsteps zcached zholds zinside zowner zmaker zcontent zruns zisThere ztarget zplace zrun zstaged zisOpen zstagedAt zstagedContent zstagedRuns zstagedLazy zisDirty zcache zhold zmet zrow) s.heap.size)) (F0 m 5 ls []) := by
    intro n5
    induction n5 with
    | zero => intro x3 x4 hf; rw [pf_MO_isCached_L5.eq_1] at hf; cases hf
    | succ n5 ih5 =>
      intro x3 x4 hf H locs ls hP hD hS hl
      rw [pf_MO_isCached_L5.eq_2] at hf
      refine lv_iload hx hb d_MO_isCached_5 (lv_at hl 3 rfl) ?_
      refine lv_aload_n hx hb d_MO_isCached_7 rfl (lv_at hl 0 rfl) ?_
      refine va_get (D := (dC, dI)) (ci := 7) (v := .int zcached) (C := R_MO) (T := F_MO) (N := 24) hx hb hts (fun w h => List.mem_cons_of_mem _ (in_MO w h)) hown hK hP 0 rfl rfl 2 (by decide) (hts _ (List.mem_cons_of_mem _ k_2_163)) (fun _ h9 => h9) rfl d_MO_isCached_8 ?_
      refine lv_icmp_ge (tgt := 42) hx hb d_MO_isCached_11 (by decide) (fun c1 => ?_) (fun c1 => ?_)
      · have hf := z_t c1 hf
        refine lv_iload_n hx hb d_MO_isCached_42 rfl (lv_at hl 2 rfl) ?_
        obtain ⟨b2, hf⟩ := z_zb hf
        obtain rfl := Option.some.inj hf
        exact z_zret hx hb hr b2 hP hD hS d_MO_isCached_43 hlocks
      · have hf := z_f c1 hf
        refine lv_iload_n hx hb d_MO_isCached_14 rfl (lv_at hl 2 rfl) ?_
        refine lv_if_ne (tgt := 30) hx hb d_MO_isCached_15 (by decide) (fun c3 => ?_) (fun c3 => ?_)
        · have hf := z_t c3 hf
          refine lv_iconst (v := (1 : Int32)) hx hb d_MO_isCached_30 (by decide) ?_
          refine lv_goto (tgt := 35) hx hb d_MO_isCached_31 (by decide) ?_
          refine lv_istore_n (lv' := [(3, .int (1 : Int32)), (0, .ref (a 0)), (1, .long p1), (4, .int x4)]) hx hb d_MO_isCached_35 rfl hl (by decide) rfl (fun ls hl => ?_)
          refine lv_iinc (v := (x4 + (1 : Int32))) (lv' := [(4, .int (x4 + (1 : Int32))), (3, .int (1 : Int32)), (0, .ref (a 0)), (1, .long p1)]) hx hb d_MO_isCached_36 hl (k := 3) rfl rfl (by decide) rfl (fun ls hl => ?_)
          refine lv_goto (tgt := 5) hx hb d_MO_isCached_39 (by decide) ?_
          exact ih5 (1 : Int32) (x4 + (1 : Int32)) hf H locs ls hP hD hS (lv_sub hl [2, 3, 1, 0] rfl)
        · have hf := z_fn c3 hf
          refine lv_aload_n hx hb d_MO_isCached_18 rfl (lv_at hl 0 rfl) ?_
          refine va_get (D := (dC, dI)) (ci := 7) (v := .ref (a 17)) (C := R_MO) (T := F_MO) (N := 24) hx hb hts (fun w h => List.mem_cons_of_mem _ (in_MO w h)) hown hK hP 0 rfl rfl 20 (by decide) (hts _ (List.mem_cons_of_mem _ k_2_181)) (fun _ h9 => h9) rfl d_MO_isCached_19 ?_
          refine lv_iload hx hb d_MO_isCached_22 (lv_at hl 3 rfl) ?_
          obtain ⟨g4, hf⟩ := z_gz hf
          refine va_lald hx hb hK hP 17 16 rfl rfl g4 d_MO_isCached_24 ?_
          refine lv_lload_n hx hb d_MO_isCached_25 rfl (lv_at hl 1 rfl) ?_
          refine W.lcmp hx hb d_MO_isCached_26 ?_
          refine lv_if_ne (tgt := 34) hx hb d_MO_isCached_27 (by decide) (fun c5 => ?_) (fun c5 => ?_)
          · have hf := z_t c5 hf
            refine lv_iconst (v := (0 : Int32)) hx hb d_MO_isCached_34 (by decide) ?_
            refine lv_istore_n (lv' := [(3, .int (0 : Int32)), (0, .ref (a 0)), (1, .long p1), (4, .int x4)]) hx hb d_MO_isCached_35 rfl hl (by decide) rfl (fun ls hl => ?_)
            refine lv_iinc (v := (x4 + (1 : Int32))) (lv' := [(4, .int (x4 + (1 : Int32))), (3, .int (0 : Int32)), (0, .ref (a 0)), (1, .long p1)]) hx hb d_MO_isCached_36 hl (k := 3) rfl rfl (by decide) rfl (fun ls hl => ?_)
            refine lv_goto (tgt := 5) hx hb d_MO_isCached_39 (by decide) ?_
            exact ih5 (0 : Int32) (x4 + (1 : Int32)) hf H locs ls hP hD hS (lv_sub hl [2, 3, 1, 0] rfl)
          · have hf := z_fn c5 hf
            refine lv_iconst (v := (1 : Int32)) hx hb d_MO_isCached_30 (by decide) ?_
            refine lv_goto (tgt := 35) hx hb d_MO_isCached_31 (by decide) ?_
            refine lv_istore_n (lv' := [(3, .int (1 : Int32)), (0, .ref (a 0)), (1, .long p1), (4, .int x4)]) hx hb d_MO_isCached_35 rfl hl (by decide) rfl (fun ls hl => ?_)
            refine lv_iinc (v := (x4 + (1 : Int32))) (lv' := [(4, .int (x4 + (1 : Int32))), (3, .int (1 : Int32)), (0, .ref (a 0)), (1, .long p1)]) hx hb d_MO_isCached_36 hl (k := 3) rfl rfl (by decide) rfl (fun ls hl => ?_)
            refine lv_goto (tgt := 5) hx hb d_MO_isCached_39 (by decide) ?_
            exact ih5 (1 : Int32) (x4 + (1 : Int32)) hf H locs ls hP hD hS (lv_sub hl [2, 3, 1, 0] rfl)
  exact loop5 N (0 : Int32) (0 : Int32) hf H locs ls hP hD hS (lv_sub hl [2, 3, 1, 0] rfl)
