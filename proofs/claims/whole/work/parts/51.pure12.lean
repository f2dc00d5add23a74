-- ===== what is stored: lists of contents =====
/-- the contents that are none are left out -/
def nz (l : List Int64) : List Int64 := l.filter (fun v => decide (¬ v = 0))
theorem nz_app (a b : List Int64) : nz (a ++ b) = nz a ++ nz b := List.filter_append ..
theorem nz_cons0 {v : Int64} {l : List Int64} (h : v = 0) : nz (v :: l) = nz l := List.filter_cons_of_neg (by simp [h])
theorem nz_cons1 {v : Int64} {l : List Int64} (h : ¬ v = 0) : nz (v :: l) = v :: nz l := List.filter_cons_of_pos (by simp [h])
theorem nz_count {v : Int64} (hv : ¬ v = 0) (l : List Int64) : (nz l).countP (fun w => decide (w = v)) = l.countP (fun w => decide (w = v)) := by
  induction l with
  | nil => rfl
  | cons w l ih =>
    by_cases h : w = 0
    · rw [nz_cons0 h, ih, List.countP_cons_of_neg (by simp [h]; exact fun e => hv e.symm)]
    · rw [nz_cons1 h, List.countP_cons, List.countP_cons, ih]
/-- one after another, each only once -/
def dsf (acc l : List Int64) : List Int64 := l.foldl (fun a v => if v ∈ a then a else a ++ [v]) acc
theorem dsf_cons (acc l : List Int64) (v : Int64) : dsf acc (v :: l) = dsf (if v ∈ acc then acc else acc ++ [v]) l := rfl
theorem dsf_snoc (acc l : List Int64) (v : Int64) : dsf acc (l ++ [v]) = if v ∈ dsf acc l then dsf acc l else dsf acc l ++ [v] := by
  unfold dsf
  rw [List.foldl_append]
  rfl
theorem dsf_mem : ∀ (l acc : List Int64) (v : Int64), v ∈ dsf acc l ↔ v ∈ acc ∨ v ∈ l := by
  intro l
  induction l with
  | nil => intro acc v; simp [dsf]
  | cons w l ih =>
    intro acc v
    rw [dsf_cons, ih]
    by_cases h : w ∈ acc
    · rw [if_pos h]
      constructor
      · rintro (q | q)
        · exact Or.inl q
        · exact Or.inr (List.mem_cons_of_mem _ q)
      · rintro (q | q)
        · exact Or.inl q
        · rcases List.mem_cons.mp q with rfl | q
          · exact Or.inl h
          · exact Or.inr q
    · rw [if_neg h]
      simp only [List.mem_append, List.mem_cons, List.not_mem_nil, or_false]
      constructor
      · rintro ((q | q) | q)
        · exact Or.inl q
        · exact Or.inr (Or.inl q)
        · exact Or.inr (Or.inr q)
      · rintro (q | q | q)
        · exact Or.inl (Or.inl q)
        · exact Or.inl (Or.inr q)
        · exact Or.inr q
theorem dsf_nodup : ∀ (l acc : List Int64), acc.Nodup → (dsf acc l).Nodup := by
  intro l
  induction l with
  | nil => intro acc h; exact h
  | cons w l ih =>
    intro acc h
    rw [dsf_cons]
    apply ih
    by_cases c : w ∈ acc
    · rw [if_pos c]; exact h
    · rw [if_neg c]
      refine List.nodup_append.mpr ⟨h, by simp, fun a ha b hb => ?_⟩
      rw [List.mem_singleton] at hb
      subst hb
      exact fun e => c (e ▸ ha)
theorem dsf_len {l1 l2 : List Int64} (h : ∀ v, v ∈ l1 ↔ v ∈ l2) : (dsf [] l1).length = (dsf [] l2).length := by
  refine List.Perm.length_eq ((List.perm_ext_iff_of_nodup (dsf_nodup l1 [] List.nodup_nil) (dsf_nodup l2 [] List.nodup_nil)).mpr (fun v => ?_))
  rw [dsf_mem, dsf_mem, h v]
/-- a row that begins with a list -/
def RL (row : Nat → Int64) (l : List Int64) : Prop := ∀ i, i < l.length → l[i]? = some (row i)
theorem RL_nil {row : Nat → Int64} : RL row [] := fun i h => absurd h (by simp)
theorem RL_snoc {row : Nat → Int64} {l : List Int64} (h : RL row l) (v : Int64) : RL (vp_updL row l.length v) (l ++ [v]) := by
  intro i hi
  rw [List.length_append, List.length_singleton] at hi
  by_cases e : i = l.length
  · subst e
    rw [pk_uLs]
    simp
  · rw [pk_uLn e, List.getElem?_append_left (by omega)]
    exact h i (by omega)
theorem RL_mem {row : Nat → Int64} {l : List Int64} (h : RL row l) (v : Int64) : v ∈ l ↔ ∃ i, i < l.length ∧ row i = v := by
  rw [List.mem_iff_getElem?]
  constructor
  · rintro ⟨i, hi⟩
    have hl : i < l.length := (List.getElem?_eq_some_iff.mp hi).1
    refine ⟨i, hl, ?_⟩
    have := h i hl
    rw [hi] at this
    exact (Option.some.inj this).symm
  · rintro ⟨i, hi, rfl⟩
    exact ⟨i, h i hi⟩
-- ===== the class's places =====
def vo (f : Nat → Int64) (z : Nat → Int32) (k : Nat) : Int64 := if z k = 0 then f k else 0
def pl (oC : Nat → Int64) (oL : Nat → Int32) (gC : Nat → Int64) (gL : Nat → Int32) (hC : Nat → Int64) (nh k : Nat) : Int64 := if k < 160 then vo oC oL k else if k < 320 then vo gC gL (k - 160) else if k - 320 < nh then hC (k - 320) else 0
theorem LT_stored_k {N k : Nat} {f : Nat → Int64} {z : Nat → Int32} (hk : k < 160) : pf_LT_storedIn N f z (nI k) = some (vo f z k) := by
  unfold pf_LT_storedIn vo
  by_cases h : f k = 0
  · rw [LT_isLazy_0 hk (Or.inl h), Option.bind_some, if_pos rfl, LT_contentAt_k hk, Option.bind_some, h]
    by_cases c : z k = 0
    · rw [if_pos c]
    · rw [if_neg c]
  · by_cases c : z k = 0
    · rw [LT_isLazy_0 hk (Or.inr c), Option.bind_some, if_pos rfl, LT_contentAt_k hk, Option.bind_some, if_pos c]
    · rw [LT_isLazy_1 hk h c, Option.bind_some, if_neg (by decide), if_neg c]
theorem HB_content_k {N nh h : Nat} {hC : Nat → Int64} (h100 : nh ≤ 100) (hh : h < 100) : pf_HB_contentOf N hC (nI nh) (nI h) = some (if h < nh then hC h else 0) := by
  unfold pf_HB_contentOf pf_HB_has
  by_cases c : h < nh
  · rw [if_pos c, z_good c (by omega), gz_nI hh (by decide), nI_clamp (by omega)]
    by_cases e : hC h = 0
    · rw [if_pos (cmp_0 e), Option.bind_some, if_pos rfl, e]
    · rw [if_neg (cmp_n e), Option.bind_some, if_neg (by decide), gz_nI hh (by decide)]
  · rw [if_neg c, z_bad (Or.inr (nI_le (by omega) (by omega))), Option.bind_some, if_pos rfl]
theorem OS_storedAt_k {N nh k : Nat} {oC gC hC : Nat → Int64} {oL gL : Nat → Int32} (h100 : nh ≤ 100) (hk : k < 420) : pf_OS_storedAt N oC oL gC gL hC (nI nh) (nI k) = some (pl oC oL gC gL hC nh k) := by
  unfold pf_OS_storedAt pl
  by_cases c1 : k < 160
  · rw [if_neg (nI_ge c1 (by decide)), if_pos c1, LT_stored_k c1, Option.bind_some]
  · rw [if_pos (nI_le (by omega) (by omega)), if_neg c1]
    by_cases c2 : k < 320
    · rw [if_neg (nI_ge c2 (by decide)), if_pos c2, pk_sub (by omega), LT_stored_k (by omega), Option.bind_some]
    · rw [if_pos (nI_le (by omega) (by omega)), if_neg c2, pk_sub (by omega), pk_sub (by omega), show k - 160 - 160 = k - 320 by omega, HB_content_k h100 (by omega), Option.bind_some]
theorem cop_L {N nh : Nat} {oC gC hC : Nat → Int64} {oL gL : Nat → Int32} {v : Int64} (h100 : nh ≤ 100) : ∀ (d k n cnt : Nat), k + d = 420 → d < n →
    pf_OS_copies_L13 N oC oL gC gL hC (nI nh) v n (nI cnt) (nI k) = some (nI (cnt + ((List.range' k d).map (pl oC oL gC gL hC nh)).countP (fun w => decide (w = v)))) := by
  intro d
  induction d with
  | zero =>
    intro k n cnt hk hn
    obtain ⟨n, rfl⟩ : ∃ j, n = j + 1 := ⟨n - 1, by omega⟩
    rw [pf_OS_copies_L13.eq_2, if_pos (nI_le (by omega) (by omega))]
    simp
  | succ d ih =>
    intro k n cnt hk hn
    obtain ⟨n, rfl⟩ : ∃ j, n = j + 1 := ⟨n - 1, by omega⟩
    rw [pf_OS_copies_L13.eq_2, if_neg (nI_ge (by omega) (by omega)), OS_storedAt_k h100 (by omega), Option.bind_some, List.range'_succ, List.map_cons, List.countP_cons, nI_1 k]
    by_cases c : pl oC oL gC gL hC nh k = v
    · rw [if_neg (fun h => h (cmp_0 c)), nI_1, ih (k + 1) n (cnt + 1) (by omega) (by omega), if_pos (by simp [c])]
      congr 2
      omega
    · rw [if_pos (cmp_n c), ih (k + 1) n cnt (by omega) (by omega), if_neg (by simp [c])]
      rfl
theorem sto_L {N nh : Nat} {oC gC hC : Nat → Int64} {oL gL : Nat → Int32} (hN : 2000 ≤ N) (h100 : nh ≤ 100) : ∀ (d k n : Nat) (acc : List Int64) (df : Nat → Int64), k + d = 420 → d < n → acc.length ≤ k → RL df acc →
    ∃ df', pf_OS_stored_L4 N oC oL gC gL hC (nI nh) n df (nI acc.length) (nI k) = some (nI (dsf acc (nz ((List.range' k d).map (pl oC oL gC gL hC nh)))).length, df') := by
  intro d
  induction d with
  | zero =>
    intro k n acc df hk hn hl hR
    obtain ⟨n, rfl⟩ : ∃ j, n = j + 1 := ⟨n - 1, by omega⟩
    exact ⟨df, by rw [pf_OS_stored_L4.eq_2, if_pos (nI_le (by omega) (by omega))]; rfl⟩
  | succ d ih =>
    intro k n acc df hk hn hl hR
    obtain ⟨n, rfl⟩ : ∃ j, n = j + 1 := ⟨n - 1, by omega⟩
    rw [pf_OS_stored_L4.eq_2, if_neg (nI_ge (by omega) (by omega)), OS_storedAt_k h100 (by omega), Option.bind_some, List.range'_succ, List.map_cons, nI_1 k]
    by_cases c : pl oC oL gC gL hC nh k = 0
    · rw [if_pos (cmp_0 c), nz_cons0 c]
      exact ih (k + 1) n acc df (by omega) (by omega) (by omega) hR
    · rw [if_neg (cmp_n c), if_neg (nI_ge (by omega) (by omega)), nz_cons1 c, dsf_cons]
      rcases find_sp (N := N) (f := df) (zn := 420) (nc := acc.length) (v := pl oC oL gC gL hC nh k) hN (by omega) (by decide) (by omega) with ⟨j, hj, e, -, h⟩ | ⟨hb, h⟩
      · rw [h, Option.bind_some, if_pos (z_m1 (by omega)), if_pos ((RL_mem hR _).mpr ⟨j, hj, e⟩)]
        exact ih (k + 1) n acc df (by omega) (by omega) (by omega) hR
      · rw [h, Option.bind_some, if_neg (fun q => q rfl), if_neg (fun q => by
          obtain ⟨i, hi, e⟩ := (RL_mem hR _).mp q
          exact hb i hi e), gz_nI (by omega) (by decide), nI_clamp (by omega), nI_1]
        obtain ⟨df', e⟩ := ih (k + 1) n (acc ++ [pl oC oL gC gL hC nh k]) (vp_updL df acc.length (pl oC oL gC gL hC nh k)) (by omega) (by omega) (by simp; omega) (RL_snoc hR _)
        rw [List.length_append, List.length_singleton] at e
        exact ⟨df', e⟩
/-- all places of the class: outputs, staged ones, holds -/
theorem pl_all {oC gC hC : Nat → Int64} {oL gL : Nat → Int32} {nh : Nat} (h100 : nh ≤ 100) : nz ((List.range' 0 420).map (pl oC oL gC gL hC nh)) = nz ((List.range' 0 160).map (vo oC oL)) ++ (nz ((List.range' 0 160).map (vo gC gL)) ++ nz ((List.range' 0 nh).map hC)) := by
  have e1 : List.range' 0 420 = List.range' 0 160 ++ (List.range' 160 160 ++ (List.range' 320 nh ++ List.range' (320 + nh) (100 - nh))) := by
    rw [List.range'_append_1, List.range'_append_1, List.range'_append_1]
    congr 1
    omega
  have e2 : (List.range' 0 160).map (pl oC oL gC gL hC nh) = (List.range' 0 160).map (vo oC oL) := by
    refine List.map_congr_left (fun k hk => ?_)
    have := List.mem_range'_1.mp hk
    unfold pl
    rw [if_pos (by omega)]
  have e3 : (List.range' 160 160).map (pl oC oL gC gL hC nh) = (List.range' 0 160).map (vo gC gL) := by
    rw [show List.range' 160 160 = (List.range' 0 160).map (160 + ·) by rw [List.map_add_range'], List.map_map]
    refine List.map_congr_left (fun k hk => ?_)
    have := List.mem_range'_1.mp hk
    show pl oC oL gC gL hC nh (160 + k) = _
    unfold pl
    rw [if_neg (by omega), if_pos (by omega), Nat.add_sub_cancel_left]
  have e4 : (List.range' 320 nh).map (pl oC oL gC gL hC nh) = (List.range' 0 nh).map hC := by
    rw [show List.range' 320 nh = (List.range' 0 nh).map (320 + ·) by rw [List.map_add_range'], List.map_map]
    refine List.map_congr_left (fun k hk => ?_)
    have := List.mem_range'_1.mp hk
    show pl oC oL gC gL hC nh (320 + k) = _
    unfold pl
    rw [if_neg (by omega), if_neg (by omega), Nat.add_sub_cancel_left, if_pos (by omega)]
  have e5 : nz ((List.range' (320 + nh) (100 - nh)).map (pl oC oL gC gL hC nh)) = [] := by
    refine List.filter_eq_nil_iff.mpr (fun v hv => ?_)
    obtain ⟨k, hk, rfl⟩ := List.mem_map.mp hv
    have := List.mem_range'_1.mp hk
    unfold pl
    rw [if_neg (by omega), if_neg (by omega), if_neg (by omega)]
    decide
  rw [e1, List.map_append, List.map_append, List.map_append, nz_app, nz_app, nz_app, e2, e3, e4, e5, List.append_nil]
