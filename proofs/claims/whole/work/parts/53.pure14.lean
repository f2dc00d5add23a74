-- ===== copies, stored =====
theorem cm_L {N : Nat} {row : Nat → Int64} {l : List Int64} {v : Int64} (hR : RL row l) (hl : l.length ≤ 1220) : ∀ (d k n cnt : Nat), k + d = l.length → d < n →
    pf_MO_copies_L9 N (nI l.length) row v n (nI cnt) (nI k) = some (nI (cnt + (l.drop k).countP (fun w => decide (w = v))), nI l.length, row) := by
  intro d
  induction d with
  | zero =>
    intro k n cnt hk hn
    obtain ⟨n, rfl⟩ : ∃ j, n = j + 1 := ⟨n - 1, by omega⟩
    rw [pf_MO_copies_L9.eq_2, if_pos (nI_le (by omega) (by omega)), List.drop_eq_nil_of_le (by omega)]
    rfl
  | succ d ih =>
    intro k n cnt hk hn
    obtain ⟨n, rfl⟩ : ∃ j, n = j + 1 := ⟨n - 1, by omega⟩
    have hkl : k < l.length := by omega
    have e : l[k] = row k := by
      have := hR k hkl
      rw [List.getElem?_eq_getElem hkl] at this
      exact Option.some.inj this
    rw [pf_MO_copies_L9.eq_2, if_neg (nI_ge (by omega) (by omega)), gz_nI (by omega) (by decide), nI_clamp (by omega), nI_1 k, List.drop_eq_getElem_cons hkl, List.countP_cons, e]
    by_cases c : row k = v
    · rw [if_neg (fun h => h (cmp_0 c)), nI_1, ih (k + 1) n (cnt + 1) (by omega) (by omega), if_pos (by simp [c])]
      congr 3
      omega
    · rw [if_pos (cmp_n c), show nI cnt + 0 = nI cnt from Int32.add_zero _, ih (k + 1) n cnt (by omega) (by omega), if_neg (by simp [c])]
      rfl
theorem sm_in {N k : Nat} {K : Int32 → Int32 → Option (Int32 × Int32 × (Nat → Int64))} {row : Nat → Int64} {x1 : Int32} (hk : k < 1220) : ∀ (d j n : Nat), j + d = k → d < n →
    (pf_MO_stored_L21 N K row x1 (nI k) n 0 (nI j) = K (x1 + 0) (nI (k + 1))) ∧
    ((∃ i, j ≤ i ∧ i < k ∧ row i = row k) → pf_MO_stored_L21 N K row x1 (nI k) n 1 (nI j) = K (x1 + 0) (nI (k + 1))) ∧
    ((∀ i, j ≤ i → i < k → ¬ row i = row k) → pf_MO_stored_L21 N K row x1 (nI k) n 1 (nI j) = K (x1 + 1) (nI (k + 1))) := by
  have h10 : ¬ (1 : Int32) = 0 := by decide
  intro d
  induction d with
  | zero =>
    intro j n hj hn
    obtain ⟨n, rfl⟩ : ∃ j, n = j + 1 := ⟨n - 1, by omega⟩
    refine ⟨?_, fun ⟨i, h1, h2, _⟩ => absurd h2 (by omega), fun _ => ?_⟩
    · rw [pf_MO_stored_L21.eq_2, if_pos (nI_le (by omega) (by omega)), if_pos rfl, nI_1]
    · rw [pf_MO_stored_L21.eq_2, if_pos (nI_le (by omega) (by omega)), if_neg h10, nI_1]
  | succ d ih =>
    intro j n hj hn
    obtain ⟨n, rfl⟩ : ∃ j, n = j + 1 := ⟨n - 1, by omega⟩
    obtain ⟨a, b, c⟩ := ih (j + 1) n (by omega) (by omega)
    have z : pf_MO_stored_L21 N K row x1 (nI k) (n + 1) 0 (nI j) = K (x1 + 0) (nI (k + 1)) := by
      rw [pf_MO_stored_L21.eq_2, if_neg (nI_ge (by omega) (by omega)), if_pos rfl, nI_1]
      exact a
    have o : pf_MO_stored_L21 N K row x1 (nI k) (n + 1) 1 (nI j) = if row j = row k then pf_MO_stored_L21 N K row x1 (nI k) n 0 (nI (j + 1)) else pf_MO_stored_L21 N K row x1 (nI k) n 1 (nI (j + 1)) := by
      rw [pf_MO_stored_L21.eq_2, if_neg (nI_ge (by omega) (by omega)), if_neg h10, gz_nI (by omega) (by decide), gz_nI hk (by decide), nI_clamp (by omega), nI_clamp (by omega), nI_1]
      by_cases e : row j = row k
      · rw [if_pos (cmp_0 e), if_pos e]
      · rw [if_neg (cmp_n e), if_neg e]
    refine ⟨z, fun ⟨i, h1, h2, h3⟩ => ?_, fun h => ?_⟩
    · rw [o]
      by_cases e : row j = row k
      · rw [if_pos e]
        exact a
      · rw [if_neg e]
        refine b ⟨i, ?_, h2, h3⟩
        by_cases w : i = j
        · rw [w] at h3
          exact absurd h3 e
        · omega
    · rw [o, if_neg (h j (Nat.le_refl _) (by omega))]
      exact c (fun i h1 h2 => h i (by omega) h2)
theorem sm_out {N : Nat} {row : Nat → Int64} {l : List Int64} (hN : 2000 ≤ N) (hR : RL row l) (hl : l.length ≤ 1220) : ∀ (d k n : Nat), k + d = l.length → d < n →
    pf_MO_stored_L8 N (nI l.length) row n (nI (dsf [] (l.take k)).length) (nI k) = some (nI (dsf [] l).length, nI l.length, row) := by
  intro d
  induction d with
  | zero =>
    intro k n hk hn
    obtain ⟨n, rfl⟩ : ∃ j, n = j + 1 := ⟨n - 1, by omega⟩
    rw [pf_MO_stored_L8.eq_2, if_pos (nI_le (by omega) (by omega)), List.take_of_length_le (by omega)]
  | succ d ih =>
    intro k n hk hn
    obtain ⟨n, rfl⟩ : ∃ j, n = j + 1 := ⟨n - 1, by omega⟩
    have hkl : k < l.length := by omega
    have e : ∀ i (h : i < l.length), l[i] = row i := by
      intro i h
      have := hR i h
      rw [List.getElem?_eq_getElem h] at this
      exact Option.some.inj this
    have mem : row k ∈ dsf [] (l.take k) ↔ ∃ i, 0 ≤ i ∧ i < k ∧ row i = row k := by
      rw [dsf_mem]
      constructor
      · rintro (h | h)
        · cases h
        · obtain ⟨i, hi, ei⟩ := List.mem_iff_getElem.mp h
          rw [List.length_take] at hi
          rw [List.getElem_take, e] at ei
          exact ⟨i, by omega, by omega, ei⟩
      · rintro ⟨i, -, h2, h3⟩
        refine Or.inr (List.mem_iff_getElem.mpr ⟨i, by rw [List.length_take]; omega, ?_⟩)
        rw [List.getElem_take, e, h3]
    have tk : l.take (k + 1) = l.take k ++ [row k] := by
      rw [← e k hkl]
      exact List.take_succ_eq_append_getElem hkl
    obtain ⟨-, b, c⟩ := sm_in (N := N) (k := k) (K := pf_MO_stored_L8 N (nI l.length) row n) (row := row) (x1 := nI (dsf [] (l.take k)).length) (by omega) k 0 N (by omega) (by omega)
    have nx := ih (k + 1) n (by omega) (by omega)
    rw [tk, dsf_snoc] at nx
    rw [pf_MO_stored_L8.eq_2, if_neg (nI_ge (by omega) (by omega)), ← nI_0]
    by_cases h : row k ∈ dsf [] (l.take k)
    · rw [b (mem.mp h), show nI (dsf [] (l.take k)).length + 0 = nI (dsf [] (l.take k)).length from Int32.add_zero _]
      rw [if_pos h] at nx
      exact nx
    · rw [c (fun i h1 h2 h3 => h (mem.mpr ⟨i, h1, h2, h3⟩)), nI_1]
      rw [if_neg h, List.length_append, List.length_singleton] at nx
      exact nx
theorem nz_len {l : List Int64} : (nz l).length ≤ l.length := List.length_filter_le _ _
theorem sim_stocop {N np ns nh : Nat} {tg rn cf op : Nat → Int32} {oC gC hC : Nat → Int64} {oM oX oL ow mk : Nat → Int32} {ct : Nat → Int64} {ru th : Nat → Int32} {gM gX gL st sa : Nat → Int32} {sc : Nat → Int64} {sr sl : Nat → Int32} (hN : 2000 ≤ N) (h40 : np ≤ 40) (hS : iS ns tg cf rn) (h100 : nh ≤ 100) (hO : iO np ns tg oC oM oX oL ow mk ct ru th) (hG : iG np ns cf op gC gM gX gL st sa sc sr sl) (met : Int32) (row : Nat → Int64) :
    ∃ (l : List Int64) (row' : Nat → Int64), RL row' l ∧ l.length ≤ 1220 ∧ pf_MO_gather N (nI ns) (nI nh) ow ct th st op sc sl hC met row = some (nI l.length, row') ∧ l.Perm (nz ((List.range' 0 420).map (pl oC oL gC gL hC nh))) ∧ ∀ v, v ∈ l → ¬ v = 0 := by
  have hS' : ns ≤ 80 ∧ ∀ s, s < ns → ∃ t, t < 12 ∧ tg s = nI t := ⟨hS.1, fun s h => by obtain ⟨t, -, -, q1, -, -, q2, -⟩ := hS.2 s h; exact ⟨t, q1, q2⟩⟩
  obtain ⟨row', a, b⟩ := ga1 (N := N) (hC := hC) hN h40 hS' h100 hO hG 160 0 N [] row (by omega) (by omega) (by simp) RL_nil
  rw [List.nil_append] at a b
  have pm := kys_perm h40 hS hG
  refine ⟨_, row', a, ?_, ?_, ?_, ?_⟩
  · rw [List.length_append, List.length_append, List.Perm.length_eq pm]
    have q1 := nz_len (l := (List.range' 0 160).map (vo oC oL))
    have q2 := nz_len (l := (List.range' 0 160).map (vo gC gL))
    have q3 := nz_len (l := (List.range' 0 nh).map hC)
    rw [List.length_map, List.length_range'] at q1 q2 q3
    omega
  · unfold pf_MO_gather
    rw [← nI_0]
    exact b
  · rw [pl_all h100]
    exact List.Perm.append_left _ (List.Perm.append_right _ pm)
  · intro v hv
    rcases List.mem_append.mp hv with h | h
    · have := (List.mem_filter.mp h).2
      simpa using this
    · rcases List.mem_append.mp h with h | h
      · have := (List.mem_filter.mp h).2
        simpa using this
      · have := (List.mem_filter.mp h).2
        simpa using this
theorem sim_copies {N np ns nh : Nat} {tg rn cf op : Nat → Int32} {oC gC hC : Nat → Int64} {oM oX oL ow mk : Nat → Int32} {ct : Nat → Int64} {ru th : Nat → Int32} {gM gX gL st sa : Nat → Int32} {sc : Nat → Int64} {sr sl : Nat → Int32} (hN : 2000 ≤ N) (h40 : np ≤ 40) (hS : iS ns tg cf rn) (h100 : nh ≤ 100) (hO : iO np ns tg oC oM oX oL ow mk ct ru th) (hG : iG np ns cf op gC gM gX gL st sa sc sr sl) (met : Int32) (row : Nat → Int64) (v : Int64) :
    ∃ r met' row', pf_OS_copies N oC oL gC gL hC (nI nh) v = some r ∧ pf_MO_copies N (nI ns) (nI nh) ow ct th st op sc sl hC met row v = some (r, met', row') := by
  obtain ⟨l, row', hR, hl, eg, pm, hz⟩ := sim_stocop (N := N) (hC := hC) hN h40 hS h100 hO hG met row
  have em : pf_MO_copies N (nI ns) (nI nh) ow ct th st op sc sl hC met row v = some (nI (0 + l.countP (fun w => decide (w = v))), nI l.length, row') := by
    unfold pf_MO_copies
    rw [eg, Option.bind_some, ← nI_0]
    exact cm_L hR hl l.length 0 N 0 (by omega) (by omega)
  rw [em]
  unfold pf_OS_copies
  by_cases hv : v = 0
  · subst hv
    have e0 : l.countP (fun w => decide (w = (0 : Int64))) = 0 := List.countP_eq_zero.mpr (fun w hw => by simp [hz w hw])
    rw [e0]
    exact ⟨0, _, _, by rw [if_neg (fun h => h (cmp_0 rfl))], rfl⟩
  · refine ⟨_, _, _, ?_, rfl⟩
    rw [if_pos (cmp_n hv), ← nI_0, cop_L h100 420 0 N 0 (by omega) (by omega), ← nz_count hv, List.Perm.countP_eq _ pm]
theorem sim_stored {N np ns nh : Nat} {tg rn cf op : Nat → Int32} {oC gC hC : Nat → Int64} {oM oX oL ow mk : Nat → Int32} {ct : Nat → Int64} {ru th : Nat → Int32} {gM gX gL st sa : Nat → Int32} {sc : Nat → Int64} {sr sl : Nat → Int32} (hN : 2000 ≤ N) (h40 : np ≤ 40) (hS : iS ns tg cf rn) (h100 : nh ≤ 100) (hO : iO np ns tg oC oM oX oL ow mk ct ru th) (hG : iG np ns cf op gC gM gX gL st sa sc sr sl) (met : Int32) (row df : Nat → Int64) :
    ∃ r df' met' row', pf_OS_stored N oC oL gC gL hC (nI nh) df = some (r, df') ∧ pf_MO_stored N (nI ns) (nI nh) ow ct th st op sc sl hC met row = some (r, met', row') := by
  obtain ⟨l, row', hR, hl, eg, pm, hz⟩ := sim_stocop (N := N) (hC := hC) hN h40 hS h100 hO hG met row
  obtain ⟨df', e⟩ := sto_L (N := N) (oC := oC) (gC := gC) (hC := hC) (oL := oL) (gL := gL) hN h100 420 0 N [] df (by omega) (by omega) (by simp) RL_nil
  refine ⟨nI (dsf [] l).length, df', nI l.length, row', ?_, ?_⟩
  · unfold pf_OS_stored
    rw [dsf_len (l1 := l) (l2 := nz ((List.range' 0 420).map (pl oC oL gC gL hC nh))) (fun v => List.Perm.mem_iff pm), ← nI_0]
    exact e
  · unfold pf_MO_stored
    rw [eg, Option.bind_some, ← nI_0]
    exact sm_out hN hR hl l.length 0 N (by omega) (by omega)
