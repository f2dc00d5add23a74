-- ===== the reference's row =====
theorem meets_t {N : Nat} {row : Nat → Int64} {l : List Int64} {v : Int64} (h : l.length < 1220) : pf_MO_meets N (nI l.length) row v = some (nI (l ++ [v]).length, vp_updL row l.length v) := by
  unfold pf_MO_meets
  rw [gz_nI h (by decide), nI_clamp (by omega), nI_1, List.length_append, List.length_singleton]
theorem ga3 {N nh : Nat} {hC : Nat → Int64} (h100 : nh ≤ 100) : ∀ (d h n : Nat) (l : List Int64) (row : Nat → Int64), h + d = nh → d < n → l.length ≤ 1120 + h → RL row l →
    ∃ row', RL row' (l ++ nz ((List.range' h d).map hC)) ∧ pf_MO_gather_L120 N (nI nh) hC n (nI l.length) row (nI h) = some (nI (l ++ nz ((List.range' h d).map hC)).length, row') := by
  intro d
  induction d with
  | zero =>
    intro h n l row hh hn hl hR
    obtain ⟨n, rfl⟩ : ∃ j, n = j + 1 := ⟨n - 1, by omega⟩
    have e : l ++ nz ((List.range' h 0).map hC) = l := List.append_nil l
    rw [e]
    exact ⟨row, hR, by rw [pf_MO_gather_L120.eq_2, if_pos (nI_le (by omega) (by omega))]⟩
  | succ d ih =>
    intro h n l row hh hn hl hR
    obtain ⟨n, rfl⟩ : ∃ j, n = j + 1 := ⟨n - 1, by omega⟩
    rw [pf_MO_gather_L120.eq_2, if_neg (nI_ge (by omega) (by omega)), gz_nI (by omega) (by decide), nI_clamp (by omega), gz_nI (by omega) (by decide), nI_1 h, List.range'_succ, List.map_cons]
    by_cases c : hC h = 0
    · rw [if_pos (cmp_0 c), nz_cons0 c]
      exact ih (h + 1) n l row (by omega) (by omega) (by omega) hR
    · rw [if_neg (cmp_n c), nz_cons1 c, meets_t (by omega), Option.bind_some]
      obtain ⟨row', a, b⟩ := ih (h + 1) n (l ++ [hC h]) (vp_updL row l.length (hC h)) (by omega) (by omega) (by simp; omega) (RL_snoc hR _)
      rw [List.append_assoc, List.singleton_append] at a b
      exact ⟨row', a, b⟩
theorem ga2i {N s m : Nat} {K : Int32 → (Nat → Int64) → Int32 → Option (Int32 × (Nat → Int64))} {st op sl gL : Nat → Int32} {sc gC : Nat → Int64} {kf : Nat → Nat} (hs : s < 80) (hm : m ≤ 12) (em : st s = nI m) (hop : ¬ op s = 0)
    (hk : ∀ j, j < m → ¬ gC (kf j) = 0 ∧ sc (12 * s + j) = gC (kf j) ∧ sl (12 * s + j) = gL (kf j)) : ∀ (d j n : Nat) (l : List Int64) (row : Nat → Int64), j + d = m → d < n → l.length ≤ 160 + 12 * s + j → RL row l →
    ∃ row', RL row' (l ++ nz ((List.range' j d).map (fun i => vo gC gL (kf i)))) ∧ pf_MO_gather_L63 N K st op sc sl (nI s) n (nI l.length) row (nI (12 * s + j)) = K (nI (l ++ nz ((List.range' j d).map (fun i => vo gC gL (kf i)))).length) row' (nI (s + 1)) := by
  have e1 : nI 12 * nI s + nI m = nI (12 * s + m) := by rw [pk_mul, nI_add]
  intro d
  induction d with
  | zero =>
    intro j n l row hj hn hl hR
    obtain ⟨n, rfl⟩ : ∃ j, n = j + 1 := ⟨n - 1, by omega⟩
    have e : l ++ nz ((List.range' j 0).map (fun i => vo gC gL (kf i))) = l := List.append_nil l
    rw [e]
    exact ⟨row, hR, by rw [pf_MO_gather_L63.eq_2, gz_nI hs (by decide), nI_clamp (by omega), em, e1, if_pos (nI_le (by omega) (by omega)), nI_1]⟩
  | succ d ih =>
    intro j n l row hj hn hl hR
    obtain ⟨n, rfl⟩ : ∃ j, n = j + 1 := ⟨n - 1, by omega⟩
    obtain ⟨k1, k2, k3⟩ := hk j (by omega)
    rw [pf_MO_gather_L63.eq_2, gz_nI hs (by decide), nI_clamp (by omega), em, e1, if_neg (nI_ge (by omega) (by omega)), gz_nI hs (by decide), if_neg hop, gz_nI (by omega) (by decide), nI_clamp (by omega), k3, k2, gz_nI (by omega) (by decide), nI_1 (12 * s + j), List.range'_succ, List.map_cons]
    by_cases c : gL (kf j) = 0
    · have hv : vo gC gL (kf j) = gC (kf j) := by unfold vo; rw [if_pos c]
      rw [if_neg (fun h => h c), hv, nz_cons1 k1, meets_t (by omega), Option.bind_some]
      obtain ⟨row', a, b⟩ := ih (j + 1) n (l ++ [gC (kf j)]) (vp_updL row l.length (gC (kf j))) (by omega) (by omega) (by simp; omega) (RL_snoc hR _)
      rw [List.append_assoc, List.singleton_append] at a b
      exact ⟨row', a, b⟩
    · have hv : vo gC gL (kf j) = 0 := by unfold vo; rw [if_neg c]
      rw [if_pos c, nz_cons0 hv]
      exact ih (j + 1) n l row (by omega) (by omega) (by omega) hR
theorem ga2c {N s m n : Nat} {K : Int32 → (Nat → Int64) → Int32 → Option (Int32 × (Nat → Int64))} {st op sl : Nat → Int32} {sc : Nat → Int64} {x : Int32} {row : Nat → Int64} {y : Int32} (hs : s < 80) (hm : m ≤ 12) (em : st s = nI m) (hop : op s = 0) (hn : 0 < n) : pf_MO_gather_L63 N K st op sc sl (nI s) n x row y = K x row (nI (s + 1)) := by
  obtain ⟨n, rfl⟩ : ∃ j, n = j + 1 := ⟨n - 1, by omega⟩
  rw [pf_MO_gather_L63.eq_2, gz_nI hs (by decide), nI_clamp (by omega), gz_nI hs (by decide), if_pos hop, nI_1]
  by_cases c : nI 12 * nI s + st s ≤ y
  · rw [if_pos c]
  · rw [if_neg c]
/-- the slots of what the open steps from s on have staged -/
def kys (cf op st sa : Nat → Int32) (s : Nat) : List Nat := if op s = 0 then [] else (List.range' 0 (st s).toNatClampNeg).map (fun j => 40 * (cf s).toNatClampNeg + (sa (12 * s + j)).toNatClampNeg)
theorem ga2 {N np ns nh : Nat} {cf op : Nat → Int32} {gC hC : Nat → Int64} {gM gX gL st sa : Nat → Int32} {sc : Nat → Int64} {sr sl : Nat → Int32} (hN : 2000 ≤ N) (h40 : np ≤ 40) (h80 : ns ≤ 80) (h100 : nh ≤ 100) (hG : iG np ns cf op gC gM gX gL st sa sc sr sl) : ∀ (d s n : Nat) (l : List Int64) (row : Nat → Int64), s + d = ns → d < n → l.length ≤ 160 + 12 * s → RL row l →
    ∃ row', RL row' (l ++ (nz (((List.range' s d).flatMap (kys cf op st sa)).map (vo gC gL)) ++ nz ((List.range' 0 nh).map hC))) ∧ pf_MO_gather_L50 N (nI ns) (nI nh) st op sc sl hC n (nI l.length) row (nI s) = some (nI (l ++ (nz (((List.range' s d).flatMap (kys cf op st sa)).map (vo gC gL)) ++ nz ((List.range' 0 nh).map hC))).length, row') := by
  intro d
  induction d with
  | zero =>
    intro s n l row hs hn hl hR
    obtain ⟨n, rfl⟩ : ∃ j, n = j + 1 := ⟨n - 1, by omega⟩
    obtain ⟨row', a, b⟩ := ga3 (N := N) (hC := hC) h100 nh 0 N l row (by omega) (by omega) (by omega) hR
    refine ⟨row', a, ?_⟩
    rw [pf_MO_gather_L50.eq_2, if_pos (nI_le (by omega) (by omega)), ← nI_0]
    exact b
  | succ d ih =>
    intro s n l row hs hn hl hR
    obtain ⟨n, rfl⟩ : ∃ j, n = j + 1 := ⟨n - 1, by omega⟩
    obtain ⟨m, hm, em⟩ := hG.1 s (by omega)
    rw [pf_MO_gather_L50.eq_2, if_neg (nI_ge (by omega) (by omega)), List.range'_succ, List.flatMap_cons, List.map_append, nz_app, pk_mul]
    by_cases c : op s = 0
    · have e : kys cf op st sa s = [] := by unfold kys; rw [if_pos c]
      rw [ga2c (by omega) hm em c (by omega), e]
      exact ih (s + 1) n l row (by omega) (by omega) (by omega) hR
    · have e : (kys cf op st sa s).map (vo gC gL) = (List.range' 0 m).map (fun j => vo gC gL (40 * (cf s).toNatClampNeg + (sa (12 * s + j)).toNatClampNeg)) := by
        unfold kys
        rw [if_neg c, em, nI_clamp (by omega), List.map_map]
        rfl
      have hkf : ∀ j, j < m → ¬ gC (40 * (cf s).toNatClampNeg + (sa (12 * s + j)).toNatClampNeg) = 0 ∧ sc (12 * s + j) = gC (40 * (cf s).toNatClampNeg + (sa (12 * s + j)).toNatClampNeg) ∧ sl (12 * s + j) = gL (40 * (cf s).toNatClampNeg + (sa (12 * s + j)).toNatClampNeg) := by
        intro j hj
        obtain ⟨c', p', q1, q2, q3, q4, q5, q6, q7, q8, q9, -⟩ := hG.2.2.1 s m (by omega) c hm em j hj
        rw [q3, q4, nI_clamp (by omega), nI_clamp (by omega)]
        exact ⟨q5, q7, q9⟩
      obtain ⟨row1, a1, b1⟩ := ga2i (N := N) (K := pf_MO_gather_L50 N (nI ns) (nI nh) st op sc sl hC n) (sl := sl) (sc := sc) (gL := gL) (gC := gC) (kf := fun j => 40 * (cf s).toNatClampNeg + (sa (12 * s + j)).toNatClampNeg) (show s < 80 by omega) hm em c hkf m 0 N l row (by omega) (by omega) (by omega) hR
      have hlen : (nz ((List.range' 0 m).map (fun i => vo gC gL (40 * (cf s).toNatClampNeg + (sa (12 * s + i)).toNatClampNeg)))).length ≤ m := by
        refine Nat.le_trans (List.length_filter_le _ _) ?_
        rw [List.length_map, List.length_range']
        exact Nat.le_refl _
      obtain ⟨row2, a2, b2⟩ := ih (s + 1) n (l ++ nz ((List.range' 0 m).map (fun i => vo gC gL (40 * (cf s).toNatClampNeg + (sa (12 * s + i)).toNatClampNeg)))) row1 (by omega) (by omega) (by rw [List.length_append]; omega) a1
      rw [List.append_assoc] at a2 b2
      rw [e, List.append_assoc]
      refine ⟨row2, a2, ?_⟩
      rw [Nat.add_zero] at b1
      rw [b1]
      exact b2
theorem ga1 {N np ns nh : Nat} {tg cf op : Nat → Int32} {oC gC hC : Nat → Int64} {oM oX oL ow mk : Nat → Int32} {ct : Nat → Int64} {ru th : Nat → Int32} {gM gX gL st sa : Nat → Int32} {sc : Nat → Int64} {sr sl : Nat → Int32} (hN : 2000 ≤ N) (h40 : np ≤ 40) (hS : ns ≤ 80 ∧ ∀ s, s < ns → ∃ t, t < 12 ∧ tg s = nI t) (h100 : nh ≤ 100) (hO : iO np ns tg oC oM oX oL ow mk ct ru th) (hG : iG np ns cf op gC gM gX gL st sa sc sr sl) : ∀ (d k n : Nat) (l : List Int64) (row : Nat → Int64), k + d = 160 → d < n → l.length ≤ k → RL row l →
    ∃ row', RL row' (l ++ (nz ((List.range' k d).map (vo oC oL)) ++ (nz (((List.range' 0 ns).flatMap (kys cf op st sa)).map (vo gC gL)) ++ nz ((List.range' 0 nh).map hC)))) ∧ pf_MO_gather_L7 N (nI ns) (nI nh) ow ct th st op sc sl hC n (nI l.length) row (nI k) = some (nI (l ++ (nz ((List.range' k d).map (vo oC oL)) ++ (nz (((List.range' 0 ns).flatMap (kys cf op st sa)).map (vo gC gL)) ++ nz ((List.range' 0 nh).map hC)))).length, row') := by
  intro d
  induction d with
  | zero =>
    intro k n l row hk hn hl hR
    obtain ⟨n, rfl⟩ : ∃ j, n = j + 1 := ⟨n - 1, by omega⟩
    obtain ⟨row', a, b⟩ := ga2 (N := N) (hC := hC) hN h40 hS.1 h100 hG ns 0 N l row (by omega) (by omega) (by omega) hR
    refine ⟨row', a, ?_⟩
    rw [pf_MO_gather_L7.eq_2, if_pos (nI_le (by omega) (by omega)), ← nI_0]
    exact b
  | succ d ih =>
    intro k n l row hk hn hl hR
    obtain ⟨n, rfl⟩ : ∃ j, n = j + 1 := ⟨n - 1, by omega⟩
    have hk1 : k < 160 := by omega
    rw [pf_MO_gather_L7.eq_2, if_neg (nI_ge (by omega) (by omega)), gz_nI hk1 (by decide), nI_clamp (by omega), gz_nI hk1 (by decide), gz_nI hk1 (by decide), nI_1 k, List.range'_succ, List.map_cons]
    rcases hO k hk1 with ⟨h1, h2⟩ | ⟨h1, -, h3, -, -, h4, s, h5, -, -, h6⟩
    · have hv : vo oC oL k = 0 := by
        unfold vo
        rw [h1]
        by_cases c : oL k = 0
        · rw [if_pos c]
        · rw [if_neg c]
      rw [if_pos h2, nz_cons0 hv]
      exact ih (k + 1) n l row (by omega) (by omega) (by omega) hR
    · obtain ⟨t, ht, et⟩ := hS.2 s h5
      have how : ¬ ow k = 0 := by rw [h6, et]; exact tg_ne0 ht
      rw [if_neg how]
      rcases h4 with ⟨q, q2⟩ | ⟨q, q2⟩
      · have hv : vo oC oL k = oC k := by unfold vo; rw [if_pos q]
        rw [if_neg (by rw [q2]; decide), hv, nz_cons1 h1, h3, meets_t (by omega), Option.bind_some]
        obtain ⟨row', a, b⟩ := ih (k + 1) n (l ++ [oC k]) (vp_updL row l.length (oC k)) (by omega) (by omega) (by simp; omega) (RL_snoc hR _)
        rw [List.append_assoc, List.singleton_append] at a b
        exact ⟨row', a, b⟩
      · have hv : vo oC oL k = 0 := by
          unfold vo
          rw [if_neg (by rw [q]; decide)]
        rw [if_pos q2, nz_cons0 hv]
        exact ih (k + 1) n l row (by omega) (by omega) (by omega) hR
-- ===== the same contents staged =====
theorem kys_mem {np ns : Nat} {tg rn cf op : Nat → Int32} {gC : Nat → Int64} {gM gX gL st sa : Nat → Int32} {sc : Nat → Int64} {sr sl : Nat → Int32} (h40 : np ≤ 40) (hS : iS ns tg cf rn) (hG : iG np ns cf op gC gM gX gL st sa sc sr sl) (k : Nat) : k ∈ (List.range' 0 ns).flatMap (kys cf op st sa) ↔ k < 160 ∧ ¬ gC k = 0 := by
  have h80 := hS.1
  rw [List.mem_flatMap]
  constructor
  · rintro ⟨s, hs, h⟩
    have hs' := List.mem_range'_1.mp hs
    unfold kys at h
    by_cases c : op s = 0
    · rw [if_pos c] at h
      cases h
    · rw [if_neg c] at h
      obtain ⟨m, hm, em⟩ := hG.1 s (by omega)
      rw [em, nI_clamp (by omega)] at h
      obtain ⟨j, hj, rfl⟩ := List.mem_map.mp h
      have hj' := List.mem_range'_1.mp hj
      obtain ⟨c', p', q1, q2, q3, q4, q5, -⟩ := hG.2.2.1 s m (by omega) c hm em j (by omega)
      rw [q3, q4, nI_clamp (by omega), nI_clamp (by omega)]
      exact ⟨by omega, q5⟩
  · rintro ⟨h1, h2⟩
    obtain ⟨s, q1, q2, q3, q4, j, m, q5, q6, q7, q8⟩ := hG.2.1 k h1 h2
    refine ⟨s, List.mem_range'_1.mpr ⟨by omega, by omega⟩, ?_⟩
    unfold kys
    rw [if_neg q3, q7, nI_clamp (by omega)]
    refine List.mem_map.mpr ⟨j, List.mem_range'_1.mpr ⟨by omega, by omega⟩, ?_⟩
    rw [q4, q8, nI_clamp (by omega), nI_clamp (by omega)]
    omega
theorem kys_nodup {np ns : Nat} {tg rn cf op : Nat → Int32} {gC : Nat → Int64} {gM gX gL st sa : Nat → Int32} {sc : Nat → Int64} {sr sl : Nat → Int32} (h40 : np ≤ 40) (hS : iS ns tg cf rn) (hG : iG np ns cf op gC gM gX gL st sa sc sr sl) : ((List.range' 0 ns).flatMap (kys cf op st sa)).Nodup := by
  have h80 := hS.1
  have at_ : ∀ s, s < ns → ∀ k, k ∈ kys cf op st sa s → ∃ j m c p, ¬ op s = 0 ∧ m ≤ 12 ∧ st s = nI m ∧ j < m ∧ c < 4 ∧ p < np ∧ cf s = nI c ∧ sa (12 * s + j) = nI p ∧ gM k = nI s ∧ k = 40 * c + p := by
    intro s hs k hk
    unfold kys at hk
    by_cases c : op s = 0
    · rw [if_pos c] at hk
      cases hk
    · rw [if_neg c] at hk
      obtain ⟨m, hm, em⟩ := hG.1 s hs
      rw [em, nI_clamp (by omega)] at hk
      obtain ⟨j, hj, rfl⟩ := List.mem_map.mp hk
      have hj' := List.mem_range'_1.mp hj
      obtain ⟨c', p', q1, q2, q3, q4, q5, q6, -⟩ := hG.2.2.1 s m hs c hm em j (by omega)
      refine ⟨j, m, c', p', c, hm, em, by omega, q1, q2, q3, q4, ?_, ?_⟩
      · rw [q3, q4, nI_clamp (by omega), nI_clamp (by omega)]
        exact q6
      · rw [q3, q4, nI_clamp (by omega), nI_clamp (by omega)]
  refine List.pairwise_flatMap.mpr ⟨fun s hs => ?_, ?_⟩
  · have hs' := List.mem_range'_1.mp hs
    unfold kys
    by_cases c : op s = 0
    · rw [if_pos c]
      exact List.Pairwise.nil
    · rw [if_neg c]
      obtain ⟨m, hm, em⟩ := hG.1 s (by omega)
      rw [em, nI_clamp (by omega)]
      refine List.pairwise_map.mpr (List.Pairwise.imp_of_mem (fun {i j} hi hj hne => ?_) (List.nodup_range' (s := 0) (n := m)))
      have hi' := List.mem_range'_1.mp hi
      have hj' := List.mem_range'_1.mp hj
      intro e
      obtain ⟨c1, p1, -, a2, -, a4, -⟩ := hG.2.2.1 s m (by omega) c hm em i (by omega)
      obtain ⟨c2, p2, -, b2, -, b4, -⟩ := hG.2.2.1 s m (by omega) c hm em j (by omega)
      rw [a4, b4, nI_clamp (by omega), nI_clamp (by omega)] at e
      exact hne (hG.2.2.2 s m (by omega) c hm em i j (by omega) (by omega) (by rw [a4, b4, show p1 = p2 by omega]))
  · refine List.Pairwise.imp_of_mem (fun {s1 s2} h1 h2 hne => ?_) (List.nodup_range' (s := 0) (n := ns))
    have h1' := List.mem_range'_1.mp h1
    have h2' := List.mem_range'_1.mp h2
    intro x hx y hy e
    obtain ⟨-, -, -, -, -, -, -, -, -, -, -, -, q1, -⟩ := at_ s1 (by omega) x hx
    obtain ⟨-, -, -, -, -, -, -, -, -, -, -, -, q2, -⟩ := at_ s2 (by omega) y hy
    rw [e, q2] at q1
    exact hne (nI_inj (by omega) (by omega) q1).symm
theorem kys_perm {np ns : Nat} {tg rn cf op : Nat → Int32} {gC : Nat → Int64} {gM gX gL st sa : Nat → Int32} {sc : Nat → Int64} {sr sl : Nat → Int32} (h40 : np ≤ 40) (hS : iS ns tg cf rn) (hG : iG np ns cf op gC gM gX gL st sa sc sr sl) : (nz (((List.range' 0 ns).flatMap (kys cf op st sa)).map (vo gC gL))).Perm (nz ((List.range' 0 160).map (vo gC gL))) := by
  have e : nz ((List.range' 0 160).map (vo gC gL)) = nz (((List.range' 0 160).filter (fun k => decide (¬ gC k = 0))).map (vo gC gL)) := by
    generalize List.range' 0 160 = R
    induction R with
    | nil => rfl
    | cons k R ih =>
      by_cases c : gC k = 0
      · rw [List.filter_cons_of_neg (by simp [c]), List.map_cons, nz_cons0 (by unfold vo; rw [c]; split <;> rfl), ih]
      · rw [List.filter_cons_of_pos (by simp [c]), List.map_cons, List.map_cons]
        by_cases z : vo gC gL k = 0
        · rw [nz_cons0 z, nz_cons0 z, ih]
        · rw [nz_cons1 z, nz_cons1 z, ih]
  rw [e]
  refine List.Perm.filter _ (List.Perm.map _ ((List.perm_ext_iff_of_nodup (kys_nodup h40 hS hG) (List.Nodup.sublist List.filter_sublist (List.nodup_range'))).mpr (fun k => ?_)))
  rw [kys_mem h40 hS hG]
  simp only [List.mem_filter, List.mem_range'_1, decide_eq_true_eq]
  constructor
  · rintro ⟨h1, h2⟩
    exact ⟨⟨by omega, by omega⟩, h2⟩
  · rintro ⟨⟨-, h1⟩, h2⟩
    exact ⟨by omega, h2⟩
