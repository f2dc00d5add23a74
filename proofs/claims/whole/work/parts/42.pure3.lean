-- ===== the cache =====
theorem find_L {N nc zn : Nat} {f : Nat → Int64} {v : Int64} (h1 : nc ≤ zn) (h2 : zn < 2 ^ 31) : ∀ (d i n : Nat), i + d = nc → d < n → (∀ j, j < i → ¬ f j = v) →
    (∃ j, j < nc ∧ f j = v ∧ (∀ i', i' < j → ¬ f i' = v) ∧ pf_OS_find_L3 N zn f (nI nc) v n (nI i) = some (nI j)) ∨ ((∀ j, j < nc → ¬ f j = v) ∧ pf_OS_find_L3 N zn f (nI nc) v n (nI i) = some (-1)) := by
  intro d
  induction d with
  | zero =>
    intro i n hi hn hb
    obtain ⟨n, rfl⟩ : ∃ k, n = k + 1 := ⟨n - 1, by omega⟩
    exact Or.inr ⟨fun j hj => hb j (by omega), by rw [pf_OS_find_L3.eq_2, if_pos (nI_le (by omega) (by omega))]⟩
  | succ d ih =>
    intro i n hi hn hb
    obtain ⟨n, rfl⟩ : ∃ k, n = k + 1 := ⟨n - 1, by omega⟩
    rw [pf_OS_find_L3.eq_2, if_neg (nI_ge (by omega) (by omega)), if_neg (show ¬ Int32.ofNat zn ≤ nI i from nI_ge (a := i) (b := zn) (by omega) (by omega)), gz_nI (by omega) (by omega), nI_clamp (by omega)]
    by_cases c : f i = v
    · exact Or.inl ⟨i, by omega, c, hb, by rw [if_neg (fun h => h (cmp_0 c))]⟩
    · rw [if_pos (cmp_n c), nI_1]
      exact ih (i + 1) n (by omega) (by omega) (fun j hj => by
        by_cases e : j = i
        · rw [e]; exact c
        · exact hb j (by omega))
theorem find_sp {N nc zn : Nat} {f : Nat → Int64} {v : Int64} (hN : 2000 ≤ N) (h1 : nc ≤ zn) (h2 : zn < 2 ^ 31) (h3 : nc < 2000) :
    (∃ j, j < nc ∧ f j = v ∧ (∀ i', i' < j → ¬ f i' = v) ∧ pf_OS_find N f zn (nI nc) v = some (nI j)) ∨ ((∀ j, j < nc → ¬ f j = v) ∧ pf_OS_find N f zn (nI nc) v = some (-1)) :=
  find_L h1 h2 nc 0 N (by omega) (by omega) (fun j hj => absurd hj (by omega))
theorem CS_has_sp {N nc : Nat} {f : Nat → Int64} {v : Int64} (hN : 2000 ≤ N) (h1 : nc ≤ 60) : ((∃ j, j < nc ∧ f j = v) ∧ pf_CS_has N f (nI nc) v = some 1) ∨ ((∀ j, j < nc → ¬ f j = v) ∧ pf_CS_has N f (nI nc) v = some 0) := by
  unfold pf_CS_has
  rcases find_sp (N := N) (f := f) (v := v) hN h1 (by decide) (by omega) with ⟨j, hj, e, -, h⟩ | ⟨hb, h⟩
  · exact Or.inl ⟨⟨j, hj, e⟩, by rw [h, Option.bind_some, if_neg (z_m1 (by omega))]⟩
  · exact Or.inr ⟨hb, by rw [h, Option.bind_some, if_pos rfl]⟩
theorem isC_L1 {N nc : Nat} {f : Nat → Int64} {v : Int64} (h1 : nc ≤ 60) : ∀ (d i n : Nat), i + d = nc → d < n → pf_MO_isCached_L5 N (nI nc) f v n 1 (nI i) = some 1 := by
  intro d
  induction d with
  | zero =>
    intro i n hi hn
    obtain ⟨n, rfl⟩ : ∃ k, n = k + 1 := ⟨n - 1, by omega⟩
    rw [pf_MO_isCached_L5.eq_2, if_pos (nI_le (by omega) (by omega))]
    rfl
  | succ d ih =>
    intro i n hi hn
    obtain ⟨n, rfl⟩ : ∃ k, n = k + 1 := ⟨n - 1, by omega⟩
    rw [pf_MO_isCached_L5.eq_2, if_neg (nI_ge (by omega) (by omega)), if_pos (by decide), nI_1]
    exact ih (i + 1) n (by omega) (by omega)
theorem isC_L0 {N nc : Nat} {f : Nat → Int64} {v : Int64} (h1 : nc ≤ 60) : ∀ (d i n : Nat), i + d = nc → d < n → ((∃ j, i ≤ j ∧ j < nc ∧ f j = v) → pf_MO_isCached_L5 N (nI nc) f v n 0 (nI i) = some 1) ∧ ((∀ j, i ≤ j → j < nc → ¬ f j = v) → pf_MO_isCached_L5 N (nI nc) f v n 0 (nI i) = some 0) := by
  intro d
  induction d with
  | zero =>
    intro i n hi hn
    obtain ⟨n, rfl⟩ : ∃ k, n = k + 1 := ⟨n - 1, by omega⟩
    refine ⟨fun ⟨j, h2, h3, _⟩ => absurd h3 (by omega), fun _ => ?_⟩
    rw [pf_MO_isCached_L5.eq_2, if_pos (nI_le (by omega) (by omega))]
    rfl
  | succ d ih =>
    intro i n hi hn
    obtain ⟨n, rfl⟩ : ∃ k, n = k + 1 := ⟨n - 1, by omega⟩
    rw [pf_MO_isCached_L5.eq_2, if_neg (nI_ge (by omega) (by omega)), if_neg (by decide), gz_nI (by omega) (by decide), nI_clamp (by omega), nI_1]
    by_cases c : f i = v
    · rw [if_neg (fun h => h (cmp_0 c))]
      exact ⟨fun _ => isC_L1 h1 d (i + 1) n (by omega) (by omega), fun h => absurd c (h i (by omega) (by omega))⟩
    · rw [if_pos (cmp_n c)]
      obtain ⟨a, b⟩ := ih (i + 1) n (by omega) (by omega)
      exact ⟨fun ⟨j, h2, h3, h4⟩ => a ⟨j, by
        by_cases e : j = i
        · rw [e] at h4; exact absurd h4 c
        · omega, h3, h4⟩, fun h => b (fun j h2 h3 => h j (by omega) h3)⟩
theorem MO_isC_t {N nc : Nat} {f : Nat → Int64} {v : Int64} (hN : 2000 ≤ N) (h1 : nc ≤ 60) (h : ∃ j, j < nc ∧ f j = v) : pf_MO_isCached N (nI nc) f v = some 1 := by
  obtain ⟨j, hj, e⟩ := h
  exact (isC_L0 h1 nc 0 N (by omega) (by omega)).1 ⟨j, by omega, hj, e⟩
theorem MO_isC_f {N nc : Nat} {f : Nat → Int64} {v : Int64} (hN : 2000 ≤ N) (h1 : nc ≤ 60) (h : ∀ j, j < nc → ¬ f j = v) : pf_MO_isCached N (nI nc) f v = some 0 :=
  (isC_L0 h1 nc 0 N (by omega) (by omega)).2 (fun j _ hj => h j hj)
theorem ca_L69 {N m j : Nat} {f : Nat → Int64} {v : Int64} (h1 : m < 60) (hj : j ≤ m) (e : f j = v) (hb : ∀ i, i < j → ¬ f i = v) : ∀ (d i n : Nat), i + d = j → d < n → pf_MO_cache_L69 N (nI (m + 1)) f v n (nI i) = some (1, nI m, vp_updL f j (f m)) := by
  intro d
  induction d with
  | zero =>
    intro i n hi hn
    obtain ⟨n, rfl⟩ : ∃ k, n = k + 1 := ⟨n - 1, by omega⟩
    obtain rfl : i = j := by omega
    rw [pf_MO_cache_L69.eq_2, gz_nI (by omega) (by decide), nI_clamp (by omega), if_pos (cmp_0 e), nI_pred, gz_nI (by omega) (by decide), gz_nI (by omega) (by decide), nI_clamp (by omega)]
  | succ d ih =>
    intro i n hi hn
    obtain ⟨n, rfl⟩ : ∃ k, n = k + 1 := ⟨n - 1, by omega⟩
    rw [pf_MO_cache_L69.eq_2, gz_nI (by omega) (by decide), nI_clamp (by omega), if_neg (cmp_n (hb i (by omega))), nI_1]
    exact ih (i + 1) n (by omega) (by omega)
theorem sim_cache {N nc : Nat} {cC : Nat → Int64} (hN : 2000 ≤ N) (h60 : nc ≤ 60) (v : Int64) (b : Int32) (hb : b = 0 ∨ b = 1) :
    ∃ r cC' nc', nc' ≤ 60 ∧ pf_OS_cache N cC (nI nc) v b = some (r, cC', nI nc') ∧ pf_MO_cache N (nI nc) cC v b = some (r, nI nc', cC') := by
  unfold pf_OS_cache pf_MO_cache
  by_cases hv : v = 0
  · exact ⟨0, cC, nc, h60, by rw [if_neg (fun h => h (cmp_0 hv))], by rw [if_pos (cmp_0 hv)]⟩
  rw [if_pos (cmp_n hv), if_neg (cmp_n hv)]
  rcases hb with rfl | rfl
  · rw [if_pos rfl, if_pos rfl]
    unfold pf_CS_exclude
    rcases find_sp (N := N) (f := cC) (v := v) hN h60 (by decide) (by omega) with ⟨j, hj, e, hl, h⟩ | ⟨hl, h⟩
    · obtain ⟨m, rfl⟩ : ∃ k, nc = k + 1 := ⟨nc - 1, by omega⟩
      refine ⟨1, vp_updL cC j (cC m), m, by omega, ?_, ?_⟩
      · rw [h, Option.bind_some, if_neg (nI_pos (by omega)), if_neg (nI_ge (by omega) (by omega)), nI_pred, gz_nI (by omega) (by decide), gz_nI (by omega) (by decide), nI_clamp (by omega), nI_clamp (by omega), Option.bind_some]
      · rw [MO_isC_t hN h60 ⟨j, hj, e⟩, Option.bind_some, if_pos (by decide), if_pos rfl]
        exact ca_L69 (by omega) (by omega) e hl j 0 N (by omega) (by omega)
    · refine ⟨1, cC, nc, h60, ?_, ?_⟩
      · rw [h, Option.bind_some, if_pos (by decide), Option.bind_some]
      · rw [MO_isC_f hN h60 hl, Option.bind_some, if_neg (by decide)]
  · rw [if_neg (by decide), if_neg (by decide)]
    unfold pf_CS_include
    rcases CS_has_sp (N := N) (f := cC) (v := v) hN h60 with ⟨he, h⟩ | ⟨hl, h⟩
    · refine ⟨1, cC, nc, h60, ?_, ?_⟩
      · rw [h, Option.bind_some, if_neg (by decide), Option.bind_some]; rfl
      · rw [MO_isC_t hN h60 he, Option.bind_some, if_pos (by decide), Option.bind_some, if_neg (by decide)]
    · by_cases c : nc = 60
      · subst c
        refine ⟨0, cC, 60, h60, ?_, ?_⟩
        · rw [h, Option.bind_some, if_pos rfl, if_neg (by decide), Option.bind_some]; rfl
        · rw [MO_isC_f hN h60 hl, Option.bind_some, if_neg (by decide), if_neg (by decide)]
      · refine ⟨1, vp_updL cC nc v, nc + 1, by omega, ?_, ?_⟩
        · rw [h, Option.bind_some, if_pos rfl, if_pos (nI_lt (by omega) (by decide)), gz_nI (by omega) (by decide), nI_clamp (by omega), nI_1, Option.bind_some]; rfl
        · rw [MO_isC_f hN h60 hl, Option.bind_some, if_neg (by decide), if_pos (nI_neq (by omega) (by decide) c), Option.bind_some, if_pos (by decide), if_neg (by decide), gz_nI (by omega) (by decide), nI_clamp (by omega), nI_1]
-- ===== path, begin =====
theorem sim_path {N np : Nat} {f : Nat → Int32} (hT : wfT np f) (x : Int32) : ∃ r f' np', np ≤ np' ∧ wfT np' f' ∧ pf_OS_path N f (nI np) x = some (r, f', nI np') ∧ pf_MO_path N (nI np) f x = some (r, nI np', f') := by
  obtain ⟨h40, hw⟩ := hT
  unfold pf_OS_path pf_PT_grow pf_MO_path
  by_cases c : np = 40
  · subst c
    exact ⟨-1, f, 40, Nat.le_refl _, ⟨h40, hw⟩, by rw [if_pos (nI_le (by omega) (by decide)), Option.bind_some], by rw [if_pos rfl]⟩
  rw [if_neg (nI_ge (by omega) (by decide)), if_neg (nI_neq (by omega) (by decide) c)]
  have hnew : ∀ y : Int32, (y = -1 ∨ ∃ i, i < np ∧ y = nI i) → wfT (np + 1) (upd f np y) := fun y hy => ⟨by omega, fun j hj => by
    by_cases e : j = np
    · subst e
      rw [pk_us]
      exact hy
    · rw [pk_un e]
      exact hw j (by omega)⟩
  by_cases e : x = -1
  · exact ⟨nI np, upd f np x, np + 1, by omega, hnew x (Or.inl e), by rw [if_pos e, gz_nI (by omega) (by decide), nI_clamp (by omega), nI_1, nI_pred, Option.bind_some], by rw [if_pos e, gz_nI (by omega) (by decide), nI_clamp (by omega), nI_1, nI_pred]⟩
  rw [if_neg e, if_neg e]
  rcases ixN x (n := np) (by omega) with hx | ⟨j, hj, rfl⟩
  · exact ⟨-1, f, np, Nat.le_refl _, ⟨h40, hw⟩, by rw [PT_has_f hx, Option.bind_some, if_neg (by decide), Option.bind_some], by rw [MO_isPath_f hx, Option.bind_some, if_neg (by decide)]⟩
  · exact ⟨nI np, upd f np (nI j), np + 1, by omega, hnew _ (Or.inr ⟨j, hj, rfl⟩), by rw [PT_has_t hj (by omega), Option.bind_some, if_pos (by decide), gz_nI (by omega) (by decide), nI_clamp (by omega), nI_1, nI_pred, Option.bind_some], by rw [MO_isPath_t hj (by omega), Option.bind_some, if_pos (by decide), gz_nI (by omega) (by decide), nI_clamp (by omega), nI_1, nI_pred]⟩
