-- ===== open steps =====
theorem SB_open_1 {N ns s : Nat} {op : Nat → Int32} (hs : s < ns) (hn : ns ≤ 80) (h : ¬ op s = 0) : pf_SB_isOpen N op (nI ns) (nI s) = some 1 := by
  unfold pf_SB_isOpen
  rw [SB_has_t hs (by omega), Option.bind_some, if_neg (by decide), gz_nI (by omega) (by decide), nI_clamp (by omega), if_neg h]
theorem SB_open_0 {N ns s : Nat} {op : Nat → Int32} (hs : s < ns) (hn : ns ≤ 80) (h : op s = 0) : pf_SB_isOpen N op (nI ns) (nI s) = some 0 := by
  unfold pf_SB_isOpen
  rw [SB_has_t hs (by omega), Option.bind_some, if_neg (by decide), gz_nI (by omega) (by decide), nI_clamp (by omega), if_pos h]
theorem SB_open_f {N ns : Nat} {x : Int32} {op : Nat → Int32} (h : x < 0 ∨ nI ns ≤ x) : pf_SB_isOpen N op (nI ns) x = some 0 := by
  unfold pf_SB_isOpen
  rw [SB_has_f h, Option.bind_some, if_pos rfl]
theorem MO_open_1 {N ns s : Nat} {op : Nat → Int32} (hs : s < ns) (hn : ns ≤ 80) (h : ¬ op s = 0) : pf_MO_isOpenStep N (nI ns) op (nI s) = some 1 := by
  unfold pf_MO_isOpenStep
  rw [z_good hs (by omega), if_neg (nI_pos (by omega)), if_neg (nI_ge hs (by omega)), gz_nI (by omega) (by decide), nI_clamp (by omega), if_neg h]
theorem MO_open_0 {N ns s : Nat} {op : Nat → Int32} (hs : s < ns) (hn : ns ≤ 80) (h : op s = 0) : pf_MO_isOpenStep N (nI ns) op (nI s) = some 0 := by
  unfold pf_MO_isOpenStep
  rw [z_good hs (by omega), if_neg (nI_pos (by omega)), if_neg (nI_ge hs (by omega)), gz_nI (by omega) (by decide), nI_clamp (by omega), if_pos h]
theorem MO_open_f {N ns : Nat} {x : Int32} {op : Nat → Int32} (h : x < 0 ∨ nI ns ≤ x) : pf_MO_isOpenStep N (nI ns) op x = some 0 := by
  unfold pf_MO_isOpenStep
  rw [z_bad h]
theorem has1_L {N ns : Nat} {tg cf op : Nat → Int32} {t c : Int32} (hn : ns ≤ 80) : ∀ (d i n : Nat), i + d = 80 → d < n →
    ((∃ s, i ≤ s ∧ s < ns ∧ ¬ op s = 0 ∧ tg s = t ∧ cf s = c) ∧ pf_SB_hasOpenOne_L2 N tg cf op (nI ns) t c n (nI i) = some 1) ∨ ((∀ s, i ≤ s → s < ns → ¬ op s = 0 → tg s = t → ¬ cf s = c) ∧ pf_SB_hasOpenOne_L2 N tg cf op (nI ns) t c n (nI i) = some 0) := by
  intro d
  induction d with
  | zero =>
    intro i n hi hn'
    obtain ⟨n, rfl⟩ : ∃ k, n = k + 1 := ⟨n - 1, by omega⟩
    exact Or.inr ⟨fun s h1 h2 => absurd h2 (by omega), by rw [pf_SB_hasOpenOne_L2.eq_2, if_pos (nI_le (by omega) (by omega))]⟩
  | succ d ih =>
    intro i n hi hn'
    obtain ⟨n, rfl⟩ : ∃ k, n = k + 1 := ⟨n - 1, by omega⟩
    rw [pf_SB_hasOpenOne_L2.eq_2, if_neg (nI_ge (by omega) (by omega)), nI_1]
    have skip : (i < ns → ¬ op i = 0 → tg i = t → ¬ cf i = c) →
        ((∃ s, i ≤ s ∧ s < ns ∧ ¬ op s = 0 ∧ tg s = t ∧ cf s = c) ∧ pf_SB_hasOpenOne_L2 N tg cf op (nI ns) t c n (nI (i + 1)) = some 1) ∨ ((∀ s, i ≤ s → s < ns → ¬ op s = 0 → tg s = t → ¬ cf s = c) ∧ pf_SB_hasOpenOne_L2 N tg cf op (nI ns) t c n (nI (i + 1)) = some 0) := by
      intro hno
      rcases ih (i + 1) n (by omega) (by omega) with ⟨⟨s, h1, h2⟩, e⟩ | ⟨h1, e⟩
      · exact Or.inl ⟨⟨s, by omega, h2⟩, e⟩
      · refine Or.inr ⟨fun s h2 h3 => ?_, e⟩
        by_cases q : s = i
        · subst q; exact hno h3
        · exact h1 s (by omega) h3
    by_cases c1 : i < ns
    · by_cases c2 : op i = 0
      · rw [SB_open_0 c1 hn c2, Option.bind_some, if_pos rfl]
        exact skip (fun _ h => absurd c2 h)
      · rw [SB_open_1 c1 hn c2, Option.bind_some, if_neg (by decide), gz_nI (by omega) (by decide), nI_clamp (by omega)]
        by_cases c3 : tg i = t
        · rw [if_neg (fun h => h c3), gz_nI (by omega) (by decide)]
          by_cases c4 : cf i = c
          · rw [if_neg (fun h => h c4)]
            exact Or.inl ⟨⟨i, Nat.le_refl _, c1, c2, c3, c4⟩, rfl⟩
          · rw [if_pos c4]
            exact skip (fun _ _ _ => c4)
        · rw [if_pos c3]
          exact skip (fun _ _ h => absurd h c3)
    · rw [SB_open_f (Or.inr (nI_le (by omega) (by omega))), Option.bind_some, if_pos rfl]
      exact skip (fun h => absurd h c1)
theorem has2_L {N ns : Nat} {cf op : Nat → Int32} {c : Int32} (hn : ns ≤ 80) : ∀ (d i n : Nat), i + d = 80 → d < n →
    ((∃ s, i ≤ s ∧ s < ns ∧ ¬ op s = 0 ∧ cf s = c) ∧ pf_SB_hasOpenOneIn_L2 N cf op (nI ns) c n (nI i) = some 1) ∨ ((∀ s, i ≤ s → s < ns → ¬ op s = 0 → ¬ cf s = c) ∧ pf_SB_hasOpenOneIn_L2 N cf op (nI ns) c n (nI i) = some 0) := by
  intro d
  induction d with
  | zero =>
    intro i n hi hn'
    obtain ⟨n, rfl⟩ : ∃ k, n = k + 1 := ⟨n - 1, by omega⟩
    exact Or.inr ⟨fun s h1 h2 => absurd h2 (by omega), by rw [pf_SB_hasOpenOneIn_L2.eq_2, if_pos (nI_le (by omega) (by omega))]⟩
  | succ d ih =>
    intro i n hi hn'
    obtain ⟨n, rfl⟩ : ∃ k, n = k + 1 := ⟨n - 1, by omega⟩
    rw [pf_SB_hasOpenOneIn_L2.eq_2, if_neg (nI_ge (by omega) (by omega)), nI_1]
    have skip : (i < ns → ¬ op i = 0 → ¬ cf i = c) →
        ((∃ s, i ≤ s ∧ s < ns ∧ ¬ op s = 0 ∧ cf s = c) ∧ pf_SB_hasOpenOneIn_L2 N cf op (nI ns) c n (nI (i + 1)) = some 1) ∨ ((∀ s, i ≤ s → s < ns → ¬ op s = 0 → ¬ cf s = c) ∧ pf_SB_hasOpenOneIn_L2 N cf op (nI ns) c n (nI (i + 1)) = some 0) := by
      intro hno
      rcases ih (i + 1) n (by omega) (by omega) with ⟨⟨s, h1, h2⟩, e⟩ | ⟨h1, e⟩
      · exact Or.inl ⟨⟨s, by omega, h2⟩, e⟩
      · refine Or.inr ⟨fun s h2 h3 => ?_, e⟩
        by_cases q : s = i
        · subst q; exact hno h3
        · exact h1 s (by omega) h3
    by_cases c1 : i < ns
    · by_cases c2 : op i = 0
      · rw [SB_open_0 c1 hn c2, Option.bind_some, if_pos rfl]
        exact skip (fun _ h => absurd c2 h)
      · rw [SB_open_1 c1 hn c2, Option.bind_some, if_neg (by decide), gz_nI (by omega) (by decide), nI_clamp (by omega)]
        by_cases c4 : cf i = c
        · rw [if_neg (fun h => h c4)]
          exact Or.inl ⟨⟨i, Nat.le_refl _, c1, c2, c4⟩, rfl⟩
        · rw [if_pos c4]
          exact skip (fun _ _ => c4)
    · rw [SB_open_f (Or.inr (nI_le (by omega) (by omega))), Option.bind_some, if_pos rfl]
      exact skip (fun h => absurd h c1)
theorem beg_L {N ns : Nat} {tg cf rn st op : Nat → Int32} {t c r : Int32} (hn : ns < 80) : ∀ (d i n : Nat), i + d = ns → d < n →
    ((∃ s, i ≤ s ∧ s < ns ∧ ¬ op s = 0 ∧ tg s = t ∧ cf s = c) → pf_MO_begin_L40 N (nI ns) tg cf rn st op t c r n (nI i) = some (-2, nI ns, tg, cf, rn, st, op)) ∧
    ((∀ s, i ≤ s → s < ns → ¬ op s = 0 → tg s = t → ¬ cf s = c) → pf_MO_begin_L40 N (nI ns) tg cf rn st op t c r n (nI i) = some (nI ns, nI (ns + 1), upd tg ns t, upd cf ns c, upd rn ns r, upd st ns 0, upd op ns 1)) := by
  intro d
  induction d with
  | zero =>
    intro i n hi hn'
    obtain ⟨n, rfl⟩ : ∃ k, n = k + 1 := ⟨n - 1, by omega⟩
    refine ⟨fun ⟨s, h1, h2, _⟩ => absurd h2 (by omega), fun _ => ?_⟩
    rw [pf_MO_begin_L40.eq_2, if_pos (nI_le (by omega) (by omega)), gz_nI (by omega) (by decide), gz_nI (by omega) (by decide), gz_nI (by omega) (by decide), gz_nI (by omega) (by decide), gz_nI (by omega) (by decide), nI_clamp (by omega), nI_1, nI_pred, nar_1]
  | succ d ih =>
    intro i n hi hn'
    obtain ⟨n, rfl⟩ : ∃ k, n = k + 1 := ⟨n - 1, by omega⟩
    rw [pf_MO_begin_L40.eq_2, if_neg (nI_ge (by omega) (by omega)), gz_nI (by omega) (by decide), nI_clamp (by omega), nI_1, gz_nI (by omega) (by decide), gz_nI (by omega) (by decide)]
    obtain ⟨a, b⟩ := ih (i + 1) n (by omega) (by omega)
    have up : ∀ s, i ≤ s → ¬ (¬ op i = 0 ∧ tg i = t ∧ cf i = c) → (¬ op s = 0 ∧ tg s = t ∧ cf s = c) → i + 1 ≤ s := by
      intro s h1 h2 h3
      by_cases q : s = i
      · subst q; exact absurd h3 h2
      · omega
    by_cases c2 : op i = 0
    · rw [if_pos c2]
      exact ⟨fun ⟨s, h1, h2, h3⟩ => a ⟨s, up s h1 (fun z => z.1 c2) h3, h2, h3⟩, fun h => b (fun s h1 => h s (by omega))⟩
    · rw [if_neg c2]
      by_cases c3 : tg i = t
      · rw [if_neg (fun h => h c3)]
        by_cases c4 : cf i = c
        · rw [if_neg (fun h => h c4)]
          exact ⟨fun _ => rfl, fun h => absurd c4 (h i (Nat.le_refl _) (by omega) c2 c3)⟩
        · rw [if_pos c4]
          exact ⟨fun ⟨s, h1, h2, h3⟩ => a ⟨s, up s h1 (fun z => c4 z.2.2) h3, h2, h3⟩, fun h => b (fun s h1 => h s (by omega))⟩
      · rw [if_pos c3]
        exact ⟨fun ⟨s, h1, h2, h3⟩ => a ⟨s, up s h1 (fun z => c3 z.2.1) h3, h2, h3⟩, fun h => b (fun s h1 => h s (by omega))⟩
theorem sim_begin {N ns : Nat} {tg cf rn st op : Nat → Int32} (hN : 2000 ≤ N) (hS : iS ns tg cf rn) (x y z : Int32) :
    (∃ r, pf_OS_begin N tg cf rn op (nI ns) x y z = some (r, tg, cf, rn, op, nI ns) ∧ pf_MO_begin N (nI ns) tg cf rn st op x y z = some (r, nI ns, tg, cf, rn, st, op)) ∨
    (iS (ns + 1) (upd tg ns x) (upd cf ns y) (upd rn ns z) ∧ ∃ r, pf_OS_begin N tg cf rn op (nI ns) x y z = some (r, upd tg ns x, upd cf ns y, upd rn ns z, upd op ns 1, nI (ns + 1)) ∧ pf_MO_begin N (nI ns) tg cf rn st op x y z = some (r, nI (ns + 1), upd tg ns x, upd cf ns y, upd rn ns z, upd st ns 0, upd op ns 1)) := by
  obtain ⟨hn, hs⟩ := hS
  unfold pf_OS_begin pf_MO_begin
  rcases ixN x (n := 12) (by decide) with hx | ⟨t, ht, rfl⟩
  · exact Or.inl ⟨-1, by rw [OS_isT_f hx, Option.bind_some, if_pos rfl], by rw [MO_wi_f (by decide) hx, Option.bind_some, if_pos rfl]⟩
  rw [OS_isT_t ht, Option.bind_some, if_neg (by decide), MO_wi_t (h := 11) (by omega) (by decide), Option.bind_some, if_neg (by decide)]
  rcases ixN y (n := 4) (by decide) with hx | ⟨c, hc, rfl⟩
  · exact Or.inl ⟨-1, by rw [OS_isC_f hx, Option.bind_some, if_pos rfl], by rw [MO_wi_f (by decide) hx, Option.bind_some, if_pos rfl]⟩
  rw [OS_isC_t hc, Option.bind_some, if_neg (by decide), MO_wi_t (h := 3) (by omega) (by decide), Option.bind_some, if_neg (by decide)]
  rcases ixN z (n := 8) (by decide) with hx | ⟨r, hr, rfl⟩
  · exact Or.inl ⟨-1, by rw [OS_isR_f hx, Option.bind_some, if_pos rfl], by rw [MO_wi_f (by decide) hx, Option.bind_some, if_pos rfl]⟩
  rw [OS_isR_t hr, Option.bind_some, if_neg (by decide), MO_wi_t (h := 7) (by omega) (by decide), Option.bind_some, if_neg (by decide)]
  unfold pf_SB_isFull pf_SB_open pf_SB_isFull
  by_cases c8 : ns = 80
  · subst c8
    exact Or.inl ⟨-1, by rw [if_neg (by decide), Option.bind_some, if_neg (by decide)], by rw [if_neg (by decide)]⟩
  rw [if_pos (nI_lt (by omega) (by decide)), Option.bind_some, if_pos rfl, if_pos (nI_neq (by omega) (by decide) c8)]
  obtain ⟨b1, b2⟩ := beg_L (N := N) (ns := ns) (tg := tg) (cf := cf) (rn := rn) (st := st) (op := op) (t := nI t) (c := nI c) (r := nI r) (by omega) ns 0 N (by omega) (by omega)
  rcases has1_L (N := N) (tg := tg) (cf := cf) (op := op) (t := nI t) (c := nI c) hn 80 0 N (by omega) (by omega) with ⟨hq, e⟩ | ⟨hq, e⟩
  · exact Or.inl ⟨-2, by unfold pf_SB_hasOpenOne; rw [← nI_0, e, Option.bind_some, if_neg (by decide)], by rw [← nI_0]; exact b1 hq⟩
  · refine Or.inr ⟨⟨by omega, fun s h => ?_⟩, nI ns, ?_, by rw [← nI_0]; exact b2 hq⟩
    · by_cases q : s = ns
      · subst q
        exact ⟨t, c, r, ht, hc, hr, pk_us, pk_us, pk_us⟩
      · rw [pk_un q, pk_un q, pk_un q]
        exact hs s (by omega)
    · unfold pf_SB_hasOpenOne
      rw [← nI_0, e, Option.bind_some, if_pos nI_0.symm, Option.bind_some, if_pos rfl, gz_nI (by omega) (by decide), gz_nI (by omega) (by decide), gz_nI (by omega) (by decide), gz_nI (by omega) (by decide), nI_clamp (by omega), nI_1, nI_pred, nar_1, Option.bind_some]
