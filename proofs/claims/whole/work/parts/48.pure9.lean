-- ===== a step's staged ones go =====
theorem drop_L {N np s c : Nat} {gM : Nat → Int32} (h40 : np ≤ 40) (hc : c < 4) : ∀ (d q n : Nat) (g : Nat → Int64), q + d = np → d + 40 < n →
    ∃ g', pf_OS_dropStaged_L11 N (nI np) gM (nI s) (nI c) n g (nI q) = some g' ∧ (∀ i, q ≤ i → i < np → gM (40 * c + i) = nI s → g' (40 * c + i) = 0) ∧ (∀ k, (∀ i, q ≤ i → i < np → gM (40 * c + i) = nI s → k ≠ 40 * c + i) → g' k = g k) := by
  intro d
  induction d with
  | zero =>
    intro q n g hq hn
    have tail : ∀ (e q n : Nat), np ≤ q → q + e = 40 → e < n → pf_OS_dropStaged_L11 N (nI np) gM (nI s) (nI c) n g (nI q) = some g := by
      intro e
      induction e with
      | zero =>
        intro q n h1 h2 h3
        obtain ⟨n, rfl⟩ : ∃ k, n = k + 1 := ⟨n - 1, by omega⟩
        rw [pf_OS_dropStaged_L11.eq_2, if_pos (nI_le (by omega) (by omega))]
      | succ e ih =>
        intro q n h1 h2 h3
        obtain ⟨n, rfl⟩ : ∃ k, n = k + 1 := ⟨n - 1, by omega⟩
        rw [pf_OS_dropStaged_L11.eq_2, if_neg (nI_ge (by omega) (by omega)), OS_slot_fp hc (Or.inr (nI_le h1 (by omega))), Option.bind_some, LT_isOf_m, Option.bind_some, if_pos rfl, nI_1]
        exact ih (q + 1) n (by omega) (by omega) (by omega)
    exact ⟨g, tail (40 - q) q n (by omega) (by omega) (by omega), fun i h1 h2 => absurd h2 (by omega), fun k _ => rfl⟩
  | succ d ih =>
    intro q n g hq hn
    obtain ⟨n, rfl⟩ : ∃ k, n = k + 1 := ⟨n - 1, by omega⟩
    rw [pf_OS_dropStaged_L11.eq_2, if_neg (nI_ge (by omega) (by omega)), OS_slot_t (by omega) hc h40, Option.bind_some, nI_1]
    by_cases h : ¬ g (40 * c + q) = 0 ∧ gM (40 * c + q) = nI s
    · rw [LT_isOf_1 (by omega) h.1 h.2, Option.bind_some, if_neg (by decide), LT_drop_1 (by omega) h.1, Option.bind_some]
      obtain ⟨g', e, a1, a2⟩ := ih (q + 1) n (vp_updL g (40 * c + q) 0) (by omega) (by omega)
      refine ⟨g', e, fun i h1 h2 h3 => ?_, fun k hk => ?_⟩
      · by_cases w : i = q
        · subst w
          rw [a2 _ (fun i' h4 h5 h6 => by omega), pk_uLs]
        · exact a1 i (by omega) h2 h3
      · rw [a2 k (fun i' h4 h5 h6 => hk i' (by omega) h5 h6), pk_uLn (hk q (Nat.le_refl _) (by omega) h.2)]
    · rw [LT_isOf_0 (by omega) (by
        by_cases h1 : g (40 * c + q) = 0
        · exact Or.inl h1
        · exact Or.inr (fun h2 => h ⟨h1, h2⟩)), Option.bind_some, if_pos rfl]
      obtain ⟨g', e, a1, a2⟩ := ih (q + 1) n g (by omega) (by omega)
      refine ⟨g', e, fun i h1 h2 h3 => ?_, fun k hk => ?_⟩
      · by_cases w : i = q
        · subst w
          rw [a2 _ (fun i' h4 h5 h6 => by omega)]
          by_cases h1 : g (40 * c + i) = 0
          · exact h1
          · exact absurd ⟨h1, h3⟩ h
        · exact a1 i (by omega) h2 h3
      · exact a2 k (fun i' h4 h5 h6 => hk i' (by omega) h5 h6)
theorem drop_sp {N np ns : Nat} {cf op : Nat → Int32} {gC : Nat → Int64} {gM gX gL st sa : Nat → Int32} {sc : Nat → Int64} {sr sl : Nat → Int32} (hN : 2000 ≤ N) (h40 : np ≤ 40) (h80 : ns ≤ 80) (hG : iG np ns cf op gC gM gX gL st sa sc sr sl) {s c : Nat} (hs : s < ns) (hop : ¬ op s = 0) (hc : c < 4) (ec : cf s = nI c) :
    ∃ g', pf_OS_dropStaged N (nI np) cf (nI ns) gC gM (nI s) = some g' ∧ iG np ns cf (upd op s 0) g' gM gX gL st sa sc sr sl := by
  obtain ⟨g', e, a1, a2⟩ := drop_L (N := N) (s := s) (gM := gM) h40 hc np 0 N gC (by omega) (by omega)
  refine ⟨g', ?_, ?_⟩
  · unfold pf_OS_dropStaged
    rw [SB_cfg hs h80, Option.bind_some, ec, ← nI_0]
    exact e
  obtain ⟨g1, g2, g3, g4⟩ := hG
  refine ⟨g1, fun k hk h => ?_, fun s' m' b1 b2 b3 b4 j b5 => ?_, fun s' m' b1 b2 b3 b4 => ?_⟩
  · have old : ¬ gC k = 0 := by
      intro z
      by_cases w : ∃ i, i < np ∧ gM (40 * c + i) = nI s ∧ k = 40 * c + i
      · obtain ⟨i, w1, w2, rfl⟩ := w
        exact h (a1 i (by omega) w1 w2)
      · exact h (by rw [a2 k (fun i _ h2 h3 h4 => w ⟨i, h2, h3, h4⟩)]; exact z)
    obtain ⟨s', q1, q2, q3, q4, j, m', q5, q6, q7, q8⟩ := g2 k hk old
    have ne : s' ≠ s := by
      intro z
      subst z
      obtain ⟨c2, p2, w1, w2, w3, w4, -⟩ := g3 s' m' q1 q3 q6 q7 j q5
      rw [q8] at w4
      have w5 := nI_inj (by omega) (by omega) w4
      rw [ec] at q4
      have w6 := nI_inj (by omega) (by omega) q4
      have w7 : k = 40 * c + p2 := by omega
      subst w7
      exact h (a1 p2 (by omega) w2 q2)
    exact ⟨s', q1, q2, by rw [pk_un ne]; exact q3, q4, j, m', q5, q6, q7, q8⟩
  · have ne : s' ≠ s := by
      intro z
      subst z
      rw [pk_us] at b2
      exact b2 rfl
    rw [pk_un ne] at b2
    obtain ⟨c', p', q1, q2, q3, q4, q5, q6, q7, q8, q9, q10, q11⟩ := g3 s' m' b1 b2 b3 b4 j b5
    have same : g' (40 * c' + p') = gC (40 * c' + p') := a2 _ (fun i _ h2 h3 h4 => by
      rw [h4] at q6
      rw [h3] at q6
      exact ne (nI_inj (by omega) (by omega) q6).symm)
    rw [← same] at q5 q7
    exact ⟨c', p', q1, q2, q3, q4, q5, q6, q7, q8, q9, q10, q11⟩
  · have ne : s' ≠ s := by
      intro z
      subst z
      rw [pk_us] at b2
      exact b2 rfl
    rw [pk_un ne] at b2
    exact g4 s' m' b1 b2 b3 b4
theorem SB_close_t {N ns s : Nat} {op : Nat → Int32} (hs : s < ns) (h80 : ns ≤ 80) : pf_SB_close N op (nI ns) (nI s) = some (upd op s 0) := by
  unfold pf_SB_close
  rw [SB_has_t hs (by omega), Option.bind_some, if_neg (by decide), gz_nI (by omega) (by decide), nI_clamp (by omega), nar_0]
-- ===== abandon =====
theorem aba_L {N np ns : Nat} {cf rn tg : Nat → Int32} {gM gX gL st sa : Nat → Int32} {sc : Nat → Int64} {sr sl : Nat → Int32} {r : Int32} (hN : 2000 ≤ N) (h40 : np ≤ 40) (hS : iS ns tg cf rn) : ∀ (d q n n2 cnt : Nat) (op : Nat → Int32) (g : Nat → Int64), q + d = ns → d + 80 < n → d < n2 → iG np ns cf op g gM gX gL st sa sc sr sl →
    ∃ res op' g', iG np ns cf op' g' gM gX gL st sa sc sr sl ∧ pf_OS_abandon_L13 N (nI np) cf rn (nI ns) gM r n op g (nI cnt) (nI q) = some (res, op', g') ∧ pf_MO_abandon_L15 N (nI ns) rn r n2 op (nI cnt) (nI q) = some (res, op') := by
  have h80 := hS.1
  intro d
  induction d with
  | zero =>
    intro q n n2 cnt op g hq hn hn2 hG
    have tail : ∀ (e q n : Nat), ns ≤ q → q + e = 80 → e < n → pf_OS_abandon_L13 N (nI np) cf rn (nI ns) gM r n op g (nI cnt) (nI q) = some (nI cnt, op, g) := by
      intro e
      induction e with
      | zero =>
        intro q n h1 h2 h3
        obtain ⟨n, rfl⟩ : ∃ k, n = k + 1 := ⟨n - 1, by omega⟩
        rw [pf_OS_abandon_L13.eq_2, if_pos (nI_le (by omega) (by omega))]
      | succ e ih =>
        intro q n h1 h2 h3
        obtain ⟨n, rfl⟩ : ∃ k, n = k + 1 := ⟨n - 1, by omega⟩
        rw [pf_OS_abandon_L13.eq_2, if_neg (nI_ge (by omega) (by omega)), SB_open_f (Or.inr (nI_le h1 (by omega))), Option.bind_some, if_pos rfl, nI_1]
        exact ih (q + 1) n (by omega) (by omega) (by omega)
    obtain ⟨n2, rfl⟩ : ∃ k, n2 = k + 1 := ⟨n2 - 1, by omega⟩
    exact ⟨nI cnt, op, g, hG, tail (80 - q) q n (by omega) (by omega) (by omega), by rw [pf_MO_abandon_L15.eq_2, if_pos (nI_le (by omega) (by omega))]⟩
  | succ d ih =>
    intro q n n2 cnt op g hq hn hn2 hG
    obtain ⟨n, rfl⟩ : ∃ k, n = k + 1 := ⟨n - 1, by omega⟩
    obtain ⟨n2, rfl⟩ : ∃ k, n2 = k + 1 := ⟨n2 - 1, by omega⟩
    have hq' : q < ns := by omega
    rw [pf_OS_abandon_L13.eq_2, if_neg (nI_ge (by omega) (by omega)), pf_MO_abandon_L15.eq_2, if_neg (nI_ge (by omega) (by omega)), gz_nI (by omega) (by decide), nI_clamp (by omega), nI_1]
    by_cases c1 : op q = 0
    · rw [SB_open_0 hq' h80 c1, Option.bind_some, if_pos rfl, if_pos c1]
      exact ih (q + 1) n n2 cnt op g (by omega) (by omega) (by omega) hG
    · rw [SB_open_1 hq' h80 c1, Option.bind_some, if_neg (show ¬ (1 : Int32) = 0 by decide), if_neg c1, SB_run hq' h80, Option.bind_some, gz_nI (by omega) (by decide)]
      by_cases c2 : rn q = r
      · obtain ⟨t, c, r', ht, hc, hr, et, ec, er⟩ := hS.2 q hq'
        obtain ⟨g', e, hG'⟩ := drop_sp (N := N) hN h40 h80 hG hq' c1 hc ec
        rw [if_neg (fun h => h c2), if_pos c2, e, Option.bind_some, SB_close_t hq' h80, Option.bind_some, gz_nI (by omega) (by decide), nar_0, nI_1]
        exact ih (q + 1) n n2 (cnt + 1) (upd op q 0) g' (by omega) (by omega) (by omega) hG'
      · rw [if_pos c2, if_neg c2]
        exact ih (q + 1) n n2 cnt op g (by omega) (by omega) (by omega) hG
theorem sim_abandon {N np ns : Nat} {cf rn tg op : Nat → Int32} {gC : Nat → Int64} {gM gX gL st sa : Nat → Int32} {sc : Nat → Int64} {sr sl : Nat → Int32} (hN : 2000 ≤ N) (h40 : np ≤ 40) (hS : iS ns tg cf rn) (hG : iG np ns cf op gC gM gX gL st sa sc sr sl) (x : Int32) :
    ∃ r op' g', iG np ns cf op' g' gM gX gL st sa sc sr sl ∧ pf_OS_abandon N (nI np) cf rn op (nI ns) gC gM x = some (r, op', g') ∧ pf_MO_abandon N (nI ns) rn op x = some (r, op') := by
  have h80 := hS.1
  unfold pf_OS_abandon pf_MO_abandon
  rcases ixN x (n := 8) (by decide) with hx | ⟨r, hr, rfl⟩
  · exact ⟨-1, op, gC, hG, by rw [OS_isR_f hx, Option.bind_some, if_neg (fun h => h rfl)], by rw [MO_wi_f (by decide) hx, Option.bind_some, if_neg (fun h => h rfl)]⟩
  rw [OS_isR_t hr, Option.bind_some, if_pos (show ¬ (1 : Int32) = 0 by decide), MO_wi_t (h := 7) (by omega) (by decide), Option.bind_some, if_pos (show ¬ (1 : Int32) = 0 by decide), ← nI_0]
  exact aba_L hN h40 hS ns 0 N N 0 op gC (by omega) (by omega) (by omega) hG
-- ===== clear =====
theorem cl_L {N np c : Nat} (h40 : np ≤ 40) (hc : c < 4) : ∀ (d q n n2 cnt : Nat) (oC : Nat → Int64) (ow : Nat → Int32), q + d = np → d + 40 < n → d < n2 → (∀ i, q ≤ i → i < np → (oC (40 * c + i) = 0 ↔ ow (40 * c + i) = 0)) →
    ∃ res oC' ow', (∀ i, q ≤ i → i < np → oC' (40 * c + i) = 0 ∧ ow' (40 * c + i) = 0) ∧ (∀ k, (∀ i, q ≤ i → i < np → k ≠ 40 * c + i) → oC' k = oC k ∧ ow' k = ow k) ∧
      pf_OS_clear_L24 N (nI np) (nI c) n oC (nI cnt) (nI q) = some (res, oC') ∧ pf_MO_clear_L51 N (nI np) (nI c) n2 ow (nI cnt) (nI q) = some (res, ow') := by
  intro d
  induction d with
  | zero =>
    intro q n n2 cnt oC ow hq hn hn2 hz
    have tail : ∀ (e q n : Nat), np ≤ q → q + e = 40 → e < n → pf_OS_clear_L24 N (nI np) (nI c) n oC (nI cnt) (nI q) = some (nI cnt, oC) := by
      intro e
      induction e with
      | zero =>
        intro q n h1 h2 h3
        obtain ⟨n, rfl⟩ : ∃ k, n = k + 1 := ⟨n - 1, by omega⟩
        rw [pf_OS_clear_L24.eq_2, if_pos (nI_le (by omega) (by omega))]
      | succ e ih =>
        intro q n h1 h2 h3
        obtain ⟨n, rfl⟩ : ∃ k, n = k + 1 := ⟨n - 1, by omega⟩
        rw [pf_OS_clear_L24.eq_2, if_neg (nI_ge (by omega) (by omega)), OS_slot_fp hc (Or.inr (nI_le h1 (by omega))), Option.bind_some, LT_has_m, Option.bind_some, if_pos rfl, nI_1]
        exact ih (q + 1) n (by omega) (by omega) (by omega)
    obtain ⟨n2, rfl⟩ : ∃ k, n2 = k + 1 := ⟨n2 - 1, by omega⟩
    exact ⟨nI cnt, oC, ow, fun i h1 h2 => absurd h2 (by omega), fun k _ => ⟨rfl, rfl⟩, tail (40 - q) q n (by omega) (by omega) (by omega), by rw [pf_MO_clear_L51.eq_2, if_pos (nI_le (by omega) (by omega))]⟩
  | succ d ih =>
    intro q n n2 cnt oC ow hq hn hn2 hz
    obtain ⟨n, rfl⟩ : ∃ k, n = k + 1 := ⟨n - 1, by omega⟩
    obtain ⟨n2, rfl⟩ : ∃ k, n2 = k + 1 := ⟨n2 - 1, by omega⟩
    rw [pf_OS_clear_L24.eq_2, if_neg (nI_ge (by omega) (by omega)), OS_slot_t (by omega) hc h40, Option.bind_some, pf_MO_clear_L51.eq_2, if_neg (nI_ge (by omega) (by omega)), pk_mul, nI_add, gz_nI (by omega) (by decide), nI_clamp (by omega), nI_1, gz_nI (by omega) (by decide), gz_nI (by omega) (by decide)]
    have hz' : ∀ (oC2 : Nat → Int64), (∀ k, k ≠ 40 * c + q → oC2 k = oC k) → ∀ i, q + 1 ≤ i → i < np → (oC2 (40 * c + i) = 0 ↔ upd ow (40 * c + q) 0 (40 * c + i) = 0) := by
      intro oC2 h i h1 h2
      rw [h _ (by omega), pk_un (by omega)]
      exact hz i (by omega) h2
    by_cases c1 : oC (40 * c + q) = 0
    · have c2 := (hz q (Nat.le_refl _) (by omega)).mp c1
      rw [LT_has_0 (by omega) c1, Option.bind_some, if_pos rfl, if_pos c2, show nI cnt + 0 = nI cnt from Int32.add_zero _]
      obtain ⟨res, oC', ow', a1, a2, a3, a4⟩ := ih (q + 1) n n2 cnt oC (upd ow (40 * c + q) 0) (by omega) (by omega) (by omega) (hz' oC (fun _ _ => rfl))
      refine ⟨res, oC', ow', fun i h1 h2 => ?_, fun k hk => ?_, a3, a4⟩
      · by_cases w : i = q
        · subst w
          obtain ⟨b1, b2⟩ := a2 (40 * c + i) (fun i' h3 h4 => by omega)
          rw [b1, b2, pk_us]
          exact ⟨c1, rfl⟩
        · exact a1 i (by omega) h2
      · obtain ⟨b1, b2⟩ := a2 k (fun i' h3 h4 => hk i' (by omega) h4)
        rw [b1, b2, pk_un (hk q (Nat.le_refl _) (by omega))]
        exact ⟨rfl, rfl⟩
    · have c2 : ¬ ow (40 * c + q) = 0 := fun h => c1 ((hz q (Nat.le_refl _) (by omega)).mpr h)
      rw [LT_has_1 (by omega) c1, Option.bind_some, if_neg (show ¬ (1 : Int32) = 0 by decide), LT_drop_1 (by omega) c1, Option.bind_some, if_neg c2, nI_1]
      obtain ⟨res, oC', ow', a1, a2, a3, a4⟩ := ih (q + 1) n n2 (cnt + 1) (vp_updL oC (40 * c + q) 0) (upd ow (40 * c + q) 0) (by omega) (by omega) (by omega) (hz' _ (fun _ h => pk_uLn h))
      refine ⟨res, oC', ow', fun i h1 h2 => ?_, fun k hk => ?_, a3, a4⟩
      · by_cases w : i = q
        · subst w
          obtain ⟨b1, b2⟩ := a2 (40 * c + i) (fun i' h3 h4 => by omega)
          rw [b1, b2, pk_us, pk_uLs]
          exact ⟨rfl, rfl⟩
        · exact a1 i (by omega) h2
      · obtain ⟨b1, b2⟩ := a2 k (fun i' h3 h4 => hk i' (by omega) h4)
        rw [b1, b2, pk_un (hk q (Nat.le_refl _) (by omega)), pk_uLn (hk q (Nat.le_refl _) (by omega))]
        exact ⟨rfl, rfl⟩
theorem clo_L {N np ns : Nat} {ow cf op : Nat → Int32} {c : Int32} (hn : ns ≤ 80) : ∀ (d i n : Nat), i + d = ns → d < n →
    ((∃ s, i ≤ s ∧ s < ns ∧ ¬ op s = 0 ∧ cf s = c) → pf_MO_clear_L12 N (nI np) (nI ns) ow cf op c n (nI i) = some (-1, ow)) ∧
    ((∀ s, i ≤ s → s < ns → ¬ op s = 0 → ¬ cf s = c) → pf_MO_clear_L12 N (nI np) (nI ns) ow cf op c n (nI i) = pf_MO_clear_L51 N (nI np) c N ow 0 0) := by
  intro d
  induction d with
  | zero =>
    intro i n hi hn'
    obtain ⟨n, rfl⟩ : ∃ k, n = k + 1 := ⟨n - 1, by omega⟩
    refine ⟨fun ⟨s, h1, h2, _⟩ => absurd h2 (by omega), fun _ => ?_⟩
    rw [pf_MO_clear_L12.eq_2, if_pos (nI_le (by omega) (by omega))]
  | succ d ih =>
    intro i n hi hn'
    obtain ⟨n, rfl⟩ : ∃ k, n = k + 1 := ⟨n - 1, by omega⟩
    obtain ⟨a, b⟩ := ih (i + 1) n (by omega) (by omega)
    rw [pf_MO_clear_L12.eq_2, if_neg (nI_ge (by omega) (by omega)), gz_nI (by omega) (by decide), nI_clamp (by omega), nI_1, gz_nI (by omega) (by decide)]
    have up : ∀ s, i ≤ s → ¬ (¬ op i = 0 ∧ cf i = c) → (¬ op s = 0 ∧ cf s = c) → i + 1 ≤ s := by
      intro s h1 h2 h3
      by_cases q : s = i
      · subst q; exact absurd h3 h2
      · omega
    by_cases c2 : op i = 0
    · rw [if_pos c2]
      exact ⟨fun ⟨s, h1, h2, h3⟩ => a ⟨s, up s h1 (fun z => z.1 c2) h3, h2, h3⟩, fun h => b (fun s h1 => h s (by omega))⟩
    · rw [if_neg c2]
      by_cases c4 : cf i = c
      · rw [if_neg (fun h => h c4)]
        exact ⟨fun _ => rfl, fun h => absurd c4 (h i (Nat.le_refl _) (by omega) c2)⟩
      · rw [if_pos c4]
        exact ⟨fun ⟨s, h1, h2, h3⟩ => a ⟨s, up s h1 (fun z => c4 z.2) h3, h2, h3⟩, fun h => b (fun s h1 => h s (by omega))⟩
theorem ow_iff {np ns : Nat} {tg : Nat → Int32} {oC : Nat → Int64} {oM oX oL ow mk : Nat → Int32} {ct : Nat → Int64} {ru th : Nat → Int32} (hS : ns ≤ 80 ∧ ∀ s, s < ns → ∃ t, t < 12 ∧ tg s = nI t) (hO : iO np ns tg oC oM oX oL ow mk ct ru th) {k : Nat} (hk : k < 160) : oC k = 0 ↔ ow k = 0 := by
  rcases hO k hk with ⟨h1, h2⟩ | ⟨h1, -, -, -, -, -, s, h4, -, -, h5⟩
  · exact ⟨fun _ => h2, fun _ => h1⟩
  · obtain ⟨t, ht, e⟩ := hS.2 s h4
    exact ⟨fun h => absurd h h1, fun h => absurd (by rw [← e, ← h5]; exact h) (tg_ne0 ht)⟩
theorem sim_clear {N np ns : Nat} {tg cf op : Nat → Int32} {oC : Nat → Int64} {oM oX oL ow mk : Nat → Int32} {ct : Nat → Int64} {ru th : Nat → Int32} (hN : 2000 ≤ N) (h40 : np ≤ 40) (hS : ns ≤ 80 ∧ ∀ s, s < ns → ∃ t, t < 12 ∧ tg s = nI t) (hO : iO np ns tg oC oM oX oL ow mk ct ru th) (x : Int32) :
    ∃ r oC' ow', iO np ns tg oC' oM oX oL ow' mk ct ru th ∧ pf_OS_clear N (nI np) cf op (nI ns) oC x = some (r, oC') ∧ pf_MO_clear N (nI np) (nI ns) ow cf op x = some (r, ow') := by
  unfold pf_OS_clear pf_MO_clear
  rcases ixN x (n := 4) (by decide) with hx | ⟨c, hc, rfl⟩
  · exact ⟨-1, oC, ow, hO, by rw [OS_isC_f hx, Option.bind_some, if_pos rfl], by rw [MO_wi_f (by decide) hx, Option.bind_some, if_neg (fun h => h rfl)]⟩
  rw [OS_isC_t hc, Option.bind_some, if_neg (show ¬ (1 : Int32) = 0 by decide), MO_wi_t (h := 3) (by omega) (by decide), Option.bind_some, if_pos (show ¬ (1 : Int32) = 0 by decide)]
  obtain ⟨b1, b2⟩ := clo_L (N := N) (np := np) (ns := ns) (ow := ow) (cf := cf) (op := op) (c := nI c) hS.1 ns 0 N (by omega) (by omega)
  unfold pf_SB_hasOpenOneIn
  rw [← nI_0]
  rcases has2_L (N := N) (cf := cf) (op := op) (c := nI c) hS.1 80 0 N (by omega) (by omega) with ⟨hq, e⟩ | ⟨hq, e⟩
  · exact ⟨-1, oC, ow, hO, by rw [e, Option.bind_some, if_neg (by decide)], b1 hq⟩
  · obtain ⟨res, oC', ow', a1, a2, a3, a4⟩ := cl_L (N := N) (np := np) h40 hc np 0 N N 0 oC ow (by omega) (by omega) (by omega) (fun i _ h2 => ow_iff hS hO (by omega))
    refine ⟨res, oC', ow', fun k hk => ?_, by rw [e, Option.bind_some, if_pos nI_0.symm]; exact a3, by rw [b2 hq, ← nI_0]; exact a4⟩
    by_cases w : ∃ i, i < np ∧ k = 40 * c + i
    · obtain ⟨i, w1, rfl⟩ := w
      exact Or.inl (a1 i (by omega) w1)
    · obtain ⟨q1, q2⟩ := a2 k (fun i _ h2 h3 => w ⟨i, h2, h3⟩)
      rw [q1, q2]
      exact hO k hk
