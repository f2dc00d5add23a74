-- ===== counting what a step has staged =====
theorem cnt_L {N np s c : Nat} {gC : Nat → Int64} {gM : Nat → Int32} (h40 : np ≤ 40) (hc : c < 4) : ∀ (d q n cnt : Nat), q + d = np → d + 40 < n →
    pf_OS_countStaged_L14 N (nI np) gC gM (nI s) (nI c) n (nI cnt) (nI q) = some (nI (cnt + (List.range' q d).countP (fun i => decide (¬ gC (40 * c + i) = 0 ∧ gM (40 * c + i) = nI s)))) := by
  intro d
  induction d with
  | zero =>
    intro q n cnt hq hn
    have tail : ∀ (e q n : Nat), np ≤ q → q + e = 40 → e < n → pf_OS_countStaged_L14 N (nI np) gC gM (nI s) (nI c) n (nI cnt) (nI q) = some (nI cnt) := by
      intro e
      induction e with
      | zero =>
        intro q n h1 h2 h3
        obtain ⟨n, rfl⟩ : ∃ k, n = k + 1 := ⟨n - 1, by omega⟩
        rw [pf_OS_countStaged_L14.eq_2, if_pos (nI_le (by omega) (by omega))]
      | succ e ih =>
        intro q n h1 h2 h3
        obtain ⟨n, rfl⟩ : ∃ k, n = k + 1 := ⟨n - 1, by omega⟩
        rw [pf_OS_countStaged_L14.eq_2, if_neg (nI_ge (by omega) (by omega)), OS_slot_fp hc (Or.inr (nI_le h1 (by omega))), Option.bind_some, LT_isOf_m, Option.bind_some, if_pos rfl, nI_1]
        exact ih (q + 1) n (by omega) (by omega) (by omega)
    rw [tail (40 - q) q n (by omega) (by omega) (by omega)]
    simp
  | succ d ih =>
    intro q n cnt hq hn
    obtain ⟨n, rfl⟩ : ∃ k, n = k + 1 := ⟨n - 1, by omega⟩
    rw [pf_OS_countStaged_L14.eq_2, if_neg (nI_ge (by omega) (by omega)), OS_slot_t (by omega) hc h40, Option.bind_some, List.range'_succ, List.countP_cons]
    by_cases h : ¬ gC (40 * c + q) = 0 ∧ gM (40 * c + q) = nI s
    · rw [LT_isOf_1 (by omega) h.1 h.2, Option.bind_some, if_neg (by decide), nI_1, nI_1, ih (q + 1) n (cnt + 1) (by omega) (by omega), if_pos (by simp [h])]
      congr 2
      omega
    · rw [LT_isOf_0 (by omega) (by
        by_cases h1 : gC (40 * c + q) = 0
        · exact Or.inl h1
        · exact Or.inr (fun h2 => h ⟨h1, h2⟩)), Option.bind_some, if_pos rfl, nI_1, ih (q + 1) n cnt (by omega) (by omega), if_neg (by simp only [decide_eq_true_eq]; exact h)]
      rfl
theorem of_iff {np ns : Nat} {cf op : Nat → Int32} {gC : Nat → Int64} {gM gX gL st sa : Nat → Int32} {sc : Nat → Int64} {sr sl : Nat → Int32} (h40 : np ≤ 40) (h80 : ns ≤ 80) (hG : iG np ns cf op gC gM gX gL st sa sc sr sl) {s m c p : Nat} (hs : s < ns) (hop : ¬ op s = 0) (hm : m ≤ 12) (em : st s = nI m) (hc : c < 4) (ec : cf s = nI c) (hp : p < np) :
    (¬ gC (40 * c + p) = 0 ∧ gM (40 * c + p) = nI s) ↔ ∃ j, j < m ∧ sa (12 * s + j) = nI p := by
  obtain ⟨g1, g2, g3, g4⟩ := hG
  constructor
  · rintro ⟨h1, h2⟩
    obtain ⟨s', a1, a2, a3, a4, j, m', b1, b2, b3, b4⟩ := g2 (40 * c + p) (by omega) h1
    rw [h2] at a2
    obtain rfl := nI_inj (by omega) (by omega) a2
    rw [em] at b3
    obtain rfl := nI_inj (by omega) (by omega) b3
    refine ⟨j, b1, ?_⟩
    rw [b4, show (40 * c + p) % 40 = p by omega]
  · rintro ⟨j, h1, h2⟩
    obtain ⟨c', p', a1, a2, a3, a4, a5, a6, -⟩ := g3 s m hs hop hm em j h1
    rw [ec] at a3
    obtain rfl := nI_inj (by omega) (by omega) a3
    rw [h2] at a4
    obtain rfl := nI_inj (by omega) (by omega) a4
    exact ⟨a5, a6⟩
theorem cnt_eq {np ns : Nat} {cf op : Nat → Int32} {gC : Nat → Int64} {gM gX gL st sa : Nat → Int32} {sc : Nat → Int64} {sr sl : Nat → Int32} (h40 : np ≤ 40) (h80 : ns ≤ 80) (hG : iG np ns cf op gC gM gX gL st sa sc sr sl) {s m c : Nat} (hs : s < ns) (hop : ¬ op s = 0) (hm : m ≤ 12) (em : st s = nI m) (hc : c < 4) (ec : cf s = nI c) :
    (List.range' 0 np).countP (fun i => decide (¬ gC (40 * c + i) = 0 ∧ gM (40 * c + i) = nI s)) = m := by
  rw [List.countP_eq_length_filter]
  have hB : ((List.range m).map (fun j => (sa (12 * s + j)).toNatClampNeg)).length = m := by simp
  rw [← hB]
  refine List.Perm.length_eq ((List.perm_ext_iff_of_nodup ?_ ?_).mpr (fun a => ?_))
  · exact List.Nodup.sublist List.filter_sublist (List.nodup_range')
  · refine List.pairwise_map.mpr (List.Pairwise.imp_of_mem (fun {i j} hi hj hne => ?_) (List.nodup_range (n := m)))
    intro e
    obtain ⟨c1, p1, -, a2, -, a4, -⟩ := hG.2.2.1 s m hs hop hm em i (List.mem_range.mp hi)
    obtain ⟨c2, p2, -, b2, -, b4, -⟩ := hG.2.2.1 s m hs hop hm em j (List.mem_range.mp hj)
    rw [a4, b4, nI_clamp (by omega), nI_clamp (by omega)] at e
    exact hne (hG.2.2.2 s m hs hop hm em i j (List.mem_range.mp hi) (List.mem_range.mp hj) (by rw [a4, b4, e]))
  · simp only [List.mem_filter, List.mem_range'_1, decide_eq_true_eq, List.mem_map, List.mem_range]
    constructor
    · rintro ⟨⟨-, h1⟩, h2⟩
      obtain ⟨j, hj, e⟩ := (of_iff h40 h80 hG hs hop hm em hc ec (show a < np by omega)).mp h2
      exact ⟨j, hj, by rw [e, nI_clamp (by omega)]⟩
    · rintro ⟨j, hj, e⟩
      obtain ⟨c1, p1, -, a2, -, a4, -⟩ := hG.2.2.1 s m hs hop hm em j hj
      rw [a4, nI_clamp (by omega)] at e
      subst e
      exact ⟨⟨by omega, by omega⟩, (of_iff h40 h80 hG hs hop hm em hc ec a2).mpr ⟨j, hj, a4⟩⟩
theorem OS_cnt {N np ns : Nat} {cf op : Nat → Int32} {gC : Nat → Int64} {gM gX gL st sa : Nat → Int32} {sc : Nat → Int64} {sr sl : Nat → Int32} (hN : 2000 ≤ N) (h40 : np ≤ 40) (h80 : ns ≤ 80) (hG : iG np ns cf op gC gM gX gL st sa sc sr sl) {s m c : Nat} (hs : s < ns) (hop : ¬ op s = 0) (hm : m ≤ 12) (em : st s = nI m) (hc : c < 4) (ec : cf s = nI c) :
    pf_OS_countStaged N (nI np) cf (nI ns) gC gM (nI s) = some (nI m) := by
  unfold pf_OS_countStaged
  rw [SB_cfg hs h80, Option.bind_some, ec, ← nI_0, cnt_L h40 hc np 0 N 0 (by omega) (by omega), cnt_eq h40 h80 hG hs hop hm em hc ec, Nat.zero_add]
-- ===== refused alike =====
theorem mt_self (f : Nat → Int32) (p : Nat) : mt f p p = true := by simp [mt, anc]
theorem Ref_sp {N np ns : Nat} {f tg cf rn op : Nat → Int32} {oC : Nat → Int64} {oM oX oL ow mk : Nat → Int32} {ct : Nat → Int64} {ru th : Nat → Int32} {gC : Nat → Int64} {gM gX gL st sa : Nat → Int32} {sc : Nat → Int64} {sr sl : Nat → Int32}
    (hN : 2000 ≤ N) (hT : wfT np f) (hS : iS ns tg cf rn) (hO : iO np ns tg oC oM oX oL ow mk ct ru th) (hG : iG np ns cf op gC gM gX gL st sa sc sr sl) {s p c : Nat} (hs : s < ns) (hop : ¬ op s = 0) (hc : c < 4) (ec : cf s = nI c) (hp : p < np) :
    ∃ a b : Bool, pf_MO_meetsOutput N (nI np) f ow tg cf (nI s) (nI p) = some (bi a) ∧ pf_MO_meetsStaged N (nI ns) f cf st op sa (nI s) (nI p) = some (bi b) ∧ pf_OS_isRefused N f (nI np) tg cf (nI ns) oC oM gC gM (nI s) (nI p) = some (bi (a || b)) ∧
      (b = false → gC (40 * c + p) = 0 ∨ gM (40 * c + p) = nI s) := by
  have h40 := hT.1
  have h80 := hS.1
  obtain ⟨ts, cs, rs, hts, hcs, hrs, ets, ecs, ers⟩ := hS.2 s hs
  obtain ⟨o1, o2⟩ := mO_L (N := N) (ow := ow) (tg := tg) hN hT (show s < 80 by omega) hc ec hp np 0 N (by omega) (by omega)
  obtain ⟨s1, s2⟩ := mS_out (N := N) (cf := cf) (op := op) (st := st) (sa := sa) hN hT hs h80 hp hG.1 (fun o m h1 h2 h3 h4 j hj => by
    obtain ⟨c', p', -, a2, -, a4, -⟩ := hG.2.2.1 o m h1 h2 h3 h4 j hj
    exact ⟨p', a2, a4⟩) ns 0 N (by omega) (by omega)
  have hA : ∀ q, q < np → ((¬ ow (40 * c + q) = 0 ∧ ¬ ow (40 * c + q) = tg s + 1) ∧ pf_OS_isOutputOfAnother N tg (nI ns) oC oM (nI s) (nI (40 * c + q)) = some 1) ∨ (¬ (¬ ow (40 * c + q) = 0 ∧ ¬ ow (40 * c + q) = tg s + 1) ∧ pf_OS_isOutputOfAnother N tg (nI ns) oC oM (nI s) (nI (40 * c + q)) = some 0) := by
    intro q hq
    unfold pf_OS_isOutputOfAnother
    rcases hO (40 * c + q) (by omega) with ⟨h1, h2⟩ | ⟨h1, -, -, -, -, -, s', h4, h5, -, h6⟩
    · exact Or.inr ⟨fun h => h.1 h2, by rw [LT_has_0 (by omega) h1, Option.bind_some, if_pos rfl]⟩
    · obtain ⟨t', -, -, ht', -, -, et', -, -⟩ := hS.2 s' h4
      rw [LT_has_1 (by omega) h1, Option.bind_some, if_neg (show ¬ (1 : Int32) = 0 by decide), OS_tgtAt (by omega) h1 h5 h4 h80, Option.bind_some, SB_tgt hs h80, Option.bind_some, h6, et', ets]
      by_cases e : t' = ts
      · subst e
        exact Or.inr ⟨fun h => h.2 rfl, by rw [if_pos rfl]⟩
      · refine Or.inl ⟨⟨tg_ne0 ht', ?_⟩, by rw [if_neg (nI_neq (by omega) (by omega) e)]⟩
        rw [nI_1, nI_1]
        exact nI_neq (by omega) (by omega) (by omega)
  have hB : ∀ q, q < np → ((¬ gC (40 * c + q) = 0 ∧ ¬ (q = p ∧ gM (40 * c + q) = nI s)) ∧ pf_OS_isStagedAgainst N gC gM (nI s) (nI (40 * c + q)) (if q = p then 1 else 0) = some 1) ∨ (¬ (¬ gC (40 * c + q) = 0 ∧ ¬ (q = p ∧ gM (40 * c + q) = nI s)) ∧ pf_OS_isStagedAgainst N gC gM (nI s) (nI (40 * c + q)) (if q = p then 1 else 0) = some 0) := by
    intro q hq
    unfold pf_OS_isStagedAgainst
    by_cases h1 : gC (40 * c + q) = 0
    · exact Or.inr ⟨fun h => h.1 h1, by rw [LT_has_0 (by omega) h1, Option.bind_some, if_pos rfl]⟩
    · rw [LT_has_1 (by omega) h1, Option.bind_some, if_neg (show ¬ (1 : Int32) = 0 by decide)]
      by_cases h2 : q = p
      · rw [if_pos h2, if_neg (show ¬ (1 : Int32) = 0 by decide)]
        by_cases h3 : gM (40 * c + q) = nI s
        · exact Or.inr ⟨fun h => h.2 ⟨h2, h3⟩, by rw [LT_isOf_1 (by omega) h1 h3, Option.bind_some, if_pos (show ¬ (1 : Int32) = 0 by decide)]⟩
        · exact Or.inl ⟨⟨h1, fun h => h3 h.2⟩, by rw [LT_isOf_0 (by omega) (Or.inr h3), Option.bind_some, if_neg (fun h => h rfl)]⟩
      · rw [if_neg h2, if_pos rfl]
        exact Or.inl ⟨⟨h1, fun h => h2 h.1⟩, rfl⟩
  obtain ⟨r1, r2⟩ := Ref_L (N := N) (ns := ns) (tg := tg) (cf := cf) (oC := oC) (oM := oM) (gC := gC) (gM := gM) (Ta := fun q => ¬ ow (40 * c + q) = 0 ∧ ¬ ow (40 * c + q) = tg s + 1) (Tb := fun q => ¬ gC (40 * c + q) = 0 ∧ ¬ (q = p ∧ gM (40 * c + q) = nI s)) hN hT hc hp hA hB 40 0 N (by omega) (by omega)
  have eR : pf_OS_isRefused N f (nI np) tg cf (nI ns) oC oM gC gM (nI s) (nI p) = pf_OS_isRefused_L12 N f (nI np) tg (nI ns) oC oM gC gM (nI s) (nI p) (nI c) N (nI 0) := by
    unfold pf_OS_isRefused
    rw [SB_cfg hs h80, Option.bind_some, ec, nI_0]
  have eO : pf_MO_meetsOutput N (nI np) f ow tg cf (nI s) (nI p) = pf_MO_meetsOutput_L2 N (nI np) f ow tg cf (nI s) (nI p) N (nI 0) := by
    unfold pf_MO_meetsOutput
    rw [nI_0]
  have eS : pf_MO_meetsStaged N (nI ns) f cf st op sa (nI s) (nI p) = pf_MO_meetsStaged_L2 N (nI ns) f cf st op sa (nI s) (nI p) N (nI 0) := by
    unfold pf_MO_meetsStaged
    rw [nI_0]
  rw [eR, eO, eS]
  have bridge : (∃ i j m q, 0 ≤ i ∧ i < ns ∧ ¬ op i = 0 ∧ cf i = cf s ∧ m ≤ 12 ∧ st i = nI m ∧ j < m ∧ q < np ∧ sa (12 * i + j) = nI q ∧ (i ≠ s ∨ q ≠ p) ∧ mt f p q = true) ↔ (∃ q, q < np ∧ (¬ gC (40 * c + q) = 0 ∧ ¬ (q = p ∧ gM (40 * c + q) = nI s)) ∧ mt f p q = true) := by
    constructor
    · rintro ⟨i, j, m, q, -, h2, h3, h4, h5, h6, h7, h8, h9, h10, h11⟩
      have hx := (of_iff h40 h80 hG h2 h3 h5 h6 hc (by rw [h4, ec]) h8).mpr ⟨j, h7, h9⟩
      refine ⟨q, h8, ⟨hx.1, fun hy => ?_⟩, h11⟩
      rw [hx.2] at hy
      have := nI_inj (by omega) (by omega) hy.2
      exact h10.elim (fun w => w this) (fun w => w hy.1)
    · rintro ⟨q, h1, ⟨h2, h3⟩, h4⟩
      obtain ⟨s', a1, a2, a3, a4, j, m', b1, b2, b3, b4⟩ := hG.2.1 (40 * c + q) (by omega) h2
      rw [show (40 * c + q) / 40 = c by omega] at a4
      rw [show (40 * c + q) % 40 = q by omega] at b4
      refine ⟨s', j, m', q, by omega, a1, a3, by rw [a4, ec], b2, b3, b1, h1, b4, ?_, h4⟩
      by_cases w : s' = s
      · subst w
        exact Or.inr (fun w2 => h3 ⟨w2, a2⟩)
      · exact Or.inl w
  by_cases EA : ∃ i, 0 ≤ i ∧ i < np ∧ ¬ ow (40 * c + i) = 0 ∧ ¬ ow (40 * c + i) = tg s + 1 ∧ mt f p i = true
  · have x1 := o1 EA
    obtain ⟨i, -, h2, h3, h4, h5⟩ := EA
    have x3 := r1 ⟨i, by omega, h2, Or.inl ⟨h3, h4⟩, h5⟩
    by_cases EB : ∃ q, q < np ∧ (¬ gC (40 * c + q) = 0 ∧ ¬ (q = p ∧ gM (40 * c + q) = nI s)) ∧ mt f p q = true
    · exact ⟨true, true, x1, s1 (bridge.mpr EB), x3, fun h => by cases h⟩
    · refine ⟨true, false, x1, s2 (fun i j m q h1 h2 h3 h4 h5 h6 h7 h8 h9 h10 => ?_), x3, fun _ => ?_⟩
      · cases hm : mt f p q with
        | false => rfl
        | true => exact absurd (bridge.mp ⟨i, j, m, q, h1, h2, h3, h4, h5, h6, h7, h8, h9, h10, hm⟩) EB
      · by_cases w : gC (40 * c + p) = 0
        · exact Or.inl w
        · by_cases w2 : gM (40 * c + p) = nI s
          · exact Or.inr w2
          · exact absurd ⟨p, hp, ⟨w, fun h => w2 h.2⟩, mt_self f p⟩ EB
  · have x1 := o2 (fun i h1 h2 h3 h4 => by
      cases hm : mt f p i with
      | false => rfl
      | true => exact absurd ⟨i, h1, h2, h3, h4, hm⟩ EA)
    by_cases EB : ∃ q, q < np ∧ (¬ gC (40 * c + q) = 0 ∧ ¬ (q = p ∧ gM (40 * c + q) = nI s)) ∧ mt f p q = true
    · have y := s1 (bridge.mpr EB)
      obtain ⟨q, h1, h2, h3⟩ := EB
      exact ⟨false, true, x1, y, r1 ⟨q, by omega, h1, Or.inr h2, h3⟩, fun h => by cases h⟩
    · refine ⟨false, false, x1, s2 (fun i j m q h1 h2 h3 h4 h5 h6 h7 h8 h9 h10 => ?_), r2 (fun i h1 h2 h3 => ?_), fun _ => ?_⟩
      · cases hm : mt f p q with
        | false => rfl
        | true => exact absurd (bridge.mp ⟨i, j, m, q, h1, h2, h3, h4, h5, h6, h7, h8, h9, h10, hm⟩) EB
      · cases hm : mt f p i with
        | false => rfl
        | true => exact h3.elim (fun h => absurd ⟨i, h1, h2, h.1, h.2, hm⟩ EA) (fun h => absurd ⟨i, h2, h, hm⟩ EB)
      · by_cases w : gC (40 * c + p) = 0
        · exact Or.inl w
        · by_cases w2 : gM (40 * c + p) = nI s
          · exact Or.inr w2
          · exact absurd ⟨p, hp, ⟨w, fun h => w2 h.2⟩, mt_self f p⟩ EB
