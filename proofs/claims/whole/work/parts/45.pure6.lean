-- ===== what is staged =====
def iG (np ns : Nat) (cf op : Nat → Int32) (gC : Nat → Int64) (gM gX gL st sa : Nat → Int32) (sc : Nat → Int64) (sr sl : Nat → Int32) : Prop :=
  (∀ s, s < ns → ∃ m, m ≤ 12 ∧ st s = nI m) ∧
  (∀ k, k < 160 → ¬ gC k = 0 → ∃ s, s < ns ∧ gM k = nI s ∧ ¬ op s = 0 ∧ cf s = nI (k / 40) ∧ ∃ j m, j < m ∧ m ≤ 12 ∧ st s = nI m ∧ sa (12 * s + j) = nI (k % 40)) ∧
  (∀ s m, s < ns → ¬ op s = 0 → m ≤ 12 → st s = nI m → ∀ j, j < m → ∃ c p, c < 4 ∧ p < np ∧ cf s = nI c ∧ sa (12 * s + j) = nI p ∧ ¬ gC (40 * c + p) = 0 ∧ gM (40 * c + p) = nI s ∧ sc (12 * s + j) = gC (40 * c + p) ∧ sr (12 * s + j) = gX (40 * c + p) ∧ sl (12 * s + j) = gL (40 * c + p) ∧ (gX (40 * c + p) = 0 ∨ gX (40 * c + p) = 1) ∧ (gL (40 * c + p) = 0 ∨ gL (40 * c + p) = 1)) ∧
  (∀ s m, s < ns → ¬ op s = 0 → m ≤ 12 → st s = nI m → ∀ i j, i < m → j < m → sa (12 * s + i) = sa (12 * s + j) → i = j)
theorem PO_skip {N s m p : Nat} {st sa : Nat → Int32} (hs : s < 80) (hm : m ≤ 12) (e : st s = nI m) : ∀ (d j n : Nat) (acc : Int32), j + d = m → d < n → (∀ i, j ≤ i → i < m → ¬ sa (12 * s + i) = nI p) → pf_MO_placeOf_L5 N st sa (nI s) (nI p) n acc (nI j) = some acc := by
  intro d
  induction d with
  | zero =>
    intro j n acc hj hn hb
    obtain ⟨n, rfl⟩ : ∃ k, n = k + 1 := ⟨n - 1, by omega⟩
    rw [pf_MO_placeOf_L5.eq_2, gz_nI hs (by decide), nI_clamp (by omega), e, if_pos (nI_le (by omega) (by omega))]
  | succ d ih =>
    intro j n acc hj hn hb
    obtain ⟨n, rfl⟩ : ∃ k, n = k + 1 := ⟨n - 1, by omega⟩
    rw [pf_MO_placeOf_L5.eq_2, gz_nI hs (by decide), nI_clamp (by omega), e, if_neg (nI_ge (by omega) (by omega)), pk_mul, nI_add, gz_nI (by omega) (by decide), nI_clamp (by omega), if_pos (hb j (by omega) (by omega)), nI_1]
    exact ih (j + 1) n acc (by omega) (by omega) (fun i h1 h2 => hb i (by omega) h2)
theorem PO_hit {N s m p j0 : Nat} {st sa : Nat → Int32} (hs : s < 80) (hm : m ≤ 12) (e : st s = nI m) (h0 : j0 < m) (e0 : sa (12 * s + j0) = nI p) (hu : ∀ i, i < m → sa (12 * s + i) = nI p → i = j0) : ∀ (d j n : Nat) (acc : Int32), j + d = j0 → d + 13 < n → pf_MO_placeOf_L5 N st sa (nI s) (nI p) n acc (nI j) = some (nI (12 * s + j0)) := by
  intro d
  induction d with
  | zero =>
    intro j n acc hj hn
    obtain ⟨n, rfl⟩ : ∃ k, n = k + 1 := ⟨n - 1, by omega⟩
    obtain rfl : j = j0 := by omega
    rw [pf_MO_placeOf_L5.eq_2, gz_nI hs (by decide), nI_clamp (by omega), e, if_neg (nI_ge (by omega) (by omega)), pk_mul, nI_add, gz_nI (by omega) (by decide), nI_clamp (by omega), if_neg (fun h => h e0), nI_1]
    exact PO_skip hs hm e (m - (j + 1)) (j + 1) n _ (by omega) (by omega) (fun i h1 h2 h3 => absurd (hu i h2 h3) (by omega))
  | succ d ih =>
    intro j n acc hj hn
    obtain ⟨n, rfl⟩ : ∃ k, n = k + 1 := ⟨n - 1, by omega⟩
    rw [pf_MO_placeOf_L5.eq_2, gz_nI hs (by decide), nI_clamp (by omega), e, if_neg (nI_ge (by omega) (by omega)), pk_mul, nI_add, gz_nI (by omega) (by decide), nI_clamp (by omega), if_pos (fun h => absurd (hu j (by omega) h) (by omega)), nI_1]
    exact ih (j + 1) n acc (by omega) (by omega)
theorem PO_none {N s m p : Nat} {st sa : Nat → Int32} (hN : 2000 ≤ N) (hs : s < 80) (hm : m ≤ 12) (e : st s = nI m) (h : ∀ i, i < m → ¬ sa (12 * s + i) = nI p) : pf_MO_placeOf N st sa (nI s) (nI p) = some (-1) :=
  PO_skip hs hm e m 0 N (-1) (by omega) (by omega) (fun i _ h2 => h i h2)
theorem PO_some {N s m p j0 : Nat} {st sa : Nat → Int32} (hN : 2000 ≤ N) (hs : s < 80) (hm : m ≤ 12) (e : st s = nI m) (h0 : j0 < m) (e0 : sa (12 * s + j0) = nI p) (hu : ∀ i, i < m → sa (12 * s + i) = nI p → i = j0) : pf_MO_placeOf N st sa (nI s) (nI p) = some (nI (12 * s + j0)) :=
  PO_hit hs hm e h0 e0 hu j0 0 N (-1) (by omega) (by omega)
-- ===== meeting =====
theorem mO_L {N np s c p : Nat} {f ow tg cf : Nat → Int32} (hN : 2000 ≤ N) (hT : wfT np f) (hs : s < 80) (hc : c < 4) (ec : cf s = nI c) (hp : p < np) : ∀ (d q n : Nat), q + d = np → d < n →
    ((∃ i, q ≤ i ∧ i < np ∧ ¬ ow (40 * c + i) = 0 ∧ ¬ ow (40 * c + i) = tg s + 1 ∧ mt f p i = true) → pf_MO_meetsOutput_L2 N (nI np) f ow tg cf (nI s) (nI p) n (nI q) = some 1) ∧
    ((∀ i, q ≤ i → i < np → ¬ ow (40 * c + i) = 0 → ¬ ow (40 * c + i) = tg s + 1 → mt f p i = false) → pf_MO_meetsOutput_L2 N (nI np) f ow tg cf (nI s) (nI p) n (nI q) = some 0) := by
  have h40 := hT.1
  intro d
  induction d with
  | zero =>
    intro q n hq hn
    obtain ⟨n, rfl⟩ : ∃ k, n = k + 1 := ⟨n - 1, by omega⟩
    refine ⟨fun ⟨i, h1, h2, _⟩ => absurd h2 (by omega), fun _ => ?_⟩
    rw [pf_MO_meetsOutput_L2.eq_2, if_pos (nI_le (by omega) (by omega))]
  | succ d ih =>
    intro q n hq hn
    obtain ⟨n, rfl⟩ : ∃ k, n = k + 1 := ⟨n - 1, by omega⟩
    obtain ⟨a, b⟩ := ih (q + 1) n (by omega) (by omega)
    rw [pf_MO_meetsOutput_L2.eq_2, if_neg (nI_ge (by omega) (by omega)), gz_nI hs (by decide), nI_clamp (by omega), ec, pk_mul, nI_add, gz_nI (by omega) (by decide), nI_clamp (by omega), gz_nI hs (by decide), nI_1]
    have skip : ¬ (¬ ow (40 * c + q) = 0 ∧ ¬ ow (40 * c + q) = tg s + 1 ∧ mt f p q = true) →
      ((∃ i, q ≤ i ∧ i < np ∧ ¬ ow (40 * c + i) = 0 ∧ ¬ ow (40 * c + i) = tg s + 1 ∧ mt f p i = true) → pf_MO_meetsOutput_L2 N (nI np) f ow tg cf (nI s) (nI p) n (nI (q + 1)) = some 1) ∧
      ((∀ i, q ≤ i → i < np → ¬ ow (40 * c + i) = 0 → ¬ ow (40 * c + i) = tg s + 1 → mt f p i = false) → pf_MO_meetsOutput_L2 N (nI np) f ow tg cf (nI s) (nI p) n (nI (q + 1)) = some 0) := by
      intro hno
      refine ⟨fun ⟨i, h1, h2, h3⟩ => a ⟨i, ?_, h2, h3⟩, fun h => b (fun i h1 => h i (by omega))⟩
      by_cases e : i = q
      · subst e; exact absurd h3 hno
      · omega
    by_cases c1 : ow (40 * c + q) = 0
    · rw [if_pos c1]
      exact skip (fun h => h.1 c1)
    · rw [if_neg c1]
      by_cases c2 : ow (40 * c + q) = tg s + 1
      · rw [if_pos c2]
        exact skip (fun h => h.2.1 c2)
      · rw [if_neg c2, MO_meets hN hT hp (by omega), Option.bind_some]
        cases c3 : mt f p q with
        | false =>
          rw [if_pos (by decide)]
          exact skip (fun h => by rw [c3] at h; exact absurd h.2.2 (by decide))
        | true =>
          rw [if_neg (by decide)]
          exact ⟨fun _ => rfl, fun h => by have := h q (Nat.le_refl _) (by omega) c1 c2; rw [c3] at this; cases this⟩
/-- the inner loop: one open step of the same configuration -/
theorem mS_in {N np s o m p : Nat} {f st sa : Nat → Int32} {K : Int32 → Option Int32} (hN : 2000 ≤ N) (hT : wfT np f) (hs : s < 80) (ho : o < 80) (hm : m ≤ 12) (e : st o = nI m) (hp : p < np) (hq : ∀ j, j < m → ∃ q, q < np ∧ sa (12 * o + j) = nI q) : ∀ (d j n : Nat), j + d = m → d < n →
    ((∃ i q, j ≤ i ∧ i < m ∧ q < np ∧ sa (12 * o + i) = nI q ∧ (o ≠ s ∨ q ≠ p) ∧ mt f p q = true) → pf_MO_meetsStaged_L40 N K f st sa (nI s) (nI p) (nI o) n (nI j) = some 1) ∧
    ((∀ i q, j ≤ i → i < m → q < np → sa (12 * o + i) = nI q → (o ≠ s ∨ q ≠ p) → mt f p q = false) → pf_MO_meetsStaged_L40 N K f st sa (nI s) (nI p) (nI o) n (nI j) = K (nI (o + 1))) := by
  have h40 := hT.1
  intro d
  induction d with
  | zero =>
    intro j n hj hn
    obtain ⟨n, rfl⟩ : ∃ k, n = k + 1 := ⟨n - 1, by omega⟩
    refine ⟨fun ⟨i, q, h1, h2, _⟩ => absurd h2 (by omega), fun _ => ?_⟩
    rw [pf_MO_meetsStaged_L40.eq_2, gz_nI ho (by decide), nI_clamp (by omega), e, if_pos (nI_le (by omega) (by omega)), nI_1]
  | succ d ih =>
    intro j n hj hn
    obtain ⟨n, rfl⟩ : ∃ k, n = k + 1 := ⟨n - 1, by omega⟩
    obtain ⟨a, b⟩ := ih (j + 1) n (by omega) (by omega)
    obtain ⟨q, hq1, hq2⟩ := hq j (by omega)
    rw [pf_MO_meetsStaged_L40.eq_2, gz_nI ho (by decide), nI_clamp (by omega), e, if_neg (nI_ge (by omega) (by omega)), pk_mul, nI_add, gz_nI (by omega) (by decide), nI_clamp (by omega), hq2, nI_1]
    have skip : ¬ ((o ≠ s ∨ q ≠ p) ∧ mt f p q = true) →
        ((∃ i q, j ≤ i ∧ i < m ∧ q < np ∧ sa (12 * o + i) = nI q ∧ (o ≠ s ∨ q ≠ p) ∧ mt f p q = true) → pf_MO_meetsStaged_L40 N K f st sa (nI s) (nI p) (nI o) n (nI (j + 1)) = some 1) ∧
        ((∀ i q, j ≤ i → i < m → q < np → sa (12 * o + i) = nI q → (o ≠ s ∨ q ≠ p) → mt f p q = false) → pf_MO_meetsStaged_L40 N K f st sa (nI s) (nI p) (nI o) n (nI (j + 1)) = K (nI (o + 1))) := by
      intro hno
      refine ⟨fun ⟨i, q', h1, h2, h3, h4, h5⟩ => a ⟨i, q', ?_, h2, h3, h4, h5⟩, fun h => b (fun i q' h1 => h i q' (by omega))⟩
      by_cases w : i = j
      · subst w
        rw [hq2] at h4
        have := nI_inj (by omega) (by omega) h4
        subst this
        exact absurd h5 hno
      · omega
    have hit : (o ≠ s ∨ q ≠ p) → (((pf_MO_meet N f (nI p) (nI q)).bind (fun u0 => if u0 = 0 then pf_MO_meetsStaged_L40 N K f st sa (nI s) (nI p) (nI o) n (nI (j + 1)) else some 1)) = if mt f p q = true then some 1 else pf_MO_meetsStaged_L40 N K f st sa (nI s) (nI p) (nI o) n (nI (j + 1))) := by
      intro _
      rw [MO_meets hN hT hp hq1, Option.bind_some]
      cases mt f p q <;> rfl
    have fin : (o ≠ s ∨ q ≠ p) →
        ((∃ i q, j ≤ i ∧ i < m ∧ q < np ∧ sa (12 * o + i) = nI q ∧ (o ≠ s ∨ q ≠ p) ∧ mt f p q = true) → (if mt f p q = true then some 1 else pf_MO_meetsStaged_L40 N K f st sa (nI s) (nI p) (nI o) n (nI (j + 1))) = some 1) ∧
        ((∀ i q, j ≤ i → i < m → q < np → sa (12 * o + i) = nI q → (o ≠ s ∨ q ≠ p) → mt f p q = false) → (if mt f p q = true then some 1 else pf_MO_meetsStaged_L40 N K f st sa (nI s) (nI p) (nI o) n (nI (j + 1))) = K (nI (o + 1))) := by
      intro hd
      by_cases c3 : mt f p q = true
      · rw [if_pos c3]
        refine ⟨fun _ => rfl, fun h => ?_⟩
        have := h j q (Nat.le_refl _) (by omega) hq1 hq2 hd
        rw [c3] at this
        cases this
      · rw [if_neg c3]
        exact skip (fun h => c3 h.2)
    by_cases c1 : o = s
    · rw [if_neg (fun h => h (by rw [c1]))]
      by_cases c2 : q = p
      · rw [if_pos (by rw [c2])]
        exact skip (fun h => h.1.elim (fun w => w c1) (fun w => w c2))
      · rw [if_neg (nI_neq (by omega) (by omega) c2), hit (Or.inr c2)]
        exact fin (Or.inr c2)
    · rw [if_pos (nI_neq (by omega) (by omega) c1), hit (Or.inl c1)]
      exact fin (Or.inl c1)
theorem mS_out {N np ns s p : Nat} {f cf op st sa : Nat → Int32} (hN : 2000 ≤ N) (hT : wfT np f) (hs : s < ns) (hn80 : ns ≤ 80) (hp : p < np)
    (hm : ∀ o, o < ns → ∃ m, m ≤ 12 ∧ st o = nI m) (hq : ∀ o m, o < ns → ¬ op o = 0 → m ≤ 12 → st o = nI m → ∀ j, j < m → ∃ q, q < np ∧ sa (12 * o + j) = nI q) : ∀ (d o n : Nat), o + d = ns → d < n →
    ((∃ i j m q, o ≤ i ∧ i < ns ∧ ¬ op i = 0 ∧ cf i = cf s ∧ m ≤ 12 ∧ st i = nI m ∧ j < m ∧ q < np ∧ sa (12 * i + j) = nI q ∧ (i ≠ s ∨ q ≠ p) ∧ mt f p q = true) → pf_MO_meetsStaged_L2 N (nI ns) f cf st op sa (nI s) (nI p) n (nI o) = some 1) ∧
    ((∀ i j m q, o ≤ i → i < ns → ¬ op i = 0 → cf i = cf s → m ≤ 12 → st i = nI m → j < m → q < np → sa (12 * i + j) = nI q → (i ≠ s ∨ q ≠ p) → mt f p q = false) → pf_MO_meetsStaged_L2 N (nI ns) f cf st op sa (nI s) (nI p) n (nI o) = some 0) := by
  have h40 := hT.1
  intro d
  induction d with
  | zero =>
    intro o n ho hn
    obtain ⟨n, rfl⟩ : ∃ k, n = k + 1 := ⟨n - 1, by omega⟩
    refine ⟨fun ⟨i, j, m, q, h1, h2, _⟩ => absurd h2 (by omega), fun _ => ?_⟩
    rw [pf_MO_meetsStaged_L2.eq_2, if_pos (nI_le (by omega) (by omega))]
  | succ d ih =>
    intro o n ho hn
    obtain ⟨n, rfl⟩ : ∃ k, n = k + 1 := ⟨n - 1, by omega⟩
    obtain ⟨a, b⟩ := ih (o + 1) n (by omega) (by omega)
    have skip : (¬ op o = 0 → ¬ cf o = cf s) →
        ((∃ i j m q, o ≤ i ∧ i < ns ∧ ¬ op i = 0 ∧ cf i = cf s ∧ m ≤ 12 ∧ st i = nI m ∧ j < m ∧ q < np ∧ sa (12 * i + j) = nI q ∧ (i ≠ s ∨ q ≠ p) ∧ mt f p q = true) → pf_MO_meetsStaged_L2 N (nI ns) f cf st op sa (nI s) (nI p) n (nI (o + 1)) = some 1) ∧
        ((∀ i j m q, o ≤ i → i < ns → ¬ op i = 0 → cf i = cf s → m ≤ 12 → st i = nI m → j < m → q < np → sa (12 * i + j) = nI q → (i ≠ s ∨ q ≠ p) → mt f p q = false) → pf_MO_meetsStaged_L2 N (nI ns) f cf st op sa (nI s) (nI p) n (nI (o + 1)) = some 0) := by
      intro hno
      refine ⟨fun ⟨i, j, m, q, h1, h2, h3, h4, h5⟩ => a ⟨i, j, m, q, ?_, h2, h3, h4, h5⟩, fun h => b (fun i j m q h1 => h i j m q (by omega))⟩
      by_cases w : i = o
      · subst w; exact absurd h4 (hno h3)
      · omega
    rw [pf_MO_meetsStaged_L2.eq_2, if_neg (nI_ge (by omega) (by omega)), gz_nI (by omega) (by decide), nI_clamp (by omega), nI_1]
    by_cases c1 : op o = 0
    · rw [if_pos c1]
      exact skip (fun h => absurd c1 h)
    · rw [if_neg c1, gz_nI (by omega) (by decide), gz_nI (by omega) (by decide), nI_clamp (by omega)]
      by_cases c2 : cf o = cf s
      · rw [if_pos c2]
        obtain ⟨m, hm1, hm2⟩ := hm o (by omega)
        obtain ⟨x, y⟩ := mS_in (N := N) (s := s) (o := o) (p := p) (f := f) (st := st) (sa := sa) (K := pf_MO_meetsStaged_L2 N (nI ns) f cf st op sa (nI s) (nI p) n) hN hT (by omega) (by omega) hm1 hm2 hp (hq o m (by omega) c1 hm1 hm2) m 0 N (by omega) (by omega)
        rw [← nI_0]
        by_cases c3 : ∃ i q, 0 ≤ i ∧ i < m ∧ q < np ∧ sa (12 * o + i) = nI q ∧ (o ≠ s ∨ q ≠ p) ∧ mt f p q = true
        · refine ⟨fun _ => x c3, fun h => ?_⟩
          obtain ⟨i, q, -, h2, h3, h4, h5, h6⟩ := c3
          have := h o i m q (Nat.le_refl _) (by omega) c1 c2 hm1 hm2 h2 h3 h4 h5
          rw [h6] at this
          cases this
        · have hz := y (fun i q h1 h2 h3 h4 h5 => by
            cases h6 : mt f p q with
            | false => rfl
            | true => exact absurd ⟨i, q, h1, h2, h3, h4, h5, h6⟩ c3)
          rw [hz]
          refine ⟨fun ⟨i, j, m', q, h1, h2, h3, h4, h5, h6, h7, h8⟩ => a ⟨i, j, m', q, ?_, h2, h3, h4, h5, h6, h7, h8⟩, fun h => b (fun i j m q h1 => h i j m q (by omega))⟩
          by_cases w : i = o
          · subst w
            rw [hm2] at h6
            have := nI_inj (by omega) (by omega) h6
            subst this
            exact absurd ⟨j, q, by omega, h7, h8⟩ c3
          · omega
      · rw [if_neg c2]
        exact skip (fun _ => c2)
-- ===== the class: refused, count =====
theorem Ref_L {N np ns s c p : Nat} {f tg cf : Nat → Int32} {oC gC : Nat → Int64} {oM gM : Nat → Int32} {Ta Tb : Nat → Prop} (hN : 2000 ≤ N) (hT : wfT np f) (hc : c < 4) (hp : p < np)
    (hA : ∀ q, q < np → (Ta q ∧ pf_OS_isOutputOfAnother N tg (nI ns) oC oM (nI s) (nI (40 * c + q)) = some 1) ∨ (¬ Ta q ∧ pf_OS_isOutputOfAnother N tg (nI ns) oC oM (nI s) (nI (40 * c + q)) = some 0))
    (hB : ∀ q, q < np → (Tb q ∧ pf_OS_isStagedAgainst N gC gM (nI s) (nI (40 * c + q)) (if q = p then 1 else 0) = some 1) ∨ (¬ Tb q ∧ pf_OS_isStagedAgainst N gC gM (nI s) (nI (40 * c + q)) (if q = p then 1 else 0) = some 0)) : ∀ (d q n : Nat), q + d = 40 → d < n →
    ((∃ i, q ≤ i ∧ i < np ∧ (Ta i ∨ Tb i) ∧ mt f p i = true) → pf_OS_isRefused_L12 N f (nI np) tg (nI ns) oC oM gC gM (nI s) (nI p) (nI c) n (nI q) = some 1) ∧
    ((∀ i, q ≤ i → i < np → (Ta i ∨ Tb i) → mt f p i = false) → pf_OS_isRefused_L12 N f (nI np) tg (nI ns) oC oM gC gM (nI s) (nI p) (nI c) n (nI q) = some 0) := by
  have h40 := hT.1
  intro d
  induction d with
  | zero =>
    intro q n hq hn
    obtain ⟨n, rfl⟩ : ∃ k, n = k + 1 := ⟨n - 1, by omega⟩
    refine ⟨fun ⟨i, h1, h2, _⟩ => absurd h2 (by omega), fun _ => ?_⟩
    rw [pf_OS_isRefused_L12.eq_2, if_pos (nI_le (by omega) (by omega))]
  | succ d ih =>
    intro q n hq hn
    obtain ⟨n, rfl⟩ : ∃ k, n = k + 1 := ⟨n - 1, by omega⟩
    obtain ⟨a, b⟩ := ih (q + 1) n (by omega) (by omega)
    have skip : ¬ (q < np ∧ (Ta q ∨ Tb q) ∧ mt f p q = true) →
        ((∃ i, q ≤ i ∧ i < np ∧ (Ta i ∨ Tb i) ∧ mt f p i = true) → pf_OS_isRefused_L12 N f (nI np) tg (nI ns) oC oM gC gM (nI s) (nI p) (nI c) n (nI (q + 1)) = some 1) ∧
        ((∀ i, q ≤ i → i < np → (Ta i ∨ Tb i) → mt f p i = false) → pf_OS_isRefused_L12 N f (nI np) tg (nI ns) oC oM gC gM (nI s) (nI p) (nI c) n (nI (q + 1)) = some 0) := by
      intro hno
      refine ⟨fun ⟨i, h1, h2, h3⟩ => a ⟨i, ?_, h2, h3⟩, fun h => b (fun i h1 => h i (by omega))⟩
      by_cases w : i = q
      · subst w; exact absurd ⟨h2, h3⟩ hno
      · omega
    rw [pf_OS_isRefused_L12.eq_2, if_neg (nI_ge (by omega) (by omega)), nI_1]
    by_cases c0 : q < np
    · rw [OS_slot_t c0 hc h40, Option.bind_some, PT_meets hN hT hp c0]
      have fin : (Ta q ∨ Tb q) →
          ((∃ i, q ≤ i ∧ i < np ∧ (Ta i ∨ Tb i) ∧ mt f p i = true) → ((some (bi (mt f p q))).bind (fun u3 => if u3 = 0 then pf_OS_isRefused_L12 N f (nI np) tg (nI ns) oC oM gC gM (nI s) (nI p) (nI c) n (nI (q + 1)) else some 1)) = some 1) ∧
          ((∀ i, q ≤ i → i < np → (Ta i ∨ Tb i) → mt f p i = false) → ((some (bi (mt f p q))).bind (fun u3 => if u3 = 0 then pf_OS_isRefused_L12 N f (nI np) tg (nI ns) oC oM gC gM (nI s) (nI p) (nI c) n (nI (q + 1)) else some 1)) = some 0) := by
        intro hd
        rw [Option.bind_some]
        cases c3 : mt f p q with
        | false =>
          rw [if_pos (by decide)]
          exact skip (fun h => by rw [c3] at h; exact absurd h.2.2 (by decide))
        | true =>
          rw [if_neg (by decide)]
          refine ⟨fun _ => rfl, fun h => ?_⟩
          have := h q (Nat.le_refl _) c0 hd
          rw [c3] at this
          cases this
      rcases hA q c0 with ⟨h1, e1⟩ | ⟨h1, e1⟩
      · rw [e1, Option.bind_some, if_pos (show ¬ (1 : Int32) = 0 by decide)]
        exact fin (Or.inl h1)
      · rw [e1, Option.bind_some, if_neg (fun h => h rfl)]
        by_cases c1 : q = p
        · have e2 := hB q c0
          rw [if_pos c1] at e2
          rw [if_neg (fun h => h (by rw [c1]))]
          rcases e2 with ⟨h2, e2⟩ | ⟨h2, e2⟩
          · rw [e2, Option.bind_some, if_neg (show ¬ (1 : Int32) = 0 by decide)]
            exact fin (Or.inr h2)
          · rw [e2, Option.bind_some, if_pos rfl]
            exact skip (fun h => h.2.1.elim h1 h2)
        · have e2 := hB q c0
          rw [if_neg c1] at e2
          rw [if_pos (nI_neq (by omega) (by omega) (Ne.symm c1))]
          rcases e2 with ⟨h2, e2⟩ | ⟨h2, e2⟩
          · rw [e2, Option.bind_some, if_neg (show ¬ (1 : Int32) = 0 by decide)]
            exact fin (Or.inr h2)
          · rw [e2, Option.bind_some, if_pos rfl]
            exact skip (fun h => h.2.1.elim h1 h2)
    · rw [OS_slot_fp hc (Or.inr (nI_le (by omega) (by omega))), Option.bind_some]
      have e1 : pf_OS_isOutputOfAnother N tg (nI ns) oC oM (nI s) (-1) = some 0 := by
        unfold pf_OS_isOutputOfAnother
        rw [LT_has_m, Option.bind_some, if_pos rfl]
      have e2 : ∀ x, pf_OS_isStagedAgainst N gC gM (nI s) (-1) x = some 0 := by
        intro x
        unfold pf_OS_isStagedAgainst
        rw [LT_has_m, Option.bind_some, if_pos rfl]
      rw [e1, Option.bind_some, if_neg (fun h => h rfl), if_pos (nI_neq (by omega) (by omega) (by omega)), e2, Option.bind_some, if_pos rfl]
      exact skip (fun h => c0 h.1)
