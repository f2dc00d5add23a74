-- ===== numbers and truths =====
/-- a truth as a Java boolean -/
def bi (b : Bool) : Int32 := if b then 1 else 0
theorem bi_t : bi true = 1 := rfl
theorem bi_f : bi false = 0 := rfl
theorem bi_0 {b : Bool} : bi b = 0 ↔ b = false := by cases b <;> decide
theorem bi_01 (b : Bool) : bi b = 0 ∨ bi b = 1 := by cases b <;> decide
theorem z_m1 {i : Nat} (h : i < 2 ^ 31) : ¬ nI i = -1 := by
  intro e
  have a := nI_toInt h
  rw [e] at a
  have b : (-1 : Int32).toInt = -1 := by decide
  omega
theorem gz_nI {α : Type} {j n : Nat} {x : Option α} (h : j < n) (hn : n < 2 ^ 31) : gz (nI j) n x = x := by
  unfold gz
  rw [nI_toInt (by omega), if_pos (by omega)]
theorem nI_inj {a b : Nat} (ha : a < 2 ^ 31) (hb : b < 2 ^ 31) (h : nI a = nI b) : a = b := (nI_eq ha hb).mp h
theorem nI_neq {a b : Nat} (ha : a < 2 ^ 31) (hb : b < 2 ^ 31) (h : a ≠ b) : ¬ nI a = nI b := fun e => h (nI_inj ha hb e)
theorem cmp_0 {x y : Int64} (h : x = y) : lg_cmp x y = 0 := (lg_cmp_eq x y).mpr h
theorem cmp_n {x y : Int64} (h : ¬ x = y) : ¬ lg_cmp x y = 0 := fun e => h ((lg_cmp_eq x y).mp e)
theorem nar_01 (x : Int32) : vp_nar .boolean x = 0 ∨ vp_nar .boolean x = 1 := by
  have h : vp_nar .boolean x = x &&& 1 := rfl
  rw [h]
  have : ∀ b : BitVec 32, b &&& 1#32 = 0#32 ∨ b &&& 1#32 = 1#32 := by
    intro b
    have hb : (b &&& 1#32).toNat < 2 := by
      rw [BitVec.toNat_and]
      exact Nat.lt_of_le_of_lt Nat.and_le_right (by decide)
    rcases (show (b &&& 1#32).toNat = 0 ∨ (b &&& 1#32).toNat = 1 by omega) with h | h
    · left; exact BitVec.eq_of_toNat_eq (by rw [h]; rfl)
    · right; exact BitVec.eq_of_toNat_eq (by rw [h]; rfl)
  rcases this x.toBitVec with h | h
  · left; exact Int32.toBitVec_inj.mp h
  · right; exact Int32.toBitVec_inj.mp h
theorem nar_0 : vp_nar .boolean 0 = 0 := by decide
theorem nar_1 : vp_nar .boolean 1 = 1 := by decide
theorem nar_id {x : Int32} (h : x = 0 ∨ x = 1) : vp_nar .boolean x = x := by rcases h with rfl | rfl <;> decide
-- ===== the tree of paths =====
/-- q is a, or a lies within q -/
def anc (f : Nat → Int32) : Nat → Nat → Nat → Bool
  | 0, _, _ => false
  | n + 1, a, q => if a = q then true else if f a = -1 then false else anc f n (f a).toNatClampNeg q
def wfT (np : Nat) (f : Nat → Int32) : Prop := np ≤ 40 ∧ ∀ j, j < np → f j = -1 ∨ ∃ i, i < j ∧ f j = nI i
theorem anc_lt {np : Nat} {f : Nat → Int32} (hT : wfT np f) : ∀ (n a q : Nat), a < q → a < np → anc f n a q = false := by
  have h40 := hT.1
  intro n
  induction n with
  | zero => intro a q _ _; rfl
  | succ n ih =>
    intro a q h1 h2
    rw [anc.eq_2, if_neg (by omega)]
    rcases hT.2 a h2 with h | ⟨i, hi, h⟩
    · rw [if_pos h]
    · rw [if_neg (by rw [h]; exact z_m1 (by omega)), h, nI_clamp (by omega)]
      exact ih i q (by omega) (by omega)
theorem PT_has_t {N np j : Nat} (h : j < np) (hn : np < 2 ^ 31) : pf_PT_has N (nI np) (nI j) = some 1 := by
  unfold pf_PT_has
  rw [if_neg (nI_pos (by omega)), if_neg (nI_ge h hn)]
theorem PT_has_f {N np : Nat} {x : Int32} (h : x < 0 ∨ nI np ≤ x) : pf_PT_has N (nI np) x = some 0 := by
  unfold pf_PT_has
  by_cases c : x < 0
  · rw [if_pos c]
  · rw [if_neg c, if_pos (h.resolve_left c)]
theorem PT_L5 {N np : Nat} {f : Nat → Int32} (hT : wfT np f) {q : Nat} (hq : q < np) : ∀ (a n m lv : Nat), a < np → a + 1 < n → a < m → lv + a < 40 → pf_PT_isAtOrWithin_L5 N f (nI np) (nI q) n (nI a) (nI lv) = some (bi (anc f m a q)) := by
  have h40 := hT.1
  intro a
  induction a using Nat.strongRecOn with
  | ind a ih =>
    intro n m lv ha hn hm hl
    obtain ⟨n, rfl⟩ : ∃ k, n = k + 1 := ⟨n - 1, by omega⟩
    obtain ⟨m, rfl⟩ : ∃ k, m = k + 1 := ⟨m - 1, by omega⟩
    rw [pf_PT_isAtOrWithin_L5.eq_2, if_neg (nI_ge (by omega) (by omega))]
    by_cases c : a ≤ q
    · rw [if_pos (nI_le c (by omega))]
      by_cases e : a = q
      · subst e
        rw [if_neg (fun h => h rfl), anc.eq_2, if_pos rfl]
        rfl
      · rw [if_pos (nI_neq (by omega) (by omega) e), anc_lt hT _ a q (by omega) ha]
        rfl
    · rw [if_neg (nI_ge (by omega) (by omega)), PT_has_t ha (by omega), Option.bind_some, if_neg (by decide), gz_nI (by omega) (by omega), nI_clamp (by omega), anc.eq_2, if_neg (by omega)]
      rcases hT.2 a ha with h | ⟨i, hi, h⟩
      · rw [if_pos h, h]
        obtain ⟨n, rfl⟩ : ∃ k, n = k + 1 := ⟨n - 1, by omega⟩
        rw [pf_PT_isAtOrWithin_L5.eq_2]
        have hne : ¬ (-1 : Int32) = nI q := fun h => z_m1 (by omega) h.symm
        have hle : (-1 : Int32) ≤ nI q := by
          rw [Int32.le_iff_toInt_le, nI_toInt (by omega)]
          have : (-1 : Int32).toInt = -1 := by decide
          omega
        by_cases c2 : nI 40 ≤ nI lv + 1
        · rw [if_pos c2, if_pos hne]; rfl
        · rw [if_neg c2, if_pos hle, if_pos hne]; rfl
      · rw [if_neg (by rw [h]; exact z_m1 (by omega)), h, nI_clamp (by omega), nI_1]
        exact ih i hi n m (lv + 1) (by omega) (by omega) (by omega) (by omega)
/-- up to the top -/
theorem PT_L5t {N np : Nat} {f : Nat → Int32} (hT : wfT np f) : ∀ (a n lv : Nat), a < np → a + 1 < n → lv + a < 40 → pf_PT_isAtOrWithin_L5 N f (nI np) (-1) n (nI a) (nI lv) = some 1 := by
  have h40 := hT.1
  intro a
  induction a using Nat.strongRecOn with
  | ind a ih =>
    intro n lv ha hn hl
    obtain ⟨n, rfl⟩ : ∃ k, n = k + 1 := ⟨n - 1, by omega⟩
    have hnl : ¬ nI a ≤ (-1 : Int32) := by
      rw [Int32.le_iff_toInt_le, nI_toInt (by omega)]
      have : (-1 : Int32).toInt = -1 := by decide
      omega
    rw [pf_PT_isAtOrWithin_L5.eq_2, if_neg (nI_ge (by omega) (by omega)), if_neg hnl, PT_has_t ha (by omega), Option.bind_some, if_neg (by decide), gz_nI (by omega) (by omega), nI_clamp (by omega)]
    rcases hT.2 a ha with h | ⟨i, hi, h⟩
    · rw [h]
      obtain ⟨n, rfl⟩ : ∃ k, n = k + 1 := ⟨n - 1, by omega⟩
      rw [pf_PT_isAtOrWithin_L5.eq_2]
      by_cases c2 : nI 40 ≤ nI lv + 1
      · rw [if_pos c2, if_neg (fun h => h rfl)]
      · rw [if_neg c2, if_pos (by decide), if_neg (fun h => h rfl)]
    · rw [h, nI_1]
      exact ih i hi n (lv + 1) (by omega) (by omega) (by omega)
/-- two paths meet -/
def mt (f : Nat → Int32) (a q : Nat) : Bool := anc f 41 a q || anc f 41 q a
theorem PT_at {N np : Nat} {f : Nat → Int32} (hN : 2000 ≤ N) (hT : wfT np f) {a q : Nat} (ha : a < np) (hq : q < np) : pf_PT_isAtOrWithin N f (nI np) (nI a) (nI q) = some (bi (anc f 41 a q)) := by
  have h40 := hT.1
  exact PT_L5 hT hq a N 41 0 ha (by omega) (by omega) (by omega)
theorem PT_at_top {N np : Nat} {f : Nat → Int32} (hN : 2000 ≤ N) (hT : wfT np f) {a : Nat} (ha : a < np) : pf_PT_isAtOrWithin N f (nI np) (nI a) (-1) = some 1 := by
  have h40 := hT.1
  exact PT_L5t hT a N 0 ha (by omega) (by omega)
theorem PT_meets {N np : Nat} {f : Nat → Int32} (hN : 2000 ≤ N) (hT : wfT np f) {a q : Nat} (ha : a < np) (hq : q < np) : pf_PT_meet N f (nI np) (nI a) (nI q) = some (bi (mt f a q)) := by
  have h40 := hT.1
  unfold pf_PT_meet mt
  rw [PT_has_t ha (by omega), Option.bind_some, if_neg (by decide), PT_has_t hq (by omega), Option.bind_some, if_neg (by decide), PT_at hN hT ha hq, Option.bind_some, PT_at hN hT hq ha, Option.bind_some]
  cases anc f 41 a q <;> cases anc f 41 q a <;> rfl
theorem MO_L7m {N : Nat} {f : Nat → Int32} {q n : Nat} (hq : q < 2 ^ 31) (hn : 0 < n) : pf_MO_isWithin_L7 N f (nI q) n (-1) = some 0 := by
  obtain ⟨n, rfl⟩ : ∃ k, n = k + 1 := ⟨n - 1, by omega⟩
  rw [pf_MO_isWithin_L7.eq_2, if_pos rfl, if_pos (fun h => z_m1 hq h.symm)]
theorem MO_L7 {N np : Nat} {f : Nat → Int32} (hT : wfT np f) {q : Nat} (hq : q < np) : ∀ (a n m : Nat), a < np → a + 1 < n → a < m → pf_MO_isWithin_L7 N f (nI q) n (nI a) = some (bi (anc f m a q)) := by
  have h40 := hT.1
  intro a
  induction a using Nat.strongRecOn with
  | ind a ih =>
    intro n m ha hn hm
    obtain ⟨n, rfl⟩ : ∃ k, n = k + 1 := ⟨n - 1, by omega⟩
    obtain ⟨m, rfl⟩ : ∃ k, m = k + 1 := ⟨m - 1, by omega⟩
    rw [pf_MO_isWithin_L7.eq_2, if_neg (z_m1 (by omega)), anc.eq_2]
    by_cases e : a = q
    · subst e
      rw [if_pos rfl, if_neg (fun h => h rfl), if_pos rfl]
      rfl
    · rw [if_neg (nI_neq (by omega) (by omega) e), if_neg e, gz_nI (by omega) (by omega), nI_clamp (by omega)]
      rcases hT.2 a ha with h | ⟨i, hi, h⟩
      · rw [if_pos h, h, MO_L7m (by omega) (by omega)]
        rfl
      · rw [if_neg (by rw [h]; exact z_m1 (by omega)), h, nI_clamp (by omega)]
        exact ih i hi n m (by omega) (by omega) (by omega)
theorem MO_within_ne {N np : Nat} {f : Nat → Int32} (hN : 2000 ≤ N) (hT : wfT np f) {a q : Nat} (ha : a < np) (hq : q < np) (e : a ≠ q) : pf_MO_isWithin N f (nI a) (nI q) = some (bi (anc f 41 a q)) := by
  have h40 := hT.1
  unfold pf_MO_isWithin
  rw [gz_nI (by omega) (by omega), nI_clamp (by omega), anc.eq_2, if_neg e]
  rcases hT.2 a ha with h | ⟨i, hi, h⟩
  · rw [if_pos h, h, MO_L7m (by omega) (by omega)]
    rfl
  · rw [if_neg (by rw [h]; exact z_m1 (by omega)), h, nI_clamp (by omega)]
    exact MO_L7 hT hq i N 40 (by omega) (by omega) (by omega)
theorem MO_meets {N np : Nat} {f : Nat → Int32} (hN : 2000 ≤ N) (hT : wfT np f) {a q : Nat} (ha : a < np) (hq : q < np) : pf_MO_meet N f (nI a) (nI q) = some (bi (mt f a q)) := by
  have h40 := hT.1
  unfold pf_MO_meet mt
  by_cases e : a = q
  · subst e
    rw [if_pos rfl, anc.eq_2, if_pos rfl]
    rfl
  · rw [if_neg (nI_neq (by omega) (by omega) e), MO_within_ne hN hT ha hq e, Option.bind_some, MO_within_ne hN hT hq ha (Ne.symm e), Option.bind_some]
    cases anc f 41 a q <;> cases anc f 41 q a <;> rfl
