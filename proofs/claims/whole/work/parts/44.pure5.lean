-- ===== about, read =====
theorem sim_about {N np ns : Nat} {tg : Nat → Int32} {oC : Nat → Int64} {oM oX oL ow mk : Nat → Int32} {ct : Nat → Int64} {ru th : Nat → Int32} (h40 : np ≤ 40) (hS : ns ≤ 80 ∧ ∀ s, s < ns → ∃ t, t < 12 ∧ tg s = nI t) (hO : iO np ns tg oC oM oX oL ow mk ct ru th) (x y z : Int32) :
    ∃ r, pf_OS_about N (nI np) tg (nI ns) oC oM oX oL x y z = some r ∧ pf_MO_about N (nI np) ow mk ru th x y z = some r := by
  unfold pf_OS_about pf_MO_about
  rcases ixN x (n := 4) (by decide) with hx | ⟨c, hc, rfl⟩
  · exact ⟨-1, by rw [OS_slot_fc hx, Option.bind_some, LT_has_m, Option.bind_some, if_neg (by decide)], by rw [MO_isOut_fc hx, Option.bind_some, if_neg (by decide)]⟩
  rcases ixN y (n := np) (by omega) with hy | ⟨p, hp, rfl⟩
  · exact ⟨-1, by rw [OS_slot_fp hc hy, Option.bind_some, LT_has_m, Option.bind_some, if_neg (by decide)], by rw [MO_isOut_fp hc hy, Option.bind_some, if_neg (by decide)]⟩
  have hk : 40 * c + p < 160 := by omega
  rw [OS_slot_t hp hc h40, Option.bind_some, MO_isOut_t hp hc h40, pk_mul, nI_add, nI_clamp (by omega)]
  rcases hO (40 * c + p) hk with ⟨h1, h2⟩ | ⟨h1, -, -, h3, h3b, h4, s, h5, h6, h7, h8⟩
  · exact ⟨-1, by rw [LT_has_0 hk h1, Option.bind_some, if_neg (by decide)], by rw [if_pos h2, Option.bind_some, if_neg (by decide)]⟩
  obtain ⟨t, ht, e⟩ := hS.2 s h5
  have how : ¬ ow (40 * c + p) = 0 := by rw [h8, e]; exact tg_ne0 ht
  rw [LT_has_1 hk h1, Option.bind_some, if_pos (show ¬ (1 : Int32) = 0 by decide), if_neg how, Option.bind_some, if_pos (show ¬ (1 : Int32) = 0 by decide), gz_nI hk (by decide), gz_nI hk (by decide), gz_nI hk (by decide), gz_nI hk (by decide), OS_tgtAt hk h1 h6 h5 hS.1, Option.bind_some, LT_stepAt_1 hk h1, Option.bind_some]
  by_cases c0 : z = 0
  · exact ⟨tg s, by rw [if_pos c0], by rw [if_pos c0, h8, e, nI_1, nI_pred]⟩
  rw [if_neg c0, if_neg c0]
  by_cases c1 : z = 1
  · rw [if_pos c1, if_pos c1, h3]
    rcases h3b with q | q
    · exact ⟨0, by rw [LT_isExe_0 hk (Or.inr q), Option.bind_some, if_pos rfl], by rw [if_pos q]⟩
    · exact ⟨1, by rw [LT_isExe_1 hk h1 (by rw [q]; decide), Option.bind_some, if_neg (by decide)], by rw [if_neg (by rw [q]; decide)]⟩
  rw [if_neg c1, if_neg c1]
  by_cases c2 : z = 2
  · rw [if_pos c2, if_pos c2]
    rcases h4 with ⟨q, q2⟩ | ⟨q, q2⟩
    · exact ⟨1, by rw [LT_isLazy_0 hk (Or.inr q), Option.bind_some, if_pos rfl], by rw [if_neg (by rw [q2]; decide)]⟩
    · exact ⟨0, by rw [LT_isLazy_1 hk h1 (by rw [q]; decide), Option.bind_some, if_neg (by decide)], by rw [if_pos q2]⟩
  rw [if_neg c2, if_neg c2]
  by_cases c3 : z = 3
  · exact ⟨nI s, by rw [if_pos c3, h6], by rw [if_pos c3, h7]⟩
  · exact ⟨-1, by rw [if_neg c3], by rw [if_neg c3]⟩
theorem DM_set_t {N t c : Nat} {dM : Nat → Int32} {v : Int32} (ht : t < 12) (hc : c < 4) : pf_DM_set N dM (nI t) (nI c) v = some (upd dM (12 * c + t) (vp_nar .boolean v)) := by
  unfold pf_DM_set
  rw [OS_isT_t ht, Option.bind_some, if_neg (by decide), OS_isC_t hc, Option.bind_some, if_neg (by decide), pk_mul, nI_add, Nat.mul_comm c 12, gz_nI (by omega) (by decide), nI_clamp (by omega)]
theorem HB_take_t {N nh : Nat} {f : Nat → Int64} {v : Int64} (h : nh < 100) : pf_HB_take N f (nI nh) v = some (nI nh, vp_updL f nh v, nI (nh + 1)) := by
  unfold pf_HB_take pf_HB_isFull
  rw [if_pos (nI_lt h (by decide)), Option.bind_some, if_pos rfl, gz_nI h (by decide), nI_clamp (by omega), nI_1, nI_pred]
theorem iO_set {np ns : Nat} {tg : Nat → Int32} {oC oC' : Nat → Int64} {oM oX oL oL' ow ow' mk : Nat → Int32} {ct : Nat → Int64} {ru th th' : Nat → Int32} (hO : iO np ns tg oC oM oX oL ow mk ct ru th) (k : Nat)
    (hn : ∀ j, j ≠ k → oC' j = oC j ∧ oL' j = oL j ∧ ow' j = ow j ∧ th' j = th j) (hk : k < 160 → (oC' k = 0 ∧ ow' k = 0) ∨ (¬ oC k = 0 ∧ oC' k = oC k ∧ ow' k = ow k ∧ (oL' k = 0 ∧ th' k = 1 ∨ oL' k = 1 ∧ th' k = 0))) : iO np ns tg oC' oM oX oL' ow' mk ct ru th' := by
  intro j hj
  by_cases e : j = k
  · subst e
    rcases hk hj with h | ⟨h1, h2, h3, h4⟩
    · exact Or.inl h
    · rcases hO j hj with ⟨q, -⟩ | ⟨q1, q2, q3, q4, q5, -, q6⟩
      · exact absurd q h1
      · exact Or.inr ⟨by rw [h2]; exact q1, q2, by rw [h2]; exact q3, q4, q5, h4, by rw [h3]; exact q6⟩
  · obtain ⟨a1, a2, a3, a4⟩ := hn j e
    rw [a1, a2, a3, a4]
    exact hO j hj
theorem sim_read {N np ns nc nh : Nat} {tg dM : Nat → Int32} {oC cC hC : Nat → Int64} {oM oX oL ow mk : Nat → Int32} {ct : Nat → Int64} {ru th : Nat → Int32} (hN : 2000 ≤ N) (h40 : np ≤ 40) (h60 : nc ≤ 60) (h100 : nh ≤ 100) (hS : ns ≤ 80 ∧ ∀ s, s < ns → ∃ t, t < 12 ∧ tg s = nI t) (hO : iO np ns tg oC oM oX oL ow mk ct ru th) (x y : Int32) :
    ∃ r oC' oL' hC' nh' dM' ow' th', nh' ≤ 100 ∧ iO np ns tg oC' oM oX oL' ow' mk ct ru th' ∧ pf_OS_read N (nI np) tg (nI ns) oC oM oL cC (nI nc) hC (nI nh) dM x y = some (r, oC', oL', hC', nI nh', dM') ∧ pf_MO_read N (nI np) (nI nc) (nI nh) ow ct th dM cC hC x y = some (r, nI nh', ow', th', dM', hC') := by
  unfold pf_OS_read pf_MO_read
  rcases ixN x (n := 4) (by decide) with hx | ⟨c, hc, rfl⟩
  · exact ⟨-1, oC, oL, hC, nh, dM, ow, th, h100, hO, by rw [OS_slot_fc hx, Option.bind_some, if_pos rfl], by rw [MO_wi_f (by decide) hx, Option.bind_some, if_pos rfl]⟩
  rw [MO_wi_t (h := 3) (by omega) (by decide), Option.bind_some, if_neg (by decide)]
  rcases ixN y (n := np) (by omega) with hy | ⟨p, hp, rfl⟩
  · exact ⟨-1, oC, oL, hC, nh, dM, ow, th, h100, hO, by rw [OS_slot_fp hc hy, Option.bind_some, if_pos rfl], by rw [MO_isPath_f hy, Option.bind_some, if_pos rfl]⟩
  have hk : 40 * c + p < 160 := by omega
  rw [OS_slot_t hp hc h40, Option.bind_some, if_neg (z_m1 (by omega)), MO_isPath_t hp (by omega), Option.bind_some, if_neg (by decide)]
  by_cases c1 : nh = 100
  · subst c1
    refine ⟨-1, oC, oL, hC, 100, dM, ow, th, h100, hO, ?_, by rw [if_neg (by decide)]⟩
    unfold pf_HB_isFull
    rw [if_neg (by decide), Option.bind_some, if_neg (by decide)]
  have hfull : pf_HB_isFull N (nI nh) = some 0 := by
    unfold pf_HB_isFull
    rw [if_pos (nI_lt (by omega) (by decide))]
  rw [hfull, Option.bind_some, if_pos rfl, if_pos (nI_neq (by omega) (by decide) c1), MO_isOut_t hp hc h40, pk_mul, nI_add, nI_clamp (by omega)]
  rcases hO (40 * c + p) hk with ⟨h1, h2⟩ | ⟨h1, h1b, h1c, h3, h3b, h4, s, h5, h6, h7, h8⟩
  · exact ⟨-2, oC, oL, hC, nh, dM, ow, th, h100, hO, by rw [LT_has_0 hk h1, Option.bind_some, if_neg (by decide)], by rw [if_pos h2, Option.bind_some, if_neg (by decide)]⟩
  obtain ⟨t, ht, e⟩ := hS.2 s h5
  rw [LT_has_1 hk h1, Option.bind_some, if_pos (by decide), LT_contentAt_k hk, Option.bind_some, if_neg (by rw [h8, e]; exact tg_ne0 ht), Option.bind_some, if_pos (by decide), gz_nI hk (by decide), gz_nI hk (by decide), gz_nI hk (by decide)]
  have there : iO np ns tg oC oM oX (upd oL (40 * c + p) 0) ow mk ct ru (upd th (40 * c + p) 1) :=
    iO_set hO (40 * c + p) (fun j hj => ⟨rfl, pk_un hj, rfl, pk_un hj⟩) (fun _ => Or.inr ⟨h1, rfl, rfl, Or.inl ⟨pk_us, pk_us⟩⟩)
  have cl1 : ((pf_LT_makeThere N oC oL (nI (40 * c + p))).bind (fun u5 => (pf_HB_take N hC (nI nh) (oC (40 * c + p))).bind (fun u6 => some (u6.1, oC, u5, u6.2.1, u6.2.2, dM)))) = some (nI nh, oC, upd oL (40 * c + p) 0, vp_updL hC nh (oC (40 * c + p)), nI (nh + 1), dM) := by
    rw [LT_there_1 hk h1, Option.bind_some, HB_take_t (by omega), Option.bind_some]
  rcases h4 with ⟨q, q2⟩ | ⟨q, q2⟩
  · refine ⟨nI nh, oC, upd oL (40 * c + p) 0, vp_updL hC nh (oC (40 * c + p)), nh + 1, dM, ow, upd th (40 * c + p) 1, by omega, there, ?_, ?_⟩
    · rw [LT_isLazy_0 hk (Or.inr q), Option.bind_some, if_pos rfl]
      exact cl1
    · rw [if_pos (by rw [q2]; decide), nI_clamp (by omega), nI_1, nI_pred, nar_1, h1c]
      simp only [gz_nI hk (show (160 : Nat) < 2 ^ 31 by decide), gz_nI (show nh < 100 by omega) (show (100 : Nat) < 2 ^ 31 by decide), gz_nI (show 12 * c + t < 48 by omega) (show (48 : Nat) < 2 ^ 31 by decide)]
  · rw [LT_isLazy_1 hk h1 (by rw [q]; decide), Option.bind_some, if_neg (by decide), if_neg (by rw [q2]; decide), h1c]
    rcases CS_has_sp (N := N) (f := cC) (v := oC (40 * c + p)) hN h60 with ⟨he, h⟩ | ⟨hl, h⟩
    · refine ⟨nI nh, oC, upd oL (40 * c + p) 0, vp_updL hC nh (oC (40 * c + p)), nh + 1, dM, ow, upd th (40 * c + p) 1, by omega, there, ?_, ?_⟩
      · rw [h, Option.bind_some, if_pos (by decide)]
        exact cl1
      · rw [MO_isC_t hN h60 he, Option.bind_some, if_pos (by decide), nI_clamp (by omega), nI_1, nI_pred, nar_1]
        simp only [gz_nI hk (show (160 : Nat) < 2 ^ 31 by decide), gz_nI (show nh < 100 by omega) (show (100 : Nat) < 2 ^ 31 by decide), gz_nI (show 12 * c + t < 48 by omega) (show (48 : Nat) < 2 ^ 31 by decide)]
    · refine ⟨-3, vp_updL oC (40 * c + p) 0, oL, hC, nh, upd dM (12 * c + t) 1, upd ow (40 * c + p) 0, th, by omega, ?_, ?_, ?_⟩
      · exact iO_set hO (40 * c + p) (fun j hj => ⟨pk_uLn hj, rfl, pk_un hj, rfl⟩) (fun _ => Or.inl ⟨pk_uLs, pk_us⟩)
      · rw [h, Option.bind_some, if_neg (by decide), OS_tgtAt hk h1 h6 h5 hS.1, Option.bind_some, e, DM_set_t ht hc, Option.bind_some, LT_drop_1 hk h1, Option.bind_some, nar_1]
      · rw [MO_isC_f hN h60 hl, Option.bind_some, if_neg (by decide), h8, e, nI_1, pk_mul, nI_add, show 12 * c + (t + 1) = (12 * c + t) + 1 by omega, nI_pred, nI_clamp (by omega), nar_1]
        simp only [gz_nI hk (show (160 : Nat) < 2 ^ 31 by decide), gz_nI (show nh < 100 by omega) (show (100 : Nat) < 2 ^ 31 by decide), gz_nI (show 12 * c + t < 48 by omega) (show (48 : Nat) < 2 ^ 31 by decide)]
-- ===== list =====
/-- the i-th path from q on, of those that P takes -/
def lr (P : Nat → Bool) : Nat → Nat → Int32 → Int32
  | 0, _, _ => -1
  | d + 1, q, x => if P q then (if x = 0 then nI q else lr P d (q + 1) (x + (-1 : Int32))) else lr P d (q + 1) x
theorem OS_listL {N np c : Nat} {f : Nat → Int32} {oC : Nat → Int64} {y : Int32} {P : Nat → Bool} (h40 : np ≤ 40) (hc : c < 4)
    (hP : ∀ q, q < np → oC (40 * c + q) = 0 → P q = false) (hQ : ∀ q, q < np → ¬ oC (40 * c + q) = 0 → pf_PT_isAtOrWithin N f (nI np) (nI q) y = some (bi (P q))) : ∀ (d q n : Nat) (x : Int32), q + d = np → d + 40 < n → pf_OS_list_L35 N f (nI np) oC (nI c) y n x (nI q) = some (lr P d q x) := by
  intro d
  induction d with
  | zero =>
    intro q n x hq hn
    have tail : ∀ (e q n : Nat), np ≤ q → q + e = 40 → e < n → pf_OS_list_L35 N f (nI np) oC (nI c) y n x (nI q) = some (-1) := by
      intro e
      induction e with
      | zero =>
        intro q n h1 h2 h3
        obtain ⟨n, rfl⟩ : ∃ k, n = k + 1 := ⟨n - 1, by omega⟩
        rw [pf_OS_list_L35.eq_2, if_pos (nI_le (by omega) (by omega))]
      | succ e ih =>
        intro q n h1 h2 h3
        obtain ⟨n, rfl⟩ : ∃ k, n = k + 1 := ⟨n - 1, by omega⟩
        rw [pf_OS_list_L35.eq_2, if_neg (nI_ge (by omega) (by omega)), OS_slot_fp hc (Or.inr (nI_le h1 (by omega))), Option.bind_some, LT_has_m, Option.bind_some, if_pos rfl, nI_1]
        exact ih (q + 1) n (by omega) (by omega) (by omega)
    exact tail (40 - q) q n (by omega) (by omega) (by omega)
  | succ d ih =>
    intro q n x hq hn
    obtain ⟨n, rfl⟩ : ∃ k, n = k + 1 := ⟨n - 1, by omega⟩
    have hk : 40 * c + q < 160 := by omega
    rw [pf_OS_list_L35.eq_2, if_neg (nI_ge (by omega) (by omega)), OS_slot_t (by omega) hc h40, Option.bind_some, nI_1, lr]
    by_cases c1 : oC (40 * c + q) = 0
    · rw [LT_has_0 hk c1, Option.bind_some, if_pos rfl, hP q (by omega) c1, if_neg (by decide)]
      exact ih (q + 1) n x (by omega) (by omega)
    · rw [LT_has_1 hk c1, Option.bind_some, if_neg (by decide), hQ q (by omega) c1, Option.bind_some]
      cases P q with
      | false =>
        rw [if_pos (by decide), if_neg (by decide)]
        exact ih (q + 1) n x (by omega) (by omega)
      | true =>
        rw [if_neg (by decide), if_pos rfl]
        by_cases c2 : x = 0
        · rw [if_neg (fun h => h c2), if_pos c2]
        · rw [if_pos c2, if_neg c2]
          exact ih (q + 1) n _ (by omega) (by omega)
theorem MO_listL {N np c : Nat} {f ow : Nat → Int32} {y : Int32} {P : Nat → Bool} (h40 : np ≤ 40) (hc : c < 4)
    (hP : ∀ q, q < np → ow (40 * c + q) = 0 → P q = false) (hQ : ∀ q, q < np → ¬ ow (40 * c + q) = 0 → (P q = true ∧ (y = -1 ∨ nI q = y)) ∨ (¬ y = -1 ∧ ¬ nI q = y ∧ pf_MO_isWithin N f (nI q) y = some (bi (P q)))) : ∀ (d q n : Nat) (x : Int32), q + d = np → d < n → pf_MO_list_L33 N (nI np) f ow (nI c) y n x (nI q) = some (lr P d q x) := by
  intro d
  induction d with
  | zero =>
    intro q n x hq hn
    obtain ⟨n, rfl⟩ : ∃ k, n = k + 1 := ⟨n - 1, by omega⟩
    rw [pf_MO_list_L33.eq_2, if_pos (nI_le (by omega) (by omega)), lr]
  | succ d ih =>
    intro q n x hq hn
    obtain ⟨n, rfl⟩ : ∃ k, n = k + 1 := ⟨n - 1, by omega⟩
    have hk : 40 * c + q < 160 := by omega
    have step : ∀ x : Int32, (if ¬ x = 0 then pf_MO_list_L33 N (nI np) f ow (nI c) y n (x + (-1 : Int32)) (nI (q + 1)) else some (nI q)) = some (if x = 0 then nI q else lr P d (q + 1) (x + (-1 : Int32))) := by
      intro x
      by_cases c2 : x = 0
      · rw [if_neg (fun h => h c2), if_pos c2]
      · rw [if_pos c2, if_neg c2]
        exact ih (q + 1) n _ (by omega) (by omega)
    rw [pf_MO_list_L33.eq_2, if_neg (nI_ge (by omega) (by omega)), pk_mul, nI_add, gz_nI hk (by decide), nI_clamp (by omega), nI_1, lr]
    by_cases c1 : ow (40 * c + q) = 0
    · rw [if_pos c1, hP q (by omega) c1, if_neg (by decide)]
      exact ih (q + 1) n x (by omega) (by omega)
    · rw [if_neg c1]
      rcases hQ q (by omega) c1 with ⟨h1, h2⟩ | ⟨h1, h2, h3⟩
      · rw [h1, if_pos rfl]
        by_cases c3 : y = -1
        · rw [if_pos c3]
          exact step x
        · rw [if_neg c3, if_pos (h2.resolve_left c3)]
          exact step x
      · rw [if_neg h1, if_neg h2, h3, Option.bind_some]
        cases P q with
        | false =>
          rw [if_neg (by decide), if_neg (by decide)]
          exact ih (q + 1) n x (by omega) (by omega)
        | true =>
          rw [if_pos (by decide), if_pos rfl]
          exact step x
theorem sim_list {N np ns : Nat} {f : Nat → Int32} {tg : Nat → Int32} {oC : Nat → Int64} {oM oX oL ow mk : Nat → Int32} {ct : Nat → Int64} {ru th : Nat → Int32} (hN : 2000 ≤ N) (hT : wfT np f) (hS : ns ≤ 80 ∧ ∀ s, s < ns → ∃ t, t < 12 ∧ tg s = nI t) (hO : iO np ns tg oC oM oX oL ow mk ct ru th) (x y z : Int32) :
    ∃ r, pf_OS_list N f (nI np) oC x y z = some r ∧ pf_MO_list N (nI np) f ow x y z = some r := by
  have h40 := hT.1
  unfold pf_OS_list pf_MO_list
  rcases ixN x (n := 4) (by decide) with hx | ⟨c, hc, rfl⟩
  · exact ⟨-1, by rw [OS_isC_f hx, Option.bind_some, if_pos rfl], by rw [MO_wi_f (by decide) hx, Option.bind_some, if_pos rfl]⟩
  rw [OS_isC_t hc, Option.bind_some, if_neg (show ¬ (1 : Int32) = 0 by decide), MO_wi_t (h := 3) (by omega) (by decide), Option.bind_some, if_neg (show ¬ (1 : Int32) = 0 by decide)]
  have neg : ¬ z < 0 ↔ 0 ≤ z := by
    rw [Int32.lt_iff_toInt_lt, Int32.le_iff_toInt_le, Int32.toInt_zero]
    omega
  have ow0 : ∀ q, q < np → (oC (40 * c + q) = 0 ↔ ow (40 * c + q) = 0) := by
    intro q hq
    rcases hO (40 * c + q) (by omega) with ⟨h1, h2⟩ | ⟨h1, -, -, -, -, -, s, h4, -, -, h5⟩
    · exact ⟨fun _ => h2, fun _ => h1⟩
    · obtain ⟨t, ht, e⟩ := hS.2 s h4
      exact ⟨fun h => absurd h h1, fun h => absurd (by rw [← e, ← h5]; exact h) (tg_ne0 ht)⟩
  by_cases cz : z < 0
  · have cz' : ¬ 0 ≤ z := fun h => neg.mpr h cz
    refine ⟨-1, by rw [if_pos cz], ?_⟩
    rw [if_neg cz']
    by_cases e : y = -1
    · rw [if_pos e]
    · rw [if_neg e]
      rcases ixN y (n := np) (by omega) with hy | ⟨p, hp, rfl⟩
      · rw [MO_isPath_f hy, Option.bind_some, if_pos rfl]
      · rw [MO_isPath_t hp (by omega), Option.bind_some, if_neg (show ¬ (1 : Int32) = 0 by decide)]
  rw [if_neg cz, if_pos (neg.mp cz)]
  by_cases e : y = -1
  · subst e
    rw [if_pos rfl, if_pos rfl, ← nI_0]
    have a := OS_listL (N := N) (f := f) (oC := oC) (y := -1) (P := fun q => !(decide (oC (40 * c + q) = 0))) h40 hc (fun q _ h => by simp [h]) (fun q hq h => by rw [PT_at_top hN hT hq]; simp [h, bi]) np 0 N z (by omega) (by omega)
    have b := MO_listL (N := N) (f := f) (ow := ow) (y := -1) (P := fun q => !(decide (oC (40 * c + q) = 0))) h40 hc (fun q hq h => by simp [(ow0 q hq).mpr h]) (fun q hq h => Or.inl ⟨by
      have h' : ¬ oC (40 * c + q) = 0 := fun h2 => h ((ow0 q hq).mp h2)
      simp [h'], Or.inl rfl⟩) np 0 N z (by omega) (by omega)
    exact ⟨_, a, b⟩
  rw [if_neg e, if_neg e]
  rcases ixN y (n := np) (by omega) with hy | ⟨p, hp, rfl⟩
  · exact ⟨-1, by rw [PT_has_f hy, Option.bind_some, if_neg (by decide)], by rw [MO_isPath_f hy, Option.bind_some, if_pos rfl]⟩
  rw [PT_has_t hp (by omega), Option.bind_some, if_pos (show ¬ (1 : Int32) = 0 by decide), MO_isPath_t hp (by omega), Option.bind_some, if_neg (show ¬ (1 : Int32) = 0 by decide), ← nI_0]
  have a := OS_listL (N := N) (f := f) (oC := oC) (y := nI p) (P := fun q => !(decide (oC (40 * c + q) = 0)) && anc f 41 q p) h40 hc (fun q _ h => by simp [h]) (fun q hq h => by rw [PT_at hN hT hq hp]; simp [h]) np 0 N z (by omega) (by omega)
  have b := MO_listL (N := N) (f := f) (ow := ow) (y := nI p) (P := fun q => !(decide (oC (40 * c + q) = 0)) && anc f 41 q p) h40 hc (fun q hq h => by simp [(ow0 q hq).mpr h]) (fun q hq h => by
    have h' : ¬ oC (40 * c + q) = 0 := fun h2 => h ((ow0 q hq).mp h2)
    by_cases w : q = p
    · subst w
      exact Or.inl ⟨by simp [h', anc], Or.inr rfl⟩
    · exact Or.inr ⟨e, nI_neq (by omega) (by omega) w, by rw [MO_within_ne hN hT hq hp w]; simp [h']⟩) np 0 N z (by omega) (by omega)
  exact ⟨_, a, b⟩
