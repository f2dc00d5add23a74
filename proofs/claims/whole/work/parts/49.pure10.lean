-- ===== ending a step =====
/-- the class: what is staged comes in the place of the target's outputs -/
theorem rep_L {N np ns s c : Nat} {tg : Nat → Int32} {oC0 : Nat → Int64} {oM0 ow : Nat → Int32} {gC : Nat → Int64} {gM gX gL dM : Nat → Int32} {t : Nat} (h40 : np ≤ 40) (h80 : ns ≤ 80) (hc : c < 4) (ht : t < 12)
    (hT : ∀ s', s' < ns → ∃ t', t' < 12 ∧ tg s' = nI t')
    (hO : ∀ i, i < np → (oC0 (40 * c + i) = 0 ∧ ow (40 * c + i) = 0) ∨ (¬ oC0 (40 * c + i) = 0 ∧ ∃ s', s' < ns ∧ oM0 (40 * c + i) = nI s' ∧ ow (40 * c + i) = tg s' + 1))
    (hX : ∀ i, i < np → ¬ gC (40 * c + i) = 0 → (gX (40 * c + i) = 0 ∨ gX (40 * c + i) = 1) ∧ (gL (40 * c + i) = 0 ∨ gL (40 * c + i) = 1)) :
    ∀ (d q n cnt : Nat) (oC : Nat → Int64) (oM oX oL : Nat → Int32), q + d = np → d + 40 < n → (∀ i, q ≤ i → i < np → oC (40 * c + i) = oC0 (40 * c + i) ∧ oM (40 * c + i) = oM0 (40 * c + i)) →
    ∃ oC' oM' oX' oL', pf_OS_replaceOutputs_L24 N (nI np) tg (nI ns) gC gM gX gL dM (nI s) (nI c) (nI t) n oC oM oX oL (nI cnt) (nI q) = some (nI (cnt + (List.range' q d).countP (fun i => decide (ow (40 * c + i) = nI t + 1 ∧ ¬ (¬ gC (40 * c + i) = 0 ∧ gM (40 * c + i) = nI s)))), oC', oM', oX', oL', upd dM (12 * c + t) 0) ∧
      (∀ i, q ≤ i → i < np → (¬ gC (40 * c + i) = 0 ∧ gM (40 * c + i) = nI s) → oC' (40 * c + i) = gC (40 * c + i) ∧ oM' (40 * c + i) = nI s ∧ oX' (40 * c + i) = gX (40 * c + i) ∧ oL' (40 * c + i) = gL (40 * c + i)) ∧
      (∀ i, q ≤ i → i < np → ¬ (¬ gC (40 * c + i) = 0 ∧ gM (40 * c + i) = nI s) → ow (40 * c + i) = nI t + 1 → oC' (40 * c + i) = 0) ∧
      (∀ k, (∀ i, q ≤ i → i < np → k = 40 * c + i → ¬ (¬ gC (40 * c + i) = 0 ∧ gM (40 * c + i) = nI s) ∧ ¬ ow (40 * c + i) = nI t + 1) → oC' k = oC k ∧ oM' k = oM k ∧ oX' k = oX k ∧ oL' k = oL k) := by
  intro d
  induction d with
  | zero =>
    intro q n cnt oC oM oX oL hq hn hz
    have tail : ∀ (e q n : Nat), np ≤ q → q + e = 40 → e < n → pf_OS_replaceOutputs_L24 N (nI np) tg (nI ns) gC gM gX gL dM (nI s) (nI c) (nI t) n oC oM oX oL (nI cnt) (nI q) = some (nI cnt, oC, oM, oX, oL, upd dM (12 * c + t) 0) := by
      intro e
      induction e with
      | zero =>
        intro q n h1 h2 h3
        obtain ⟨n, rfl⟩ : ∃ k, n = k + 1 := ⟨n - 1, by omega⟩
        rw [pf_OS_replaceOutputs_L24.eq_2, if_pos (nI_le (by omega) (by omega)), DM_set_t ht hc, Option.bind_some, nar_0]
      | succ e ih =>
        intro q n h1 h2 h3
        obtain ⟨n, rfl⟩ : ∃ k, n = k + 1 := ⟨n - 1, by omega⟩
        rw [pf_OS_replaceOutputs_L24.eq_2, if_neg (nI_ge (by omega) (by omega)), OS_slot_fp hc (Or.inr (nI_le h1 (by omega))), Option.bind_some, LT_isOf_m, Option.bind_some, if_pos rfl, LT_has_m, Option.bind_some, if_pos rfl, nI_1]
        exact ih (q + 1) n (by omega) (by omega) (by omega)
    exact ⟨oC, oM, oX, oL, by rw [tail (40 - q) q n (by omega) (by omega) (by omega)]; simp, fun i h1 h2 => absurd h2 (by omega), fun i h1 h2 => absurd h2 (by omega), fun k _ => ⟨rfl, rfl, rfl, rfl⟩⟩
  | succ d ih =>
    intro q n cnt oC oM oX oL hq hn hz
    obtain ⟨n, rfl⟩ : ∃ k, n = k + 1 := ⟨n - 1, by omega⟩
    have hk : 40 * c + q < 160 := by omega
    have hqn : q < np := by omega
    obtain ⟨z1, z2⟩ := hz q (Nat.le_refl _) hqn
    rw [pf_OS_replaceOutputs_L24.eq_2, if_neg (nI_ge (by omega) (by omega)), OS_slot_t hqn hc h40, Option.bind_some, List.range'_succ, List.countP_cons]
    by_cases OF : ¬ gC (40 * c + q) = 0 ∧ gM (40 * c + q) = nI s
    · obtain ⟨bx, bl⟩ := hX q hqn OF.1
      have eX : pf_LT_isExecutable N gC gX (nI (40 * c + q)) = some (gX (40 * c + q)) := by
        rcases bx with w | w
        · rw [LT_isExe_0 hk (Or.inr w), w]
        · rw [LT_isExe_1 hk OF.1 (by rw [w]; decide), w]
      have eL : pf_LT_isLazy N gC gL (nI (40 * c + q)) = some (gL (40 * c + q)) := by
        rcases bl with w | w
        · rw [LT_isLazy_0 hk (Or.inr w), w]
        · rw [LT_isLazy_1 hk OF.1 (by rw [w]; decide), w]
      rw [LT_isOf_1 hk OF.1 OF.2, Option.bind_some, if_neg (show ¬ (1 : Int32) = 0 by decide), LT_contentAt_k hk, Option.bind_some, eX, Option.bind_some, eL, Option.bind_some, LT_put_k hk, Option.bind_some, nar_id bx, nar_id bl, nI_1, if_neg (by simp only [decide_eq_true_eq]; exact fun h => h.2 OF)]
      obtain ⟨oC', oM', oX', oL', e, a1, a2, a3⟩ := ih (q + 1) n cnt (vp_updL oC (40 * c + q) (gC (40 * c + q))) (upd oM (40 * c + q) (nI s)) (upd oX (40 * c + q) (gX (40 * c + q))) (upd oL (40 * c + q) (gL (40 * c + q))) (by omega) (by omega) (fun i h1 h2 => by
        rw [pk_uLn (by omega), pk_un (by omega)]
        exact hz i (by omega) h2)
      refine ⟨oC', oM', oX', oL', e, fun i h1 h2 h3 => ?_, fun i h1 h2 h3 h4 => ?_, fun k hk2 => ?_⟩
      · by_cases w : i = q
        · subst w
          obtain ⟨b1, b2, b3, b4⟩ := a3 (40 * c + i) (fun i' h4 h5 h6 => by omega)
          rw [b1, b2, b3, b4, pk_uLs, pk_us, pk_us, pk_us]
          exact ⟨rfl, rfl, rfl, rfl⟩
        · exact a1 i (by omega) h2 h3
      · by_cases w : i = q
        · subst w
          exact absurd OF h3
        · exact a2 i (by omega) h2 h3 h4
      · have kq : k ≠ 40 * c + q := fun w => (hk2 q (Nat.le_refl _) hqn w).1 OF
        obtain ⟨b1, b2, b3, b4⟩ := a3 k (fun i h4 h5 h6 => hk2 i (by omega) h5 h6)
        rw [b1, b2, b3, b4, pk_uLn kq, pk_un kq, pk_un kq, pk_un kq]
        exact ⟨rfl, rfl, rfl, rfl⟩
    · rw [LT_isOf_0 hk (by
        by_cases h1 : gC (40 * c + q) = 0
        · exact Or.inl h1
        · exact Or.inr (fun h2 => OF ⟨h1, h2⟩)), Option.bind_some, if_pos rfl]
      have skip : ¬ ow (40 * c + q) = nI t + 1 → ∃ oC' oM' oX' oL', pf_OS_replaceOutputs_L24 N (nI np) tg (nI ns) gC gM gX gL dM (nI s) (nI c) (nI t) n oC oM oX oL (nI cnt) (nI (q + 1)) = some (nI (cnt + ((List.range' (q + 1) d).countP (fun i => decide (ow (40 * c + i) = nI t + 1 ∧ ¬ (¬ gC (40 * c + i) = 0 ∧ gM (40 * c + i) = nI s))) + if decide (ow (40 * c + q) = nI t + 1 ∧ ¬ (¬ gC (40 * c + q) = 0 ∧ gM (40 * c + q) = nI s)) = true then 1 else 0)), oC', oM', oX', oL', upd dM (12 * c + t) 0) ∧
          (∀ i, q ≤ i → i < np → (¬ gC (40 * c + i) = 0 ∧ gM (40 * c + i) = nI s) → oC' (40 * c + i) = gC (40 * c + i) ∧ oM' (40 * c + i) = nI s ∧ oX' (40 * c + i) = gX (40 * c + i) ∧ oL' (40 * c + i) = gL (40 * c + i)) ∧
          (∀ i, q ≤ i → i < np → ¬ (¬ gC (40 * c + i) = 0 ∧ gM (40 * c + i) = nI s) → ow (40 * c + i) = nI t + 1 → oC' (40 * c + i) = 0) ∧
          (∀ k, (∀ i, q ≤ i → i < np → k = 40 * c + i → ¬ (¬ gC (40 * c + i) = 0 ∧ gM (40 * c + i) = nI s) ∧ ¬ ow (40 * c + i) = nI t + 1) → oC' k = oC k ∧ oM' k = oM k ∧ oX' k = oX k ∧ oL' k = oL k) := by
        intro hno
        obtain ⟨oC', oM', oX', oL', e, a1, a2, a3⟩ := ih (q + 1) n cnt oC oM oX oL (by omega) (by omega) (fun i h1 h2 => hz i (by omega) h2)
        refine ⟨oC', oM', oX', oL', by rw [e, if_neg (by simp only [decide_eq_true_eq]; exact fun h => hno h.1)]; rfl, fun i h1 h2 h3 => ?_, fun i h1 h2 h3 h4 => ?_, fun k hk2 => a3 k (fun i h4 h5 h6 => hk2 i (by omega) h5 h6)⟩
        · by_cases w : i = q
          · subst w
            exact absurd h3 OF
          · exact a1 i (by omega) h2 h3
        · by_cases w : i = q
          · subst w
            exact absurd h4 hno
          · exact a2 i (by omega) h2 h3 h4
      rcases hO q hqn with ⟨h1, h2⟩ | ⟨h1, s', h3, h4, h5⟩
      · rw [LT_has_0 hk (by rw [z1]; exact h1), Option.bind_some, if_pos rfl, nI_1]
        exact skip (by rw [h2]; exact fun h => tg_ne0 ht h.symm)
      · have h1' : ¬ oC (40 * c + q) = 0 := by rw [z1]; exact h1
        obtain ⟨t', ht', et'⟩ := hT s' h3
        rw [LT_has_1 hk h1', Option.bind_some, if_neg (show ¬ (1 : Int32) = 0 by decide), OS_tgtAt hk h1' (by rw [z2]; exact h4) h3 h80, Option.bind_some, et', nI_1]
        by_cases w : t' = t
        · have how : ow (40 * c + q) = nI t + 1 := by rw [h5, et', w]
          rw [if_neg (fun h => h (by rw [w])), LT_drop_1 hk h1', Option.bind_some, nI_1]
          obtain ⟨oC', oM', oX', oL', e, a1, a2, a3⟩ := ih (q + 1) n (cnt + 1) (vp_updL oC (40 * c + q) 0) oM oX oL (by omega) (by omega) (fun i h1 h2 => by
            rw [pk_uLn (by omega)]
            exact hz i (by omega) h2)
          refine ⟨oC', oM', oX', oL', ?_, fun i h1 h2 h3 => ?_, fun i h1 h2 h3 h4 => ?_, fun k hk2 => ?_⟩
          · rw [e, if_pos (by simp only [decide_eq_true_eq]; exact ⟨how, OF⟩)]
            congr 3
            omega
          · by_cases w : i = q
            · subst w
              exact absurd h3 OF
            · exact a1 i (by omega) h2 h3
          · by_cases w : i = q
            · subst w
              obtain ⟨b1, -⟩ := a3 (40 * c + i) (fun i' h4 h5 h6 => by omega)
              rw [b1, pk_uLs]
            · exact a2 i (by omega) h2 h3 h4
          · have kq : k ≠ 40 * c + q := fun w => (hk2 q (Nat.le_refl _) hqn w).2 how
            obtain ⟨b1, b2, b3, b4⟩ := a3 k (fun i h4 h5 h6 => hk2 i (by omega) h5 h6)
            rw [b1, b2, b3, b4, pk_uLn kq]
            exact ⟨rfl, rfl, rfl, rfl⟩
        · rw [if_pos (nI_neq (by omega) (by omega) w)]
          refine skip ?_
          rw [h5, et', nI_1, nI_1]
          exact nI_neq (by omega) (by omega) (by omega)
/-- the reference: the old ones go -/
theorem old_L {N np s c t : Nat} {tg cf st sa ow0 : Nat → Int32} {gC : Nat → Int64} {gM : Nat → Int32} (hs : s < 80) (h40 : np ≤ 40) (hc : c < 4) (ht : t < 12) (et : tg s = nI t) (ec : cf s = nI c)
    (hP : ∀ i, i < np → ((¬ gC (40 * c + i) = 0 ∧ gM (40 * c + i) = nI s) ∧ ∃ z, ¬ z = -1 ∧ pf_MO_placeOf N st sa (nI s) (nI i) = some z) ∨ (¬ (¬ gC (40 * c + i) = 0 ∧ gM (40 * c + i) = nI s) ∧ pf_MO_placeOf N st sa (nI s) (nI i) = some (-1))) :
    ∀ (d q n cnt : Nat) (ow : Nat → Int32), q + d = np → d < n → (∀ i, q ≤ i → i < np → ow (40 * c + i) = ow0 (40 * c + i)) →
    ∃ ow', pf_MO_goOld_L4 N (nI np) tg cf st sa (nI s) n ow (nI cnt) (nI q) = some (nI (cnt + (List.range' q d).countP (fun i => decide (ow0 (40 * c + i) = nI t + 1 ∧ ¬ (¬ gC (40 * c + i) = 0 ∧ gM (40 * c + i) = nI s)))), ow') ∧
      (∀ i, q ≤ i → i < np → ow0 (40 * c + i) = nI t + 1 → ow' (40 * c + i) = 0) ∧ (∀ k, (∀ i, q ≤ i → i < np → k = 40 * c + i → ¬ ow0 (40 * c + i) = nI t + 1) → ow' k = ow k) := by
  intro d
  induction d with
  | zero =>
    intro q n cnt ow hq hn hz
    obtain ⟨n, rfl⟩ : ∃ k, n = k + 1 := ⟨n - 1, by omega⟩
    exact ⟨ow, by rw [pf_MO_goOld_L4.eq_2, if_pos (nI_le (by omega) (by omega))]; simp, fun i h1 h2 => absurd h2 (by omega), fun k _ => rfl⟩
  | succ d ih =>
    intro q n cnt ow hq hn hz
    obtain ⟨n, rfl⟩ : ∃ k, n = k + 1 := ⟨n - 1, by omega⟩
    have hk : 40 * c + q < 160 := by omega
    have hqn : q < np := by omega
    rw [pf_MO_goOld_L4.eq_2, if_neg (nI_ge (by omega) (by omega)), nI_clamp (by omega), ec, et, pk_mul, nI_add, nI_clamp (by omega), hz q (Nat.le_refl _) hqn, List.range'_succ, List.countP_cons, nI_1 q]
    have g1 : ∀ w : Option (Int32 × (Nat → Int32)), gz (nI s) 80 w = w := fun w => gz_nI (by omega) (by decide)
    have g2 : ∀ w : Option (Int32 × (Nat → Int32)), gz (nI (40 * c + q)) 160 w = w := fun w => gz_nI hk (by decide)
    rw [g1, g2, g1, g2, g2, show nI cnt + 0 = nI cnt from Int32.add_zero _]
    by_cases c1 : ow0 (40 * c + q) = nI t + 1
    · rw [if_pos c1]
      have hz' : ∀ i, q + 1 ≤ i → i < np → upd ow (40 * c + q) 0 (40 * c + i) = ow0 (40 * c + i) := fun i h1 h2 => by
        rw [pk_un (by omega)]
        exact hz i (by omega) h2
      have wrap : ∀ (cnt' : Nat) (ow' : Nat → Int32), (∀ i, q + 1 ≤ i → i < np → ow0 (40 * c + i) = nI t + 1 → ow' (40 * c + i) = 0) → (∀ k, (∀ i, q + 1 ≤ i → i < np → k = 40 * c + i → ¬ ow0 (40 * c + i) = nI t + 1) → ow' k = upd ow (40 * c + q) 0 k) →
          (∀ i, q ≤ i → i < np → ow0 (40 * c + i) = nI t + 1 → ow' (40 * c + i) = 0) ∧ (∀ k, (∀ i, q ≤ i → i < np → k = 40 * c + i → ¬ ow0 (40 * c + i) = nI t + 1) → ow' k = ow k) := by
        intro cnt' ow' a1 a2
        refine ⟨fun i h1 h2 h3 => ?_, fun k hk2 => ?_⟩
        · by_cases w : i = q
          · subst w
            rw [a2 _ (fun i' h4 h5 h6 => by omega), pk_us]
          · exact a1 i (by omega) h2 h3
        · rw [a2 k (fun i h4 h5 h6 => hk2 i (by omega) h5 h6), pk_un (fun w => hk2 q (Nat.le_refl _) hqn w c1)]
      rcases hP q hqn with ⟨h1, z, h2, h3⟩ | ⟨h1, h3⟩
      · rw [h3, Option.bind_some, if_pos h2]
        obtain ⟨ow', e, a1, a2⟩ := ih (q + 1) n cnt (upd ow (40 * c + q) 0) (by omega) (by omega) hz'
        exact ⟨ow', by rw [e, if_neg (by simp only [decide_eq_true_eq]; exact fun h => h.2 h1)]; rfl, wrap cnt ow' a1 a2⟩
      · rw [h3, Option.bind_some, if_neg (fun h => h rfl), nI_1 cnt]
        obtain ⟨ow', e, a1, a2⟩ := ih (q + 1) n (cnt + 1) (upd ow (40 * c + q) 0) (by omega) (by omega) hz'
        refine ⟨ow', ?_, wrap (cnt + 1) ow' a1 a2⟩
        rw [e, if_pos (by simp only [decide_eq_true_eq]; exact ⟨c1, h1⟩)]
        congr 3
        omega
    · rw [if_neg c1]
      obtain ⟨ow', e, a1, a2⟩ := ih (q + 1) n cnt ow (by omega) (by omega) (fun i h1 h2 => hz i (by omega) h2)
      refine ⟨ow', by rw [e, if_neg (by simp only [decide_eq_true_eq]; exact fun h => c1 h.1)]; rfl, fun i h1 h2 h3 => ?_, fun k hk2 => a2 k (fun i h4 h5 h6 => hk2 i (by omega) h5 h6)⟩
      by_cases w : i = q
      · subst w
        exact absurd h3 c1
      · exact a1 i (by omega) h2 h3
