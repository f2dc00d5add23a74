/-- the reference: what is staged comes -/
theorem new_L {N s c t m : Nat} {tg cf st op' sa sr sl dM : Nat → Int32} {sc gC : Nat → Int64} {gX gL : Nat → Int32} {pj : Nat → Nat} {x3 : Int32} (hs : s < 80) (hc : c < 4) (ht : t < 12) (hm : m ≤ 12) (em : st s = nI m) (et : tg s = nI t) (ec : cf s = nI c)
    (hj : ∀ j, j < m → pj j < 40 ∧ sa (12 * s + j) = nI (pj j) ∧ sc (12 * s + j) = gC (40 * c + pj j) ∧ sr (12 * s + j) = gX (40 * c + pj j) ∧ sl (12 * s + j) = gL (40 * c + pj j) ∧ (gX (40 * c + pj j) = 0 ∨ gX (40 * c + pj j) = 1) ∧ (gL (40 * c + pj j) = 0 ∨ gL (40 * c + pj j) = 1)) :
    ∀ (d j n : Nat) (ow mk : Nat → Int32) (ct : Nat → Int64) (ru th : Nat → Int32), j + d = m → d < n →
    ∃ ow' mk' ct' ru' th', pf_MO_end_L35 N tg cf st op' sa sc sr sl dM (nI s) x3 n ow mk ct ru th (nI (12 * s + j)) = some (x3, ow', mk', ct', ru', th', op', upd dM (12 * c + t) 0) ∧
      (∀ i, j ≤ i → i < m → ow' (40 * c + pj i) = nI t + 1 ∧ mk' (40 * c + pj i) = nI s ∧ ct' (40 * c + pj i) = gC (40 * c + pj i) ∧ ru' (40 * c + pj i) = gX (40 * c + pj i) ∧ (gL (40 * c + pj i) = 0 ∧ th' (40 * c + pj i) = 1 ∨ gL (40 * c + pj i) = 1 ∧ th' (40 * c + pj i) = 0)) ∧
      (∀ k, (∀ i, j ≤ i → i < m → k ≠ 40 * c + pj i) → ow' k = ow k ∧ mk' k = mk k ∧ ct' k = ct k ∧ ru' k = ru k ∧ th' k = th k) := by
  have ks : (nI s).toNatClampNeg = s := nI_clamp (by omega)
  have e1 : nI 12 * nI s + nI m = nI (12 * s + m) := by rw [pk_mul, nI_add]
  have e3 : nI 12 * nI c + nI t = nI (12 * c + t) := by rw [pk_mul, nI_add]
  have kd : (nI (12 * c + t)).toNatClampNeg = 12 * c + t := nI_clamp (by omega)
  have gs : ∀ w : Option (Int32 × (Nat → Int32) × (Nat → Int32) × (Nat → Int64) × (Nat → Int32) × (Nat → Int32) × (Nat → Int32) × (Nat → Int32)), gz (nI s) 80 w = w := fun w => gz_nI hs (by decide)
  have gd : ∀ w : Option (Int32 × (Nat → Int32) × (Nat → Int32) × (Nat → Int64) × (Nat → Int32) × (Nat → Int32) × (Nat → Int32) × (Nat → Int32)), gz (nI (12 * c + t)) 48 w = w := fun w => gz_nI (by omega) (by decide)
  intro d
  induction d with
  | zero =>
    intro j n ow mk ct ru th hjd hn
    obtain ⟨n, rfl⟩ : ∃ k, n = k + 1 := ⟨n - 1, by omega⟩
    have le : nI (12 * s + m) ≤ nI (12 * s + j) := nI_le (by omega) (by omega)
    refine ⟨ow, mk, ct, ru, th, ?_, fun i h1 h2 => absurd h2 (by omega), fun k _ => ⟨rfl, rfl, rfl, rfl, rfl⟩⟩
    rw [pf_MO_end_L35.eq_2]
    simp only [gs, gd, ks, em, et, ec, e1, e3, kd, le, if_true, nar_0]
  | succ d ih =>
    intro j n ow mk ct ru th hjd hn
    obtain ⟨n, rfl⟩ : ∃ k, n = k + 1 := ⟨n - 1, by omega⟩
    obtain ⟨p1, p2, p3, p4, p5, p6, p7⟩ := hj j (by omega)
    have nle : ¬ nI (12 * s + m) ≤ nI (12 * s + j) := nI_ge (by omega) (by omega)
    have k9 : (nI (12 * s + j)).toNatClampNeg = 12 * s + j := nI_clamp (by omega)
    have e2 : nI 40 * nI c + nI (pj j) = nI (40 * c + pj j) := by rw [pk_mul, nI_add]
    have kk : (nI (40 * c + pj j)).toNatClampNeg = 40 * c + pj j := nI_clamp (by omega)
    have g9 : ∀ w : Option (Int32 × (Nat → Int32) × (Nat → Int32) × (Nat → Int64) × (Nat → Int32) × (Nat → Int32) × (Nat → Int32) × (Nat → Int32)), gz (nI (12 * s + j)) 960 w = w := fun w => gz_nI (by omega) (by decide)
    have g16 : ∀ w : Option (Int32 × (Nat → Int32) × (Nat → Int32) × (Nat → Int64) × (Nat → Int32) × (Nat → Int32) × (Nat → Int32) × (Nat → Int32)), gz (nI (40 * c + pj j)) 160 w = w := fun w => gz_nI (by omega) (by decide)
    have fin : ∀ th0 : Int32, (gL (40 * c + pj j) = 0 ∧ th0 = 1 ∨ gL (40 * c + pj j) = 1 ∧ th0 = 0) → ∃ ow' mk' ct' ru' th', pf_MO_end_L35 N tg cf st op' sa sc sr sl dM (nI s) x3 n (upd ow (40 * c + pj j) (nI t + 1)) (upd mk (40 * c + pj j) (nI s)) (vp_updL ct (40 * c + pj j) (gC (40 * c + pj j))) (upd ru (40 * c + pj j) (gX (40 * c + pj j))) (upd th (40 * c + pj j) th0) (nI (12 * s + (j + 1))) = some (x3, ow', mk', ct', ru', th', op', upd dM (12 * c + t) 0) ∧
        (∀ i, j ≤ i → i < m → ow' (40 * c + pj i) = nI t + 1 ∧ mk' (40 * c + pj i) = nI s ∧ ct' (40 * c + pj i) = gC (40 * c + pj i) ∧ ru' (40 * c + pj i) = gX (40 * c + pj i) ∧ (gL (40 * c + pj i) = 0 ∧ th' (40 * c + pj i) = 1 ∨ gL (40 * c + pj i) = 1 ∧ th' (40 * c + pj i) = 0)) ∧
        (∀ k, (∀ i, j ≤ i → i < m → k ≠ 40 * c + pj i) → ow' k = ow k ∧ mk' k = mk k ∧ ct' k = ct k ∧ ru' k = ru k ∧ th' k = th k) := by
      intro th0 hth
      obtain ⟨ow', mk', ct', ru', th', e, a1, a2⟩ := ih (j + 1) n (upd ow (40 * c + pj j) (nI t + 1)) (upd mk (40 * c + pj j) (nI s)) (vp_updL ct (40 * c + pj j) (gC (40 * c + pj j))) (upd ru (40 * c + pj j) (gX (40 * c + pj j))) (upd th (40 * c + pj j) th0) (by omega) (by omega)
      refine ⟨ow', mk', ct', ru', th', e, fun i h1 h2 => ?_, fun k hk => ?_⟩
      · by_cases w : j + 1 ≤ i
        · exact a1 i w h2
        · obtain rfl : i = j := by omega
          by_cases w2 : ∃ i', i + 1 ≤ i' ∧ i' < m ∧ 40 * c + pj i' = 40 * c + pj i
          · obtain ⟨i', q1, q2, q3⟩ := w2
            have := a1 i' q1 q2
            rw [q3] at this
            exact this
          · obtain ⟨b1, b2, b3, b4, b5⟩ := a2 (40 * c + pj i) (fun i' q1 q2 q3 => w2 ⟨i', q1, q2, q3.symm⟩)
            rw [b1, b2, b3, b4, b5, pk_us, pk_us, pk_uLs, pk_us, pk_us]
            exact ⟨rfl, rfl, rfl, rfl, hth⟩
      · have kq := hk j (Nat.le_refl _) (by omega)
        obtain ⟨b1, b2, b3, b4, b5⟩ := a2 k (fun i' q1 q2 => hk i' (by omega) q2)
        rw [b1, b2, b3, b4, b5, pk_un kq, pk_un kq, pk_uLn kq, pk_un kq, pk_un kq]
        exact ⟨rfl, rfl, rfl, rfl, rfl⟩
    have nx : nI (12 * s + j) + 1 = nI (12 * s + (j + 1)) := nI_1 _
    rw [pf_MO_end_L35.eq_2]
    rcases p7 with w | w
    · simp only [gs, g9, g16, ks, k9, kk, em, et, ec, e1, p2, e2, nle, p3, p4, p5, w, nx, if_false, if_true, not_true_eq_false, nar_1, nar_id p6]
      exact fin 1 (Or.inl ⟨w, rfl⟩)
    · have w0 : ¬ (1 : Int32) = 0 := by decide
      simp only [gs, g9, g16, ks, k9, kk, em, et, ec, e1, p2, e2, nle, p3, p4, p5, w, w0, nx, if_false, if_true, not_false_eq_true, nar_0, nar_id p6]
      exact fin 0 (Or.inr ⟨w, rfl⟩)
theorem sim_end {N np ns : Nat} {f tg cf rn op dM : Nat → Int32} {oC : Nat → Int64} {oM oX oL ow mk : Nat → Int32} {ct : Nat → Int64} {ru th : Nat → Int32} {gC : Nat → Int64} {gM gX gL st sa : Nat → Int32} {sc : Nat → Int64} {sr sl : Nat → Int32}
    (hN : 2000 ≤ N) (h40 : np ≤ 40) (hS : iS ns tg cf rn) (hO : iO np ns tg oC oM oX oL ow mk ct ru th) (hG : iG np ns cf op gC gM gX gL st sa sc sr sl) (x w : Int32) :
    ∃ r op' oC' oM' oX' oL' g' dM' ow' mk' ct' ru' th', iO np ns tg oC' oM' oX' oL' ow' mk' ct' ru' th' ∧ iG np ns cf op' g' gM gX gL st sa sc sr sl ∧
      pf_OS_end N (nI np) tg cf op (nI ns) oC oM oX oL gC gM gX gL dM x w = some (r, op', oC', oM', oX', oL', g', dM') ∧
      pf_MO_end N (nI np) (nI ns) ow mk ct ru th tg cf st op sa sc sr sl dM x w = some (r, ow', mk', ct', ru', th', op', dM') := by
  have h80 := hS.1
  have h10 : ¬ (1 : Int32) = 0 := by decide
  unfold pf_OS_end pf_MO_end
  rcases ixN x (n := ns) (by omega) with hx | ⟨s, hs, rfl⟩
  · exact ⟨-1, op, oC, oM, oX, oL, gC, dM, ow, mk, ct, ru, th, hO, hG, by rw [SB_open_f hx, Option.bind_some, if_neg (fun h => h rfl)], by rw [MO_open_f hx, Option.bind_some, if_neg (fun h => h rfl)]⟩
  by_cases hop : op s = 0
  · exact ⟨-1, op, oC, oM, oX, oL, gC, dM, ow, mk, ct, ru, th, hO, hG, by rw [SB_open_0 hs h80 hop, Option.bind_some, if_neg (fun h => h rfl)], by rw [MO_open_0 hs h80 hop, Option.bind_some, if_neg (fun h => h rfl)]⟩
  obtain ⟨t, c, r, ht, hc, hr, et, ec, er⟩ := hS.2 s hs
  obtain ⟨m, hm, em⟩ := hG.1 s hs
  obtain ⟨g', eD, hG'⟩ := drop_sp (N := N) hN h40 h80 hG hs hop hc ec
  rw [SB_open_1 hs h80 hop, Option.bind_some, if_pos h10, MO_open_1 hs h80 hop, Option.bind_some, if_pos h10, gz_nI (by omega) (by decide), nI_clamp (by omega), nar_0, eD, Option.bind_some, SB_close_t hs h80]
  by_cases hw : w = 0
  · exact ⟨0, upd op s 0, oC, oM, oX, oL, g', dM, ow, mk, ct, ru, th, hO, hG', by rw [if_pos hw, Option.bind_some], by rw [if_neg (fun h => h hw)]⟩
  rw [if_neg hw, if_pos hw]
  have of : ∀ i, i < np → ((¬ gC (40 * c + i) = 0 ∧ gM (40 * c + i) = nI s) ↔ ∃ j, j < m ∧ sa (12 * s + j) = nI i) := fun i hi => of_iff h40 h80 hG hs hop hm em hc ec hi
  obtain ⟨oC', oM', oX', oL', eR, a1, a2, a3⟩ := rep_L (N := N) (s := s) (tg := tg) (oC0 := oC) (oM0 := oM) (ow := ow) (gC := gC) (gM := gM) (gX := gX) (gL := gL) (dM := dM) (t := t) h40 h80 hc ht
    (fun s' h => by obtain ⟨t', -, -, q1, -, -, q2, -⟩ := hS.2 s' h; exact ⟨t', q1, q2⟩)
    (fun i hi => by
      rcases hO (40 * c + i) (by omega) with h | ⟨q1, -, -, -, -, -, s', q2, q3, -, q4⟩
      · exact Or.inl h
      · exact Or.inr ⟨q1, s', q2, q3, q4⟩)
    (fun i hi h => by
      obtain ⟨s', q1, q2, q3, q4, j, m', q5, q6, q7, q8⟩ := hG.2.1 (40 * c + i) (by omega) h
      obtain ⟨c2, p2, w1, w2, w3, w4, w5, w6, w7, w8, w9, w10, w11⟩ := hG.2.2.1 s' m' q1 q3 q6 q7 j q5
      rw [q8] at w4
      have w12 := nI_inj (by omega) (by omega) w4
      rw [q4] at w3
      have w13 := nI_inj (by omega) (by omega) w3
      have w14 : 40 * c2 + p2 = 40 * c + i := by omega
      rw [w14] at w10 w11
      exact ⟨w10, w11⟩)
    np 0 N 0 oC oM oX oL (by omega) (by omega) (fun _ _ _ => ⟨rfl, rfl⟩)
  obtain ⟨ow1, eO, b1, b2⟩ := old_L (N := N) (s := s) (c := c) (t := t) (tg := tg) (cf := cf) (st := st) (sa := sa) (ow0 := ow) (gC := gC) (gM := gM) (show s < 80 by omega) h40 hc ht et ec
    (fun i hi => by
      by_cases q : ∃ j, j < m ∧ sa (12 * s + j) = nI i
      · obtain ⟨j0, hj, ej⟩ := q
        exact Or.inl ⟨(of i hi).mpr ⟨j0, hj, ej⟩, nI (12 * s + j0), z_m1 (by omega), PO_some hN (by omega) hm em hj ej (fun i' hi' hi2 => hG.2.2.2 s m hs hop hm em i' j0 hi' hj (by rw [hi2, ej]))⟩
      · exact Or.inr ⟨fun h => q ((of i hi).mp h), PO_none hN (by omega) hm em (fun i' hi' h => q ⟨i', hi', h⟩)⟩)
    np 0 N 0 ow (by omega) (by omega) (fun _ _ _ => rfl)
  have hpj : ∀ j, j < m → (sa (12 * s + j)).toNatClampNeg < np ∧ sa (12 * s + j) = nI (sa (12 * s + j)).toNatClampNeg ∧ sc (12 * s + j) = gC (40 * c + (sa (12 * s + j)).toNatClampNeg) ∧ sr (12 * s + j) = gX (40 * c + (sa (12 * s + j)).toNatClampNeg) ∧ sl (12 * s + j) = gL (40 * c + (sa (12 * s + j)).toNatClampNeg) ∧ (gX (40 * c + (sa (12 * s + j)).toNatClampNeg) = 0 ∨ gX (40 * c + (sa (12 * s + j)).toNatClampNeg) = 1) ∧ (gL (40 * c + (sa (12 * s + j)).toNatClampNeg) = 0 ∨ gL (40 * c + (sa (12 * s + j)).toNatClampNeg) = 1) := by
    intro j hj
    obtain ⟨c2, p2, w1, w2, w3, w4, w5, w6, w7, w8, w9, w10, w11⟩ := hG.2.2.1 s m hs hop hm em j hj
    rw [ec] at w3
    obtain rfl := nI_inj (by omega) (by omega) w3
    rw [w4, nI_clamp (by omega)]
    exact ⟨w2, rfl, w7, w8, w9, w10, w11⟩
  obtain ⟨ow', mk', ct', ru', th', eN, d1, d2⟩ := new_L (N := N) (s := s) (c := c) (t := t) (m := m) (tg := tg) (cf := cf) (st := st) (op' := upd op s 0) (sa := sa) (sr := sr) (sl := sl) (dM := dM) (sc := sc) (gC := gC) (gX := gX) (gL := gL) (pj := fun j => (sa (12 * s + j)).toNatClampNeg) (x3 := nI (0 + (List.range' 0 np).countP (fun i => decide (ow (40 * c + i) = nI t + 1 ∧ ¬ (¬ gC (40 * c + i) = 0 ∧ gM (40 * c + i) = nI s))))) (show s < 80 by omega) hc ht hm em et ec
    (fun j hj => by
      obtain ⟨q1, q2⟩ := hpj j hj
      exact ⟨by show (sa (12 * s + j)).toNatClampNeg < 40; omega, q2⟩)
    m 0 N ow1 mk ct ru th (by omega) (by omega)
  refine ⟨nI (0 + (List.range' 0 np).countP (fun i => decide (ow (40 * c + i) = nI t + 1 ∧ ¬ (¬ gC (40 * c + i) = 0 ∧ gM (40 * c + i) = nI s)))), upd op s 0, oC', oM', oX', oL', g', upd dM (12 * c + t) 0, ow', mk', ct', ru', th', ?_, hG', ?_, ?_⟩
  · intro k hk
    by_cases inn : ∃ i, i < np ∧ k = 40 * c + i
    · obtain ⟨i, hi, rfl⟩ := inn
      by_cases OF : ¬ gC (40 * c + i) = 0 ∧ gM (40 * c + i) = nI s
      · obtain ⟨j, hj, ej⟩ := (of i hi).mp OF
        obtain ⟨q1, q2, q3, q4⟩ := a1 i (by omega) hi OF
        have u := d1 j (by omega) hj
        obtain ⟨-, -, -, -, -, u6, -⟩ := hpj j hj
        rw [ej, nI_clamp (by omega)] at u u6
        obtain ⟨u1, u2, u3, u4, u5⟩ := u
        rw [q1, q2, q3, q4, u1, u2, u3, u4]
        exact Or.inr ⟨OF.1, by omega, rfl, rfl, u6, u5, s, hs, rfl, rfl, by rw [et]⟩
      · obtain ⟨v1, v2, v3, v4, v5⟩ := d2 (40 * c + i) (fun j _ hj h => OF ((of i hi).mpr ⟨j, hj, by
          have hq := (hpj j hj).2.1
          have hp : (sa (12 * s + j)).toNatClampNeg = i := by
            have h' : 40 * c + i = 40 * c + (sa (12 * s + j)).toNatClampNeg := h
            omega
          rw [hp] at hq
          exact hq⟩))
        by_cases mine : ow (40 * c + i) = nI t + 1
        · exact Or.inl ⟨a2 i (by omega) hi OF mine, by rw [v1]; exact b1 i (by omega) hi mine⟩
        · obtain ⟨q1, q2, q3, q4⟩ := a3 (40 * c + i) (fun i' _ h2 h3 => by
            obtain rfl : i = i' := by omega
            exact ⟨OF, mine⟩)
          rw [q1, q2, q3, q4, v1, v2, v3, v4, v5, b2 (40 * c + i) (fun i' _ h2 h3 => by
            obtain rfl : i = i' := by omega
            exact mine)]
          exact hO _ hk
    · obtain ⟨v1, v2, v3, v4, v5⟩ := d2 k (fun j _ hj h => inn ⟨_, (hpj j hj).1, h⟩)
      obtain ⟨q1, q2, q3, q4⟩ := a3 k (fun i' _ h2 h3 => absurd ⟨i', h2, h3⟩ inn)
      rw [q1, q2, q3, q4, v1, v2, v3, v4, v5, b2 k (fun i' _ h2 h3 => absurd ⟨i', h2, h3⟩ inn)]
      exact hO k hk
  · unfold pf_OS_replaceOutputs
    rw [nI_0] at eR
    rw [SB_cfg hs h80, Option.bind_some, SB_tgt hs h80, Option.bind_some, ec, et, eR]
    rfl
  · unfold pf_MO_goOld
    rw [nI_0] at eO
    rw [eO, Option.bind_some, pk_mul]
    exact eN
