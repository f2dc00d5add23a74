-- ===== staging =====
/-- in place of what the step has at that path -/
theorem iG_in {np ns : Nat} {cf op : Nat → Int32} {gC : Nat → Int64} {gM gX gL st sa : Nat → Int32} {sc : Nat → Int64} {sr sl : Nat → Int32} (h40 : np ≤ 40) (h80 : ns ≤ 80) (hG : iG np ns cf op gC gM gX gL st sa sc sr sl) {s m c p j0 : Nat} (hs : s < ns) (hop : ¬ op s = 0) (hm : m ≤ 12) (em : st s = nI m) (hc : c < 4) (ec : cf s = nI c) (hp : p < np) (hj : j0 < m) (ej : sa (12 * s + j0) = nI p) {v : Int64} (hv : ¬ v = 0) (x y : Int32) :
    iG np ns cf op (vp_updL gC (40 * c + p) v) (upd gM (40 * c + p) (nI s)) (upd gX (40 * c + p) (vp_nar .boolean x)) (upd gL (40 * c + p) (vp_nar .boolean y)) st (upd sa (12 * s + j0) (nI p)) (vp_updL sc (12 * s + j0) v) (upd sr (12 * s + j0) (vp_nar .boolean x)) (upd sl (12 * s + j0) (vp_nar .boolean y)) := by
  have esa : upd sa (12 * s + j0) (nI p) = sa := by
    funext i
    by_cases e : i = 12 * s + j0
    · subst e; rw [pk_us, ej]
    · rw [pk_un e]
  rw [esa]
  obtain ⟨g1, g2, g3, g4⟩ := hG
  refine ⟨g1, fun k hk h => ?_, fun s' m' a1 a2 a3 a4 j b1 => ?_, g4⟩
  · by_cases e : k = 40 * c + p
    · subst e
      exact ⟨s, hs, pk_us, hop, by rw [ec, show (40 * c + p) / 40 = c by omega], j0, m, hj, hm, em, by rw [ej, show (40 * c + p) % 40 = p by omega]⟩
    · rw [pk_uLn e] at h
      rw [pk_un e]
      exact g2 k hk h
  · obtain ⟨c', p', q1, q2, q3, q4, q5, q6, q7, q8, q9, q10, q11⟩ := g3 s' m' a1 a2 a3 a4 j b1
    refine ⟨c', p', q1, q2, q3, q4, ?_⟩
    by_cases e : 40 * c' + p' = 40 * c + p
    · have e1 : c' = c := by omega
      have e2 : p' = p := by omega
      subst e1 e2
      have es : s' = s := by
        obtain ⟨h1, h2⟩ : ¬ gC (40 * c' + p') = 0 ∧ gM (40 * c' + p') = nI s := by
          obtain ⟨c2, p2, w1, w2, w3, w4, w5, w6, -⟩ := g3 s m hs hop hm em j0 hj
          rw [ec] at w3
          obtain rfl := nI_inj (by omega) (by omega) w3
          rw [ej] at w4
          obtain rfl := nI_inj (by omega) (by omega) w4
          exact ⟨w5, w6⟩
        rw [q6] at h2
        exact nI_inj (by omega) (by omega) h2
      subst es
      have em' : m' = m := by
        rw [em] at a4
        exact (nI_inj (by omega) (by omega) a4).symm
      subst em'
      have ejj : j = j0 := g4 s' m' hs hop hm em j j0 b1 hj (by rw [q4, ej])
      subst ejj
      rw [pk_uLs, pk_us, pk_us, pk_us, pk_uLs, pk_us, pk_us]
      exact ⟨hv, rfl, rfl, rfl, rfl, nar_01 x, nar_01 y⟩
    · have ne : 12 * s' + j ≠ 12 * s + j0 := by
        intro w
        have w1 : s' = s := by omega
        have w2 : j = j0 := by omega
        subst w1 w2
        rw [ej] at q4
        have w3 := nI_inj (by omega) (by omega) q4
        rw [ec] at q3
        have w4 := nI_inj (by omega) (by omega) q3
        omega
      rw [pk_uLn e, pk_un e, pk_un e, pk_un e, pk_uLn ne, pk_un ne, pk_un ne]
      exact ⟨q5, q6, q7, q8, q9, q10, q11⟩
/-- a new one -/
theorem iG_new {np ns : Nat} {cf op : Nat → Int32} {gC : Nat → Int64} {gM gX gL st sa : Nat → Int32} {sc : Nat → Int64} {sr sl : Nat → Int32} (h40 : np ≤ 40) (h80 : ns ≤ 80) (hG : iG np ns cf op gC gM gX gL st sa sc sr sl) {s m c p : Nat} (hs : s < ns) (hop : ¬ op s = 0) (hm : m < 12) (em : st s = nI m) (hc : c < 4) (ec : cf s = nI c) (hp : p < np) (h0 : gC (40 * c + p) = 0) {v : Int64} (hv : ¬ v = 0) (x y : Int32) :
    iG np ns cf op (vp_updL gC (40 * c + p) v) (upd gM (40 * c + p) (nI s)) (upd gX (40 * c + p) (vp_nar .boolean x)) (upd gL (40 * c + p) (vp_nar .boolean y)) (upd st s (nI (m + 1))) (upd sa (12 * s + m) (nI p)) (vp_updL sc (12 * s + m) v) (upd sr (12 * s + m) (vp_nar .boolean x)) (upd sl (12 * s + m) (vp_nar .boolean y)) := by
  obtain ⟨g1, g2, g3, g4⟩ := hG
  refine ⟨fun s' h => ?_, fun k hk h => ?_, fun s' m' a1 a2 a3 a4 j b1 => ?_, fun s' m' a1 a2 a3 a4 i j b1 b2 b3 => ?_⟩
  · by_cases e : s' = s
    · subst e
      exact ⟨m + 1, by omega, pk_us⟩
    · rw [pk_un e]
      exact g1 s' h
  · by_cases e : k = 40 * c + p
    · subst e
      exact ⟨s, hs, pk_us, hop, by rw [ec, show (40 * c + p) / 40 = c by omega], m, m + 1, by omega, by omega, pk_us, by rw [pk_us, show (40 * c + p) % 40 = p by omega]⟩
    · rw [pk_uLn e] at h
      rw [pk_un e]
      obtain ⟨s', q1, q2, q3, q4, j, m', q5, q6, q7, q8⟩ := g2 k hk h
      by_cases w : s' = s
      · subst w
        rw [em] at q7
        obtain rfl := nI_inj (by omega) (by omega) q7
        exact ⟨s', q1, q2, q3, q4, j, m + 1, by omega, by omega, pk_us, by rw [pk_un (by omega)]; exact q8⟩
      · exact ⟨s', q1, q2, q3, q4, j, m', q5, q6, by rw [pk_un w]; exact q7, by rw [pk_un (by omega)]; exact q8⟩
  · by_cases w : s' = s
    · subst w
      rw [pk_us] at a4
      obtain rfl := nI_inj (by omega) (by omega) a4
      by_cases w2 : j = m
      · subst w2
        refine ⟨c, p, hc, hp, ec, pk_us, ?_⟩
        rw [pk_uLs, pk_us, pk_us, pk_us, pk_uLs, pk_us, pk_us]
        exact ⟨hv, rfl, rfl, rfl, rfl, nar_01 x, nar_01 y⟩
      · obtain ⟨c', p', q1, q2, q3, q4, q5, q6, q7, q8, q9, q10, q11⟩ := g3 s' m hs hop (by omega) em j (by omega)
        have ne : 40 * c' + p' ≠ 40 * c + p := fun z => q5 (by rw [z]; exact h0)
        have nj : 12 * s' + j ≠ 12 * s' + m := by omega
        refine ⟨c', p', q1, q2, q3, by rw [pk_un nj]; exact q4, ?_⟩
        rw [pk_uLn ne, pk_un ne, pk_un ne, pk_un ne, pk_uLn nj, pk_un nj, pk_un nj]
        exact ⟨q5, q6, q7, q8, q9, q10, q11⟩
    · rw [pk_un w] at a4
      obtain ⟨c', p', q1, q2, q3, q4, q5, q6, q7, q8, q9, q10, q11⟩ := g3 s' m' a1 a2 a3 a4 j b1
      have ne : 40 * c' + p' ≠ 40 * c + p := fun z => q5 (by rw [z]; exact h0)
      have nj : 12 * s' + j ≠ 12 * s + m := by omega
      refine ⟨c', p', q1, q2, q3, by rw [pk_un nj]; exact q4, ?_⟩
      rw [pk_uLn ne, pk_un ne, pk_un ne, pk_un ne, pk_uLn nj, pk_un nj, pk_un nj]
      exact ⟨q5, q6, q7, q8, q9, q10, q11⟩
  · by_cases w : s' = s
    · subst w
      rw [pk_us] at a4
      obtain rfl := nI_inj (by omega) (by omega) a4
      have other : ∀ i, i < m → ¬ sa (12 * s' + i) = nI p := by
        intro i hi z
        obtain ⟨c', p', q1, q2, q3, q4, q5, -⟩ := g3 s' m hs hop (by omega) em i hi
        rw [z] at q4
        obtain rfl := nI_inj (by omega) (by omega) q4
        rw [ec] at q3
        obtain rfl := nI_inj (by omega) (by omega) q3
        exact q5 h0
      by_cases wi : i = m
      · by_cases wj : j = m
        · omega
        · rw [wi, pk_us, pk_un (by omega)] at b3
          exact absurd b3.symm (other j (by omega))
      · by_cases wj : j = m
        · rw [wj, pk_us, pk_un (by omega)] at b3
          exact absurd b3 (other i (by omega))
        · rw [pk_un (by omega), pk_un (by omega)] at b3
          exact g4 s' m hs hop (by omega) em i j (by omega) (by omega) b3
    · rw [pk_un w] at a4
      rw [pk_un (by omega), pk_un (by omega)] at b3
      exact g4 s' m' a1 a2 a3 a4 i j b1 b2 b3
theorem sim_stage {N np ns nc : Nat} {f tg cf rn op : Nat → Int32} {oC cC : Nat → Int64} {oM oX oL ow mk : Nat → Int32} {ct : Nat → Int64} {ru th : Nat → Int32} {gC : Nat → Int64} {gM gX gL st sa : Nat → Int32} {sc : Nat → Int64} {sr sl : Nat → Int32}
    (hN : 2000 ≤ N) (hT : wfT np f) (h60 : nc ≤ 60) (hS : iS ns tg cf rn) (hO : iO np ns tg oC oM oX oL ow mk ct ru th) (hG : iG np ns cf op gC gM gX gL st sa sc sr sl) (a1 a2 : Int32) (v : Int64) (x y : Int32) :
    ∃ r gC' gM' gX' gL' st' sa' sc' sr' sl', iG np ns cf op gC' gM' gX' gL' st' sa' sc' sr' sl' ∧
      pf_OS_stage N f (nI np) tg cf op (nI ns) oC oM gC gM gX gL cC (nI nc) a1 a2 v x y = some (r, gC', gM', gX', gL') ∧
      pf_MO_stage N (nI np) (nI ns) (nI nc) f ow tg cf st op sa sc sr sl cC a1 a2 v x y = some (r, st', sa', sc', sr', sl') := by
  have h40 := hT.1
  have h80 := hS.1
  have h10 : ¬ (1 : Int32) = 0 := by decide
  have none : ∀ r, pf_OS_stage N f (nI np) tg cf op (nI ns) oC oM gC gM gX gL cC (nI nc) a1 a2 v x y = some (r, gC, gM, gX, gL) → pf_MO_stage N (nI np) (nI ns) (nI nc) f ow tg cf st op sa sc sr sl cC a1 a2 v x y = some (r, st, sa, sc, sr, sl) →
      ∃ r gC' gM' gX' gL' st' sa' sc' sr' sl', iG np ns cf op gC' gM' gX' gL' st' sa' sc' sr' sl' ∧
      pf_OS_stage N f (nI np) tg cf op (nI ns) oC oM gC gM gX gL cC (nI nc) a1 a2 v x y = some (r, gC', gM', gX', gL') ∧
      pf_MO_stage N (nI np) (nI ns) (nI nc) f ow tg cf st op sa sc sr sl cC a1 a2 v x y = some (r, st', sa', sc', sr', sl') := fun r h1 h2 => ⟨r, gC, gM, gX, gL, st, sa, sc, sr, sl, hG, h1, h2⟩
  rcases ixN a1 (n := ns) (by omega) with hx | ⟨s, hs, rfl⟩
  · refine none (-1) ?_ ?_
    · unfold pf_OS_stage
      rw [SB_open_f hx, Option.bind_some, if_pos rfl]
    · unfold pf_MO_stage
      rw [MO_open_f hx, Option.bind_some, if_pos rfl]
  by_cases hop : op s = 0
  · refine none (-1) ?_ ?_
    · unfold pf_OS_stage
      rw [SB_open_0 hs h80 hop, Option.bind_some, if_pos rfl]
    · unfold pf_MO_stage
      rw [MO_open_0 hs h80 hop, Option.bind_some, if_pos rfl]
  rcases ixN a2 (n := np) (by omega) with hx | ⟨p, hp, rfl⟩
  · refine none (-1) ?_ ?_
    · unfold pf_OS_stage
      rw [SB_open_1 hs h80 hop, Option.bind_some, if_neg h10, PT_has_f hx, Option.bind_some, if_pos rfl]
    · unfold pf_MO_stage
      rw [MO_open_1 hs h80 hop, Option.bind_some, if_neg h10, MO_isPath_f hx, Option.bind_some, if_pos rfl]
  by_cases hv : v = 0
  · refine none (-1) ?_ ?_
    · unfold pf_OS_stage
      rw [SB_open_1 hs h80 hop, Option.bind_some, if_neg h10, PT_has_t hp (by omega), Option.bind_some, if_neg h10, if_neg (fun h => h (cmp_0 hv))]
    · unfold pf_MO_stage
      rw [MO_open_1 hs h80 hop, Option.bind_some, if_neg h10, MO_isPath_t hp (by omega), Option.bind_some, if_neg h10, if_neg (fun h => h (cmp_0 hv))]
  obtain ⟨t, c, r, ht, hc, hr, et, ec, er⟩ := hS.2 s hs
  obtain ⟨m, hm, em⟩ := hG.1 s hs
  have hk : 40 * c + p < 160 := by omega
  obtain ⟨ra, rb, eA, eB, eR, hfree⟩ := Ref_sp (N := N) hN hT hS hO hG hs hop hc ec hp
  have eput : ∀ (xx yy : Int32), pf_LT_put N gC gM gX gL (nI (40 * c + p)) (nI s) v xx yy = some (vp_updL gC (40 * c + p) v, upd gM (40 * c + p) (nI s), upd gX (40 * c + p) (vp_nar .boolean xx), upd gL (40 * c + p) (vp_nar .boolean yy)) := fun xx yy => LT_put_k hk
  have c1 := SB_open_1 (N := N) hs h80 hop
  have c2 := PT_has_t (N := N) hp (show np < 2 ^ 31 by omega)
  have c3 := cmp_n hv
  have c4 : pf_SB_configurationOf N cf (nI ns) (nI s) = some (nI c) := by rw [SB_cfg hs h80, ec]
  have c5 := OS_slot_t (N := N) hp hc h40
  have m1 := MO_open_1 (N := N) hs h80 hop
  have m2 := MO_isPath_t (N := N) hp (show np < 2 ^ 31 by omega)
  have of := of_iff h40 h80 hG hs hop hm em hc ec hp
  have hnotR : (ra || rb) = true → ∀ b : Int32, (bi (ra || rb) = 0) = False := fun h b => by rw [h]; simp [bi]
  by_cases OF : ∃ j, j < m ∧ sa (12 * s + j) = nI p
  · obtain ⟨h1, h2⟩ := of.mpr OF
    obtain ⟨j0, hj, ej⟩ := OF
    have c6 := LT_isOf_1 (N := N) hk h1 h2
    have m4 := PO_some (N := N) (p := p) hN (show s < 80 by omega) hm em hj ej (fun i hi hi2 => hG.2.2.2 s m hs hop hm em i j0 hi hj (by rw [hi2, ej]))
    have nm1 : ¬ nI (12 * s + j0) = -1 := z_m1 (by omega)
    by_cases hR : (ra || rb) = true
    · refine none (-2) ?_ ?_
      · unfold pf_OS_stage
        simp only [c1, c2, c3, c4, c5, c6, eR, hR, bi_t, h10, Option.bind_some, if_false, if_true, not_false_eq_true]
      · unfold pf_MO_stage
        cases ra
        · cases rb
          · cases hR
          · simp only [m1, m2, c3, m4, eA, eB, bi_t, bi_f, nm1, h10, Option.bind_some, if_false, if_true, not_false_eq_true, not_true_eq_false]
        · simp only [m1, m2, c3, m4, eA, eB, bi_t, bi_f, nm1, h10, Option.bind_some, if_false, if_true, not_false_eq_true, not_true_eq_false]
    · have hra : ra = false := by cases ra <;> simp_all
      have hrb : rb = false := by cases rb <;> simp_all
      subst hra hrb
      have good := iG_in h40 h80 hG hs hop hm em hc ec hp hj ej hv x y
      have g9 : ∀ w : Option (Int32 × (Nat → Int32) × (Nat → Int32) × (Nat → Int64) × (Nat → Int32) × (Nat → Int32)), gz (nI (12 * s + j0)) 960 w = w := fun w => gz_nI (by omega) (by decide)
      have kcl : (nI (12 * s + j0)).toNatClampNeg = 12 * s + j0 := nI_clamp (by omega)
      by_cases hy : y = 0
      · refine ⟨1, _, _, _, _, _, _, _, _, _, good, ?_, ?_⟩
        · unfold pf_OS_stage
          simp only [c1, c2, c3, c4, c5, c6, eR, Bool.or_self, bi_f, hy, h10, eput, Option.bind_some, if_false, if_true, not_false_eq_true]
        · unfold pf_MO_stage
          simp only [m1, m2, c3, m4, eA, eB, bi_f, nm1, hy, h10, g9, kcl, Option.bind_some, if_false, if_true, not_false_eq_true, not_true_eq_false]
      · rcases CS_has_sp (N := N) (f := cC) (v := v) hN h60 with ⟨he, hh⟩ | ⟨hl, hh⟩
        · have m7 := MO_isC_t hN h60 he
          refine ⟨1, _, _, _, _, _, _, _, _, _, good, ?_, ?_⟩
          · unfold pf_OS_stage
            simp only [c1, c2, c3, c4, c5, c6, eR, Bool.or_self, bi_f, hy, hh, h10, eput, Option.bind_some, if_false, if_true, not_false_eq_true]
          · unfold pf_MO_stage
            simp only [m1, m2, c3, m4, m7, eA, eB, bi_f, nm1, hy, h10, g9, kcl, Option.bind_some, if_false, if_true, not_false_eq_true, not_true_eq_false]
        · have m7 := MO_isC_f hN h60 hl
          refine none (-3) ?_ ?_
          · unfold pf_OS_stage
            simp only [c1, c2, c3, c4, c5, c6, eR, Bool.or_self, bi_f, hy, hh, h10, eput, Option.bind_some, if_false, if_true, not_false_eq_true, not_true_eq_false]
          · unfold pf_MO_stage
            simp only [m1, m2, c3, m4, m7, eA, eB, bi_f, nm1, hy, h10, Option.bind_some, if_false, if_true, not_false_eq_true, not_true_eq_false]
  · have nOF : ¬ (¬ gC (40 * c + p) = 0 ∧ gM (40 * c + p) = nI s) := fun h => OF (of.mp h)
    have c6 : pf_LT_isOfStep N gC gM (nI (40 * c + p)) (nI s) = some 0 := LT_isOf_0 hk (by
      by_cases w : gC (40 * c + p) = 0
      · exact Or.inl w
      · exact Or.inr (fun w2 => nOF ⟨w, w2⟩))
    have c8 := OS_cnt (N := N) hN h40 h80 hG hs hop hm em hc ec
    have m4 := PO_none (N := N) (p := p) hN (show s < 80 by omega) hm em (fun i hi h => OF ⟨i, hi, h⟩)
    have g8 : ∀ w : Option (Int32 × (Nat → Int32) × (Nat → Int32) × (Nat → Int64) × (Nat → Int32) × (Nat → Int32)), gz (nI s) 80 w = w := fun w => gz_nI (by omega) (by decide)
    have ks : (nI s).toNatClampNeg = s := nI_clamp (by omega)
    by_cases h12 : m = 12
    · subst h12
      have lt : ¬ nI 12 < nI 12 := nI_nlt (Nat.le_refl _) (by decide)
      refine none (-1) ?_ ?_
      · unfold pf_OS_stage
        simp only [c1, c2, c3, c4, c5, c6, c8, lt, h10, Option.bind_some, if_false, if_true, not_false_eq_true, not_true_eq_false]
      · unfold pf_MO_stage
        simp only [m1, m2, c3, m4, g8, ks, em, h10, Option.bind_some, if_false, if_true, not_false_eq_true, not_true_eq_false]
    have lt : nI m < nI 12 := nI_lt (by omega) (by decide)
    have ne12 : ¬ nI m = nI 12 := nI_neq (by omega) (by decide) h12
    by_cases hR : (ra || rb) = true
    · refine none (-2) ?_ ?_
      · unfold pf_OS_stage
        simp only [c1, c2, c3, c4, c5, c6, c8, lt, eR, hR, bi_t, h10, Option.bind_some, if_false, if_true, not_false_eq_true, not_true_eq_false]
      · unfold pf_MO_stage
        cases ra
        · cases rb
          · cases hR
          · simp only [m1, m2, c3, m4, g8, ks, em, ne12, eA, eB, bi_t, bi_f, h10, Option.bind_some, if_false, if_true, not_false_eq_true, not_true_eq_false]
        · simp only [m1, m2, c3, m4, g8, ks, em, ne12, eA, eB, bi_t, bi_f, h10, Option.bind_some, if_false, if_true, not_false_eq_true, not_true_eq_false]
    · have hra : ra = false := by cases ra <;> simp_all
      have hrb : rb = false := by cases rb <;> simp_all
      subst hra hrb
      have h0 : gC (40 * c + p) = 0 := by
        rcases hfree rfl with w | w
        · exact w
        · by_cases w2 : gC (40 * c + p) = 0
          · exact w2
          · exact absurd ⟨w2, w⟩ nOF
      have good := iG_new h40 h80 hG hs hop (show m < 12 by omega) em hc ec hp h0 hv x y
      have at_ : nI 12 * nI s + nI m = nI (12 * s + m) := by rw [pk_mul, nI_add]
      have g9 : ∀ w : Option (Int32 × (Nat → Int32) × (Nat → Int32) × (Nat → Int64) × (Nat → Int32) × (Nat → Int32)), gz (nI (12 * s + m)) 960 w = w := fun w => gz_nI (by omega) (by decide)
      have kcl : (nI (12 * s + m)).toNatClampNeg = 12 * s + m := nI_clamp (by omega)
      by_cases hy : y = 0
      · refine ⟨1, _, _, _, _, _, _, _, _, _, good, ?_, ?_⟩
        · unfold pf_OS_stage
          simp only [c1, c2, c3, c4, c5, c6, c8, lt, eR, Bool.or_self, bi_f, hy, h10, eput, Option.bind_some, if_false, if_true, not_false_eq_true, not_true_eq_false]
        · unfold pf_MO_stage
          simp only [m1, m2, c3, m4, g8, ks, em, ne12, eA, eB, bi_f, hy, h10, at_, g9, kcl, nI_1, Option.bind_some, if_false, if_true, not_false_eq_true, not_true_eq_false]
      · rcases CS_has_sp (N := N) (f := cC) (v := v) hN h60 with ⟨he, hh⟩ | ⟨hl, hh⟩
        · have m7 := MO_isC_t hN h60 he
          refine ⟨1, _, _, _, _, _, _, _, _, _, good, ?_, ?_⟩
          · unfold pf_OS_stage
            simp only [c1, c2, c3, c4, c5, c6, c8, lt, eR, Bool.or_self, bi_f, hy, hh, h10, eput, Option.bind_some, if_false, if_true, not_false_eq_true, not_true_eq_false]
          · unfold pf_MO_stage
            simp only [m1, m2, c3, m4, m7, g8, ks, em, ne12, eA, eB, bi_f, hy, h10, at_, g9, kcl, nI_1, Option.bind_some, if_false, if_true, not_false_eq_true, not_true_eq_false]
        · have m7 := MO_isC_f hN h60 hl
          refine none (-3) ?_ ?_
          · unfold pf_OS_stage
            simp only [c1, c2, c3, c4, c5, c6, c8, lt, eR, Bool.or_self, bi_f, hy, hh, h10, eput, Option.bind_some, if_false, if_true, not_false_eq_true, not_true_eq_false]
          · unfold pf_MO_stage
            simp only [m1, m2, c3, m4, m7, g8, ks, em, ne12, eA, eB, bi_f, hy, h10, Option.bind_some, if_false, if_true, not_false_eq_true, not_true_eq_false]
