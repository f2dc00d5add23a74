-- ===== the states stay tied =====
theorem iO_np {np np' ns : Nat} {tg : Nat → Int32} {oC : Nat → Int64} {oM oX oL ow mk : Nat → Int32} {ct : Nat → Int64} {ru th : Nat → Int32} (h : np ≤ np') (hO : iO np ns tg oC oM oX oL ow mk ct ru th) : iO np' ns tg oC oM oX oL ow mk ct ru th := by
  intro k hk
  rcases hO k hk with q | ⟨q1, q2, q3⟩
  · exact Or.inl q
  · exact Or.inr ⟨q1, by omega, q3⟩
theorem iO_ns {np ns : Nat} {tg : Nat → Int32} {oC : Nat → Int64} {oM oX oL ow mk : Nat → Int32} {ct : Nat → Int64} {ru th : Nat → Int32} {x : Int32} (hO : iO np ns tg oC oM oX oL ow mk ct ru th) : iO np (ns + 1) (upd tg ns x) oC oM oX oL ow mk ct ru th := by
  intro k hk
  rcases hO k hk with q | ⟨q1, q2, q3, q4, q5, q6, s, q7, q8, q9, q10⟩
  · exact Or.inl q
  · exact Or.inr ⟨q1, q2, q3, q4, q5, q6, s, by omega, q8, q9, by rw [pk_un (by omega)]; exact q10⟩
theorem iG_np {np np' ns : Nat} {cf op : Nat → Int32} {gC : Nat → Int64} {gM gX gL st sa : Nat → Int32} {sc : Nat → Int64} {sr sl : Nat → Int32} (h : np ≤ np') (hG : iG np ns cf op gC gM gX gL st sa sc sr sl) : iG np' ns cf op gC gM gX gL st sa sc sr sl := by
  obtain ⟨g1, g2, g3, g4⟩ := hG
  refine ⟨g1, g2, fun s m a1 a2 a3 a4 j a5 => ?_, g4⟩
  obtain ⟨c, p, q1, q2, q3⟩ := g3 s m a1 a2 a3 a4 j a5
  exact ⟨c, p, q1, by omega, q3⟩
theorem iG_ns {np ns : Nat} {cf op : Nat → Int32} {gC : Nat → Int64} {gM gX gL st sa : Nat → Int32} {sc : Nat → Int64} {sr sl : Nat → Int32} {y : Int32} (hG : iG np ns cf op gC gM gX gL st sa sc sr sl) : iG np (ns + 1) (upd cf ns y) (upd op ns 1) gC gM gX gL (upd st ns 0) sa sc sr sl := by
  obtain ⟨g1, g2, g3, g4⟩ := hG
  have none : ∀ m, m ≤ 12 → upd st ns 0 ns = nI m → m = 0 := fun m hm h => by
    rw [pk_us, ← nI_0] at h
    exact (nI_inj (by omega) (by omega) h).symm
  refine ⟨fun s h => ?_, fun k hk h => ?_, fun s m a1 a2 a3 a4 j a5 => ?_, fun s m a1 a2 a3 a4 i j b1 b2 b3 => ?_⟩
  · by_cases e : s = ns
    · subst e
      exact ⟨0, by omega, by rw [pk_us, nI_0]⟩
    · rw [pk_un e]
      exact g1 s (by omega)
  · obtain ⟨s, q1, q2, q3, q4, j, m, q5, q6, q7, q8⟩ := g2 k hk h
    have e : s ≠ ns := by omega
    exact ⟨s, by omega, q2, by rw [pk_un e]; exact q3, by rw [pk_un e]; exact q4, j, m, q5, q6, by rw [pk_un e]; exact q7, q8⟩
  · by_cases e : s = ns
    · subst e
      have := none m a3 a4
      omega
    · rw [pk_un e] at a2 a4
      rw [pk_un e]
      exact g3 s m (by omega) a2 a3 a4 j a5
  · by_cases e : s = ns
    · subst e
      have := none m a3 a4
      omega
    · rw [pk_un e] at a2 a4
      exact g4 s m (by omega) a2 a3 a4 i j b1 b2 b3
set_option maxHeartbeats 16000000 in
set_option maxRecDepth 100000 in
theorem law_sim {N L : Nat} {xs : Nat → Int32} (hN : 2000 ≤ N) (hL : L ≤ 3584) : ∀ (n i np ns nc nh : Nat) (f tg cf rn op oM oX oL gM gX gL dM ow mk ru th st sa sr sl : Nat → Int32) (oC gC cC hC df ct sc row : Nat → Int64) (met : Int32), i ≤ L → L < i + n → wfT np f → iS ns tg cf rn → nc ≤ 60 → nh ≤ 100 → iO np ns tg oC oM oX oL ow mk ct ru th → iG np ns cf op gC gM gX gL st sa sc sr sl →
    pf_law N L xs n f (nI np) tg cf rn op (nI ns) oC oM oX oL gC gM gX gL cC (nI nc) hC (nI nh) dM df (nI np) (nI ns) (nI nc) (nI nh) f ow mk ct ru th tg cf rn st op sa sc sr sl dM cC hC met row (nI i) = some 1 := by
  intro n
  induction n with
  | zero =>
    intro i np ns nc nh f tg cf rn op oM oX oL gM gX gL dM ow mk ru th st sa sr sl oC gC cC hC df ct sc row met h1 h2
    exact absurd h2 (by omega)
  | succ n ih =>
    intro i np ns nc nh f tg cf rn op oM oX oL gM gX gL dM ow mk ru th st sa sr sl oC gC cC hC df ct sc row met h1 h2 hT hS h60 h100 hO hG
    have h40 := hT.1
    have hS' : ns ≤ 80 ∧ ∀ s, s < ns → ∃ t, t < 12 ∧ tg s = nI t := ⟨hS.1, fun s h => by obtain ⟨t, -, -, q1, -, -, q2, -⟩ := hS.2 s h; exact ⟨t, q1, q2⟩⟩
    have hx : (Int32.ofNat L - nI 7 < nI i) ↔ (L : Int) - (7 : Nat) < i := by
      show nI L - nI 7 < nI i ↔ _
      rw [Int32.lt_iff_toInt_lt, pk_sub_toInt (by omega) (by omega), nI_toInt (by omega)]
    rw [pf_law.eq_2]
    by_cases hc : i + 7 ≤ L
    · have g0 : ∀ w : Option Int32, gz (nI i) L w = w := fun w => gz_nI (by omega) (by omega)
      have g1 : ∀ w : Option Int32, gz (nI i + 1) L w = w := fun w => by rw [nI_1]; exact gz_nI (by omega) (by omega)
      have g2 : ∀ w : Option Int32, gz (nI i + nI 2) L w = w := fun w => by rw [nI_add]; exact gz_nI (by omega) (by omega)
      have g3 : ∀ w : Option Int32, gz (nI i + nI 3) L w = w := fun w => by rw [nI_add]; exact gz_nI (by omega) (by omega)
      have g4 : ∀ w : Option Int32, gz (nI i + nI 4) L w = w := fun w => by rw [nI_add]; exact gz_nI (by omega) (by omega)
      have g5 : ∀ w : Option Int32, gz (nI i + nI 5) L w = w := fun w => by rw [nI_add]; exact gz_nI (by omega) (by omega)
      have g6 : ∀ w : Option Int32, gz (nI i + nI 6) L w = w := fun w => by rw [nI_add]; exact gz_nI (by omega) (by omega)
      have e7 : nI i + nI 7 = nI (i + 7) := nI_add i 7
      rw [if_neg (by rw [hx]; omega), g0]
      by_cases h0 : (xs (nI i).toNatClampNeg &&& nI 15) = 0
      · rw [if_pos h0]
        obtain ⟨r, f', np', a1, a2, e1, e2⟩ := sim_path (N := N) hT (xs (nI i + 1).toNatClampNeg)
        simp only [g1, e1, e2, Option.bind_some, if_true, e7]
        exact ih (i + 7) _ _ _ _ _ _ _ _ _ _ _ _ _ _ _ _ _ _ _ _ _ _ _ _ _ _ _ _ _ _ _ _ _ (by omega) (by omega) a2 hS h60 h100 (iO_np a1 hO) (iG_np a1 hG)
      rw [if_neg h0]
      by_cases h1 : (xs (nI i).toNatClampNeg &&& nI 15) = 1
      · rw [if_pos h1]
        rcases sim_begin (N := N) (st := st) (op := op) hN hS (xs (nI i + 1).toNatClampNeg) (xs (nI i + nI 2).toNatClampNeg) (xs (nI i + nI 3).toNatClampNeg) with ⟨r, e1, e2⟩ | ⟨a1, r, e1, e2⟩
        · simp only [g1, g2, g3, e1, e2, Option.bind_some, if_true, e7]
          exact ih (i + 7) _ _ _ _ _ _ _ _ _ _ _ _ _ _ _ _ _ _ _ _ _ _ _ _ _ _ _ _ _ _ _ _ _ (by omega) (by omega) hT hS h60 h100 hO hG
        · simp only [g1, g2, g3, e1, e2, Option.bind_some, if_true, e7]
          exact ih (i + 7) _ _ _ _ _ _ _ _ _ _ _ _ _ _ _ _ _ _ _ _ _ _ _ _ _ _ _ _ _ _ _ _ _ (by omega) (by omega) hT a1 h60 h100 (iO_ns hO) (iG_ns hG)
      rw [if_neg h1]
      by_cases h2 : (xs (nI i).toNatClampNeg &&& nI 15) = 2
      · rw [if_pos h2]
        simp only [g1, g2, g3, g4, g5, g6]
        by_cases w5 : (xs (nI i + nI 5).toNatClampNeg) = 0
        · rw [if_pos w5]
          by_cases w6 : (xs (nI i + nI 6).toNatClampNeg) = 0
          · rw [if_pos w6]
            obtain ⟨r, gC', gM', gX', gL', st', sa', sc', sr', sl', a1, e1, e2⟩ := sim_stage (N := N) (cC := cC) hN hT h60 hS hO hG (xs (nI i + 1).toNatClampNeg) (xs (nI i + nI 2).toNatClampNeg) (((xs (nI i + nI 3).toNatClampNeg).toInt64 <<< ((nI 32).toInt64 &&& 63)) ||| ((xs (nI i + nI 4).toNatClampNeg).toInt64 &&& (4294967295 : Int64))) 0 0
            simp only [e1, e2, Option.bind_some, if_true, e7]
            exact ih (i + 7) _ _ _ _ _ _ _ _ _ _ _ _ _ _ _ _ _ _ _ _ _ _ _ _ _ _ _ _ _ _ _ _ _ (by omega) (by omega) hT hS h60 h100 hO a1
          · rw [if_neg w6]
            obtain ⟨r, gC', gM', gX', gL', st', sa', sc', sr', sl', a1, e1, e2⟩ := sim_stage (N := N) (cC := cC) hN hT h60 hS hO hG (xs (nI i + 1).toNatClampNeg) (xs (nI i + nI 2).toNatClampNeg) (((xs (nI i + nI 3).toNatClampNeg).toInt64 <<< ((nI 32).toInt64 &&& 63)) ||| ((xs (nI i + nI 4).toNatClampNeg).toInt64 &&& (4294967295 : Int64))) 0 1
            simp only [e1, e2, Option.bind_some, if_true, e7]
            exact ih (i + 7) _ _ _ _ _ _ _ _ _ _ _ _ _ _ _ _ _ _ _ _ _ _ _ _ _ _ _ _ _ _ _ _ _ (by omega) (by omega) hT hS h60 h100 hO a1
        · rw [if_neg w5]
          by_cases w6 : (xs (nI i + nI 6).toNatClampNeg) = 0
          · rw [if_pos w6]
            obtain ⟨r, gC', gM', gX', gL', st', sa', sc', sr', sl', a1, e1, e2⟩ := sim_stage (N := N) (cC := cC) hN hT h60 hS hO hG (xs (nI i + 1).toNatClampNeg) (xs (nI i + nI 2).toNatClampNeg) (((xs (nI i + nI 3).toNatClampNeg).toInt64 <<< ((nI 32).toInt64 &&& 63)) ||| ((xs (nI i + nI 4).toNatClampNeg).toInt64 &&& (4294967295 : Int64))) 1 0
            simp only [e1, e2, Option.bind_some, if_true, e7]
            exact ih (i + 7) _ _ _ _ _ _ _ _ _ _ _ _ _ _ _ _ _ _ _ _ _ _ _ _ _ _ _ _ _ _ _ _ _ (by omega) (by omega) hT hS h60 h100 hO a1
          · rw [if_neg w6]
            obtain ⟨r, gC', gM', gX', gL', st', sa', sc', sr', sl', a1, e1, e2⟩ := sim_stage (N := N) (cC := cC) hN hT h60 hS hO hG (xs (nI i + 1).toNatClampNeg) (xs (nI i + nI 2).toNatClampNeg) (((xs (nI i + nI 3).toNatClampNeg).toInt64 <<< ((nI 32).toInt64 &&& 63)) ||| ((xs (nI i + nI 4).toNatClampNeg).toInt64 &&& (4294967295 : Int64))) 1 1
            simp only [e1, e2, Option.bind_some, if_true, e7]
            exact ih (i + 7) _ _ _ _ _ _ _ _ _ _ _ _ _ _ _ _ _ _ _ _ _ _ _ _ _ _ _ _ _ _ _ _ _ (by omega) (by omega) hT hS h60 h100 hO a1
      rw [if_neg h2]
      by_cases h3 : (xs (nI i).toNatClampNeg &&& nI 15) = 3
      · rw [if_pos h3]
        simp only [g1, g2]
        by_cases w2 : (xs (nI i + nI 2).toNatClampNeg) = 0
        · rw [if_pos w2]
          obtain ⟨r, op', oC', oM', oX', oL', g', dM', ow', mk', ct', ru', th', a1, a2, e1, e2⟩ := sim_end (N := N) (f := f) (dM := dM) hN h40 hS hO hG (xs (nI i + 1).toNatClampNeg) 0
          simp only [e1, e2, Option.bind_some, if_true, e7]
          exact ih (i + 7) _ _ _ _ _ _ _ _ _ _ _ _ _ _ _ _ _ _ _ _ _ _ _ _ _ _ _ _ _ _ _ _ _ (by omega) (by omega) hT hS h60 h100 a1 a2
        · rw [if_neg w2]
          obtain ⟨r, op', oC', oM', oX', oL', g', dM', ow', mk', ct', ru', th', a1, a2, e1, e2⟩ := sim_end (N := N) (f := f) (dM := dM) hN h40 hS hO hG (xs (nI i + 1).toNatClampNeg) 1
          simp only [e1, e2, Option.bind_some, if_true, e7]
          exact ih (i + 7) _ _ _ _ _ _ _ _ _ _ _ _ _ _ _ _ _ _ _ _ _ _ _ _ _ _ _ _ _ _ _ _ _ (by omega) (by omega) hT hS h60 h100 a1 a2
      rw [if_neg h3]
      by_cases h4 : (xs (nI i).toNatClampNeg &&& nI 15) = 4
      · rw [if_pos h4]
        obtain ⟨r, op', g', a1, e1, e2⟩ := sim_abandon (N := N) hN h40 hS hG (xs (nI i + 1).toNatClampNeg)
        simp only [g1, e1, e2, Option.bind_some, if_true, e7]
        exact ih (i + 7) _ _ _ _ _ _ _ _ _ _ _ _ _ _ _ _ _ _ _ _ _ _ _ _ _ _ _ _ _ _ _ _ _ (by omega) (by omega) hT hS h60 h100 hO a1
      rw [if_neg h4]
      by_cases h5 : (xs (nI i).toNatClampNeg &&& nI 15) = 5
      · rw [if_pos h5]
        simp only [g1, g2, g3]
        by_cases w3 : (xs (nI i + nI 3).toNatClampNeg) = 0
        · rw [if_pos w3]
          obtain ⟨r, cC', nc', a1, e1, e2⟩ := sim_cache (N := N) (cC := cC) hN h60 (((xs (nI i + 1).toNatClampNeg).toInt64 <<< ((nI 32).toInt64 &&& 63)) ||| ((xs (nI i + nI 2).toNatClampNeg).toInt64 &&& (4294967295 : Int64))) 0 (Or.inl rfl)
          simp only [e1, e2, Option.bind_some, if_true, e7]
          exact ih (i + 7) _ _ _ _ _ _ _ _ _ _ _ _ _ _ _ _ _ _ _ _ _ _ _ _ _ _ _ _ _ _ _ _ _ (by omega) (by omega) hT hS a1 h100 hO hG
        · rw [if_neg w3]
          obtain ⟨r, cC', nc', a1, e1, e2⟩ := sim_cache (N := N) (cC := cC) hN h60 (((xs (nI i + 1).toNatClampNeg).toInt64 <<< ((nI 32).toInt64 &&& 63)) ||| ((xs (nI i + nI 2).toNatClampNeg).toInt64 &&& (4294967295 : Int64))) 1 (Or.inr rfl)
          simp only [e1, e2, Option.bind_some, if_true, e7]
          exact ih (i + 7) _ _ _ _ _ _ _ _ _ _ _ _ _ _ _ _ _ _ _ _ _ _ _ _ _ _ _ _ _ _ _ _ _ (by omega) (by omega) hT hS a1 h100 hO hG
      rw [if_neg h5]
      by_cases h6 : (xs (nI i).toNatClampNeg &&& nI 15) = 6
      · rw [if_pos h6]
        obtain ⟨r, oC', oL', hC', nh', dM', ow', th', a1, a2, e1, e2⟩ := sim_read (N := N) (dM := dM) (cC := cC) (hC := hC) hN h40 h60 h100 hS' hO (xs (nI i + 1).toNatClampNeg) (xs (nI i + nI 2).toNatClampNeg)
        simp only [g1, g2, e1, e2, Option.bind_some, if_true, e7]
        exact ih (i + 7) _ _ _ _ _ _ _ _ _ _ _ _ _ _ _ _ _ _ _ _ _ _ _ _ _ _ _ _ _ _ _ _ _ (by omega) (by omega) hT hS h60 a1 a2 hG
      rw [if_neg h6]
      by_cases h7 : (xs (nI i).toNatClampNeg &&& nI 15) = 7
      · rw [if_pos h7]
        obtain ⟨r, e1, e2⟩ := sim_held (N := N) (hC := hC) h100 (xs (nI i + 1).toNatClampNeg)
        simp only [g1, e1, e2, Option.bind_some, e7]
        rw [if_pos (cmp_0 rfl)]
        exact ih (i + 7) _ _ _ _ _ _ _ _ _ _ _ _ _ _ _ _ _ _ _ _ _ _ _ _ _ _ _ _ _ _ _ _ _ (by omega) (by omega) hT hS h60 h100 hO hG
      rw [if_neg h7]
      by_cases h8 : (xs (nI i).toNatClampNeg &&& nI 15) = 8
      · rw [if_pos h8]
        obtain ⟨r, h', e1, e2⟩ := sim_letGo (N := N) (hC := hC) h100 (xs (nI i + 1).toNatClampNeg)
        simp only [g1, e1, e2, Option.bind_some, if_true, e7]
        exact ih (i + 7) _ _ _ _ _ _ _ _ _ _ _ _ _ _ _ _ _ _ _ _ _ _ _ _ _ _ _ _ _ _ _ _ _ (by omega) (by omega) hT hS h60 h100 hO hG
      rw [if_neg h8]
      by_cases h9 : (xs (nI i).toNatClampNeg &&& nI 15) = 9
      · rw [if_pos h9]
        obtain ⟨r, e1, e2⟩ := sim_content (N := N) h40 hS' hO (xs (nI i + 1).toNatClampNeg) (xs (nI i + nI 2).toNatClampNeg)
        simp only [g1, g2, e1, e2, Option.bind_some, e7]
        rw [if_pos (cmp_0 rfl)]
        exact ih (i + 7) _ _ _ _ _ _ _ _ _ _ _ _ _ _ _ _ _ _ _ _ _ _ _ _ _ _ _ _ _ _ _ _ _ (by omega) (by omega) hT hS h60 h100 hO hG
      rw [if_neg h9]
      by_cases h10 : (xs (nI i).toNatClampNeg &&& nI 15) = 10
      · rw [if_pos h10]
        obtain ⟨r, e1, e2⟩ := sim_about (N := N) h40 hS' hO (xs (nI i + 1).toNatClampNeg) (xs (nI i + nI 2).toNatClampNeg) (xs (nI i + nI 3).toNatClampNeg)
        simp only [g1, g2, g3, e1, e2, Option.bind_some, if_true, e7]
        exact ih (i + 7) _ _ _ _ _ _ _ _ _ _ _ _ _ _ _ _ _ _ _ _ _ _ _ _ _ _ _ _ _ _ _ _ _ (by omega) (by omega) hT hS h60 h100 hO hG
      rw [if_neg h10]
      by_cases h11 : (xs (nI i).toNatClampNeg &&& nI 15) = 11
      · rw [if_pos h11]
        obtain ⟨r, e1, e2⟩ := sim_list (N := N) hN hT hS' hO (xs (nI i + 1).toNatClampNeg) (xs (nI i + nI 2).toNatClampNeg) (xs (nI i + nI 3).toNatClampNeg)
        simp only [g1, g2, g3, e1, e2, Option.bind_some, if_true, e7]
        exact ih (i + 7) _ _ _ _ _ _ _ _ _ _ _ _ _ _ _ _ _ _ _ _ _ _ _ _ _ _ _ _ _ _ _ _ _ (by omega) (by omega) hT hS h60 h100 hO hG
      rw [if_neg h11]
      by_cases h12 : (xs (nI i).toNatClampNeg &&& nI 15) = 12
      · rw [if_pos h12]
        obtain ⟨r, e1, e2⟩ := sim_dirty (N := N) (dM := dM) (xs (nI i + 1).toNatClampNeg) (xs (nI i + nI 2).toNatClampNeg)
        simp only [g1, g2, e1, e2, Option.bind_some, if_true, e7]
        exact ih (i + 7) _ _ _ _ _ _ _ _ _ _ _ _ _ _ _ _ _ _ _ _ _ _ _ _ _ _ _ _ _ _ _ _ _ (by omega) (by omega) hT hS h60 h100 hO hG
      rw [if_neg h12]
      by_cases h13 : (xs (nI i).toNatClampNeg &&& nI 15) = 13
      · rw [if_pos h13]
        obtain ⟨r, oC', ow', a1, e1, e2⟩ := sim_clear (N := N) (cf := cf) (op := op) hN h40 hS' hO (xs (nI i + 1).toNatClampNeg)
        simp only [g1, e1, e2, Option.bind_some, if_true, e7]
        exact ih (i + 7) _ _ _ _ _ _ _ _ _ _ _ _ _ _ _ _ _ _ _ _ _ _ _ _ _ _ _ _ _ _ _ _ _ (by omega) (by omega) hT hS h60 h100 a1 hG
      rw [if_neg h13]
      by_cases h14 : (xs (nI i).toNatClampNeg &&& nI 15) = 14
      · rw [if_pos h14]
        obtain ⟨r, met', row', e1, e2⟩ := sim_copies (N := N) (hC := hC) hN h40 hS h100 hO hG met row (((xs (nI i + 1).toNatClampNeg).toInt64 <<< ((nI 32).toInt64 &&& 63)) ||| ((xs (nI i + nI 2).toNatClampNeg).toInt64 &&& (4294967295 : Int64)))
        simp only [g1, g2, e1, e2, Option.bind_some, if_true, e7]
        exact ih (i + 7) _ _ _ _ _ _ _ _ _ _ _ _ _ _ _ _ _ _ _ _ _ _ _ _ _ _ _ _ _ _ _ _ _ (by omega) (by omega) hT hS h60 h100 hO hG
      rw [if_neg h14]
      by_cases h15 : (xs (nI i).toNatClampNeg &&& nI 15) = 15
      · rw [if_pos h15]
        obtain ⟨r, df', met', row', e1, e2⟩ := sim_stored (N := N) (hC := hC) hN h40 hS h100 hO hG met row df
        simp only [e1, e2, Option.bind_some, if_true, e7]
        exact ih (i + 7) _ _ _ _ _ _ _ _ _ _ _ _ _ _ _ _ _ _ _ _ _ _ _ _ _ _ _ _ _ _ _ _ _ (by omega) (by omega) hT hS h60 h100 hO hG
      rw [if_neg h15]
      rw [e7]
      exact ih (i + 7) _ _ _ _ _ _ _ _ _ _ _ _ _ _ _ _ _ _ _ _ _ _ _ _ _ _ _ _ _ _ _ _ _ (by omega) (by omega) hT hS h60 h100 hO hG
    · rw [if_pos (by rw [hx]; omega)]
theorem law_sim0 {L : Nat} {xs : Nat → Int32} (hL : L ≤ 3584) : pf_law 2000 L xs (L + 1) (fun _ => 0) (0 : Int32) (fun _ => 0) (fun _ => 0) (fun _ => 0) (fun _ => 0) (0 : Int32) (fun _ => 0) (fun _ => 0) (fun _ => 0) (fun _ => 0) (fun _ => 0) (fun _ => 0) (fun _ => 0) (fun _ => 0) (fun _ => 0) (0 : Int32) (fun _ => 0) (0 : Int32) (fun _ => 0) (fun _ => 0) (0 : Int32) (0 : Int32) (0 : Int32) (0 : Int32) (fun _ => 0) (fun _ => 0) (fun _ => 0) (fun _ => 0) (fun _ => 0) (fun _ => 0) (fun _ => 0) (fun _ => 0) (fun _ => 0) (fun _ => 0) (fun _ => 0) (fun _ => 0) (fun _ => 0) (fun _ => 0) (fun _ => 0) (fun _ => 0) (fun _ => 0) (fun _ => 0) (0 : Int32) (fun _ => 0) 0 = some 1 := by
  have h := law_sim (N := 2000) (xs := xs) (Nat.le_refl _) hL (L + 1) 0 0 0 0 0 (fun _ => 0) (fun _ => 0) (fun _ => 0) (fun _ => 0) (fun _ => 0) (fun _ => 0) (fun _ => 0) (fun _ => 0) (fun _ => 0) (fun _ => 0) (fun _ => 0) (fun _ => 0) (fun _ => 0) (fun _ => 0) (fun _ => 0) (fun _ => 0) (fun _ => 0) (fun _ => 0) (fun _ => 0) (fun _ => 0) (fun _ => 0) (fun _ => 0) (fun _ => 0) (fun _ => 0) (fun _ => 0) (fun _ => 0) (fun _ => 0) (fun _ => 0) 0 (by omega) (by omega) ⟨by omega, fun j h => absurd h (by omega)⟩ ⟨by omega, fun s h => absurd h (by omega)⟩ (by omega) (by omega) (fun k _ => Or.inl ⟨rfl, rfl⟩) ⟨fun s h => absurd h (by omega), fun k _ h => absurd rfl h, fun s m h => absurd h (by omega), fun s m h => absurd h (by omega)⟩
  rw [nI_0] at h
  exact h
