-- ===== arguments that are there, or aren't =====
theorem ixN (x : Int32) {n : Nat} (hn : n < 2 ^ 31) : (x < 0 ∨ nI n ≤ x) ∨ ∃ j, j < n ∧ x = nI j := by
  rcases pk_ix x hn with h | h | h
  · exact Or.inl (Or.inl h)
  · exact Or.inl (Or.inr h)
  · exact Or.inr h
theorem z_bad {α : Type} {x b : Int32} {u v : Option α} (h : x < 0 ∨ b ≤ x) : (if x < 0 then u else (if b ≤ x then u else v)) = u := by
  by_cases c : x < 0
  · rw [if_pos c]
  · rw [if_neg c, if_pos (h.resolve_left c)]
theorem z_good {α : Type} {j n : Nat} {u v : Option α} (h : j < n) (hn : n < 2 ^ 31) : (if nI j < 0 then u else (if nI n ≤ nI j then u else v)) = v := by
  rw [if_neg (nI_pos (by omega)), if_neg (nI_ge h hn)]
theorem SB_has_t {N np j : Nat} (h : j < np) (hn : np < 2 ^ 31) : pf_SB_has N (nI np) (nI j) = some 1 := z_good h hn
theorem SB_has_f {N np : Nat} {x : Int32} (h : x < 0 ∨ nI np ≤ x) : pf_SB_has N (nI np) x = some 0 := z_bad h
theorem MO_isPath_t {N np j : Nat} (h : j < np) (hn : np < 2 ^ 31) : pf_MO_isPath N (nI np) (nI j) = some 1 := z_good h hn
theorem MO_isPath_f {N np : Nat} {x : Int32} (h : x < 0 ∨ nI np ≤ x) : pf_MO_isPath N (nI np) x = some 0 := z_bad h
theorem OS_isC_t {N j : Nat} (h : j < 4) : pf_OS_isConfiguration N (nI j) = some 1 := z_good h (by decide)
theorem OS_isC_f {N : Nat} {x : Int32} (h : x < 0 ∨ nI 4 ≤ x) : pf_OS_isConfiguration N x = some 0 := z_bad h
theorem OS_isT_t {N j : Nat} (h : j < 12) : pf_OS_isTarget N (nI j) = some 1 := z_good h (by decide)
theorem OS_isT_f {N : Nat} {x : Int32} (h : x < 0 ∨ nI 12 ≤ x) : pf_OS_isTarget N x = some 0 := z_bad h
theorem OS_isR_t {N j : Nat} (h : j < 8) : pf_OS_isRun N (nI j) = some 1 := z_good h (by decide)
theorem OS_isR_f {N : Nat} {x : Int32} (h : x < 0 ∨ nI 8 ≤ x) : pf_OS_isRun N x = some 0 := z_bad h
theorem MO_wi_t {N j h : Nat} (hj : j ≤ h) (hh : h < 2 ^ 31) : pf_MO_within N (nI j) (nI h) = some 1 := by
  unfold pf_MO_within
  rw [if_neg (nI_pos (by omega)), if_neg (nI_nlt hj hh)]
theorem MO_wi_f {N h : Nat} {x : Int32} (hh : h + 1 < 2 ^ 31) (hx : x < 0 ∨ nI (h + 1) ≤ x) : pf_MO_within N x (nI h) = some 0 := by
  unfold pf_MO_within
  by_cases c : x < 0
  · rw [if_pos c]
  · rw [if_neg c, if_pos]
    have a := hx.resolve_left c
    rw [Int32.le_iff_toInt_le, nI_toInt hh] at a
    rw [Int32.lt_iff_toInt_lt, nI_toInt (by omega)]
    omega
-- ===== slots =====
theorem OS_slot_t {N np c p : Nat} (hp : p < np) (hc : c < 4) (h40 : np ≤ 40) : pf_OS_slotOf N (nI np) (nI c) (nI p) = some (nI (40 * c + p)) := by
  unfold pf_OS_slotOf
  rw [OS_isC_t hc, Option.bind_some, if_neg (by decide), PT_has_t hp (by omega), Option.bind_some, if_pos (by decide), pk_mul, nI_add, Nat.mul_comm c 40]
theorem OS_slot_fc {N : Nat} {z x y : Int32} (h : x < 0 ∨ nI 4 ≤ x) : pf_OS_slotOf N z x y = some (-1) := by
  unfold pf_OS_slotOf
  rw [OS_isC_f h, Option.bind_some, if_pos rfl]
theorem OS_slot_fp {N np c : Nat} {y : Int32} (hc : c < 4) (h : y < 0 ∨ nI np ≤ y) : pf_OS_slotOf N (nI np) (nI c) y = some (-1) := by
  unfold pf_OS_slotOf
  rw [OS_isC_t hc, Option.bind_some, if_neg (by decide), PT_has_f h, Option.bind_some, if_neg (by decide)]
theorem LT_has_m {N : Nat} {f : Nat → Int64} : pf_LT_has N f (-1) = some 0 := by
  unfold pf_LT_has
  rw [if_pos (by decide)]
theorem LT_has_0 {N k : Nat} {f : Nat → Int64} (hk : k < 160) (h : f k = 0) : pf_LT_has N f (nI k) = some 0 := by
  unfold pf_LT_has
  rw [z_good hk (by decide), gz_nI hk (by decide), nI_clamp (by omega), if_pos (cmp_0 h)]
theorem LT_has_1 {N k : Nat} {f : Nat → Int64} (hk : k < 160) (h : ¬ f k = 0) : pf_LT_has N f (nI k) = some 1 := by
  unfold pf_LT_has
  rw [z_good hk (by decide), gz_nI hk (by decide), nI_clamp (by omega), if_neg (cmp_n h)]
theorem LT_contentAt_m {N : Nat} {f : Nat → Int64} : pf_LT_contentAt N f (-1) = some 0 := by
  unfold pf_LT_contentAt
  rw [LT_has_m, Option.bind_some, if_pos rfl]
theorem LT_contentAt_k {N k : Nat} {f : Nat → Int64} (hk : k < 160) : pf_LT_contentAt N f (nI k) = some (f k) := by
  unfold pf_LT_contentAt
  by_cases h : f k = 0
  · rw [LT_has_0 hk h, Option.bind_some, if_pos rfl, h]
  · rw [LT_has_1 hk h, Option.bind_some, if_neg (by decide), gz_nI hk (by decide), nI_clamp (by omega)]
theorem LT_isLazy_m {N : Nat} {f : Nat → Int64} {z : Nat → Int32} : pf_LT_isLazy N f z (-1) = some 0 := by
  unfold pf_LT_isLazy
  rw [LT_has_m, Option.bind_some, if_pos rfl]
theorem LT_isLazy_0 {N k : Nat} {f : Nat → Int64} {z : Nat → Int32} (hk : k < 160) (h : f k = 0 ∨ z k = 0) : pf_LT_isLazy N f z (nI k) = some 0 := by
  unfold pf_LT_isLazy
  by_cases c : f k = 0
  · rw [LT_has_0 hk c, Option.bind_some, if_pos rfl]
  · rw [LT_has_1 hk c, Option.bind_some, if_neg (by decide), gz_nI hk (by decide), nI_clamp (by omega), if_pos (h.resolve_left c)]
theorem LT_isLazy_1 {N k : Nat} {f : Nat → Int64} {z : Nat → Int32} (hk : k < 160) (h : ¬ f k = 0) (h1 : ¬ z k = 0) : pf_LT_isLazy N f z (nI k) = some 1 := by
  unfold pf_LT_isLazy
  rw [LT_has_1 hk h, Option.bind_some, if_neg (by decide), gz_nI hk (by decide), nI_clamp (by omega), if_neg h1]
theorem LT_isExe_0 {N k : Nat} {f : Nat → Int64} {z : Nat → Int32} (hk : k < 160) (h : f k = 0 ∨ z k = 0) : pf_LT_isExecutable N f z (nI k) = some 0 := LT_isLazy_0 hk h
theorem LT_isExe_1 {N k : Nat} {f : Nat → Int64} {z : Nat → Int32} (hk : k < 160) (h : ¬ f k = 0) (h1 : ¬ z k = 0) : pf_LT_isExecutable N f z (nI k) = some 1 := LT_isLazy_1 hk h h1
theorem LT_stepAt_1 {N k : Nat} {f : Nat → Int64} {z : Nat → Int32} (hk : k < 160) (h : ¬ f k = 0) : pf_LT_stepAt N f z (nI k) = some (z k) := by
  unfold pf_LT_stepAt
  rw [LT_has_1 hk h, Option.bind_some, if_neg (by decide), gz_nI hk (by decide), nI_clamp (by omega)]
theorem LT_isOf_m {N : Nat} {f : Nat → Int64} {z : Nat → Int32} {x : Int32} : pf_LT_isOfStep N f z (-1) x = some 0 := by
  unfold pf_LT_isOfStep
  rw [LT_has_m, Option.bind_some, if_pos rfl]
theorem LT_isOf_0 {N k : Nat} {f : Nat → Int64} {z : Nat → Int32} {x : Int32} (hk : k < 160) (h : f k = 0 ∨ ¬ z k = x) : pf_LT_isOfStep N f z (nI k) x = some 0 := by
  unfold pf_LT_isOfStep
  by_cases c : f k = 0
  · rw [LT_has_0 hk c, Option.bind_some, if_pos rfl]
  · rw [LT_has_1 hk c, Option.bind_some, if_neg (by decide), gz_nI hk (by decide), nI_clamp (by omega), if_pos (h.resolve_left c)]
theorem LT_isOf_1 {N k : Nat} {f : Nat → Int64} {z : Nat → Int32} {x : Int32} (hk : k < 160) (h : ¬ f k = 0) (h1 : z k = x) : pf_LT_isOfStep N f z (nI k) x = some 1 := by
  unfold pf_LT_isOfStep
  rw [LT_has_1 hk h, Option.bind_some, if_neg (by decide), gz_nI hk (by decide), nI_clamp (by omega), if_neg (fun c => c h1)]
theorem LT_drop_1 {N k : Nat} {f : Nat → Int64} (hk : k < 160) (h : ¬ f k = 0) : pf_LT_drop N f (nI k) = some (vp_updL f k 0) := by
  unfold pf_LT_drop
  rw [LT_has_1 hk h, Option.bind_some, if_neg (by decide), gz_nI hk (by decide), nI_clamp (by omega)]
theorem LT_there_1 {N k : Nat} {f : Nat → Int64} {z : Nat → Int32} (hk : k < 160) (h : ¬ f k = 0) : pf_LT_makeThere N f z (nI k) = some (upd z k 0) := by
  unfold pf_LT_makeThere
  rw [LT_has_1 hk h, Option.bind_some, if_neg (by decide), gz_nI hk (by decide), nI_clamp (by omega), nar_0]
theorem LT_put_k {N k : Nat} {f : Nat → Int64} {z e z2 : Nat → Int32} {s : Int32} {v : Int64} {x y : Int32} (hk : k < 160) : pf_LT_put N f z e z2 (nI k) s v x y = some (vp_updL f k v, upd z k s, upd e k (vp_nar .boolean x), upd z2 k (vp_nar .boolean y)) := by
  unfold pf_LT_put
  rw [z_good hk (by decide), gz_nI hk (by decide), gz_nI hk (by decide), gz_nI hk (by decide), gz_nI hk (by decide), nI_clamp (by omega)]
theorem MO_isOut_t {N np c p : Nat} {ow : Nat → Int32} (hp : p < np) (hc : c < 4) (h40 : np ≤ 40) : pf_MO_isOutput N (nI np) ow (nI c) (nI p) = if ow (40 * c + p) = 0 then some 0 else some 1 := by
  unfold pf_MO_isOutput
  rw [MO_wi_t (by omega) (by decide), Option.bind_some, if_neg (by decide), MO_isPath_t hp (by omega), Option.bind_some, if_neg (by decide), Option.bind_some, if_neg (by decide), Option.bind_some, if_neg (by decide), pk_mul, nI_add, gz_nI (by omega) (by decide), nI_clamp (by omega)]
theorem MO_isOut_fc {N : Nat} {z x y : Int32} {ow : Nat → Int32} (h : x < 0 ∨ nI 4 ≤ x) : pf_MO_isOutput N z ow x y = some 0 := by
  unfold pf_MO_isOutput
  rw [MO_wi_f (by decide) h, Option.bind_some, if_pos rfl]
theorem MO_isOut_fp {N np c : Nat} {y : Int32} {ow : Nat → Int32} (hc : c < 4) (h : y < 0 ∨ nI np ≤ y) : pf_MO_isOutput N (nI np) ow (nI c) y = some 0 := by
  unfold pf_MO_isOutput
  rw [MO_wi_t (by omega) (by decide), Option.bind_some, if_neg (by decide), MO_isPath_f h, Option.bind_some, if_pos rfl]
-- ===== what ties the two states =====
def iS (ns : Nat) (tg cf rn : Nat → Int32) : Prop := ns ≤ 80 ∧ ∀ s, s < ns → ∃ t c r, t < 12 ∧ c < 4 ∧ r < 8 ∧ tg s = nI t ∧ cf s = nI c ∧ rn s = nI r
def iO (np ns : Nat) (tg : Nat → Int32) (oC : Nat → Int64) (oM oX oL ow mk : Nat → Int32) (ct : Nat → Int64) (ru th : Nat → Int32) : Prop :=
  ∀ k, k < 160 → (oC k = 0 ∧ ow k = 0) ∨ (¬ oC k = 0 ∧ k % 40 < np ∧ ct k = oC k ∧ ru k = oX k ∧ (oX k = 0 ∨ oX k = 1) ∧ (oL k = 0 ∧ th k = 1 ∨ oL k = 1 ∧ th k = 0) ∧ ∃ s, s < ns ∧ oM k = nI s ∧ mk k = nI s ∧ ow k = tg s + 1)
theorem tg_ne0 {t : Nat} (h : t < 12) : ¬ nI t + 1 = 0 := by
  rw [nI_1]
  exact nI_ne0 (by omega) (by omega)
theorem SB_tgt {N ns s : Nat} {f : Nat → Int32} (h : s < ns) (hn : ns ≤ 80) : pf_SB_targetOf N f (nI ns) (nI s) = some (f s) := by
  unfold pf_SB_targetOf
  rw [SB_has_t h (by omega), Option.bind_some, if_neg (by decide), gz_nI (by omega) (by decide), nI_clamp (by omega)]
theorem SB_cfg {N ns s : Nat} {f : Nat → Int32} (h : s < ns) (hn : ns ≤ 80) : pf_SB_configurationOf N f (nI ns) (nI s) = some (f s) := SB_tgt h hn
theorem SB_run {N ns s : Nat} {f : Nat → Int32} (h : s < ns) (hn : ns ≤ 80) : pf_SB_runOf N f (nI ns) (nI s) = some (f s) := SB_tgt h hn
theorem OS_tgtAt {N ns s k : Nat} {tg oM : Nat → Int32} {oC : Nat → Int64} (hk : k < 160) (h : ¬ oC k = 0) (hs : oM k = nI s) (h1 : s < ns) (hn : ns ≤ 80) : pf_OS_targetAt N tg (nI ns) oC oM (nI k) = some (tg s) := by
  unfold pf_OS_targetAt
  rw [LT_stepAt_1 hk h, Option.bind_some, hs, SB_tgt h1 hn, Option.bind_some]
-- ===== content, held, letGo, dirty =====
theorem sim_content {N np ns : Nat} {tg : Nat → Int32} {oC : Nat → Int64} {oM oX oL ow mk : Nat → Int32} {ct : Nat → Int64} {ru th : Nat → Int32} (h40 : np ≤ 40) (hS : ns ≤ 80 ∧ ∀ s, s < ns → ∃ t, t < 12 ∧ tg s = nI t) (hO : iO np ns tg oC oM oX oL ow mk ct ru th) (x y : Int32) :
    ∃ r, pf_OS_content N (nI np) oC x y = some r ∧ pf_MO_content N (nI np) ow ct x y = some r := by
  unfold pf_OS_content pf_MO_content
  rcases ixN x (n := 4) (by decide) with hx | ⟨c, hc, rfl⟩
  · exact ⟨0, by rw [OS_slot_fc hx, Option.bind_some, LT_contentAt_m, Option.bind_some], by rw [MO_isOut_fc hx, Option.bind_some, if_pos rfl]⟩
  rcases ixN y (n := np) (by omega) with hy | ⟨p, hp, rfl⟩
  · exact ⟨0, by rw [OS_slot_fp hc hy, Option.bind_some, LT_contentAt_m, Option.bind_some], by rw [MO_isOut_fp hc hy, Option.bind_some, if_pos rfl]⟩
  refine ⟨oC (40 * c + p), by rw [OS_slot_t hp hc h40, Option.bind_some, LT_contentAt_k (by omega), Option.bind_some], ?_⟩
  rw [MO_isOut_t hp hc h40, pk_mul, nI_add, gz_nI (by omega) (by decide), nI_clamp (by omega)]
  rcases hO (40 * c + p) (by omega) with ⟨h1, h2⟩ | ⟨h1, h2, h3, -, -, -, s, h4, -, -, h5⟩
  · rw [if_pos h2, Option.bind_some, if_pos rfl, h1]
  · obtain ⟨t, ht, e⟩ := hS.2 s h4
    rw [h5, e, if_neg (tg_ne0 ht), Option.bind_some, if_neg (by decide), h3]
theorem sim_held {N nh : Nat} {hC : Nat → Int64} (h100 : nh ≤ 100) (x : Int32) : ∃ r, pf_OS_held N hC (nI nh) x = some r ∧ pf_MO_held N (nI nh) hC x = some r := by
  unfold pf_OS_held pf_MO_held pf_HB_contentOf pf_HB_has
  rcases ixN x (n := nh) (by omega) with hx | ⟨j, hj, rfl⟩
  · exact ⟨0, by rw [z_bad hx, Option.bind_some, if_pos rfl, Option.bind_some], by rw [z_bad hx]⟩
  · refine ⟨hC j, ?_, by rw [z_good hj (by omega), gz_nI (by omega) (by decide), nI_clamp (by omega)]⟩
    rw [z_good hj (by omega), gz_nI (by omega) (by decide), nI_clamp (by omega)]
    by_cases c : hC j = 0
    · rw [if_pos (cmp_0 c), Option.bind_some, if_pos rfl, Option.bind_some, c]
    · rw [if_neg (cmp_n c), Option.bind_some, if_neg (by decide), gz_nI (by omega) (by decide), Option.bind_some]
theorem sim_letGo {N nh : Nat} {hC : Nat → Int64} (h100 : nh ≤ 100) (x : Int32) : ∃ r h', pf_OS_letGo N hC (nI nh) x = some (r, h') ∧ pf_MO_letGo N (nI nh) hC x = some (r, h') := by
  unfold pf_OS_letGo pf_MO_letGo pf_HB_release pf_HB_has
  rcases ixN x (n := nh) (by omega) with hx | ⟨j, hj, rfl⟩
  · exact ⟨0, hC, by rw [z_bad hx, Option.bind_some, if_neg (by decide), Option.bind_some]; rfl, by rw [z_bad hx]⟩
  · by_cases c : hC j = 0
    · exact ⟨0, hC, by rw [z_good hj (by omega), gz_nI (by omega) (by decide), nI_clamp (by omega), if_pos (cmp_0 c), Option.bind_some, if_neg (by decide), Option.bind_some]; rfl, by rw [z_good hj (by omega), gz_nI (by omega) (by decide), nI_clamp (by omega), if_neg (fun h => h (cmp_0 c))]⟩
    · exact ⟨1, vp_updL hC j 0, by rw [z_good hj (by omega), gz_nI (by omega) (by decide), nI_clamp (by omega), if_neg (cmp_n c), Option.bind_some, if_pos (by decide), gz_nI (by omega) (by decide), Option.bind_some]; rfl, by rw [z_good hj (by omega), gz_nI (by omega) (by decide), nI_clamp (by omega), if_pos (cmp_n c), gz_nI (by omega) (by decide)]⟩
theorem sim_dirty {N : Nat} {dM : Nat → Int32} (x y : Int32) : ∃ r, pf_OS_dirty N dM x y = some r ∧ pf_MO_dirty N dM x y = some r := by
  unfold pf_OS_dirty pf_MO_dirty pf_DM_get
  rcases ixN x (n := 12) (by decide) with hx | ⟨t, ht, rfl⟩
  · exact ⟨0, by rw [OS_isT_f hx, Option.bind_some, if_pos rfl, Option.bind_some]; rfl, by rw [MO_wi_f (by decide) hx, Option.bind_some, if_pos rfl]⟩
  rcases ixN y (n := 4) (by decide) with hy | ⟨c, hc, rfl⟩
  · exact ⟨0, by rw [OS_isT_t ht, Option.bind_some, if_neg (by decide), OS_isC_f hy, Option.bind_some, if_pos rfl, Option.bind_some]; rfl, by rw [MO_wi_t (by omega) (by decide), Option.bind_some, if_neg (by decide), MO_wi_f (by decide) hy, Option.bind_some, if_pos rfl]⟩
  have a1 : (if dM (12 * c + t) = 0 then some (0 : Int32) else some 1) = some (if dM (12 * c + t) = 0 then 0 else 1) := by
    by_cases d : dM (12 * c + t) = 0
    · rw [if_pos d, if_pos d]
    · rw [if_neg d, if_neg d]
  refine ⟨if dM (12 * c + t) = 0 then 0 else 1, ?_, ?_⟩
  · rw [OS_isT_t ht, Option.bind_some, if_neg (by decide), OS_isC_t hc, Option.bind_some, if_neg (show ¬ (1 : Int32) = 0 by decide), pk_mul, nI_add, Nat.mul_comm c 12, gz_nI (by omega) (by decide), nI_clamp (by omega), a1, Option.bind_some]
    by_cases d : dM (12 * c + t) = 0
    · rw [if_pos d]; rfl
    · rw [if_neg d]; rfl
  · rw [MO_wi_t (by omega) (by decide), Option.bind_some, if_neg (by decide), MO_wi_t (by omega) (by decide), Option.bind_some, if_neg (by decide), Option.bind_some, if_neg (by decide), Option.bind_some, if_neg (show ¬ (1 : Int32) = 0 by decide), pk_mul, nI_add, gz_nI (by omega) (by decide), nI_clamp (by omega), a1]
