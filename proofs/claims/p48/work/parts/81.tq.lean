/-! ===== p48: what the asking methods answer, in the row of numbers ===== -/
theorem at_k (k : Nat) (h : k < 30) : f_X3_cellFault (nI k / 6) (nI k - nI k / 6 * 6) = some 0 ∧ f_X3_cellAt (nI k / 6) (nI k - nI k / 6 * 6) = some (nI k) := (by decide +kernel : ∀ c : Fin 30, f_X3_cellFault (nI c.val / 6) (nI c.val - nI c.val / 6 * 6) = some 0 ∧ f_X3_cellAt (nI c.val / 6) (nI c.val - nI c.val / 6 * 6) = some (nI c.val)) ⟨k, h⟩
/-- a cell by its row and its column -/
def AtC (a b : Int32) (c : Nat) : Prop := c < 30 ∧ a = nI (c / 6) ∧ b = nI (c % 6)
theorem AtC.k {k : Nat} (h : k < 30) : AtC (nI k / 6) (nI k - nI k / 6 * 6) k := ⟨h, g_div k h, g_mod k h⟩
theorem AtC.rc {r k : Nat} (hr : r < 5) (hk : k < 6) : AtC (nI r) (nI k) (6 * r + k) := ⟨by omega, by rw [show (6 * r + k) / 6 = r by omega], by rw [show (6 * r + k) % 6 = k by omega]⟩
theorem AtC.g {a b : Int32} {c : Nat} (h : AtC a b c) : f_X3_cellFault a b = some 0 ∧ f_X3_cellAt a b = some (nI c) := by
  obtain ⟨h1, rfl, rfl⟩ := h
  obtain ⟨g1, g2, -, -⟩ := g_cell (c / 6) (c % 6) (by omega) (by omega)
  exact ⟨g1, by rw [g2, show 6 * (c / 6) + c % 6 = c by omega]⟩
theorem AtC.u {a b : Int32} {c : Nat} (h : AtC a b c) : ∃ r k, r < 5 ∧ k < 6 ∧ a = nI r ∧ b = nI k ∧ c = 6 * r + k := ⟨c / 6, c % 6, by have := h.1; omega, by omega, h.2.1, h.2.2, by omega⟩
section
variable {q : QV} {w : Nat → Int32} {t : Nat} {a b : Int32} {c : Nat}
theorem tq_height (tv : TV) (hr : RelQ q w) (h : AtC a b c) : f_X10_height tv q a b = some (.inr (w (19 + 7 * c))) := by
  obtain ⟨g1, g2⟩ := h.g
  unfold f_X10_height f_X7_heightAt
  simp only [g1, g2, ob_s, rf_0, jm_r, if_pos (nIin h.1 (by decide : 30 < 2 ^ 31)), nI_clamp (show c < 2 ^ 31 by have := h.1; omega), hr.h _ h.1]
theorem tq_stone (tv : TV) (hr : RelQ q w) (h : AtC a b c) : f_X10_stone tv q a b = some (.inr (w (20 + 7 * c))) := by
  obtain ⟨g1, g2⟩ := h.g
  unfold f_X10_stone f_X7_stoneAt
  simp only [g1, g2, ob_s, rf_0, jm_r, if_pos (nIin h.1 (by decide : 30 < 2 ^ 31)), nI_clamp (show c < 2 ^ 31 by have := h.1; omega), hr.s _ h.1]
theorem tq_loose (tv : TV) (hr : RelQ q w) (h : AtC a b c) : f_X10_looseBlocks tv q a b = some (.inr (w (22 + 7 * c))) := by
  obtain ⟨g1, g2⟩ := h.g
  unfold f_X10_looseBlocks f_X7_blocksAt
  simp only [g1, g2, ob_s, rf_0, jm_r, if_pos (nIin h.1 (by decide : 30 < 2 ^ 31)), nI_clamp (show c < 2 ^ 31 by have := h.1; omega), hr.n _ h.1]
theorem tq_ledge (tv : TV) (hr : RelQ q w) (hi : InvW t w) (h : AtC a b c) : f_X10_isLedge tv q a b = some (.inr (w (21 + 7 * c))) := by
  obtain ⟨g1, g2⟩ := h.g
  obtain ⟨n, hn, en⟩ := hi.l c h.1
  have hb : vp_nar .boolean (w (21 + 7 * c)) = w (21 + 7 * c) := by rw [en]; exact nar_le1 hn
  unfold f_X10_isLedge
  simp only [g1, g2, ob_s, rf_0, jm_r, q_ledgeAt hr hi c h.1, if_pos hb]
theorem tq_top (tv : TV) (hr : RelQ q w) (hi : InvW t w) (h : AtC a b c) : (w (22 + 7 * c) = 0 → f_X10_topBlock tv q a b = some (.inl 2)) ∧ (∀ j, w (22 + 7 * c) = nI (j + 1) → j < 3 → f_X10_topBlock tv q a b = some (.inr (w (23 + 7 * c + j)))) := by
  obtain ⟨g1, g2⟩ := h.g
  have htop : ∀ cn, cn ≤ 3 → w (22 + 7 * c) = nI cn → f_X7_topFault q a b = if nI cn ≤ 0 then some 3 else some 0 := by
    intro cn hcn ecn
    unfold f_X7_topFault
    simp only [g1, g2, ob_s, n06, ↓reduceIte, if_pos (nIin h.1 (by decide : 30 < 2 ^ 31)), nI_clamp (show c < 2 ^ 31 by have := h.1; omega), hr.n c h.1, ecn]
  refine ⟨fun e => ?_, fun j e hj => ?_⟩
  · unfold f_X10_topBlock
    rw [htop 0 (by omega) e, if_pos (show nI 0 ≤ (0 : Int32) from Int32.le_refl _)]
    simp only [ob_s, rf_3, jm_l]
  · unfold f_X10_topBlock
    have hle0 : ¬ nI (j + 1) ≤ (0 : Int32) := by rw [show (0 : Int32) = nI 0 from rfl, nI_leI (by omega) (by omega)]; omega
    simp only [htop (j + 1) (by omega) e, if_neg hle0, g2, ob_s, rf_0, jm_r, q_topStone hr c j h.1 hj e]
theorem tq_steep (tv : TV) (hr : RelQ q w) (h : AtC a b c) : f_X10_steepestStep tv q a b = some (.inr (stp w c (w (19 + 7 * c)))) := by
  obtain ⟨g1, g2⟩ := h.g
  unfold f_X10_steepestStep
  simp only [g1, g2, ob_s, rf_0, jm_r, q_steepAt hr c h.1]
theorem tq_canCut (tv : TV) (hr : RelQ q w) (h : AtC a b c) : (canC w c → f_X10_canCut tv q a b = some (.inr 1)) ∧ (¬ canC w c → f_X10_canCut tv q a b = some (.inr 0)) := by
  obtain ⟨r, k, hrr, hk, rfl, rfl, rfl⟩ := h.u
  obtain ⟨g1, g2, -, -⟩ := g_cell r k hrr hk
  obtain ⟨f1, f2, f3⟩ := q_cutFault hr r k hrr hk
  refine ⟨fun hc => ?_, fun hc => ?_⟩
  · unfold f_X10_canCut
    rw [g1, f1 hc.1 hc.2]
    rfl
  · unfold f_X10_canCut
    rw [g1]
    by_cases hfit : fitCut w (6 * r + k)
    · rw [f2 hfit (Classical.byContradiction fun h9 => hc ⟨hfit, h9⟩)]
      rfl
    · rw [f3 hfit]
      rfl
/-- the number of cells that could be cut -/
theorem tq_cuttable (tv : TV) (hr : RelQ q w) : f_X10_cuttableCells tv q = some (nI (cnt (canC w) 30)) := by
  have hl : jbL (fun s => f_X7_countCuttable_L4 q s.1 s.2) 5000 (nI (cnt (canC w) 0), nI 0) = some (nI (cnt (canC w) 30), nI 30) := by
    refine lpD (fun k => (nI (cnt (canC w) k), nI k)) _ 30 (fun k hk => ?_) ?_ 5000 (by decide)
    · show f_X7_countCuttable_L4 q (nI (cnt (canC w) k)) (nI k) = some (Sum.inl (nI (cnt (canC w) (k + 1)), nI (k + 1)))
      obtain ⟨hr5, hk6, hrk⟩ := rc_of k hk
      obtain ⟨f1, f2, f3⟩ := q_cutFault hr (k / 6) (k % 6) hr5 hk6
      rw [hrk] at f1 f2 f3
      unfold f_X7_countCuttable_L4
      rw [if_neg (show ¬ (30 : Int32) ≤ nI k from nI_ge (a := k) (b := 30) hk (by decide)), g_row k hk, g_col k hk]
      show ((f_X7_cutFault q (nI (k / 6)) (nI (k % 6))).bind _) = _
      by_cases hcan : canC w k
      · rw [f1 hcan.1 hcan.2, cnt_yes hcan]
        show some (Sum.inl (nI (cnt (canC w) k) + 1, nI k + 1)) = _
        rw [nI_1, nI_1]
      · rw [cnt_no hcan]
        by_cases hfit : fitCut w k
        · rw [f2 hfit (Classical.byContradiction fun h9 => hcan ⟨hfit, h9⟩)]
          show some (Sum.inl (nI (cnt (canC w) k), nI k + 1)) = _
          rw [nI_1]
        · rw [f3 hfit]
          show some (Sum.inl (nI (cnt (canC w) k), nI k + 1)) = _
          rw [nI_1]
    · show f_X7_countCuttable_L4 q _ (nI 30) = _
      unfold f_X7_countCuttable_L4
      rw [if_pos (show (30 : Int32) ≤ nI 30 from Int32.le_refl _)]
  unfold f_X10_cuttableCells f_X7_countCuttable
  rw [show ((0 : Int32), (0 : Int32)) = (nI (cnt (canC w) 0), nI 0) from rfl, hl]
  rfl
theorem hf_ok : ∀ h : Fin 10, f_X7_heightFault (nI h.val) = some 0 := by decide +kernel
theorem tq_cellsAt (tv : TV) (hr : RelQ q w) (h : Nat) (hh : h < 10) : f_X10_cellsAt tv q (nI h) = some (.inr (cAt w (nI h) 30)) := by
  unfold f_X10_cellsAt
  simp only [hf_ok ⟨h, hh⟩, ob_s, rf_0, jm_r, q_countAt hr]
theorem hf_10 : f_X7_heightFault 10 = some 2 := by decide +kernel
theorem tq_cellsAt10 (tv : TV) : f_X10_cellsAt tv q 10 = some (.inl 1) := by
  unfold f_X10_cellsAt
  simp only [hf_10, ob_s, rf_2, jm_l]
theorem lf_ok (hr : RelQ q w) (hi : InvW t w) (h : AtC a b c) (n : Nat) (hn : n ≤ vN (w (19 + 7 * c))) : f_X7_lowerFault q a b (nI n) = some 0 := by
  obtain ⟨g1, g2⟩ := h.g
  obtain ⟨x, hx, ex⟩ := hi.h c h.1
  rw [ex, vN_nI (by omega)] at hn
  unfold f_X7_lowerFault
  simp only [g1, g2, ob_s, n06, ↓reduceIte, if_pos (nIin h.1 (by decide : 30 < 2 ^ 31)), nI_clamp (show c < 2 ^ 31 by have := h.1; omega), hr.h c h.1, ex]
  rw [if_neg (show ¬ nI n < 0 from by rw [show (0 : Int32) = nI 0 from rfl, nI_ltI (by omega) (by omega)]; omega), if_neg (show ¬ nI x < nI n from by rw [nI_ltI (by omega) (by omega)]; omega)]
  rfl
theorem tq_lower (tv : TV) (hr : RelQ q w) (hi : InvW t w) (h : AtC a b c) (n L : Nat) (hn : n ≤ vN (w (19 + 7 * c))) (hL : w 0 = nI L) (hL4 : L ≤ 4) : f_X10_cutsToLower tv q a b (nI n) = some (.inr (nI (sumN (lw w L c n) 30))) := by
  unfold f_X10_cutsToLower
  have := hh_9 hi c h.1
  simp only [lf_ok hr hi h n hn, h.g.2, ob_s, rf_0, jm_r, q_dist hr hi c n L h.1 (by omega) hL hL4]
theorem tq_spread (tv : TV) (hr : RelQ q w) (hi : InvW t w) (sv : SV) (h : AtC a b c) (n L : Nat) (hn : n ≤ vN (w (19 + 7 * c))) (hL : w 0 = nI L) (hL4 : L ≤ 4) : ∃ sv', f_X10_cutsToLowerBySpreading tv q sv a b (nI n) = some (.inr (nI (sumN (lw w L c n) 30), sv')) := by
  obtain ⟨sv', hs⟩ := q_spread hr hi sv c n L h.1 hn hL hL4
  refine ⟨sv', ?_⟩
  unfold f_X10_cutsToLowerBySpreading
  simp only [lf_ok hr hi h n hn, h.g.2, ob_s, rf_0, jm_r, hs]
theorem lf_10 (hr : RelQ q w) (hi : InvW t w) : f_X7_lowerFault q 0 0 10 = some 2 := by
  have h : AtC 0 0 0 := AtC.rc (r := 0) (k := 0) (by omega) (by omega)
  obtain ⟨g1, g2⟩ := h.g
  obtain ⟨x, hx, ex⟩ := hi.h 0 (by omega)
  have e0 : qHeights q 0 = nI x := (hr.h 0 (by omega)).trans ex
  unfold f_X7_lowerFault
  simp only [g1, g2, ob_s, n06, ↓reduceIte, if_pos (nIin (c := 0) (N := 30) (by omega) (by decide)), nI_clamp (show 0 < 2 ^ 31 by omega), e0]
  rw [if_neg (by decide), if_pos (show nI x < (10 : Int32) from by rw [show (10 : Int32) = nI 10 from rfl, nI_ltI (by omega) (by omega)]; omega)]
  rfl
theorem tq_lower10 (tv : TV) (hr : RelQ q w) (hi : InvW t w) : f_X10_cutsToLower tv q 0 0 10 = some (.inl 1) := by
  unfold f_X10_cutsToLower
  simp only [lf_10 hr hi, ob_s, rf_2, jm_l]
theorem cf_bad : f_X3_cellFault 5 0 = some 1 ∧ f_X3_cellFault 0 (-1) = some 1 ∧ f_X3_cellFault 0 6 = some 1 ∧ f_X3_cellFault 0 0 = some 0 := by decide +kernel
theorem lf_bad : f_X7_lowerFault q 0 6 0 = some 1 := by
  unfold f_X7_lowerFault
  simp only [cf_bad.2.2.1, ob_s, n16, n10, ↓reduceIte]
theorem tq_spread6 (tv : TV) (sv : SV) : f_X10_cutsToLowerBySpreading tv q sv 0 6 0 = some (.inl (0, sv)) := by
  unfold f_X10_cutsToLowerBySpreading
  simp only [lf_bad, ob_s, rf_1, jm_l]
theorem tq_height5 (tv : TV) : f_X10_height tv q 5 0 = some (.inl 0) ∧ f_X10_height tv q 0 (-1) = some (.inl 0) := by
  unfold f_X10_height
  simp only [cf_bad.1, cf_bad.2.1, ob_s, rf_1, jm_l, and_self]
theorem tq_size (tv : TV) (hr : RelQ q w) (hi : InvW t w) (sv : SV) (h : AtC a b c) : ∃ sv', f_X10_seamSize tv q sv a b = some (.inr (nI (sumN (sgW w c 0) 30), sv')) := by
  obtain ⟨sv', hs⟩ := q_size hr hi sv c h.1
  refine ⟨sv', ?_⟩
  unfold f_X10_seamSize
  simp only [h.g.1, h.g.2, ob_s, rf_0, jm_r, hs]
theorem tq_volume (tv : TV) (hr : RelQ q w) (hi : InvW t w) (sv : SV) (h : AtC a b c) : ∃ sv', f_X10_seamVolume tv q sv a b = some (.inr (nI (sumN (sgW w c 1) 30), sv')) := by
  obtain ⟨sv', hs⟩ := q_volume hr hi sv c h.1
  refine ⟨sv', ?_⟩
  unfold f_X10_seamVolume
  simp only [h.g.1, h.g.2, ob_s, rf_0, jm_r, hs]
theorem tq_count (tv : TV) (hr : RelQ q w) (hi : InvW t w) (sv : SV) (f : Nat → Nat) (hf : LOk w f) (hcf : ∀ c d, c < 30 → pos w c → Cn (SE w) c d → f c = f d) : ∃ sv', f_X10_seamCount tv q sv = some (nI (cnt (isOne w f) 30), sv') := by
  obtain ⟨sv', hs⟩ := q_search hr hi sv f hf hcf
  refine ⟨sv', ?_⟩
  unfold f_X10_seamCount
  simp only [hs, ob_s]
theorem tq_merge (tv : TV) (hr : RelQ q w) (hi : InvW t w) (sv : SV) (f : Nat → Nat) (hf : LOk w f) (hcf : ∀ c d, c < 30 → pos w c → Cn (SE w) c d → f c = f d) : ∃ sv', f_X10_seamCountByMerging tv q sv = some (nI (cnt (isOne w f) 30), sv') := by
  obtain ⟨sv', hs⟩ := q_merge hr hi sv f hf hcf
  refine ⟨sv', ?_⟩
  unfold f_X10_seamCountByMerging
  simp only [hs, ob_s]
theorem tq_foot (tv : TV) (hr : RelQ q w) (hi : InvW t w) (sv : SV) {a' b' : Int32} {c' : Nat} (h : AtC a b c) (h' : AtC a' b' c') : ∃ r sv', Dist w c c' r ∧ f_X10_footpath tv q sv a b a' b' = if r = -1 then some (.inl (2, sv')) else some (.inr (r, sv')) := by
  obtain ⟨r, sv', hp, hd⟩ := q_path hr hi sv c c' h.1 h'.1
  refine ⟨r, sv', hd, ?_⟩
  unfold f_X10_footpath
  simp only [h.g.1, h.g.2, h'.g.1, h'.g.2, ob_s, rf_0, jm_r, hp, jb_u]
theorem tq_foot5 (tv : TV) (sv : SV) : f_X10_footpath tv q sv 0 0 5 0 = some (.inl (0, sv)) ∧ f_X10_footpath tv q sv 0 6 0 0 = some (.inl (0, sv)) := by
  unfold f_X10_footpath
  simp only [cf_bad.1, cf_bad.2.2.1, cf_bad.2.2.2, ob_s, rf_0, rf_1, jm_l, jm_r, and_self]
theorem tq_winches (tv : TV) (hr : RelQ q w) : f_X10_winchCount tv q = some (w 5) := by
  show (some (qWinches q)).bind _ = _
  rw [hr.nw]; rfl
theorem tq_liftable (tv : TV) (hr : RelQ q w) (hi : InvW t w) (n i : Nat) (hn : n ≤ 3) (en : w 5 = nI n) (h : i < n) : f_X10_liftableCells tv q (nI i) = some (.inr (nI (cnt (canL w i) 30))) := by
  have hw := q_hasWi hr en hn h
  unfold f_X10_liftableCells
  simp only [hw, ob_s, i10, ↓reduceIte, q_countL hr hi i (by omega) hw]
theorem hw_bad (hr : RelQ q w) (n : Nat) (hn : n ≤ 3) (en : w 5 = nI n) : f_X7_hasWinch q (nI n) = some 0 ∧ f_X7_hasWinch q (-1) = some 0 := by
  have e : qWinches q = nI n := hr.nw.trans en
  constructor
  · unfold f_X7_hasWinch
    rw [if_neg (show ¬ nI n < 0 from by rw [show (0 : Int32) = nI 0 from rfl, nI_ltI (by omega) (by omega)]; omega), e, if_pos (Int32.le_refl _)]
  · unfold f_X7_hasWinch
    rw [if_pos (by decide)]
theorem tq_liftable0 (tv : TV) (hr : RelQ q w) (n : Nat) (hn : n ≤ 3) (en : w 5 = nI n) : f_X10_liftableCells tv q (nI n) = some (.inl 0) ∧ f_X10_liftableCells tv q (-1) = some (.inl 0) := by
  obtain ⟨h1, h2⟩ := hw_bad hr n hn en
  unfold f_X10_liftableCells
  simp only [h1, h2, ob_s, ↓reduceIte, and_self]
theorem tq_best (tv : TV) (hr : RelQ q w) (hi : InvW t w) (n : Nat) (hn : n ≤ 3) (en : w 5 = nI n) (h : AtC a b c) : (best w c n = none → f_X10_bestWinch tv q a b = some (.inl 2)) ∧ (∀ x, best w c n = some x → f_X10_bestWinch tv q a b = some (.inr (nI x))) := by
  obtain ⟨g1, g2⟩ := h.g
  obtain ⟨r, k, hrr, hk, rfl, rfl, rfl⟩ := h.u
  have hb := q_best hr hi r k n hrr hk hn en
  refine ⟨fun e => ?_, fun x e => ?_⟩
  · unfold f_X10_bestWinch
    rw [e] at hb
    simp only [g1, ob_s, rf_0, jm_r, hb, show enc none = (-1 : Int32) from rfl, ↓reduceIte]
  · have := best_lt n x e
    unfold f_X10_bestWinch
    rw [e] at hb
    simp only [g1, ob_s, rf_0, jm_r, hb, if_neg (enc_ne (d := x) (by omega))]
    rfl
theorem tq_best5 (tv : TV) : f_X10_bestWinch tv q 5 0 = some (.inl 0) := by
  unfold f_X10_bestWinch
  simp only [cf_bad.1, ob_s, rf_1, jm_l]
theorem is_ok : (∀ s : Fin 4, f_X7_isStone (nI s.val) = some 1) ∧ f_X7_isStone 4 = some 0 := by decide +kernel
theorem tq_inYard (tv : TV) (hr : RelQ q w) (s : Nat) (hs : s < 4) : f_X10_inYard tv q (nI s) = some (.inr (w (6 + s))) := by
  unfold f_X10_inYard f_X7_yardBlocks
  simp only [is_ok.1 ⟨s, hs⟩, ob_s, i10, ↓reduceIte, if_pos (nIin hs (by decide : 4 < 2 ^ 31)), nI_clamp (show s < 2 ^ 31 by omega), hr.yd s hs]
theorem tq_inYard4 (tv : TV) : f_X10_inYard tv q 4 = some (.inl 1) := by
  unfold f_X10_inYard
  simp only [is_ok.2, ob_s, ↓reduceIte]
theorem tq_rubble (tv : TV) (hr : RelQ q w) : f_X10_rubble tv q = some (w 1) := by
  show (some (qRubble q)).bind _ = _
  rw [hr.rub]; rfl
theorem tq_limit (tv : TV) (hr : RelQ q w) : f_X10_stepLimit tv q = some (w 0) := by
  show (some (qLimit q)).bind _ = _
  rw [hr.lim]; rfl
theorem tq_cuts (tv : TV) (hr : RelQ q w) : f_X10_cutTotal tv q = some (w 2) := by
  show (some (qCuts q)).bind _ = _
  rw [hr.cuts]; rfl
theorem tq_work (tv : TV) (hr : RelQ q w) : f_X10_workTotal tv q = some ((w 4).toInt64) := by
  show (some (qWork q)).bind _ = _
  rw [hr.work]; rfl
end
