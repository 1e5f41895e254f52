theorem ask_stone {S : Sys} {T : Nat} (h : RelS T S) (tv : TV) (a b : Int32) : Ask [0] (f_X10_stone tv S.qv a b) (f_X11_stone S.mv a b) S.mv := by
  obtain ⟨m1, m2⟩ := m_asks S.mv a b 1 (by omega)
  rcases cell_or a b with ⟨r, k, hrr, hk, rfl, rfl⟩ | ⟨h1, h2, h3⟩
  · left
    obtain ⟨g1, g2, g3, g4⟩ := g_cell r k hrr hk
    have hc : 6 * r + k < 30 := by omega
    refine ⟨mNow S.mv (19 + 7 * (6 * r + k) + 1), mSThrown 0 S.mv, ?_, ?_, Kept.thrown _ _, rfl⟩
    · unfold f_X10_stone f_X7_stoneAt
      simp only [g1, g2, ob_s, rf_0, jm_r, if_pos (nIin hc (by decide : 30 < 2 ^ 31)), nI_clamp (show 6 * r + k < 2 ^ 31 by omega), h.q.s _ hc, show 20 + 7 * (6 * r + k) = 19 + 7 * (6 * r + k) + 1 by omega]
    · unfold f_X11_stone
      rw [show (1 : Int32) = nI 1 from rfl, m1 r k hrr hk rfl rfl]
      simp only [ob_s, Nat.add_zero]
      try rfl
  · right
    refine ⟨0, 0, 0, mSThrown 1 S.mv, by unfold f_X10_stone; simp only [h1, ob_s, rf_1, jm_l], by omega, rfl, ?_, Kept.thrown _ _, rfl⟩
    unfold f_X11_stone
    rw [show (1 : Int32) = nI 1 from rfl, m2 h2]
    simp only [ob_s]
    try rfl
theorem ask_loose {S : Sys} {T : Nat} (h : RelS T S) (tv : TV) (a b : Int32) : Ask [0] (f_X10_looseBlocks tv S.qv a b) (f_X11_looseBlocks S.mv a b) S.mv := by
  obtain ⟨m1, m2⟩ := m_asks S.mv a b 3 (by omega)
  rcases cell_or a b with ⟨r, k, hrr, hk, rfl, rfl⟩ | ⟨h1, h2, h3⟩
  · left
    obtain ⟨g1, g2, g3, g4⟩ := g_cell r k hrr hk
    have hc : 6 * r + k < 30 := by omega
    refine ⟨mNow S.mv (19 + 7 * (6 * r + k) + 3), mSThrown 0 S.mv, ?_, ?_, Kept.thrown _ _, rfl⟩
    · unfold f_X10_looseBlocks f_X7_blocksAt
      simp only [g1, g2, ob_s, rf_0, jm_r, if_pos (nIin hc (by decide : 30 < 2 ^ 31)), nI_clamp (show 6 * r + k < 2 ^ 31 by omega), h.q.n _ hc, show 22 + 7 * (6 * r + k) = 19 + 7 * (6 * r + k) + 3 by omega]
    · unfold f_X11_looseBlocks
      rw [show (3 : Int32) = nI 3 from rfl, m1 r k hrr hk rfl rfl]
      simp only [ob_s, Nat.add_zero]
      try rfl
  · right
    refine ⟨0, 0, 0, mSThrown 1 S.mv, by unfold f_X10_looseBlocks; simp only [h1, ob_s, rf_1, jm_l], by omega, rfl, ?_, Kept.thrown _ _, rfl⟩
    unfold f_X11_looseBlocks
    rw [show (3 : Int32) = nI 3 from rfl, m2 h2]
    simp only [ob_s]
    try rfl
theorem ask_ledge {S : Sys} {T : Nat} (h : RelS T S) (tv : TV) (a b : Int32) : Ask [0] (f_X10_isLedge tv S.qv a b) (f_X11_isLedge S.mv a b) S.mv := by
  obtain ⟨m1, m2⟩ := m_asks S.mv a b 2 (by omega)
  rcases cell_or a b with ⟨r, k, hrr, hk, rfl, rfl⟩ | ⟨h1, h2, h3⟩
  · left
    obtain ⟨g1, g2, g3, g4⟩ := g_cell r k hrr hk
    have hc : 6 * r + k < 30 := by omega
    obtain ⟨n, hn, en⟩ := h.w.l _ hc
    have en2 : mNow S.mv (19 + 7 * (6 * r + k) + 2) = nI n := by rw [show 19 + 7 * (6 * r + k) + 2 = 21 + 7 * (6 * r + k) by omega]; exact en
    refine ⟨nI n, mSThrown 0 S.mv, ?_, ?_, Kept.thrown _ _, rfl⟩
    · unfold f_X10_isLedge f_X7_hasLedgeAt
      simp only [g1, g2, ob_s, rf_0, jm_r, if_pos (nIin hc (by decide : 30 < 2 ^ 31)), nI_clamp (show 6 * r + k < 2 ^ 31 by omega), h.q.l _ hc, en, nar_le1 hn, ↓reduceIte]
    · unfold f_X11_isLedge
      rw [show (2 : Int32) = nI 2 from rfl, m1 r k hrr hk rfl rfl, en2]
      simp only [ob_s]
      rcases (show n = 0 ∨ n = 1 by omega) with rfl | rfl
      · rw [if_neg (by decide +kernel)]; rfl
      · rw [if_pos (show nI 1 = (1 : Int32) from rfl)]; rfl
  · right
    refine ⟨0, 0, 0, mSThrown 1 S.mv, by unfold f_X10_isLedge; simp only [h1, ob_s, rf_1, jm_l], by omega, rfl, ?_, Kept.thrown _ _, rfl⟩
    unfold f_X11_isLedge
    rw [show (2 : Int32) = nI 2 from rfl, m2 h2]
    simp only [ob_s, if_neg (show ¬ (0 : Int32) = 1 by decide)]
theorem m_J26 (m : MV) (x y z : Int32) : f_X11_topBlock_J26 m x y 0 = some (0, mSThrown 1 m) ∧ f_X11_topBlock_J26 m x 0 1 = some (0, mSThrown 2 m) ∧ f_X11_topBlock_J26 m x 1 1 = some (x, mSThrown 0 m) := by
  unfold f_X11_topBlock_J26
  rw [m_holds1, m_holds2, m_holds0]
  simp only [ob_s, i10, ↓reduceIte, and_self]
theorem ask_top {S : Sys} {T : Nat} (h : RelS T S) (tv : TV) (a b : Int32) : Ask [0, 2] (f_X10_topBlock tv S.qv a b) (f_X11_topBlock S.mv a b) S.mv := by
  rcases cell_or a b with ⟨r, k, hrr, hk, rfl, rfl⟩ | ⟨h1, h2, h3⟩
  · obtain ⟨g1, g2, g3, g4⟩ := g_cell r k hrr hk
    have hc : 6 * r + k < 30 := by omega
    generalize 6 * r + k = c at *
    obtain ⟨cn, hcn, ecn⟩ := h.w.n c hc
    obtain ⟨t0, t1⟩ := m_topOf S.mv c cn hc hcn ecn
    have htop : f_X7_topFault S.qv (nI r) (nI k) = if nI cn ≤ 0 then some 3 else some 0 := by
      unfold f_X7_topFault
      simp only [g1, g2, ob_s, n06, ↓reduceIte, if_pos (nIin hc (by decide : 30 < 2 ^ 31)), nI_clamp (show c < 2 ^ 31 by omega), h.q.n c hc, ecn]
    rcases (show cn = 0 ∨ ∃ j, cn = j + 1 from by cases cn with | zero => exact Or.inl rfl | succ j => exact Or.inr ⟨j, rfl⟩) with e | ⟨j, e⟩
    · subst e
      right
      refine ⟨2, 1, 0, mSThrown 2 S.mv, ?_, by omega, rfl, ?_, Kept.thrown _ _, rfl⟩
      · unfold f_X10_topBlock
        rw [htop, if_pos (show nI 0 ≤ (0 : Int32) from Int32.le_refl _)]
        simp only [ob_s, rf_3, jm_l]
      · unfold f_X11_topBlock
        simp only [g4, g3, t0 rfl, ob_s, ↓reduceIte]
        exact (m_J26 S.mv (-1) 0 0).2.1
    · subst e
      obtain ⟨s, hs, es⟩ := h.w.b c j hc (by omega)
      have hne : ¬ nI s = -1 := (by decide +kernel : ∀ s : Fin 4, ¬ nI s.val = -1) ⟨s, by omega⟩
      left
      refine ⟨nI s, mSThrown 0 S.mv, ?_, ?_, Kept.thrown _ _, rfl⟩
      · unfold f_X10_topBlock
        have hle0 : ¬ nI (j + 1) ≤ (0 : Int32) := by rw [show (0 : Int32) = nI 0 from rfl, nI_leI (by omega) (by omega)]; omega
        simp only [htop, if_neg hle0, g2, ob_s, rf_0, jm_r, q_topStone h.q c j hc (by omega) ecn, es]
      · unfold f_X11_topBlock
        simp only [g4, g3, t1 j rfl, es, ob_s, if_neg hne]
        exact (m_J26 S.mv (nI s) 0 0).2.2
  · right
    have hdef : ∃ x, f_X11_topOf S.mv 0 = some x := by
      obtain ⟨cn, hcn, ecn⟩ := h.w.n 0 (by decide)
      obtain ⟨t0, t1⟩ := m_topOf S.mv 0 cn (by decide) hcn ecn
      rcases (show cn = 0 ∨ ∃ j, cn = j + 1 from by cases cn with | zero => exact Or.inl rfl | succ j => exact Or.inr ⟨j, rfl⟩) with e | ⟨j, e⟩
      · exact ⟨_, t0 e⟩
      · exact ⟨_, t1 j e⟩
    obtain ⟨x, hx⟩ := hdef
    refine ⟨0, 0, 0, mSThrown 1 S.mv, by unfold f_X10_topBlock f_X7_topFault; simp only [h1, ob_s, n16, n10, ↓reduceIte, rf_1, jm_l], by omega, rfl, ?_, Kept.thrown _ _, rfl⟩
    unfold f_X11_topBlock
    simp only [h3, hx, h2, ob_s, (m_J26 S.mv x 0 0).1, (m_J26 S.mv x 1 0).1, ite_self]
    try rfl
theorem ask_steep {S : Sys} {T : Nat} (h : RelS T S) (tv : TV) (a b : Int32) : Ask [0] (f_X10_steepestStep tv S.qv a b) (f_X11_steepestStep S.mv a b) S.mv := by
  rcases cell_or a b with ⟨r, k, hrr, hk, rfl, rfl⟩ | ⟨h1, h2, h3⟩
  · obtain ⟨g1, g2, g3, g4⟩ := g_cell r k hrr hk
    have hc : 6 * r + k < 30 := by omega
    generalize 6 * r + k = c at *
    left
    have o0 : f_X11_of (mSThrown 0 S.mv) (nI c) 0 = some (mNow S.mv (19 + 7 * c)) := by rw [show (0 : Int32) = nI 0 from rfl, m_of c 0 (by omega)]; rfl
    refine ⟨stp (mNow S.mv) c (mNow S.mv (19 + 7 * c)), mSThrown 0 S.mv, ?_, ?_, Kept.thrown _ _, rfl⟩
    · unfold f_X10_steepestStep
      simp only [g1, g2, ob_s, rf_0, jm_r, q_steepAt h.q c hc]
    · unfold f_X11_steepestStep
      simp only [g4, g3, ob_s, m_goes0, i10, ↓reduceIte, o0, m_steep c hc, mN2]
  · right
    refine ⟨0, 0, 0, mSThrown 1 S.mv, by unfold f_X10_steepestStep; simp only [h1, ob_s, rf_1, jm_l], by omega, rfl, ?_, Kept.thrown _ _, rfl⟩
    unfold f_X11_steepestStep
    simp only [h3, h2, ob_s, m_goes1, ↓reduceIte]
    try rfl
