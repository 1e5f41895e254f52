/-! counts over the cells -/
theorem lb_tell {T : Nat} {S : Sys} (h : RelS T S) {α : Type} [DecidableEq α] (C : Option α) (M : Option (α × MV)) (hask : ∃ x m', C = some x ∧ M = some (x, m') ∧ Kept S.mv m') (ol : Nat → Int64) (od : Nat → UInt64) :
    ∃ r : LR, (C.bind fun o2 => M.bind fun o4 => if o2 = o4.1 then some ((mkS S.ep S.fc S.qv S.bv S.sv S.hv S.pv S.ov S.svd o4.2), ol, od) else none) = some r ∧ RelS (T + 1) r.1 := by
  obtain ⟨x, m', h1, h2, h3⟩ := hask
  refine ⟨((mkS S.ep S.fc S.qv S.bv S.sv S.hv S.pv S.ov S.svd m'), ol, od), ?_, h.kept (sv' := S.sv) h3⟩
  rw [h1, h2]
  show (if x = x then some _ else none) = _
  rw [if_pos rfl]
def cAt (w : Nat → Int32) (a : Int32) (n : Nat) : Int32 := itr (fun c x => if w (19 + 7 * c) = a then x + 1 else x) 0 n
theorem q_countAt {q : QV} {w : Nat → Int32} (hr : RelQ q w) (a : Int32) : f_X7_countAt q a = some (cAt w a 30) := by
  have hl : jbL (fun s => f_X7_countAt_L4 q a s.1 s.2) 5000 (cAt w a 0, nI 0) = some (cAt w a 30, nI 30) := by
    refine lpD (fun k => (cAt w a k, nI k)) _ 30 (fun k hk => ?_) ?_ 5000 (by decide)
    · show f_X7_countAt_L4 q a (cAt w a k) (nI k) = some (Sum.inl ((if w (19 + 7 * k) = a then cAt w a k + 1 else cAt w a k), nI (k + 1)))
      unfold f_X7_countAt_L4
      rw [if_neg (show ¬ (30 : Int32) ≤ nI k from nI_ge (a := k) (b := 30) hk (by decide)), if_pos (nIin hk (by decide)), nI_clamp (by omega), hr.h k hk]
      by_cases e : w (19 + 7 * k) = a
      · rw [if_pos e, if_pos e]
        show some (Sum.inl (cAt w a k + 1, nI k + 1)) = _
        rw [nI_1]
      · rw [if_neg e, if_neg e]
        show some (Sum.inl (cAt w a k, nI k + 1)) = _
        rw [nI_1]
    · show f_X7_countAt_L4 q a _ (nI 30) = _
      unfold f_X7_countAt_L4
      rw [if_pos (show (30 : Int32) ≤ nI 30 from Int32.le_refl _)]
  unfold f_X7_countAt
  rw [show ((0 : Int32), (0 : Int32)) = (cAt w a 0, nI 0) from rfl, hl]
  rfl
theorem m_cellsAt (m : MV) (a : Int32) : f_X11_cellsAt m a = (f_X11_isIn a 0 9).bind fun o1 => (f_X11_goes m o1).bind fun o3 => if o3.1 = 0 then some (0, o3.2) else some (cAt (mNow m) a 30, o3.2) := by
  have hl : jbL (fun s => f_X11_cellsAt_L4 m a s.1 s.2) 5000 (cAt (mNow m) a 0, nI 0) = some (cAt (mNow m) a 30, nI 30) := by
    refine lpD (fun k => (cAt (mNow m) a k, nI k)) _ 30 (fun k hk => ?_) ?_ 5000 (by decide)
    · show f_X11_cellsAt_L4 m a (cAt (mNow m) a k) (nI k) = some (Sum.inl ((if mNow m (19 + 7 * k) = a then cAt (mNow m) a k + 1 else cAt (mNow m) a k), nI (k + 1)))
      have o0 : f_X11_of m (nI k) 0 = some (mNow m (19 + 7 * k)) := by rw [show (0 : Int32) = nI 0 from rfl, m_of k 0 (by omega)]; rfl
      unfold f_X11_cellsAt_L4
      rw [if_neg (show ¬ (30 : Int32) ≤ nI k from nI_ge (a := k) (b := 30) hk (by decide)), o0]
      show (if mNow m (19 + 7 * k) = a then f_X11_cellsAt_J26 m a (nI k) 1 (cAt (mNow m) a k) else f_X11_cellsAt_J26 m a (nI k) 0 (cAt (mNow m) a k)) = _
      by_cases e : mNow m (19 + 7 * k) = a
      · rw [if_pos e, if_pos e]
        show some (Sum.inl (cAt (mNow m) a k + 1, nI k + 1)) = _
        rw [nI_1]
      · rw [if_neg e, if_neg e]
        show some (Sum.inl (cAt (mNow m) a k + 0, nI k + 1)) = _
        rw [nI_1, Int32.add_zero]
    · show f_X11_cellsAt_L4 m a _ (nI 30) = _
      unfold f_X11_cellsAt_L4
      rw [if_pos (show (30 : Int32) ≤ nI 30 from Int32.le_refl _)]
  unfold f_X11_cellsAt
  rw [show ((0 : Int32), (0 : Int32)) = (cAt (mNow m) a 0, nI 0) from rfl, hl]
  rfl
theorem ask_cellsAt {S : Sys} {T : Nat} (h : RelS T S) (tv : TV) (a : Int32) : Ask [1] (f_X10_cellsAt tv S.qv a) (f_X11_cellsAt S.mv a) S.mv := by
  have hm := m_cellsAt S.mv a
  by_cases h1 : a < 0
  · right
    refine ⟨1, 0, 0, mSThrown 1 S.mv, by unfold f_X10_cellsAt f_X7_heightFault; rw [if_pos h1]; rfl, by omega, rfl, ?_, Kept.thrown _ _, rfl⟩
    rw [hm]
    unfold f_X11_isIn
    rw [if_pos h1]
    simp only [ob_s, m_goes1, ↓reduceIte]
  · by_cases h2 : 9 < a
    · right
      refine ⟨1, 0, 0, mSThrown 1 S.mv, by unfold f_X10_cellsAt f_X7_heightFault; rw [if_neg h1, if_pos h2]; rfl, by omega, rfl, ?_, Kept.thrown _ _, rfl⟩
      rw [hm]
      unfold f_X11_isIn
      rw [if_neg h1, if_pos h2]
      simp only [ob_s, m_goes1, ↓reduceIte]
    · left
      refine ⟨cAt (mNow S.mv) a 30, mSThrown 0 S.mv, ?_, ?_, Kept.thrown _ _, rfl⟩
      · unfold f_X10_cellsAt f_X7_heightFault
        rw [if_neg h1, if_neg h2, q_countAt h.q]
        rfl
      · rw [hm]
        unfold f_X11_isIn
        rw [if_neg h1, if_neg h2]
        simp only [ob_s, m_goes0, i10, ↓reduceIte]
/-- the cells that could be cut -/
theorem m_mayCut2 (m : MV) (c : Nat) (hc : c < 30) (r k : Nat) (hrr : r < 5) (hk : k < 6) (e : 6 * r + k = c) : ∃ x y, f_X11_mayCut m (nI r) (nI k) = some (x, mSThrown y m) ∧ ((fitCut (mNow m) c ∧ ¬ mNow m 0 < stp (mNow m) c (mNow m (19 + 7 * c) - 1)) → x = 1 ∧ y = 0) ∧ (¬ (fitCut (mNow m) c ∧ ¬ mNow m 0 < stp (mNow m) c (mNow m (19 + 7 * c) - 1)) → x = 0) := by
  obtain ⟨g1, g2, g3, g4⟩ := g_cell r k hrr hk
  rw [e] at g4
  have hm := m_mayCut m (nI r) (nI k) c hc g4 1 g3
  by_cases hfit : fitCut (mNow m) c
  · rw [if_pos hfit] at hm
    by_cases hst : mNow m 0 < stp (mNow m) c (mNow m (19 + 7 * c) - 1)
    · rw [if_pos hst] at hm
      exact ⟨0, 3, hm.trans (m_J76 m 0 0).2.2.1, fun h => absurd hst h.2, fun _ => rfl⟩
    · rw [if_neg hst] at hm
      exact ⟨1, 0, hm.trans (m_J76 m 0 0).2.2.2, fun _ => ⟨rfl, rfl⟩, fun h => absurd ⟨hfit, hst⟩ h⟩
  · rw [if_neg hfit] at hm
    exact ⟨0, 2, hm.trans (m_J76 m _ 0).2.1, fun h => absurd h.1 hfit, fun _ => rfl⟩
theorem ask_canCut {S : Sys} {T : Nat} (h : RelS T S) (tv : TV) (a b : Int32) : Ask [0] (f_X10_canCut tv S.qv a b) (f_X11_canCut S.mv a b) S.mv := by
  rcases cell_or a b with ⟨r, k, hrr, hk, rfl, rfl⟩ | ⟨h1, h2, h3⟩
  · left
    obtain ⟨g1, g2, g3, g4⟩ := g_cell r k hrr hk
    obtain ⟨f1, f2, f3⟩ := q_cutFault h.q r k hrr hk
    obtain ⟨x, y, hm, hx1, hx0⟩ := m_mayCut2 S.mv (6 * r + k) (by omega) r k hrr hk rfl
    have hM : f_X11_canCut S.mv (nI r) (nI k) = if x = 0 then some (0, mSThrown 0 (mSThrown y S.mv)) else some (1, mSThrown 0 (mSThrown y S.mv)) := by
      unfold f_X11_canCut
      simp only [hm, g3, ob_s, jb_u, m_goes0, i10, ↓reduceIte]
    by_cases hcan : fitCut (mNow S.mv) (6 * r + k) ∧ ¬ mNow S.mv 0 < stp (mNow S.mv) (6 * r + k) (mNow S.mv (19 + 7 * (6 * r + k)) - 1)
    · refine ⟨1, mSThrown 0 (mSThrown y S.mv), ?_, by rw [hM, (hx1 hcan).1]; rfl, (Kept.thrown _ _).tr (Kept.thrown _ _), rfl⟩
      unfold f_X10_canCut
      rw [g1, f1 hcan.1 hcan.2]
      rfl
    · refine ⟨0, mSThrown 0 (mSThrown y S.mv), ?_, by rw [hM, hx0 hcan]; rfl, (Kept.thrown _ _).tr (Kept.thrown _ _), rfl⟩
      unfold f_X10_canCut
      rw [g1]
      by_cases hfit : fitCut (mNow S.mv) (6 * r + k)
      · rw [f2 hfit (Classical.byContradiction fun h9 => hcan ⟨hfit, h9⟩)]
        rfl
      · rw [f3 hfit]
        rfl
  · right
    have hm := m_mayCut S.mv a b 0 (by decide) h3 0 h2
    have hm2 : f_X11_mayCut S.mv a b = some (0, mSThrown 1 S.mv) := by
      rw [hm]
      split <;> exact (m_J76 S.mv _ _).1
    refine ⟨0, 0, 0, mSThrown 1 (mSThrown 1 S.mv), by unfold f_X10_canCut; rw [h1]; rfl, by omega, rfl, ?_, (Kept.thrown _ _).tr (Kept.thrown _ _), rfl⟩
    unfold f_X11_canCut
    simp only [hm2, h2, ob_s, jb_u, m_goes1, ↓reduceIte]
