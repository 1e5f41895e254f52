def wFill (w : Nat → Int32) (c : Nat) : Nat → Int32 := upd (upd w 1 (w 1 - 1)) (19 + 7 * c) (w (19 + 7 * c) + 1)
def qFill (q : QV) (c : Nat) : QV := qSHeights (upd (qHeights q) c (qHeights q c + 1)) (qSRubble (qRubble q - 1) q)
theorem RelQ.fill {q : QV} {w : Nat → Int32} (hr : RelQ q w) (c : Nat) (hc : c < 30) : RelQ (qFill q c) (wFill w c) := RelQ.mk
  (f_h := fun d hd => by
      show upd (qHeights q) c (qHeights q c + 1) d = wFill w c (19 + 7 * d)
      unfold wFill
      by_cases e : d = c
      · subst e; simp (disch := omega) only [upd_ne, upd_at]; rw [hr.h d hd]
      · rw [upd_ne _ _ e]; simp (disch := omega) only [upd_ne]; exact hr.h d hd)
  (f_s := fun d hd => by unfold wFill; simp (disch := omega) only [upd_ne]; exact hr.s d hd)
  (f_l := fun d hd => by unfold wFill; simp (disch := omega) only [upd_ne]; exact hr.l d hd)
  (f_n := fun d hd => by unfold wFill; simp (disch := omega) only [upd_ne]; exact hr.n d hd)
  (f_b := fun d j hd hj => by unfold wFill; simp (disch := omega) only [upd_ne]; exact hr.b d j hd hj)
  (f_wc := fun i hi => by unfold wFill; simp (disch := omega) only [upd_ne]; exact hr.wc i hi)
  (f_cp := fun i hi => by unfold wFill; simp (disch := omega) only [upd_ne]; exact hr.cp i hi)
  (f_rc := fun i hi => by unfold wFill; simp (disch := omega) only [upd_ne]; exact hr.rc i hi)
  (f_yd := fun i hi => by unfold wFill; simp (disch := omega) only [upd_ne]; exact hr.yd i hi)
  (f_lim := by unfold wFill; simp (disch := omega) only [upd_ne]; exact hr.lim)
  (f_rub := by unfold wFill; simp (disch := omega) only [upd_ne, upd_at]; show qRubble q - 1 = _; rw [hr.rub])
  (f_cuts := by unfold wFill; simp (disch := omega) only [upd_ne]; exact hr.cuts)
  (f_lifts := by unfold wFill; simp (disch := omega) only [upd_ne]; exact hr.lifts)
  (f_work := by unfold wFill; simp (disch := omega) only [upd_ne]; exact hr.work)
  (f_nw := by unfold wFill; simp (disch := omega) only [upd_ne]; exact hr.nw)
theorem InvW.fill {t : Nat} {w : Nat → Int32} (hi : InvW t w) (c x : Nat) (hc : c < 30) (hx : x ≤ 9) (hh : w (19 + 7 * c) + 1 = nI x) (hle : stp w c (nI x) ≤ w 0) : InvW t (wFill w c) := InvW.mk
  (f_h := fun d hd => by
      unfold wFill
      by_cases e : d = c
      · subst e; simp (disch := omega) only [upd_ne, upd_at]; exact ⟨x, hx, hh⟩
      · simp (disch := omega) only [upd_ne]; exact hi.h d hd)
  (f_s := fun d hd => by unfold wFill; simp (disch := omega) only [upd_ne]; exact hi.s d hd)
  (f_l := fun d hd => by unfold wFill; simp (disch := omega) only [upd_ne]; exact hi.l d hd)
  (f_n := fun d hd => by unfold wFill; simp (disch := omega) only [upd_ne]; exact hi.n d hd)
  (f_b := fun d j hd hj => by unfold wFill; simp (disch := omega) only [upd_ne]; exact hi.b d j hd hj)
  (f_wc := fun i h => by unfold wFill; simp (disch := omega) only [upd_ne]; exact hi.wc i h)
  (f_cp := fun i h => by unfold wFill; simp (disch := omega) only [upd_ne]; exact hi.cp i h)
  (f_rc := fun i h => by unfold wFill; simp (disch := omega) only [upd_ne]; exact hi.rc i h)
  (f_lim := by unfold wFill; simp (disch := omega) only [upd_ne]; exact hi.lim)
  (f_cuts := by unfold wFill; simp (disch := omega) only [upd_ne]; exact hi.cuts)
  (f_work := by unfold wFill; simp (disch := omega) only [upd_ne]; exact hi.work)
  (f_nw := by unfold wFill; simp (disch := omega) only [upd_ne]; exact hi.nw)
  (f_sum := by
      have h1 : itr (fun d y => y + wFill w c (22 + 7 * d)) 0 30 = itr (fun d y => y + w (22 + 7 * d)) 0 30 := itr_cong (N := 30) (fun d y hd => by unfold wFill; simp (disch := omega) only [upd_ne]) 30 (Nat.le_refl _)
      rw [h1]
      unfold wFill
      simp (disch := omega) only [upd_ne]
      exact hi.sum)
  (f_step := step_upd hi c x hc hx (by unfold wFill; simp (disch := omega) only [upd_ne, upd_at]; exact hh) (fun d hd hne => by unfold wFill; simp (disch := omega) only [upd_ne]) (by unfold wFill; simp (disch := omega) only [upd_ne]) hle)
abbrev fitFill (w : Nat → Int32) (c : Nat) : Prop := w (21 + 7 * c) = 0 ∧ ¬ 9 ≤ w (19 + 7 * c) ∧ w (22 + 7 * c) = 0 ∧ ¬ w 1 ≤ 0
theorem q_fillFault {q : QV} {w : Nat → Int32} {t : Nat} (hr : RelQ q w) (hi : InvW t w) (r k : Nat) (hrr : r < 5) (hk : k < 6) :
    (fitFill w (6 * r + k) → ¬ w 0 < stp w (6 * r + k) (w (19 + 7 * (6 * r + k)) + 1) → f_X7_fillFault q (nI r) (nI k) = some 0) ∧
    (fitFill w (6 * r + k) → w 0 < stp w (6 * r + k) (w (19 + 7 * (6 * r + k)) + 1) → f_X7_fillFault q (nI r) (nI k) = some 5) ∧
    (¬ fitFill w (6 * r + k) → f_X7_fillFault q (nI r) (nI k) = some 4) := by
  obtain ⟨g1, g2, g3, g4⟩ := g_cell r k hrr hk
  have hc : 6 * r + k < 30 := by omega
  generalize 6 * r + k = c at *
  have hj : jIn (nI c) 30 := nIin hc (by decide)
  have hcl : (nI c).toNatClampNeg = c := nI_clamp (by omega)
  have hn0 : 0 < w (22 + 7 * c) ↔ ¬ w (22 + 7 * c) = 0 := by
    obtain ⟨n, hn, e⟩ := hi.n c hc
    rw [e, show (0 : Int32) = nI 0 from rfl, nI_ltI (by omega) (by omega), nI_eq (by omega) (by omega)]
    omega
  have hr0 : 0 < w 1 ↔ ¬ w 1 ≤ 0 := by rw [Int32.not_le]
  have hun : f_X7_fillFault q (nI r) (nI k) = if w (21 + 7 * c) = 0 then (if 9 ≤ w (19 + 7 * c) then some 4 else if 0 < w (22 + 7 * c) then some 4 else (if 0 < w 1 then (if w 0 < stp w c (w (19 + 7 * c) + 1) then some 5 else some 0) else some 4)) else some 4 := by
    unfold f_X7_fillFault
    rw [g1, g2]
    simp only [ob_s, hcl, hr.l c hc, hr.h c hc, hr.n c hc, hr.lim, hr.rub, q_steep hr c hc, if_pos hj]
    rfl
  refine ⟨fun ⟨h1, h2, h3, h5⟩ h4 => ?_, fun ⟨h1, h2, h3, h5⟩ h4 => ?_, fun h => ?_⟩
  · rw [hun, if_pos h1, if_neg h2, if_neg (fun q => hn0.mp q h3), if_pos (hr0.mpr h5), if_neg h4]
  · rw [hun, if_pos h1, if_neg h2, if_neg (fun q => hn0.mp q h3), if_pos (hr0.mpr h5), if_pos h4]
  · rw [hun]
    by_cases h1 : w (21 + 7 * c) = 0
    · rw [if_pos h1]
      by_cases h2 : 9 ≤ w (19 + 7 * c)
      · rw [if_pos h2]
      · rw [if_neg h2]
        by_cases h3 : w (22 + 7 * c) = 0
        · rw [if_neg (fun q => hn0.mp q h3), if_neg (fun h5 => h ⟨h1, h2, h3, hr0.mp h5⟩)]
        · rw [if_pos (hn0.mpr h3)]
    · rw [if_neg h1]
theorem m_fills (m : MV) (a b : Int32) (c : Nat) (hc : c < 30) (g4 : f_X11_cellAt a b = some (nI c)) (y : Int32) (g3 : f_X11_isCell a b = some y) :
    f_X11_fills m a b = (if fitFill (mNow m) c then f_X11_fills_J86 m (nI c) (if mNow m 0 < stp (mNow m) c (mNow m (19 + 7 * c) + 1) then 0 else 1) 1 y else f_X11_fills_J86 m (nI c) (if mNow m 0 < stp (mNow m) c (mNow m (19 + 7 * c) + 1) then 0 else 1) 0 y) := by
  have o0 : f_X11_of m (nI c) 0 = some (mNow m (19 + 7 * c)) := by rw [show (0 : Int32) = nI 0 from rfl, m_of c 0 (by omega)]; rfl
  have o2 : f_X11_of m (nI c) 2 = some (mNow m (21 + 7 * c)) := by rw [show (2 : Int32) = nI 2 from rfl, m_of c 2 (by omega)]; congr 2; omega
  have o3 : f_X11_of m (nI c) 3 = some (mNow m (22 + 7 * c)) := by rw [show (3 : Int32) = nI 3 from rfl, m_of c 3 (by omega)]; congr 2; omega
  have hJ : ∀ z, f_X11_fills_J49 m a b (nI c) z = f_X11_fills_J86 m (nI c) (if mNow m 0 < stp (mNow m) c (mNow m (19 + 7 * c) + 1) then 0 else 1) z y := by
    intro z
    unfold f_X11_fills_J49
    simp only [g3, o0, ob_s, m_steep c hc, cl0, if_pos jl0]
    by_cases hC : mNow m 0 < stp (mNow m) c (mNow m (19 + 7 * c) + 1)
    · rw [if_pos hC, if_pos hC]
    · rw [if_neg hC, if_neg hC]
  have hJ8 : f_X11_fills_J48 m a b (nI c) = f_X11_fills_J86 m (nI c) (if mNow m 0 < stp (mNow m) c (mNow m (19 + 7 * c) + 1) then 0 else 1) 0 y := by
    unfold f_X11_fills_J48
    exact hJ 0
  unfold f_X11_fills
  simp only [g4, ob_s, o2, o0, o3, cl1, if_pos jl1]
  by_cases h1 : mNow m (21 + 7 * c) = 0
  · rw [if_pos h1]
    by_cases h2 : 9 ≤ mNow m (19 + 7 * c)
    · rw [if_pos h2, if_neg (show ¬ fitFill (mNow m) c from fun h => h.2.1 h2), hJ8]
    · rw [if_neg h2]
      by_cases h3 : mNow m (22 + 7 * c) = 0
      · rw [if_pos h3]
        by_cases h5 : mNow m 1 ≤ 0
        · rw [if_pos h5, if_neg (show ¬ fitFill (mNow m) c from fun h => h.2.2.2 h5), hJ8]
        · rw [if_neg h5, if_pos (show fitFill (mNow m) c from ⟨h1, h2, h3, h5⟩), hJ 1]
      · rw [if_neg h3, if_neg (show ¬ fitFill (mNow m) c from fun h => h3 h.2.2.1), hJ8]
  · rw [if_neg h1, if_neg (show ¬ fitFill (mNow m) c from fun h => h1 h.1), hJ8]
theorem m_J86 (m : MV) (z x y : Int32) : f_X11_fills_J86 m z x y 0 = some (0, mSThrown 1 m) ∧ f_X11_fills_J86 m z x 0 1 = some (0, mSThrown 2 m) ∧ f_X11_fills_J86 m z 0 1 1 = some (0, mSThrown 3 m) := by
  unfold f_X11_fills_J86
  rw [m_holds1, m_holds2, m_holds3]
  simp only [ob_s, ↓reduceIte, and_self]
/-- fill -/
theorem cmd_fill {t : Nat} {q : QV} {m : MV} (hr : RelQ q (mNow m)) (hi : InvW t (mNow m)) (a b : Int32) : Cmd t [0, 3, 4] (f_X7_fillFault q a b) (f_X7_fillCell q a b) (f_X11_fills m a b) m := by
  rcases cell_or a b with ⟨r, k, hrr, hk, rfl, rfl⟩ | ⟨h1, h2, h3⟩
  · obtain ⟨f1, f2, f3⟩ := q_fillFault hr hi r k hrr hk
    obtain ⟨g1, g2, g3, g4⟩ := g_cell r k hrr hk
    have hc : 6 * r + k < 30 := by omega
    generalize 6 * r + k = c at *
    have hm := m_fills m _ _ c hc g4 1 g3
    by_cases hfit : fitFill (mNow m) c
    · rw [if_pos hfit] at hm
      by_cases hst : mNow m 0 < stp (mNow m) c (mNow m (19 + 7 * c) + 1)
      · right
        rw [if_pos hst] at hm
        exact ⟨4, 0, 2, f2 hfit hst, by omega, by rw [hm, (m_J86 m (nI c) 0 0).2.2]; rfl, by omega, rfl⟩
      · left
        rw [if_neg hst] at hm
        obtain ⟨e1, e2, e3, e5⟩ := id hfit
        obtain ⟨x, hx, ex⟩ := hi.h c hc
        have hx9 : x < 9 := by
          rw [ex, show (9 : Int32) = nI 9 from rfl, nI_leI (by omega) (by omega)] at e2
          omega
        have exm : mNow m (19 + 7 * c) + 1 = nI (x + 1) := by rw [ex, nI_1]
        have hj : jIn (nI c) 30 := nIin hc (by decide)
        have hcl : (nI c).toNatClampNeg = c := nI_clamp (by omega)
        refine ⟨f1 hfit hst, nI (x + 1), qFill q c, wFill (mNow m) c, ?_, ?_, hr.fill c hc, (hi.fill c (x + 1) hc (by omega) exm (by rw [← exm]; exact Int32.not_lt.mp hst)).up (Nat.le_succ t)⟩
        · unfold f_X7_fillCell
          rw [g2]
          have hqh : qHeights q c + 1 = nI (x + 1) := by rw [hr.h c hc, exm]
          simp only [ob_s, hcl, if_pos hj, jb_u, qg0_0, qg0_1, qg0_2, qg0_3, qg0_4, qg0_5, qg0_6, qg0_7, qg0_8, qg0_9, qg0_10, qg0_11, qg0_12, qg0_13, qg0_14, qg1_0, qg1_1, qg1_2, qg1_3, qg1_4, qg1_5, qg1_6, qg1_7, qg1_8, qg1_9, qg1_10, qg1_11, qg1_12, qg1_13, qg1_14, qg2_0, qg2_1, qg2_2, qg2_3, qg2_4, qg2_5, qg2_6, qg2_7, qg2_8, qg2_9, qg2_10, qg2_11, qg2_12, qg2_13, qg2_14, qg3_0, qg3_1, qg3_2, qg3_3, qg3_4, qg3_5, qg3_6, qg3_7, qg3_8, qg3_9, qg3_10, qg3_11, qg3_12, qg3_13, qg3_14, qg4_0, qg4_1, qg4_2, qg4_3, qg4_4, qg4_5, qg4_6, qg4_7, qg4_8, qg4_9, qg4_10, qg4_11, qg4_12, qg4_13, qg4_14, qg5_0, qg5_1, qg5_2, qg5_3, qg5_4, qg5_5, qg5_6, qg5_7, qg5_8, qg5_9, qg5_10, qg5_11, qg5_12, qg5_13, qg5_14, qg6_0, qg6_1, qg6_2, qg6_3, qg6_4, qg6_5, qg6_6, qg6_7, qg6_8, qg6_9, qg6_10, qg6_11, qg6_12, qg6_13, qg6_14, qg7_0, qg7_1, qg7_2, qg7_3, qg7_4, qg7_5, qg7_6, qg7_7, qg7_8, qg7_9, qg7_10, qg7_11, qg7_12, qg7_13, qg7_14, qg8_0, qg8_1, qg8_2, qg8_3, qg8_4, qg8_5, qg8_6, qg8_7, qg8_8, qg8_9, qg8_10, qg8_11, qg8_12, qg8_13, qg8_14, qg9_0, qg9_1, qg9_2, qg9_3, qg9_4, qg9_5, qg9_6, qg9_7, qg9_8, qg9_9, qg9_10, qg9_11, qg9_12, qg9_13, qg9_14, qg10_0, qg10_1, qg10_2, qg10_3, qg10_4, qg10_5, qg10_6, qg10_7, qg10_8, qg10_9, qg10_10, qg10_11, qg10_12, qg10_13, qg10_14, qg11_0, qg11_1, qg11_2, qg11_3, qg11_4, qg11_5, qg11_6, qg11_7, qg11_8, qg11_9, qg11_10, qg11_11, qg11_12, qg11_13, qg11_14, qg12_0, qg12_1, qg12_2, qg12_3, qg12_4, qg12_5, qg12_6, qg12_7, qg12_8, qg12_9, qg12_10, qg12_11, qg12_12, qg12_13, qg12_14, qg13_0, qg13_1, qg13_2, qg13_3, qg13_4, qg13_5, qg13_6, qg13_7, qg13_8, qg13_9, qg13_10, qg13_11, qg13_12, qg13_13, qg13_14, qg14_0, qg14_1, qg14_2, qg14_3, qg14_4, qg14_5, qg14_6, qg14_7, qg14_8, qg14_9, qg14_10, qg14_11, qg14_12, qg14_13, qg14_14, upd_at, hqh]
          unfold qFill
          rw [hqh]
        · rw [hm]
          unfold f_X11_fills_J86
          rw [m_holds0]
          have p0 : nI (19 + 7 * c) + 0 = nI (19 + 7 * c) := nI_add _ 0
          have j0 : jIn (nI (19 + 7 * c)) 229 := nIin (by omega) (by decide)
          have j1 : jIn (1 : Int32) 229 := nIin (c := 1) (by omega) (by decide)
          have l0 : (nI (19 + 7 * c)).toNatClampNeg = 19 + 7 * c := nI_clamp (by omega)
          have l1 : (1 : Int32).toNatClampNeg = 1 := nI_clamp (n := 1) (by omega)
          have hof : ∀ m2 : MV, f_X11_of m2 (nI c) 0 = some (mNow m2 (19 + 7 * c)) := fun m2 => by rw [show (0 : Int32) = nI 0 from rfl, m_of c 0 (by omega)]; rfl
          simp only [jb_u, placeOf_nI, ob_s, i10, ↓reduceIte, p0, if_pos j0, if_pos j1, l0, l1, hof, mN1, mN2, mN3, mN4]
          have hw : upd (upd (mNow m) 1 (mNow m 1 - 1)) (19 + 7 * c) (upd (mNow m) 1 (mNow m 1 - 1) (19 + 7 * c) + 1) = wFill (mNow m) c := by
            unfold wFill
            rw [upd_ne _ _ (show 19 + 7 * c ≠ 1 by omega)]
          rw [hw]
          have hx9 : wFill (mNow m) c (19 + 7 * c) = nI (x + 1) := by
            unfold wFill
            rw [upd_at, exm]
          rw [hx9]
    · right
      rw [if_neg hfit] at hm
      exact ⟨3, 0, 1, f3 hfit, by omega, by rw [hm, (m_J86 m (nI c) _ 0).2.1]; rfl, by omega, rfl⟩
  · right
    have hm := m_fills m a b 0 (by decide) h3 0 h2
    refine ⟨0, 0, 0, by unfold f_X7_fillFault; rw [h1]; rfl, by omega, ?_, by omega, rfl⟩
    rw [hm]
    split <;> rw [(m_J86 m _ _ _).1] <;> rfl

