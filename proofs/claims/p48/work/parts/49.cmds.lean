theorem RelQ.ledge {q : QV} {w : Nat → Int32} (hr : RelQ q w) (c : Nat) (hc : c < 30) (x : Int32) : RelQ (qSLedges (upd (qLedges q) c x) q) (upd w (21 + 7 * c) x) := RelQ.mk
  (f_h := fun d hd => by simp (disch := omega) only [upd_ne]; exact hr.h d hd)
  (f_s := fun d hd => by simp (disch := omega) only [upd_ne]; exact hr.s d hd)
  (f_l := fun d hd => by
      show upd (qLedges q) c x d = _
      by_cases e : d = c
      · subst e; rw [upd_at, upd_at]
      · rw [upd_ne _ _ e, upd_ne _ _ (by omega)]; exact hr.l d hd)
  (f_n := fun d hd => by simp (disch := omega) only [upd_ne]; exact hr.n d hd)
  (f_b := fun d j hd hj => by simp (disch := omega) only [upd_ne]; exact hr.b d j hd hj)
  (f_wc := fun i hi => by simp (disch := omega) only [upd_ne]; exact hr.wc i hi)
  (f_cp := fun i hi => by simp (disch := omega) only [upd_ne]; exact hr.cp i hi)
  (f_rc := fun i hi => by simp (disch := omega) only [upd_ne]; exact hr.rc i hi)
  (f_yd := fun i hi => by simp (disch := omega) only [upd_ne]; exact hr.yd i hi)
  (f_lim := by simp (disch := omega) only [upd_ne]; exact hr.lim)
  (f_rub := by simp (disch := omega) only [upd_ne]; exact hr.rub)
  (f_cuts := by simp (disch := omega) only [upd_ne]; exact hr.cuts)
  (f_lifts := by simp (disch := omega) only [upd_ne]; exact hr.lifts)
  (f_work := by simp (disch := omega) only [upd_ne]; exact hr.work)
  (f_nw := by simp (disch := omega) only [upd_ne]; exact hr.nw)
theorem InvW.ledge {t : Nat} {w : Nat → Int32} (hi : InvW t w) (c n : Nat) (hc : c < 30) (hn : n ≤ 1) : InvW t (upd w (21 + 7 * c) (nI n)) := InvW.mk
  (f_h := fun d hd => by simp (disch := omega) only [upd_ne]; exact hi.h d hd)
  (f_s := fun d hd => by simp (disch := omega) only [upd_ne]; exact hi.s d hd)
  (f_l := fun d hd => by
      by_cases e : d = c
      · subst e; rw [upd_at]; exact ⟨n, hn, rfl⟩
      · simp (disch := omega) only [upd_ne]; exact hi.l d hd)
  (f_n := fun d hd => by simp (disch := omega) only [upd_ne]; exact hi.n d hd)
  (f_b := fun d j hd hj => by simp (disch := omega) only [upd_ne]; exact hi.b d j hd hj)
  (f_wc := fun i h => by simp (disch := omega) only [upd_ne]; exact hi.wc i h)
  (f_cp := fun i h => by simp (disch := omega) only [upd_ne]; exact hi.cp i h)
  (f_rc := fun i h => by simp (disch := omega) only [upd_ne]; exact hi.rc i h)
  (f_lim := by simp (disch := omega) only [upd_ne]; exact hi.lim)
  (f_cuts := by simp (disch := omega) only [upd_ne]; exact hi.cuts)
  (f_work := by simp (disch := omega) only [upd_ne]; exact hi.work)
  (f_nw := by simp (disch := omega) only [upd_ne]; exact hi.nw)
  (f_sum := by rw [upd_ne _ _ (by omega), upd_ne _ _ (by omega), itr_upd _ _ _ (fun d _ => by omega)]; exact hi.sum)
  (f_step := fun d k e hd hk he => by have := nb_lt hd hk he; simp (disch := omega) only [upd_ne]; exact hi.step d k e hd hk he)
/-- ledge: the program's answer is a bit, the reference's too -/
theorem cmd_ledge {t : Nat} {q : QV} {m : MV} (hr : RelQ q (mNow m)) (hi : InvW t (mNow m)) (a b : Int32) : Cmd t [0] (f_X3_cellFault a b) (f_X7_switchLedge q a b) (f_X11_toggles m a b) m := by
  rcases cell_or a b with ⟨r, k, hrr, hk, rfl, rfl⟩ | ⟨h1, h2, h3⟩
  · obtain ⟨g1, g2, g3, g4⟩ := g_cell r k hrr hk
    have hc : 6 * r + k < 30 := by omega
    generalize 6 * r + k = c at *
    obtain ⟨n, hn, en⟩ := hi.l c hc
    have hj : jIn (nI c) 30 := nIin hc (by decide)
    have hcl : (nI c).toNatClampNeg = c := nI_clamp (by omega)
    left
    refine ⟨g1, nI (1 - n), _, upd (mNow m) (21 + 7 * c) (nI (1 - n)), ?_, ?_, hr.ledge c hc (nI (1 - n)), (hi.ledge c (1 - n) hc (by omega)).up (Nat.le_succ t)⟩
    · have hJ : ∀ y : Nat, y ≤ 1 → f_X7_switchLedge_J25 q (nI c) (nI y) (nI c) = some (nI y, qSLedges (upd (qLedges q) c (nI y)) q) := by
        intro y hy
        unfold f_X7_switchLedge_J25
        simp only [if_pos hj, nar_le1 hy, hcl, jb_u, qg0_0, qg0_1, qg0_2, qg0_3, qg0_4, qg0_5, qg0_6, qg0_7, qg0_8, qg0_9, qg0_10, qg0_11, qg0_12, qg0_13, qg0_14, qg1_0, qg1_1, qg1_2, qg1_3, qg1_4, qg1_5, qg1_6, qg1_7, qg1_8, qg1_9, qg1_10, qg1_11, qg1_12, qg1_13, qg1_14, qg2_0, qg2_1, qg2_2, qg2_3, qg2_4, qg2_5, qg2_6, qg2_7, qg2_8, qg2_9, qg2_10, qg2_11, qg2_12, qg2_13, qg2_14, qg3_0, qg3_1, qg3_2, qg3_3, qg3_4, qg3_5, qg3_6, qg3_7, qg3_8, qg3_9, qg3_10, qg3_11, qg3_12, qg3_13, qg3_14, qg4_0, qg4_1, qg4_2, qg4_3, qg4_4, qg4_5, qg4_6, qg4_7, qg4_8, qg4_9, qg4_10, qg4_11, qg4_12, qg4_13, qg4_14, qg5_0, qg5_1, qg5_2, qg5_3, qg5_4, qg5_5, qg5_6, qg5_7, qg5_8, qg5_9, qg5_10, qg5_11, qg5_12, qg5_13, qg5_14, qg6_0, qg6_1, qg6_2, qg6_3, qg6_4, qg6_5, qg6_6, qg6_7, qg6_8, qg6_9, qg6_10, qg6_11, qg6_12, qg6_13, qg6_14, qg7_0, qg7_1, qg7_2, qg7_3, qg7_4, qg7_5, qg7_6, qg7_7, qg7_8, qg7_9, qg7_10, qg7_11, qg7_12, qg7_13, qg7_14, qg8_0, qg8_1, qg8_2, qg8_3, qg8_4, qg8_5, qg8_6, qg8_7, qg8_8, qg8_9, qg8_10, qg8_11, qg8_12, qg8_13, qg8_14, qg9_0, qg9_1, qg9_2, qg9_3, qg9_4, qg9_5, qg9_6, qg9_7, qg9_8, qg9_9, qg9_10, qg9_11, qg9_12, qg9_13, qg9_14, qg10_0, qg10_1, qg10_2, qg10_3, qg10_4, qg10_5, qg10_6, qg10_7, qg10_8, qg10_9, qg10_10, qg10_11, qg10_12, qg10_13, qg10_14, qg11_0, qg11_1, qg11_2, qg11_3, qg11_4, qg11_5, qg11_6, qg11_7, qg11_8, qg11_9, qg11_10, qg11_11, qg11_12, qg11_13, qg11_14, qg12_0, qg12_1, qg12_2, qg12_3, qg12_4, qg12_5, qg12_6, qg12_7, qg12_8, qg12_9, qg12_10, qg12_11, qg12_12, qg12_13, qg12_14, qg13_0, qg13_1, qg13_2, qg13_3, qg13_4, qg13_5, qg13_6, qg13_7, qg13_8, qg13_9, qg13_10, qg13_11, qg13_12, qg13_13, qg13_14, qg14_0, qg14_1, qg14_2, qg14_3, qg14_4, qg14_5, qg14_6, qg14_7, qg14_8, qg14_9, qg14_10, qg14_11, qg14_12, qg14_13, qg14_14, upd_at, ↓reduceIte]
      unfold f_X7_switchLedge
      simp only [g2, ob_s, if_pos hj, hcl, hr.l c hc, en, jb_u]
      rcases (show n = 0 ∨ n = 1 by omega) with rfl | rfl
      · rw [if_pos (show nI 0 = 0 from rfl)]; exact hJ 1 (by omega)
      · rw [if_neg (by decide +kernel)]; exact hJ 0 (by omega)
    · unfold f_X11_toggles
      have p2 : nI (19 + 7 * c) + 2 = nI (21 + 7 * c) := by rw [show (2 : Int32) = nI 2 from rfl, nI_add]; congr 1; omega
      have j2 : jIn (nI (21 + 7 * c)) 229 := nIin (by omega) (by decide)
      have l2 : (nI (21 + 7 * c)).toNatClampNeg = 21 + 7 * c := nI_clamp (by omega)
      have h1n : 1 - mNow m (21 + 7 * c) = nI (1 - n) := by rw [en, show (1 : Int32) = nI 1 from rfl, nIsub hn]
      simp only [g3, g4, m_goes0, placeOf_nI, i10, ↓reduceIte, ob_s, jb_u, p2, if_pos j2, l2, mN1, mN2, mN3, mN4, upd_at, h1n]
  · right
    refine ⟨0, 0, 0, h1, by omega, ?_, by omega, rfl⟩
    unfold f_X11_toggles
    simp only [h2, ob_s, m_goes1, ↓reduceIte]
    rfl
/-- crush -/
theorem RelQ.crush {q : QV} {w : Nat → Int32} (hr : RelQ q w) (s : Nat) (hs : s < 4) (x : Int32) : RelQ (qSRubble (qRubble q + 2 * x) (qSYard (upd (qYard q) s (qYard q s - x)) q)) (upd (upd w (6 + s) (w (6 + s) - x)) 1 (w 1 + 2 * x)) := RelQ.mk
  (f_h := fun d hd => by simp (disch := omega) only [upd_ne]; exact hr.h d hd)
  (f_s := fun d hd => by simp (disch := omega) only [upd_ne]; exact hr.s d hd)
  (f_l := fun d hd => by simp (disch := omega) only [upd_ne]; exact hr.l d hd)
  (f_n := fun d hd => by simp (disch := omega) only [upd_ne]; exact hr.n d hd)
  (f_b := fun d j hd hj => by simp (disch := omega) only [upd_ne]; exact hr.b d j hd hj)
  (f_wc := fun i hi => by simp (disch := omega) only [upd_ne]; exact hr.wc i hi)
  (f_cp := fun i hi => by simp (disch := omega) only [upd_ne]; exact hr.cp i hi)
  (f_rc := fun i hi => by simp (disch := omega) only [upd_ne]; exact hr.rc i hi)
  (f_yd := fun i hi => by
      show upd (qYard q) s (qYard q s - x) i = _
      by_cases e : i = s
      · subst e; simp (disch := omega) only [upd_ne, upd_at]; rw [hr.yd i hi]
      · rw [upd_ne _ _ e]; simp (disch := omega) only [upd_ne]; exact hr.yd i hi)
  (f_lim := by simp (disch := omega) only [upd_ne]; exact hr.lim)
  (f_rub := by rw [upd_at]; show qRubble q + 2 * x = _; rw [hr.rub])
  (f_cuts := by simp (disch := omega) only [upd_ne]; exact hr.cuts)
  (f_lifts := by simp (disch := omega) only [upd_ne]; exact hr.lifts)
  (f_work := by simp (disch := omega) only [upd_ne]; exact hr.work)
  (f_nw := by simp (disch := omega) only [upd_ne]; exact hr.nw)
theorem InvW.crush {t : Nat} {w : Nat → Int32} (hi : InvW t w) (s : Nat) (hs : s < 4) (x y : Int32) : InvW t (upd (upd w (6 + s) x) 1 y) := InvW.mk
  (f_h := fun d hd => by simp (disch := omega) only [upd_ne]; exact hi.h d hd)
  (f_s := fun d hd => by simp (disch := omega) only [upd_ne]; exact hi.s d hd)
  (f_l := fun d hd => by simp (disch := omega) only [upd_ne]; exact hi.l d hd)
  (f_n := fun d hd => by simp (disch := omega) only [upd_ne]; exact hi.n d hd)
  (f_b := fun d j hd hj => by simp (disch := omega) only [upd_ne]; exact hi.b d j hd hj)
  (f_wc := fun i h => by simp (disch := omega) only [upd_ne]; exact hi.wc i h)
  (f_cp := fun i h => by simp (disch := omega) only [upd_ne]; exact hi.cp i h)
  (f_rc := fun i h => by simp (disch := omega) only [upd_ne]; exact hi.rc i h)
  (f_lim := by simp (disch := omega) only [upd_ne]; exact hi.lim)
  (f_cuts := by simp (disch := omega) only [upd_ne]; exact hi.cuts)
  (f_work := by simp (disch := omega) only [upd_ne]; exact hi.work)
  (f_nw := by simp (disch := omega) only [upd_ne]; exact hi.nw)
  (f_sum := by
      have h1 : itr (fun d z => z + upd (upd w (6 + s) x) 1 y (22 + 7 * d)) 0 30 = itr (fun d z => z + w (22 + 7 * d)) 0 30 := itr_cong (N := 30) (fun d z hd => by simp (disch := omega) only [upd_ne]) 30 (Nat.le_refl _)
      rw [h1]
      simp (disch := omega) only [upd_ne]
      exact hi.sum)
  (f_step := fun d k e hd hk he => by have := nb_lt hd hk he; simp (disch := omega) only [upd_ne]; exact hi.step d k e hd hk he)
theorem in_1_20 (x : Int32) : (¬ x < 1 ∧ x ≤ 20 ∧ f_X11_isIn x 1 20 = some 1) ∨ (¬ (¬ x < 1 ∧ x ≤ 20) ∧ f_X11_isIn x 1 20 = some 0) := by
  unfold f_X11_isIn
  by_cases h1 : x < 1
  · right; exact ⟨fun h => h.1 h1, by rw [if_pos h1]⟩
  · by_cases h2 : x ≤ 20
    · left; exact ⟨h1, h2, by rw [if_neg h1, if_neg (Int32.not_lt.mpr h2)]⟩
    · right; exact ⟨fun h => h2 h.2, by rw [if_neg h1, if_pos (Int32.not_le.mp h2)]⟩
theorem cmd_crush {t : Nat} {q : QV} {m : MV} (hr : RelQ q (mNow m)) (hi : InvW t (mNow m)) (a b : Int32) : Cmd t [1, 3] (f_X7_crushFault q a b) (f_X7_crushBlocks q a b) (f_X11_crushes m a b) m := by
  rcases stone_or a with ⟨s, hs, rfl, s1, s2⟩ | ⟨s1, s2⟩
  · rcases in_1_20 b with ⟨b1, b2, bi⟩ | ⟨bn, bi⟩
    · have j4 : jIn (nI s) 4 := nIin hs (by decide)
      have l4 : (nI s).toNatClampNeg = s := nI_clamp (by omega)
      have p6 : (6 : Int32) + nI s = nI (6 + s) := by rw [show (6 : Int32) = nI 6 from rfl, nI_add]
      have j6 : jIn (nI (6 + s)) 229 := nIin (by omega) (by decide)
      have l6 : (nI (6 + s)).toNatClampNeg = 6 + s := nI_clamp (by omega)
      have j1 : jIn (1 : Int32) 229 := nIin (c := 1) (by omega) (by decide)
      have l1 : (1 : Int32).toNatClampNeg = 1 := nI_clamp (n := 1) (by omega)
      have hF : f_X7_crushFault q (nI s) b = if mNow m (6 + s) < b then some 4 else some 0 := by
        unfold f_X7_crushFault
        simp only [s1, ob_s, i10, ↓reduceIte, if_neg b1, if_pos b2, if_pos j4, l4, hr.yd s hs]
      have hB : f_X11_crushes m (nI s) b = if mNow m (6 + s) < b then f_X11_crushes_J47 m (nI s) b 0 1 else f_X11_crushes_J47 m (nI s) b 1 1 := by
        unfold f_X11_crushes
        simp only [s2, bi, ob_s, i10, ↓reduceIte]
        unfold f_X11_crushes_J22
        simp only [i10, ↓reduceIte, p6, if_pos j6, l6]
        unfold f_X11_crushes_J46
        rfl
      by_cases hy : mNow m (6 + s) < b
      · right
        rw [if_pos hy] at hF hB
        exact ⟨3, 0, 1, hF, by omega, by rw [hB]; rfl, by omega, rfl⟩
      · left
        rw [if_neg hy] at hF hB
        refine ⟨hF, mNow m 1 + 2 * b, _, _, ?_, ?_, hr.crush s hs b, (hi.crush s hs (mNow m (6 + s) - b) (mNow m 1 + 2 * b)).up (Nat.le_succ t)⟩
        · unfold f_X7_crushBlocks
          simp only [if_pos j4, l4, jb_u, qg0_0, qg0_1, qg0_2, qg0_3, qg0_4, qg0_5, qg0_6, qg0_7, qg0_8, qg0_9, qg0_10, qg0_11, qg0_12, qg0_13, qg0_14, qg1_0, qg1_1, qg1_2, qg1_3, qg1_4, qg1_5, qg1_6, qg1_7, qg1_8, qg1_9, qg1_10, qg1_11, qg1_12, qg1_13, qg1_14, qg2_0, qg2_1, qg2_2, qg2_3, qg2_4, qg2_5, qg2_6, qg2_7, qg2_8, qg2_9, qg2_10, qg2_11, qg2_12, qg2_13, qg2_14, qg3_0, qg3_1, qg3_2, qg3_3, qg3_4, qg3_5, qg3_6, qg3_7, qg3_8, qg3_9, qg3_10, qg3_11, qg3_12, qg3_13, qg3_14, qg4_0, qg4_1, qg4_2, qg4_3, qg4_4, qg4_5, qg4_6, qg4_7, qg4_8, qg4_9, qg4_10, qg4_11, qg4_12, qg4_13, qg4_14, qg5_0, qg5_1, qg5_2, qg5_3, qg5_4, qg5_5, qg5_6, qg5_7, qg5_8, qg5_9, qg5_10, qg5_11, qg5_12, qg5_13, qg5_14, qg6_0, qg6_1, qg6_2, qg6_3, qg6_4, qg6_5, qg6_6, qg6_7, qg6_8, qg6_9, qg6_10, qg6_11, qg6_12, qg6_13, qg6_14, qg7_0, qg7_1, qg7_2, qg7_3, qg7_4, qg7_5, qg7_6, qg7_7, qg7_8, qg7_9, qg7_10, qg7_11, qg7_12, qg7_13, qg7_14, qg8_0, qg8_1, qg8_2, qg8_3, qg8_4, qg8_5, qg8_6, qg8_7, qg8_8, qg8_9, qg8_10, qg8_11, qg8_12, qg8_13, qg8_14, qg9_0, qg9_1, qg9_2, qg9_3, qg9_4, qg9_5, qg9_6, qg9_7, qg9_8, qg9_9, qg9_10, qg9_11, qg9_12, qg9_13, qg9_14, qg10_0, qg10_1, qg10_2, qg10_3, qg10_4, qg10_5, qg10_6, qg10_7, qg10_8, qg10_9, qg10_10, qg10_11, qg10_12, qg10_13, qg10_14, qg11_0, qg11_1, qg11_2, qg11_3, qg11_4, qg11_5, qg11_6, qg11_7, qg11_8, qg11_9, qg11_10, qg11_11, qg11_12, qg11_13, qg11_14, qg12_0, qg12_1, qg12_2, qg12_3, qg12_4, qg12_5, qg12_6, qg12_7, qg12_8, qg12_9, qg12_10, qg12_11, qg12_12, qg12_13, qg12_14, qg13_0, qg13_1, qg13_2, qg13_3, qg13_4, qg13_5, qg13_6, qg13_7, qg13_8, qg13_9, qg13_10, qg13_11, qg13_12, qg13_13, qg13_14, qg14_0, qg14_1, qg14_2, qg14_3, qg14_4, qg14_5, qg14_6, qg14_7, qg14_8, qg14_9, qg14_10, qg14_11, qg14_12, qg14_13, qg14_14, hr.rub]
        · rw [hB]
          unfold f_X11_crushes_J47
          rw [m_holds0]
          have u1 : ∀ z : Int32, upd (mNow m) (6 + s) z 1 = mNow m 1 := fun z => upd_ne _ _ (by omega)
          simp only [ob_s, i10, ↓reduceIte, p6, if_pos j6, l6, if_pos j1, l1, jb_u, mN1, mN2, mN3, mN4, upd_at, u1]
    · right
      refine ⟨1, 0, 0, ?_, by omega, ?_, by omega, rfl⟩
      · unfold f_X7_crushFault
        simp only [s1, ob_s, i10, ↓reduceIte]
        by_cases b1 : b < 1
        · rw [if_pos b1]
        · rw [if_neg b1, if_neg (fun b2 => bn ⟨b1, b2⟩)]
      · unfold f_X11_crushes
        simp only [s2, bi, ob_s, i10, ↓reduceIte]
        unfold f_X11_crushes_J21 f_X11_crushes_J22
        rw [if_pos rfl]
        unfold f_X11_crushes_J46 f_X11_crushes_J47
        rw [m_holds1]
        rfl
  · right
    refine ⟨1, 0, 0, ?_, by omega, ?_, by omega, rfl⟩
    · unfold f_X7_crushFault
      rw [s1]
      rfl
    · unfold f_X11_crushes
      rw [s2]
      rfl

