theorem m_J67 (m : MV) (c a b z : Int32) (y0 y1 : Int32) : f_X11_adds_J67 m a b c z y1 0 = some (0, mSThrown 1 m) ∧ f_X11_adds_J67 m a b c z 0 1 = some (0, mSThrown 2 m) ∧ f_X11_adds_J67 m a b c 0 1 1 = some (0, mSThrown 3 m) := by
  unfold f_X11_adds_J67
  rw [m_holds1, m_holds2, m_holds3]
  simp only [ob_s, ↓reduceIte, and_self]
theorem m_adds33 (m : MV) (a b x y : Int32) (c n : Nat) (hn : n ≤ 3) (en : mNow m 5 = nI n) (v z : Int32) (g3 : f_X11_isCell a b = some v) :
    (n < 3 ∧ ¬ hasW (mNow m) n c → f_X11_adds_J33 m a b x y (nI c) z = f_X11_adds_J67 m x y (nI c) 1 z v) ∧ (¬ (n < 3 ∧ ¬ hasW (mNow m) n c) → f_X11_adds_J33 m a b x y (nI c) z = f_X11_adds_J67 m x y (nI c) 0 z v) := by
  have hj5 : jIn (5 : Int32) 229 := nIin (c := 5) (by omega) (by decide)
  have h5 : (5 : Int32).toNatClampNeg = 5 := nI_clamp (n := 5) (by omega)
  obtain ⟨w1, w2⟩ := m_hasW m n c hn en
  have hun : f_X11_adds_J33 m a b x y (nI c) z = if 3 ≤ nI n then f_X11_adds_J67 m x y (nI c) 0 z v else (f_X11_hasWinch m (nI c)).bind fun o10 => if o10 = 0 then f_X11_adds_J67 m x y (nI c) 1 z v else f_X11_adds_J67 m x y (nI c) 0 z v := by
    unfold f_X11_adds_J33
    simp only [g3, ob_s, if_pos hj5, h5, en, f_X11_adds_J66]
  refine ⟨fun ⟨h1, h2⟩ => ?_, fun h => ?_⟩
  · rw [hun, if_neg (show ¬ (3 : Int32) ≤ nI n from nI_ge (a := n) (b := 3) h1 (by decide)), w2 h2]
    simp only [ob_s, ↓reduceIte]
  · rw [hun]
    by_cases h1 : n < 3
    · rw [if_neg (show ¬ (3 : Int32) ≤ nI n from nI_ge (a := n) (b := 3) h1 (by decide))]
      have h2 : hasW (mNow m) n c := Classical.byContradiction fun h2 => h ⟨h1, h2⟩
      rw [w1 h2]
      simp only [ob_s, i10, ↓reduceIte]
    · rw [if_pos (show (3 : Int32) ≤ nI n from nI_le (a := 3) (by omega) (by omega))]
/-- winch -/
theorem cmd_winch {t : Nat} {q : QV} {m : MV} (hr : RelQ q (mNow m)) (hi : InvW t (mNow m)) (a b x y : Int32) : Cmd t [0, 1, 3] (f_X7_winchFault q a b x y) (f_X7_placeWinch q a b x y) (f_X11_adds m a b x y) m := by
  obtain ⟨n, hn, en⟩ := hi.nw
  rcases cell_or a b with ⟨r, k, hrr, hk, rfl, rfl⟩ | ⟨h1, h2, h3⟩
  · obtain ⟨g1, g2, g3, g4⟩ := g_cell r k hrr hk
    have hc : 6 * r + k < 30 := by omega
    generalize 6 * r + k = c at *
    have hadd : f_X11_adds m (nI r) (nI k) x y = (f_X11_isIn x 2 9).bind fun o3 => if o3 = 0 then f_X11_adds_J33 m (nI r) (nI k) x y (nI c) 0 else (f_X11_isIn y 1 6).bind fun o5 => if o5 = 0 then f_X11_adds_J33 m (nI r) (nI k) x y (nI c) 0 else f_X11_adds_J33 m (nI r) (nI k) x y (nI c) 1 := by
      unfold f_X11_adds
      simp only [g4, ob_s]
      rfl
    have hfl : f_X7_winchFault q (nI r) (nI k) x y = if x < 2 then some 2 else if 9 < x then some 2 else if y < 1 then some 2 else if y ≤ 6 then (if 3 ≤ nI n then some 4 else (f_X7_hasWinchAt q (nI c)).bind fun o6 => if o6 = 0 then some 0 else some 4) else some 2 := by
      unfold f_X7_winchFault
      simp only [g1, g2, ob_s, n06, ↓reduceIte, hr.nw, en]
      try rfl
    obtain ⟨j1, j0⟩ := m_adds33 m (nI r) (nI k) x y c n hn en 1 0 g3
    obtain ⟨k1, k0⟩ := m_adds33 m (nI r) (nI k) x y c n hn en 1 1 g3
    obtain ⟨w1, w2⟩ := q_hasW hr n c hn en
    have hbad : f_X11_adds_J33 m (nI r) (nI k) x y (nI c) 0 = some (0, mSThrown 2 m) := by
      by_cases hf : n < 3 ∧ ¬ hasW (mNow m) n c
      · rw [j1 hf]; exact (m_J67 m (nI c) x y 1 0 0).2.1
      · rw [j0 hf]; exact (m_J67 m (nI c) x y 0 0 0).2.1
    rcases in_2_9 x with ⟨p, hp, rfl, pi, x1, x2⟩ | ⟨hx, pi⟩
    · rcases in_1_6 y with ⟨s, hs, rfl, si, y1, y2⟩ | ⟨hy, si⟩
      · rw [pi, si] at hadd
        have hadd : f_X11_adds m (nI r) (nI k) (nI p) (nI s) = f_X11_adds_J33 m (nI r) (nI k) (nI p) (nI s) (nI c) 1 := hadd
        rw [if_neg x1, if_neg x2, if_neg y1, if_pos y2] at hfl
        by_cases hf : n < 3 ∧ ¬ hasW (mNow m) n c
        · left
          obtain ⟨hn3, hno⟩ := hf
          rw [k1 ⟨hn3, hno⟩] at hadd
          rw [if_neg (show ¬ (3 : Int32) ≤ nI n from nI_ge (a := n) (b := 3) hn3 (by decide)), w2 hno, Option.bind_some, if_pos rfl] at hfl
          refine ⟨hfl, nI n, qWin q n c p s, wWin (mNow m) n c p s, ?_, ?_, hr.win n c p s hn3, (hi.win n c p s hn3 hc hp hs).up (Nat.le_succ t)⟩
          · have j3 : jIn (nI n) 3 := nIin hn3 (by decide)
            have l3 : (nI n).toNatClampNeg = n := nI_clamp (by omega)
            unfold f_X7_placeWinch
            have hqn : qWinches q = nI n := hr.nw.trans en
            simp only [g2, jb_u, ob_s, hqn, if_pos j3, l3, qg0_0, qg0_1, qg0_2, qg0_3, qg0_4, qg0_5, qg0_6, qg0_7, qg0_8, qg0_9, qg0_10, qg0_11, qg0_12, qg0_13, qg0_14, qg1_0, qg1_1, qg1_2, qg1_3, qg1_4, qg1_5, qg1_6, qg1_7, qg1_8, qg1_9, qg1_10, qg1_11, qg1_12, qg1_13, qg1_14, qg2_0, qg2_1, qg2_2, qg2_3, qg2_4, qg2_5, qg2_6, qg2_7, qg2_8, qg2_9, qg2_10, qg2_11, qg2_12, qg2_13, qg2_14, qg3_0, qg3_1, qg3_2, qg3_3, qg3_4, qg3_5, qg3_6, qg3_7, qg3_8, qg3_9, qg3_10, qg3_11, qg3_12, qg3_13, qg3_14, qg4_0, qg4_1, qg4_2, qg4_3, qg4_4, qg4_5, qg4_6, qg4_7, qg4_8, qg4_9, qg4_10, qg4_11, qg4_12, qg4_13, qg4_14, qg5_0, qg5_1, qg5_2, qg5_3, qg5_4, qg5_5, qg5_6, qg5_7, qg5_8, qg5_9, qg5_10, qg5_11, qg5_12, qg5_13, qg5_14, qg6_0, qg6_1, qg6_2, qg6_3, qg6_4, qg6_5, qg6_6, qg6_7, qg6_8, qg6_9, qg6_10, qg6_11, qg6_12, qg6_13, qg6_14, qg7_0, qg7_1, qg7_2, qg7_3, qg7_4, qg7_5, qg7_6, qg7_7, qg7_8, qg7_9, qg7_10, qg7_11, qg7_12, qg7_13, qg7_14, qg8_0, qg8_1, qg8_2, qg8_3, qg8_4, qg8_5, qg8_6, qg8_7, qg8_8, qg8_9, qg8_10, qg8_11, qg8_12, qg8_13, qg8_14, qg9_0, qg9_1, qg9_2, qg9_3, qg9_4, qg9_5, qg9_6, qg9_7, qg9_8, qg9_9, qg9_10, qg9_11, qg9_12, qg9_13, qg9_14, qg10_0, qg10_1, qg10_2, qg10_3, qg10_4, qg10_5, qg10_6, qg10_7, qg10_8, qg10_9, qg10_10, qg10_11, qg10_12, qg10_13, qg10_14, qg11_0, qg11_1, qg11_2, qg11_3, qg11_4, qg11_5, qg11_6, qg11_7, qg11_8, qg11_9, qg11_10, qg11_11, qg11_12, qg11_13, qg11_14, qg12_0, qg12_1, qg12_2, qg12_3, qg12_4, qg12_5, qg12_6, qg12_7, qg12_8, qg12_9, qg12_10, qg12_11, qg12_12, qg12_13, qg12_14, qg13_0, qg13_1, qg13_2, qg13_3, qg13_4, qg13_5, qg13_6, qg13_7, qg13_8, qg13_9, qg13_10, qg13_11, qg13_12, qg13_13, qg13_14, qg14_0, qg14_1, qg14_2, qg14_3, qg14_4, qg14_5, qg14_6, qg14_7, qg14_8, qg14_9, qg14_10, qg14_11, qg14_12, qg14_13, qg14_14, nI_1]
            try rfl
          · rw [hadd]
            unfold f_X11_adds_J67
            rw [m_holds0]
            have j5 : jIn (5 : Int32) 229 := nIin (c := 5) (by omega) (by decide)
            have l5 : (5 : Int32).toNatClampNeg = 5 := nI_clamp (n := 5) (by omega)
            have hz : (10 : Int32) + 3 * mNow m 5 = nI (10 + 3 * n) := by rw [en, show (10 : Int32) = nI 10 from rfl, show (3 : Int32) = nI 3 from rfl, nImul, nI_add]
            have q0 : nI (10 + 3 * n) + 0 = nI (10 + 3 * n) := nI_add _ 0
            have q1 : nI (10 + 3 * n) + 1 = nI (11 + 3 * n) := by rw [nI_1]; congr 1; omega
            have q2 : nI (10 + 3 * n) + 2 = nI (12 + 3 * n) := by rw [show (2 : Int32) = nI 2 from rfl, nI_add]; congr 1; omega
            have i0 : jIn (nI (10 + 3 * n)) 229 := nIin (by omega) (by decide)
            have i1 : jIn (nI (11 + 3 * n)) 229 := nIin (by omega) (by decide)
            have i2 : jIn (nI (12 + 3 * n)) 229 := nIin (by omega) (by decide)
            have c0 : (nI (10 + 3 * n)).toNatClampNeg = 10 + 3 * n := nI_clamp (by omega)
            have c1 : (nI (11 + 3 * n)).toNatClampNeg = 11 + 3 * n := nI_clamp (by omega)
            have c2 : (nI (12 + 3 * n)).toNatClampNeg = 12 + 3 * n := nI_clamp (by omega)
            have e5 : upd (upd (upd (mNow m) (10 + 3 * n) (nI c)) (11 + 3 * n) (nI p)) (12 + 3 * n) (nI s) 5 = nI n := by simp (disch := omega) only [upd_ne]; exact en
            simp only [ob_s, i10, ↓reduceIte, jb_u, mN1, mN2, mN3, mN4, hz, q0, q1, q2, if_pos i0, if_pos i1, if_pos i2, c0, c1, c2, if_pos j5, l5, e5, upd_at, nI_1, nI_pred]
            try rfl
        · right
          rw [k0 hf] at hadd
          refine ⟨3, 0, 2, ?_, by omega, by rw [hadd]; exact (m_J67 m (nI c) (nI p) (nI s) 0 0 0).2.2, by omega, rfl⟩
          rw [hfl]
          by_cases h3 : n < 3
          · rw [if_neg (show ¬ (3 : Int32) ≤ nI n from nI_ge (a := n) (b := 3) h3 (by decide)), w1 (Classical.byContradiction fun h2 => hf ⟨h3, h2⟩)]
            simp only [ob_s, i10, ↓reduceIte]
          · rw [if_pos (show (3 : Int32) ≤ nI n from nI_le (a := 3) (by omega) (by omega))]
      · right
        simp only [pi, si, ob_s, i10, ↓reduceIte] at hadd
        refine ⟨1, 0, 1, ?_, by omega, hadd.trans hbad, by omega, rfl⟩
        rw [hfl, if_neg x1, if_neg x2]
        by_cases y1 : y < 1
        · rw [if_pos y1]
        · rw [if_neg y1, if_neg (hy.resolve_left y1)]
    · right
      simp only [pi, ob_s, ↓reduceIte] at hadd
      refine ⟨1, 0, 1, ?_, by omega, hadd.trans hbad, by omega, rfl⟩
      rw [hfl]
      by_cases x1 : x < 2
      · rw [if_pos x1]
      · rw [if_neg x1, if_pos (hx.resolve_left x1)]
  · right
    have hJ : ∀ z, f_X11_adds_J33 m a b x y (nI 0) z = some (0, mSThrown 1 m) := by
      intro z
      obtain ⟨k1, k0⟩ := m_adds33 m a b x y 0 n hn en 0 z h2
      by_cases hf : n < 3 ∧ ¬ hasW (mNow m) n 0
      · rw [k1 hf]; exact (m_J67 m (nI 0) x y 1 0 z).1
      · rw [k0 hf]; exact (m_J67 m (nI 0) x y 0 0 z).1
    refine ⟨0, 0, 0, by unfold f_X7_winchFault; rw [h1]; rfl, by omega, ?_, by omega, rfl⟩
    unfold f_X11_adds
    rw [h3, show (0 : Int32) = nI 0 from rfl]
    rcases in_2_9 x with ⟨p, hp, rfl, pi, x1, x2⟩ | ⟨hx, pi⟩
    · rcases in_1_6 y with ⟨s, hs, rfl, si, y1, y2⟩ | ⟨hy, si⟩
      · simp only [pi, si, ob_s, i10, ↓reduceIte]
        exact hJ 1
      · simp only [pi, si, ob_s, i10, ↓reduceIte]
        exact hJ 0
    · simp only [pi, ob_s, ↓reduceIte]
      exact hJ 0

