theorem m_J87 (m : MV) (c s x y z : Int32) : f_X11_raises_J87 m c s x y z 0 = some (0, mSThrown 1 m) ∧ f_X11_raises_J87 m c s x y 0 1 = some (0, mSThrown 2 m) ∧ f_X11_raises_J87 m c s x 0 1 1 = some (0, mSThrown 3 m) ∧ f_X11_raises_J87 m c s 0 1 1 1 = some (0, mSThrown 4 m) := by
  unfold f_X11_raises_J87
  rw [m_holds1, m_holds2, m_holds3, m_holds4]
  simp only [ob_s, ↓reduceIte, and_self]
/-- not there: the first of the exceptions -/
theorem m_raise1 {t : Nat} {m : MV} (hi : InvW t (mNow m)) (x : Int32) (c : Nat) (hc : c < 30) : f_X11_raises_J27 m x (nI c) = some (0, mSThrown 1 m) := by
  obtain ⟨n, hn, en⟩ := hi.n c hc
  obtain ⟨t0, t1⟩ := m_topOf m c n hc hn en
  have o2 : f_X11_of m (nI c) 2 = some (mNow m (21 + 7 * c)) := by rw [show (2 : Int32) = nI 2 from rfl, m_of c 2 (by omega)]; congr 2; omega
  have h67 : ∀ s y z, f_X11_raises_J67 m x (nI c) 0 s y z 0 = some (0, mSThrown 1 m) := by
    intro s y z
    unfold f_X11_raises_J67 f_X11_raises_J86
    rw [if_pos rfl]
    exact (m_J87 m (nI c) s 0 y z).1
  have h52 : ∀ s y, f_X11_raises_J52 m x (nI c) 0 s y 0 = some (0, mSThrown 1 m) := by
    intro s y
    unfold f_X11_raises_J52
    rw [o2, Option.bind_some, h67, h67, ite_self]
  unfold f_X11_raises_J27 f_X11_raises_J28
  rcases (show n = 0 ∨ ∃ j, n = j + 1 from by cases n with | zero => exact Or.inl rfl | succ j => exact Or.inr ⟨j, rfl⟩) with h | ⟨j, h⟩
  · rw [t0 h, Option.bind_some, if_pos rfl, h52]
  · rw [t1 j h, Option.bind_some, h52, h52, ite_self]
/-- lift -/
theorem cmd_lift {t : Nat} {q : QV} {m : MV} (hr : RelQ q (mNow m)) (hi : InvW t (mNow m)) (ht : t < 2 ^ 20) (x a b : Int32) : Cmd t [0, 2, 3, 4] (f_X7_liftFault q x a b) (f_X7_liftBlock q a b) (f_X11_raises m x a b) m := by
  obtain ⟨n, hn, en⟩ := hi.nw
  rcases winch_or hr n hn en x with ⟨i, hin, rfl, hw, hw2⟩ | ⟨hw, hw2⟩
  · rcases cell_or a b with ⟨r, k, hrr, hk, rfl, rfl⟩ | ⟨h1, h2, h3⟩
    · obtain ⟨g1, g2, g3, g4⟩ := g_cell r k hrr hk
      have hfault := fun j s hj en es => q_liftFault hr hi i r k j s (by omega) hw hrr hk hj en es
      have hc : 6 * r + k < 30 := by omega
      generalize 6 * r + k = c at *
      obtain ⟨cn, hcn, ecn⟩ := hi.n c hc
      obtain ⟨t0, t1⟩ := m_topOf m c cn hc hcn ecn
      obtain ⟨cl1, cl0⟩ := m_canLift m hi i c (by omega) hc
      have o2 : f_X11_of m (nI c) 2 = some (mNow m (21 + 7 * c)) := by rw [show (2 : Int32) = nI 2 from rfl, m_of c 2 (by omega)]; congr 2; omega
      have hB : f_X11_raises m (nI i) (nI r) (nI k) = f_X11_raises_J28 m (nI i) (nI c) 1 := by
        unfold f_X11_raises
        simp only [g4, hw2, g3, ob_s, i10, ↓reduceIte]
      rcases (show cn = 0 ∨ ∃ j, cn = j + 1 from by cases cn with | zero => exact Or.inl rfl | succ j => exact Or.inr ⟨j, rfl⟩) with h | ⟨j, h⟩
      · -- no block
        subst h
        right
        refine ⟨2, 0, 1, ?_, by omega, ?_, by omega, rfl⟩
        · have hle0 : nI 0 ≤ (0 : Int32) := Int32.le_refl _
          have htop : f_X7_topFault q (nI r) (nI k) = some 3 := by
            unfold f_X7_topFault
            simp only [g1, g2, ob_s, n06, ↓reduceIte, if_pos (nIin hc (by decide : 30 < 2 ^ 31)), nI_clamp (show c < 2 ^ 31 by omega), hr.n c hc, ecn, if_pos hle0]
          unfold f_X7_liftFault
          simp only [hw, htop, ob_s, i10, n36, n30, ↓reduceIte]
        · rw [hB]
          unfold f_X11_raises_J28
          rw [t0 rfl, Option.bind_some, if_pos rfl]
          unfold f_X11_raises_J52
          have h67 : ∀ y, f_X11_raises_J67 m (nI i) (nI c) 1 (-1) y 0 1 = some (0, mSThrown 2 m) := by
            intro y
            unfold f_X11_raises_J67 f_X11_raises_J86
            rw [if_neg (by decide), cl0 ecn, Option.bind_some, if_pos rfl]
            exact (m_J87 m (nI c) (-1) 0 y 0).2.1
          rw [o2, Option.bind_some, h67, h67, ite_self]
          rfl
      · subst h
        obtain ⟨s, hs, es⟩ := hi.b c j hc (by omega)
        obtain ⟨f0, f5, f4⟩ := hfault j s (by omega) ecn es
        obtain ⟨la, ln⟩ := cl1 j s (by omega) ecn es hs
        have hne : ¬ nI s = -1 := (by decide +kernel : ∀ s : Fin 4, ¬ nI s.val = -1) ⟨s, by omega⟩
        have hB2 : f_X11_raises m (nI i) (nI r) (nI k) = if mNow m (21 + 7 * c) = 0 then f_X11_raises_J67 m (nI i) (nI c) 1 (nI s) 1 1 1 else f_X11_raises_J67 m (nI i) (nI c) 1 (nI s) 0 1 1 := by
          rw [hB]
          unfold f_X11_raises_J28
          rw [t1 j rfl, es, Option.bind_some, if_neg hne]
          unfold f_X11_raises_J52
          rw [o2, Option.bind_some]
        have h67 : ∀ y, (ableW (mNow m) i c s → f_X11_raises_J67 m (nI i) (nI c) 1 (nI s) y 1 1 = f_X11_raises_J87 m (nI c) (nI s) 1 y 1 1) ∧ (¬ ableW (mNow m) i c s → f_X11_raises_J67 m (nI i) (nI c) 1 (nI s) y 1 1 = f_X11_raises_J87 m (nI c) (nI s) 0 y 1 1) := by
          intro y
          refine ⟨fun h => ?_, fun h => ?_⟩
          · unfold f_X11_raises_J67
            rw [if_neg (by decide), la h, Option.bind_some, if_neg (by decide)]
          · unfold f_X11_raises_J67
            rw [if_neg (by decide), ln h, Option.bind_some, if_pos rfl]
            unfold f_X11_raises_J86
            rfl
        by_cases hl : mNow m (21 + 7 * c) = 0
        · rw [if_pos hl] at hB2
          by_cases hab : ableW (mNow m) i c s
          · left
            obtain ⟨h, hh9, eh⟩ := hi.h c hc
            obtain ⟨w4, hw4, ew4⟩ := hi.work
            have hz : (2 + s) * (10 - h) ≤ 50 := Nat.le_trans (Nat.mul_le_mul (show 2 + s ≤ 5 by omega) (show 10 - h ≤ 10 by omega)) (by decide)
            have ez : (2 + nI s) * (10 - nI h) = nI ((2 + s) * (10 - h)) := by rw [show (2 : Int32) = nI 2 from rfl, show (10 : Int32) = nI 10 from rfl, nI_add, nIsub (by omega), nImul]
            refine ⟨f0 hl hab, nI ((2 + s) * (10 - h)), qLift q c j s (nI ((2 + s) * (10 - h))), wLift (mNow m) c j s (nI ((2 + s) * (10 - h))), ?_, ?_, hr.lift c j s w4 _ hc (by omega) ew4 (by omega) (by omega), hi.lift c j s _ hc (by omega) (by omega) hz ecn⟩
            · have jc : jIn (nI c) 30 := nIin hc (by decide)
              have lc : (nI c).toNatClampNeg = c := nI_clamp (by omega)
              have js : jIn (nI s) 4 := nIin (by omega) (by decide)
              have ls : (nI s).toNatClampNeg = s := nI_clamp (by omega)
              unfold f_X7_liftBlock
              have hqb : qBlockCounts q c - 1 = nI j := by rw [hr.n c hc, ecn, nI_pred]
              simp only [g2, ob_s, q_topStone hr c j hc (by omega) ecn, es, wt7, if_pos jc, lc, if_pos js, ls, jb_u, qg0_0, qg0_1, qg0_2, qg0_3, qg0_4, qg0_5, qg0_6, qg0_7, qg0_8, qg0_9, qg0_10, qg0_11, qg0_12, qg0_13, qg0_14, qg1_0, qg1_1, qg1_2, qg1_3, qg1_4, qg1_5, qg1_6, qg1_7, qg1_8, qg1_9, qg1_10, qg1_11, qg1_12, qg1_13, qg1_14, qg2_0, qg2_1, qg2_2, qg2_3, qg2_4, qg2_5, qg2_6, qg2_7, qg2_8, qg2_9, qg2_10, qg2_11, qg2_12, qg2_13, qg2_14, qg3_0, qg3_1, qg3_2, qg3_3, qg3_4, qg3_5, qg3_6, qg3_7, qg3_8, qg3_9, qg3_10, qg3_11, qg3_12, qg3_13, qg3_14, qg4_0, qg4_1, qg4_2, qg4_3, qg4_4, qg4_5, qg4_6, qg4_7, qg4_8, qg4_9, qg4_10, qg4_11, qg4_12, qg4_13, qg4_14, qg5_0, qg5_1, qg5_2, qg5_3, qg5_4, qg5_5, qg5_6, qg5_7, qg5_8, qg5_9, qg5_10, qg5_11, qg5_12, qg5_13, qg5_14, qg6_0, qg6_1, qg6_2, qg6_3, qg6_4, qg6_5, qg6_6, qg6_7, qg6_8, qg6_9, qg6_10, qg6_11, qg6_12, qg6_13, qg6_14, qg7_0, qg7_1, qg7_2, qg7_3, qg7_4, qg7_5, qg7_6, qg7_7, qg7_8, qg7_9, qg7_10, qg7_11, qg7_12, qg7_13, qg7_14, qg8_0, qg8_1, qg8_2, qg8_3, qg8_4, qg8_5, qg8_6, qg8_7, qg8_8, qg8_9, qg8_10, qg8_11, qg8_12, qg8_13, qg8_14, qg9_0, qg9_1, qg9_2, qg9_3, qg9_4, qg9_5, qg9_6, qg9_7, qg9_8, qg9_9, qg9_10, qg9_11, qg9_12, qg9_13, qg9_14, qg10_0, qg10_1, qg10_2, qg10_3, qg10_4, qg10_5, qg10_6, qg10_7, qg10_8, qg10_9, qg10_10, qg10_11, qg10_12, qg10_13, qg10_14, qg11_0, qg11_1, qg11_2, qg11_3, qg11_4, qg11_5, qg11_6, qg11_7, qg11_8, qg11_9, qg11_10, qg11_11, qg11_12, qg11_13, qg11_14, qg12_0, qg12_1, qg12_2, qg12_3, qg12_4, qg12_5, qg12_6, qg12_7, qg12_8, qg12_9, qg12_10, qg12_11, qg12_12, qg12_13, qg12_14, qg13_0, qg13_1, qg13_2, qg13_3, qg13_4, qg13_5, qg13_6, qg13_7, qg13_8, qg13_9, qg13_10, qg13_11, qg13_12, qg13_13, qg13_14, qg14_0, qg14_1, qg14_2, qg14_3, qg14_4, qg14_5, qg14_6, qg14_7, qg14_8, qg14_9, qg14_10, qg14_11, qg14_12, qg14_13, qg14_14, hr.h c hc, eh, ez, hqb]
              unfold qLift
              rfl
            · rw [hB2, (h67 1).1 hab]
              unfold f_X11_raises_J87
              rw [m_holds0]
              have o0 : ∀ m2 : MV, f_X11_of m2 (nI c) 0 = some (mNow m2 (19 + 7 * c)) := fun m2 => by rw [show (0 : Int32) = nI 0 from rfl, m_of c 0 (by omega)]; rfl
              have p3 : nI (19 + 7 * c) + 3 = nI (22 + 7 * c) := by rw [show (3 : Int32) = nI 3 from rfl, nI_add]; congr 1; omega
              have j3 : jIn (nI (22 + 7 * c)) 229 := nIin (by omega) (by decide)
              have l3 : (nI (22 + 7 * c)).toNatClampNeg = 22 + 7 * c := nI_clamp (by omega)
              have p6 : (6 : Int32) + nI s = nI (6 + s) := nI_add 6 s
              have j6 : jIn (nI (6 + s)) 229 := nIin (by omega) (by decide)
              have l6 : (nI (6 + s)).toNatClampNeg = 6 + s := nI_clamp (by omega)
              have k3 : jIn (3 : Int32) 229 := nIin (c := 3) (by omega) (by decide)
              have k4 : jIn (4 : Int32) 229 := nIin (c := 4) (by omega) (by decide)
              have e3 : (3 : Int32).toNatClampNeg = 3 := nI_clamp (n := 3) (by omega)
              have e4 : (4 : Int32).toNatClampNeg = 4 := nI_clamp (n := 4) (by omega)
              simp only [ob_s, i10, ↓reduceIte, wt11, o0, mN2, eh, ez, jb_u, placeOf_nI, p3, if_pos j3, l3, p6, if_pos j6, l6, if_pos k3, if_pos k4, e3, e4, mN1, mN3, mN4]
              have hw : upd (upd (upd (upd (mNow m) (22 + 7 * c) (mNow m (22 + 7 * c) - 1)) (6 + s) (upd (mNow m) (22 + 7 * c) (mNow m (22 + 7 * c) - 1) (6 + s) + 1)) 3 (upd (upd (mNow m) (22 + 7 * c) (mNow m (22 + 7 * c) - 1)) (6 + s) (upd (mNow m) (22 + 7 * c) (mNow m (22 + 7 * c) - 1) (6 + s) + 1) 3 + 1)) 4 (upd (upd (upd (mNow m) (22 + 7 * c) (mNow m (22 + 7 * c) - 1)) (6 + s) (upd (mNow m) (22 + 7 * c) (mNow m (22 + 7 * c) - 1) (6 + s) + 1)) 3 (upd (upd (mNow m) (22 + 7 * c) (mNow m (22 + 7 * c) - 1)) (6 + s) (upd (mNow m) (22 + 7 * c) (mNow m (22 + 7 * c) - 1) (6 + s) + 1) 3 + 1) 4 + nI ((2 + s) * (10 - h))) = wLift (mNow m) c j s (nI ((2 + s) * (10 - h))) := by
                unfold wLift
                simp (disch := omega) only [upd_ne]
                rw [ecn, nI_pred]
              rw [hw]
          · right
            exact ⟨4, 0, 3, f5 hl hab, by omega, by rw [hB2, (h67 1).2 hab]; exact (m_J87 m (nI c) (nI s) 0 0 0).2.2.2, by omega, rfl⟩
        · right
          rw [if_neg hl] at hB2
          refine ⟨3, 0, 2, f4 hl, by omega, ?_, by omega, rfl⟩
          rw [hB2]
          by_cases hab : ableW (mNow m) i c s
          · rw [(h67 0).1 hab]; exact (m_J87 m (nI c) (nI s) 1 0 0).2.2.1
          · rw [(h67 0).2 hab]; exact (m_J87 m (nI c) (nI s) 0 0 0).2.2.1
    · right
      refine ⟨0, 0, 0, ?_, by omega, ?_, by omega, rfl⟩
      · unfold f_X7_liftFault
        have htop : f_X7_topFault q a b = some 1 := by
          unfold f_X7_topFault
          simp only [h1, ob_s, n16, n10, ↓reduceIte]
        simp only [hw, htop, ob_s, i10, n16, n10, ↓reduceIte]
      · unfold f_X11_raises
        simp only [h3, hw2, h2, ob_s, i10, ↓reduceIte]
        exact m_raise1 hi (nI i) 0 (by decide)
  · right
    refine ⟨0, 0, 0, ?_, by omega, ?_, by omega, rfl⟩
    · unfold f_X7_liftFault
      rw [hw]
      rfl
    · unfold f_X11_raises
      rcases cell_or a b with ⟨r, k, hrr, hk, rfl, rfl⟩ | ⟨h1, h2, h3⟩
      · obtain ⟨g1, g2, g3, g4⟩ := g_cell r k hrr hk
        simp only [g4, hw2, ob_s, ↓reduceIte]
        exact m_raise1 hi x (6 * r + k) (by omega)
      · simp only [h3, hw2, ob_s, ↓reduceIte]
        exact m_raise1 hi x 0 (by decide)

