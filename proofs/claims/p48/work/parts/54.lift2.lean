theorem wt7 (x : Int32) : f_X7_weightOf x = some (2 + x) := Eq.trans rfl rfl
theorem wt11 (x : Int32) : f_X11_weightOf x = some (2 + x) := Eq.trans rfl rfl
theorem n30 : ((3 : Nat) = 0) = False := by decide
theorem j102a (q : QV) : f_X7_liftFault_J102 q 1 1 = some 0 := by
  unfold f_X7_liftFault_J102
  simp only [i10, ↓reduceIte]
theorem j102b (q : QV) (y : Int32) : f_X7_liftFault_J102 q 0 y = some 5 := by
  unfold f_X7_liftFault_J102
  simp only [↓reduceIte]
theorem j102c (q : QV) : f_X7_liftFault_J102 q 1 0 = some 5 := by
  unfold f_X7_liftFault_J102
  simp only [i10, ↓reduceIte]
/-- whether the winch reaches the cell and bears the stone -/
def ableW (w : Nat → Int32) (i c s : Nat) : Prop := ¬ w (12 + 3 * i) < nI (far (vN (w (10 + 3 * i))) c) ∧ ¬ w (11 + 3 * i) < nI (2 + s)
theorem q_liftFault {q : QV} {w : Nat → Int32} {t : Nat} (hr : RelQ q w) (hi : InvW t w) (i r k j s : Nat) (hi3 : i < 3) (hw : f_X7_hasWinch q (nI i) = some 1) (hrr : r < 5) (hk : k < 6) (hj : j < 3) (en : w (22 + 7 * (6 * r + k)) = nI (j + 1)) (es : w (23 + 7 * (6 * r + k) + j) = nI s) :
    (w (21 + 7 * (6 * r + k)) = 0 → ableW w i (6 * r + k) s → f_X7_liftFault q (nI i) (nI r) (nI k) = some 0) ∧ (w (21 + 7 * (6 * r + k)) = 0 → ¬ ableW w i (6 * r + k) s → f_X7_liftFault q (nI i) (nI r) (nI k) = some 5) ∧ (¬ w (21 + 7 * (6 * r + k)) = 0 → f_X7_liftFault q (nI i) (nI r) (nI k) = some 4) := by
  obtain ⟨g1, g2, g3, g4⟩ := g_cell r k hrr hk
  have hc : 6 * r + k < 30 := by omega
  generalize 6 * r + k = c at *
  have jc : jIn (nI c) 30 := nIin hc (by decide)
  have lc : (nI c).toNatClampNeg = c := nI_clamp (by omega)
  have ji : jIn (nI i) 3 := nIin hi3 (by decide)
  have li : (nI i).toNatClampNeg = i := nI_clamp (by omega)
  obtain ⟨v, hv, ev⟩ := hi.wc i hi3
  have hle0 : ¬ nI (j + 1) ≤ (0 : Int32) := by rw [show (0 : Int32) = nI 0 from rfl, nI_leI (by omega) (by omega)]; omega
  have p2s : (2 : Int32) + nI s = nI (2 + s) := nI_add 2 s
  have htop : f_X7_topFault q (nI r) (nI k) = some 0 := by
    unfold f_X7_topFault
    simp only [g1, g2, ob_s, n06, ↓reduceIte, if_pos jc, lc, hr.n c hc, en, if_neg hle0]
  have h77 : ∀ y, f_X7_liftFault_J77 q (nI i) (nI c) y = if w (11 + 3 * i) < nI (2 + s) then f_X7_liftFault_J102 q y 0 else f_X7_liftFault_J102 q y 1 := by
    intro y
    unfold f_X7_liftFault_J77
    simp only [q_topStone hr c j hc hj en, es, ob_s, wt7, if_pos ji, li, hr.cp i hi3, p2s]
  have hun : f_X7_liftFault q (nI i) (nI r) (nI k) = if w (21 + 7 * c) = 0 then (if w (12 + 3 * i) < nI (far v c) then f_X7_liftFault_J77 q (nI i) (nI c) 0 else f_X7_liftFault_J77 q (nI i) (nI c) 1) else some 4 := by
    unfold f_X7_liftFault
    simp only [hw, htop, g2, ob_s, i10, n06, ↓reduceIte, if_pos jc, lc, hr.l c hc, if_pos ji, li, hr.wc i hi3, ev, g_far v c hv hc, hr.rc i hi3]
  have hvN : vN (w (10 + 3 * i)) = v := by rw [ev]; exact vN_nI (by omega)
  unfold ableW
  rw [hvN]
  refine ⟨fun h1 ⟨h2, h3⟩ => ?_, fun h1 h2 => ?_, fun h1 => ?_⟩
  · rw [hun, if_pos h1, if_neg h2, h77, if_neg h3, j102a]
  · rw [hun, if_pos h1]
    by_cases h3 : w (12 + 3 * i) < nI (far v c)
    · rw [if_pos h3, h77, j102b, j102b, ite_self]
    · rw [if_neg h3, h77]
      by_cases h4 : w (11 + 3 * i) < nI (2 + s)
      · rw [if_pos h4, j102c]
      · exact absurd ⟨h3, h4⟩ h2
  · rw [hun, if_neg h1]
theorem m_canLift {t : Nat} (m : MV) (hi : InvW t (mNow m)) (i c : Nat) (hi3 : i < 3) (hc : c < 30) :
    (∀ j s, j < 3 → mNow m (22 + 7 * c) = nI (j + 1) → mNow m (23 + 7 * c + j) = nI s → s ≤ 3 → (ableW (mNow m) i c s → f_X11_canLift m (nI i) (nI c) = some 1) ∧ (¬ ableW (mNow m) i c s → f_X11_canLift m (nI i) (nI c) = some 0)) ∧ (mNow m (22 + 7 * c) = 0 → f_X11_canLift m (nI i) (nI c) = some 0) := by
  obtain ⟨v, hv, ev⟩ := hi.wc i hi3
  have hvN : vN (mNow m (10 + 3 * i)) = v := by rw [ev]; exact vN_nI (by omega)
  have o0 : f_X11_ofWinch m (nI i) 0 = some (nI v) := by rw [show (0 : Int32) = nI 0 from rfl, m_ofW m i 0 (by omega), ← ev]; rfl
  have o1 : f_X11_ofWinch m (nI i) 1 = some (mNow m (11 + 3 * i)) := by rw [show (1 : Int32) = nI 1 from rfl, m_ofW m i 1 (by omega)]; congr 2; omega
  have o2 : f_X11_ofWinch m (nI i) 2 = some (mNow m (12 + 3 * i)) := by rw [show (2 : Int32) = nI 2 from rfl, m_ofW m i 2 (by omega)]; congr 2; omega
  have hun : ∀ x, f_X11_topOf m (nI c) = some x → f_X11_canLift m (nI i) (nI c) = if mNow m (12 + 3 * i) < nI (far v c) then f_X11_canLift_J30 m (nI i) x 0 else f_X11_canLift_J30 m (nI i) x 1 := by
    intro x hx
    unfold f_X11_canLift
    simp only [hx, o0, o2, ob_s, m_far v c hv hc]
  refine ⟨fun j s hj en es hs => ?_, fun e0 => ?_⟩
  · have h1 := hun _ ((m_topOf m c (j + 1) hc (by omega) en).2 j rfl)
    rw [es] at h1
    have hne : ¬ nI s = -1 := (by decide +kernel : ∀ s : Fin 4, ¬ nI s.val = -1) ⟨s, by omega⟩
    have h30 : f_X11_canLift_J30 m (nI i) (nI s) 1 = if mNow m (11 + 3 * i) < nI (2 + s) then some 0 else some 1 := by
      unfold f_X11_canLift_J30
      simp only [if_neg hne, i10, ↓reduceIte, ob_s, wt11, o1, show (2 : Int32) + nI s = nI (2 + s) from nI_add 2 s]
    have h31 : f_X11_canLift_J30 m (nI i) (nI s) 0 = some 0 := by
      unfold f_X11_canLift_J30
      rw [if_neg hne, if_pos rfl]
    unfold ableW
    rw [hvN]
    refine ⟨fun ⟨h2, h3⟩ => by rw [h1, if_neg h2, h30, if_neg h3], fun h2 => ?_⟩
    rw [h1]
    by_cases h3 : mNow m (12 + 3 * i) < nI (far v c)
    · rw [if_pos h3, h31]
    · rw [if_neg h3, h30]
      by_cases h4 : mNow m (11 + 3 * i) < nI (2 + s)
      · rw [if_pos h4]
      · exact absurd ⟨h3, h4⟩ h2
  · have h1 := hun _ ((m_topOf m c 0 hc (by omega) e0).1 rfl)
    rw [h1]
    unfold f_X11_canLift_J30
    simp only [↓reduceIte, ite_self]

