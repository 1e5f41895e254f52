/-! ===== needed cuts: by the distances, by spreading ===== -/
theorem jMax_pos {x y : Nat} (hx : x < 2 ^ 31) (hy : y < 2 ^ 31) : jMax 0 (nI x - nI y) = nI (x - y) := by
  by_cases h : y ≤ x
  · rw [nIsub h, show (0 : Int32) = nI 0 from rfl, jMax_nI (by omega) (by omega), Nat.zero_max]
  · have h2 : nI x - nI y = -(nI (y - x)) := by rw [← nIsub (by omega : x ≤ y)]; simp
    unfold jMax
    rw [h2, if_neg, show x - y = 0 by omega]
    · rfl
    · rw [Int32.lt_iff_toInt_lt, Int32.toInt_neg, nI_toInt (by omega), Int32.toInt_zero]
      rw [Int.bmod_eq_of_le (by omega) (by omega)]
      omega
theorem sub_le0 {x y : Nat} (h : x ≤ y) (hy : y < 2 ^ 31) : nI x - nI y ≤ 0 := by
  have h2 : nI x - nI y = -(nI (y - x)) := by rw [← nIsub h]; simp
  rw [h2, Int32.le_iff_toInt_le, Int32.toInt_neg, nI_toInt (by omega), Int32.toInt_zero]
  rw [Int.bmod_eq_of_le (by omega) (by omega)]
  omega
theorem far_le (c d : Nat) (h : c < 30) (hd : d < 30) : far c d ≤ 9 := (by decide +kernel : ∀ c : Fin 30, ∀ d : Fin 30, far c.val d.val ≤ 9) ⟨c, h⟩ ⟨d, hd⟩
theorem far_nb (t c k d : Nat) (h : t < 30) (hc : c < 30) (hk : k < 4) (e : nb c k = some d) : far t d ≤ far t c + 1 := by
  have hall : ∀ t : Fin 30, ∀ c : Fin 30, ∀ k : Fin 4, ((nb c.val k.val).map fun d => decide (far t.val d ≤ far t.val c.val + 1)) ≠ some false := by decide +kernel
  have h1 := hall ⟨t, h⟩ ⟨c, hc⟩ ⟨k, hk⟩
  rw [show nb (⟨c, hc⟩ : Fin 30).val (⟨k, hk⟩ : Fin 4).val = some d from e] at h1
  by_cases h2 : far t d ≤ far t c + 1
  · exact h2
  · exact absurd (by show some (decide (far t d ≤ far t c + 1)) = some false; rw [decide_eq_false h2]) h1
theorem far_0 (c : Nat) : far c c = 0 := by unfold far dist1; omega
theorem far_z (t c : Nat) (h : t < 30) (hc : c < 30) (e : far t c = 0) : c = t := by
  have := (by decide +kernel : ∀ t : Fin 30, ∀ c : Fin 30, far t.val c.val = 0 → c.val = t.val) ⟨t, h⟩ ⟨c, hc⟩ e
  exact this
theorem far_prev (t c n : Nat) (h : t < 30) (hc : c < 30) (e : far t c = n + 1) : ∃ d k, d < 30 ∧ k < 4 ∧ nb d k = some c ∧ far t d = n := by
  have hall : ∀ t : Fin 30, ∀ c : Fin 30, far t.val c.val = 0 ∨ ∃ d : Fin 30, ∃ k : Fin 4, nb d.val k.val = some c.val ∧ far t.val d.val + 1 = far t.val c.val := by decide +kernel
  rcases hall ⟨t, h⟩ ⟨c, hc⟩ with h1 | ⟨d, k, h1, h2⟩
  · have h1 : far t c = 0 := h1
    omega
  · have h2 : far t d.val + 1 = far t c := h2
    exact ⟨d.val, k.val, d.isLt, k.isLt, h1, by omega⟩
theorem sumN_le {g : Nat → Nat} {b : Nat} : ∀ n, (∀ d, d < n → g d ≤ b) → sumN g n ≤ b * n
  | 0, _ => Nat.le_refl _
  | n + 1, h => by
    have ih := sumN_le n (fun d hd => h d (by omega))
    have := h n (by omega)
    rw [sumN_s, Nat.mul_succ]
    omega
theorem sumN_upd {g g' : Nat → Nat} {d e : Nat} (h : ∀ c, c ≠ d → g' c = g c) (he : g' d = g d + e) : ∀ n, d < n → sumN g' n = sumN g n + e
  | 0, hd => absurd hd (Nat.not_lt_zero _)
  | n + 1, hd => by
    rw [sumN_s, sumN_s]
    by_cases e1 : d = n
    · have h2 : sumN g' n = sumN g n := sumN_cong n (fun c hc => h c (by omega))
      rw [h2, ← e1, he]
      omega
    · rw [sumN_upd h he n (by omega), h n (fun q => e1 q.symm)]
      omega
def lw (w : Nat → Int32) (L t a c : Nat) : Nat := vN (w (19 + 7 * c)) - (a + L * far t c)
theorem hh_9 {t0 : Nat} {w : Nat → Int32} (hi : InvW t0 w) (d : Nat) (hd : d < 30) : vN (w (19 + 7 * d)) ≤ 9 := by
  obtain ⟨n, hn, e⟩ := hi.h d hd
  rw [e, vN_nI (by omega)]
  exact hn
theorem mul36 {L f : Nat} (hL : L ≤ 4) (hf : f ≤ 9) : L * f ≤ 36 := Nat.mul_le_mul hL hf
/-- the program's sum over the distances -/
theorem q_dist {q : QV} {w : Nat → Int32} {t0 : Nat} (hr : RelQ q w) (hi : InvW t0 w) (t a L : Nat) (ht : t < 30) (ha : a ≤ 9) (hL : w 0 = nI L) (hL4 : L ≤ 4) : f_X7_cutsByDistance q (nI t) (nI a) = some (nI (sumN (lw w L t a) 30)) := by
  have hl : jbL (fun s : Int32 × Int32 => f_X7_cutsByDistance_L5 q (nI t) (nI a) s.1 s.2) 5000 (nI (sumN (lw w L t a) 0), nI 0) = some (nI (sumN (lw w L t a) 30), nI 30) := by
    refine lpD (fun c => (nI (sumN (lw w L t a) c), nI c)) _ 30 (fun c hc => ?_) ?_ 5000 (by decide)
    · show f_X7_cutsByDistance_L5 q (nI t) (nI a) (nI (sumN (lw w L t a) c)) (nI c) = some (Sum.inl (nI (sumN (lw w L t a) (c + 1)), nI (c + 1)))
      have hf := far_le t c ht hc
      have hm := mul36 hL4 hf
      have hh := hh_9 hi c hc
      unfold f_X7_cutsByDistance_L5
      rw [if_neg (show ¬ (30 : Int32) ≤ nI c from nI_ge (a := c) (b := 30) hc (by decide)), g_far t c ht hc]
      simp only [ob_s, jb_u, hr.lim, hL, nImul, nI_add, if_pos (nIin hc (by decide : 30 < 2 ^ 31)), nI_clamp (show c < 2 ^ 31 by omega), hr.h c hc]
      rw [hN hi c hc, jMax_pos (by omega) (by omega), nI_add, nI_1, sumN_s]
      rfl
    · show f_X7_cutsByDistance_L5 q _ _ _ (nI 30) = _
      unfold f_X7_cutsByDistance_L5
      rw [if_pos (show (30 : Int32) ≤ nI 30 from Int32.le_refl _)]
  have hl' : jbL (fun s : Int32 × Int32 => f_X7_cutsByDistance_L5 q (nI t) (nI a) s.1 s.2) 5000 ((0 : Int32), (0 : Int32)) = some (nI (sumN (lw w L t a) 30), nI 30) := hl
  unfold f_X7_cutsByDistance
  simp only [hl', ob_s]
/-- the reference's -/
theorem m_dist {w : Nat → Int32} {t0 : Nat} (m : MV) (hw : mNow m = w) (hi : InvW t0 w) (t a L : Nat) (ht : t < 30) (ha : a ≤ 9) (hL : w 0 = nI L) (hL4 : L ≤ 4) : jbL (fun s : Int32 × Int32 => f_X11_lowers_L41 m (nI a) (nI t) s.1 s.2) 5000 ((0 : Int32), (0 : Int32)) = some (nI (sumN (lw w L t a) 30), nI 30) := by
  have hl : jbL (fun s : Int32 × Int32 => f_X11_lowers_L41 m (nI a) (nI t) s.1 s.2) 5000 (nI (sumN (lw w L t a) 0), nI 0) = some (nI (sumN (lw w L t a) 30), nI 30) := by
    refine lpD (fun c => (nI (sumN (lw w L t a) c), nI c)) _ 30 (fun c hc => ?_) ?_ 5000 (by decide)
    · show f_X11_lowers_L41 m (nI a) (nI t) (nI (sumN (lw w L t a) c)) (nI c) = some (Sum.inl (nI (sumN (lw w L t a) (c + 1)), nI (c + 1)))
      have hf := far_le t c ht hc
      have hm := mul36 hL4 hf
      have hh := hh_9 hi c hc
      have o0 : f_X11_of m (nI c) 0 = some (w (19 + 7 * c)) := by rw [show (0 : Int32) = nI 0 from rfl, m_of c 0 (by omega), hw]; rfl
      unfold f_X11_lowers_L41
      rw [if_neg (show ¬ (30 : Int32) ≤ nI c from nI_ge (a := c) (b := 30) hc (by decide))]
      simp only [o0, ob_s, if_pos jl0, m_far t c ht hc, jb_u, cl0, hw, hL, nImul, Int32.sub_sub, nI_add]
      rw [hN hi c hc, jMax_pos (by omega) (by omega), nI_add, nI_1, sumN_s]
      rfl
    · show f_X11_lowers_L41 m _ _ _ (nI 30) = _
      unfold f_X11_lowers_L41
      rw [if_pos (show (30 : Int32) ≤ nI 30 from Int32.le_refl _)]
  exact hl
theorem lower_or (x : Int32) (n : Nat) (hn : n ≤ 9) : (∃ a, a ≤ n ∧ x = nI a ∧ ¬ x < 0 ∧ ¬ nI n < x) ∨ (x < 0 ∨ nI n < x) := by
  by_cases h1 : x < 0
  · exact Or.inr (Or.inl h1)
  · by_cases h2 : nI n < x
    · exact Or.inr (Or.inr h2)
    · obtain ⟨j, hj, rfl⟩ := nI_of2 (M := nI n) (n := n) (nI_toInt (by omega)) h1 (Int32.not_lt.mp h2)
      exact Or.inl ⟨j, hj, rfl, h1, h2⟩
theorem isIn_t (a b c : Int32) : ∃ y, f_X11_isIn a b c = some y := by
  unfold f_X11_isIn
  by_cases h : a < b
  · exact ⟨0, by rw [if_pos h]⟩
  · by_cases h2 : c < a
    · exact ⟨0, by rw [if_neg h, if_pos h2]⟩
    · exact ⟨1, by rw [if_neg h, if_neg h2]⟩
theorem isIn_y {x : Int32} {n : Nat} (h1 : ¬ x < 0) (h2 : ¬ nI n < x) : f_X11_isIn x 0 (nI n) = some 1 := by
  unfold f_X11_isIn
  rw [if_neg h1, if_neg h2]
theorem isIn_n {x : Int32} {n : Nat} (h : x < 0 ∨ nI n < x) : f_X11_isIn x 0 (nI n) = some 0 := by
  unfold f_X11_isIn
  by_cases h1 : x < 0
  · rw [if_pos h1]
  · rw [if_neg h1, if_pos (h.resolve_left h1)]
/-- both sides' conditions and the reference's answer -/
theorem lower_m {q : QV} {m : MV} {t0 : Nat} (hr : RelQ q (mNow m)) (hi : InvW t0 (mNow m)) (a b x : Int32) (L : Nat) (hL : mNow m 0 = nI L) (hL4 : L ≤ 4) :
    (∃ c n, c < 30 ∧ n ≤ vN (mNow m (19 + 7 * c)) ∧ n ≤ 9 ∧ x = nI n ∧ f_X3_cellAt a b = some (nI c) ∧ f_X7_lowerFault q a b x = some 0 ∧ f_X11_lowers m a b x = some (nI (sumN (lw (mNow m) L c n) 30), mSThrown 0 m)) ∨
    (∃ k, k < 2 ∧ f_X7_lowerFault q a b x = some (k + 1) ∧ f_X11_lowers m a b x = some (0, mSThrown (nI (k + 1)) m)) := by
  rcases cell_or a b with ⟨r, k, hrr, hk, rfl, rfl⟩ | ⟨h1, h2, h3⟩
  · obtain ⟨g1, g2, g3, g4⟩ := g_cell r k hrr hk
    have hc : 6 * r + k < 30 := by omega
    generalize 6 * r + k = c at *
    have hh := hh_9 hi c hc
    have hjc : jIn (nI c) 30 := nIin hc (by decide)
    have hlc : (nI c).toNatClampNeg = c := nI_clamp (by omega)
    have o0 : f_X11_of m (nI c) 0 = some (nI (vN (mNow m (19 + 7 * c)))) := by rw [show (0 : Int32) = nI 0 from rfl, m_of c 0 (by omega), Nat.add_zero, ← hN hi c hc]
    have hq : qHeights q c = nI (vN (mNow m (19 + 7 * c))) := by rw [hr.h c hc, ← hN hi c hc]
    rcases lower_or x (vN (mNow m (19 + 7 * c))) hh with ⟨n, hn, rfl, x1, x2⟩ | hx
    · left
      refine ⟨c, n, hc, hn, by omega, rfl, g2, ?_, ?_⟩
      · unfold f_X7_lowerFault f_X7_lowerFault_J38
        simp only [g1, g2, ob_s, n06, ↓reduceIte, if_neg x1, if_pos hjc, hlc, hq, if_neg x2, i10]
      · have hd := m_dist (mSThrown 0 m) (mN2 m 0) hi c n L hc (by omega) hL hL4
        unfold f_X11_lowers
        simp only [g4, g3, ob_s, o0, isIn_y x1 x2, m_holds0, i10, ↓reduceIte, hd]
    · right
      refine ⟨1, by omega, ?_, ?_⟩
      · unfold f_X7_lowerFault f_X7_lowerFault_J37 f_X7_lowerFault_J38
        by_cases x1 : x < 0
        · simp only [g1, ob_s, n06, ↓reduceIte, if_pos x1]
        · simp only [g1, g2, ob_s, n06, ↓reduceIte, if_neg x1, if_pos hjc, hlc, hq, if_pos (hx.resolve_left x1)]
      · unfold f_X11_lowers
        simp only [g4, g3, ob_s, o0, isIn_n hx, m_holds2, ↓reduceIte]
        rfl
  · right
    have o0 : f_X11_of m 0 0 = some (mNow m 19) := by
      have := m_of (m := m) 0 0 (by omega)
      exact this
    obtain ⟨y, hy⟩ := isIn_t x 0 (mNow m 19)
    refine ⟨0, by omega, ?_, ?_⟩
    · unfold f_X7_lowerFault
      simp only [h1, ob_s, n16, ↓reduceIte, n10]
    · unfold f_X11_lowers
      simp only [h3, h2, ob_s, o0, hy, m_holds1, ↓reduceIte]
      rfl
theorem rf_2 : f_X10_refuse 2 = some (.inl 1) := Eq.trans rfl rfl
theorem ask_lower {S : Sys} {T : Nat} (h : RelS T S) (tv : TV) (a b x : Int32) : Ask [0, 1] (f_X10_cutsToLower tv S.qv a b x) (f_X11_cutsToLower S.mv a b x) S.mv := by
  obtain ⟨L, hL1, hL4, hL⟩ := h.w.lim
  rcases lower_m h.q h.w a b x L hL hL4 with ⟨c, n, hc, hn, hn9, rfl, e1, e2, e3⟩ | ⟨k, hk, e2, e3⟩
  · left
    refine ⟨nI (sumN (lw (mNow S.mv) L c n) 30), mSThrown 0 S.mv, ?_, ?_, Kept.thrown _ _, rfl⟩
    · unfold f_X10_cutsToLower
      simp only [e2, ob_s, rf_0, jm_r, e1, q_dist h.q h.w c n L hc hn9 hL hL4]
    · unfold f_X11_cutsToLower
      simp only [e3, ob_s]
  · right
    refine ⟨k, k, 0, mSThrown (nI (k + 1)) S.mv, ?_, by omega, ?_, ?_, Kept.thrown _ _, rfl⟩
    · unfold f_X10_cutsToLower
      simp only [e2, ob_s, rf_s k (show k < 5 by omega), jm_l]
    · rcases (show k = 0 ∨ k = 1 by omega) with rfl | rfl <;> rfl
    · unfold f_X11_cutsToLower
      simp only [e3, ob_s]
theorem lb_17 {T : Nat} {S : Sys} (h : RelS T S) (a1 a2 a3 a4 : Int32) (ol : Nat → Int64) (od : Nat → UInt64) : ∃ r, lawOp_17 S a1 a2 a3 a4 ol od = some r ∧ RelS (T + 1) r.1 := by
  refine lb_ask h [0, 1] (f_X10_cutsToLower (none, S.ep, S.fc) S.qv a1 a2 a3) (f_X11_cutsToLower S.mv a1 a2 a3) (ask_lower h _ a1 a2 a3) (f_L_cutsToLower (none, S.ep, S.fc) S.qv a1 a2 a3 ol) ol od (fun r h1 => ?_) (fun k c h1 hc hex => ?_)
  · unfold f_L_cutsToLower
    simp only [h1, ob_s, jm_r]
  · unfold f_L_cutsToLower
    simp only [h1, ob_s, jm_l]
    rcases (show c = 0 ∨ c = 1 ∨ c = 2 ∨ c = 3 by omega) with rfl | rfl | rfl | rfl <;> (simp at hex) <;> (subst hex; rfl)
