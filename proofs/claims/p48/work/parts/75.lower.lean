theorem jMax_pos {x y : Nat} (hx : x < 2 ^ 31) (hy : y < 2 ^ 31) : jMax 0 (nI x - nI y) = nI (x - y) := by
  by_cases h : y ≤ x
  · rw [nIsub h, show (0 : Int32) = nI 0 from rfl, jMax_nI (by omega) (by omega), Nat.zero_max]
  · have h2 : nI x - nI y = -(nI (y - x)) := by rw [← nIsub (by omega : x ≤ y)]; simp
    unfold jMax
    rw [h2, if_neg, show x - y = 0 by omega]
    · rfl
    · rw [Int32.lt_iff_toInt_lt, Int32.toInt_neg, nI_toInt (by omega), Int32.toInt_zero]
      rw [Int.bmod_eq_of_le (by omega) (by omega)]
      omega
theorem sub_le0 {x y : Nat} (h : x ≤ y) (hy : y < 2 ^ 31) : nI x - nI y ≤ 0 := by
  have h2 : nI x - nI y = -(nI (y - x)) := by rw [← nIsub h]; simp
  rw [h2, Int32.le_iff_toInt_le, Int32.toInt_neg, nI_toInt (by omega), Int32.toInt_zero]
  rw [Int.bmod_eq_of_le (by omega) (by omega)]
  omega
theorem far_le (c d : Nat) (h : c < 30) (hd : d < 30) : far c d ≤ 9 := (by decide +kernel : ∀ c : Fin 30, ∀ d : Fin 30, far c.val d.val ≤ 9) ⟨c, h⟩ ⟨d, hd⟩
theorem far_nb (t c k d : Nat) (h : t < 30) (hc : c < 30) (hk : k < 4) (e : nb c k = some d) : far t d ≤ far t c + 1 := by
  have hall : ∀ t : Fin 30, ∀ c : Fin 30, ∀ k : Fin 4, ((nb c.val k.val).map fun d => decide (far t.val d ≤ far t.val c.val + 1)) ≠ some false := by decide +kernel
  have h1 := hall ⟨t, h⟩ ⟨c, hc⟩ ⟨k, hk⟩
  rw [show nb (⟨c, hc⟩ : Fin 30).val (⟨k, hk⟩ : Fin 4).val = some d from e] at h1
  by_cases h2 : far t d ≤ far t c + 1
  · exact h2
  · exact absurd (by show some (decide (far t d ≤ far t c + 1)) = some false; rw [decide_eq_false h2]) h1
theorem far_0 (c : Nat) : far c c = 0 := by unfold far dist1; omega
theorem far_z (t c : Nat) (h : t < 30) (hc : c < 30) (e : far t c = 0) : c = t := by
  have := (by decide +kernel : ∀ t : Fin 30, ∀ c : Fin 30, far t.val c.val = 0 → c.val = t.val) ⟨t, h⟩ ⟨c, hc⟩ e
  exact this
theorem far_prev (t c n : Nat) (h : t < 30) (hc : c < 30) (e : far t c = n + 1) : ∃ d k, d < 30 ∧ k < 4 ∧ nb d k = some c ∧ far t d = n := by
  have hall : ∀ t : Fin 30, ∀ c : Fin 30, far t.val c.val = 0 ∨ ∃ d : Fin 30, ∃ k : Fin 4, nb d.val k.val = some c.val ∧ far t.val d.val + 1 = far t.val c.val := by decide +kernel
  rcases hall ⟨t, h⟩ ⟨c, hc⟩ with h1 | ⟨d, k, h1, h2⟩
  · have h1 : far t c = 0 := h1
    omega
  · have h2 : far t d.val + 1 = far t c := h2
    exact ⟨d.val, k.val, d.isLt, k.isLt, h1, by omega⟩
theorem sumN_le {g : Nat → Nat} {b : Nat} : ∀ n, (∀ d, d < n → g d ≤ b) → sumN g n ≤ b * n
  | 0, _ => Nat.le_refl _
  | n + 1, h => by
    have ih := sumN_le n (fun d hd => h d (by omega))
    have := h n (by omega)
    rw [sumN_s, Nat.mul_succ]
    omega
theorem sumN_upd {g g' : Nat → Nat} {d e : Nat} (h : ∀ c, c ≠ d → g' c = g c) (he : g' d = g d + e) : ∀ n, d < n → sumN g' n = sumN g n + e
  | 0, hd => absurd hd (Nat.not_lt_zero _)
  | n + 1, hd => by
    rw [sumN_s, sumN_s]
    by_cases e1 : d = n
    · have h2 : sumN g' n = sumN g n := sumN_cong n (fun c hc => h c (by omega))
      rw [h2, ← e1, he]
      omega
    · rw [sumN_upd h he n (by omega), h n (fun q => e1 q.symm)]
      omega
def lw (w : Nat → Int32) (L t a c : Nat) : Nat := vN (w (19 + 7 * c)) - (a + L * far t c)
theorem hh_9 {t0 : Nat} {w : Nat → Int32} (hi : InvW t0 w) (d : Nat) (hd : d < 30) : vN (w (19 + 7 * d)) ≤ 9 := by
  obtain ⟨n, hn, e⟩ := hi.h d hd
  rw [e, vN_nI (by omega)]
  exact hn
theorem mul36 {L f : Nat} (hL : L ≤ 4) (hf : f ≤ 9) : L * f ≤ 36 := Nat.mul_le_mul hL hf
/-- the program's sum over the distances -/
theorem q_dist {q : QV} {w : Nat → Int32} {t0 : Nat} (hr : RelQ q w) (hi : InvW t0 w) (t a L : Nat) (ht : t < 30) (ha : a ≤ 9) (hL : w 0 = nI L) (hL4 : L ≤ 4) : f_X7_cutsByDistance q (nI t) (nI a) = some (nI (sumN (lw w L t a) 30)) := by
  have hl : jbL (fun s : Int32 × Int32 => f_X7_cutsByDistance_L5 q (nI t) (nI a) s.1 s.2) 5000 (nI (sumN (lw w L t a) 0), nI 0) = some (nI (sumN (lw w L t a) 30), nI 30) := by
    refine lpD (fun c => (nI (sumN (lw w L t a) c), nI c)) _ 30 (fun c hc => ?_) ?_ 5000 (by decide)
    · show f_X7_cutsByDistance_L5 q (nI t) (nI a) (nI (sumN (lw w L t a) c)) (nI c) = some (Sum.inl (nI (sumN (lw w L t a) (c + 1)), nI (c + 1)))
      have hf := far_le t c ht hc
      have hm := mul36 hL4 hf
      have hh := hh_9 hi c hc
      unfold f_X7_cutsByDistance_L5
      rw [if_neg (show ¬ (30 : Int32) ≤ nI c from nI_ge (a := c) (b := 30) hc (by decide)), g_far t c ht hc]
      simp only [ob_s, jb_u, hr.lim, hL, nImul, nI_add, if_pos (nIin hc (by decide : 30 < 2 ^ 31)), nI_clamp (show c < 2 ^ 31 by omega), hr.h c hc]
      rw [hN hi c hc, jMax_pos (by omega) (by omega), nI_add, nI_1, sumN_s]
      rfl
    · show f_X7_cutsByDistance_L5 q _ _ _ (nI 30) = _
      unfold f_X7_cutsByDistance_L5
      rw [if_pos (show (30 : Int32) ≤ nI 30 from Int32.le_refl _)]
  have hl' : jbL (fun s : Int32 × Int32 => f_X7_cutsByDistance_L5 q (nI t) (nI a) s.1 s.2) 5000 ((0 : Int32), (0 : Int32)) = some (nI (sumN (lw w L t a) 30), nI 30) := hl
  unfold f_X7_cutsByDistance
  simp only [hl', ob_s]
theorem rf_2 : f_X10_refuse 2 = some (.inl 1) := Eq.trans rfl rfl
