/-! ===== the law's own steepest step ===== -/
theorem L_far (c d : Nat) (h : c < 30) (hd : d < 30) : (jAbs ((nI c / 6) - (nI d / 6))) + (jAbs ((nI c - nI c / 6 * 6) - (nI d - nI d / 6 * 6))) = nI (far c d) := (by decide +kernel : ∀ c : Fin 30, ∀ d : Fin 30, (jAbs ((nI c.val / 6) - (nI d.val / 6))) + (jAbs ((nI c.val - nI c.val / 6 * 6) - (nI d.val - nI d.val / 6 * 6))) = nI (far c.val d.val)) ⟨c, h⟩ ⟨d, hd⟩
theorem far_1 (c d : Nat) (h : c < 30) (hd : d < 30) : far c d = 1 ↔ nb c 0 = some d ∨ nb c 1 = some d ∨ nb c 2 = some d ∨ nb c 3 = some d := (by decide +kernel : ∀ c : Fin 30, ∀ d : Fin 30, far c.val d.val = 1 ↔ nb c.val 0 = some d.val ∨ nb c.val 1 = some d.val ∨ nb c.val 2 = some d.val ∨ nb c.val 3 = some d.val) ⟨c, h⟩ ⟨d, hd⟩
theorem far_nb1 {c d : Nat} (h : c < 30) (hd : d < 30) : far c d = 1 ↔ ∃ k, k < 4 ∧ nb c k = some d := by
  rw [far_1 c d h hd]
  constructor
  · rintro (e | e | e | e)
    · exact ⟨0, by omega, e⟩
    · exact ⟨1, by omega, e⟩
    · exact ⟨2, by omega, e⟩
    · exact ⟨3, by omega, e⟩
  · rintro ⟨k, hk, e⟩
    rcases (show k = 0 ∨ k = 1 ∨ k = 2 ∨ k = 3 by omega) with rfl | rfl | rfl | rfl
    · exact Or.inl e
    · exact Or.inr (Or.inl e)
    · exact Or.inr (Or.inr (Or.inl e))
    · exact Or.inr (Or.inr (Or.inr e))
theorem far_lt4 (c d : Nat) : far c d = far d c := by unfold far dist1; omega
theorem nI_one {n : Nat} (h : n < 2 ^ 31) : nI n = 1 ↔ n = 1 := by
  rw [show (1 : Int32) = nI 1 from rfl, nI_eq h (by omega)]
theorem far_small (c d : Nat) (h : c < 30) (hd : d < 30) : far c d < 2 ^ 31 := by have := far_le c d h hd; omega
theorem i32_anti {a b : Int32} (h : ∀ z, a ≤ z ↔ b ≤ z) : a = b := Int32.le_antisymm ((h b).mpr (Int32.le_refl b)) ((h a).mp (Int32.le_refl a))
/-- what the law's loop has seen -/
def stL (w : Nat → Int32) (c : Nat) (h : Int32) (n : Nat) : Int32 := itr (fun o x => if far c o = 1 then jMax x (jAbs (h - w (19 + 7 * o))) else x) 0 n
theorem stL_le {w : Nat → Int32} {c : Nat} {h z : Int32} : ∀ n, stL w c h n ≤ z ↔ 0 ≤ z ∧ ∀ o, o < n → far c o = 1 → jAbs (h - w (19 + 7 * o)) ≤ z
  | 0 => by
    show (0 : Int32) ≤ z ↔ _
    exact ⟨fun h => ⟨h, fun o ho => absurd ho (Nat.not_lt_zero o)⟩, fun h => h.1⟩
  | n + 1 => by
    have ih := stL_le (w := w) (c := c) (h := h) (z := z) n
    show (if far c n = 1 then jMax (stL w c h n) (jAbs (h - w (19 + 7 * n))) else stL w c h n) ≤ z ↔ _
    by_cases hf : far c n = 1
    · rw [if_pos hf, jMax_le, ih]
      constructor
      · rintro ⟨⟨h0, h1⟩, h2⟩
        refine ⟨h0, fun o ho hfo => ?_⟩
        rcases Nat.lt_succ_iff_lt_or_eq.mp ho with h | rfl
        · exact h1 o h hfo
        · exact h2
      · rintro ⟨h0, h1⟩
        exact ⟨⟨h0, fun o ho => h1 o (by omega)⟩, h1 n (by omega) hf⟩
    · rw [if_neg hf, ih]
      constructor
      · rintro ⟨h0, h1⟩
        refine ⟨h0, fun o ho hfo => ?_⟩
        rcases Nat.lt_succ_iff_lt_or_eq.mp ho with h | rfl
        · exact h1 o h hfo
        · exact absurd hfo hf
      · rintro ⟨h0, h1⟩
        exact ⟨h0, fun o ho => h1 o (by omega)⟩
theorem stL_stp {w : Nat → Int32} {c : Nat} {h : Int32} (hc : c < 30) : stL w c h 30 = stp w c h := by
  refine i32_anti fun z => ?_
  rw [stL_le]
  unfold stp
  rw [stp1_le, stp1_le, stp1_le, stp1_le]
  constructor
  · rintro ⟨h0, h1⟩
    have hk : ∀ k, k < 4 → ∀ d, nb c k = some d → jAbs (h - w (19 + 7 * d)) ≤ z := fun k hk d e => h1 d (nb_lt hc hk e) ((far_nb1 hc (nb_lt hc hk e)).mpr ⟨k, hk, e⟩)
    exact ⟨⟨⟨⟨h0, hk 0 (by omega)⟩, hk 1 (by omega)⟩, hk 2 (by omega)⟩, hk 3 (by omega)⟩
  · rintro ⟨⟨⟨⟨h0, h1⟩, h2⟩, h3⟩, h4⟩
    refine ⟨h0, fun o ho hf => ?_⟩
    rcases (far_1 c o hc ho).mp hf with e | e | e | e
    · exact h1 o e
    · exact h2 o e
    · exact h3 o e
    · exact h4 o e
theorem L_steepest {q : QV} {w : Nat → Int32} (hr : RelQ q w) (c : Nat) (hc : c < 30) (h : Int32) : f_L_steepest q (nI c) h = some (stp w c h) := by
  have hl : jbL (fun s => f_L_steepest_L5 q (nI c) h s.1 s.2) 5000 (stL w c h 0, nI 0) = some (stL w c h 30, nI 30) := by
    refine lpD (fun k => (stL w c h k, nI k)) _ 30 (fun k hk => ?_) ?_ 5000 (by decide)
    · show f_L_steepest_L5 q (nI c) h (stL w c h k) (nI k) = some (Sum.inl (stL w c h (k + 1), nI (k + 1)))
      unfold f_L_steepest_L5
      rw [if_neg (show ¬ (30 : Int32) ≤ nI k from nI_ge (a := k) (b := 30) hk (by decide)), jb_u, L_far c k hc hk]
      have e1 : stL w c h (k + 1) = if far c k = 1 then jMax (stL w c h k) (jAbs (h - w (19 + 7 * k))) else stL w c h k := rfl
      by_cases hf : far c k = 1
      · rw [if_pos ((nI_one (far_small c k hc hk)).mpr hf), tq_height _ hr (AtC.k hk), ob_s, jm_r, e1, if_pos hf]
        unfold f_L_steepest_J74
        rw [nI_1]
      · rw [if_neg (fun q => hf ((nI_one (far_small c k hc hk)).mp q)), e1, if_neg hf]
        unfold f_L_steepest_J74
        rw [nI_1]
    · show f_L_steepest_L5 q (nI c) h _ (nI 30) = _
      unfold f_L_steepest_L5
      rw [if_pos (show (30 : Int32) ≤ nI 30 from Int32.le_refl _)]
  unfold f_L_steepest
  rw [show ((0 : Int32), (0 : Int32)) = (stL w c h 0, nI 0) from rfl, hl, ob_s, stL_stp hc]
