def hrow (m : MV) (j : Nat) : Nat → Int32 := fun k => mHistory m (229 * j + k)
theorem h_next (n : Nat) (h : n < 8) : nI n + 1 - (nI n + 1) / 8 * 8 = nI ((n + 1) % 8) := (by decide +kernel : ∀ n : Fin 8, nI n.val + 1 - (nI n.val + 1) / 8 * 8 = nI ((n.val + 1) % 8)) ⟨n, h⟩
theorem h_min (c : Nat) (h : c ≤ 8) : jMin (nI c + 1) 8 = nI (min (c + 1) 8) := (by decide +kernel : ∀ c : Fin 9, jMin (nI c.val + 1) 8 = nI (min (c.val + 1) 8)) ⟨c, by omega⟩
theorem q_init : ∃ q, f_X7_init = some q := by
  have hl : ∀ q2 : QV, jbL (fun s => f_X7_init_L84 s.1 s.2) 5000 (nI 0, itr (fun k q => qSHeights (upd (qHeights q) k 6) q) q2 0) = some (nI 30, itr (fun k q => qSHeights (upd (qHeights q) k 6) q) q2 30) := by
    intro q2
    refine lpD (fun k => (nI k, itr (fun k q => qSHeights (upd (qHeights q) k 6) q) q2 k)) _ 30 (fun k hk => ?_) ?_ 5000 (by decide)
    · show f_X7_init_L84 (nI k) _ = _
      unfold f_X7_init_L84
      rw [if_neg (show ¬ (30 : Int32) ≤ nI k from nI_ge (a := k) (b := 30) hk (by decide)), if_pos (nIin hk (by decide)), nI_clamp (by omega)]
      show some (Sum.inl (nI k + 1, _)) = _
      rw [nI_1]
      rfl
    · show f_X7_init_L84 (nI 30) _ = _
      unfold f_X7_init_L84
      rw [if_pos (show (30 : Int32) ≤ nI 30 from Int32.le_refl _)]
  unfold f_X7_init
  simp only [jbN]
  generalize qSRubble 5 (qSLimit 1 qZero) = q2
  have h9 := hl q2
  rw [show (nI 0 : Int32) = 0 from rfl] at h9
  have h9' : jbL (fun s => f_X7_init_L84 s.1 s.2) 5000 ((0 : Int32), q2) = some (nI 30, itr (fun k q => qSHeights (upd (qHeights q) k 6) q) q2 30) := h9
  rw [h9']
  exact ⟨_, rfl⟩
