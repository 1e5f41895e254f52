def cAt (w : Nat → Int32) (a : Int32) (n : Nat) : Int32 := itr (fun c x => if w (19 + 7 * c) = a then x + 1 else x) 0 n
theorem q_countAt {q : QV} {w : Nat → Int32} (hr : RelQ q w) (a : Int32) : f_X7_countAt q a = some (cAt w a 30) := by
  have hl : jbL (fun s => f_X7_countAt_L4 q a s.1 s.2) 5000 (cAt w a 0, nI 0) = some (cAt w a 30, nI 30) := by
    refine lpD (fun k => (cAt w a k, nI k)) _ 30 (fun k hk => ?_) ?_ 5000 (by decide)
    · show f_X7_countAt_L4 q a (cAt w a k) (nI k) = some (Sum.inl ((if w (19 + 7 * k) = a then cAt w a k + 1 else cAt w a k), nI (k + 1)))
      unfold f_X7_countAt_L4
      rw [if_neg (show ¬ (30 : Int32) ≤ nI k from nI_ge (a := k) (b := 30) hk (by decide)), if_pos (nIin hk (by decide)), nI_clamp (by omega), hr.h k hk]
      by_cases e : w (19 + 7 * k) = a
      · rw [if_pos e, if_pos e]
        show some (Sum.inl (cAt w a k + 1, nI k + 1)) = _
        rw [nI_1]
      · rw [if_neg e, if_neg e]
        show some (Sum.inl (cAt w a k, nI k + 1)) = _
        rw [nI_1]
    · show f_X7_countAt_L4 q a _ (nI 30) = _
      unfold f_X7_countAt_L4
      rw [if_pos (show (30 : Int32) ≤ nI 30 from Int32.le_refl _)]
  unfold f_X7_countAt
  rw [show ((0 : Int32), (0 : Int32)) = (cAt w a 0, nI 0) from rfl, hl]
  rfl
