def canC (w : Nat → Int32) (c : Nat) : Prop := fitCut w c ∧ ¬ w 0 < stp w c (w (19 + 7 * c) - 1)
theorem rc_of (c : Nat) (hc : c < 30) : c / 6 < 5 ∧ c % 6 < 6 ∧ 6 * (c / 6) + c % 6 = c := by omega
