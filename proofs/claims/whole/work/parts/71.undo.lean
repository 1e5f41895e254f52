/-! the places of an error; undo; restore -/
theorem ask_errorPosition {S : Sys} {T : Nat} (h : RelS T S) : Ask [2] (f_X10_errorPosition (none, S.ep, S.fc)) (f_X11_errorPosition S.mv) S.mv := by
  by_cases e : S.ep = -1
  · right
    refine ⟨2, 0, 0, mSThrown 1 S.mv, ?_, by omega, rfl, ?_, Kept.thrown _ _, rfl⟩
    · unfold f_X10_errorPosition
      rw [if_pos (show tErrorPosition (none, S.ep, S.fc) = -1 from e)]
    · unfold f_X11_errorPosition f_X11_errorPosition_J14
      rw [if_pos (h.e.trans e)]
      simp only [m_goes1, ob_s, ↓reduceIte]
  · left
    refine ⟨S.ep, mSThrown 0 S.mv, ?_, ?_, Kept.thrown _ _, rfl⟩
    · unfold f_X10_errorPosition
      rw [if_neg (show ¬ tErrorPosition (none, S.ep, S.fc) = -1 from e)]
      rfl
    · unfold f_X11_errorPosition f_X11_errorPosition_J14
      rw [if_neg (show ¬ mErrorAt S.mv = -1 by rw [h.e]; exact e)]
      simp only [m_goes0, ob_s, i10, ↓reduceIte, mg6_0, mg6_1, mg6_2, mg6_3, mg6_4, mg6_5, mg6_6, mg6_7, mg6_8, mg6_9, mg6_10, mg6_11, mg6_12, mg6_13, mg6_14, mg6_15, mg6_16, mg6_17, mg6_18, h.e]
theorem ask_failedCommand {S : Sys} {T : Nat} (h : RelS T S) : Ask [2] (f_X10_failedCommand (none, S.ep, S.fc)) (f_X11_failedCommand S.mv) S.mv := by
  by_cases e : S.fc = -1
  · right
    refine ⟨2, 0, 0, mSThrown 1 S.mv, ?_, by omega, rfl, ?_, Kept.thrown _ _, rfl⟩
    · unfold f_X10_failedCommand
      rw [if_pos (show tFailedCommand (none, S.ep, S.fc) = -1 from e)]
    · unfold f_X11_failedCommand f_X11_failedCommand_J14
      rw [if_pos (h.f.trans e)]
      simp only [m_goes1, ob_s, ↓reduceIte]
  · left
    refine ⟨S.fc, mSThrown 0 S.mv, ?_, ?_, Kept.thrown _ _, rfl⟩
    · unfold f_X10_failedCommand
      rw [if_neg (show ¬ tFailedCommand (none, S.ep, S.fc) = -1 from e)]
      rfl
    · unfold f_X11_failedCommand f_X11_failedCommand_J14
      rw [if_neg (show ¬ mFailedAt S.mv = -1 by rw [h.f]; exact e)]
      simp only [m_goes0, ob_s, i10, ↓reduceIte, mg7_0, mg7_1, mg7_2, mg7_3, mg7_4, mg7_5, mg7_6, mg7_7, mg7_8, mg7_9, mg7_10, mg7_11, mg7_12, mg7_13, mg7_14, mg7_15, mg7_16, mg7_17, mg7_18, h.f]
theorem lb_38 {T : Nat} {S : Sys} (h : RelS T S) (a1 a2 a3 a4 : Int32) (ol : Nat → Int64) (od : Nat → UInt64) : ∃ r, lawOp_38 S a1 a2 a3 a4 ol od = some r ∧ RelS (T + 1) r.1 := by
  refine lb_ask h [2] (f_X10_errorPosition (none, S.ep, S.fc)) (f_X11_errorPosition S.mv) (ask_errorPosition h) (f_L_errorPosition (none, S.ep, S.fc) ol) ol od (fun r h1 => ?_) (fun k c h1 hc hex => ?_)
  · unfold f_L_errorPosition
    simp only [h1, ob_s, jm_r]
  · unfold f_L_errorPosition
    simp only [h1, ob_s, jm_l]
    rcases (show c = 0 ∨ c = 1 ∨ c = 2 ∨ c = 3 by omega) with rfl | rfl | rfl | rfl <;> (simp at hex) <;> (subst hex; rfl)
theorem lb_39 {T : Nat} {S : Sys} (h : RelS T S) (a1 a2 a3 a4 : Int32) (ol : Nat → Int64) (od : Nat → UInt64) : ∃ r, lawOp_39 S a1 a2 a3 a4 ol od = some r ∧ RelS (T + 1) r.1 := by
  refine lb_ask h [2] (f_X10_failedCommand (none, S.ep, S.fc)) (f_X11_failedCommand S.mv) (ask_failedCommand h) (f_L_failedCommand (none, S.ep, S.fc) ol) ol od (fun r h1 => ?_) (fun k c h1 hc hex => ?_)
  · unfold f_L_failedCommand
    simp only [h1, ob_s, jm_r]
  · unfold f_L_failedCommand
    simp only [h1, ob_s, jm_l]
    rcases (show c = 0 ∨ c = 1 ∨ c = 2 ∨ c = 3 by omega) with rfl | rfl | rfl | rfl <;> (simp at hex) <;> (subst hex; rfl)
