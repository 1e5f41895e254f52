/-! the calls that tell, in the law -/
theorem lb_8 {T : Nat} {S : Sys} (h : RelS T S) (a1 a2 a3 a4 : Int32) (ol : Nat → Int64) (od : Nat → UInt64) : ∃ r, lawOp_8 S a1 a2 a3 a4 ol od = some r ∧ RelS (T + 1) r.1 := by
  refine lb_ask h [0] (f_X10_height (none, S.ep, S.fc) S.qv a1 a2) (f_X11_height S.mv a1 a2) (ask_height h _ a1 a2) (f_L_height (none, S.ep, S.fc) S.qv a1 a2 ol) ol od (fun r h1 => ?_) (fun k c h1 hc hex => ?_)
  · unfold f_L_height
    simp only [h1, ob_s, jm_r]
  · unfold f_L_height
    simp only [h1, ob_s, jm_l]
    rcases (show c = 0 ∨ c = 1 ∨ c = 2 ∨ c = 3 by omega) with rfl | rfl | rfl | rfl <;> (simp at hex) <;> (subst hex; rfl)
theorem lb_9 {T : Nat} {S : Sys} (h : RelS T S) (a1 a2 a3 a4 : Int32) (ol : Nat → Int64) (od : Nat → UInt64) : ∃ r, lawOp_9 S a1 a2 a3 a4 ol od = some r ∧ RelS (T + 1) r.1 := by
  refine lb_ask h [0] (f_X10_stone (none, S.ep, S.fc) S.qv a1 a2) (f_X11_stone S.mv a1 a2) (ask_stone h _ a1 a2) (f_L_stone (none, S.ep, S.fc) S.qv a1 a2 ol) ol od (fun r h1 => ?_) (fun k c h1 hc hex => ?_)
  · unfold f_L_stone
    simp only [h1, ob_s, jm_r]
  · unfold f_L_stone
    simp only [h1, ob_s, jm_l]
    rcases (show c = 0 ∨ c = 1 ∨ c = 2 ∨ c = 3 by omega) with rfl | rfl | rfl | rfl <;> (simp at hex) <;> (subst hex; rfl)
theorem lb_10 {T : Nat} {S : Sys} (h : RelS T S) (a1 a2 a3 a4 : Int32) (ol : Nat → Int64) (od : Nat → UInt64) : ∃ r, lawOp_10 S a1 a2 a3 a4 ol od = some r ∧ RelS (T + 1) r.1 := by
  refine lb_askZ h [0] (f_X10_isLedge (none, S.ep, S.fc) S.qv a1 a2) (f_X11_isLedge S.mv a1 a2) (ask_ledge h _ a1 a2) (f_L_isLedge (none, S.ep, S.fc) S.qv a1 a2 ol) ol od (fun r h1 => ?_) (fun k c h1 hc hex => ?_)
  · unfold f_L_isLedge
    simp only [h1, ob_s, jm_r]
  · unfold f_L_isLedge
    simp only [h1, ob_s, jm_l]
    rcases (show c = 0 ∨ c = 1 ∨ c = 2 ∨ c = 3 by omega) with rfl | rfl | rfl | rfl <;> (simp at hex) <;> (subst hex; rfl)
theorem lb_11 {T : Nat} {S : Sys} (h : RelS T S) (a1 a2 a3 a4 : Int32) (ol : Nat → Int64) (od : Nat → UInt64) : ∃ r, lawOp_11 S a1 a2 a3 a4 ol od = some r ∧ RelS (T + 1) r.1 := by
  refine lb_ask h [0] (f_X10_looseBlocks (none, S.ep, S.fc) S.qv a1 a2) (f_X11_looseBlocks S.mv a1 a2) (ask_loose h _ a1 a2) (f_L_looseBlocks (none, S.ep, S.fc) S.qv a1 a2 ol) ol od (fun r h1 => ?_) (fun k c h1 hc hex => ?_)
  · unfold f_L_looseBlocks
    simp only [h1, ob_s, jm_r]
  · unfold f_L_looseBlocks
    simp only [h1, ob_s, jm_l]
    rcases (show c = 0 ∨ c = 1 ∨ c = 2 ∨ c = 3 by omega) with rfl | rfl | rfl | rfl <;> (simp at hex) <;> (subst hex; rfl)
theorem lb_12 {T : Nat} {S : Sys} (h : RelS T S) (a1 a2 a3 a4 : Int32) (ol : Nat → Int64) (od : Nat → UInt64) : ∃ r, lawOp_12 S a1 a2 a3 a4 ol od = some r ∧ RelS (T + 1) r.1 := by
  refine lb_ask h [0, 2] (f_X10_topBlock (none, S.ep, S.fc) S.qv a1 a2) (f_X11_topBlock S.mv a1 a2) (ask_top h _ a1 a2) (f_L_topBlock (none, S.ep, S.fc) S.qv a1 a2 ol) ol od (fun r h1 => ?_) (fun k c h1 hc hex => ?_)
  · unfold f_L_topBlock
    simp only [h1, ob_s, jm_r]
  · unfold f_L_topBlock
    simp only [h1, ob_s, jm_l]
    rcases (show c = 0 ∨ c = 1 ∨ c = 2 ∨ c = 3 by omega) with rfl | rfl | rfl | rfl <;> (simp at hex) <;> (subst hex; rfl)
theorem lb_13 {T : Nat} {S : Sys} (h : RelS T S) (a1 a2 a3 a4 : Int32) (ol : Nat → Int64) (od : Nat → UInt64) : ∃ r, lawOp_13 S a1 a2 a3 a4 ol od = some r ∧ RelS (T + 1) r.1 := by
  refine lb_ask h [0] (f_X10_steepestStep (none, S.ep, S.fc) S.qv a1 a2) (f_X11_steepestStep S.mv a1 a2) (ask_steep h _ a1 a2) (f_L_steepestStep (none, S.ep, S.fc) S.qv a1 a2 ol) ol od (fun r h1 => ?_) (fun k c h1 hc hex => ?_)
  · unfold f_L_steepestStep
    simp only [h1, ob_s, jm_r]
  · unfold f_L_steepestStep
    simp only [h1, ob_s, jm_l]
    rcases (show c = 0 ∨ c = 1 ∨ c = 2 ∨ c = 3 by omega) with rfl | rfl | rfl | rfl <;> (simp at hex) <;> (subst hex; rfl)
theorem lb_14 {T : Nat} {S : Sys} (h : RelS T S) (a1 a2 a3 a4 : Int32) (ol : Nat → Int64) (od : Nat → UInt64) : ∃ r, lawOp_14 S a1 a2 a3 a4 ol od = some r ∧ RelS (T + 1) r.1 := by
  refine lb_askZ h [0] (f_X10_canCut (none, S.ep, S.fc) S.qv a1 a2) (f_X11_canCut S.mv a1 a2) (ask_canCut h _ a1 a2) (f_L_canCut (none, S.ep, S.fc) S.qv a1 a2 ol) ol od (fun r h1 => ?_) (fun k c h1 hc hex => ?_)
  · unfold f_L_canCut
    simp only [h1, ob_s, jm_r]
  · unfold f_L_canCut
    simp only [h1, ob_s, jm_l]
    rcases (show c = 0 ∨ c = 1 ∨ c = 2 ∨ c = 3 by omega) with rfl | rfl | rfl | rfl <;> (simp at hex) <;> (subst hex; rfl)
theorem lb_16 {T : Nat} {S : Sys} (h : RelS T S) (a1 a2 a3 a4 : Int32) (ol : Nat → Int64) (od : Nat → UInt64) : ∃ r, lawOp_16 S a1 a2 a3 a4 ol od = some r ∧ RelS (T + 1) r.1 := by
  refine lb_ask h [1] (f_X10_cellsAt (none, S.ep, S.fc) S.qv a1) (f_X11_cellsAt S.mv a1) (ask_cellsAt h _ a1) (f_L_cellsAt (none, S.ep, S.fc) S.qv a1 ol) ol od (fun r h1 => ?_) (fun k c h1 hc hex => ?_)
  · unfold f_L_cellsAt
    simp only [h1, ob_s, jm_r]
  · unfold f_L_cellsAt
    simp only [h1, ob_s, jm_l]
    rcases (show c = 0 ∨ c = 1 ∨ c = 2 ∨ c = 3 by omega) with rfl | rfl | rfl | rfl <;> (simp at hex) <;> (subst hex; rfl)
theorem lb_15 {T : Nat} {S : Sys} (h : RelS T S) (a1 a2 a3 a4 : Int32) (ol : Nat → Int64) (od : Nat → UInt64) : ∃ r, lawOp_15 S a1 a2 a3 a4 ol od = some r ∧ RelS (T + 1) r.1 :=
  lb_tell h (f_X10_cuttableCells (none, S.ep, S.fc) S.qv) (f_X11_cuttableCells S.mv) (tell_cuttable h _) ol od
