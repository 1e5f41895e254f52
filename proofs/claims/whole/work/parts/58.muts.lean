theorem lb_0 {T : Nat} {S : Sys} (h : RelS T S) (ht : 20 * T < 2 ^ 20) (a1 a2 a3 a4 : Int32) (ol : Nat → Int64) (od : Nat → UInt64) : ∃ r, lawOp_0 S a1 a2 a3 a4 ol od = some r ∧ RelS (T + 1) r.1 := by
  refine lb_mut h [0, 1] (f_X7_stoneFault S.qv a1 a2 a3) (f_X7_changeStone S.qv a1 a2 a3) (fun m => f_X11_sets m a1 a2 a3) (fun m hq hw => cmd_stone hq hw a1 a2 a3) (f_L_setStone (none, S.ep, S.fc) S.qv S.hv a1 a2 a3 ol) (f_X11_setStone S.mv a1 a2 a3) ol od rfl (fun r q' hv' h1 h2 h3 => ?_) (fun k c h1 hk hc hex => ?_)
  · unfold f_L_setStone f_X10_setStone
    simp only [h1, h2, h3, rf_0, jm_r, ob_s]
  · unfold f_L_setStone f_X10_setStone
    simp only [h1, rf_s k hk, jm_l, ob_s]
    rcases (show c = 0 ∨ c = 1 ∨ c = 2 ∨ c = 3 by omega) with rfl | rfl | rfl | rfl <;> (simp at hex) <;> (subst hex; rfl)
theorem lb_1 {T : Nat} {S : Sys} (h : RelS T S) (ht : 20 * T < 2 ^ 20) (a1 a2 a3 a4 : Int32) (ol : Nat → Int64) (od : Nat → UInt64) : ∃ r, lawOp_1 S a1 a2 a3 a4 ol od = some r ∧ RelS (T + 1) r.1 := by
  refine lb_mut h [0, 3, 4] (f_X7_cutFault S.qv a1 a2) (f_X7_cutCell S.qv a1 a2) (fun m => f_X11_cuts m a1 a2) (fun m hq hw => cmd_cut hq hw ht a1 a2) (f_L_cut (none, S.ep, S.fc) S.qv S.hv a1 a2 ol) (f_X11_cut S.mv a1 a2) ol od rfl (fun r q' hv' h1 h2 h3 => ?_) (fun k c h1 hk hc hex => ?_)
  · unfold f_L_cut f_X10_cut
    simp only [h1, h2, h3, rf_0, jm_r, ob_s]
  · unfold f_L_cut f_X10_cut
    simp only [h1, rf_s k hk, jm_l, ob_s]
    rcases (show c = 0 ∨ c = 1 ∨ c = 2 ∨ c = 3 by omega) with rfl | rfl | rfl | rfl <;> (simp at hex) <;> (subst hex; rfl)
theorem lb_2 {T : Nat} {S : Sys} (h : RelS T S) (ht : 20 * T < 2 ^ 20) (a1 a2 a3 a4 : Int32) (ol : Nat → Int64) (od : Nat → UInt64) : ∃ r, lawOp_2 S a1 a2 a3 a4 ol od = some r ∧ RelS (T + 1) r.1 := by
  refine lb_mut h [0, 3, 4] (f_X7_fillFault S.qv a1 a2) (f_X7_fillCell S.qv a1 a2) (fun m => f_X11_fills m a1 a2) (fun m hq hw => cmd_fill hq hw a1 a2) (f_L_fill (none, S.ep, S.fc) S.qv S.hv a1 a2 ol) (f_X11_fill S.mv a1 a2) ol od rfl (fun r q' hv' h1 h2 h3 => ?_) (fun k c h1 hk hc hex => ?_)
  · unfold f_L_fill f_X10_fill
    simp only [h1, h2, h3, rf_0, jm_r, ob_s]
  · unfold f_L_fill f_X10_fill
    simp only [h1, rf_s k hk, jm_l, ob_s]
    rcases (show c = 0 ∨ c = 1 ∨ c = 2 ∨ c = 3 by omega) with rfl | rfl | rfl | rfl <;> (simp at hex) <;> (subst hex; rfl)
theorem lb_4 {T : Nat} {S : Sys} (h : RelS T S) (ht : 20 * T < 2 ^ 20) (a1 a2 a3 a4 : Int32) (ol : Nat → Int64) (od : Nat → UInt64) : ∃ r, lawOp_4 S a1 a2 a3 a4 ol od = some r ∧ RelS (T + 1) r.1 := by
  refine lb_mut h [1, 4] (f_X7_limitFault S.qv a1) (f_X7_changeLimit S.qv a1) (fun m => f_X11_limits m a1) (fun m hq hw => cmd_limit hq hw a1) (f_L_setStepLimit (none, S.ep, S.fc) S.qv S.hv a1 ol) (f_X11_setStepLimit S.mv a1) ol od rfl (fun r q' hv' h1 h2 h3 => ?_) (fun k c h1 hk hc hex => ?_)
  · unfold f_L_setStepLimit f_X10_setStepLimit
    simp only [h1, h2, h3, rf_0, jm_r, ob_s]
  · unfold f_L_setStepLimit f_X10_setStepLimit
    simp only [h1, rf_s k hk, jm_l, ob_s]
    rcases (show c = 0 ∨ c = 1 ∨ c = 2 ∨ c = 3 by omega) with rfl | rfl | rfl | rfl <;> (simp at hex) <;> (subst hex; rfl)
theorem lb_5 {T : Nat} {S : Sys} (h : RelS T S) (ht : 20 * T < 2 ^ 20) (a1 a2 a3 a4 : Int32) (ol : Nat → Int64) (od : Nat → UInt64) : ∃ r, lawOp_5 S a1 a2 a3 a4 ol od = some r ∧ RelS (T + 1) r.1 := by
  refine lb_mut h [0, 1, 3] (f_X7_winchFault S.qv a1 a2 a3 a4) (f_X7_placeWinch S.qv a1 a2 a3 a4) (fun m => f_X11_adds m a1 a2 a3 a4) (fun m hq hw => cmd_winch hq hw a1 a2 a3 a4) (f_L_addWinch (none, S.ep, S.fc) S.qv S.hv a1 a2 a3 a4 ol) (f_X11_addWinch S.mv a1 a2 a3 a4) ol od rfl (fun r q' hv' h1 h2 h3 => ?_) (fun k c h1 hk hc hex => ?_)
  · unfold f_L_addWinch f_X10_addWinch
    simp only [h1, h2, h3, rf_0, jm_r, ob_s]
  · unfold f_L_addWinch f_X10_addWinch
    simp only [h1, rf_s k hk, jm_l, ob_s]
    rcases (show c = 0 ∨ c = 1 ∨ c = 2 ∨ c = 3 by omega) with rfl | rfl | rfl | rfl <;> (simp at hex) <;> (subst hex; rfl)
theorem lb_6 {T : Nat} {S : Sys} (h : RelS T S) (ht : 20 * T < 2 ^ 20) (a1 a2 a3 a4 : Int32) (ol : Nat → Int64) (od : Nat → UInt64) : ∃ r, lawOp_6 S a1 a2 a3 a4 ol od = some r ∧ RelS (T + 1) r.1 := by
  refine lb_mut h [0, 2, 3, 4] (f_X7_liftFault S.qv a1 a2 a3) (f_X7_liftBlock S.qv a2 a3) (fun m => f_X11_raises m a1 a2 a3) (fun m hq hw => cmd_lift hq hw ht a1 a2 a3) (f_L_lift (none, S.ep, S.fc) S.qv S.hv a1 a2 a3 ol) (f_X11_lift S.mv a1 a2 a3) ol od rfl (fun r q' hv' h1 h2 h3 => ?_) (fun k c h1 hk hc hex => ?_)
  · unfold f_L_lift f_X10_lift
    simp only [h1, h2, h3, rf_0, jm_r, ob_s]
  · unfold f_L_lift f_X10_lift
    simp only [h1, rf_s k hk, jm_l, ob_s]
    rcases (show c = 0 ∨ c = 1 ∨ c = 2 ∨ c = 3 by omega) with rfl | rfl | rfl | rfl <;> (simp at hex) <;> (subst hex; rfl)
theorem lb_7 {T : Nat} {S : Sys} (h : RelS T S) (ht : 20 * T < 2 ^ 20) (a1 a2 a3 a4 : Int32) (ol : Nat → Int64) (od : Nat → UInt64) : ∃ r, lawOp_7 S a1 a2 a3 a4 ol od = some r ∧ RelS (T + 1) r.1 := by
  refine lb_mut h [1, 3] (f_X7_crushFault S.qv a1 a2) (f_X7_crushBlocks S.qv a1 a2) (fun m => f_X11_crushes m a1 a2) (fun m hq hw => cmd_crush hq hw a1 a2) (f_L_crush (none, S.ep, S.fc) S.qv S.hv a1 a2 ol) (f_X11_crush S.mv a1 a2) ol od rfl (fun r q' hv' h1 h2 h3 => ?_) (fun k c h1 hk hc hex => ?_)
  · unfold f_L_crush f_X10_crush
    simp only [h1, h2, h3, rf_0, jm_r, ob_s]
  · unfold f_L_crush f_X10_crush
    simp only [h1, rf_s k hk, jm_l, ob_s]
    rcases (show c = 0 ∨ c = 1 ∨ c = 2 ∨ c = 3 by omega) with rfl | rfl | rfl | rfl <;> (simp at hex) <;> (subst hex; rfl)
