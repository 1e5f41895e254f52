/-! the plain counts -/
theorem tell_rubble {S : Sys} {T : Nat} (h : RelS T S) (tv : TV) : ∃ x m', f_X10_rubble tv S.qv = some x ∧ f_X11_rubble S.mv = some (x, m') ∧ Kept S.mv m' := by
  refine ⟨mNow S.mv 1, mSThrown 0 S.mv, ?_, ?_, Kept.thrown _ _⟩
  · unfold f_X10_rubble f_X7_loads
    simp only [ob_s, h.q.rub]
  · unfold f_X11_rubble
    simp only [jb_u, if_pos jl1, cl1, mN2]
theorem lb_29 {T : Nat} {S : Sys} (h : RelS T S) (a1 a2 a3 a4 : Int32) (ol : Nat → Int64) (od : Nat → UInt64) : ∃ r, lawOp_29 S a1 a2 a3 a4 ol od = some r ∧ RelS (T + 1) r.1 :=
  lb_tell h (f_X10_rubble (none, S.ep, S.fc) S.qv) (f_X11_rubble S.mv) (tell_rubble h _) ol od
theorem tell_stepLimit {S : Sys} {T : Nat} (h : RelS T S) (tv : TV) : ∃ x m', f_X10_stepLimit tv S.qv = some x ∧ f_X11_stepLimit S.mv = some (x, m') ∧ Kept S.mv m' := by
  refine ⟨mNow S.mv 0, mSThrown 0 S.mv, ?_, ?_, Kept.thrown _ _⟩
  · unfold f_X10_stepLimit f_X7_limit
    simp only [ob_s, h.q.lim]
  · unfold f_X11_stepLimit
    simp only [jb_u, if_pos jl0, cl0, mN2]
theorem lb_30 {T : Nat} {S : Sys} (h : RelS T S) (a1 a2 a3 a4 : Int32) (ol : Nat → Int64) (od : Nat → UInt64) : ∃ r, lawOp_30 S a1 a2 a3 a4 ol od = some r ∧ RelS (T + 1) r.1 :=
  lb_tell h (f_X10_stepLimit (none, S.ep, S.fc) S.qv) (f_X11_stepLimit S.mv) (tell_stepLimit h _) ol od
theorem tell_cutTotal {S : Sys} {T : Nat} (h : RelS T S) (tv : TV) : ∃ x m', f_X10_cutTotal tv S.qv = some x ∧ f_X11_cutTotal S.mv = some (x, m') ∧ Kept S.mv m' := by
  refine ⟨mNow S.mv 2, mSThrown 0 S.mv, ?_, ?_, Kept.thrown _ _⟩
  · unfold f_X10_cutTotal f_X7_cutsDone
    simp only [ob_s, h.q.cuts]
  · unfold f_X11_cutTotal
    simp only [jb_u, if_pos jl2, cl2, mN2]
theorem lb_31 {T : Nat} {S : Sys} (h : RelS T S) (a1 a2 a3 a4 : Int32) (ol : Nat → Int64) (od : Nat → UInt64) : ∃ r, lawOp_31 S a1 a2 a3 a4 ol od = some r ∧ RelS (T + 1) r.1 :=
  lb_tell h (f_X10_cutTotal (none, S.ep, S.fc) S.qv) (f_X11_cutTotal S.mv) (tell_cutTotal h _) ol od
theorem tell_workTotal {S : Sys} {T : Nat} (h : RelS T S) (tv : TV) : ∃ x m', f_X10_workTotal tv S.qv = some x ∧ f_X11_workTotal S.mv = some (x, m') ∧ Kept S.mv m' := by
  refine ⟨(mNow S.mv 4).toInt64, mSThrown 0 S.mv, ?_, ?_, Kept.thrown _ _⟩
  · unfold f_X10_workTotal f_X7_workDone
    simp only [ob_s, h.q.work]
  · unfold f_X11_workTotal
    simp only [jb_u, if_pos jl4, cl4, mN2]
theorem lb_32 {T : Nat} {S : Sys} (h : RelS T S) (a1 a2 a3 a4 : Int32) (ol : Nat → Int64) (od : Nat → UInt64) : ∃ r, lawOp_32 S a1 a2 a3 a4 ol od = some r ∧ RelS (T + 1) r.1 :=
  lb_tell h (f_X10_workTotal (none, S.ep, S.fc) S.qv) (f_X11_workTotal S.mv) (tell_workTotal h _) ol od
theorem tell_winchCount {S : Sys} {T : Nat} (h : RelS T S) (tv : TV) : ∃ x m', f_X10_winchCount tv S.qv = some x ∧ f_X11_winchCount S.mv = some (x, m') ∧ Kept S.mv m' := by
  refine ⟨mNow S.mv 5, mSThrown 0 S.mv, ?_, ?_, Kept.thrown _ _⟩
  · unfold f_X10_winchCount f_X7_countWinches
    simp only [ob_s, h.q.nw]
  · unfold f_X11_winchCount
    simp only [jb_u, if_pos jl5, cl5, mN2]
theorem lb_24 {T : Nat} {S : Sys} (h : RelS T S) (a1 a2 a3 a4 : Int32) (ol : Nat → Int64) (od : Nat → UInt64) : ∃ r, lawOp_24 S a1 a2 a3 a4 ol od = some r ∧ RelS (T + 1) r.1 :=
  lb_tell h (f_X10_winchCount (none, S.ep, S.fc) S.qv) (f_X11_winchCount S.mv) (tell_winchCount h _) ol od
theorem ask_inYard {S : Sys} {T : Nat} (h : RelS T S) (tv : TV) (a : Int32) : Ask [1] (f_X10_inYard tv S.qv a) (f_X11_inYard S.mv a) S.mv := by
  rcases stone_or a with ⟨s, hs, rfl, s1, s2⟩ | ⟨s1, s2⟩
  · left
    have j4 : jIn (nI s) 4 := nIin hs (by decide)
    have l4 : (nI s).toNatClampNeg = s := nI_clamp (by omega)
    have p6 : (6 : Int32) + nI s = nI (6 + s) := nI_add 6 s
    have j6 : jIn (nI (6 + s)) 229 := nIin (by omega) (by decide)
    have l6 : (nI (6 + s)).toNatClampNeg = 6 + s := nI_clamp (by omega)
    refine ⟨mNow S.mv (6 + s), mSThrown 0 S.mv, ?_, ?_, Kept.thrown _ _, rfl⟩
    · unfold f_X10_inYard f_X7_yardBlocks
      simp only [s1, ob_s, i10, ↓reduceIte, if_pos j4, l4, h.q.yd s hs]
    · unfold f_X11_inYard
      simp only [s2, ob_s, m_goes0, i10, ↓reduceIte, p6, if_pos j6, l6, mN2]
  · right
    refine ⟨1, 0, 0, mSThrown 1 S.mv, by unfold f_X10_inYard; simp only [s1, ob_s, ↓reduceIte], by omega, rfl, ?_, Kept.thrown _ _, rfl⟩
    unfold f_X11_inYard
    simp only [s2, ob_s, m_goes1, ↓reduceIte]
theorem lb_27 {T : Nat} {S : Sys} (h : RelS T S) (a1 a2 a3 a4 : Int32) (ol : Nat → Int64) (od : Nat → UInt64) : ∃ r, lawOp_27 S a1 a2 a3 a4 ol od = some r ∧ RelS (T + 1) r.1 := by
  refine lb_ask h [1] (f_X10_inYard (none, S.ep, S.fc) S.qv a1) (f_X11_inYard S.mv a1) (ask_inYard h _ a1) (f_L_inYard (none, S.ep, S.fc) S.qv a1 ol) ol od (fun r h1 => ?_) (fun k c h1 hc hex => ?_)
  · unfold f_L_inYard
    simp only [h1, ob_s, jm_r]
  · unfold f_L_inYard
    simp only [h1, ob_s, jm_l]
    rcases (show c = 0 ∨ c = 1 ∨ c = 2 ∨ c = 3 by omega) with rfl | rfl | rfl | rfl <;> (simp at hex) <;> (subst hex; rfl)
