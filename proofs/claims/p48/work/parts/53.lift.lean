def wLift (w : Nat → Int32) (c n s : Nat) (z : Int32) : Nat → Int32 := upd (upd (upd (upd w (22 + 7 * c) (nI n)) (6 + s) (w (6 + s) + 1)) 3 (w 3 + 1)) 4 (w 4 + z)
def qLift (q : QV) (c n s : Nat) (z : Int32) : QV := qSWork (qWork q + z.toInt64) (qSLifts (qLifts q + 1) (qSYard (upd (qYard q) s (qYard q s + 1)) (qSBlockCounts (upd (qBlockCounts q) c (nI n)) q)))
theorem wide_add {a b : Nat} (ha : a < 2 ^ 30) (hb : b < 2 ^ 30) : (nI a + nI b).toInt64 = (nI a).toInt64 + (nI b).toInt64 := by rw [nI_add, nI_l (by omega), nI_l (by omega), nI_l (by omega), lN_add]
theorem RelQ.lift {q : QV} {w : Nat → Int32} (hr : RelQ q w) (c n s k z : Nat) (hc : c < 30) (hs : s < 4) (ek : w 4 = nI k) (hk : k < 2 ^ 30) (hz : z < 2 ^ 30) : RelQ (qLift q c n s (nI z)) (wLift w c n s (nI z)) := RelQ.mk
  (f_h := fun d hd => by unfold wLift; simp (disch := omega) only [upd_ne]; exact hr.h d hd)
  (f_s := fun d hd => by unfold wLift; simp (disch := omega) only [upd_ne]; exact hr.s d hd)
  (f_l := fun d hd => by unfold wLift; simp (disch := omega) only [upd_ne]; exact hr.l d hd)
  (f_n := fun d hd => by
      show upd (qBlockCounts q) c (nI n) d = _
      unfold wLift
      by_cases e : d = c
      · subst e; simp (disch := omega) only [upd_ne, upd_at]
      · rw [upd_ne _ _ e]; simp (disch := omega) only [upd_ne]; exact hr.n d hd)
  (f_b := fun d j hd hj => by unfold wLift; simp (disch := omega) only [upd_ne]; exact hr.b d j hd hj)
  (f_wc := fun i hi => by unfold wLift; simp (disch := omega) only [upd_ne]; exact hr.wc i hi)
  (f_cp := fun i hi => by unfold wLift; simp (disch := omega) only [upd_ne]; exact hr.cp i hi)
  (f_rc := fun i hi => by unfold wLift; simp (disch := omega) only [upd_ne]; exact hr.rc i hi)
  (f_yd := fun i hi => by
      show upd (qYard q) s (qYard q s + 1) i = _
      unfold wLift
      by_cases e : i = s
      · subst e; simp (disch := omega) only [upd_ne, upd_at]; rw [hr.yd i hi]
      · rw [upd_ne _ _ e]; simp (disch := omega) only [upd_ne]; exact hr.yd i hi)
  (f_lim := by unfold wLift; simp (disch := omega) only [upd_ne]; exact hr.lim)
  (f_rub := by unfold wLift; simp (disch := omega) only [upd_ne]; exact hr.rub)
  (f_cuts := by unfold wLift; simp (disch := omega) only [upd_ne]; exact hr.cuts)
  (f_lifts := by unfold wLift; simp (disch := omega) only [upd_ne, upd_at]; show qLifts q + 1 = _; rw [hr.lifts])
  (f_work := by
      unfold wLift
      rw [upd_at]
      show qWork q + (nI z).toInt64 = _
      rw [hr.work, ek, wide_add hk hz])
  (f_nw := by unfold wLift; simp (disch := omega) only [upd_ne]; exact hr.nw)
theorem InvW.lift {t : Nat} {w : Nat → Int32} (hi : InvW t w) (c n s z : Nat) (hc : c < 30) (hn : n < 3) (hs : s < 4) (hz : z ≤ 50) (hcn : w (22 + 7 * c) = nI (n + 1)) : InvW (t + 1) (wLift w c n s (nI z)) := InvW.mk
  (f_h := fun d hd => by unfold wLift; simp (disch := omega) only [upd_ne]; exact hi.h d hd)
  (f_s := fun d hd => by unfold wLift; simp (disch := omega) only [upd_ne]; exact hi.s d hd)
  (f_l := fun d hd => by unfold wLift; simp (disch := omega) only [upd_ne]; exact hi.l d hd)
  (f_n := fun d hd => by
      unfold wLift
      by_cases e : d = c
      · subst e; simp (disch := omega) only [upd_ne, upd_at]; exact ⟨n, by omega, rfl⟩
      · simp (disch := omega) only [upd_ne]; exact hi.n d hd)
  (f_b := fun d j hd hj => by unfold wLift; simp (disch := omega) only [upd_ne]; exact hi.b d j hd hj)
  (f_wc := fun i h => by unfold wLift; simp (disch := omega) only [upd_ne]; exact hi.wc i h)
  (f_cp := fun i h => by unfold wLift; simp (disch := omega) only [upd_ne]; exact hi.cp i h)
  (f_rc := fun i h => by unfold wLift; simp (disch := omega) only [upd_ne]; exact hi.rc i h)
  (f_lim := by unfold wLift; simp (disch := omega) only [upd_ne]; exact hi.lim)
  (f_cuts := by
      unfold wLift; simp (disch := omega) only [upd_ne]
      obtain ⟨k, hk, e⟩ := hi.cuts
      exact ⟨k, by omega, e⟩)
  (f_work := by
      unfold wLift; rw [upd_at]
      obtain ⟨k, hk, e⟩ := hi.work
      exact ⟨k + z, by omega, by rw [e, nI_add]⟩)
  (f_nw := by unfold wLift; simp (disch := omega) only [upd_ne]; exact hi.nw)
  (f_sum := by
      have h1 : itr (fun d y => y + wLift w c n s (nI z) (22 + 7 * d)) 0 30 = itr (fun d y => y + upd w (22 + 7 * c) (w (22 + 7 * c) + (-1)) (22 + 7 * d)) 0 30 := itr_cong (N := 30) (fun d y hd => by
        unfold wLift
        by_cases e : d = c
        · subst e; simp (disch := omega) only [upd_ne, upd_at]; rw [hcn, ← nI_1, Int32.add_assoc, show (1 : Int32) + (-1) = 0 from rfl, Int32.add_zero]
        · simp (disch := omega) only [upd_ne]) 30 (Nat.le_refl _)
      rw [h1, itr_bump, if_pos hc]
      have h2 : wLift w c n s (nI z) 2 = w 2 := by unfold wLift; simp (disch := omega) only [upd_ne]
      have h3 : wLift w c n s (nI z) 3 = w 3 + 1 := by unfold wLift; simp (disch := omega) only [upd_ne, upd_at]
      rw [h2, h3, hi.sum, Int32.add_assoc (w 3), Int32.add_comm 1, Int32.add_assoc (itr _ 0 30), show (-1 : Int32) + 1 = 0 from rfl, Int32.add_zero])
  (f_step := fun d k e hd hk he => by have := nb_lt hd hk he; unfold wLift; simp (disch := omega) only [upd_ne]; exact hi.step d k e hd hk he)
theorem winch_or {q : QV} {m : MV} (hr : RelQ q (mNow m)) (n : Nat) (hn : n ≤ 3) (en : mNow m 5 = nI n) (a : Int32) : (∃ i, i < n ∧ a = nI i ∧ f_X7_hasWinch q a = some 1 ∧ f_X11_isWinch m a = some 1) ∨ (f_X7_hasWinch q a = some 0 ∧ f_X11_isWinch m a = some 0) := by
  have hj5 : jIn (5 : Int32) 229 := nIin (c := 5) (by omega) (by decide)
  have h5 : (5 : Int32).toNatClampNeg = 5 := nI_clamp (n := 5) (by omega)
  have hm : f_X11_isWinch m a = (f_X11_isIn a 0 (nI n - 1)).bind fun o2 => if vp_nar .boolean o2 = o2 then some o2 else none := by
    unfold f_X11_isWinch
    rw [if_pos hj5, h5, en]
  by_cases h1 : a < 0
  · right
    exact ⟨by simp [f_X7_hasWinch, h1], by rw [hm, show f_X11_isIn a 0 (nI n - 1) = some 0 by simp [f_X11_isIn, h1]]; rfl⟩
  · by_cases h2 : nI n ≤ a
    · right
      refine ⟨by unfold f_X7_hasWinch; rw [if_neg h1, hr.nw, en, if_pos h2], ?_⟩
      have h3 : nI n - 1 < a := by
        have h4 : (nI n - 1).toInt = (n : Int) - 1 := by
          rw [Int32.toInt_sub, nI_toInt (by omega), show (1 : Int32).toInt = 1 from rfl, Int.bmod_eq_of_le (by omega) (by omega)]
        rw [Int32.lt_iff_toInt_lt, h4]
        rw [Int32.le_iff_toInt_le, nI_toInt (by omega)] at h2
        omega
      rw [hm, show f_X11_isIn a 0 (nI n - 1) = some 0 by unfold f_X11_isIn; rw [if_neg h1, if_pos h3]]
      rfl
    · obtain ⟨i, hi, rfl⟩ := nI_lt_of (by omega) h1 h2
      left
      refine ⟨i, hi, rfl, by unfold f_X7_hasWinch; rw [if_neg h1, hr.nw, en, if_neg h2], ?_⟩
      have h3 : ¬ nI n - 1 < nI i := by
        rw [show (1 : Int32) = nI 1 from rfl, nIsub (by omega)]
        exact nI_nlt (by omega) (by omega)
      rw [hm, show f_X11_isIn (nI i) 0 (nI n - 1) = some 1 by unfold f_X11_isIn; rw [if_neg h1, if_neg h3]]
      rfl
theorem m_topOf (m : MV) (c n : Nat) (hc : c < 30) (hn : n ≤ 3) (en : mNow m (22 + 7 * c) = nI n) : (n = 0 → f_X11_topOf m (nI c) = some (-1)) ∧ (∀ j, n = j + 1 → f_X11_topOf m (nI c) = some (mNow m (23 + 7 * c + j))) := by
  have o3 : f_X11_of m (nI c) 3 = some (nI n) := by rw [show (3 : Int32) = nI 3 from rfl, m_of c 3 (by omega), ← en]; congr 2; omega
  refine ⟨fun h => ?_, fun j h => ?_⟩
  · subst h
    unfold f_X11_topOf
    rw [o3]
    rfl
  · subst h
    have o4 : f_X11_of m (nI c) (nI (4 + j)) = some (mNow m (23 + 7 * c + j)) := by rw [m_of c (4 + j) (by omega)]; congr 2; omega
    unfold f_X11_topOf
    rw [o3]
    show (if nI (j + 1) = 0 then _ else _) = _
    rw [if_neg (show ¬ nI (j + 1) = 0 by rw [show (0 : Int32) = nI 0 from rfl, nI_eq (by omega) (by omega)]; omega), show (4 : Int32) + nI (j + 1) - 1 = nI (4 + j) by rw [show (4 : Int32) = nI 4 from rfl, nI_add, show 4 + (j + 1) = (4 + j) + 1 by omega, nI_pred], o4]
    rfl
theorem q_topStone {q : QV} {w : Nat → Int32} (hr : RelQ q w) (c j : Nat) (hc : c < 30) (hj : j < 3) (en : w (22 + 7 * c) = nI (j + 1)) : f_X7_topStoneAt q (nI c) = some (w (23 + 7 * c + j)) := by
  have hb : nI c * 3 + nI (j + 1) - 1 = nI (3 * c + j) := by rw [show (3 : Int32) = nI 3 from rfl, nImul, nI_add, show c * 3 + (j + 1) = (3 * c + j) + 1 by omega, nI_pred]
  unfold f_X7_topStoneAt
  rw [if_pos (nIin hc (by decide)), nI_clamp (by omega), hr.n c hc, en, hb, if_pos (nIin (by omega) (by decide)), nI_clamp (by omega), hr.b c j hc hj]

