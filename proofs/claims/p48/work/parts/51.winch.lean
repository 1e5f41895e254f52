def hasW (w : Nat → Int32) (n c : Nat) : Prop := ∃ i, i < n ∧ w (10 + 3 * i) = nI c
theorem hasW_s {w : Nat → Int32} {n c : Nat} : hasW w (n + 1) c ↔ hasW w n c ∨ w (10 + 3 * n) = nI c := by
  constructor
  · intro ⟨i, hi, e⟩
    by_cases h : i = n
    · subst h; exact Or.inr e
    · exact Or.inl ⟨i, by omega, e⟩
  · rintro (⟨i, hi, e⟩ | e)
    · exact ⟨i, by omega, e⟩
    · exact ⟨n, by omega, e⟩
theorem q_hasW {q : QV} {w : Nat → Int32} (hr : RelQ q w) (n c : Nat) (hn : n ≤ 3) (en : w 5 = nI n) : (hasW w n c → f_X7_hasWinchAt q (nI c) = some 1) ∧ (¬ hasW w n c → f_X7_hasWinchAt q (nI c) = some 0) := by
  obtain ⟨r, h1, h2⟩ := lpL (body := fun s => f_X7_hasWinchAt_L2 q (nI c) s) (fun k s => s = nI k ∧ ¬ hasW w k c)
    (fun r => (∃ x, r = .inl x ∧ ¬ hasW w n c) ∨ (r = .inr 1 ∧ hasW w n c)) n
    (fun k s hk ⟨hs, hno⟩ => by
      subst hs
      unfold f_X7_hasWinchAt_L2
      rw [hr.nw, en, if_neg (nI_ge hk (by omega)), if_pos (nIin (show k < 3 by omega) (by decide)), nI_clamp (by omega), hr.wc k (by omega)]
      by_cases h : w (10 + 3 * k) = nI c
      · right
        rw [if_pos h]
        exact ⟨_, rfl, Or.inr ⟨rfl, k, hk, h⟩⟩
      · left
        rw [if_neg h, nI_1]
        exact ⟨_, rfl, rfl, fun h9 => (hasW_s.mp h9).elim hno h⟩)
    (fun s ⟨hs, hno⟩ => ⟨.inl s, by
      subst hs
      unfold f_X7_hasWinchAt_L2
      rw [hr.nw, en, if_pos (Int32.le_refl _)], Or.inl ⟨s, rfl, hno⟩⟩) 5000 0 (nI 0) (by omega) (by omega) ⟨rfl, fun ⟨i, hi, _⟩ => absurd hi (Nat.not_lt_zero _)⟩
  have hun : ∀ r : Sum Int32 Int32, jbL (fun s => f_X7_hasWinchAt_L2 q (nI c) s) 5000 (nI 0) = some r → f_X7_hasWinchAt q (nI c) = some (match r with | .inl _ => 0 | .inr v => v) := by
    intro r h
    have h' : jbL (fun s => f_X7_hasWinchAt_L2 q (nI c) s) 5000 (0 : Int32) = some r := h
    unfold f_X7_hasWinchAt
    rw [h']
    cases r <;> rfl
  rcases h2 with ⟨x, rfl, h3⟩ | ⟨rfl, h3⟩
  · exact ⟨fun h => absurd h h3, fun _ => hun _ h1⟩
  · exact ⟨fun _ => hun _ h1, fun h => absurd h3 h⟩
theorem m_ofW (m : MV) (i j : Nat) (h : 3 * i + j < 200) : f_X11_ofWinch m (nI i) (nI j) = some (mNow m (10 + 3 * i + j)) := by
  unfold f_X11_ofWinch
  rw [show (10 : Int32) + 3 * nI i + nI j = nI (10 + 3 * i + j) by rw [show (10 : Int32) = nI 10 from rfl, show (3 : Int32) = nI 3 from rfl, nImul, nI_add, nI_add], if_pos (nIin (by omega) (by decide)), nI_clamp (by omega)]
theorem m_hasW (m : MV) (n c : Nat) (hn : n ≤ 3) (en : mNow m 5 = nI n) : (hasW (mNow m) n c → f_X11_hasWinch m (nI c) = some 1) ∧ (¬ hasW (mNow m) n c → f_X11_hasWinch m (nI c) = some 0) := by
  have hj5 : jIn (5 : Int32) 229 := nIin (c := 5) (by omega) (by decide)
  obtain ⟨r, h1, h2⟩ := lpL (body := fun s : Int32 × Int32 => f_X11_hasWinch_L4 m (nI c) s.1 s.2) (fun k s => s.2 = nI k ∧ ((hasW (mNow m) k c ∧ s.1 = 1) ∨ (¬ hasW (mNow m) k c ∧ s.1 = 0)))
    (fun r => (hasW (mNow m) n c ∧ r.1 = 1) ∨ (¬ hasW (mNow m) n c ∧ r.1 = 0)) n
    (fun k s hk ⟨hs, hcase⟩ => by
      left
      obtain ⟨x, y⟩ := s
      have hs : y = nI k := hs
      subst hs
      have o : f_X11_ofWinch m (nI k) 0 = some (mNow m (10 + 3 * k)) := by rw [show (0 : Int32) = nI 0 from rfl, m_ofW m k 0 (by omega)]; rfl
      have h5 : (5 : Int32).toNatClampNeg = 5 := nI_clamp (n := 5) (by omega)
      show ∃ s', f_X11_hasWinch_L4 m (nI c) x (nI k) = _ ∧ _
      unfold f_X11_hasWinch_L4
      rw [if_pos hj5, h5, en, if_neg (nI_ge hk (by omega))]
      rcases hcase with ⟨hy, e⟩ | ⟨hno, e⟩
      · have e : x = 1 := e
        subst e
        exact ⟨(1, nI (k + 1)), by rw [if_neg (by decide)]; show some (Sum.inl ((1 : Int32), nI k + 1)) = _; rw [nI_1], rfl, Or.inl ⟨hasW_s.mpr (Or.inl hy), rfl⟩⟩
      · have e : x = 0 := e
        subst e
        rw [if_pos rfl, o]
        by_cases h : mNow m (10 + 3 * k) = nI c
        · exact ⟨(1, nI (k + 1)), by show (if _ = nI c then some (Sum.inl ((1 : Int32), nI k + 1)) else _) = _; rw [if_pos h, nI_1], rfl, Or.inl ⟨hasW_s.mpr (Or.inr h), rfl⟩⟩
        · exact ⟨(0, nI (k + 1)), by show (if _ = nI c then _ else some (Sum.inl ((0 : Int32), nI k + 1))) = _; rw [if_neg h, nI_1], rfl, Or.inr ⟨fun h9 => (hasW_s.mp h9).elim hno h, rfl⟩⟩)
    (fun s ⟨hs, hcase⟩ => ⟨s, by
      obtain ⟨x, y⟩ := s
      have hs : y = nI n := hs
      subst hs
      have h5 : (5 : Int32).toNatClampNeg = 5 := nI_clamp (n := 5) (by omega)
      show f_X11_hasWinch_L4 m (nI c) x (nI n) = _
      unfold f_X11_hasWinch_L4
      rw [if_pos hj5, h5, en, if_pos (Int32.le_refl _)], hcase⟩) 5000 0 (0, nI 0) (by omega) (by omega) ⟨rfl, Or.inr ⟨fun ⟨i, hi, _⟩ => absurd hi (Nat.not_lt_zero _), rfl⟩⟩
  have hun : f_X11_hasWinch m (nI c) = if vp_nar .boolean r.1 = r.1 then some r.1 else none := by
    unfold f_X11_hasWinch
    rw [show ((0 : Int32), (0 : Int32)) = ((0 : Int32), nI 0) from rfl, h1]
    rfl
  rcases h2 with ⟨h3, e⟩ | ⟨h3, e⟩
  · exact ⟨fun _ => by rw [hun, e]; rfl, fun h => absurd h3 h⟩
  · exact ⟨fun h => absurd h h3, fun _ => by rw [hun, e]; rfl⟩
/-- the row after a new winch -/
def wWin (w : Nat → Int32) (n c a b : Nat) : Nat → Int32 := upd (upd (upd (upd w (10 + 3 * n) (nI c)) (11 + 3 * n) (nI a)) (12 + 3 * n) (nI b)) 5 (nI (n + 1))
def qWin (q : QV) (n c a b : Nat) : QV := qSWinches (nI (n + 1)) (qSReaches (upd (qReaches q) n (nI b)) (qSCapacities (upd (qCapacities q) n (nI a)) (qSWinchCells (upd (qWinchCells q) n (nI c)) q)))
theorem RelQ.win {q : QV} {w : Nat → Int32} (hr : RelQ q w) (n c a b : Nat) (hn : n < 3) : RelQ (qWin q n c a b) (wWin w n c a b) := RelQ.mk
  (f_h := fun d hd => by unfold wWin; simp (disch := omega) only [upd_ne]; exact hr.h d hd)
  (f_s := fun d hd => by unfold wWin; simp (disch := omega) only [upd_ne]; exact hr.s d hd)
  (f_l := fun d hd => by unfold wWin; simp (disch := omega) only [upd_ne]; exact hr.l d hd)
  (f_n := fun d hd => by unfold wWin; simp (disch := omega) only [upd_ne]; exact hr.n d hd)
  (f_b := fun d j hd hj => by unfold wWin; simp (disch := omega) only [upd_ne]; exact hr.b d j hd hj)
  (f_wc := fun i hi => by
      show upd (qWinchCells q) n (nI c) i = wWin w n c a b (10 + 3 * i)
      unfold wWin
      by_cases e : i = n
      · subst e; simp (disch := omega) only [upd_ne, upd_at]
      · rw [upd_ne _ _ e]; simp (disch := omega) only [upd_ne]; exact hr.wc i hi)
  (f_cp := fun i hi => by
      show upd (qCapacities q) n (nI a) i = wWin w n c a b (11 + 3 * i)
      unfold wWin
      by_cases e : i = n
      · subst e; simp (disch := omega) only [upd_ne, upd_at]
      · rw [upd_ne _ _ e]; simp (disch := omega) only [upd_ne]; exact hr.cp i hi)
  (f_rc := fun i hi => by
      show upd (qReaches q) n (nI b) i = wWin w n c a b (12 + 3 * i)
      unfold wWin
      by_cases e : i = n
      · subst e; simp (disch := omega) only [upd_ne, upd_at]
      · rw [upd_ne _ _ e]; simp (disch := omega) only [upd_ne]; exact hr.rc i hi)
  (f_yd := fun i hi => by unfold wWin; simp (disch := omega) only [upd_ne]; exact hr.yd i hi)
  (f_lim := by unfold wWin; simp (disch := omega) only [upd_ne]; exact hr.lim)
  (f_rub := by unfold wWin; simp (disch := omega) only [upd_ne]; exact hr.rub)
  (f_cuts := by unfold wWin; simp (disch := omega) only [upd_ne]; exact hr.cuts)
  (f_lifts := by unfold wWin; simp (disch := omega) only [upd_ne]; exact hr.lifts)
  (f_work := by unfold wWin; simp (disch := omega) only [upd_ne]; exact hr.work)
  (f_nw := by unfold wWin; rw [upd_at]; rfl)
theorem InvW.win {t : Nat} {w : Nat → Int32} (hi : InvW t w) (n c a b : Nat) (hn : n < 3) (hc : c < 30) (ha : a ≤ 9) (hb : b ≤ 6) : InvW t (wWin w n c a b) := InvW.mk
  (f_h := fun d hd => by unfold wWin; simp (disch := omega) only [upd_ne]; exact hi.h d hd)
  (f_s := fun d hd => by unfold wWin; simp (disch := omega) only [upd_ne]; exact hi.s d hd)
  (f_l := fun d hd => by unfold wWin; simp (disch := omega) only [upd_ne]; exact hi.l d hd)
  (f_n := fun d hd => by unfold wWin; simp (disch := omega) only [upd_ne]; exact hi.n d hd)
  (f_b := fun d j hd hj => by unfold wWin; simp (disch := omega) only [upd_ne]; exact hi.b d j hd hj)
  (f_wc := fun i h => by
      unfold wWin
      by_cases e : i = n
      · subst e; simp (disch := omega) only [upd_ne, upd_at]; exact ⟨c, hc, rfl⟩
      · simp (disch := omega) only [upd_ne]; exact hi.wc i h)
  (f_cp := fun i h => by
      unfold wWin
      by_cases e : i = n
      · subst e; simp (disch := omega) only [upd_ne, upd_at]; exact ⟨a, ha, rfl⟩
      · simp (disch := omega) only [upd_ne]; exact hi.cp i h)
  (f_rc := fun i h => by
      unfold wWin
      by_cases e : i = n
      · subst e; simp (disch := omega) only [upd_ne, upd_at]; exact ⟨b, hb, rfl⟩
      · simp (disch := omega) only [upd_ne]; exact hi.rc i h)
  (f_lim := by unfold wWin; simp (disch := omega) only [upd_ne]; exact hi.lim)
  (f_cuts := by unfold wWin; simp (disch := omega) only [upd_ne]; exact hi.cuts)
  (f_work := by unfold wWin; simp (disch := omega) only [upd_ne]; exact hi.work)
  (f_nw := by unfold wWin; rw [upd_at]; exact ⟨n + 1, by omega, rfl⟩)
  (f_sum := by
      have h1 : itr (fun d z => z + wWin w n c a b (22 + 7 * d)) 0 30 = itr (fun d z => z + w (22 + 7 * d)) 0 30 := itr_cong (N := 30) (fun d z hd => by unfold wWin; simp (disch := omega) only [upd_ne]) 30 (Nat.le_refl _)
      rw [h1]
      unfold wWin
      simp (disch := omega) only [upd_ne]
      exact hi.sum)
  (f_step := fun d k e hd hk he => by have := nb_lt hd hk he; unfold wWin; simp (disch := omega) only [upd_ne]; exact hi.step d k e hd hk he)
theorem in_2_9 (x : Int32) : (∃ n, n ≤ 9 ∧ x = nI n ∧ f_X11_isIn x 2 9 = some 1 ∧ ¬ x < 2 ∧ ¬ 9 < x) ∨ ((x < 2 ∨ 9 < x) ∧ f_X11_isIn x 2 9 = some 0) := by
  unfold f_X11_isIn
  by_cases h1 : x < 2
  · right; exact ⟨Or.inl h1, by rw [if_pos h1]⟩
  · by_cases h2 : 9 < x
    · right; exact ⟨Or.inr h2, by rw [if_neg h1, if_pos h2]⟩
    · left
      have h0 : ¬ x < 0 := fun h => h1 (by rw [Int32.lt_iff_toInt_lt] at *; exact Int.lt_trans h (by decide))
      obtain ⟨j, hj, rfl⟩ := nI_of2 (M := 9) (n := 9) rfl h0 (Int32.not_lt.mp h2)
      exact ⟨j, hj, rfl, by rw [if_neg h1, if_neg h2], h1, h2⟩
theorem in_1_6 (x : Int32) : (∃ n, n ≤ 6 ∧ x = nI n ∧ f_X11_isIn x 1 6 = some 1 ∧ ¬ x < 1 ∧ x ≤ 6) ∨ ((x < 1 ∨ ¬ x ≤ 6) ∧ f_X11_isIn x 1 6 = some 0) := by
  unfold f_X11_isIn
  by_cases h1 : x < 1
  · right; exact ⟨Or.inl h1, by rw [if_pos h1]⟩
  · by_cases h2 : x ≤ 6
    · left
      have h0 : ¬ x < 0 := fun h => h1 (by rw [Int32.lt_iff_toInt_lt] at *; exact Int.lt_trans h (by decide))
      obtain ⟨j, hj, rfl⟩ := nI_of2 (M := 6) (n := 6) rfl h0 h2
      exact ⟨j, hj, rfl, by rw [if_neg h1, if_neg (Int32.not_lt.mpr h2)], h1, h2⟩
    · right; exact ⟨Or.inr h2, by rw [if_neg h1, if_pos (Int32.not_le.mp h2)]⟩

