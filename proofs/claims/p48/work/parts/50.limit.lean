def stpAll (w : Nat → Int32) (n : Nat) : Int32 := itr (fun c x => jMax x (stp w c (w (19 + 7 * c)))) 0 n
theorem stpAll_le {w : Nat → Int32} {a : Int32} : ∀ n, stpAll w n ≤ a ↔ 0 ≤ a ∧ ∀ c, c < n → stp w c (w (19 + 7 * c)) ≤ a
  | 0 => ⟨fun h => ⟨h, fun c hc => absurd hc (Nat.not_lt_zero _)⟩, fun h => h.1⟩
  | n + 1 => by
    show jMax (stpAll w n) _ ≤ a ↔ _
    rw [jMax_le, stpAll_le n]
    constructor
    · intro ⟨⟨h0, h1⟩, h2⟩
      exact ⟨h0, fun c hc => by
        by_cases e : c = n
        · subst e; exact h2
        · exact h1 c (by omega)⟩
    · intro ⟨h0, h1⟩
      exact ⟨⟨h0, fun c hc => h1 c (by omega)⟩, h1 n (by omega)⟩
theorem q_steepAt {q : QV} {w : Nat → Int32} (hr : RelQ q w) (c : Nat) (hc : c < 30) : f_X7_steepestAt q (nI c) = some (stp w c (w (19 + 7 * c))) := by
  unfold f_X7_steepestAt
  rw [if_pos (nIin hc (by decide)), nI_clamp (by omega), hr.h c hc, q_steep hr c hc]
  rfl
theorem q_within {q : QV} {w : Nat → Int32} (hr : RelQ q w) (a : Int32) : ((∀ c, c < 30 → stp w c (w (19 + 7 * c)) ≤ a) → f_X7_stepsWithin q a = some 1) ∧ (¬ (∀ c, c < 30 → stp w c (w (19 + 7 * c)) ≤ a) → f_X7_stepsWithin q a = some 0) := by
  obtain ⟨r, h1, h2⟩ := lpL (body := fun s => f_X7_stepsWithin_L2 q a s) (fun k s => s = nI k ∧ ∀ c, c < k → stp w c (w (19 + 7 * c)) ≤ a)
    (fun r => (∃ x, r = .inl x ∧ ∀ c, c < 30 → stp w c (w (19 + 7 * c)) ≤ a) ∨ (r = .inr 0 ∧ ∃ c, c < 30 ∧ ¬ stp w c (w (19 + 7 * c)) ≤ a)) 30
    (fun k s hk ⟨hs, hall⟩ => by
      subst hs
      unfold f_X7_stepsWithin_L2
      rw [if_neg (show ¬ (30 : Int32) ≤ nI k from nI_ge (a := k) (b := 30) hk (by decide)), if_pos (nIin hk (by decide)), nI_clamp (by omega), hr.h k hk, q_steep hr k hk]
      by_cases h : stp w k (w (19 + 7 * k)) ≤ a
      · left
        refine ⟨nI (k + 1), ?_, rfl, fun c hc => ?_⟩
        · show (if _ ≤ a then some (Sum.inl (nI k + 1)) else _) = _
          rw [if_pos h, nI_1]
        · by_cases e : c = k
          · subst e; exact h
          · exact hall c (by omega)
      · right
        refine ⟨.inr 0, ?_, Or.inr ⟨rfl, k, hk, h⟩⟩
        show (if _ ≤ a then _ else some (Sum.inr (Sum.inr 0))) = _
        rw [if_neg h])
    (fun s ⟨hs, hall⟩ => ⟨.inl s, by
      subst hs
      unfold f_X7_stepsWithin_L2
      rw [if_pos (show (30 : Int32) ≤ nI 30 from Int32.le_refl _)], Or.inl ⟨s, rfl, hall⟩⟩) 5000 0 (nI 0) (by omega) (by decide) ⟨rfl, fun c hc => absurd hc (Nat.not_lt_zero _)⟩
  have hun : ∀ r : Sum Int32 Int32, jbL (fun s => f_X7_stepsWithin_L2 q a s) 5000 (nI 0) = some r → f_X7_stepsWithin q a = some (match r with | .inl _ => 1 | .inr v => v) := by
    intro r h
    have h' : jbL (fun s => f_X7_stepsWithin_L2 q a s) 5000 (0 : Int32) = some r := h
    unfold f_X7_stepsWithin
    rw [h']
    cases r <;> rfl
  rcases h2 with ⟨x, rfl, h3⟩ | ⟨rfl, c, hc, h3⟩
  · exact ⟨fun _ => hun _ h1, fun h => absurd h3 h⟩
  · exact ⟨fun h => absurd (h c hc) h3, fun _ => hun _ h1⟩
theorem in_1_4 (x : Int32) : (∃ n, 1 ≤ n ∧ n ≤ 4 ∧ x = nI n ∧ f_X11_isIn x 1 4 = some 1 ∧ ¬ x < 1 ∧ x ≤ 4) ∨ (¬ (¬ x < 1 ∧ x ≤ 4) ∧ f_X11_isIn x 1 4 = some 0) := by
  unfold f_X11_isIn
  by_cases h1 : x < 1
  · right; exact ⟨fun h => h.1 h1, by rw [if_pos h1]⟩
  · by_cases h2 : x ≤ 4
    · left
      have h0 : ¬ x < 0 := fun h => h1 (by rw [Int32.lt_iff_toInt_lt] at *; exact Int.lt_trans h (by decide))
      obtain ⟨j, hj, rfl⟩ := nI_of2 (M := 4) (n := 4) rfl h0 h2
      refine ⟨j, ?_, hj, rfl, by rw [if_neg h1, if_neg (Int32.not_lt.mpr h2)], h1, h2⟩
      rw [show (1 : Int32) = nI 1 from rfl, nI_ltI (by omega) (by omega)] at h1
      omega
    · right; exact ⟨fun h => h2 h.2, by rw [if_neg h1, if_pos (Int32.not_le.mp h2)]⟩
theorem m_limits (m : MV) (a : Int32) (y : Int32) (hy : f_X11_isIn a 1 4 = some y) : f_X11_limits m a = if a < stpAll (mNow m) 30 then f_X11_limits_J56 m a (mNow m 0) 0 y else f_X11_limits_J56 m a (mNow m 0) 1 y := by
  have hl : jbL (fun s => f_X11_limits_L4 m a s.1 s.2) 5000 (stpAll (mNow m) 0, nI 0) = some (stpAll (mNow m) 30, nI 30) := by
    refine lpD (fun k => (stpAll (mNow m) k, nI k)) _ 30 (fun k hk => ?_) ?_ 5000 (by decide)
    · show f_X11_limits_L4 m a (stpAll (mNow m) k) (nI k) = _
      unfold f_X11_limits_L4
      have o0 : f_X11_of m (nI k) 0 = some (mNow m (19 + 7 * k)) := by rw [show (0 : Int32) = nI 0 from rfl, m_of k 0 (by omega)]; rfl
      rw [if_neg (show ¬ (30 : Int32) ≤ nI k from nI_ge (a := k) (b := 30) hk (by decide)), o0]
      (try simp only [ob_s, jb_u, ↓reduceIte, i10, n06, n16, n26, n36, n46, n56, n10])
      show (f_X11_steepest m (nI k) (mNow m (19 + 7 * k))).bind _ = _
      rw [m_steep k hk]
      show some (Sum.inl (jMax (stpAll (mNow m) k) _, nI k + 1)) = _
      rw [nI_1]
      rfl
    · show f_X11_limits_L4 m a _ (nI 30) = _
      unfold f_X11_limits_L4
      rw [if_pos (show (30 : Int32) ≤ nI 30 from Int32.le_refl _)]
  unfold f_X11_limits
  rw [show ((0 : Int32), (0 : Int32)) = (stpAll (mNow m) 0, nI 0) from rfl, hl]
  simp only [ob_s, cl0, if_pos jl0, jb_u, hy]
theorem RelQ.limit {q : QV} {w : Nat → Int32} (hr : RelQ q w) (x : Int32) : RelQ (qSLimit x q) (upd w 0 x) := RelQ.mk
  (f_h := fun d hd => by simp (disch := omega) only [upd_ne]; exact hr.h d hd)
  (f_s := fun d hd => by simp (disch := omega) only [upd_ne]; exact hr.s d hd)
  (f_l := fun d hd => by simp (disch := omega) only [upd_ne]; exact hr.l d hd)
  (f_n := fun d hd => by simp (disch := omega) only [upd_ne]; exact hr.n d hd)
  (f_b := fun d j hd hj => by simp (disch := omega) only [upd_ne]; exact hr.b d j hd hj)
  (f_wc := fun i hi => by simp (disch := omega) only [upd_ne]; exact hr.wc i hi)
  (f_cp := fun i hi => by simp (disch := omega) only [upd_ne]; exact hr.cp i hi)
  (f_rc := fun i hi => by simp (disch := omega) only [upd_ne]; exact hr.rc i hi)
  (f_yd := fun i hi => by simp (disch := omega) only [upd_ne]; exact hr.yd i hi)
  (f_lim := by rw [upd_at]; rfl)
  (f_rub := by simp (disch := omega) only [upd_ne]; exact hr.rub)
  (f_cuts := by simp (disch := omega) only [upd_ne]; exact hr.cuts)
  (f_lifts := by simp (disch := omega) only [upd_ne]; exact hr.lifts)
  (f_work := by simp (disch := omega) only [upd_ne]; exact hr.work)
  (f_nw := by simp (disch := omega) only [upd_ne]; exact hr.nw)
theorem InvW.limit {t : Nat} {w : Nat → Int32} (hi : InvW t w) (n : Nat) (h1 : 1 ≤ n) (h4 : n ≤ 4) (hle : ∀ c, c < 30 → stp w c (w (19 + 7 * c)) ≤ nI n) : InvW t (upd w 0 (nI n)) := InvW.mk
  (f_h := fun d hd => by simp (disch := omega) only [upd_ne]; exact hi.h d hd)
  (f_s := fun d hd => by simp (disch := omega) only [upd_ne]; exact hi.s d hd)
  (f_l := fun d hd => by simp (disch := omega) only [upd_ne]; exact hi.l d hd)
  (f_n := fun d hd => by simp (disch := omega) only [upd_ne]; exact hi.n d hd)
  (f_b := fun d j hd hj => by simp (disch := omega) only [upd_ne]; exact hi.b d j hd hj)
  (f_wc := fun i h => by simp (disch := omega) only [upd_ne]; exact hi.wc i h)
  (f_cp := fun i h => by simp (disch := omega) only [upd_ne]; exact hi.cp i h)
  (f_rc := fun i h => by simp (disch := omega) only [upd_ne]; exact hi.rc i h)
  (f_lim := by rw [upd_at]; exact ⟨n, h1, h4, rfl⟩)
  (f_cuts := by simp (disch := omega) only [upd_ne]; exact hi.cuts)
  (f_work := by simp (disch := omega) only [upd_ne]; exact hi.work)
  (f_nw := by simp (disch := omega) only [upd_ne]; exact hi.nw)
  (f_sum := by rw [upd_ne _ _ (by omega), upd_ne _ _ (by omega), itr_upd _ _ _ (fun d _ => by omega)]; exact hi.sum)
  (f_step := fun d k e hd hk he => by
      have he30 := nb_lt hd hk he
      rw [upd_ne _ _ (show 19 + 7 * d ≠ 0 by omega), upd_ne _ _ (show 19 + 7 * e ≠ 0 by omega), upd_at]
      obtain ⟨x, hx, ex⟩ := hi.h d hd
      obtain ⟨y, hy, ey⟩ := hi.h e he30
      have h9 := (stp_le (nI_pos' (by omega))).mp (hle d hd) k e hk he
      rw [ex, ey, jAbs_le (by omega) (by omega) (by omega)] at h9
      rw [ex, ey, vN_nI (by omega), vN_nI (by omega), vN_nI (by omega)]
      exact h9.1)
theorem cmd_limit {t : Nat} {q : QV} {m : MV} (hr : RelQ q (mNow m)) (hi : InvW t (mNow m)) (a : Int32) : Cmd t [1, 4] (f_X7_limitFault q a) (f_X7_changeLimit q a) (f_X11_limits m a) m := by
  obtain ⟨w1, w2⟩ := q_within hr a
  rcases in_1_4 a with ⟨n, h1, h4, rfl, hin, a1, a4⟩ | ⟨hno, hin⟩
  · have hm := m_limits m (nI n) 1 hin
    have hiff : stpAll (mNow m) 30 ≤ nI n ↔ ∀ c, c < 30 → stp (mNow m) c (mNow m (19 + 7 * c)) ≤ nI n := by
      rw [stpAll_le]
      exact ⟨fun h => h.2, fun h => ⟨nI_pos' (by omega), h⟩⟩
    by_cases hall : ∀ c, c < 30 → stp (mNow m) c (mNow m (19 + 7 * c)) ≤ nI n
    · left
      rw [if_neg (Int32.not_lt.mpr (hiff.mpr hall))] at hm
      refine ⟨?_, mNow m 0, _, upd (mNow m) 0 (nI n), ?_, ?_, hr.limit (nI n), (hi.limit n h1 h4 hall).up (Nat.le_succ t)⟩
      · unfold f_X7_limitFault
        rw [if_neg a1, if_pos a4, w1 hall]
        rfl
      · unfold f_X7_changeLimit
        simp only [jb_u, hr.lim]
      · rw [hm]
        unfold f_X11_limits_J56
        simp only [m_holds0, ob_s, i10, ↓reduceIte, cl0, if_pos jl0, jb_u, mN1, mN2, mN4]
    · right
      rw [if_pos (Int32.not_le.mp (fun h => hall (hiff.mp h)))] at hm
      refine ⟨4, mNow m 0, 1, ?_, by omega, ?_, by omega, rfl⟩
      · unfold f_X7_limitFault
        rw [if_neg a1, if_pos a4, w2 hall]
        rfl
      · rw [hm]
        unfold f_X11_limits_J56
        simp only [m_holds2, ob_s, ↓reduceIte]
        rfl
  · right
    have hm := m_limits m a 0 hin
    refine ⟨1, mNow m 0, 0, ?_, by omega, ?_, by omega, rfl⟩
    · unfold f_X7_limitFault
      by_cases h1 : a < 1
      · rw [if_pos h1]
      · rw [if_neg h1, if_neg (fun h => hno ⟨h1, h⟩)]
    · rw [hm]
      unfold f_X11_limits_J56
      simp only [m_holds1, ob_s, ↓reduceIte, ite_self]
      rfl

