theorem jMax_le {a b z : Int32} : jMax a b ≤ z ↔ a ≤ z ∧ b ≤ z := by
  unfold jMax
  split <;> simp only [Int32.lt_iff_toInt_lt, Int32.le_iff_toInt_le] at * <;> omega
theorem stp1_le {w : Nat → Int32} {h x z : Int32} {o : Option Nat} : stp1 w h x o ≤ z ↔ x ≤ z ∧ ∀ d, o = some d → jAbs (h - w (19 + 7 * d)) ≤ z := by
  cases o with
  | none => exact ⟨fun h => ⟨h, fun d e => by cases e⟩, fun h => h.1⟩
  | some d =>
    show jMax x _ ≤ z ↔ _
    rw [jMax_le]
    exact ⟨fun h => ⟨h.1, fun d' e => by cases e; exact h.2⟩, fun h => ⟨h.1, h.2 d rfl⟩⟩
/-- the steepest step is within the limit just where each step is -/
theorem stp_le {w : Nat → Int32} {c : Nat} {h z : Int32} (hz : 0 ≤ z) : stp w c h ≤ z ↔ ∀ k d, k < 4 → nb c k = some d → jAbs (h - w (19 + 7 * d)) ≤ z := by
  unfold stp
  rw [stp1_le, stp1_le, stp1_le, stp1_le]
  constructor
  · intro ⟨⟨⟨⟨_, h0⟩, h1⟩, h2⟩, h3⟩ k d hk he
    rcases (show k = 0 ∨ k = 1 ∨ k = 2 ∨ k = 3 by omega) with rfl | rfl | rfl | rfl
    · exact h0 d he
    · exact h1 d he
    · exact h2 d he
    · exact h3 d he
  · intro h9
    exact ⟨⟨⟨⟨hz, fun d e => h9 0 d (by omega) e⟩, fun d e => h9 1 d (by omega) e⟩, fun d e => h9 2 d (by omega) e⟩, fun d e => h9 3 d (by omega) e⟩
theorem jAbs_le {a b z : Nat} (ha : a < 2 ^ 31) (hb : b < 2 ^ 31) (hz : z < 2 ^ 31) : jAbs (nI a - nI b) ≤ nI z ↔ a ≤ b + z ∧ b ≤ a + z := by
  rw [jAbs_nI ha hb, nI_leI (by unfold dist1; omega) hz]
  unfold dist1
  omega
theorem itr_bump (w : Nat → Int32) (c : Nat) (x : Int32) : ∀ n, itr (fun d y => y + upd w (22 + 7 * c) (w (22 + 7 * c) + x) (22 + 7 * d)) 0 n = itr (fun d y => y + w (22 + 7 * d)) 0 n + (if c < n then x else 0)
  | 0 => by rw [if_neg (Nat.not_lt_zero _)]; rfl
  | n + 1 => by
    show itr _ 0 n + upd w (22 + 7 * c) (w (22 + 7 * c) + x) (22 + 7 * n) = (itr _ 0 n + w (22 + 7 * n)) + _
    rw [itr_bump w c x n]
    by_cases e : c = n
    · subst e
      rw [upd_at, if_neg (Nat.lt_irrefl _), if_pos (Nat.lt_succ_self _), Int32.add_zero, Int32.add_assoc]
    · rw [upd_ne _ _ (by omega)]
      by_cases h : c < n
      · rw [if_pos h, if_pos (by omega), Int32.add_assoc, Int32.add_assoc, Int32.add_comm x]
      · rw [if_neg h, if_neg (by omega), Int32.add_zero, Int32.add_zero]
/-- the row after a cut -/
def wCut (w : Nat → Int32) (c n : Nat) : Nat → Int32 := upd (upd (upd (upd w (19 + 7 * c) (w (19 + 7 * c) - 1)) (23 + 7 * c + n) (w (20 + 7 * c))) (22 + 7 * c) (nI n + 1)) 2 (w 2 + 1)
def qCut (q : QV) (c n : Nat) : QV := qSHeights (upd (qHeights q) c (qHeights q c - 1)) (qSCuts (qCuts q + 1) (qSBlockCounts (upd (qBlockCounts q) c (nI n + 1)) (qSBlocks (upd (qBlocks q) (3 * c + n) (qStones q c)) q)))
theorem RelQ.cut {q : QV} {w : Nat → Int32} (hr : RelQ q w) (c n : Nat) (hc : c < 30) (hn : n < 3) : RelQ (qCut q c n) (wCut w c n) := RelQ.mk
  (f_h := fun d hd => by
      show upd (qHeights q) c (qHeights q c - 1) d = wCut w c n (19 + 7 * d)
      unfold wCut
      by_cases e : d = c
      · subst e; simp (disch := omega) only [upd_ne, upd_at]; rw [hr.h d hd]
      · rw [upd_ne _ _ e]; simp (disch := omega) only [upd_ne]; exact hr.h d hd)
  (f_s := fun d hd => by unfold wCut; simp (disch := omega) only [upd_ne]; exact hr.s d hd)
  (f_l := fun d hd => by unfold wCut; simp (disch := omega) only [upd_ne]; exact hr.l d hd)
  (f_n := fun d hd => by
      show upd (qBlockCounts q) c (nI n + 1) d = wCut w c n (22 + 7 * d)
      unfold wCut
      by_cases e : d = c
      · subst e; simp (disch := omega) only [upd_ne, upd_at]
      · rw [upd_ne _ _ e]; simp (disch := omega) only [upd_ne]; exact hr.n d hd)
  (f_b := fun d j hd hj => by
      show upd (qBlocks q) (3 * c + n) (qStones q c) (3 * d + j) = wCut w c n (23 + 7 * d + j)
      unfold wCut
      by_cases e : d = c ∧ j = n
      · obtain ⟨rfl, rfl⟩ := e; simp (disch := omega) only [upd_ne, upd_at]; exact hr.s d hd
      · rw [upd_ne _ _ (by omega)]; simp (disch := omega) only [upd_ne]; exact hr.b d j hd hj)
  (f_wc := fun i hi => by unfold wCut; simp (disch := omega) only [upd_ne]; exact hr.wc i hi)
  (f_cp := fun i hi => by unfold wCut; simp (disch := omega) only [upd_ne]; exact hr.cp i hi)
  (f_rc := fun i hi => by unfold wCut; simp (disch := omega) only [upd_ne]; exact hr.rc i hi)
  (f_yd := fun i hi => by unfold wCut; simp (disch := omega) only [upd_ne]; exact hr.yd i hi)
  (f_lim := by unfold wCut; simp (disch := omega) only [upd_ne]; exact hr.lim)
  (f_rub := by unfold wCut; simp (disch := omega) only [upd_ne]; exact hr.rub)
  (f_cuts := by unfold wCut; rw [upd_at]; show qCuts q + 1 = _; rw [hr.cuts])
  (f_lifts := by unfold wCut; simp (disch := omega) only [upd_ne]; exact hr.lifts)
  (f_work := by unfold wCut; simp (disch := omega) only [upd_ne]; exact hr.work)
  (f_nw := by unfold wCut; simp (disch := omega) only [upd_ne]; exact hr.nw)
/-- new steps are within the limit where the steepest of the cell is -/
theorem step_upd {t : Nat} {w v : Nat → Int32} (hi : InvW t w) (c x : Nat) (hc : c < 30) (hx : x ≤ 9) (hv : v (19 + 7 * c) = nI x) (hv2 : ∀ d, d < 30 → d ≠ c → v (19 + 7 * d) = w (19 + 7 * d)) (hv0 : v 0 = w 0) (hle : stp w c (nI x) ≤ w 0) :
    ∀ d k e, d < 30 → k < 4 → nb d k = some e → vN (v (19 + 7 * d)) ≤ vN (v (19 + 7 * e)) + vN (v 0) := by
  obtain ⟨z, hz1, hz4, ez⟩ := hi.lim
  have h9 := (stp_le (by rw [ez]; exact nI_pos' (by omega))).mp hle
  intro d k e hd hk he
  have he30 := nb_lt hd hk he
  have hne : d ≠ e := fun q => by
    subst q
    have := (by decide +kernel : ∀ c : Fin 30, ∀ k : Fin 4, nb c.val k.val ≠ some c.val) ⟨d, hd⟩ ⟨k, hk⟩
    exact this he
  by_cases e1 : d = c
  · subst e1
    obtain ⟨y, hy, ey⟩ := hi.h e he30
    have h10 := h9 k e hk he
    rw [ey, ez, jAbs_le (by omega) (by omega) (by omega)] at h10
    rw [hv, hv2 e he30 (Ne.symm hne), ey, hv0, ez, vN_nI (by omega), vN_nI (by omega), vN_nI (by omega)]
    exact h10.1
  · by_cases e2 : e = c
    · subst e2
      obtain ⟨y, hy, ey⟩ := hi.h d hd
      have h10 := h9 (3 - k) d (by omega) (nb_sym hd hk he)
      rw [ey, ez, jAbs_le (by omega) (by omega) (by omega)] at h10
      rw [hv, hv2 d hd e1, ey, hv0, ez, vN_nI (by omega), vN_nI (by omega), vN_nI (by omega)]
      exact h10.2
    · rw [hv2 d hd e1, hv2 e he30 e2, hv0]
      exact hi.step d k e hd hk he
theorem InvW.cut {t : Nat} {w : Nat → Int32} (hi : InvW t w) (ht : t < 2 ^ 20) (c x n : Nat) (hc : c < 30) (hn : n < 3) (hx : x ≤ 9) (hh : w (19 + 7 * c) - 1 = nI x) (hcn : w (22 + 7 * c) = nI n) (hle : stp w c (nI x) ≤ w 0) : InvW (t + 1) (wCut w c n) := InvW.mk
  (f_h := fun d hd => by
      unfold wCut
      by_cases e : d = c
      · subst e; simp (disch := omega) only [upd_ne, upd_at]; exact ⟨x, hx, hh⟩
      · simp (disch := omega) only [upd_ne]; exact hi.h d hd)
  (f_s := fun d hd => by unfold wCut; simp (disch := omega) only [upd_ne]; exact hi.s d hd)
  (f_l := fun d hd => by unfold wCut; simp (disch := omega) only [upd_ne]; exact hi.l d hd)
  (f_n := fun d hd => by
      unfold wCut
      by_cases e : d = c
      · subst e; simp (disch := omega) only [upd_ne, upd_at]; exact ⟨n + 1, by omega, nI_1 n⟩
      · simp (disch := omega) only [upd_ne]; exact hi.n d hd)
  (f_b := fun d j hd hj => by
      unfold wCut
      by_cases e : d = c ∧ j = n
      · obtain ⟨rfl, rfl⟩ := e; simp (disch := omega) only [upd_ne, upd_at]; exact hi.s d hd
      · simp (disch := omega) only [upd_ne]; exact hi.b d j hd hj)
  (f_wc := fun i h => by unfold wCut; simp (disch := omega) only [upd_ne]; exact hi.wc i h)
  (f_cp := fun i h => by unfold wCut; simp (disch := omega) only [upd_ne]; exact hi.cp i h)
  (f_rc := fun i h => by unfold wCut; simp (disch := omega) only [upd_ne]; exact hi.rc i h)
  (f_lim := by unfold wCut; simp (disch := omega) only [upd_ne]; exact hi.lim)
  (f_cuts := by
      unfold wCut; rw [upd_at]
      obtain ⟨k, hk, e⟩ := hi.cuts
      exact ⟨k + 1, by omega, by rw [e, nI_1]⟩)
  (f_work := by
      unfold wCut; simp (disch := omega) only [upd_ne]
      obtain ⟨k, hk, e⟩ := hi.work
      exact ⟨k, by omega, e⟩)
  (f_nw := by unfold wCut; simp (disch := omega) only [upd_ne]; exact hi.nw)
  (f_sum := by
      have h1 : itr (fun d y => y + wCut w c n (22 + 7 * d)) 0 30 = itr (fun d y => y + upd w (22 + 7 * c) (w (22 + 7 * c) + 1) (22 + 7 * d)) 0 30 := itr_cong (N := 30) (fun d y hd => by
        unfold wCut
        by_cases e : d = c
        · subst e; simp (disch := omega) only [upd_ne, upd_at]; rw [hcn]
        · simp (disch := omega) only [upd_ne]) 30 (Nat.le_refl _)
      rw [h1, itr_bump, if_pos hc]
      show upd _ 2 (w 2 + 1) 2 = wCut w c n 3 + _
      rw [upd_at]
      unfold wCut
      simp (disch := omega) only [upd_ne]
      rw [hi.sum, Int32.add_assoc])
  (f_step := step_upd hi c x hc hx (by unfold wCut; simp (disch := omega) only [upd_ne, upd_at]; exact hh) (fun d hd hne => by unfold wCut; simp (disch := omega) only [upd_ne]) (by unfold wCut; simp (disch := omega) only [upd_ne]) hle)
