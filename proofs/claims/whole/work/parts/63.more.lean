/-! the cells that could be cut, the winches' cells, the yard -/
def canC (w : Nat → Int32) (c : Nat) : Prop := fitCut w c ∧ ¬ w 0 < stp w c (w (19 + 7 * c) - 1)
theorem rc_of (c : Nat) (hc : c < 30) : c / 6 < 5 ∧ c % 6 < 6 ∧ 6 * (c / 6) + c % 6 = c := by omega
theorem tell_cuttable {S : Sys} {T : Nat} (h : RelS T S) (tv : TV) : ∃ x m', f_X10_cuttableCells tv S.qv = some x ∧ f_X11_cuttableCells S.mv = some (x, m') ∧ Kept S.mv m' := by
  have hC : ∃ r, jbL (fun s => f_X7_countCuttable_L4 S.qv s.1 s.2) 5000 ((0 : Int32), nI 0) = some r ∧ ∃ f : Nat → Int32, f 0 = 0 ∧ (∀ c, c < 30 → (canC (mNow S.mv) c → f (c + 1) = f c + 1) ∧ (¬ canC (mNow S.mv) c → f (c + 1) = f c)) ∧ r.1 = f 30 := by
    obtain ⟨f, hf0, hf⟩ : ∃ f : Nat → Int32, f 0 = 0 ∧ ∀ c, (canC (mNow S.mv) c → f (c + 1) = f c + 1) ∧ (¬ canC (mNow S.mv) c → f (c + 1) = f c) := by
      refine ⟨fun n => itr (fun c x => if dcd (canC (mNow S.mv) c) = true then x + 1 else x) 0 n, rfl, fun c => ⟨fun hc => ?_, fun hc => ?_⟩⟩
      · show (if dcd (canC (mNow S.mv) c) = true then _ else _) = _
        rw [if_pos (dcd_t.mpr hc)]
      · show (if dcd (canC (mNow S.mv) c) = true then _ else _) = _
        rw [if_neg (fun q => hc (dcd_t.mp q))]
    have hl : jbL (fun s => f_X7_countCuttable_L4 S.qv s.1 s.2) 5000 (f 0, nI 0) = some (f 30, nI 30) := by
      refine lpD (fun k => (f k, nI k)) _ 30 (fun k hk => ?_) ?_ 5000 (by decide)
      · show f_X7_countCuttable_L4 S.qv (f k) (nI k) = some (Sum.inl (f (k + 1), nI (k + 1)))
        obtain ⟨hr5, hk6, hrk⟩ := rc_of k hk
        obtain ⟨f1, f2, f3⟩ := q_cutFault h.q (k / 6) (k % 6) hr5 hk6
        rw [hrk] at f1 f2 f3
        unfold f_X7_countCuttable_L4
        rw [if_neg (show ¬ (30 : Int32) ≤ nI k from nI_ge (a := k) (b := 30) hk (by decide)), g_row k hk, g_col k hk]
        show ((f_X7_cutFault S.qv (nI (k / 6)) (nI (k % 6))).bind _) = _
        by_cases hcan : canC (mNow S.mv) k
        · rw [f1 hcan.1 hcan.2, (hf k).1 hcan]
          show some (Sum.inl (f k + 1, nI k + 1)) = _
          rw [nI_1]
        · rw [(hf k).2 hcan]
          by_cases hfit : fitCut (mNow S.mv) k
          · rw [f2 hfit (Classical.byContradiction fun h9 => hcan ⟨hfit, h9⟩)]
            show some (Sum.inl (f k, nI k + 1)) = _
            rw [nI_1]
          · rw [f3 hfit]
            show some (Sum.inl (f k, nI k + 1)) = _
            rw [nI_1]
      · show f_X7_countCuttable_L4 S.qv _ (nI 30) = _
        unfold f_X7_countCuttable_L4
        rw [if_pos (show (30 : Int32) ≤ nI 30 from Int32.le_refl _)]
    rw [hf0] at hl
    exact ⟨_, hl, f, hf0, fun c _ => hf c, rfl⟩
  obtain ⟨r, hr, f, hf0, hf, hrf⟩ := hC
  obtain ⟨r2, h1, h2, h3⟩ := lpL (body := fun s : Int32 × Int32 × MV => f_X11_cuttableCells_L4 s.1 s.2.1 s.2.2) (fun k s => s.1 = f k ∧ s.2.1 = nI k ∧ Kept S.mv s.2.2) (fun r => r.1 = f 30 ∧ Kept S.mv r.2.2) 30
    (fun k s hk ⟨e1, e2, e3⟩ => by
      left
      obtain ⟨x, y, m⟩ := s
      have e1 : x = f k := e1
      have e2 : y = nI k := e2
      have e3 : Kept S.mv m := e3
      subst e1; subst e2
      obtain ⟨hr5, hk6, hrk⟩ := rc_of k hk
      obtain ⟨u, v, hm, hx1, hx0⟩ := m_mayCut2 m k hk (k / 6) (k % 6) hr5 hk6 hrk
      have hk2 : Kept S.mv (mSThrown v m) := e3.tr (Kept.thrown _ _)
      have hL : f_X11_cuttableCells_L4 (f k) (nI k) m = if u = 0 then some (Sum.inl (f k + 0, nI k + 1, mSThrown v m)) else some (Sum.inl (f k + 1, nI k + 1, mSThrown v m)) := by
        unfold f_X11_cuttableCells_L4
        rw [if_neg (show ¬ (30 : Int32) ≤ nI k from nI_ge (a := k) (b := 30) hk (by decide)), g_div k hk, show nI k - nI (k / 6) * 6 = nI (k % 6) by rw [← g_div k hk]; exact g_mod k hk, hm]
        rfl
      rw [e3.now] at hx1 hx0
      show ∃ s', f_X11_cuttableCells_L4 (f k) (nI k) m = _ ∧ _
      rw [hL]
      by_cases hcan : canC (mNow S.mv) k
      · refine ⟨(f (k + 1), nI (k + 1), mSThrown v m), ?_, rfl, rfl, hk2⟩
        rw [(hx1 hcan).1, (hf k hk).1 hcan, if_neg (by decide), nI_1]
      · refine ⟨(f (k + 1), nI (k + 1), mSThrown v m), ?_, rfl, rfl, hk2⟩
        rw [hx0 hcan, (hf k hk).2 hcan, if_pos rfl, nI_1, Int32.add_zero])
    (fun s ⟨e1, e2, e3⟩ => ⟨s, by
      obtain ⟨x, y, m⟩ := s
      have e2 : y = nI 30 := e2
      subst e2
      show f_X11_cuttableCells_L4 x (nI 30) m = _
      unfold f_X11_cuttableCells_L4
      rw [if_pos (show (30 : Int32) ≤ nI 30 from Int32.le_refl _)], e1, e3⟩) 5000 0 (f 0, nI 0, S.mv) (by omega) (by omega) ⟨rfl, rfl, ⟨rfl, rfl, rfl, rfl, rfl, rfl, rfl, rfl, rfl, rfl, rfl⟩⟩
  rw [hf0] at h1
  refine ⟨f 30, mSThrown 0 r2.2.2, ?_, ?_, h3.tr (Kept.thrown _ _)⟩
  · unfold f_X10_cuttableCells f_X7_countCuttable
    rw [show ((0 : Int32), (0 : Int32)) = ((0 : Int32), nI 0) from rfl, hr]
    show some r.1 = _
    rw [hrf]
  · unfold f_X11_cuttableCells
    rw [show ((0 : Int32), (0 : Int32), S.mv) = ((0 : Int32), nI 0, S.mv) from rfl, h1]
    show some (r2.1, _) = _
    rw [h2]
