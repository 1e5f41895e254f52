/-! the calls that search, in the law -/
def AskS (ex : List Nat) (C : Option (Sum (Nat × SV) (Int32 × SV))) (M : Option (Int32 × MV)) (m : MV) : Prop :=
  (∃ r sv' m', C = some (.inr (r, sv')) ∧ M = some (r, m') ∧ Kept m m' ∧ mThrown m' = 0) ∨
  (∃ k c y sv' m', C = some (.inl (k, sv')) ∧ c < 4 ∧ ex[c]? = some k ∧ M = some (y, m') ∧ Kept m m' ∧ mThrown m' = nI (c + 1))
theorem lb_askS {T : Nat} {S : Sys} (h : RelS T S) (ex : List Nat) (C : Option (Sum (Nat × SV) (Int32 × SV))) (fM : Option (Int32 × MV)) (hask : AskS ex C fM S.mv) (fL : Option (Int32 × (Nat → Int64) × SV)) (ol : Nat → Int64) (od : Nat → UInt64)
    (hOK : ∀ r sv', C = some (.inr (r, sv')) → fL = some (0, vp_updL ol (0 : Int32).toNatClampNeg r.toInt64, sv')) (hX : ∀ k c sv', C = some (.inl (k, sv')) → c < 4 → ex[c]? = some k → fL = some (nI (c + 1), ol, sv')) :
    ∃ r : LR, (fL.bind fun k1 => fM.bind fun o3 => (f_X11_thrown o3.2).bind fun o5 => if o5 = k1.1 then (if k1.1 = 0 then (if k1.2.1 (0 : Int32).toNatClampNeg = o3.1.toInt64 then some ((mkS S.ep S.fc S.qv S.bv k1.2.2 S.hv S.pv S.ov S.svd o3.2), k1.2.1, od) else none) else some ((mkS S.ep S.fc S.qv S.bv k1.2.2 S.hv S.pv S.ov S.svd o3.2), k1.2.1, od)) else none) = some r ∧ RelS (T + 1) r.1 := by
  rcases hask with ⟨r, sv', m', h1, h2, h3, h4⟩ | ⟨k, c, y, sv', m', h1, hc, hex, h2, h3, h4⟩
  · refine ⟨((mkS S.ep S.fc S.qv S.bv sv' S.hv S.pv S.ov S.svd m'), vp_updL ol (0 : Int32).toNatClampNeg r.toInt64, od), ?_, h.kept (sv' := sv') h3⟩
    rw [hOK r sv' h1, h2]
    simp only [ob_s, th_u, h4, ↓reduceIte, uL0]
  · refine ⟨((mkS S.ep S.fc S.qv S.bv sv' S.hv S.pv S.ov S.svd m'), ol, od), ?_, h.kept (sv' := sv') h3⟩
    rw [hX k c sv' h1 hc hex, h2]
    simp only [ob_s, th_u, h4, ↓reduceIte, if_neg (nI_s0 hc)]
theorem lb_tellS {T : Nat} {S : Sys} (h : RelS T S) (C : Option (Int32 × SV)) (M : Option (Int32 × MV)) (hask : ∃ x sv' m', C = some (x, sv') ∧ M = some (x, m') ∧ Kept S.mv m') (ol : Nat → Int64) (od : Nat → UInt64) :
    ∃ r : LR, (C.bind fun o2 => M.bind fun o4 => if o2.1 = o4.1 then some ((mkS S.ep S.fc S.qv S.bv o2.2 S.hv S.pv S.ov S.svd o4.2), ol, od) else none) = some r ∧ RelS (T + 1) r.1 := by
  obtain ⟨x, sv', m', h1, h2, h3⟩ := hask
  refine ⟨((mkS S.ep S.fc S.qv S.bv sv' S.hv S.pv S.ov S.svd m'), ol, od), ?_, h.kept (sv' := sv') h3⟩
  rw [h1, h2]
  simp only [ob_s, ↓reduceIte]
theorem ask_seamSize {S : Sys} {T : Nat} (h : RelS T S) (tv : TV) (a b : Int32) : AskS [0] (f_X10_seamSize tv S.qv S.sv a b) (f_X11_seamSize S.mv a b) S.mv := by
  rcases cell_or a b with ⟨r, k, hrr, hk, rfl, rfl⟩ | ⟨h1, h2, h3⟩
  · left
    obtain ⟨g1, g2, g3, g4⟩ := g_cell r k hrr hk
    obtain ⟨sv', e1⟩ := q_size h.q h.w S.sv (6 * r + k) (by omega)
    obtain ⟨m', e2, e3, e4⟩ := m_seam S.mv h.w r k hrr hk 0
    refine ⟨nI (sumN (sgW (mNow S.mv) (6 * r + k) 0) 30), sv', m', ?_, ?_, e3, e4⟩
    · unfold f_X10_seamSize
      simp only [g1, g2, ob_s, rf_0, jm_r, e1]
    · unfold f_X11_seamSize
      simp only [e2, ob_s]
  · right
    refine ⟨0, 0, 0, S.sv, mSThrown 1 S.mv, by unfold f_X10_seamSize; simp only [h1, ob_s, rf_1, jm_l], by omega, rfl, ?_, Kept.thrown _ _, rfl⟩
    unfold f_X11_seamSize
    simp only [m_seam0 _ _ _ _ h2, ob_s]
theorem ask_seamVolume {S : Sys} {T : Nat} (h : RelS T S) (tv : TV) (a b : Int32) : AskS [0] (f_X10_seamVolume tv S.qv S.sv a b) (f_X11_seamVolume S.mv a b) S.mv := by
  rcases cell_or a b with ⟨r, k, hrr, hk, rfl, rfl⟩ | ⟨h1, h2, h3⟩
  · left
    obtain ⟨g1, g2, g3, g4⟩ := g_cell r k hrr hk
    obtain ⟨sv', e1⟩ := q_volume h.q h.w S.sv (6 * r + k) (by omega)
    obtain ⟨m', e2, e3, e4⟩ := m_seam S.mv h.w r k hrr hk 1
    refine ⟨nI (sumN (sgW (mNow S.mv) (6 * r + k) 1) 30), sv', m', ?_, ?_, e3, e4⟩
    · unfold f_X10_seamVolume
      simp only [g1, g2, ob_s, rf_0, jm_r, e1]
    · unfold f_X11_seamVolume
      simp only [e2, ob_s]
  · right
    refine ⟨0, 0, 0, S.sv, mSThrown 1 S.mv, by unfold f_X10_seamVolume; simp only [h1, ob_s, rf_1, jm_l], by omega, rfl, ?_, Kept.thrown _ _, rfl⟩
    unfold f_X11_seamVolume
    simp only [m_seam0 _ _ _ _ h2, ob_s]
theorem lb_19 {T : Nat} {S : Sys} (h : RelS T S) (a1 a2 a3 a4 : Int32) (ol : Nat → Int64) (od : Nat → UInt64) : ∃ r, lawOp_19 S a1 a2 a3 a4 ol od = some r ∧ RelS (T + 1) r.1 := by
  refine lb_askS h [0] (f_X10_seamSize (none, S.ep, S.fc) S.qv S.sv a1 a2) (f_X11_seamSize S.mv a1 a2) (ask_seamSize h _ a1 a2) (f_L_seamSize (none, S.ep, S.fc) S.qv S.sv a1 a2 ol) ol od (fun r sv' h1 => ?_) (fun k c sv' h1 hc hex => ?_)
  · unfold f_L_seamSize
    simp only [h1, ob_s, jm_r]
  · unfold f_L_seamSize
    simp only [h1, ob_s, jm_l]
    rcases (show c = 0 ∨ c = 1 ∨ c = 2 ∨ c = 3 by omega) with rfl | rfl | rfl | rfl <;> (simp at hex) <;> (subst hex; rfl)
theorem lb_20 {T : Nat} {S : Sys} (h : RelS T S) (a1 a2 a3 a4 : Int32) (ol : Nat → Int64) (od : Nat → UInt64) : ∃ r, lawOp_20 S a1 a2 a3 a4 ol od = some r ∧ RelS (T + 1) r.1 := by
  refine lb_askS h [0] (f_X10_seamVolume (none, S.ep, S.fc) S.qv S.sv a1 a2) (f_X11_seamVolume S.mv a1 a2) (ask_seamVolume h _ a1 a2) (f_L_seamVolume (none, S.ep, S.fc) S.qv S.sv a1 a2 ol) ol od (fun r sv' h1 => ?_) (fun k c sv' h1 hc hex => ?_)
  · unfold f_L_seamVolume
    simp only [h1, ob_s, jm_r]
  · unfold f_L_seamVolume
    simp only [h1, ob_s, jm_l]
    rcases (show c = 0 ∨ c = 1 ∨ c = 2 ∨ c = 3 by omega) with rfl | rfl | rfl | rfl <;> (simp at hex) <;> (subst hex; rfl)
