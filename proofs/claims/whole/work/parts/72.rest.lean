/-! restore, on both sides -/
theorem lb_44 {T : Nat} {S : Sys} (h : RelS T S) (a1 a2 a3 a4 : Int32) (ol : Nat → Int64) (od : Nat → UInt64) : ∃ r, lawOp_44 S a1 a2 a3 a4 ol od = some r ∧ RelS (T + 1) r.1 := by
  have hv := h.v
  have hcase : (S.svd = none ∧ mIsSaved S.mv = 0) ∨ ∃ q, S.svd = some q ∧ mIsSaved S.mv = 1 ∧ RelQ q (mSaved S.mv) ∧ InvW (20 * T) (mSaved S.mv) := by
    cases hs : S.svd with
    | none => rw [hs] at hv; exact Or.inl ⟨rfl, hv⟩
    | some q => rw [hs] at hv; exact Or.inr ⟨q, rfl, hv.1, hv.2.1, hv.2.2⟩
  rcases hcase with ⟨hs, hz⟩ | ⟨q, hs, hz, hq2, hq3⟩
  · have hL : f_L_restore S.qv S.hv S.svd = some (1, S.qv, S.hv) := by
      unfold f_L_restore f_X10_restore
      rw [hs]
      simp only [ob_s, jm_l, ↓reduceIte]
    have hM : f_X11_restore S.mv = some (mSThrown 1 S.mv) := by
      unfold f_X11_restore
      rw [hz]
      simp only [m_goes1, ob_s, ↓reduceIte]
    have e13 : mThrown (mSThrown 1 S.mv) = 1 := by simp only [mg13_0, mg13_1, mg13_2, mg13_3, mg13_4, mg13_5, mg13_6, mg13_7, mg13_8, mg13_9, mg13_10, mg13_11, mg13_12, mg13_13, mg13_14, mg13_15, mg13_16, mg13_17, mg13_18]
    refine ⟨(mkS S.ep S.fc S.qv S.bv S.sv S.hv S.pv S.ov S.svd (mSThrown 1 S.mv), ol, od), ?_, h.kept (sv' := S.sv) (Kept.thrown _ _)⟩
    unfold lawOp_44
    simp only [hL, hM, ob_s, th_u, e13, ↓reduceIte]
  · obtain ⟨o, ho, hro⟩ := q_copy S.qv q _ _ hq2 hq3
    have hL : f_L_restore S.qv S.hv S.svd = some (0, o, (S.hv.1, S.hv.2.1, 0)) := by
      unfold f_L_restore f_X10_restore
      rw [hs]
      simp only [ho, ob_s, jm_r]
    have hM : f_X11_restore S.mv = some (mSRemembered 0 (mSNow (va_cpy (mSaved S.mv) (mNow S.mv) 0 0 229) (mSThrown 0 S.mv))) := by
      unfold f_X11_restore
      rw [hz]
      simp only [m_goes0, ob_s, i10, ↓reduceIte, mg2_0, mg2_1, mg2_2, mg2_3, mg2_4, mg2_5, mg2_6, mg2_7, mg2_8, mg2_9, mg2_10, mg2_11, mg2_12, mg2_13, mg2_14, mg2_15, mg2_16, mg2_17, mg2_18, mg0_0, mg0_1, mg0_2, mg0_3, mg0_4, mg0_5, mg0_6, mg0_7, mg0_8, mg0_9, mg0_10, mg0_11, mg0_12, mg0_13, mg0_14, mg0_15, mg0_16, mg0_17, mg0_18, m_copies0, jb_u]
    have he : EqW (mSaved S.mv) (va_cpy (mSaved S.mv) (mNow S.mv) 0 0 229) := cpy_eqw _ _
    generalize va_cpy (mSaved S.mv) (mNow S.mv) 0 0 229 = w9 at *
    have f0 : mNow (mSRemembered 0 (mSNow w9 (mSThrown 0 S.mv))) = w9 := by simp only [mg0_0, mg0_1, mg0_2, mg0_3, mg0_4, mg0_5, mg0_6, mg0_7, mg0_8, mg0_9, mg0_10, mg0_11, mg0_12, mg0_13, mg0_14, mg0_15, mg0_16, mg0_17, mg0_18]
    have f1 : mHistory (mSRemembered 0 (mSNow w9 (mSThrown 0 S.mv))) = mHistory S.mv := by simp only [mg3_0, mg3_1, mg3_2, mg3_3, mg3_4, mg3_5, mg3_6, mg3_7, mg3_8, mg3_9, mg3_10, mg3_11, mg3_12, mg3_13, mg3_14, mg3_15, mg3_16, mg3_17, mg3_18]
    have f2 : mRemembered (mSRemembered 0 (mSNow w9 (mSThrown 0 S.mv))) = 0 := by simp only [mg5_0, mg5_1, mg5_2, mg5_3, mg5_4, mg5_5, mg5_6, mg5_7, mg5_8, mg5_9, mg5_10, mg5_11, mg5_12, mg5_13, mg5_14, mg5_15, mg5_16, mg5_17, mg5_18]
    have f3 : mErrorAt (mSRemembered 0 (mSNow w9 (mSThrown 0 S.mv))) = mErrorAt S.mv := by simp only [mg6_0, mg6_1, mg6_2, mg6_3, mg6_4, mg6_5, mg6_6, mg6_7, mg6_8, mg6_9, mg6_10, mg6_11, mg6_12, mg6_13, mg6_14, mg6_15, mg6_16, mg6_17, mg6_18]
    have f4 : mFailedAt (mSRemembered 0 (mSNow w9 (mSThrown 0 S.mv))) = mFailedAt S.mv := by simp only [mg7_0, mg7_1, mg7_2, mg7_3, mg7_4, mg7_5, mg7_6, mg7_7, mg7_8, mg7_9, mg7_10, mg7_11, mg7_12, mg7_13, mg7_14, mg7_15, mg7_16, mg7_17, mg7_18]
    have f5 : mText (mSRemembered 0 (mSNow w9 (mSThrown 0 S.mv))) = mText S.mv := by simp only [mg9_0, mg9_1, mg9_2, mg9_3, mg9_4, mg9_5, mg9_6, mg9_7, mg9_8, mg9_9, mg9_10, mg9_11, mg9_12, mg9_13, mg9_14, mg9_15, mg9_16, mg9_17, mg9_18]
    have f6 : mTyped (mSRemembered 0 (mSNow w9 (mSThrown 0 S.mv))) = mTyped S.mv := by simp only [mg10_0, mg10_1, mg10_2, mg10_3, mg10_4, mg10_5, mg10_6, mg10_7, mg10_8, mg10_9, mg10_10, mg10_11, mg10_12, mg10_13, mg10_14, mg10_15, mg10_16, mg10_17, mg10_18]
    have f7 : mLine (mSRemembered 0 (mSNow w9 (mSThrown 0 S.mv))) = mLine S.mv := by simp only [mg11_0, mg11_1, mg11_2, mg11_3, mg11_4, mg11_5, mg11_6, mg11_7, mg11_8, mg11_9, mg11_10, mg11_11, mg11_12, mg11_13, mg11_14, mg11_15, mg11_16, mg11_17, mg11_18]
    have f8 : mLined (mSRemembered 0 (mSNow w9 (mSThrown 0 S.mv))) = mLined S.mv := by simp only [mg12_0, mg12_1, mg12_2, mg12_3, mg12_4, mg12_5, mg12_6, mg12_7, mg12_8, mg12_9, mg12_10, mg12_11, mg12_12, mg12_13, mg12_14, mg12_15, mg12_16, mg12_17, mg12_18]
    have f9 : mIsSaved (mSRemembered 0 (mSNow w9 (mSThrown 0 S.mv))) = mIsSaved S.mv := by simp only [mg4_0, mg4_1, mg4_2, mg4_3, mg4_4, mg4_5, mg4_6, mg4_7, mg4_8, mg4_9, mg4_10, mg4_11, mg4_12, mg4_13, mg4_14, mg4_15, mg4_16, mg4_17, mg4_18]
    have f10 : mSaved (mSRemembered 0 (mSNow w9 (mSThrown 0 S.mv))) = mSaved S.mv := by simp only [mg2_0, mg2_1, mg2_2, mg2_3, mg2_4, mg2_5, mg2_6, mg2_7, mg2_8, mg2_9, mg2_10, mg2_11, mg2_12, mg2_13, mg2_14, mg2_15, mg2_16, mg2_17, mg2_18]
    have f11 : mThrown (mSRemembered 0 (mSNow w9 (mSThrown 0 S.mv))) = 0 := by simp only [mg13_0, mg13_1, mg13_2, mg13_3, mg13_4, mg13_5, mg13_6, mg13_7, mg13_8, mg13_9, mg13_10, mg13_11, mg13_12, mg13_13, mg13_14, mg13_15, mg13_16, mg13_17, mg13_18]
    generalize mSRemembered 0 (mSNow w9 (mSThrown 0 S.mv)) = m9 at *
    refine ⟨(mkS S.ep S.fc o S.bv S.sv (S.hv.1, S.hv.2.1, 0) S.pv S.ov S.svd m9, ol, od), ?_, ?_⟩
    · unfold lawOp_44
      simp only [hL, hM, ob_s, th_u, f11, ↓reduceIte]
    · have hh : HRel (20 * (T + 1)) (S.hv.1, S.hv.2.1, 0) m9 := by
        obtain ⟨n, c, e1, hn, e2, hc, hlen, hfree, e3, hrows⟩ := id h.h
        exact ⟨n, 0, e1, hn, rfl, by omega, hlen, hfree.imp id (fun k => ⟨k.1, Nat.zero_le _⟩), f2, fun i hi => absurd hi (Nat.not_lt_zero _)⟩
      exact RelS.mk (f_q := by show RelQ o (mNow m9); rw [f0]; exact hro.eqw he)
        (f_w := by show InvW _ (mNow m9); rw [f0]; exact (hq3.eqw he).up (by omega))
        (f_h := hh)
        (f_e := f3.trans h.e) (f_f := f4.trans h.f) (f_t := h.t.kept f5 f6) (f_o := h.o.kept f7 f8)
        (f_v := (h.v.up (show 20 * T ≤ 20 * (T + 1) by omega)).kept f9 f10)
