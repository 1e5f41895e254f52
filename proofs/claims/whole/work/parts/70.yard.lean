/-! the yard's weight, the places of an error, save -/
def yWt (w : Nat → Int32) (n : Nat) : Int32 := itr (fun i x => x + w (6 + i) * (2 + nI i)) 0 n
theorem tell_yardWeight {S : Sys} {T : Nat} (h : RelS T S) (tv : TV) : ∃ x m', f_X10_yardWeight tv S.qv = some x ∧ f_X11_yardWeight S.mv = some (x, m') ∧ Kept S.mv m' := by
  have hq : jbL (fun s => f_X7_weightOfYard_L4 S.qv s.1 s.2) 5000 (yWt (mNow S.mv) 0, nI 0) = some (yWt (mNow S.mv) 4, nI 4) := by
    refine lpD (fun k => (yWt (mNow S.mv) k, nI k)) _ 4 (fun k hk => ?_) ?_ 5000 (by decide)
    · show f_X7_weightOfYard_L4 S.qv (yWt (mNow S.mv) k) (nI k) = some (Sum.inl (yWt (mNow S.mv) k + mNow S.mv (6 + k) * (2 + nI k), nI (k + 1)))
      unfold f_X7_weightOfYard_L4
      rw [if_neg (show ¬ (4 : Int32) ≤ nI k from nI_ge (a := k) (b := 4) hk (by decide)), if_pos (nIin hk (by decide)), nI_clamp (by omega), h.q.yd k hk]
      simp only [wt7, ob_s, jb_u, nI_1]
    · show f_X7_weightOfYard_L4 S.qv _ (nI 4) = _
      unfold f_X7_weightOfYard_L4
      rw [if_pos (show (4 : Int32) ≤ nI 4 from Int32.le_refl _)]
  have hm : jbL (fun s => f_X11_yardWeight_L9 (mSThrown 0 S.mv) s.1 s.2) 5000 (yWt (mNow S.mv) 0, nI 0) = some (yWt (mNow S.mv) 4, nI 4) := by
    refine lpD (fun k => (yWt (mNow S.mv) k, nI k)) _ 4 (fun k hk => ?_) ?_ 5000 (by decide)
    · show f_X11_yardWeight_L9 (mSThrown 0 S.mv) (yWt (mNow S.mv) k) (nI k) = some (Sum.inl (yWt (mNow S.mv) k + mNow S.mv (6 + k) * (2 + nI k), nI (k + 1)))
      have p6 : (6 : Int32) + nI k = nI (6 + k) := nI_add 6 k
      unfold f_X11_yardWeight_L9
      rw [if_neg (show ¬ (4 : Int32) ≤ nI k from nI_ge (a := k) (b := 4) hk (by decide)), p6, if_pos (nIin (show 6 + k < 229 by omega) (by decide)), nI_clamp (by omega)]
      simp only [wt11, ob_s, jb_u, nI_1, mN2]
    · show f_X11_yardWeight_L9 _ _ (nI 4) = _
      unfold f_X11_yardWeight_L9
      rw [if_pos (show (4 : Int32) ≤ nI 4 from Int32.le_refl _)]
  have hq' : jbL (fun s : Int32 × Int32 => f_X7_weightOfYard_L4 S.qv s.1 s.2) 5000 ((0 : Int32), (0 : Int32)) = some (yWt (mNow S.mv) 4, nI 4) := hq
  have hm' : jbL (fun s : Int32 × Int32 => f_X11_yardWeight_L9 (mSThrown 0 S.mv) s.1 s.2) 5000 ((0 : Int32), (0 : Int32)) = some (yWt (mNow S.mv) 4, nI 4) := hm
  refine ⟨yWt (mNow S.mv) 4, mSThrown 0 S.mv, ?_, ?_, Kept.thrown _ _⟩
  · unfold f_X10_yardWeight f_X7_weightOfYard
    simp only [hq', ob_s]
  · unfold f_X11_yardWeight
    simp only [jb_u, hm', ob_s]
theorem lb_28 {T : Nat} {S : Sys} (h : RelS T S) (a1 a2 a3 a4 : Int32) (ol : Nat → Int64) (od : Nat → UInt64) : ∃ r, lawOp_28 S a1 a2 a3 a4 ol od = some r ∧ RelS (T + 1) r.1 :=
  lb_tell h (f_X10_yardWeight (none, S.ep, S.fc) S.qv) (f_X11_yardWeight S.mv) (tell_yardWeight h _) ol od
/-- save -/
theorem lb_43 {T : Nat} {S : Sys} (h : RelS T S) (a1 a2 a3 a4 : Int32) (ol : Nat → Int64) (od : Nat → UInt64) : ∃ r, lawOp_43 S a1 a2 a3 a4 ol od = some r ∧ RelS (T + 1) r.1 := by
  obtain ⟨o, h1, h2⟩ : ∃ o, f_X10_save S.qv S.svd = some o ∧ RelQ o (mNow S.mv) := by
    unfold f_X10_save
    cases S.svd with
    | none =>
      obtain ⟨qi, hqi⟩ := q_init
      obtain ⟨o, ho, hro⟩ := q_copy qi S.qv _ _ h.q h.w
      exact ⟨o, by simp only [hqi, ob_s, ho], hro⟩
    | some q0 => exact q_copy q0 S.qv _ _ h.q h.w
  have he : EqW (mNow S.mv) (va_cpy (mNow S.mv) (mSaved S.mv) 0 0 229) := cpy_eqw _ _
  have hM : f_X11_save S.mv = some (mSIsSaved 1 (mSSaved (va_cpy (mNow S.mv) (mSaved S.mv) 0 0 229) (mSThrown 0 S.mv))) := by
    unfold f_X11_save
    simp only [jb_u, mg0_0, mg0_1, mg0_2, mg0_3, mg0_4, mg0_5, mg0_6, mg0_7, mg0_8, mg0_9, mg0_10, mg0_11, mg0_12, mg0_13, mg0_14, mg0_15, mg0_16, mg0_17, mg0_18, mg2_0, mg2_1, mg2_2, mg2_3, mg2_4, mg2_5, mg2_6, mg2_7, mg2_8, mg2_9, mg2_10, mg2_11, mg2_12, mg2_13, mg2_14, mg2_15, mg2_16, mg2_17, mg2_18, m_copies0, ob_s]
  generalize va_cpy (mNow S.mv) (mSaved S.mv) 0 0 229 = w9 at *
  refine ⟨(mkS S.ep S.fc S.qv S.bv S.sv S.hv S.pv S.ov (some o) (mSIsSaved 1 (mSSaved w9 (mSThrown 0 S.mv))), ol, od), ?_, ?_⟩
  · unfold lawOp_43
    simp only [h1, hM, ob_s]
  · have e0 : mNow (mSIsSaved 1 (mSSaved w9 (mSThrown 0 S.mv))) = mNow S.mv := by simp only [mg0_0, mg0_1, mg0_2, mg0_3, mg0_4, mg0_5, mg0_6, mg0_7, mg0_8, mg0_9, mg0_10, mg0_11, mg0_12, mg0_13, mg0_14, mg0_15, mg0_16, mg0_17, mg0_18]
    have e1 : mHistory (mSIsSaved 1 (mSSaved w9 (mSThrown 0 S.mv))) = mHistory S.mv := by simp only [mg3_0, mg3_1, mg3_2, mg3_3, mg3_4, mg3_5, mg3_6, mg3_7, mg3_8, mg3_9, mg3_10, mg3_11, mg3_12, mg3_13, mg3_14, mg3_15, mg3_16, mg3_17, mg3_18]
    have e2 : mRemembered (mSIsSaved 1 (mSSaved w9 (mSThrown 0 S.mv))) = mRemembered S.mv := by simp only [mg5_0, mg5_1, mg5_2, mg5_3, mg5_4, mg5_5, mg5_6, mg5_7, mg5_8, mg5_9, mg5_10, mg5_11, mg5_12, mg5_13, mg5_14, mg5_15, mg5_16, mg5_17, mg5_18]
    have e3 : mErrorAt (mSIsSaved 1 (mSSaved w9 (mSThrown 0 S.mv))) = mErrorAt S.mv := by simp only [mg6_0, mg6_1, mg6_2, mg6_3, mg6_4, mg6_5, mg6_6, mg6_7, mg6_8, mg6_9, mg6_10, mg6_11, mg6_12, mg6_13, mg6_14, mg6_15, mg6_16, mg6_17, mg6_18]
    have e4 : mFailedAt (mSIsSaved 1 (mSSaved w9 (mSThrown 0 S.mv))) = mFailedAt S.mv := by simp only [mg7_0, mg7_1, mg7_2, mg7_3, mg7_4, mg7_5, mg7_6, mg7_7, mg7_8, mg7_9, mg7_10, mg7_11, mg7_12, mg7_13, mg7_14, mg7_15, mg7_16, mg7_17, mg7_18]
    have e5 : mText (mSIsSaved 1 (mSSaved w9 (mSThrown 0 S.mv))) = mText S.mv := by simp only [mg9_0, mg9_1, mg9_2, mg9_3, mg9_4, mg9_5, mg9_6, mg9_7, mg9_8, mg9_9, mg9_10, mg9_11, mg9_12, mg9_13, mg9_14, mg9_15, mg9_16, mg9_17, mg9_18]
    have e6 : mTyped (mSIsSaved 1 (mSSaved w9 (mSThrown 0 S.mv))) = mTyped S.mv := by simp only [mg10_0, mg10_1, mg10_2, mg10_3, mg10_4, mg10_5, mg10_6, mg10_7, mg10_8, mg10_9, mg10_10, mg10_11, mg10_12, mg10_13, mg10_14, mg10_15, mg10_16, mg10_17, mg10_18]
    have e7 : mLine (mSIsSaved 1 (mSSaved w9 (mSThrown 0 S.mv))) = mLine S.mv := by simp only [mg11_0, mg11_1, mg11_2, mg11_3, mg11_4, mg11_5, mg11_6, mg11_7, mg11_8, mg11_9, mg11_10, mg11_11, mg11_12, mg11_13, mg11_14, mg11_15, mg11_16, mg11_17, mg11_18]
    have e8 : mLined (mSIsSaved 1 (mSSaved w9 (mSThrown 0 S.mv))) = mLined S.mv := by simp only [mg12_0, mg12_1, mg12_2, mg12_3, mg12_4, mg12_5, mg12_6, mg12_7, mg12_8, mg12_9, mg12_10, mg12_11, mg12_12, mg12_13, mg12_14, mg12_15, mg12_16, mg12_17, mg12_18]
    have e9 : mIsSaved (mSIsSaved 1 (mSSaved w9 (mSThrown 0 S.mv))) = 1 := by simp only [mg4_0, mg4_1, mg4_2, mg4_3, mg4_4, mg4_5, mg4_6, mg4_7, mg4_8, mg4_9, mg4_10, mg4_11, mg4_12, mg4_13, mg4_14, mg4_15, mg4_16, mg4_17, mg4_18]
    have e10 : mSaved (mSIsSaved 1 (mSSaved w9 (mSThrown 0 S.mv))) = w9 := by simp only [mg2_0, mg2_1, mg2_2, mg2_3, mg2_4, mg2_5, mg2_6, mg2_7, mg2_8, mg2_9, mg2_10, mg2_11, mg2_12, mg2_13, mg2_14, mg2_15, mg2_16, mg2_17, mg2_18]
    generalize mSIsSaved 1 (mSSaved w9 (mSThrown 0 S.mv)) = m9 at *
    exact RelS.mk (f_q := by show RelQ S.qv (mNow m9); rw [e0]; exact h.q)
      (f_w := by show InvW _ (mNow m9); rw [e0]; exact h.w.up (by omega))
      (f_h := (h.h.up (show 20 * T ≤ 20 * (T + 1) by omega)).kept e1 e2)
      (f_e := e3.trans h.e) (f_f := e4.trans h.f) (f_t := h.t.kept e5 e6) (f_o := h.o.kept e7 e8)
      (f_v := ⟨e9, by show RelQ o (mSaved m9); rw [e10]; exact h2.eqw he, by show InvW _ (mSaved m9); rw [e10]; exact (h.w.eqw he).up (by omega)⟩)
