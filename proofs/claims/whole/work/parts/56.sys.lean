/-! ===== the two systems side by side ===== -/
def TRel (pv : PV) (m : MV) : Prop := ∃ n, n ≤ 60 ∧ pLength pv = nI n ∧ mTyped m = nI n ∧ ∀ k, k < n → pText pv k = mText m k ∧ ∃ x, x < 65536 ∧ mText m k = nI x
def ORel (ov : OV) (m : MV) : Prop := ∃ n, n ≤ 48 ∧ oLength ov = nI n ∧ mLined m = nI n ∧ ∀ k, k < n → oSigns ov k = mLine m k ∧ ∃ x, x < 128 ∧ mLine m k = nI x
def VRel (t : Nat) (sv : Option QV) (m : MV) : Prop := match sv with
  | none => mIsSaved m = 0
  | some q => mIsSaved m = 1 ∧ RelQ q (mSaved m) ∧ InvW t (mSaved m)
abbrev RelS (T : Nat) (S : Sys) : Prop :=
  (RelQ S.qv (mNow S.mv)) ∧
  (InvW (20 * T) (mNow S.mv)) ∧
  (HRel (20 * T) S.hv S.mv) ∧
  (mErrorAt S.mv = S.ep) ∧
  (mFailedAt S.mv = S.fc) ∧
  (TRel S.pv S.mv) ∧
  (ORel S.ov S.mv) ∧
  (VRel (20 * T) S.svd S.mv)
theorem RelS.q {T : Nat} {S : Sys} (x : RelS T S) : RelQ S.qv (mNow S.mv) := x.1
theorem RelS.w {T : Nat} {S : Sys} (x : RelS T S) : InvW (20 * T) (mNow S.mv) := x.2.1
theorem RelS.h {T : Nat} {S : Sys} (x : RelS T S) : HRel (20 * T) S.hv S.mv := x.2.2.1
theorem RelS.e {T : Nat} {S : Sys} (x : RelS T S) : mErrorAt S.mv = S.ep := x.2.2.2.1
theorem RelS.f {T : Nat} {S : Sys} (x : RelS T S) : mFailedAt S.mv = S.fc := x.2.2.2.2.1
theorem RelS.t {T : Nat} {S : Sys} (x : RelS T S) : TRel S.pv S.mv := x.2.2.2.2.2.1
theorem RelS.o {T : Nat} {S : Sys} (x : RelS T S) : ORel S.ov S.mv := x.2.2.2.2.2.2.1
theorem RelS.v {T : Nat} {S : Sys} (x : RelS T S) : VRel (20 * T) S.svd S.mv := x.2.2.2.2.2.2.2
theorem RelS.mk {T : Nat} {S : Sys} (f_q : RelQ S.qv (mNow S.mv)) (f_w : InvW (20 * T) (mNow S.mv)) (f_h : HRel (20 * T) S.hv S.mv) (f_e : mErrorAt S.mv = S.ep) (f_f : mFailedAt S.mv = S.fc) (f_t : TRel S.pv S.mv) (f_o : ORel S.ov S.mv) (f_v : VRel (20 * T) S.svd S.mv) : RelS T S := ⟨f_q, f_w, f_h, f_e, f_f, f_t, f_o, f_v⟩
theorem HRel.up {t u : Nat} {hv : HV} {m : MV} (h : HRel t hv m) (htu : t ≤ u) : HRel u hv m := by
  obtain ⟨n, c, e1, hn, e2, hc, hlen, hfree, e3, hrows⟩ := h
  exact ⟨n, c, e1, hn, e2, hc, hlen, hfree, e3, fun j hj => by obtain ⟨q, h1, h2, h3⟩ := hrows j hj; exact ⟨q, h1, h2, h3.up htu⟩⟩
theorem VRel.up {t u : Nat} {sv : Option QV} {m : MV} (h : VRel t sv m) (htu : t ≤ u) : VRel u sv m := by
  cases sv with
  | none => exact h
  | some q => exact ⟨h.1, h.2.1, h.2.2.up htu⟩
theorem RelS.up {T : Nat} {S : Sys} (h : RelS T S) : RelS (T + 1) S := ⟨h.q, h.w.up (by omega), h.h.up (by omega), h.e, h.f, h.t, h.o, h.v.up (by omega)⟩
/-- what a call of the reference that only tells leaves as it was -/
abbrev Kept (m m' : MV) : Prop :=
  (mNow m' = mNow m) ∧
  (mHistory m' = mHistory m) ∧
  (mRemembered m' = mRemembered m) ∧
  (mErrorAt m' = mErrorAt m) ∧
  (mFailedAt m' = mFailedAt m) ∧
  (mText m' = mText m) ∧
  (mTyped m' = mTyped m) ∧
  (mLine m' = mLine m) ∧
  (mLined m' = mLined m) ∧
  (mIsSaved m' = mIsSaved m) ∧
  (mSaved m' = mSaved m)
theorem Kept.now {m m' : MV} (x : Kept m m') : mNow m' = mNow m := x.1
theorem Kept.hist {m m' : MV} (x : Kept m m') : mHistory m' = mHistory m := x.2.1
theorem Kept.rem {m m' : MV} (x : Kept m m') : mRemembered m' = mRemembered m := x.2.2.1
theorem Kept.err {m m' : MV} (x : Kept m m') : mErrorAt m' = mErrorAt m := x.2.2.2.1
theorem Kept.fail {m m' : MV} (x : Kept m m') : mFailedAt m' = mFailedAt m := x.2.2.2.2.1
theorem Kept.text {m m' : MV} (x : Kept m m') : mText m' = mText m := x.2.2.2.2.2.1
theorem Kept.typed {m m' : MV} (x : Kept m m') : mTyped m' = mTyped m := x.2.2.2.2.2.2.1
theorem Kept.line {m m' : MV} (x : Kept m m') : mLine m' = mLine m := x.2.2.2.2.2.2.2.1
theorem Kept.lined {m m' : MV} (x : Kept m m') : mLined m' = mLined m := x.2.2.2.2.2.2.2.2.1
theorem Kept.isSaved {m m' : MV} (x : Kept m m') : mIsSaved m' = mIsSaved m := x.2.2.2.2.2.2.2.2.2.1
theorem Kept.saved {m m' : MV} (x : Kept m m') : mSaved m' = mSaved m := x.2.2.2.2.2.2.2.2.2.2
theorem Kept.mk {m m' : MV} (f_now : mNow m' = mNow m) (f_hist : mHistory m' = mHistory m) (f_rem : mRemembered m' = mRemembered m) (f_err : mErrorAt m' = mErrorAt m) (f_fail : mFailedAt m' = mFailedAt m) (f_text : mText m' = mText m) (f_typed : mTyped m' = mTyped m) (f_line : mLine m' = mLine m) (f_lined : mLined m' = mLined m) (f_isSaved : mIsSaved m' = mIsSaved m) (f_saved : mSaved m' = mSaved m) : Kept m m' := ⟨f_now, f_hist, f_rem, f_err, f_fail, f_text, f_typed, f_line, f_lined, f_isSaved, f_saved⟩
theorem HRel.kept {t : Nat} {hv : HV} {m m' : MV} (h : HRel t hv m) (h1 : mHistory m' = mHistory m) (h2 : mRemembered m' = mRemembered m) : HRel t hv m' := by
  obtain ⟨n, c, e1, hn, e2, hc, hlen, hfree, e3, hrows⟩ := h
  refine ⟨n, c, e1, hn, e2, hc, hlen, hfree, h2.trans e3, fun j hj => ?_⟩
  have : hrow m' j = hrow m j := by unfold hrow; rw [h1]
  rw [this]
  exact hrows j hj
theorem VRel.kept {t : Nat} {sv : Option QV} {m m' : MV} (h : VRel t sv m) (h1 : mIsSaved m' = mIsSaved m) (h2 : mSaved m' = mSaved m) : VRel t sv m' := by
  cases sv with
  | none => exact h1.trans h
  | some q => exact ⟨h1.trans h.1, by rw [h2]; exact h.2.1, by rw [h2]; exact h.2.2⟩
theorem TRel.kept {pv : PV} {m m' : MV} (h : TRel pv m) (h1 : mText m' = mText m) (h2 : mTyped m' = mTyped m) : TRel pv m' := by
  unfold TRel
  rw [h1, h2]
  exact h
theorem ORel.kept {ov : OV} {m m' : MV} (h : ORel ov m) (h1 : mLine m' = mLine m) (h2 : mLined m' = mLined m) : ORel ov m' := by
  unfold ORel
  rw [h1, h2]
  exact h
theorem RelS.kept {T : Nat} {S : Sys} {m' : MV} {sv' : SV} (h : RelS T S) (k : Kept S.mv m') : RelS (T + 1) (mkS S.ep S.fc S.qv S.bv sv' S.hv S.pv S.ov S.svd m') :=
  ⟨by show RelQ S.qv (mNow m'); rw [k.now]; exact h.q, by show InvW _ (mNow m'); rw [k.now]; exact h.w.up (by omega), (h.h.up (by omega)).kept k.hist k.rem, k.err.trans h.e, k.fail.trans h.f, h.t.kept k.text k.typed, h.o.kept k.line k.lined, (h.v.up (by omega)).kept k.isSaved k.saved⟩
theorem Kept.thrown (x : Int32) (m : MV) : Kept m (mSThrown x m) := ⟨rfl, rfl, rfl, rfl, rfl, rfl, rfl, rfl, rfl, rfl, rfl⟩
theorem Kept.marks (x : Nat → Int32) (m : MV) : Kept m (mSMarks x m) := ⟨rfl, rfl, rfl, rfl, rfl, rfl, rfl, rfl, rfl, rfl, rfl⟩
theorem Kept.tr {a b c : MV} (h : Kept a b) (k : Kept b c) : Kept a c := ⟨k.now.trans h.now, k.hist.trans h.hist, k.rem.trans h.rem, k.err.trans h.err, k.fail.trans h.fail, k.text.trans h.text, k.typed.trans h.typed, k.line.trans h.line, k.lined.trans h.lined, k.isSaved.trans h.isSaved, k.saved.trans h.saved⟩
/-- the reference's row as it was before a call -/
def mBeg (m : MV) : MV := mSBefore (va_cpy (mNow m) (mBefore m) 0 0 229) m
theorem m_begins (m : MV) : f_X11_begins m = some (mBeg m) := by
  unfold f_X11_begins
  rw [m_copies0]
  rfl
/-- a call that changes, on both sides -/
theorem mutS {T : Nat} {S : Sys} (h : RelS T S) (ex : List Nat) (F : Option Nat) (Ch : Option (Int32 × QV)) (B : MV → Option (Int32 × MV))
    (hcmd : ∀ m, RelQ S.qv (mNow m) → InvW (20 * T) (mNow m) → Cmd (20 * T) ex F Ch (B m) m) :
    (∃ r q' hv' m', F = some 0 ∧ f_X4_record S.hv S.qv = some hv' ∧ Ch = some (r, q') ∧ ((f_X11_begins S.mv).bind fun o1 => (B o1).bind fun o3 => f_X11_ends o3.2 o3.1) = some (r, m') ∧ mThrown m' = 0 ∧ RelS (T + 1) (mkS S.ep S.fc q' S.bv S.sv hv' S.pv S.ov S.svd m')) ∨
    (∃ k c m', F = some (k + 1) ∧ k < 5 ∧ ((f_X11_begins S.mv).bind fun o1 => (B o1).bind fun o3 => f_X11_ends o3.2 o3.1) = some (0, m') ∧ mThrown m' = nI (c + 1) ∧ c < 4 ∧ ex[c]? = some k ∧ RelS (T + 1) (mkS S.ep S.fc S.qv S.bv S.sv S.hv S.pv S.ov S.svd m')) := by
  have hq : RelQ S.qv (mNow (mBeg S.mv)) := h.q
  have hw : InvW (20 * T) (mNow (mBeg S.mv)) := h.w
  have hbq : EqW (mNow S.mv) (mBefore (mBeg S.mv)) := cpy_eqw _ _
  rcases hcmd (mBeg S.mv) hq hw with ⟨hF, r, q', w', hCh, hB, hq', hw'⟩ | ⟨k, r, c, hF, hk, hB, hc, hex⟩
  · left
    have hh : HRel (20 * T) S.hv (mSThrown 0 (mSNow w' (mBeg S.mv))) := h.h.kept rfl rfl
    have hbef : EqW (mNow S.mv) (mBefore (mSThrown 0 (mSNow w' (mBeg S.mv)))) := hbq
    obtain ⟨hv', H', c', h1, h2, h3⟩ := remember hh (h.q.eqw hbef) (h.w.eqw hbef)
    have e1 : mNow (mSRemembered c' (mSHistory H' (mSThrown 0 (mSNow w' (mBeg S.mv))))) = w' := by simp only [mg0_0, mg0_1, mg0_2, mg0_3, mg0_4, mg0_5, mg0_6, mg0_7, mg0_8, mg0_9, mg0_10, mg0_11, mg0_12, mg0_13, mg0_14, mg0_15, mg0_16, mg0_17, mg0_18]
    have e2 : mErrorAt (mSRemembered c' (mSHistory H' (mSThrown 0 (mSNow w' (mBeg S.mv))))) = mErrorAt S.mv := by simp only [mBeg, mg6_0, mg6_1, mg6_2, mg6_3, mg6_4, mg6_5, mg6_6, mg6_7, mg6_8, mg6_9, mg6_10, mg6_11, mg6_12, mg6_13, mg6_14, mg6_15, mg6_16, mg6_17, mg6_18]
    have e3 : mFailedAt (mSRemembered c' (mSHistory H' (mSThrown 0 (mSNow w' (mBeg S.mv))))) = mFailedAt S.mv := by simp only [mBeg, mg7_0, mg7_1, mg7_2, mg7_3, mg7_4, mg7_5, mg7_6, mg7_7, mg7_8, mg7_9, mg7_10, mg7_11, mg7_12, mg7_13, mg7_14, mg7_15, mg7_16, mg7_17, mg7_18]
    have e4 : mText (mSRemembered c' (mSHistory H' (mSThrown 0 (mSNow w' (mBeg S.mv))))) = mText S.mv := by simp only [mBeg, mg9_0, mg9_1, mg9_2, mg9_3, mg9_4, mg9_5, mg9_6, mg9_7, mg9_8, mg9_9, mg9_10, mg9_11, mg9_12, mg9_13, mg9_14, mg9_15, mg9_16, mg9_17, mg9_18]
    have e5 : mTyped (mSRemembered c' (mSHistory H' (mSThrown 0 (mSNow w' (mBeg S.mv))))) = mTyped S.mv := by simp only [mBeg, mg10_0, mg10_1, mg10_2, mg10_3, mg10_4, mg10_5, mg10_6, mg10_7, mg10_8, mg10_9, mg10_10, mg10_11, mg10_12, mg10_13, mg10_14, mg10_15, mg10_16, mg10_17, mg10_18]
    have e6 : mLine (mSRemembered c' (mSHistory H' (mSThrown 0 (mSNow w' (mBeg S.mv))))) = mLine S.mv := by simp only [mBeg, mg11_0, mg11_1, mg11_2, mg11_3, mg11_4, mg11_5, mg11_6, mg11_7, mg11_8, mg11_9, mg11_10, mg11_11, mg11_12, mg11_13, mg11_14, mg11_15, mg11_16, mg11_17, mg11_18]
    have e7 : mLined (mSRemembered c' (mSHistory H' (mSThrown 0 (mSNow w' (mBeg S.mv))))) = mLined S.mv := by simp only [mBeg, mg12_0, mg12_1, mg12_2, mg12_3, mg12_4, mg12_5, mg12_6, mg12_7, mg12_8, mg12_9, mg12_10, mg12_11, mg12_12, mg12_13, mg12_14, mg12_15, mg12_16, mg12_17, mg12_18]
    have e8 : mIsSaved (mSRemembered c' (mSHistory H' (mSThrown 0 (mSNow w' (mBeg S.mv))))) = mIsSaved S.mv := by simp only [mBeg, mg4_0, mg4_1, mg4_2, mg4_3, mg4_4, mg4_5, mg4_6, mg4_7, mg4_8, mg4_9, mg4_10, mg4_11, mg4_12, mg4_13, mg4_14, mg4_15, mg4_16, mg4_17, mg4_18]
    have e9 : mSaved (mSRemembered c' (mSHistory H' (mSThrown 0 (mSNow w' (mBeg S.mv))))) = mSaved S.mv := by simp only [mBeg, mg2_0, mg2_1, mg2_2, mg2_3, mg2_4, mg2_5, mg2_6, mg2_7, mg2_8, mg2_9, mg2_10, mg2_11, mg2_12, mg2_13, mg2_14, mg2_15, mg2_16, mg2_17, mg2_18]
    have e10 : mThrown (mSRemembered c' (mSHistory H' (mSThrown 0 (mSNow w' (mBeg S.mv))))) = 0 := by simp only [mg13_0, mg13_1, mg13_2, mg13_3, mg13_4, mg13_5, mg13_6, mg13_7, mg13_8, mg13_9, mg13_10, mg13_11, mg13_12, mg13_13, mg13_14, mg13_15, mg13_16, mg13_17, mg13_18]
    have e11 : mThrown (mSThrown 0 (mSNow w' (mBeg S.mv))) = 0 := by simp only [mg13_0, mg13_1, mg13_2, mg13_3, mg13_4, mg13_5, mg13_6, mg13_7, mg13_8, mg13_9, mg13_10, mg13_11, mg13_12, mg13_13, mg13_14, mg13_15, mg13_16, mg13_17, mg13_18]
    have hend : f_X11_ends (mSThrown 0 (mSNow w' (mBeg S.mv))) r = some (r, mSRemembered c' (mSHistory H' (mSThrown 0 (mSNow w' (mBeg S.mv))))) := by
      unfold f_X11_ends
      rw [if_pos e11, h2]
      rfl
    generalize mSRemembered c' (mSHistory H' (mSThrown 0 (mSNow w' (mBeg S.mv)))) = m9 at *
    refine ⟨r, q', hv', m9, hF, h1, hCh, ?_, e10, ?_⟩
    · simp only [m_begins, ob_s, hB, hend]
    · exact RelS.mk (f_q := by show RelQ q' (mNow m9); rw [e1]; exact hq')
        (f_w := by show InvW _ (mNow m9); rw [e1]; exact hw'.up (by omega))
        (f_h := h3.up (show 20 * T ≤ 20 * (T + 1) by omega))
        (f_e := e2.trans h.e) (f_f := e3.trans h.f) (f_t := h.t.kept e4 e5) (f_o := h.o.kept e6 e7)
        (f_v := (h.v.up (show 20 * T ≤ 20 * (T + 1) by omega)).kept e8 e9)
  · right
    have hne : ¬ mThrown (mSThrown (nI (c + 1)) (mBeg S.mv)) = 0 := by
      show ¬ nI (c + 1) = 0
      rw [show (0 : Int32) = nI 0 from rfl, nI_eq (by omega) (by omega)]
      omega
    have he : EqW (mNow S.mv) (va_cpy (mBefore (mSThrown (nI (c + 1)) (mBeg S.mv))) (mNow (mSThrown (nI (c + 1)) (mBeg S.mv))) 0 0 229) := fun k hk => (hbq k hk).trans (cpy_eqw _ _ k hk)
    have g1 : mNow (mSNow (va_cpy (mBefore (mSThrown (nI (c + 1)) (mBeg S.mv))) (mNow (mSThrown (nI (c + 1)) (mBeg S.mv))) 0 0 229) (mSThrown (nI (c + 1)) (mBeg S.mv))) = va_cpy (mBefore (mSThrown (nI (c + 1)) (mBeg S.mv))) (mNow (mSThrown (nI (c + 1)) (mBeg S.mv))) 0 0 229 := mg0_0 _ _
    have hend : f_X11_ends (mSThrown (nI (c + 1)) (mBeg S.mv)) r = some (0, mSNow (va_cpy (mBefore (mSThrown (nI (c + 1)) (mBeg S.mv))) (mNow (mSThrown (nI (c + 1)) (mBeg S.mv))) 0 0 229) (mSThrown (nI (c + 1)) (mBeg S.mv))) := by
      unfold f_X11_ends
      rw [if_neg hne, m_copies0]
      rfl
    generalize va_cpy (mBefore (mSThrown (nI (c + 1)) (mBeg S.mv))) (mNow (mSThrown (nI (c + 1)) (mBeg S.mv))) 0 0 229 = w9 at *
    have e2 : mErrorAt (mSNow w9 (mSThrown (nI (c + 1)) (mBeg S.mv))) = mErrorAt S.mv := by simp only [mBeg, mg6_0, mg6_1, mg6_2, mg6_3, mg6_4, mg6_5, mg6_6, mg6_7, mg6_8, mg6_9, mg6_10, mg6_11, mg6_12, mg6_13, mg6_14, mg6_15, mg6_16, mg6_17, mg6_18]
    have e3 : mFailedAt (mSNow w9 (mSThrown (nI (c + 1)) (mBeg S.mv))) = mFailedAt S.mv := by simp only [mBeg, mg7_0, mg7_1, mg7_2, mg7_3, mg7_4, mg7_5, mg7_6, mg7_7, mg7_8, mg7_9, mg7_10, mg7_11, mg7_12, mg7_13, mg7_14, mg7_15, mg7_16, mg7_17, mg7_18]
    have e4 : mText (mSNow w9 (mSThrown (nI (c + 1)) (mBeg S.mv))) = mText S.mv := by simp only [mBeg, mg9_0, mg9_1, mg9_2, mg9_3, mg9_4, mg9_5, mg9_6, mg9_7, mg9_8, mg9_9, mg9_10, mg9_11, mg9_12, mg9_13, mg9_14, mg9_15, mg9_16, mg9_17, mg9_18]
    have e5 : mTyped (mSNow w9 (mSThrown (nI (c + 1)) (mBeg S.mv))) = mTyped S.mv := by simp only [mBeg, mg10_0, mg10_1, mg10_2, mg10_3, mg10_4, mg10_5, mg10_6, mg10_7, mg10_8, mg10_9, mg10_10, mg10_11, mg10_12, mg10_13, mg10_14, mg10_15, mg10_16, mg10_17, mg10_18]
    have e6 : mLine (mSNow w9 (mSThrown (nI (c + 1)) (mBeg S.mv))) = mLine S.mv := by simp only [mBeg, mg11_0, mg11_1, mg11_2, mg11_3, mg11_4, mg11_5, mg11_6, mg11_7, mg11_8, mg11_9, mg11_10, mg11_11, mg11_12, mg11_13, mg11_14, mg11_15, mg11_16, mg11_17, mg11_18]
    have e7 : mLined (mSNow w9 (mSThrown (nI (c + 1)) (mBeg S.mv))) = mLined S.mv := by simp only [mBeg, mg12_0, mg12_1, mg12_2, mg12_3, mg12_4, mg12_5, mg12_6, mg12_7, mg12_8, mg12_9, mg12_10, mg12_11, mg12_12, mg12_13, mg12_14, mg12_15, mg12_16, mg12_17, mg12_18]
    have e8 : mIsSaved (mSNow w9 (mSThrown (nI (c + 1)) (mBeg S.mv))) = mIsSaved S.mv := by simp only [mBeg, mg4_0, mg4_1, mg4_2, mg4_3, mg4_4, mg4_5, mg4_6, mg4_7, mg4_8, mg4_9, mg4_10, mg4_11, mg4_12, mg4_13, mg4_14, mg4_15, mg4_16, mg4_17, mg4_18]
    have e9 : mSaved (mSNow w9 (mSThrown (nI (c + 1)) (mBeg S.mv))) = mSaved S.mv := by simp only [mBeg, mg2_0, mg2_1, mg2_2, mg2_3, mg2_4, mg2_5, mg2_6, mg2_7, mg2_8, mg2_9, mg2_10, mg2_11, mg2_12, mg2_13, mg2_14, mg2_15, mg2_16, mg2_17, mg2_18]
    have e10 : mThrown (mSNow w9 (mSThrown (nI (c + 1)) (mBeg S.mv))) = nI (c + 1) := by simp only [mg13_0, mg13_1, mg13_2, mg13_3, mg13_4, mg13_5, mg13_6, mg13_7, mg13_8, mg13_9, mg13_10, mg13_11, mg13_12, mg13_13, mg13_14, mg13_15, mg13_16, mg13_17, mg13_18]
    have e11 : mHistory (mSNow w9 (mSThrown (nI (c + 1)) (mBeg S.mv))) = mHistory S.mv := by simp only [mBeg, mg3_0, mg3_1, mg3_2, mg3_3, mg3_4, mg3_5, mg3_6, mg3_7, mg3_8, mg3_9, mg3_10, mg3_11, mg3_12, mg3_13, mg3_14, mg3_15, mg3_16, mg3_17, mg3_18]
    have e12 : mRemembered (mSNow w9 (mSThrown (nI (c + 1)) (mBeg S.mv))) = mRemembered S.mv := by simp only [mBeg, mg5_0, mg5_1, mg5_2, mg5_3, mg5_4, mg5_5, mg5_6, mg5_7, mg5_8, mg5_9, mg5_10, mg5_11, mg5_12, mg5_13, mg5_14, mg5_15, mg5_16, mg5_17, mg5_18]
    generalize mSNow w9 (mSThrown (nI (c + 1)) (mBeg S.mv)) = m9 at *
    refine ⟨k, c, m9, hF, hk, ?_, e10, hc, hex, ?_⟩
    · simp only [m_begins, ob_s, hB, hend]
    · exact RelS.mk (f_q := by show RelQ S.qv (mNow m9); rw [g1]; exact h.q.eqw he)
        (f_w := by show InvW _ (mNow m9); rw [g1]; exact (h.w.eqw he).up (by omega))
        (f_h := (h.h.up (show 20 * T ≤ 20 * (T + 1) by omega)).kept e11 e12)
        (f_e := e2.trans h.e) (f_f := e3.trans h.f) (f_t := h.t.kept e4 e5) (f_o := h.o.kept e6 e7)
        (f_v := (h.v.up (show 20 * T ≤ 20 * (T + 1) by omega)).kept e8 e9)
