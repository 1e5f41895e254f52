/-! ===== the two systems side by side ===== -/
def TRel (pv : PV) (m : MV) : Prop := ∃ n, n ≤ 60 ∧ pLength pv = nI n ∧ mTyped m = nI n ∧ ∀ k, k < n → pText pv k = mText m k ∧ ∃ x, x < 65536 ∧ mText m k = nI x
def ORel (ov : OV) (m : MV) : Prop := ∃ n, n ≤ 48 ∧ oLength ov = nI n ∧ mLined m = nI n ∧ ∀ k, k < n → oSigns ov k = mLine m k ∧ ∃ x, x < 128 ∧ mLine m k = nI x
def VRel (t : Nat) (sv : Option QV) (m : MV) : Prop := match sv with
  | none => mIsSaved m = 0
  | some q => mIsSaved m = 1 ∧ RelQ q (mSaved m) ∧ InvW t (mSaved m)
abbrev RelS (T : Nat) (S : Sys) : Prop :=
  (RelQ S.qv (mNow S.mv)) ∧
  (InvW (20 * T) (mNow S.mv)) ∧
  (HRel (20 * T) S.hv S.mv) ∧
  (mErrorAt S.mv = S.ep) ∧
  (mFailedAt S.mv = S.fc) ∧
  (TRel S.pv S.mv) ∧
  (ORel S.ov S.mv) ∧
  (VRel (20 * T) S.svd S.mv)
theorem RelS.q {T : Nat} {S : Sys} (x : RelS T S) : RelQ S.qv (mNow S.mv) := x.1
theorem RelS.w {T : Nat} {S : Sys} (x : RelS T S) : InvW (20 * T) (mNow S.mv) := x.2.1
theorem RelS.h {T : Nat} {S : Sys} (x : RelS T S) : HRel (20 * T) S.hv S.mv := x.2.2.1
theorem RelS.e {T : Nat} {S : Sys} (x : RelS T S) : mErrorAt S.mv = S.ep := x.2.2.2.1
theorem RelS.f {T : Nat} {S : Sys} (x : RelS T S) : mFailedAt S.mv = S.fc := x.2.2.2.2.1
theorem RelS.t {T : Nat} {S : Sys} (x : RelS T S) : TRel S.pv S.mv := x.2.2.2.2.2.1
theorem RelS.o {T : Nat} {S : Sys} (x : RelS T S) : ORel S.ov S.mv := x.2.2.2.2.2.2.1
theorem RelS.v {T : Nat} {S : Sys} (x : RelS T S) : VRel (20 * T) S.svd S.mv := x.2.2.2.2.2.2.2
theorem RelS.mk {T : Nat} {S : Sys} (f_q : RelQ S.qv (mNow S.mv)) (f_w : InvW (20 * T) (mNow S.mv)) (f_h : HRel (20 * T) S.hv S.mv) (f_e : mErrorAt S.mv = S.ep) (f_f : mFailedAt S.mv = S.fc) (f_t : TRel S.pv S.mv) (f_o : ORel S.ov S.mv) (f_v : VRel (20 * T) S.svd S.mv) : RelS T S := ⟨f_q, f_w, f_h, f_e, f_f, f_t, f_o, f_v⟩
theorem HRel.up {t u : Nat} {hv : HV} {m : MV} (h : HRel t hv m) (htu : t ≤ u) : HRel u hv m := by
  obtain ⟨n, c, e1, hn, e2, hc, hlen, hfree, e3, hrows⟩ := h
  exact ⟨n, c, e1, hn, e2, hc, hlen, hfree, e3, fun j hj => by obtain ⟨q, h1, h2, h3⟩ := hrows j hj; exact ⟨q, h1, h2, h3.up htu⟩⟩
theorem VRel.up {t u : Nat} {sv : Option QV} {m : MV} (h : VRel t sv m) (htu : t ≤ u) : VRel u sv m := by
  cases sv with
  | none => exact h
  | some q => exact ⟨h.1, h.2.1, h.2.2.up htu⟩
theorem RelS.up {T : Nat} {S : Sys} (h : RelS T S) : RelS (T + 1) S := ⟨h.q, h.w.up (by omega), h.h.up (by omega), h.e, h.f, h.t, h.o, h.v.up (by omega)⟩
/-- what a call of the reference that only tells leaves as it was -/
abbrev Kept (m m' : MV) : Prop :=
  (mNow m' = mNow m) ∧
  (mHistory m' = mHistory m) ∧
  (mRemembered m' = mRemembered m) ∧
  (mErrorAt m' = mErrorAt m) ∧
  (mFailedAt m' = mFailedAt m) ∧
  (mText m' = mText m) ∧
  (mTyped m' = mTyped m) ∧
  (mLine m' = mLine m) ∧
  (mLined m' = mLined m) ∧
  (mIsSaved m' = mIsSaved m) ∧
  (mSaved m' = mSaved m)
theorem Kept.now {m m' : MV} (x : Kept m m') : mNow m' = mNow m := x.1
theorem Kept.hist {m m' : MV} (x : Kept m m') : mHistory m' = mHistory m := x.2.1
theorem Kept.rem {m m' : MV} (x : Kept m m') : mRemembered m' = mRemembered m := x.2.2.1
theorem Kept.err {m m' : MV} (x : Kept m m') : mErrorAt m' = mErrorAt m := x.2.2.2.1
theorem Kept.fail {m m' : MV} (x : Kept m m') : mFailedAt m' = mFailedAt m := x.2.2.2.2.1
theorem Kept.text {m m' : MV} (x : Kept m m') : mText m' = mText m := x.2.2.2.2.2.1
theorem Kept.typed {m m' : MV} (x : Kept m m') : mTyped m' = mTyped m := x.2.2.2.2.2.2.1
theorem Kept.line {m m' : MV} (x : Kept m m') : mLine m' = mLine m := x.2.2.2.2.2.2.2.1
theorem Kept.lined {m m' : MV} (x : Kept m m') : mLined m' = mLined m := x.2.2.2.2.2.2.2.2.1
theorem Kept.isSaved {m m' : MV} (x : Kept m m') : mIsSaved m' = mIsSaved m := x.2.2.2.2.2.2.2.2.2.1
theorem Kept.saved {m m' : MV} (x : Kept m m') : mSaved m' = mSaved m := x.2.2.2.2.2.2.2.2.2.2
theorem Kept.mk {m m' : MV} (f_now : mNow m' = mNow m) (f_hist : mHistory m' = mHistory m) (f_rem : mRemembered m' = mRemembered m) (f_err : mErrorAt m' = mErrorAt m) (f_fail : mFailedAt m' = mFailedAt m) (f_text : mText m' = mText m) (f_typed : mTyped m' = mTyped m) (f_line : mLine m' = mLine m) (f_lined : mLined m' = mLined m) (f_isSaved : mIsSaved m' = mIsSaved m) (f_saved : mSaved m' = mSaved m) : Kept m m' := ⟨f_now, f_hist, f_rem, f_err, f_fail, f_text, f_typed, f_line, f_lined, f_isSaved, f_saved⟩
theorem HRel.kept {t : Nat} {hv : HV} {m m' : MV} (h : HRel t hv m) (h1 : mHistory m' = mHistory m) (h2 : mRemembered m' = mRemembered m) : HRel t hv m' := by
  obtain ⟨n, c, e1, hn, e2, hc, hlen, hfree, e3, hrows⟩ := h
  refine ⟨n, c, e1, hn, e2, hc, hlen, hfree, h2.trans e3, fun j hj => ?_⟩
  have : hrow m' j = hrow m j := by unfold hrow; rw [h1]
  rw [this]
  exact hrows j hj
theorem VRel.kept {t : Nat} {sv : Option QV} {m m' : MV} (h : VRel t sv m) (h1 : mIsSaved m' = mIsSaved m) (h2 : mSaved m' = mSaved m) : VRel t sv m' := by
  cases sv with
  | none => exact h1.trans h
  | some q => exact ⟨h1.trans h.1, by rw [h2]; exact h.2.1, by rw [h2]; exact h.2.2⟩
theorem TRel.kept {pv : PV} {m m' : MV} (h : TRel pv m) (h1 : mText m' = mText m) (h2 : mTyped m' = mTyped m) : TRel pv m' := by
  unfold TRel
  rw [h1, h2]
  exact h
theorem ORel.kept {ov : OV} {m m' : MV} (h : ORel ov m) (h1 : mLine m' = mLine m) (h2 : mLined m' = mLined m) : ORel ov m' := by
  unfold ORel
  rw [h1, h2]
  exact h
theorem RelS.kept {T : Nat} {S : Sys} {m' : MV} {sv' : SV} (h : RelS T S) (k : Kept S.mv m') : RelS (T + 1) (mkS S.ep S.fc S.qv S.bv sv' S.hv S.pv S.ov S.svd m') :=
  ⟨by show RelQ S.qv (mNow m'); rw [k.now]; exact h.q, by show InvW _ (mNow m'); rw [k.now]; exact h.w.up (by omega), (h.h.up (by omega)).kept k.hist k.rem, k.err.trans h.e, k.fail.trans h.f, h.t.kept k.text k.typed, h.o.kept k.line k.lined, (h.v.up (by omega)).kept k.isSaved k.saved⟩
theorem Kept.thrown (x : Int32) (m : MV) : Kept m (mSThrown x m) := ⟨rfl, rfl, rfl, rfl, rfl, rfl, rfl, rfl, rfl, rfl, rfl⟩
theorem Kept.marks (x : Nat → Int32) (m : MV) : Kept m (mSMarks x m) := ⟨rfl, rfl, rfl, rfl, rfl, rfl, rfl, rfl, rfl, rfl, rfl⟩
theorem Kept.tr {a b c : MV} (h : Kept a b) (k : Kept b c) : Kept a c := ⟨k.now.trans h.now, k.hist.trans h.hist, k.rem.trans h.rem, k.err.trans h.err, k.fail.trans h.fail, k.text.trans h.text, k.typed.trans h.typed, k.line.trans h.line, k.lined.trans h.lined, k.isSaved.trans h.isSaved, k.saved.trans h.saved⟩
/-- the reference's row as it was before a call -/
def mBeg (m : MV) : MV := mSBefore (va_cpy (mNow m) (mBefore m) 0 0 229) m
theorem m_begins (m : MV) : f_X11_begins m = some (mBeg m) := by
  unfold f_X11_begins
  rw [m_copies0]
  rfl
/-- a call that changes, on both sides -/
theorem mut {T : Nat} {S : Sys} (h : RelS T S) (ex : List Nat) (F : Option Nat) (Ch : Option (Int32 × QV)) (B : MV → Option (Int32 × MV))
    (hcmd : ∀ m, RelQ S.qv (mNow m) → InvW (20 * T) (mNow m) → Cmd (20 * T) ex F Ch (B m) m) :
    (∃ r q' hv' m', F = some 0 ∧ f_X4_record S.hv S.qv = some hv' ∧ Ch = some (r, q') ∧ ((f_X11_begins S.mv).bind fun o1 => (B o1).bind fun o3 => f_X11_ends o3.2 o3.1) = some (r, m') ∧ mThrown m' = 0 ∧ RelS (T + 1) (mkS S.ep S.fc q' S.bv S.sv hv' S.pv S.ov S.svd m')) ∨
    (∃ k c m', F = some (k + 1) ∧ k < 5 ∧ ((f_X11_begins S.mv).bind fun o1 => (B o1).bind fun o3 => f_X11_ends o3.2 o3.1) = some (0, m') ∧ mThrown m' = nI (c + 1) ∧ c < 4 ∧ ex[c]? = some k ∧ RelS (T + 1) (mkS S.ep S.fc S.qv S.bv S.sv S.hv S.pv S.ov S.svd m')) := by
  have hq : RelQ S.qv (mNow (mBeg S.mv)) := h.q
  have hw : InvW (20 * T) (mNow (mBeg S.mv)) := h.w
  have hbq : EqW (mNow S.mv) (mBefore (mBeg S.mv)) := cpy_eqw _ _
  rcases hcmd (mBeg S.mv) hq hw with ⟨hF, r, q', w', hCh, hB, hq', hw'⟩ | ⟨k, r, c, hF, hk, hB, hc, hex⟩
  · left
    have hh : HRel (20 * T) S.hv (mSThrown 0 (mSNow w' (mBeg S.mv))) := h.h.kept rfl rfl
    have hbef : EqW (mNow S.mv) (mBefore (mSThrown 0 (mSNow w' (mBeg S.mv)))) := hbq
    obtain ⟨hv', H', c', h1, h2, h3⟩ := remember hh (h.q.eqw hbef) (h.w.eqw hbef)
    refine ⟨r, q', hv', mSRemembered c' (mSHistory H' (mSThrown 0 (mSNow w' (mBeg S.mv)))), hF, h1, hCh, ?_, ?_, ?_⟩
    · rw [m_begins]
      show ((B (mBeg S.mv)).bind fun o3 => f_X11_ends o3.2 o3.1) = _
      rw [hB]
      show f_X11_ends (mSThrown 0 (mSNow w' (mBeg S.mv))) r = _
      unfold f_X11_ends
      rw [if_pos (show mThrown (mSThrown 0 (mSNow w' (mBeg S.mv))) = 0 from rfl), h2]
      rfl
    · rfl
    · exact ⟨hq', hw'.up (by omega), h3.up (by omega), h.e, h.f, h.t.kept rfl rfl, h.o.kept rfl rfl, (h.v.up (by omega)).kept rfl rfl⟩
  · right
    have hne : ¬ mThrown (mSThrown (nI (c + 1)) (mBeg S.mv)) = 0 := by
      show ¬ nI (c + 1) = 0
      rw [show (0 : Int32) = nI 0 from rfl, nI_eq (by omega) (by omega)]
      omega
    have he : EqW (mNow S.mv) (va_cpy (mBefore (mSThrown (nI (c + 1)) (mBeg S.mv))) (mNow (mSThrown (nI (c + 1)) (mBeg S.mv))) 0 0 229) := fun k hk => (hbq k hk).trans (cpy_eqw _ _ k hk)
    refine ⟨k, c, mSNow (va_cpy (mBefore (mSThrown (nI (c + 1)) (mBeg S.mv))) (mNow (mSThrown (nI (c + 1)) (mBeg S.mv))) 0 0 229) (mSThrown (nI (c + 1)) (mBeg S.mv)), hF, hk, ?_, rfl, hc, hex, ?_⟩
    · rw [m_begins]
      show ((B (mBeg S.mv)).bind fun o3 => f_X11_ends o3.2 o3.1) = _
      rw [hB]
      show f_X11_ends (mSThrown (nI (c + 1)) (mBeg S.mv)) r = _
      unfold f_X11_ends
      rw [if_neg hne, m_copies0]
      rfl
    · exact ⟨h.q.eqw he, (h.w.eqw he).up (by omega), (h.h.up (by omega)).kept rfl rfl, h.e, h.f, h.t.kept rfl rfl, h.o.kept rfl rfl, (h.v.up (by omega)).kept rfl rfl⟩
