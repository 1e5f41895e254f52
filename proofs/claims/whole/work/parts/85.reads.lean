/-! ===== the reference's reader ===== -/
abbrev KeptR (m : MV) (m' : MV) : Prop :=
  (mNow m' = mNow m) ∧
  (mHistory m' = mHistory m) ∧
  (mRemembered m' = mRemembered m) ∧
  (mErrorAt m' = mErrorAt m) ∧
  (mFailedAt m' = mFailedAt m) ∧
  (mText m' = mText m) ∧
  (mTyped m' = mTyped m) ∧
  (mLine m' = mLine m) ∧
  (mLined m' = mLined m) ∧
  (mIsSaved m' = mIsSaved m) ∧
  (mSaved m' = mSaved m) ∧
  (mSize m' = mSize m)
theorem KeptR.now {m : MV} {m' : MV} (x : KeptR m m') : mNow m' = mNow m := x.1
theorem KeptR.hist {m : MV} {m' : MV} (x : KeptR m m') : mHistory m' = mHistory m := x.2.1
theorem KeptR.rem {m : MV} {m' : MV} (x : KeptR m m') : mRemembered m' = mRemembered m := x.2.2.1
theorem KeptR.err {m : MV} {m' : MV} (x : KeptR m m') : mErrorAt m' = mErrorAt m := x.2.2.2.1
theorem KeptR.fail {m : MV} {m' : MV} (x : KeptR m m') : mFailedAt m' = mFailedAt m := x.2.2.2.2.1
theorem KeptR.text {m : MV} {m' : MV} (x : KeptR m m') : mText m' = mText m := x.2.2.2.2.2.1
theorem KeptR.typed {m : MV} {m' : MV} (x : KeptR m m') : mTyped m' = mTyped m := x.2.2.2.2.2.2.1
theorem KeptR.line {m : MV} {m' : MV} (x : KeptR m m') : mLine m' = mLine m := x.2.2.2.2.2.2.2.1
theorem KeptR.lined {m : MV} {m' : MV} (x : KeptR m m') : mLined m' = mLined m := x.2.2.2.2.2.2.2.2.1
theorem KeptR.isSaved {m : MV} {m' : MV} (x : KeptR m m') : mIsSaved m' = mIsSaved m := x.2.2.2.2.2.2.2.2.2.1
theorem KeptR.saved {m : MV} {m' : MV} (x : KeptR m m') : mSaved m' = mSaved m := x.2.2.2.2.2.2.2.2.2.2.1
theorem KeptR.size {m : MV} {m' : MV} (x : KeptR m m') : mSize m' = mSize m := x.2.2.2.2.2.2.2.2.2.2.2
theorem KeptR.mk {m : MV} {m' : MV} (f_now : mNow m' = mNow m) (f_hist : mHistory m' = mHistory m) (f_rem : mRemembered m' = mRemembered m) (f_err : mErrorAt m' = mErrorAt m) (f_fail : mFailedAt m' = mFailedAt m) (f_text : mText m' = mText m) (f_typed : mTyped m' = mTyped m) (f_line : mLine m' = mLine m) (f_lined : mLined m' = mLined m) (f_isSaved : mIsSaved m' = mIsSaved m) (f_saved : mSaved m' = mSaved m) (f_size : mSize m' = mSize m) : KeptR m m' := ⟨f_now, f_hist, f_rem, f_err, f_fail, f_text, f_typed, f_line, f_lined, f_isSaved, f_saved, f_size⟩
theorem KeptR.rf (m : MV) : KeptR m m := KeptR.mk rfl rfl rfl rfl rfl rfl rfl rfl rfl rfl rfl rfl
theorem KeptR.tr {a b c : MV} (h : KeptR a b) (k : KeptR b c) : KeptR a c := KeptR.mk (k.now.trans h.now) (k.hist.trans h.hist) (k.rem.trans h.rem) (k.err.trans h.err) (k.fail.trans h.fail) (k.text.trans h.text) (k.typed.trans h.typed) (k.line.trans h.line) (k.lined.trans h.lined) (k.isSaved.trans h.isSaved) (k.saved.trans h.saved) (k.size.trans h.size)
theorem KeptR.spot (x : Int32) (m : MV) : KeptR m (mSSpot x m) := KeptR.mk rfl rfl rfl rfl rfl rfl rfl rfl rfl rfl rfl rfl
theorem KeptR.wrong (x : Int32) (m : MV) : KeptR m (mSWrong x m) := KeptR.mk rfl rfl rfl rfl rfl rfl rfl rfl rfl rfl rfl rfl
theorem KeptR.told (x : Int32) (m : MV) : KeptR m (mSTold x m) := KeptR.mk rfl rfl rfl rfl rfl rfl rfl rfl rfl rfl rfl rfl
theorem KeptR.nums (x : Nat → Int32) (m : MV) : KeptR m (mSNumbers x m) := KeptR.mk rfl rfl rfl rfl rfl rfl rfl rfl rfl rfl rfl rfl
/-- after i signs of a pattern of which e go on -/
def RdI (s e : Nat) (m : MV) (i : Nat) : Prop := (i ≤ e ∧ mSpot m = nI (s + i) ∧ mWrong m = -1) ∨ (e < i ∧ mWrong m = nI (s + e))
theorem rd_fin {s e L : Nat} {m : MV} (h : RdI s e m L) (he : e ≤ L) : (e < L ∧ mWrong m = nI (s + e)) ∨ (e = L ∧ mWrong m = -1 ∧ mSpot m = nI (s + L)) := by
  rcases h with ⟨h1, h2, h3⟩ | ⟨h1, h2⟩
  · exact Or.inr ⟨by omega, h3, h2⟩
  · exact Or.inl ⟨h1, h2⟩
def Rs (s e : Nat) (m0 : MV) (told : Int32) (N : Nat → Int32) (i : Nat) (m : MV) : Prop := KeptR m0 m ∧ mNumbers m = N ∧ mTold m = told ∧ RdI s e m i
theorem in_mt {X : Nat → Int32} {c j : Nat} {lo hi : Int32} (hc : (c = 35 ∧ lo = 48 ∧ hi = 57) ∨ (c = 32 ∧ lo = 32 ∧ hi = 32)) : (mt X c j → f_X11_isIn (X j) lo hi = some 1) ∧ (¬ mt X c j → f_X11_isIn (X j) lo hi = some 0) := by
  rcases hc with ⟨rfl, rfl, rfl⟩ | ⟨rfl, rfl, rfl⟩
  · constructor
    · intro hm
      rcases hm with ⟨_, h1, h2⟩ | ⟨h1, _⟩
      · unfold f_X11_isIn
        rw [if_neg h1, if_neg h2]
      · exact absurd rfl h1
    · intro hm
      unfold f_X11_isIn
      by_cases h1 : X j < 48
      · rw [if_pos h1]
      · by_cases h2 : 57 < X j
        · rw [if_neg h1, if_pos h2]
        · exact absurd (Or.inl ⟨rfl, h1, h2⟩) hm
  · have e32 : nI 32 = (32 : Int32) := rfl
    have n35 : (32 : Nat) ≠ 35 := by decide
    constructor
    · intro hm
      rcases hm with ⟨h1, _⟩ | ⟨_, h1⟩
      · exact absurd h1 n35
      · rw [h1]
        decide +kernel
    · intro hm
      unfold f_X11_isIn
      by_cases h1 : X j < 32
      · rw [if_pos h1]
      · by_cases h2 : 32 < X j
        · rw [if_neg h1, if_pos h2]
        · refine absurd (Or.inr ⟨n35, ?_⟩) hm
          rw [e32]
          rw [Int32.lt_iff_toInt_lt] at h1 h2
          apply Int32.toInt_inj.mp
          omega
theorem in_m1 {lo hi : Int32} {c : Nat} (hc : (c = 35 ∧ lo = 48 ∧ hi = 57) ∨ (c = 32 ∧ lo = 32 ∧ hi = 32)) : f_X11_isIn (-1) lo hi = some 0 := by
  rcases hc with ⟨rfl, rfl, rfl⟩ | ⟨rfl, rfl, rfl⟩ <;> decide +kernel
/-- one sign is read -/
theorem m_read {X : Nat → Int32} {n s e i c : Nat} {lo hi told : Int32} {m0 m : MV} {N : Nat → Int32} {A : List Nat} (hA : IsMl X n A s e) (hX : mText m0 = X) (hsz : mSize m0 = nI n) (hn : n ≤ 60) (hsn : s + e ≤ n) (hA12 : A.length ≤ 12) (hc : A[i]? = some c) (hlh : (c = 35 ∧ lo = 48 ∧ hi = 57) ∨ (c = 32 ∧ lo = 32 ∧ hi = 32)) (h : Rs s e m0 told N i m) :
    ∃ v m', f_X11_reads m lo hi = some (v, m') ∧ Rs s e m0 told N (i + 1) m' ∧ (i < e → v = X (s + i) - lo) := by
  obtain ⟨kp, hN, ht, hrd⟩ := h
  have hi12 : i < A.length := (List.getElem?_eq_some_iff.mp hc).1
  have hX' : mText m = X := kp.text.trans hX
  have hsz' : mSize m = nI n := kp.size.trans hsz
  have hbad : ∀ y : Int32, f_X11_reads_J64 m y = some (0, mSWrong y m) := fun y => by
    unfold f_X11_reads_J64
    rw [jb_u]
  have hres : ∀ y : Int32, y = nI (s + e) → e < i + 1 → Rs s e m0 told N (i + 1) (mSWrong y m) := fun y hy hlt =>
    ⟨kp.tr (KeptR.wrong y m), (mg18_16 m y).trans hN, (mg17_16 m y).trans ht, Or.inr ⟨hlt, (mg16_16 m y).trans hy⟩⟩
  rcases hrd with ⟨hie, hsp, hw⟩ | ⟨hei, hw⟩
  · obtain ⟨in1, in0⟩ := in_mt (X := X) (j := s + i) hlh
    by_cases hlt : i < e
    · obtain ⟨c', hc', hlen, hm⟩ := hA.1 i hlt
      rw [hc] at hc'
      cases hc'
      have hle : ¬ nI n ≤ nI (s + i) := nI_ge hlen (by omega)
      have hj : jIn (nI (s + i)) 60 := nIin (by omega) (by decide)
      have hcl : (nI (s + i)).toNatClampNeg = s + i := nI_clamp (by omega)
      have hlet : f_X11_letterHere m = some (X (s + i)) := by
        unfold f_X11_letterHere
        simp only [hsz', hsp, if_neg hle, if_pos hj, hcl, hX']
      have hsp2 : mSpot (mSSpot (nI (s + (i + 1))) m) = nI (s + (i + 1)) := mg15_15 m _
      have htx : mText (mSSpot (nI (s + (i + 1))) m) = X := (mg9_15 m _).trans hX'
      refine ⟨X (s + i) - lo, mSSpot (nI (s + (i + 1))) m, ?_, ⟨kp.tr (KeptR.spot _ m), (mg18_15 m _).trans hN, (mg17_15 m _).trans ht, Or.inl ⟨by omega, hsp2, (mg16_15 m _).trans hw⟩⟩, fun _ => rfl⟩
      have e1 : nI (s + i) + 1 = nI (s + (i + 1)) := nI_1 (s + i)
      have e2 : nI (s + (i + 1)) - 1 = nI (s + i) := nI_pred (s + i)
      unfold f_X11_reads
      simp only [hw, ↓reduceIte, hlet, ob_s, in1 hm, i10, hsp, e1, jb_u, hsp2, e2, if_pos hj, htx, hcl]
    · have e1 : i = e := by omega
      have hin : ∃ o, f_X11_letterHere m = some o ∧ f_X11_isIn o lo hi = some 0 := by
        by_cases hlen : s + i < n
        · have hle : ¬ nI n ≤ nI (s + i) := nI_ge hlen (by omega)
          have hj : jIn (nI (s + i)) 60 := nIin (by omega) (by decide)
          have hcl : (nI (s + i)).toNatClampNeg = s + i := nI_clamp (by omega)
          refine ⟨X (s + i), ?_, in0 (fun hm => hA.2 ?_)⟩
          · unfold f_X11_letterHere
            simp only [hsz', hsp, if_neg hle, if_pos hj, hcl, hX']
          · rw [← e1]; exact ⟨c, hc, hlen, hm⟩
        · have hle : nI n ≤ nI (s + i) := nI_le (by omega) (by omega)
          refine ⟨-1, ?_, in_m1 hlh⟩
          unfold f_X11_letterHere
          simp only [hsz', hsp, if_pos hle]
      obtain ⟨o, o1, o2⟩ := hin
      refine ⟨0, mSWrong (nI (s + i)) m, ?_, hres _ (by rw [e1]) (by omega), fun q => absurd q hlt⟩
      unfold f_X11_reads f_X11_reads_J44
      simp only [hw, ↓reduceIte, o1, ob_s, o2, hbad, hsp]
  · have hne : ¬ mWrong m = -1 := by rw [hw]; exact nI_nm1 _ (by omega)
    refine ⟨0, mSWrong (mWrong m) m, ?_, hres _ hw (by omega), fun q => by omega⟩
    unfold f_X11_reads f_X11_reads_J44
    simp only [if_neg hne, hbad]
theorem m_digit {X : Nat → Int32} {n s e i : Nat} {told : Int32} {m0 m : MV} {N : Nat → Int32} {A : List Nat} (hA : IsMl X n A s e) (hX : mText m0 = X) (hsz : mSize m0 = nI n) (hn : n ≤ 60) (hsn : s + e ≤ n) (hA12 : A.length ≤ 12) (hc : A[i]? = some 35) (h : Rs s e m0 told N i m) :
    ∃ v m', f_X11_digit m = some (v, m') ∧ Rs s e m0 told N (i + 1) m' ∧ (i < e → v = X (s + i) - 48) := by
  obtain ⟨v, m', h1, h2, h3⟩ := m_read hA hX hsz hn hsn hA12 hc (Or.inl ⟨rfl, rfl, rfl⟩) h
  refine ⟨v, m', ?_, h2, h3⟩
  unfold f_X11_digit
  simp only [h1, ob_s]
theorem m_blank {X : Nat → Int32} {n s e i : Nat} {told : Int32} {m0 m : MV} {N : Nat → Int32} {A : List Nat} (hA : IsMl X n A s e) (hX : mText m0 = X) (hsz : mSize m0 = nI n) (hn : n ≤ 60) (hsn : s + e ≤ n) (hA12 : A.length ≤ 12) (hc : A[i]? = some 32) (h : Rs s e m0 told N i m) :
    ∃ v m', f_X11_reads m 32 32 = some (v, m') ∧ Rs s e m0 told N (i + 1) m' := by
  obtain ⟨v, m', h1, h2, h3⟩ := m_read hA hX hsz hn hsn hA12 hc (Or.inr ⟨rfl, rfl, rfl⟩) h
  exact ⟨v, m', h1, h2⟩
theorem m_dbb {X : Nat → Int32} {n s e i : Nat} {told : Int32} {m0 m : MV} {N : Nat → Int32} {A : List Nat} (hA : IsMl X n A s e) (hX : mText m0 = X) (hsz : mSize m0 = nI n) (hn : n ≤ 60) (hsn : s + e ≤ n) (hA12 : A.length ≤ 12) (hc : A[i]? = some 32) (hc2 : A[i + 1]? = some 35) (h : Rs s e m0 told N i m) :
    ∃ v m', f_X11_digitBehindBlank m = some (v, m') ∧ Rs s e m0 told N (i + 2) m' ∧ (i + 1 < e → v = X (s + (i + 1)) - 48) := by
  obtain ⟨v, m1, h1, h2⟩ := m_blank hA hX hsz hn hsn hA12 hc h
  obtain ⟨v2, m2, h3, h4, h5⟩ := m_digit hA hX hsz hn hsn hA12 hc2 h2
  refine ⟨v2, m2, ?_, h4, h5⟩
  unfold f_X11_digitBehindBlank
  simp only [h1, h3, ob_s, jb_u]
theorem Rs.set {s e i : Nat} {told : Int32} {m0 m : MV} {N : Nat → Int32} (h : Rs s e m0 told N i m) (j : Nat) (v : Int32) : Rs s e m0 told (upd N j v) i (mSNumbers (upd (mNumbers m) j v) m) := by
  obtain ⟨kp, hN, ht, hrd⟩ := h
  refine ⟨kp.tr (KeptR.nums _ m), (mg18_18 m _).trans (by rw [hN]), (mg17_18 m _).trans ht, ?_⟩
  rcases hrd with ⟨a, b, c⟩ | ⟨a, b⟩
  · exact Or.inl ⟨a, (mg15_18 m _).trans b, (mg16_18 m _).trans c⟩
  · exact Or.inr ⟨a, (mg16_18 m _).trans b⟩
theorem m_cellN {X : Nat → Int32} {n s e i b : Nat} {told : Int32} {m0 m : MV} {N : Nat → Int32} {A : List Nat} (hA : IsMl X n A s e) (hX : mText m0 = X) (hsz : mSize m0 = nI n) (hn : n ≤ 60) (hsn : s + e ≤ n) (hA12 : A.length ≤ 12) (hc : A[i]? = some 35) (hc2 : A[i + 1]? = some 35) (hb : b < 140) (h : Rs s e m0 told N i m) :
    ∃ v1 v2 m', f_X11_cell m (nI b) = some m' ∧ Rs s e m0 told (upd (upd N (b + 1) v1) (b + 2) v2) (i + 2) m' ∧ (i + 1 < e → v1 = X (s + i) - 48 ∧ v2 = X (s + (i + 1)) - 48) := by
  obtain ⟨v1, m1, a1, a2, a3⟩ := m_digit hA hX hsz hn hsn hA12 hc h
  obtain ⟨v2, m2, b1, b2, b3⟩ := m_digit hA hX hsz hn hsn hA12 hc2 (a2.set (b + 1) v1)
  have p1 : nI b + 1 = nI (b + 1) := nI_1 b
  have p2 : nI b + 2 = nI (b + 2) := nI_add b 2
  have j1 : jIn (nI (b + 1)) 150 := nIin (by omega) (by decide)
  have j2 : jIn (nI (b + 2)) 150 := nIin (by omega) (by decide)
  have c1 : (nI (b + 1)).toNatClampNeg = b + 1 := nI_clamp (by omega)
  have c2 : (nI (b + 2)).toNatClampNeg = b + 2 := nI_clamp (by omega)
  refine ⟨v1, v2, mSNumbers (upd (mNumbers m2) (b + 2) v2) m2, ?_, b2.set (b + 2) v2, fun q => ⟨a3 (by omega), b3 q⟩⟩
  unfold f_X11_cell
  simp only [a1, ob_s, p1, if_pos j1, c1, jb_u, b1, p2, if_pos j2, c2]
/-- the command behind its word -/
def rcB (m : MV) (b w : Nat) : Option MV := if nI w = 4 then f_X11_readsCommand_J55 m (nI b) (nI w) else if nI w = 7 then f_X11_readsCommand_J55 m (nI b) (nI w) else if nI w = 6 then f_X11_readsCommand_J55 m (nI b) (nI w) else f_X11_readsCommand_J67 m (nI b) (nI w)
def argL (w : Nat) : List Nat := (fmL w).drop (wlL w)

theorem vb_0 {X : Nat → Int32} {n s e b : Nat} {told : Int32} {m0 m : MV} {N : Nat → Int32} (hA : IsMl X n (argL 0) s e) (hX : mText m0 = X) (hsz : mSize m0 = nI n) (hn : n ≤ 60) (hsn : s + e ≤ n) (hb : b < 140) (h : Rs s e m0 told N 0 m) :
    ∃ m', rcB m b 0 = some m' ∧ KeptR m0 m' ∧ mTold m' = told ∧ (∀ j, j ≤ b → mNumbers m' j = N j) ∧ ((e < 3 ∧ mWrong m' = nI (s + e)) ∨ (e = 3 ∧ mWrong m' = -1 ∧ mSpot m' = nI (s + 3) ∧ mNumbers m' (b + 1) = X (s + 0) - 48 ∧ mNumbers m' (b + 2) = X (s + 1) - 48 ∧ mNumbers m' (b + 3) = X (s + 2) - 48)) := by
  have hle := hA.le
  have hL : (argL 0).length = 3 := rfl
  have h12 : (argL 0).length ≤ 12 := by rw [hL]; decide
  have p3 : nI b + 3 = nI (b + 3) := nI_add b 3
  have p4 : nI b + 4 = nI (b + 4) := nI_add b 4
  have j3 : jIn (nI (b + 3)) 150 := nIin (by omega) (by decide)
  have j4 : jIn (nI (b + 4)) 150 := nIin (by omega) (by decide)
  have l3 : (nI (b + 3)).toNatClampNeg = b + 3 := nI_clamp (by omega)
  have l4 : (nI (b + 4)).toNatClampNeg = b + 4 := nI_clamp (by omega)
  have c0 : nI 0 = (0 : Int32) := rfl
  have c4 : ¬ nI 0 = (4 : Int32) := by decide +kernel
  have c5 : ¬ nI 0 = (5 : Int32) := by decide +kernel
  have c6 : ¬ nI 0 = (6 : Int32) := by decide +kernel
  have c7 : ¬ nI 0 = (7 : Int32) := by decide +kernel
  obtain ⟨v1, v2, m1, a1, a2, a3⟩ := m_cellN hA hX hsz hn hsn h12 (i := 0) rfl rfl hb h
  obtain ⟨v3, m2, b1, b2, b3⟩ := m_digit hA hX hsz hn hsn h12 (i := 2) rfl a2
  refine ⟨mSNumbers (upd (mNumbers m2) (b + 3) v3) m2, ?_, ?_⟩
  · unfold rcB f_X11_readsCommand_J67 f_X11_readsCommand_J88 f_X11_readsCommand_J119 f_X11_readsCommand_J135
    simp only [if_pos c0, if_neg c4, if_neg c5, if_neg c6, if_neg c7, a1, ob_s, b1, p3, if_pos j3, l3, jb_u]
  · obtain ⟨kp, hN, ht, hrd⟩ := b2.set (b + 3) v3
    refine ⟨kp, ht, fun j hj => by rw [hN]; simp (disch := omega) only [upd_ne], ?_⟩
    rcases rd_fin hrd (by omega) with h1 | ⟨h1, h2, h3⟩
    · exact Or.inl h1
    · exact Or.inr ⟨h1, h2, h3, by rw [hN]; simp (disch := omega) only [upd_ne, upd_at]; exact (a3 (by omega)).1, by rw [hN]; simp (disch := omega) only [upd_ne, upd_at]; exact (a3 (by omega)).2, by rw [hN]; simp (disch := omega) only [upd_ne, upd_at]; exact b3 (by omega)⟩
theorem vb_1 {X : Nat → Int32} {n s e b : Nat} {told : Int32} {m0 m : MV} {N : Nat → Int32} (hA : IsMl X n (argL 1) s e) (hX : mText m0 = X) (hsz : mSize m0 = nI n) (hn : n ≤ 60) (hsn : s + e ≤ n) (hb : b < 140) (h : Rs s e m0 told N 0 m) :
    ∃ m', rcB m b 1 = some m' ∧ KeptR m0 m' ∧ mTold m' = told ∧ (∀ j, j ≤ b → mNumbers m' j = N j) ∧ ((e < 2 ∧ mWrong m' = nI (s + e)) ∨ (e = 2 ∧ mWrong m' = -1 ∧ mSpot m' = nI (s + 2) ∧ mNumbers m' (b + 1) = X (s + 0) - 48 ∧ mNumbers m' (b + 2) = X (s + 1) - 48)) := by
  have hle := hA.le
  have hL : (argL 1).length = 2 := rfl
  have h12 : (argL 1).length ≤ 12 := by rw [hL]; decide
  have p3 : nI b + 3 = nI (b + 3) := nI_add b 3
  have p4 : nI b + 4 = nI (b + 4) := nI_add b 4
  have j3 : jIn (nI (b + 3)) 150 := nIin (by omega) (by decide)
  have j4 : jIn (nI (b + 4)) 150 := nIin (by omega) (by decide)
  have l3 : (nI (b + 3)).toNatClampNeg = b + 3 := nI_clamp (by omega)
  have l4 : (nI (b + 4)).toNatClampNeg = b + 4 := nI_clamp (by omega)
  have c0 : ¬ nI 1 = (0 : Int32) := by decide +kernel
  have c4 : ¬ nI 1 = (4 : Int32) := by decide +kernel
  have c5 : ¬ nI 1 = (5 : Int32) := by decide +kernel
  have c6 : ¬ nI 1 = (6 : Int32) := by decide +kernel
  have c7 : ¬ nI 1 = (7 : Int32) := by decide +kernel
  obtain ⟨v1, v2, m1, a1, a2, a3⟩ := m_cellN hA hX hsz hn hsn h12 (i := 0) rfl rfl hb h
  refine ⟨m1, ?_, ?_⟩
  · unfold rcB f_X11_readsCommand_J67 f_X11_readsCommand_J88 f_X11_readsCommand_J119 f_X11_readsCommand_J135
    simp only [if_neg c0, if_neg c4, if_neg c5, if_neg c6, if_neg c7, a1, ob_s]
  · obtain ⟨kp, hN, ht, hrd⟩ := a2
    refine ⟨kp, ht, fun j hj => by rw [hN]; simp (disch := omega) only [upd_ne], ?_⟩
    rcases rd_fin hrd (by omega) with h1 | ⟨h1, h2, h3⟩
    · exact Or.inl h1
    · exact Or.inr ⟨h1, h2, h3, by rw [hN]; simp (disch := omega) only [upd_ne, upd_at]; exact (a3 (by omega)).1, by rw [hN]; simp (disch := omega) only [upd_ne, upd_at]; exact (a3 (by omega)).2⟩
theorem vb_2 {X : Nat → Int32} {n s e b : Nat} {told : Int32} {m0 m : MV} {N : Nat → Int32} (hA : IsMl X n (argL 2) s e) (hX : mText m0 = X) (hsz : mSize m0 = nI n) (hn : n ≤ 60) (hsn : s + e ≤ n) (hb : b < 140) (h : Rs s e m0 told N 0 m) :
    ∃ m', rcB m b 2 = some m' ∧ KeptR m0 m' ∧ mTold m' = told ∧ (∀ j, j ≤ b → mNumbers m' j = N j) ∧ ((e < 2 ∧ mWrong m' = nI (s + e)) ∨ (e = 2 ∧ mWrong m' = -1 ∧ mSpot m' = nI (s + 2) ∧ mNumbers m' (b + 1) = X (s + 0) - 48 ∧ mNumbers m' (b + 2) = X (s + 1) - 48)) := by
  have hle := hA.le
  have hL : (argL 2).length = 2 := rfl
  have h12 : (argL 2).length ≤ 12 := by rw [hL]; decide
  have p3 : nI b + 3 = nI (b + 3) := nI_add b 3
  have p4 : nI b + 4 = nI (b + 4) := nI_add b 4
  have j3 : jIn (nI (b + 3)) 150 := nIin (by omega) (by decide)
  have j4 : jIn (nI (b + 4)) 150 := nIin (by omega) (by decide)
  have l3 : (nI (b + 3)).toNatClampNeg = b + 3 := nI_clamp (by omega)
  have l4 : (nI (b + 4)).toNatClampNeg = b + 4 := nI_clamp (by omega)
  have c0 : ¬ nI 2 = (0 : Int32) := by decide +kernel
  have c4 : ¬ nI 2 = (4 : Int32) := by decide +kernel
  have c5 : ¬ nI 2 = (5 : Int32) := by decide +kernel
  have c6 : ¬ nI 2 = (6 : Int32) := by decide +kernel
  have c7 : ¬ nI 2 = (7 : Int32) := by decide +kernel
  obtain ⟨v1, v2, m1, a1, a2, a3⟩ := m_cellN hA hX hsz hn hsn h12 (i := 0) rfl rfl hb h
  refine ⟨m1, ?_, ?_⟩
  · unfold rcB f_X11_readsCommand_J67 f_X11_readsCommand_J88 f_X11_readsCommand_J119 f_X11_readsCommand_J135
    simp only [if_neg c0, if_neg c4, if_neg c5, if_neg c6, if_neg c7, a1, ob_s]
  · obtain ⟨kp, hN, ht, hrd⟩ := a2
    refine ⟨kp, ht, fun j hj => by rw [hN]; simp (disch := omega) only [upd_ne], ?_⟩
    rcases rd_fin hrd (by omega) with h1 | ⟨h1, h2, h3⟩
    · exact Or.inl h1
    · exact Or.inr ⟨h1, h2, h3, by rw [hN]; simp (disch := omega) only [upd_ne, upd_at]; exact (a3 (by omega)).1, by rw [hN]; simp (disch := omega) only [upd_ne, upd_at]; exact (a3 (by omega)).2⟩
theorem vb_3 {X : Nat → Int32} {n s e b : Nat} {told : Int32} {m0 m : MV} {N : Nat → Int32} (hA : IsMl X n (argL 3) s e) (hX : mText m0 = X) (hsz : mSize m0 = nI n) (hn : n ≤ 60) (hsn : s + e ≤ n) (hb : b < 140) (h : Rs s e m0 told N 0 m) :
    ∃ m', rcB m b 3 = some m' ∧ KeptR m0 m' ∧ mTold m' = told ∧ (∀ j, j ≤ b → mNumbers m' j = N j) ∧ ((e < 2 ∧ mWrong m' = nI (s + e)) ∨ (e = 2 ∧ mWrong m' = -1 ∧ mSpot m' = nI (s + 2) ∧ mNumbers m' (b + 1) = X (s + 0) - 48 ∧ mNumbers m' (b + 2) = X (s + 1) - 48)) := by
  have hle := hA.le
  have hL : (argL 3).length = 2 := rfl
  have h12 : (argL 3).length ≤ 12 := by rw [hL]; decide
  have p3 : nI b + 3 = nI (b + 3) := nI_add b 3
  have p4 : nI b + 4 = nI (b + 4) := nI_add b 4
  have j3 : jIn (nI (b + 3)) 150 := nIin (by omega) (by decide)
  have j4 : jIn (nI (b + 4)) 150 := nIin (by omega) (by decide)
  have l3 : (nI (b + 3)).toNatClampNeg = b + 3 := nI_clamp (by omega)
  have l4 : (nI (b + 4)).toNatClampNeg = b + 4 := nI_clamp (by omega)
  have c0 : ¬ nI 3 = (0 : Int32) := by decide +kernel
  have c4 : ¬ nI 3 = (4 : Int32) := by decide +kernel
  have c5 : ¬ nI 3 = (5 : Int32) := by decide +kernel
  have c6 : ¬ nI 3 = (6 : Int32) := by decide +kernel
  have c7 : ¬ nI 3 = (7 : Int32) := by decide +kernel
  obtain ⟨v1, v2, m1, a1, a2, a3⟩ := m_cellN hA hX hsz hn hsn h12 (i := 0) rfl rfl hb h
  refine ⟨m1, ?_, ?_⟩
  · unfold rcB f_X11_readsCommand_J67 f_X11_readsCommand_J88 f_X11_readsCommand_J119 f_X11_readsCommand_J135
    simp only [if_neg c0, if_neg c4, if_neg c5, if_neg c6, if_neg c7, a1, ob_s]
  · obtain ⟨kp, hN, ht, hrd⟩ := a2
    refine ⟨kp, ht, fun j hj => by rw [hN]; simp (disch := omega) only [upd_ne], ?_⟩
    rcases rd_fin hrd (by omega) with h1 | ⟨h1, h2, h3⟩
    · exact Or.inl h1
    · exact Or.inr ⟨h1, h2, h3, by rw [hN]; simp (disch := omega) only [upd_ne, upd_at]; exact (a3 (by omega)).1, by rw [hN]; simp (disch := omega) only [upd_ne, upd_at]; exact (a3 (by omega)).2⟩
theorem vb_4 {X : Nat → Int32} {n s e b : Nat} {told : Int32} {m0 m : MV} {N : Nat → Int32} (hA : IsMl X n (argL 4) s e) (hX : mText m0 = X) (hsz : mSize m0 = nI n) (hn : n ≤ 60) (hsn : s + e ≤ n) (hb : b < 140) (h : Rs s e m0 told N 0 m) :
    ∃ m', rcB m b 4 = some m' ∧ KeptR m0 m' ∧ mTold m' = told ∧ (∀ j, j ≤ b → mNumbers m' j = N j) ∧ ((e < 1 ∧ mWrong m' = nI (s + e)) ∨ (e = 1 ∧ mWrong m' = -1 ∧ mSpot m' = nI (s + 1) ∧ mNumbers m' (b + 3) = X (s + 0) - 48)) := by
  have hle := hA.le
  have hL : (argL 4).length = 1 := rfl
  have h12 : (argL 4).length ≤ 12 := by rw [hL]; decide
  have p3 : nI b + 3 = nI (b + 3) := nI_add b 3
  have p4 : nI b + 4 = nI (b + 4) := nI_add b 4
  have j3 : jIn (nI (b + 3)) 150 := nIin (by omega) (by decide)
  have j4 : jIn (nI (b + 4)) 150 := nIin (by omega) (by decide)
  have l3 : (nI (b + 3)).toNatClampNeg = b + 3 := nI_clamp (by omega)
  have l4 : (nI (b + 4)).toNatClampNeg = b + 4 := nI_clamp (by omega)
  have c0 : ¬ nI 4 = (0 : Int32) := by decide +kernel
  have c4 : nI 4 = (4 : Int32) := rfl
  have c5 : ¬ nI 4 = (5 : Int32) := by decide +kernel
  have c6 : ¬ nI 4 = (6 : Int32) := by decide +kernel
  have c7 : ¬ nI 4 = (7 : Int32) := by decide +kernel
  obtain ⟨v3, m2, b1, b2, b3⟩ := m_digit hA hX hsz hn hsn h12 (i := 0) rfl h
  refine ⟨mSNumbers (upd (mNumbers m2) (b + 3) v3) m2, ?_, ?_⟩
  · unfold rcB f_X11_readsCommand_J67 f_X11_readsCommand_J88 f_X11_readsCommand_J119 f_X11_readsCommand_J135 f_X11_readsCommand_J55 f_X11_readsCommand_J67 f_X11_readsCommand_J88 f_X11_readsCommand_J119 f_X11_readsCommand_J135
    simp only [if_neg c0, if_pos c4, if_neg c5, if_neg c6, if_neg c7, b1, ob_s, p3, if_pos j3, l3, jb_u]
  · obtain ⟨kp, hN, ht, hrd⟩ := b2.set (b + 3) v3
    refine ⟨kp, ht, fun j hj => by rw [hN]; simp (disch := omega) only [upd_ne], ?_⟩
    rcases rd_fin hrd (by omega) with h1 | ⟨h1, h2, h3⟩
    · exact Or.inl h1
    · exact Or.inr ⟨h1, h2, h3, by rw [hN]; simp (disch := omega) only [upd_ne, upd_at]; exact b3 (by omega)⟩
theorem vb_5 {X : Nat → Int32} {n s e b : Nat} {told : Int32} {m0 m : MV} {N : Nat → Int32} (hA : IsMl X n (argL 5) s e) (hX : mText m0 = X) (hsz : mSize m0 = nI n) (hn : n ≤ 60) (hsn : s + e ≤ n) (hb : b < 140) (h : Rs s e m0 told N 0 m) :
    ∃ m', rcB m b 5 = some m' ∧ KeptR m0 m' ∧ mTold m' = told ∧ (∀ j, j ≤ b → mNumbers m' j = N j) ∧ ((e < 6 ∧ mWrong m' = nI (s + e)) ∨ (e = 6 ∧ mWrong m' = -1 ∧ mSpot m' = nI (s + 6) ∧ mNumbers m' (b + 1) = X (s + 0) - 48 ∧ mNumbers m' (b + 2) = X (s + 1) - 48 ∧ mNumbers m' (b + 3) = X (s + 3) - 48 ∧ mNumbers m' (b + 4) = X (s + 5) - 48)) := by
  have hle := hA.le
  have hL : (argL 5).length = 6 := rfl
  have h12 : (argL 5).length ≤ 12 := by rw [hL]; decide
  have p3 : nI b + 3 = nI (b + 3) := nI_add b 3
  have p4 : nI b + 4 = nI (b + 4) := nI_add b 4
  have j3 : jIn (nI (b + 3)) 150 := nIin (by omega) (by decide)
  have j4 : jIn (nI (b + 4)) 150 := nIin (by omega) (by decide)
  have l3 : (nI (b + 3)).toNatClampNeg = b + 3 := nI_clamp (by omega)
  have l4 : (nI (b + 4)).toNatClampNeg = b + 4 := nI_clamp (by omega)
  have c0 : ¬ nI 5 = (0 : Int32) := by decide +kernel
  have c4 : ¬ nI 5 = (4 : Int32) := by decide +kernel
  have c5 : nI 5 = (5 : Int32) := rfl
  have c6 : ¬ nI 5 = (6 : Int32) := by decide +kernel
  have c7 : ¬ nI 5 = (7 : Int32) := by decide +kernel
  obtain ⟨v1, v2, m1, a1, a2, a3⟩ := m_cellN hA hX hsz hn hsn h12 (i := 0) rfl rfl hb h
  obtain ⟨v3, m2, b1, b2, b3⟩ := m_dbb hA hX hsz hn hsn h12 (i := 2) rfl rfl a2
  obtain ⟨v4, m3, d1, d2, d3⟩ := m_dbb hA hX hsz hn hsn h12 (i := 4) rfl rfl (b2.set (b + 3) v3)
  refine ⟨mSNumbers (upd (mNumbers m3) (b + 4) v4) m3, ?_, ?_⟩
  · unfold rcB f_X11_readsCommand_J67 f_X11_readsCommand_J88 f_X11_readsCommand_J119 f_X11_readsCommand_J135
    simp only [if_neg c0, if_neg c4, if_pos c5, if_neg c6, if_neg c7, a1, ob_s, b1, p3, if_pos j3, l3, jb_u, d1, p4, if_pos j4, l4]
  · obtain ⟨kp, hN, ht, hrd⟩ := d2.set (b + 4) v4
    refine ⟨kp, ht, fun j hj => by rw [hN]; simp (disch := omega) only [upd_ne], ?_⟩
    rcases rd_fin hrd (by omega) with h1 | ⟨h1, h2, h3⟩
    · exact Or.inl h1
    · exact Or.inr ⟨h1, h2, h3, by rw [hN]; simp (disch := omega) only [upd_ne, upd_at]; exact (a3 (by omega)).1, by rw [hN]; simp (disch := omega) only [upd_ne, upd_at]; exact (a3 (by omega)).2, by rw [hN]; simp (disch := omega) only [upd_ne, upd_at]; exact b3 (by omega), by rw [hN]; simp (disch := omega) only [upd_ne, upd_at]; exact d3 (by omega)⟩
theorem vb_6 {X : Nat → Int32} {n s e b : Nat} {told : Int32} {m0 m : MV} {N : Nat → Int32} (hA : IsMl X n (argL 6) s e) (hX : mText m0 = X) (hsz : mSize m0 = nI n) (hn : n ≤ 60) (hsn : s + e ≤ n) (hb : b < 140) (h : Rs s e m0 told N 0 m) :
    ∃ m', rcB m b 6 = some m' ∧ KeptR m0 m' ∧ mTold m' = told ∧ (∀ j, j ≤ b → mNumbers m' j = N j) ∧ ((e < 4 ∧ mWrong m' = nI (s + e)) ∨ (e = 4 ∧ mWrong m' = -1 ∧ mSpot m' = nI (s + 4) ∧ mNumbers m' (b + 3) = X (s + 0) - 48 ∧ mNumbers m' (b + 1) = X (s + 2) - 48 ∧ mNumbers m' (b + 2) = X (s + 3) - 48)) := by
  have hle := hA.le
  have hL : (argL 6).length = 4 := rfl
  have h12 : (argL 6).length ≤ 12 := by rw [hL]; decide
  have p3 : nI b + 3 = nI (b + 3) := nI_add b 3
  have p4 : nI b + 4 = nI (b + 4) := nI_add b 4
  have j3 : jIn (nI (b + 3)) 150 := nIin (by omega) (by decide)
  have j4 : jIn (nI (b + 4)) 150 := nIin (by omega) (by decide)
  have l3 : (nI (b + 3)).toNatClampNeg = b + 3 := nI_clamp (by omega)
  have l4 : (nI (b + 4)).toNatClampNeg = b + 4 := nI_clamp (by omega)
  have c0 : ¬ nI 6 = (0 : Int32) := by decide +kernel
  have c4 : ¬ nI 6 = (4 : Int32) := by decide +kernel
  have c5 : ¬ nI 6 = (5 : Int32) := by decide +kernel
  have c6 : nI 6 = (6 : Int32) := rfl
  have c7 : ¬ nI 6 = (7 : Int32) := by decide +kernel
  obtain ⟨v3, m1, b1, b2, b3⟩ := m_digit hA hX hsz hn hsn h12 (i := 0) rfl h
  obtain ⟨v0, m2, d1, d2⟩ := m_blank hA hX hsz hn hsn h12 (i := 1) rfl (b2.set (b + 3) v3)
  obtain ⟨v1, v2, m3, a1, a2, a3⟩ := m_cellN hA hX hsz hn hsn h12 (i := 2) rfl rfl hb d2
  refine ⟨m3, ?_, ?_⟩
  · unfold rcB f_X11_readsCommand_J67 f_X11_readsCommand_J88 f_X11_readsCommand_J119 f_X11_readsCommand_J135 f_X11_readsCommand_J55 f_X11_readsCommand_J67 f_X11_readsCommand_J79 f_X11_readsCommand_J88 f_X11_readsCommand_J119 f_X11_readsCommand_J135
    simp only [if_neg c0, if_neg c4, if_neg c5, if_pos c6, if_neg c7, b1, ob_s, p3, if_pos j3, l3, jb_u, d1, a1]
  · obtain ⟨kp, hN, ht, hrd⟩ := a2
    refine ⟨kp, ht, fun j hj => by rw [hN]; simp (disch := omega) only [upd_ne], ?_⟩
    rcases rd_fin hrd (by omega) with h1 | ⟨h1, h2, h3⟩
    · exact Or.inl h1
    · exact Or.inr ⟨h1, h2, h3, by rw [hN]; simp (disch := omega) only [upd_ne, upd_at]; exact b3 (by omega), by rw [hN]; simp (disch := omega) only [upd_ne, upd_at]; exact (a3 (by omega)).1, by rw [hN]; simp (disch := omega) only [upd_ne, upd_at]; exact (a3 (by omega)).2⟩
/-- whether one more digit stands at j -/
def dgt (X : Nat → Int32) (n j : Nat) : Prop := j < n ∧ mt X 35 j
theorem m_numberN {X : Nat → Int32} {n s e i : Nat} {told : Int32} {m0 m : MV} {N : Nat → Int32} {A : List Nat} (hA : IsMl X n A s e) (hX : mText m0 = X) (hsz : mSize m0 = nI n) (hn : n ≤ 60) (hsn : s + e ≤ n) (hA12 : A.length ≤ 12) (hc : A[i]? = some 35) (hlast : A.length = i + 1) (h : Rs s e m0 told N i m) :
    ∃ v m', f_X11_number m = some (v, m') ∧ KeptR m0 m' ∧ mNumbers m' = N ∧ mTold m' = told ∧ ((e < i + 1 ∧ mWrong m' = nI (s + e)) ∨ (e = i + 1 ∧ mWrong m' = -1 ∧ ((dgt X n (s + (i + 1)) ∧ mSpot m' = nI (s + (i + 2)) ∧ v = 10 * (X (s + i) - 48) + (X (s + (i + 1)) - 48)) ∨ (¬ dgt X n (s + (i + 1)) ∧ mSpot m' = nI (s + (i + 1)) ∧ v = X (s + i) - 48)))) := by
  have hle := hA.le
  obtain ⟨v, m1, a1, ⟨kp, hN, ht, hrd⟩, a3⟩ := m_digit hA hX hsz hn hsn hA12 hc h
  have hX' : mText m1 = X := kp.text.trans hX
  have hsz' : mSize m1 = nI n := kp.size.trans hsz
  rcases rd_fin hrd (by omega) with ⟨h1, h2⟩ | ⟨h1, h2, h3⟩
  · have hne : ¬ mWrong m1 = -1 := by rw [h2]; exact nI_nm1 _ (by omega)
    refine ⟨v, m1, ?_, kp, hN, ht, Or.inl ⟨h1, h2⟩⟩
    unfold f_X11_number
    simp only [a1, ob_s, jb_u, if_neg hne]
  · have hv : v = X (s + i) - 48 := a3 (by omega)
    have hlh : ((35 : Nat) = 35 ∧ (48 : Int32) = 48 ∧ (57 : Int32) = 57) ∨ ((35 : Nat) = 32 ∧ (48 : Int32) = 32 ∧ (57 : Int32) = 32) := Or.inl ⟨rfl, rfl, rfl⟩
    obtain ⟨in1, in0⟩ := in_mt (X := X) (j := s + (i + 1)) hlh
    by_cases hd : dgt X n (s + (i + 1))
    · obtain ⟨hlen, hm⟩ := hd
      have hle : ¬ nI n ≤ nI (s + (i + 1)) := nI_ge hlen (by omega)
      have hj : jIn (nI (s + (i + 1))) 60 := nIin (by omega) (by decide)
      have hcl : (nI (s + (i + 1))).toNatClampNeg = s + (i + 1) := nI_clamp (by omega)
      have hlet : f_X11_letterHere m1 = some (X (s + (i + 1))) := by
        unfold f_X11_letterHere
        simp only [hsz', h3, if_neg hle, if_pos hj, hcl, hX']
      have e1 : nI (s + (i + 1)) + 1 = nI (s + (i + 2)) := nI_1 (s + (i + 1))
      have e2 : nI (s + (i + 2)) - 1 = nI (s + (i + 1)) := nI_pred (s + (i + 1))
      have hsp2 : mSpot (mSSpot (nI (s + (i + 2))) m1) = nI (s + (i + 2)) := mg15_15 m1 _
      have htx : mText (mSSpot (nI (s + (i + 2))) m1) = X := (mg9_15 m1 _).trans hX'
      have hw2 : mWrong (mSSpot (nI (s + (i + 2))) m1) = -1 := (mg16_15 m1 _).trans h2
      have hdig : f_X11_digit m1 = some (X (s + (i + 1)) - 48, mSSpot (nI (s + (i + 2))) m1) := by
        unfold f_X11_digit f_X11_reads
        simp only [h2, ↓reduceIte, hlet, ob_s, in1 hm, i10, h3, e1, jb_u, hsp2, e2, if_pos hj, htx, hcl]
      refine ⟨10 * v + (X (s + (i + 1)) - 48), mSSpot (nI (s + (i + 2))) m1, ?_, kp.tr (KeptR.spot _ m1), (mg18_15 m1 _).trans hN, (mg17_15 m1 _).trans ht, Or.inr ⟨h1, hw2, Or.inl ⟨⟨hlen, hm⟩, hsp2, by rw [hv]⟩⟩⟩
      unfold f_X11_number
      simp only [a1, ob_s, jb_u, h2, ↓reduceIte, hlet, in1 hm, i10, hdig]
    · have hin : ∃ o, f_X11_letterHere m1 = some o ∧ f_X11_isIn o 48 57 = some 0 := by
        by_cases hlen : s + (i + 1) < n
        · have hle : ¬ nI n ≤ nI (s + (i + 1)) := nI_ge hlen (by omega)
          have hj : jIn (nI (s + (i + 1))) 60 := nIin (by omega) (by decide)
          have hcl : (nI (s + (i + 1))).toNatClampNeg = s + (i + 1) := nI_clamp (by omega)
          refine ⟨X (s + (i + 1)), ?_, in0 (fun hm => hd ⟨hlen, hm⟩)⟩
          unfold f_X11_letterHere
          simp only [hsz', h3, if_neg hle, if_pos hj, hcl, hX']
        · have hle : nI n ≤ nI (s + (i + 1)) := nI_le (by omega) (by omega)
          refine ⟨-1, ?_, in_m1 hlh⟩
          unfold f_X11_letterHere
          simp only [hsz', h3, if_pos hle]
      obtain ⟨o, o1, o2⟩ := hin
      refine ⟨v, m1, ?_, kp, hN, ht, Or.inr ⟨h1, h2, Or.inr ⟨hd, h3, hv⟩⟩⟩
      unfold f_X11_number
      simp only [a1, ob_s, jb_u, h2, ↓reduceIte, o1, o2]
theorem vb_7 {X : Nat → Int32} {n s e b : Nat} {told : Int32} {m0 m : MV} {N : Nat → Int32} (hA : IsMl X n (argL 7) s e) (hX : mText m0 = X) (hsz : mSize m0 = nI n) (hn : n ≤ 60) (hsn : s + e ≤ n) (hb : b < 140) (h : Rs s e m0 told N 0 m) :
    ∃ m', rcB m b 7 = some m' ∧ KeptR m0 m' ∧ mTold m' = told ∧ (∀ j, j ≤ b → mNumbers m' j = N j) ∧ ((e < 3 ∧ mWrong m' = nI (s + e)) ∨ (e = 3 ∧ mWrong m' = -1 ∧ mNumbers m' (b + 3) = X (s + 0) - 48 ∧ ((dgt X n (s + 3) ∧ mSpot m' = nI (s + 4) ∧ mNumbers m' (b + 4) = 10 * (X (s + 2) - 48) + (X (s + 3) - 48)) ∨ (¬ dgt X n (s + 3) ∧ mSpot m' = nI (s + 3) ∧ mNumbers m' (b + 4) = X (s + 2) - 48)))) := by
  have hle := hA.le
  have hL : (argL 7).length = 3 := rfl
  have h12 : (argL 7).length ≤ 12 := by rw [hL]; decide
  have p3 : nI b + 3 = nI (b + 3) := nI_add b 3
  have p4 : nI b + 4 = nI (b + 4) := nI_add b 4
  have j3 : jIn (nI (b + 3)) 150 := nIin (by omega) (by decide)
  have j4 : jIn (nI (b + 4)) 150 := nIin (by omega) (by decide)
  have l3 : (nI (b + 3)).toNatClampNeg = b + 3 := nI_clamp (by omega)
  have l4 : (nI (b + 4)).toNatClampNeg = b + 4 := nI_clamp (by omega)
  have c0 : ¬ nI 7 = (0 : Int32) := by decide +kernel
  have c4 : ¬ nI 7 = (4 : Int32) := by decide +kernel
  have c5 : ¬ nI 7 = (5 : Int32) := by decide +kernel
  have c6 : ¬ nI 7 = (6 : Int32) := by decide +kernel
  have c7 : nI 7 = (7 : Int32) := rfl
  obtain ⟨v3, m1, b1, b2, b3⟩ := m_digit hA hX hsz hn hsn h12 (i := 0) rfl h
  obtain ⟨v0, m2, d1, d2⟩ := m_blank hA hX hsz hn hsn h12 (i := 1) rfl (b2.set (b + 3) v3)
  obtain ⟨v4, m3, a1, a2, a3, a4, a5⟩ := m_numberN hA hX hsz hn hsn h12 (i := 2) rfl hL d2
  have hN : mNumbers (mSNumbers (upd (mNumbers m3) (b + 4) v4) m3) = upd (upd N (b + 3) v3) (b + 4) v4 := by
    have : mNumbers (mSNumbers (upd (mNumbers m3) (b + 4) v4) m3) = upd (mNumbers m3) (b + 4) v4 := by simp only [mg18_0, mg18_1, mg18_2, mg18_3, mg18_4, mg18_5, mg18_6, mg18_7, mg18_8, mg18_9, mg18_10, mg18_11, mg18_12, mg18_13, mg18_14, mg18_15, mg18_16, mg18_17, mg18_18]
    rw [this, a3]
  have hw9 : mWrong (mSNumbers (upd (mNumbers m3) (b + 4) v4) m3) = mWrong m3 := by simp only [mg16_0, mg16_1, mg16_2, mg16_3, mg16_4, mg16_5, mg16_6, mg16_7, mg16_8, mg16_9, mg16_10, mg16_11, mg16_12, mg16_13, mg16_14, mg16_15, mg16_16, mg16_17, mg16_18]
  have hs9 : mSpot (mSNumbers (upd (mNumbers m3) (b + 4) v4) m3) = mSpot m3 := by simp only [mg15_0, mg15_1, mg15_2, mg15_3, mg15_4, mg15_5, mg15_6, mg15_7, mg15_8, mg15_9, mg15_10, mg15_11, mg15_12, mg15_13, mg15_14, mg15_15, mg15_16, mg15_17, mg15_18]
  have ht9 : mTold (mSNumbers (upd (mNumbers m3) (b + 4) v4) m3) = mTold m3 := by simp only [mg17_0, mg17_1, mg17_2, mg17_3, mg17_4, mg17_5, mg17_6, mg17_7, mg17_8, mg17_9, mg17_10, mg17_11, mg17_12, mg17_13, mg17_14, mg17_15, mg17_16, mg17_17, mg17_18]
  refine ⟨mSNumbers (upd (mNumbers m3) (b + 4) v4) m3, ?_, a2.tr (KeptR.nums _ m3), ht9.trans a4, fun j hj => by rw [hN]; simp (disch := omega) only [upd_ne], ?_⟩
  · unfold rcB f_X11_readsCommand_J67 f_X11_readsCommand_J88 f_X11_readsCommand_J119 f_X11_readsCommand_J135 f_X11_readsCommand_J55 f_X11_readsCommand_J67 f_X11_readsCommand_J79 f_X11_readsCommand_J88 f_X11_readsCommand_J119 f_X11_readsCommand_J135
    simp only [if_neg c0, if_neg c4, if_neg c5, if_neg c6, if_pos c7, b1, ob_s, p3, if_pos j3, l3, jb_u, d1, a1, p4, if_pos j4, l4]
  · rw [hw9, hs9, hN]
    have u3 : upd (upd N (b + 3) v3) (b + 4) v4 (b + 3) = v3 := by simp (disch := omega) only [upd_ne, upd_at]
    have u4 : upd (upd N (b + 3) v3) (b + 4) v4 (b + 4) = v4 := upd_at _ _ _
    rw [u3, u4]
    rcases a5 with a5 | ⟨a5, a6, a7⟩
    · exact Or.inl a5
    · exact Or.inr ⟨a5, a6, b3 (by omega), a7⟩
