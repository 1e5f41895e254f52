/-! ===== the program's reader ===== -/
def dgL (v : Nat) : List Nat := match v with
  | 0 => [6, 7, 8] | 1 => [4, 5] | 2 => [5, 6] | 3 => [6, 7] | 4 => [6] | 5 => [6, 7, 9, 11] | 6 => [5, 7, 8] | _ => [6, 8]
def dct (v j : Nat) : Nat := ((dgL v).filter (fun d => decide (d < j))).length
theorem dct_y (v j : Nat) (hv : v < 8) (e : (fmL v)[j]? = some 35) : dct v (j + 1) = dct v j + 1 ∧ dct v j < 4 ∧ (dgL v)[dct v j]? = some j := by
  have hj : j < 12 := by have := (List.getElem?_eq_some_iff.mp e).1; have := fm_12 v hv; omega
  have hall : ∀ v : Fin 8, ∀ j : Fin 12, (fmL v.val)[j.val]? = some 35 → (dct v.val (j.val + 1) = dct v.val j.val + 1 ∧ dct v.val j.val < 4 ∧ (dgL v.val)[dct v.val j.val]? = some j.val) := by decide +kernel
  exact hall ⟨v, hv⟩ ⟨j, hj⟩ e
theorem dct_n (v j : Nat) (hv : v < 8) (hj : j < 12) (e : ¬ (fmL v)[j]? = some 35) : dct v (j + 1) = dct v j := by
  have hall : ∀ v : Fin 8, ∀ j : Fin 12, (¬ (fmL v.val)[j.val]? = some 35) → dct v.val (j.val + 1) = dct v.val j.val := by decide +kernel
  exact hall ⟨v, hv⟩ ⟨j, hj⟩ e
theorem dct_e (v : Nat) (hv : v < 8) : dct v (fmL v).length = (dgL v).length ∧ dct v 0 = 0 := (by decide +kernel : ∀ v : Fin 8, dct v.val (fmL v.val).length = (dgL v.val).length ∧ dct v.val 0 = 0) ⟨v, hv⟩
theorem q_nums {pv : PV} (v p : Nat) (hv : v < 8) (hp : p + (fmL v).length ≤ 60) (x4 : Int32) : ∃ (z : Int32) (cv : CV), jbL (fun s : Int32 × CV => f_X6_readCommand_L29 pv v (nI p) x4 s.1 s.2) 5000 ((0 : Int32), ((v, fun _ => 0, 0) : CV)) = some (z, cv) ∧ cVerb cv = v ∧ cCount cv = nI (dgL v).length ∧ ∀ i d, (dgL v)[i]? = some d → cNumbers cv i = pText pv (p + d) - 48 := by
  have h12 := fm_12 v hv
  obtain ⟨de, d0⟩ := dct_e v hv
  obtain ⟨r, h1, h2, h3, h4⟩ := lpL (body := fun s : Int32 × CV => f_X6_readCommand_L29 pv v (nI p) x4 s.1 s.2)
    (fun j st => st.1 = nI j ∧ cVerb st.2 = v ∧ cCount st.2 = nI (dct v j) ∧ ∀ i d, i < dct v j → (dgL v)[i]? = some d → cNumbers st.2 i = pText pv (p + d) - 48)
    (fun r => cVerb r.2 = v ∧ cCount r.2 = nI (dgL v).length ∧ ∀ i d, (dgL v)[i]? = some d → cNumbers r.2 i = pText pv (p + d) - 48) (fmL v).length
    (fun j st hj ⟨e1, e2, e3, e4⟩ => by
      left
      obtain ⟨x, cv⟩ := st
      have e1 : x = nI j := e1
      have e2 : cVerb cv = v := e2
      have e3 : cCount cv = nI (dct v j) := e3
      have e4 : ∀ i d, i < dct v j → (dgL v)[i]? = some d → cNumbers cv i = pText pv (p + d) - 48 := e4
      subst e1
      obtain ⟨c, hc⟩ : ∃ c, (fmL v)[j]? = some c := ⟨(fmL v)[j], List.getElem?_eq_getElem hj⟩
      have hge : ¬ nI (fmL v).length ≤ nI j := nI_ge hj (by omega)
      have hdg := x9_dig v j c hv hc
      show ∃ s', f_X6_readCommand_L29 pv v (nI p) x4 (nI j) cv = _ ∧ _
      by_cases h35 : c = 35
      · subst h35
        obtain ⟨y1, y2, y3⟩ := dct_y v j hv hc
        rw [if_pos rfl] at hdg
        have hjp : jIn (nI (p + j)) 60 := nIin (by omega) (by decide)
        have hlp : (nI (p + j)).toNatClampNeg = p + j := nI_clamp (by omega)
        have hc4 : ¬ (4 : Int32) ≤ nI (dct v j) := nI_ge (a := dct v j) (b := 4) y2 (by decide)
        have hj4 : jIn (nI (dct v j)) 4 := nIin y2 (by decide)
        have hl4 : (nI (dct v j)).toNatClampNeg = dct v j := nI_clamp (by omega)
        have hadd : ∀ a : Int32, f_X1_addNumber cv a = some ((cVerb cv, upd (cNumbers cv) (dct v j) a, nI (dct v j + 1)) : CV) := fun a => by
          have hcc : cCount (cSNumbers (upd (cNumbers cv) (dct v j) a) cv) = nI (dct v j) := e3
          unfold f_X1_addNumber
          simp only [e3, if_neg hc4, if_pos hj4, hl4, jb_u, hcc, nI_1]
          rfl
        refine ⟨(nI (j + 1), (cVerb cv, upd (cNumbers cv) (dct v j) (pText pv (p + j) - 48), nI (dct v j + 1))), ?_, rfl, e2, by rw [y1]; rfl, fun i d hi hd => ?_⟩
        · unfold f_X6_readCommand_L29 f_X6_readCommand_J63
          simp only [if_pos hv, x9_len v hv, ob_s, if_neg hge, hdg, i10, ↓reduceIte, nI_add, if_pos hjp, hlp, hadd, nI_1]
        · show upd (cNumbers cv) (dct v j) (pText pv (p + j) - 48) i = _
          by_cases e : i = dct v j
          · subst e
            rw [y3] at hd
            cases hd
            exact upd_at _ _ _
          · rw [upd_ne _ _ e]
            exact e4 i d (by omega) hd
      · rw [if_neg h35] at hdg
        have hne : ¬ (fmL v)[j]? = some 35 := by
          rw [hc]
          exact fun q => h35 (Option.some.inj q)
        have hd1 := dct_n v j hv (by omega) hne
        refine ⟨(nI (j + 1), cv), ?_, rfl, e2, by rw [hd1]; exact e3, fun i d hi hd => e4 i d (by omega) hd⟩
        unfold f_X6_readCommand_L29 f_X6_readCommand_J63
        simp only [if_pos hv, x9_len v hv, ob_s, if_neg hge, hdg, ↓reduceIte, nI_1])
    (fun st ⟨e1, e2, e3, e4⟩ => ⟨st, by
      obtain ⟨x, cv⟩ := st
      have e1 : x = nI (fmL v).length := e1
      subst e1
      show f_X6_readCommand_L29 pv v (nI p) x4 (nI (fmL v).length) cv = _
      unfold f_X6_readCommand_L29
      simp only [if_pos hv, x9_len v hv, ob_s, if_pos (Int32.le_refl (nI (fmL v).length))], e2, by rw [e3, de], fun i d hd => e4 i d (by rw [de]; exact (List.getElem?_eq_some_iff.mp hd).1) hd⟩) 5000 0 (nI 0, (v, fun _ => 0, 0)) (by omega) (by omega) ⟨rfl, rfl, by rw [d0]; rfl, fun i d hi => by omega⟩
  exact ⟨r.1, r.2, h1, h2, h3, h4⟩
/-- a command whose form stands there -/
theorem q_readN {pv : PV} {n p v : Nat} (e1 : pLength pv = nI n) (hn : n ≤ 60) (hv : v < 7) (hp : p + (fmL v).length ≤ n) : ∃ cv, f_X6_readCommand pv v (nI p) = some (nI (p + (fmL v).length), cv) ∧ cVerb cv = v ∧ ∀ i d, (dgL v)[i]? = some d → cNumbers cv i = pText pv (p + d) - 48 := by
  have hv8 : v < 8 := by omega
  have hv7 : ¬ v = 7 := by omega
  obtain ⟨z, cv, h1, h2, h3, h4⟩ := q_nums (pv := pv) v p hv8 (by omega) (nI (p + (fmL v).length))
  refine ⟨cv, ?_, h2, h4⟩
  unfold f_X6_readCommand
  simp only [jb_u, if_pos hv8, x9_len v hv8, ob_s, nI_add, h1, if_neg hv7]
theorem q_read7 {pv : PV} {n p : Nat} (e1 : pLength pv = nI n) (hn : n ≤ 60) (hp : p + 9 ≤ n) : ∃ cv q, f_X6_readCommand pv 7 (nI p) = some (nI q, cv) ∧ cVerb cv = 7 ∧ cNumbers cv 0 = pText pv (p + 6) - 48 ∧ ((dgt (pText pv) n (p + 9) ∧ q = p + 10 ∧ cNumbers cv 1 = (pText pv (p + 8) - 48) * 10 + (pText pv (p + 9) - 48)) ∨ (¬ dgt (pText pv) n (p + 9) ∧ q = p + 9 ∧ cNumbers cv 1 = pText pv (p + 8) - 48)) := by
  have hv8 : (7 : Nat) < 8 := by decide
  have hlen : (fmL 7).length = 9 := rfl
  obtain ⟨z, cv, h1, h2, h3, h4⟩ := q_nums (pv := pv) 7 p hv8 (by rw [hlen]; omega) (nI (p + 9))
  have n0 := h4 0 6 rfl
  have n1 := h4 1 8 rfl
  have hl7 : f_X9_length 7 = some (nI 9) := x9_len 7 hv8
  have hc2 : cCount cv = nI 2 := h3
  by_cases hd : dgt (pText pv) n (p + 9)
  · obtain ⟨hlen, hm⟩ := hd
    have hle : ¬ nI n ≤ nI (p + 9) := nI_ge hlen (by omega)
    have hj : jIn (nI (p + 9)) 60 := nIin (by omega) (by decide)
    have hl : (nI (p + 9)).toNatClampNeg = p + 9 := nI_clamp (by omega)
    have hdig : f_X9_isDigit (pText pv (p + 9)) = some 1 := by
      rcases hm with ⟨_, q1, q2⟩ | ⟨q1, _⟩
      · unfold f_X9_isDigit
        rw [if_neg q1, if_neg q2]
      · exact absurd rfl q1
    have hadd : ∀ a : Int32, f_X1_addDigitToLast cv a = some ((cVerb cv, upd (cNumbers cv) 1 (cNumbers cv 1 * 10 + a), cCount cv) : CV) := fun a => by
      have g1 : ¬ nI 2 ≤ (0 : Int32) := by decide +kernel
      have g2 : nI 2 - 1 = nI 1 := nI_pred 1
      have g3 : jIn (nI 1) 4 := nIin (by omega) (by decide)
      have g4 : (nI 1).toNatClampNeg = 1 := nI_clamp (by omega)
      unfold f_X1_addDigitToLast
      simp only [hc2, if_neg g1, g2, if_pos g3, g4, jb_u]
      show some _ = some _
      rw [← hc2]
      rfl
    refine ⟨(cVerb cv, upd (cNumbers cv) 1 (cNumbers cv 1 * 10 + (pText pv (p + 9) - 48)), cCount cv), p + 10, ?_, h2, ?_, Or.inl ⟨⟨hlen, hm⟩, rfl, ?_⟩⟩
    · unfold f_X6_readCommand
      simp only [jb_u, if_pos hv8, hl7, ob_s, nI_add, h1, ↓reduceIte, e1, if_neg hle, if_pos hj, hl, hdig, i10, hadd, nI_1]
    · show upd (cNumbers cv) 1 (cNumbers cv 1 * 10 + (pText pv (p + 9) - 48)) 0 = _
      rw [upd_ne _ _ (by decide), n0]
    · show upd (cNumbers cv) 1 (cNumbers cv 1 * 10 + (pText pv (p + 9) - 48)) 1 = _
      rw [upd_at, n1]
  · refine ⟨cv, p + 9, ?_, h2, n0, Or.inr ⟨hd, rfl, n1⟩⟩
    by_cases hlen : p + 9 < n
    · have hle : ¬ nI n ≤ nI (p + 9) := nI_ge hlen (by omega)
      have hj : jIn (nI (p + 9)) 60 := nIin (by omega) (by decide)
      have hl : (nI (p + 9)).toNatClampNeg = p + 9 := nI_clamp (by omega)
      have hdig : f_X9_isDigit (pText pv (p + 9)) = some 0 := by
        unfold f_X9_isDigit
        by_cases q1 : pText pv (p + 9) < 48
        · rw [if_pos q1]
        · by_cases q2 : 57 < pText pv (p + 9)
          · rw [if_neg q1, if_pos q2]
          · exact absurd ⟨hlen, Or.inl ⟨rfl, q1, q2⟩⟩ hd
      unfold f_X6_readCommand
      simp only [jb_u, if_pos hv8, hl7, ob_s, nI_add, h1, ↓reduceIte, e1, if_neg hle, if_pos hj, hl, hdig]
    · have hle : nI n ≤ nI (p + 9) := nI_le (by omega) (by omega)
      unfold f_X6_readCommand
      simp only [jb_u, if_pos hv8, hl7, ob_s, nI_add, h1, ↓reduceIte, e1, if_pos hle]
/-! both readers -/
theorem okc_X {X Y : Nat → Int32} {n p j : Nat} {pat : List Nat} (h : ∀ k, k < n → X k = Y k) : okc X n pat p j → okc Y n pat p j := by
  intro ⟨c, h1, h2, h3⟩
  refine ⟨c, h1, h2, ?_⟩
  unfold mt at h3 ⊢
  rw [← h (p + j) h2]
  exact h3
theorem IsMl.X {X Y : Nat → Int32} {n p r : Nat} {pat : List Nat} (h : ∀ k, k < n → X k = Y k) (hm : IsMl X n pat p r) : IsMl Y n pat p r :=
  ⟨fun j hj => okc_X h (hm.1 j hj), fun q => hm.2 (okc_X (fun k hk => (h k hk).symm) q)⟩
theorem dgt_X {X Y : Nat → Int32} {n j : Nat} (h : ∀ k, k < n → X k = Y k) : dgt X n j → dgt Y n j := by
  intro ⟨h1, h2⟩
  refine ⟨h1, ?_⟩
  unfold mt at h2 ⊢
  rw [← h j h1]
  exact h2
theorem okc_dr {X : Nat → Int32} {n p j l : Nat} {pat : List Nat} : okc X n (pat.drop l) (p + l) j ↔ okc X n pat p (l + j) := by
  unfold okc
  rw [List.getElem?_drop, Nat.add_assoc]
theorem IsMl.dr {X : Nat → Int32} {n p r l : Nat} {pat : List Nat} (h : IsMl X n pat p r) (hl : l ≤ r) : IsMl X n (pat.drop l) (p + l) (r - l) :=
  ⟨fun j hj => okc_dr.mpr (h.1 (l + j) (by omega)), fun q => h.2 (by have := okc_dr.mp q; rw [show l + (r - l) = r by omega] at this; exact this)⟩
def CmdR (w : Nat) (cv : CV) (N : Nat → Int32) (b : Nat) : Prop := w < 8 ∧ cVerb cv = w ∧ N b = nI w ∧ (w ≤ 3 → cNumbers cv 0 = N (b + 1) ∧ cNumbers cv 1 = N (b + 2)) ∧ (w = 0 → cNumbers cv 2 = N (b + 3)) ∧ (w = 4 → cNumbers cv 0 = N (b + 3)) ∧ (w = 5 → cNumbers cv 0 = N (b + 1) ∧ cNumbers cv 1 = N (b + 2) ∧ cNumbers cv 2 = N (b + 3) ∧ cNumbers cv 3 = N (b + 4)) ∧ (w = 6 → cNumbers cv 0 = N (b + 3) ∧ cNumbers cv 1 = N (b + 1) ∧ cNumbers cv 2 = N (b + 2)) ∧ (w = 7 → cNumbers cv 0 = N (b + 3) ∧ cNumbers cv 1 = N (b + 4))
theorem CmdR.cong {w b : Nat} {cv : CV} {N N' : Nat → Int32} (h : CmdR w cv N b) (e : ∀ j, j < b + 5 → N' j = N j) : CmdR w cv N' b := by
  obtain ⟨a1, a2, a3, a4, a5, a6, a7, a8, a9⟩ := h
  unfold CmdR
  rw [e b (by omega), e (b + 1) (by omega), e (b + 2) (by omega), e (b + 3) (by omega), e (b + 4) (by omega)]
  exact ⟨a1, a2, a3, a4, a5, a6, a7, a8, a9⟩
def PErr (pv : PV) (m : MV) (n p : Nat) : Prop := ∃ e m', p ≤ e ∧ e ≤ n ∧ f_X6_verbAt pv (nI p) = some none ∧ f_X6_longestMatch pv (nI p) = some (nI (e - p)) ∧ f_X11_readsCommand m = some m' ∧ KeptR m m' ∧ mWrong m' = nI e
def POk (pv : PV) (m : MV) (n p t : Nat) : Prop := ∃ w cv q m', w < 8 ∧ f_X6_verbAt pv (nI p) = some (some w) ∧ f_X6_readCommand pv w (nI p) = some (nI q, cv) ∧ p + 6 ≤ q ∧ q ≤ n ∧ f_X11_readsCommand m = some m' ∧ KeptR m m' ∧ mWrong m' = -1 ∧ mSpot m' = nI q ∧ mTold m' = nI (t + 1) ∧ CmdR w cv (mNumbers m') (5 * t) ∧ ∀ j, j < 5 * t → mNumbers m' j = mNumbers m j
/-- the reference's command, by its word -/
theorem m_rc0 {m m1 : MV} {t : Nat} (ht : t ≤ 9) (htd : mTold m = nI t) (x : Int32) (hk : f_X11_kindHere m = some (x, m1)) (k1 : mTold m1 = mTold m) :
    f_X11_readsCommand m = if mWrong m1 = -1 then (if x = 4 then f_X11_readsCommand_J55 (mSTold (nI (t + 1)) (mSNumbers (upd (mNumbers m1) (5 * t) x) m1)) (nI (5 * t)) x else if x = 7 then f_X11_readsCommand_J55 (mSTold (nI (t + 1)) (mSNumbers (upd (mNumbers m1) (5 * t) x) m1)) (nI (5 * t)) x else if x = 6 then f_X11_readsCommand_J55 (mSTold (nI (t + 1)) (mSNumbers (upd (mNumbers m1) (5 * t) x) m1)) (nI (5 * t)) x else f_X11_readsCommand_J67 (mSTold (nI (t + 1)) (mSNumbers (upd (mNumbers m1) (5 * t) x) m1)) (nI (5 * t)) x) else some (mSTold (nI (t + 1)) (mSNumbers (upd (mNumbers m1) (5 * t) x) m1)) := by
  have h5 : (5 : Int32) * nI t = nI (5 * t) := by rw [show (5 : Int32) = nI 5 from rfl, nImul]
  have hj : jIn (nI (5 * t)) 150 := nIin (by omega) (by decide)
  have hl : (nI (5 * t)).toNatClampNeg = 5 * t := nI_clamp (by omega)
  have hto : mTold (mSNumbers (upd (mNumbers m1) (5 * t) x) m1) = nI t := by
    have : mTold (mSNumbers (upd (mNumbers m1) (5 * t) x) m1) = mTold m1 := by simp only [mg17_0, mg17_1, mg17_2, mg17_3, mg17_4, mg17_5, mg17_6, mg17_7, mg17_8, mg17_9, mg17_10, mg17_11, mg17_12, mg17_13, mg17_14, mg17_15, mg17_16, mg17_17, mg17_18]
    rw [this, k1, htd]
  have hwr : mWrong (mSTold (nI (t + 1)) (mSNumbers (upd (mNumbers m1) (5 * t) x) m1)) = mWrong m1 := by simp only [mg16_0, mg16_1, mg16_2, mg16_3, mg16_4, mg16_5, mg16_6, mg16_7, mg16_8, mg16_9, mg16_10, mg16_11, mg16_12, mg16_13, mg16_14, mg16_15, mg16_16, mg16_17, mg16_18]
  unfold f_X11_readsCommand
  simp only [htd, h5, jb_u, hk, ob_s, if_pos hj, hl, hto, nI_1, hwr]
theorem m_rc {m : MV} {t w s : Nat} (ht : t ≤ 9) (htd : mTold m = nI t) (hk : f_X11_kindHere m = some (nI w, mSSpot (nI s) (mSWrong (-1) m))) :
    ∃ m1, f_X11_readsCommand m = rcB m1 (5 * t) w ∧ KeptR m m1 ∧ mNumbers m1 = upd (mNumbers m) (5 * t) (nI w) ∧ mTold m1 = nI (t + 1) ∧ mSpot m1 = nI s ∧ mWrong m1 = -1 := by
  have k1 : mTold (mSSpot (nI s) (mSWrong (-1) m)) = mTold m := by simp only [mg17_0, mg17_1, mg17_2, mg17_3, mg17_4, mg17_5, mg17_6, mg17_7, mg17_8, mg17_9, mg17_10, mg17_11, mg17_12, mg17_13, mg17_14, mg17_15, mg17_16, mg17_17, mg17_18]
  have k2 : mWrong (mSSpot (nI s) (mSWrong (-1) m)) = -1 := by simp only [mg16_0, mg16_1, mg16_2, mg16_3, mg16_4, mg16_5, mg16_6, mg16_7, mg16_8, mg16_9, mg16_10, mg16_11, mg16_12, mg16_13, mg16_14, mg16_15, mg16_16, mg16_17, mg16_18]
  have k3 : mNumbers (mSSpot (nI s) (mSWrong (-1) m)) = mNumbers m := by simp only [mg18_0, mg18_1, mg18_2, mg18_3, mg18_4, mg18_5, mg18_6, mg18_7, mg18_8, mg18_9, mg18_10, mg18_11, mg18_12, mg18_13, mg18_14, mg18_15, mg18_16, mg18_17, mg18_18]
  have h := m_rc0 ht htd (nI w) hk k1
  rw [if_pos k2, k3] at h
  refine ⟨mSTold (nI (t + 1)) (mSNumbers (upd (mNumbers m) (5 * t) (nI w)) (mSSpot (nI s) (mSWrong (-1) m))), h, (((KeptR.wrong _ m).tr (KeptR.spot _ _)).tr (KeptR.nums _ _)).tr (KeptR.told _ _), ?_, ?_, ?_, ?_⟩
  · simp only [mg18_0, mg18_1, mg18_2, mg18_3, mg18_4, mg18_5, mg18_6, mg18_7, mg18_8, mg18_9, mg18_10, mg18_11, mg18_12, mg18_13, mg18_14, mg18_15, mg18_16, mg18_17, mg18_18]
  · simp only [mg17_0, mg17_1, mg17_2, mg17_3, mg17_4, mg17_5, mg17_6, mg17_7, mg17_8, mg17_9, mg17_10, mg17_11, mg17_12, mg17_13, mg17_14, mg17_15, mg17_16, mg17_17, mg17_18]
  · simp only [mg15_0, mg15_1, mg15_2, mg15_3, mg15_4, mg15_5, mg15_6, mg15_7, mg15_8, mg15_9, mg15_10, mg15_11, mg15_12, mg15_13, mg15_14, mg15_15, mg15_16, mg15_17, mg15_18]
  · simp only [mg16_0, mg16_1, mg16_2, mg16_3, mg16_4, mg16_5, mg16_6, mg16_7, mg16_8, mg16_9, mg16_10, mg16_11, mg16_12, mg16_13, mg16_14, mg16_15, mg16_16, mg16_17, mg16_18]

theorem parse1 {pv : PV} {m : MV} {n p t : Nat} (e1 : pLength pv = nI n) (hn : n ≤ 60) (hsz : mSize m = nI n) (hsp : mSpot m = nI p) (hw : mWrong m = -1) (htd : mTold m = nI t) (ht : t ≤ 9) (hp : p ≤ n) (hXY : ∀ k, k < n → pText pv k = mText m k) : PErr pv m n p ∨ POk pv m n p t := by
  have hrex : ∀ v, ∃ r, v < 8 → IsMl (pText pv) n (fmL v) p r := fun v => by
    by_cases hv : v < 8
    · obtain ⟨r, _, h2⟩ := q_ml e1 hn v p hv hp
      exact ⟨r, fun _ => h2⟩
    · exact ⟨0, fun h => absurd h hv⟩
  have hkex : ∀ v, ∃ r, v < 8 → IsMl (mText m) n (wdL v) p r := fun v => by
    by_cases hv : v < 8
    · obtain ⟨r, _, h2⟩ := m_ml hn hsz hsp hp 0 0 v hv
      exact ⟨r, fun _ => h2⟩
    · exact ⟨0, fun h => absurd h hv⟩
  obtain ⟨r, hr⟩ := Classical.axiomOfChoice hrex
  obtain ⟨k, hk⟩ := Classical.axiomOfChoice hkex
  have hrX : ∀ v, v < 8 → IsMl (mText m) n (fmL v) p (r v) := fun v hv => (hr v hv).X hXY
  obtain ⟨vb0, vb1⟩ := q_verb e1 hn hp r hr
  have lg := q_long e1 hn hp r hr
  rcases m_kind hn hsz hsp hw hp k hk with ⟨hall, hkind⟩ | ⟨w, hw8, hkw, hkind⟩
  · left
    have hrk : ∀ v, v < 8 → r v = k v := fun v hv => rk1 hv (hk v hv) (hrX v hv) (hall v hv)
    have hmx : mx r 8 = mx k 8 := mx_cong 8 hrk
    have hmb : mx k 8 ≤ n - p := mx_le 8 (fun i hi => by have := (hk i hi).ps hp; omega)
    have k1 : mTold (mSSpot (nI p) (mSWrong (nI (p + mx k 8)) m)) = mTold m := by simp only [mg17_0, mg17_1, mg17_2, mg17_3, mg17_4, mg17_5, mg17_6, mg17_7, mg17_8, mg17_9, mg17_10, mg17_11, mg17_12, mg17_13, mg17_14, mg17_15, mg17_16, mg17_17, mg17_18]
    have k2 : mWrong (mSSpot (nI p) (mSWrong (nI (p + mx k 8)) m)) = nI (p + mx k 8) := by simp only [mg16_0, mg16_1, mg16_2, mg16_3, mg16_4, mg16_5, mg16_6, mg16_7, mg16_8, mg16_9, mg16_10, mg16_11, mg16_12, mg16_13, mg16_14, mg16_15, mg16_16, mg16_17, mg16_18]
    have hrc := m_rc0 ht htd (-1) hkind k1
    rw [k2, if_neg (nI_nm1 _ (by omega))] at hrc
    refine ⟨p + mx k 8, _, by omega, by omega, vb0 (fun v hv => ?_), by rw [lg, hmx, Nat.add_sub_cancel_left], hrc, (((KeptR.wrong _ m).tr (KeptR.spot _ _)).tr (KeptR.nums _ _)).tr (KeptR.told _ _), ?_⟩
    · rw [hrk v hv]
      have := hall v hv
      have := fm_len v hv
      omega
    · simp only [mg16_0, mg16_1, mg16_2, mg16_3, mg16_4, mg16_5, mg16_6, mg16_7, mg16_8, mg16_9, mg16_10, mg16_11, mg16_12, mg16_13, mg16_14, mg16_15, mg16_16, mg16_17, mg16_18]
  · have hrw : wlL w ≤ r w := rk2 hw8 (hk w hw8) (hrX w hw8) hkw
    have hoth : ∀ v, v < 8 → v ≠ w → r v < wlL w ∧ r v < wlL v := fun v hv hne => rk3 hw8 hv (fun q => hne q.symm) (hk w hw8) hkw (hrX v hv)
    have hps := (hrX w hw8).ps hp
    have hA : IsMl (mText m) n (argL w) (p + wlL w) (r w - wlL w) := (hrX w hw8).dr hrw
    have hErr : r w < (fmL w).length → f_X6_verbAt pv (nI p) = some none ∧ f_X6_longestMatch pv (nI p) = some (nI (r w)) := fun hlt => by
      refine ⟨vb0 (fun v hv => ?_), ?_⟩
      · by_cases e : v = w
        · subst e; omega
        · have := (hoth v hv e).2
          have := fm_len v hv
          omega
      · rw [lg, mx_at 8 hw8 (fun i hi hne => by have := (hoth i hi hne).1; omega)]
    have hOk : r w = (fmL w).length → f_X6_verbAt pv (nI p) = some (some w) := fun he => vb1 w hw8 he (fun v hv => by
      have := (hoth v (by omega) (by omega)).2
      have := fm_len v (by omega)
      omega)
    obtain ⟨m1, c1, c2, c3, c4, c5, c6⟩ := m_rc ht htd hkind
    have hRs : Rs (p + wlL w) (r w - wlL w) m (nI (t + 1)) (upd (mNumbers m) (5 * t) (nI w)) 0 m1 := ⟨c2, c3, c4, Or.inl ⟨Nat.zero_le _, c5, c6⟩⟩
    have hb : 5 * t < 140 := by omega
    have hsn : p + wlL w + (r w - wlL w) ≤ n := by omega
    have hN : ∀ m' : MV, (∀ j, j ≤ 5 * t → mNumbers m' j = upd (mNumbers m) (5 * t) (nI w) j) → (mNumbers m' (5 * t) = nI w ∧ ∀ j, j < 5 * t → mNumbers m' j = mNumbers m j) := fun m' h => by
      refine ⟨by rw [h _ (Nat.le_refl _), upd_at], fun j hj => by rw [h j (by omega), upd_ne _ _ (by omega)]⟩
    have hgo : ∀ L : Nat, (fmL w).length = wlL w + L → ∀ m', f_X11_readsCommand m = some m' → KeptR m m' → r w - wlL w < L → mWrong m' = nI (p + wlL w + (r w - wlL w)) → PErr pv m n p ∨ POk pv m n p t := fun L hL m' a1 a2 a3 a4 => by
      left
      obtain ⟨b1, b2⟩ := hErr (by omega)
      exact ⟨p + r w, m', by omega, hps, b1, by rw [Nat.add_sub_cancel_left]; exact b2, a1, a2, by rw [a4, show p + wlL w + (r w - wlL w) = p + r w by omega]⟩
    rcases (show w = 0 ∨ w = 1 ∨ w = 2 ∨ w = 3 ∨ w = 4 ∨ w = 5 ∨ w = 6 ∨ w = 7 by omega) with e | e | e | e | e | e | e | e
    · subst e
      obtain ⟨m2, a1, a2, a3, a4, a5⟩ := vb_0 hA rfl hsz hn hsn hb hRs
      obtain ⟨n1, n2⟩ := hN m2 a4
      rw [← c1] at a1
      rcases a5 with ⟨b1, b2⟩ | ⟨b1, b2, b3, u1, u2, u3⟩
      · exact hgo 3 rfl m2 a1 a2 b1 b2
      · right
        have hl : (fmL 0).length = 9 := rfl
        have hwl : wlL 0 = 6 := rfl
        have hfull : r 0 = (fmL 0).length := by omega
        obtain ⟨cv, d1, d2, d3⟩ := q_readN (v := 0) (p := p) e1 hn (by omega) (by omega)
        rw [hl] at d1
        have b3s : mSpot m2 = nI (p + 9) := b3.trans (congrArg nI (show p + wlL 0 + 3 = p + 9 by omega))
        have f0 : cNumbers cv 0 = mNumbers m2 (5 * t + 1) := by rw [d3 0 6 rfl, hXY (p + 6) (by omega), u1, show p + wlL 0 + 0 = p + 6 by omega]
        have f1 : cNumbers cv 1 = mNumbers m2 (5 * t + 2) := by rw [d3 1 7 rfl, hXY (p + 7) (by omega), u2, show p + wlL 0 + 1 = p + 7 by omega]
        have f2 : cNumbers cv 2 = mNumbers m2 (5 * t + 3) := by rw [d3 2 8 rfl, hXY (p + 8) (by omega), u3, show p + wlL 0 + 2 = p + 8 by omega]
        exact ⟨0, cv, p + 9, m2, by decide, hOk hfull, d1, by omega, by omega, a1, a2, b2, b3s, a3, ⟨by decide, d2, n1, fun _ => ⟨f0, f1⟩, fun _ => f2, fun h => absurd h (by decide), fun h => absurd h (by decide), fun h => absurd h (by decide), fun h => absurd h (by decide)⟩, n2⟩
    · subst e
      obtain ⟨m2, a1, a2, a3, a4, a5⟩ := vb_1 hA rfl hsz hn hsn hb hRs
      obtain ⟨n1, n2⟩ := hN m2 a4
      rw [← c1] at a1
      rcases a5 with ⟨b1, b2⟩ | ⟨b1, b2, b3, u1, u2⟩
      · exact hgo 2 rfl m2 a1 a2 b1 b2
      · right
        have hl : (fmL 1).length = 6 := rfl
        have hwl : wlL 1 = 4 := rfl
        have hfull : r 1 = (fmL 1).length := by omega
        obtain ⟨cv, d1, d2, d3⟩ := q_readN (v := 1) (p := p) e1 hn (by omega) (by omega)
        rw [hl] at d1
        have b3s : mSpot m2 = nI (p + 6) := b3.trans (congrArg nI (show p + wlL 1 + 2 = p + 6 by omega))
        have f0 : cNumbers cv 0 = mNumbers m2 (5 * t + 1) := by rw [d3 0 4 rfl, hXY (p + 4) (by omega), u1, show p + wlL 1 + 0 = p + 4 by omega]
        have f1 : cNumbers cv 1 = mNumbers m2 (5 * t + 2) := by rw [d3 1 5 rfl, hXY (p + 5) (by omega), u2, show p + wlL 1 + 1 = p + 5 by omega]
        exact ⟨1, cv, p + 6, m2, by decide, hOk hfull, d1, by omega, by omega, a1, a2, b2, b3s, a3, ⟨by decide, d2, n1, fun _ => ⟨f0, f1⟩, fun h => absurd h (by decide), fun h => absurd h (by decide), fun h => absurd h (by decide), fun h => absurd h (by decide), fun h => absurd h (by decide)⟩, n2⟩
    · subst e
      obtain ⟨m2, a1, a2, a3, a4, a5⟩ := vb_2 hA rfl hsz hn hsn hb hRs
      obtain ⟨n1, n2⟩ := hN m2 a4
      rw [← c1] at a1
      rcases a5 with ⟨b1, b2⟩ | ⟨b1, b2, b3, u1, u2⟩
      · exact hgo 2 rfl m2 a1 a2 b1 b2
      · right
        have hl : (fmL 2).length = 7 := rfl
        have hwl : wlL 2 = 5 := rfl
        have hfull : r 2 = (fmL 2).length := by omega
        obtain ⟨cv, d1, d2, d3⟩ := q_readN (v := 2) (p := p) e1 hn (by omega) (by omega)
        rw [hl] at d1
        have b3s : mSpot m2 = nI (p + 7) := b3.trans (congrArg nI (show p + wlL 2 + 2 = p + 7 by omega))
        have f0 : cNumbers cv 0 = mNumbers m2 (5 * t + 1) := by rw [d3 0 5 rfl, hXY (p + 5) (by omega), u1, show p + wlL 2 + 0 = p + 5 by omega]
        have f1 : cNumbers cv 1 = mNumbers m2 (5 * t + 2) := by rw [d3 1 6 rfl, hXY (p + 6) (by omega), u2, show p + wlL 2 + 1 = p + 6 by omega]
        exact ⟨2, cv, p + 7, m2, by decide, hOk hfull, d1, by omega, by omega, a1, a2, b2, b3s, a3, ⟨by decide, d2, n1, fun _ => ⟨f0, f1⟩, fun h => absurd h (by decide), fun h => absurd h (by decide), fun h => absurd h (by decide), fun h => absurd h (by decide), fun h => absurd h (by decide)⟩, n2⟩
    · subst e
      obtain ⟨m2, a1, a2, a3, a4, a5⟩ := vb_3 hA rfl hsz hn hsn hb hRs
      obtain ⟨n1, n2⟩ := hN m2 a4
      rw [← c1] at a1
      rcases a5 with ⟨b1, b2⟩ | ⟨b1, b2, b3, u1, u2⟩
      · exact hgo 2 rfl m2 a1 a2 b1 b2
      · right
        have hl : (fmL 3).length = 8 := rfl
        have hwl : wlL 3 = 6 := rfl
        have hfull : r 3 = (fmL 3).length := by omega
        obtain ⟨cv, d1, d2, d3⟩ := q_readN (v := 3) (p := p) e1 hn (by omega) (by omega)
        rw [hl] at d1
        have b3s : mSpot m2 = nI (p + 8) := b3.trans (congrArg nI (show p + wlL 3 + 2 = p + 8 by omega))
        have f0 : cNumbers cv 0 = mNumbers m2 (5 * t + 1) := by rw [d3 0 6 rfl, hXY (p + 6) (by omega), u1, show p + wlL 3 + 0 = p + 6 by omega]
        have f1 : cNumbers cv 1 = mNumbers m2 (5 * t + 2) := by rw [d3 1 7 rfl, hXY (p + 7) (by omega), u2, show p + wlL 3 + 1 = p + 7 by omega]
        exact ⟨3, cv, p + 8, m2, by decide, hOk hfull, d1, by omega, by omega, a1, a2, b2, b3s, a3, ⟨by decide, d2, n1, fun _ => ⟨f0, f1⟩, fun h => absurd h (by decide), fun h => absurd h (by decide), fun h => absurd h (by decide), fun h => absurd h (by decide), fun h => absurd h (by decide)⟩, n2⟩
    · subst e
      obtain ⟨m2, a1, a2, a3, a4, a5⟩ := vb_4 hA rfl hsz hn hsn hb hRs
      obtain ⟨n1, n2⟩ := hN m2 a4
      rw [← c1] at a1
      rcases a5 with ⟨b1, b2⟩ | ⟨b1, b2, b3, u3⟩
      · exact hgo 1 rfl m2 a1 a2 b1 b2
      · right
        have hl : (fmL 4).length = 7 := rfl
        have hwl : wlL 4 = 6 := rfl
        have hfull : r 4 = (fmL 4).length := by omega
        obtain ⟨cv, d1, d2, d3⟩ := q_readN (v := 4) (p := p) e1 hn (by omega) (by omega)
        rw [hl] at d1
        have b3s : mSpot m2 = nI (p + 7) := b3.trans (congrArg nI (show p + wlL 4 + 1 = p + 7 by omega))
        have f0 : cNumbers cv 0 = mNumbers m2 (5 * t + 3) := by rw [d3 0 6 rfl, hXY (p + 6) (by omega), u3, show p + wlL 4 + 0 = p + 6 by omega]
        exact ⟨4, cv, p + 7, m2, by decide, hOk hfull, d1, by omega, by omega, a1, a2, b2, b3s, a3, ⟨by decide, d2, n1, fun h => absurd h (by decide), fun h => absurd h (by decide), fun _ => f0, fun h => absurd h (by decide), fun h => absurd h (by decide), fun h => absurd h (by decide)⟩, n2⟩
    · subst e
      obtain ⟨m2, a1, a2, a3, a4, a5⟩ := vb_5 hA rfl hsz hn hsn hb hRs
      obtain ⟨n1, n2⟩ := hN m2 a4
      rw [← c1] at a1
      rcases a5 with ⟨b1, b2⟩ | ⟨b1, b2, b3, u1, u2, u3, u4⟩
      · exact hgo 6 rfl m2 a1 a2 b1 b2
      · right
        have hl : (fmL 5).length = 12 := rfl
        have hwl : wlL 5 = 6 := rfl
        have hfull : r 5 = (fmL 5).length := by omega
        obtain ⟨cv, d1, d2, d3⟩ := q_readN (v := 5) (p := p) e1 hn (by omega) (by omega)
        rw [hl] at d1
        have b3s : mSpot m2 = nI (p + 12) := b3.trans (congrArg nI (show p + wlL 5 + 6 = p + 12 by omega))
        have f0 : cNumbers cv 0 = mNumbers m2 (5 * t + 1) := by rw [d3 0 6 rfl, hXY (p + 6) (by omega), u1, show p + wlL 5 + 0 = p + 6 by omega]
        have f1 : cNumbers cv 1 = mNumbers m2 (5 * t + 2) := by rw [d3 1 7 rfl, hXY (p + 7) (by omega), u2, show p + wlL 5 + 1 = p + 7 by omega]
        have f2 : cNumbers cv 2 = mNumbers m2 (5 * t + 3) := by rw [d3 2 9 rfl, hXY (p + 9) (by omega), u3, show p + wlL 5 + 3 = p + 9 by omega]
        have f3 : cNumbers cv 3 = mNumbers m2 (5 * t + 4) := by rw [d3 3 11 rfl, hXY (p + 11) (by omega), u4, show p + wlL 5 + 5 = p + 11 by omega]
        exact ⟨5, cv, p + 12, m2, by decide, hOk hfull, d1, by omega, by omega, a1, a2, b2, b3s, a3, ⟨by decide, d2, n1, fun h => absurd h (by decide), fun h => absurd h (by decide), fun h => absurd h (by decide), fun _ => ⟨f0, f1, f2, f3⟩, fun h => absurd h (by decide), fun h => absurd h (by decide)⟩, n2⟩
    · subst e
      obtain ⟨m2, a1, a2, a3, a4, a5⟩ := vb_6 hA rfl hsz hn hsn hb hRs
      obtain ⟨n1, n2⟩ := hN m2 a4
      rw [← c1] at a1
      rcases a5 with ⟨b1, b2⟩ | ⟨b1, b2, b3, u3, u1, u2⟩
      · exact hgo 4 rfl m2 a1 a2 b1 b2
      · right
        have hl : (fmL 6).length = 9 := rfl
        have hwl : wlL 6 = 5 := rfl
        have hfull : r 6 = (fmL 6).length := by omega
        obtain ⟨cv, d1, d2, d3⟩ := q_readN (v := 6) (p := p) e1 hn (by omega) (by omega)
        rw [hl] at d1
        have b3s : mSpot m2 = nI (p + 9) := b3.trans (congrArg nI (show p + wlL 6 + 4 = p + 9 by omega))
        have f0 : cNumbers cv 0 = mNumbers m2 (5 * t + 3) := by rw [d3 0 5 rfl, hXY (p + 5) (by omega), u3, show p + wlL 6 + 0 = p + 5 by omega]
        have f1 : cNumbers cv 1 = mNumbers m2 (5 * t + 1) := by rw [d3 1 7 rfl, hXY (p + 7) (by omega), u1, show p + wlL 6 + 2 = p + 7 by omega]
        have f2 : cNumbers cv 2 = mNumbers m2 (5 * t + 2) := by rw [d3 2 8 rfl, hXY (p + 8) (by omega), u2, show p + wlL 6 + 3 = p + 8 by omega]
        exact ⟨6, cv, p + 9, m2, by decide, hOk hfull, d1, by omega, by omega, a1, a2, b2, b3s, a3, ⟨by decide, d2, n1, fun h => absurd h (by decide), fun h => absurd h (by decide), fun h => absurd h (by decide), fun h => absurd h (by decide), fun _ => ⟨f0, f1, f2⟩, fun h => absurd h (by decide)⟩, n2⟩
    · subst e
      obtain ⟨m2, a1, a2, a3, a4, a5⟩ := vb_7 hA rfl hsz hn hsn hb hRs
      obtain ⟨n1, n2⟩ := hN m2 a4
      rw [← c1] at a1
      rcases a5 with ⟨b1, b2⟩ | ⟨b1, b2, u3, b4⟩
      · exact hgo 3 rfl m2 a1 a2 b1 b2
      · right
        have hl : (fmL 7).length = 9 := rfl
        have hwl : wlL 7 = 6 := rfl
        have hfull : r 7 = (fmL 7).length := by omega
        obtain ⟨cv, q, d1, d2, d3, d4⟩ := q_read7 e1 hn (show p + 9 ≤ n by omega)
        have f0 : cNumbers cv 0 = mNumbers m2 (5 * t + 3) := by rw [d3, hXY (p + 6) (by omega), u3, show p + wlL 7 + 0 = p + 6 by omega]
        have hq : mSpot m2 = nI q ∧ cNumbers cv 1 = mNumbers m2 (5 * t + 4) ∧ p + 6 ≤ q ∧ q ≤ n := by
          have e3 : p + wlL 7 + 3 = p + 9 := by omega
          have e4 : p + wlL 7 + 4 = p + 10 := by omega
          have e2 : p + wlL 7 + 2 = p + 8 := by omega
          rw [e3, e4, e2] at b4
          rcases b4 with ⟨g1, g2, g3⟩ | ⟨g1, g2, g3⟩ <;> rcases d4 with ⟨h1, h2, h3⟩ | ⟨h1, h2, h3⟩
          · have := g1.1
            refine ⟨by rw [g2, h2], ?_, by omega, by omega⟩
            rw [h3, g3, hXY (p + 8) (by omega), hXY (p + 9) (by omega), Int32.mul_comm]
          · exact absurd (dgt_X (fun k hk => (hXY k hk).symm) g1) h1
          · exact absurd (dgt_X hXY h1) g1
          · refine ⟨by rw [g2, h2], ?_, by omega, by omega⟩
            rw [h3, g3, hXY (p + 8) (by omega)]
        obtain ⟨q1, q2, q3, q4⟩ := hq
        exact ⟨7, cv, q, m2, by decide, hOk hfull, d1, q3, q4, a1, a2, b2, q1, a3, ⟨by decide, d2, n1, fun h => absurd h (by decide), fun h => absurd h (by decide), fun h => absurd h (by decide), fun h => absurd h (by decide), fun h => absurd h (by decide), fun _ => ⟨f0, q2⟩⟩, n2⟩
