/-! the rounds of the labels -/
theorem Kept.rf (m : MV) : Kept m m := ⟨rfl, rfl, rfl, rfl, rfl, rfl, rfl, rfl, rfl, rfl, rfl⟩
theorem m_mark0 (m : MV) : ∃ r : Int32 × MV, jbL (fun s => f_X11_marksSeams_L2 s.1 s.2) 5000 (0, m) = some r ∧ Kept m r.2 ∧ mThrown r.2 = mThrown m ∧ LMk r.2 (fun c => c) := by
  obtain ⟨r, h1, h2, h3, h4⟩ := lpL (body := fun s : Int32 × MV => f_X11_marksSeams_L2 s.1 s.2)
    (fun k s => s.1 = nI k ∧ Kept m s.2 ∧ mThrown s.2 = mThrown m ∧ ∀ c, c < k → (pos (mNow m) c → mMarks s.2 c = nI c) ∧ (¬ pos (mNow m) c → mMarks s.2 c = -1))
    (fun r => Kept m r.2 ∧ mThrown r.2 = mThrown m ∧ ∀ c, c < 30 → (pos (mNow m) c → mMarks r.2 c = nI c) ∧ (¬ pos (mNow m) c → mMarks r.2 c = -1)) 30
    (fun k s hk ⟨e1, kp, et, ha⟩ => by
      left
      obtain ⟨x, m1⟩ := s
      have e1 : x = nI k := e1
      have kp : Kept m m1 := kp
      have et : mThrown m1 = mThrown m := et
      have ha : ∀ c, c < k → (pos (mNow m) c → mMarks m1 c = nI c) ∧ (¬ pos (mNow m) c → mMarks m1 c = -1) := ha
      subst e1
      have hj : jIn (nI k) 30 := nIin hk (by decide)
      have hcl : (nI k).toNatClampNeg = k := nI_clamp (by omega)
      have o0 : f_X11_of m1 (nI k) 0 = some (mNow m (19 + 7 * k)) := by rw [show (0 : Int32) = nI 0 from rfl, m_of k 0 (by omega), kp.now]; rfl
      have hJ : ∀ y, f_X11_marksSeams_J27 m1 (nI k) y (nI k) = some (.inl (nI (k + 1), mSMarks (upd (mMarks m1) k y) m1)) := by
        intro y
        unfold f_X11_marksSeams_J27
        simp only [if_pos hj, hcl, jb_u, nI_1]
      have hun : f_X11_marksSeams_L2 (nI k) m1 = if mNow m (19 + 7 * k) ≤ 0 then some (.inl (nI (k + 1), mSMarks (upd (mMarks m1) k (-1)) m1)) else some (.inl (nI (k + 1), mSMarks (upd (mMarks m1) k (nI k)) m1)) := by
        unfold f_X11_marksSeams_L2
        rw [if_neg (show ¬ (30 : Int32) ≤ nI k from nI_ge (a := k) (b := 30) hk (by decide))]
        simp only [o0, ob_s, hJ]
      show ∃ s', f_X11_marksSeams_L2 (nI k) m1 = _ ∧ _
      rw [hun]
      have hrow : ∀ y, (pos (mNow m) k → y = nI k) → (¬ pos (mNow m) k → y = -1) → ∀ c, c < k + 1 → (pos (mNow m) c → mMarks (mSMarks (upd (mMarks m1) k y) m1) c = nI c) ∧ (¬ pos (mNow m) c → mMarks (mSMarks (upd (mMarks m1) k y) m1) c = -1) := by
        intro y y1 y2 c hc
        show (_ → upd (mMarks m1) k y c = _) ∧ (_ → upd (mMarks m1) k y c = _)
        by_cases e : c = k
        · subst e
          rw [upd_at]
          exact ⟨y1, y2⟩
        · rw [upd_ne _ _ e]
          exact ha c (by omega)
      by_cases hp : mNow m (19 + 7 * k) ≤ 0
      · rw [if_pos hp]
        exact ⟨_, rfl, rfl, kp.tr (Kept.marks _ _), et, hrow (-1) (fun h => absurd hp h) (fun _ => rfl)⟩
      · rw [if_neg hp]
        exact ⟨_, rfl, rfl, kp.tr (Kept.marks _ _), et, hrow (nI k) (fun _ => rfl) (fun h => absurd hp h)⟩)
    (fun s ⟨e1, kp, et, ha⟩ => ⟨s, by
      obtain ⟨x, m1⟩ := s
      have e1 : x = nI 30 := e1
      subst e1
      show f_X11_marksSeams_L2 (nI 30) m1 = _
      unfold f_X11_marksSeams_L2
      rw [if_pos (show (30 : Int32) ≤ nI 30 from Int32.le_refl _)], kp, et, ha⟩) 5000 0 (nI 0, m) (by omega) (by omega) ⟨rfl, Kept.rf m, rfl, fun c hc => absurd hc (Nat.not_lt_zero _)⟩
  exact ⟨r, h1, h2, h3, fun c hc => by rw [h2.now]; exact h4 c hc⟩
/-- one round -/
theorem m_round (m : MV) (x1 : Int32) (f : Nat → Nat) (hf : LOk (mNow m) f) (hm : LMk m f) : ∃ (r : Int32 × MV) (f' : Nat → Nat), jbL (fun s => f_X11_marksSeams_L44 x1 s.1 s.2) 5000 (0, m) = some r ∧ Kept m r.2 ∧ mThrown r.2 = mThrown m ∧ LMk r.2 f' ∧ LOk (mNow m) f' ∧ (∀ x, f' x ≤ f x) ∧ ∀ x d, SE (mNow m) x d → f' x ≤ f d := by
  obtain ⟨r, h1, f', h2⟩ := lpL (body := fun s : Int32 × MV => f_X11_marksSeams_L44 x1 s.1 s.2)
    (fun k s => ∃ f', s.1 = nI k ∧ Kept m s.2 ∧ mThrown s.2 = mThrown m ∧ LMk s.2 f' ∧ LOk (mNow m) f' ∧ (∀ x, f' x ≤ f x) ∧ ∀ x d, x < k → SE (mNow m) x d → f' x ≤ f d)
    (fun r => ∃ f', Kept m r.2 ∧ mThrown r.2 = mThrown m ∧ LMk r.2 f' ∧ LOk (mNow m) f' ∧ (∀ x, f' x ≤ f x) ∧ ∀ x d, x < 30 → SE (mNow m) x d → f' x ≤ f d) 30
    (fun k s hk ⟨f', e1, kp, et, hl, ho, hle, hs⟩ => by
      left
      obtain ⟨x, m1⟩ := s
      have e1 : x = nI k := e1
      have kp : Kept m m1 := kp
      have et : mThrown m1 = mThrown m := et
      have hl : LMk m1 f' := hl
      subst e1
      obtain ⟨m2, f2, a1, a2, a3, a4, a5, a6, a7, a8⟩ := m_lower m1 f' (by rw [kp.now]; exact ho) hl k hk
      rw [kp.now] at a5 a8
      refine ⟨(nI (k + 1), m2), ?_, f2, rfl, kp.tr a2, a3.trans et, a4, a5, fun x => ?_, fun x d hx hsx => ?_⟩
      · show f_X11_marksSeams_L44 x1 (nI k) m1 = _
        unfold f_X11_marksSeams_L44
        rw [if_neg (show ¬ (30 : Int32) ≤ nI k from nI_ge (a := k) (b := 30) hk (by decide)), a1]
        simp only [ob_s, nI_1]
      · by_cases e : x = k
        · subst e; exact Nat.le_trans a7 (hle x)
        · rw [a6 x e]; exact hle x
      · by_cases e : x = k
        · subst e; exact Nat.le_trans (a8 d hsx) (hle d)
        · rw [a6 x e]; exact hs x d (by omega) hsx)
    (fun s ⟨f', e1, kp, et, hl, ho, hle, hs⟩ => ⟨s, by
      obtain ⟨x, m1⟩ := s
      have e1 : x = nI 30 := e1
      subst e1
      show f_X11_marksSeams_L44 x1 (nI 30) m1 = _
      unfold f_X11_marksSeams_L44
      rw [if_pos (show (30 : Int32) ≤ nI 30 from Int32.le_refl _)], f', kp, et, hl, ho, hle, hs⟩) 5000 0 (nI 0, m) (by omega) (by omega) ⟨f, rfl, Kept.rf m, rfl, hm, hf, fun _ => Nat.le_refl _, fun x d hx => absurd hx (Nat.not_lt_zero _)⟩
  obtain ⟨q1, q2, q3, q4, q5, q6⟩ := h2
  exact ⟨r, f', h1, q1, q2, q3, q4, q5, fun x d h => q6 x d h.1 h⟩
/-- the labels at the end: each cell's is the least of its seam -/
theorem m_marks (m : MV) : ∃ m' f, f_X11_marksSeams m = some m' ∧ Kept m m' ∧ mThrown m' = mThrown m ∧ LMk m' f ∧ LOk (mNow m) f ∧ ∀ c d, c < 30 → pos (mNow m) c → Cn (SE (mNow m)) c d → f c = f d := by
  obtain ⟨r0, b1, b2, b3, b4⟩ := m_mark0 m
  have hok0 : LOk (mNow m) (fun c => c) := fun c hc _ => ⟨hc, Cn.rf c, Nat.le_refl _⟩
  obtain ⟨r, h1, f, kp, et, hl, ho, hw⟩ := lpL (body := fun s : Int32 × MV => f_X11_marksSeams_L36 s.1 s.2)
    (fun k s => ∃ f, s.1 = nI k ∧ Kept m s.2 ∧ mThrown s.2 = mThrown m ∧ LMk s.2 f ∧ LOk (mNow m) f ∧ ∀ s c, wi (SE (mNow m)) s k c → f c ≤ s)
    (fun r => ∃ f, Kept m r.2 ∧ mThrown r.2 = mThrown m ∧ LMk r.2 f ∧ LOk (mNow m) f ∧ ∀ s c, wi (SE (mNow m)) s 30 c → f c ≤ s) 30
    (fun k s hk ⟨f, e1, kp, et, hl, ho, hw⟩ => by
      left
      obtain ⟨x, m1⟩ := s
      have e1 : x = nI k := e1
      have kp : Kept m m1 := kp
      have et : mThrown m1 = mThrown m := et
      have hl : LMk m1 f := hl
      subst e1
      obtain ⟨r, f', a1, a2, a3, a4, a5, a6, a7⟩ := m_round m1 (nI k) f (by rw [kp.now]; exact ho) hl
      rw [kp.now] at a5 a7
      refine ⟨(nI (k + 1), r.2), ?_, f', rfl, kp.tr a2, a3.trans et, a4, a5, fun s c hsc => ?_⟩
      · show f_X11_marksSeams_L36 (nI k) m1 = _
        unfold f_X11_marksSeams_L36
        rw [if_neg (show ¬ (30 : Int32) ≤ nI k from nI_ge (a := k) (b := 30) hk (by decide)), a1]
        simp only [ob_s, nI_1]
      · rcases hsc with h | ⟨d, h, hE⟩
        · exact Nat.le_trans (a6 c) (hw s c h)
        · exact Nat.le_trans (a7 c d (SE_sy _ _ hE)) (hw s d h))
    (fun s ⟨f, e1, kp, et, hl, ho, hw⟩ => ⟨s, by
      obtain ⟨x, m1⟩ := s
      have e1 : x = nI 30 := e1
      subst e1
      show f_X11_marksSeams_L36 (nI 30) m1 = _
      unfold f_X11_marksSeams_L36
      rw [if_pos (show (30 : Int32) ≤ nI 30 from Int32.le_refl _)], f, kp, et, hl, ho, hw⟩) 5000 0 (nI 0, r0.2) (by omega) (by omega) ⟨fun c => c, rfl, b2, b3, b4, hok0, fun s c h => by rw [show c = s from h]; exact Nat.le_refl _⟩
  refine ⟨r.2, f, ?_, kp, et, hl, ho, fun c d hc hp hcd => ?_⟩
  · have h1' : jbL (fun s : Int32 × MV => f_X11_marksSeams_L36 s.1 s.2) 5000 (0, r0.2) = some r := h1
    unfold f_X11_marksSeams
    rw [b1]
    simp only [ob_s, h1']
  · have hE : ∀ a b, SE (mNow m) a b → b < 30 := fun a b h => SE_lt h
    have hd30 : d < 30 := by
      have := wi_lt hE hc (cn_wi hE hc hcd)
      exact this
    have hpd : pos (mNow m) d := Cn.ind (P := fun d => pos (mNow m) d) hp (fun a b _ _ e => e.2.2.2.1) hcd
    have h2 := ho c hc hp
    have h3 := ho d hd30 hpd
    have k1 : Cn (SE (mNow m)) (f d) c := Cn.sy SE_sy (hcd.tr h3.2.1)
    have k2 : Cn (SE (mNow m)) (f c) d := (Cn.sy SE_sy h2.2.1).tr hcd
    have l1 := hw (f d) c (wi_up (by omega) (cn_wi hE h3.1 k1))
    have l2 := hw (f c) d (wi_up (by omega) (cn_wi hE h2.1 k2))
    omega
