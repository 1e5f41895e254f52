/-! ===== seams: the reference's labels ===== -/
def pos (w : Nat → Int32) (c : Nat) : Prop := ¬ w (19 + 7 * c) ≤ 0
def LMk (m : MV) (f : Nat → Nat) : Prop := ∀ c, c < 30 → (pos (mNow m) c → mMarks m c = nI (f c)) ∧ (¬ pos (mNow m) c → mMarks m c = -1)
/-- labels: of the same seam, none greater than the cell -/
def LOk (w : Nat → Int32) (f : Nat → Nat) : Prop := ∀ c, c < 30 → pos w c → f c < 30 ∧ Cn (SE w) c (f c) ∧ f c ≤ c
theorem nI_ne_m1 {n : Nat} (h : n < 30) : ¬ nI n = -1 := (by decide +kernel : ∀ n : Fin 30, ¬ nI n.val = -1) ⟨n, h⟩
theorem m_lower (m : MV) (f : Nat → Nat) (hf : LOk (mNow m) f) (hm : LMk m f) (c : Nat) (hc : c < 30) :
    ∃ m' f', f_X11_marksLower m (nI c) = some m' ∧ Kept m m' ∧ mThrown m' = mThrown m ∧ LMk m' f' ∧ LOk (mNow m) f' ∧ (∀ x, x ≠ c → f' x = f x) ∧ f' c ≤ f c ∧ ∀ d, SE (mNow m) c d → f' c ≤ f d := by
  obtain ⟨r, h1, f', h2⟩ := lpL (body := fun s : Int32 × MV => f_X11_marksLower_L2 (nI c) s.1 s.2)
    (fun k s => ∃ f', s.1 = nI k ∧ Kept m s.2 ∧ mThrown s.2 = mThrown m ∧ LMk s.2 f' ∧ LOk (mNow m) f' ∧ (∀ x, x ≠ c → f' x = f x) ∧ f' c ≤ f c ∧ ∀ j d, j < k → nb c (sd j) = some d → SE (mNow m) c d → f' c ≤ f d)
    (fun r => ∃ f', Kept m r.2 ∧ mThrown r.2 = mThrown m ∧ LMk r.2 f' ∧ LOk (mNow m) f' ∧ (∀ x, x ≠ c → f' x = f x) ∧ f' c ≤ f c ∧ ∀ d, SE (mNow m) c d → f' c ≤ f d) 4
    (fun k s hk ⟨f', e1, kp, et, hl, ho, hx, hle, hsn⟩ => by
      obtain ⟨x, m1⟩ := s
      have e1 : x = nI k := e1
      have kp : Kept m m1 := kp
      have et : mThrown m1 = mThrown m := et
      have hl : LMk m1 f' := hl
      subst e1
      have hj : jIn (nI c) 30 := nIin hc (by decide)
      have hcl : (nI c).toNatClampNeg = c := nI_clamp (by omega)
      have hsd : sd k < 4 := by unfold sd; split <;> omega
      show (∃ s', f_X11_marksLower_L2 (nI c) (nI k) m1 = _ ∧ _) ∨ (∃ r, f_X11_marksLower_L2 (nI c) (nI k) m1 = _ ∧ _)
      by_cases hp : pos (mNow m) c
      · left
        have hfc : f' c < 30 := (ho c hc hp).1
        have hmc : mMarks m1 c = nI (f' c) := (hl c hc).1 (by rw [kp.now]; exact hp)
        have hun : f_X11_marksLower_L2 (nI c) (nI k) m1 = (if enc (nb c (sd k)) = -1 then f_X11_marksLower_J57 m1 (nI c) (nI k) (enc (nb c (sd k))) else if jIn (enc (nb c (sd k))) 30 then (if mMarks m1 (enc (nb c (sd k))).toNatClampNeg = -1 then f_X11_marksLower_J57 m1 (nI c) (nI k) (enc (nb c (sd k))) else (f_X11_of m1 (enc (nb c (sd k))) 1).bind fun o5 => (f_X11_of m1 (nI c) 1).bind fun o7 => if o5 = o7 then f_X11_marksLower_J58 m1 (nI c) (nI k) (enc (nb c (sd k))) 1 else f_X11_marksLower_J57 m1 (nI c) (nI k) (enc (nb c (sd k)))) else none) := by
          unfold f_X11_marksLower_L2
          rw [if_neg (show ¬ (4 : Int32) ≤ nI k from nI_ge (a := k) (b := 4) hk (by decide)), if_pos hj, hcl, hmc, if_neg (nI_ne_m1 hfc), m_nb c k hc hk]
          rfl
        have hsame : ∃ s', f_X11_marksLower_J57 m1 (nI c) (nI k) (enc (nb c (sd k))) = some (Sum.inl s') ∧ s'.1 = nI (k + 1) ∧ Kept m s'.2 ∧ mThrown s'.2 = mThrown m ∧ LMk s'.2 f' := by
          refine ⟨(nI (k + 1), mSMarks (upd (mMarks m1) c (mMarks m1 c)) m1), ?_, rfl, kp.tr (Kept.marks _ _), et, ?_⟩
          · unfold f_X11_marksLower_J57 f_X11_marksLower_J58
            rw [if_pos rfl, if_pos hj, hcl]
            unfold f_X11_marksLower_J94
            rw [if_pos hj, hcl, ← nI_1]
            rfl
          · intro x hx30
            have hux : upd (mMarks m1) c (mMarks m1 c) x = mMarks m1 x := by
              by_cases e : x = c
              · subst e; rw [upd_at]
              · rw [upd_ne _ _ e]
            show (_ → upd (mMarks m1) c (mMarks m1 c) x = _) ∧ (_ → upd (mMarks m1) c (mMarks m1 c) x = _)
            rw [hux]
            exact hl x hx30
        rw [hun]
        cases hn : nb c (sd k) with
        | none =>
          rw [if_pos (show enc none = -1 from rfl)]
          rw [hn] at hsame
          obtain ⟨s', q1, q2, q3, q4, q5⟩ := hsame
          refine ⟨s', q1, f', q2, q3, q4, q5, ho, hx, hle, fun j d hj he hs => ?_⟩
          by_cases ej : j = k
          · subst ej; rw [hn] at he; cases he
          · exact hsn j d (by omega) he hs
        | some d =>
          have hd := nb_lt hc hsd hn
          have hjd : jIn (nI d) 30 := nIin hd (by decide)
          have hld : (nI d).toNatClampNeg = d := nI_clamp (by omega)
          rw [hn] at hsame
          rw [if_neg (enc_ne hd)]
          show ∃ s', (if jIn (nI d) 30 then (if mMarks m1 (nI d).toNatClampNeg = -1 then _ else _) else none) = _ ∧ _
          rw [if_pos hjd, hld]
          have o1 : ∀ z, z < 30 → f_X11_of m1 (nI z) 1 = some (mNow m (20 + 7 * z)) := fun z hz => by rw [show (1 : Int32) = nI 1 from rfl, m_of z 1 (by omega), kp.now]; congr 2; omega
          by_cases hse : SE (mNow m) c d
          · have hpd : pos (mNow m) d := hse.2.2.2.1
            have hmd : mMarks m1 d = nI (f' d) := (hl d hd).1 (by rw [kp.now]; exact hpd)
            have hfd : f' d < 30 := (ho d hd hpd).1
            have hdc : d ≠ c := fun e => by
              subst e
              have := (by decide +kernel : ∀ c : Fin 30, ∀ k : Fin 4, nb c.val k.val ≠ some c.val) ⟨d, hd⟩ ⟨sd k, hsd⟩
              exact this hn
            have hfd0 : f' d = f d := hx d hdc
            rw [if_neg (by rw [hmd]; exact nI_ne_m1 hfd)]
            show ∃ s', ((f_X11_of m1 (nI d) 1).bind fun o5 => (f_X11_of m1 (nI c) 1).bind fun o7 => if o5 = o7 then f_X11_marksLower_J58 m1 (nI c) (nI k) (nI d) 1 else f_X11_marksLower_J57 m1 (nI c) (nI k) (nI d)) = _ ∧ _
            rw [o1 d hd, o1 c hc]
            show ∃ s', (if mNow m (20 + 7 * d) = mNow m (20 + 7 * c) then f_X11_marksLower_J58 m1 (nI c) (nI k) (nI d) 1 else _) = _ ∧ _
            rw [if_pos hse.2.2.2.2.symm]
            refine ⟨(nI (k + 1), mSMarks (upd (mMarks m1) c (nI (min (f' c) (f' d)))) m1), ?_, fun x => if x = c then min (f' c) (f' d) else f' x, rfl, kp.tr (Kept.marks _ _), et, ?_, ?_, ?_, ?_, ?_⟩
            · unfold f_X11_marksLower_J58
              rw [if_neg (by decide), if_pos hj, if_pos hjd, hcl, hld, hmc, hmd, jMin_nI (by omega) (by omega)]
              unfold f_X11_marksLower_J94
              rw [if_pos hj, hcl, ← nI_1]
              rfl
            · intro x hx30
              show (_ → upd (mMarks m1) c _ x = nI (if x = c then min (f' c) (f' d) else f' x)) ∧ (_ → upd (mMarks m1) c _ x = -1)
              by_cases e : x = c
              · subst e
                rw [upd_at, if_pos rfl]
                exact ⟨fun _ => rfl, fun h9 => absurd (by show pos (mNow m1) x; rw [kp.now]; exact hp) h9⟩
              · rw [upd_ne _ _ e, if_neg e]
                exact hl x hx30
            · intro x hx30 hpx
              by_cases e : x = c
              · subst e
                simp only [↓reduceIte]
                have hc1 := ho x hx30 hpx
                have hd1 := ho d hd hpd
                refine ⟨by omega, ?_, by omega⟩
                by_cases hmin : f' x ≤ f' d
                · rw [Nat.min_eq_left hmin]; exact hc1.2.1
                · rw [Nat.min_eq_right (by omega)]; exact (Cn.one hse).tr hd1.2.1
              · simp only [if_neg e]
                exact ho x hx30 hpx
            · intro x hxc
              simp only [if_neg hxc]
              exact hx x hxc
            · simp only [↓reduceIte]
              omega
            · intro j d' hj' he hs
              simp only [↓reduceIte]
              by_cases ej : j = k
              · subst ej
                rw [hn] at he
                cases he
                omega
              · have := hsn j d' (by omega) he hs
                omega
          · have hskip : ∃ s', (if mMarks m1 d = -1 then f_X11_marksLower_J57 m1 (nI c) (nI k) (nI d) else (f_X11_of m1 (nI d) 1).bind fun o5 => (f_X11_of m1 (nI c) 1).bind fun o7 => if o5 = o7 then f_X11_marksLower_J58 m1 (nI c) (nI k) (nI d) 1 else f_X11_marksLower_J57 m1 (nI c) (nI k) (nI d)) = some (Sum.inl s') ∧ s'.1 = nI (k + 1) ∧ Kept m s'.2 ∧ mThrown s'.2 = mThrown m ∧ LMk s'.2 f' := by
              by_cases hpd : pos (mNow m) d
              · have hmd : mMarks m1 d = nI (f' d) := (hl d hd).1 (by rw [kp.now]; exact hpd)
                rw [if_neg (by rw [hmd]; exact nI_ne_m1 (ho d hd hpd).1), o1 d hd, o1 c hc]
                show ∃ s', (if mNow m (20 + 7 * d) = mNow m (20 + 7 * c) then _ else f_X11_marksLower_J57 m1 (nI c) (nI k) (nI d)) = _ ∧ _
                rw [if_neg (fun e => hse ⟨hc, ⟨sd k, hsd, hn⟩, hp, hpd, e.symm⟩)]
                exact hsame
              · rw [if_pos ((hl d hd).2 (by rw [kp.now]; exact hpd))]
                exact hsame
            obtain ⟨s', q1, q2, q3, q4, q5⟩ := hskip
            refine ⟨s', q1, f', q2, q3, q4, q5, ho, hx, hle, fun j d' hj' he hs => ?_⟩
            by_cases ej : j = k
            · subst ej
              rw [hn] at he
              cases he
              exact absurd hs hse
            · exact hsn j d' (by omega) he hs
      · right
        refine ⟨(nI k, m1), ?_, f', kp, et, hl, ho, hx, hle, fun d hs => absurd hs.2.2.1 hp⟩
        unfold f_X11_marksLower_L2
        rw [if_neg (show ¬ (4 : Int32) ≤ nI k from nI_ge (a := k) (b := 4) hk (by decide)), if_pos hj, hcl, if_pos ((hl c hc).2 (by rw [kp.now]; exact hp))])
    (fun s ⟨f', e1, kp, et, hl, ho, hx, hle, hsn⟩ => ⟨s, by
      obtain ⟨x, m1⟩ := s
      have e1 : x = nI 4 := e1
      subst e1
      show f_X11_marksLower_L2 (nI c) (nI 4) m1 = _
      unfold f_X11_marksLower_L2
      rw [if_pos (show (4 : Int32) ≤ nI 4 from Int32.le_refl _)], f', kp, et, hl, ho, hx, hle, fun d hs => by
        obtain ⟨_, ⟨k, hk, hn⟩, _⟩ := id hs
        obtain ⟨j, hj, ej⟩ : ∃ j, j < 4 ∧ sd j = k := by
          rcases (show k = 0 ∨ k = 1 ∨ k = 2 ∨ k = 3 by omega) with rfl | rfl | rfl | rfl
          · exact ⟨0, by omega, rfl⟩
          · exact ⟨3, by omega, rfl⟩
          · exact ⟨1, by omega, rfl⟩
          · exact ⟨2, by omega, rfl⟩
        exact hsn j d hj (by rw [ej]; exact hn) hs⟩) 5000 0 (nI 0, m) (by omega) (by omega) ⟨f, rfl, ⟨rfl, rfl, rfl, rfl, rfl, rfl, rfl, rfl, rfl, rfl, rfl⟩, rfl, hm, hf, fun _ _ => rfl, Nat.le_refl _, fun j d hj => absurd hj (Nat.not_lt_zero _)⟩
  obtain ⟨q1, q2, q3, q4, q5, q6, q7⟩ := h2
  refine ⟨r.2, f', ?_, q1, q2, q3, q4, q5, q6, q7⟩
  unfold f_X11_marksLower
  rw [show (0 : Int32) = nI 0 from rfl, h1]
  rfl
