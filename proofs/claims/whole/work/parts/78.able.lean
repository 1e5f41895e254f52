/-! ===== what a winch can lift now ===== -/
def canL (w : Nat → Int32) (i c : Nat) : Prop := w (21 + 7 * c) = 0 ∧ ∃ j s, j < 3 ∧ s ≤ 3 ∧ w (22 + 7 * c) = nI (j + 1) ∧ w (23 + 7 * c + j) = nI s ∧ ableW w i c s
theorem q_hasWi {q : QV} {w : Nat → Int32} {n i : Nat} (hr : RelQ q w) (en : w 5 = nI n) (hn : n ≤ 3) (hi : i < n) : f_X7_hasWinch q (nI i) = some 1 := by
  unfold f_X7_hasWinch
  rw [if_neg (nI_pos (by omega)), hr.nw, en, if_neg (nI_ge hi (by omega))]
theorem canL_un {w : Nat → Int32} {i c j s : Nat} (hj : j < 3) (hs : s ≤ 3) (en : w (22 + 7 * c) = nI (j + 1)) (es : w (23 + 7 * c + j) = nI s) : canL w i c ↔ w (21 + 7 * c) = 0 ∧ ableW w i c s := by
  constructor
  · intro ⟨h0, j', s', hj', hs', en', es', ha⟩
    rw [en, nI_eq (by omega) (by omega)] at en'
    have e : j' = j := by omega
    subst e
    rw [es, nI_eq (by omega) (by omega)] at es'
    subst es'
    exact ⟨h0, ha⟩
  · intro ⟨h0, ha⟩
    exact ⟨h0, j, s, hj, hs, en, es, ha⟩
theorem canL_0 {w : Nat → Int32} {i c : Nat} (en : w (22 + 7 * c) = nI 0) : ¬ canL w i c := by
  intro ⟨h0, j', s', hj', hs', en', es', ha⟩
  rw [en, nI_eq (by omega) (by omega)] at en'
  omega
theorem q_able {q : QV} {w : Nat → Int32} {t : Nat} (hr : RelQ q w) (hi : InvW t w) (i r k : Nat) (hi3 : i < 3) (hw : f_X7_hasWinch q (nI i) = some 1) (hrr : r < 5) (hk : k < 6) : (canL w i (6 * r + k) → f_X7_liftFault q (nI i) (nI r) (nI k) = some 0) ∧ (¬ canL w i (6 * r + k) → ∃ z, z < 5 ∧ f_X7_liftFault q (nI i) (nI r) (nI k) = some (z + 1)) := by
  have hc : 6 * r + k < 30 := by omega
  obtain ⟨n, hn, en⟩ := hi.n (6 * r + k) hc
  rcases (show n = 0 ∨ ∃ j, n = j + 1 from by cases n with | zero => exact Or.inl rfl | succ j => exact Or.inr ⟨j, rfl⟩) with hz | ⟨j, hz⟩
  · subst hz
    refine ⟨fun h => absurd h (canL_0 en), fun _ => ⟨2, by omega, ?_⟩⟩
    obtain ⟨g1, g2, g3, g4⟩ := g_cell r k hrr hk
    generalize 6 * r + k = c at *
    have jc : jIn (nI c) 30 := nIin hc (by decide)
    have lc : (nI c).toNatClampNeg = c := nI_clamp (by omega)
    have htop : f_X7_topFault q (nI r) (nI k) = some 3 := by
      unfold f_X7_topFault
      simp only [g1, g2, ob_s, n06, ↓reduceIte, if_pos jc, lc, hr.n c hc, en, if_pos (show nI 0 ≤ (0 : Int32) from Int32.le_refl _)]
    unfold f_X7_liftFault
    simp only [hw, htop, ob_s, i10, n36, ↓reduceIte, n30]
  · subst hz
    obtain ⟨s, hs, es⟩ := hi.b (6 * r + k) j hc (by omega)
    obtain ⟨f1, f2, f3⟩ := q_liftFault hr hi i r k j s hi3 hw hrr hk (by omega) en es
    rw [canL_un (i := i) (show j < 3 by omega) hs en es]
    refine ⟨fun h => f1 h.1 h.2, fun h => ?_⟩
    by_cases h0 : w (21 + 7 * (6 * r + k)) = 0
    · exact ⟨4, by omega, f2 h0 (fun ha => h ⟨h0, ha⟩)⟩
    · exact ⟨3, by omega, f3 h0⟩
theorem m_able {t : Nat} (m : MV) (hi : InvW t (mNow m)) (i c : Nat) (hi3 : i < 3) (hc : c < 30) : f_X11_of m (nI c) 2 = some (mNow m (21 + 7 * c)) ∧ (canL (mNow m) i c → mNow m (21 + 7 * c) = 0 ∧ f_X11_canLift m (nI i) (nI c) = some 1) ∧ (¬ canL (mNow m) i c → mNow m (21 + 7 * c) = 0 → f_X11_canLift m (nI i) (nI c) = some 0) := by
  have o2 : f_X11_of m (nI c) 2 = some (mNow m (21 + 7 * c)) := by rw [show (2 : Int32) = nI 2 from rfl, m_of c 2 (by omega)]; congr 2; omega
  obtain ⟨f1, f2⟩ := m_canLift m hi i c hi3 hc
  obtain ⟨n, hn, en⟩ := hi.n c hc
  rcases (show n = 0 ∨ ∃ j, n = j + 1 from by cases n with | zero => exact Or.inl rfl | succ j => exact Or.inr ⟨j, rfl⟩) with hz | ⟨j, hz⟩
  · subst hz
    exact ⟨o2, fun h => absurd h (canL_0 en), fun _ _ => f2 en⟩
  · subst hz
    obtain ⟨s, hs, es⟩ := hi.b c j hc (by omega)
    obtain ⟨f3, f4⟩ := f1 j s (by omega) en es hs
    rw [canL_un (i := i) (show j < 3 by omega) hs en es]
    exact ⟨o2, fun h => ⟨h.1, f3 h.2⟩, fun h h0 => f4 (fun ha => h ⟨h0, ha⟩)⟩
theorem q_countL {q : QV} {w : Nat → Int32} {t : Nat} (hr : RelQ q w) (hi : InvW t w) (i : Nat) (hi3 : i < 3) (hw : f_X7_hasWinch q (nI i) = some 1) : f_X7_countLiftable q (nI i) = some (nI (cnt (canL w i) 30)) := by
  have hl : jbL (fun s : Int32 × Int32 => f_X7_countLiftable_L4 q (nI i) s.1 s.2) 5000 (nI (cnt (canL w i) 0), nI 0) = some (nI (cnt (canL w i) 30), nI 30) := by
    refine lpD (fun k => (nI (cnt (canL w i) k), nI k)) _ 30 (fun k hk => ?_) ?_ 5000 (by decide)
    · show f_X7_countLiftable_L4 q (nI i) (nI (cnt (canL w i) k)) (nI k) = some (Sum.inl (nI (cnt (canL w i) (k + 1)), nI (k + 1)))
      obtain ⟨hr5, hk6, hrk⟩ := rc_of k hk
      obtain ⟨f1, f2⟩ := q_able hr hi i (k / 6) (k % 6) hi3 hw hr5 hk6
      rw [hrk] at f1 f2
      unfold f_X7_countLiftable_L4 f_X7_countLiftable_J32
      rw [if_neg (show ¬ (30 : Int32) ≤ nI k from nI_ge (a := k) (b := 30) hk (by decide)), g_row k hk, g_col k hk]
      by_cases h : canL w i k
      · simp only [ob_s, f1 h, n06, ↓reduceIte, nI_1, cnt_yes (p := canL w i) h]
      · obtain ⟨z, hz, e⟩ := f2 h
        have hz6 : z + 1 < 6 := by omega
        have hz0 : ¬ z + 1 = 0 := by omega
        simp only [ob_s, e, if_pos hz6, if_neg hz0, nI_1, cnt_no (p := canL w i) h]
    · show f_X7_countLiftable_L4 q _ _ (nI 30) = _
      unfold f_X7_countLiftable_L4
      rw [if_pos (show (30 : Int32) ≤ nI 30 from Int32.le_refl _)]
  have hl' : jbL (fun s : Int32 × Int32 => f_X7_countLiftable_L4 q (nI i) s.1 s.2) 5000 ((0 : Int32), (0 : Int32)) = some (nI (cnt (canL w i) 30), nI 30) := hl
  unfold f_X7_countLiftable
  simp only [hl', ob_s]
theorem m_countL {t : Nat} (m : MV) (hi : InvW t (mNow m)) (i : Nat) (hi3 : i < 3) (hw : f_X11_isWinch m (nI i) = some 1) : f_X11_liftableCells m (nI i) = some (nI (cnt (canL (mNow m) i) 30), mSThrown 0 m) := by
  have hl : jbL (fun s : Int32 × Int32 => f_X11_liftableCells_L4 m (nI i) s.1 s.2) 5000 (nI (cnt (canL (mNow m) i) 0), nI 0) = some (nI (cnt (canL (mNow m) i) 30), nI 30) := by
    refine lpD (fun k => (nI (cnt (canL (mNow m) i) k), nI k)) _ 30 (fun k hk => ?_) ?_ 5000 (by decide)
    · show f_X11_liftableCells_L4 m (nI i) (nI (cnt (canL (mNow m) i) k)) (nI k) = some (Sum.inl (nI (cnt (canL (mNow m) i) (k + 1)), nI (k + 1)))
      obtain ⟨o2, f1, f2⟩ := m_able m hi i k hi3 hk
      have h42 : ∀ v x : Nat, f_X11_liftableCells_J42 m (nI i) (nI k) (nI v) (nI x) = some (.inl (nI (x + v), nI (k + 1))) := by
        intro v x
        unfold f_X11_liftableCells_J42
        simp only [jb_u, nI_add, nI_1]
      have h41 : ∀ x : Nat, f_X11_liftableCells_J41 m (nI i) (nI k) (nI x) = some (.inl (nI x, nI (k + 1))) := fun x => h42 0 x
      have h42' : ∀ x : Nat, f_X11_liftableCells_J42 m (nI i) (nI k) 1 (nI x) = some (.inl (nI (x + 1), nI (k + 1))) := fun x => h42 1 x
      unfold f_X11_liftableCells_L4
      rw [if_neg (show ¬ (30 : Int32) ≤ nI k from nI_ge (a := k) (b := 30) hk (by decide))]
      by_cases h : canL (mNow m) i k
      · simp only [hw, ob_s, i10, ↓reduceIte, o2, (f1 h).1, (f1 h).2, h42', cnt_yes (p := canL (mNow m) i) h]
      · by_cases h0 : mNow m (21 + 7 * k) = 0
        · simp only [hw, ob_s, i10, ↓reduceIte, o2, h0, f2 h h0, h41, cnt_no (p := canL (mNow m) i) h]
        · simp only [hw, ob_s, i10, ↓reduceIte, o2, if_neg h0, h41, cnt_no (p := canL (mNow m) i) h]
    · show f_X11_liftableCells_L4 m _ _ (nI 30) = _
      unfold f_X11_liftableCells_L4
      rw [if_pos (show (30 : Int32) ≤ nI 30 from Int32.le_refl _)]
  have hl' : jbL (fun s : Int32 × Int32 => f_X11_liftableCells_L4 m (nI i) s.1 s.2) 5000 ((0 : Int32), (0 : Int32)) = some (nI (cnt (canL (mNow m) i) 30), nI 30) := hl
  unfold f_X11_liftableCells
  simp only [hl', ob_s, hw, m_goes0, i10, ↓reduceIte]
theorem ask_liftable {S : Sys} {T : Nat} (h : RelS T S) (tv : TV) (a : Int32) : Ask [0] (f_X10_liftableCells tv S.qv a) (f_X11_liftableCells S.mv a) S.mv := by
  obtain ⟨n, hn, en⟩ := h.w.nw
  rcases winch_or h.q n hn en a with ⟨i, hi, rfl, h1, h2⟩ | ⟨h1, h2⟩
  · left
    refine ⟨nI (cnt (canL (mNow S.mv) i) 30), mSThrown 0 S.mv, ?_, m_countL S.mv h.w i (by omega) h2, Kept.thrown _ _, rfl⟩
    unfold f_X10_liftableCells
    simp only [h1, ob_s, i10, ↓reduceIte, q_countL h.q h.w i (by omega) h1]
  · right
    refine ⟨0, 0, 0, mSThrown 1 S.mv, by unfold f_X10_liftableCells; simp only [h1, ob_s, ↓reduceIte], by omega, rfl, ?_, Kept.thrown _ _, rfl⟩
    have h30 : ¬ (30 : Int32) ≤ 0 := by decide
    have hl : jbL (fun s : Int32 × Int32 => f_X11_liftableCells_L4 S.mv a s.1 s.2) 5000 ((0 : Int32), (0 : Int32)) = some ((0 : Int32), (0 : Int32)) := by
      (try simp only [ob_s, jb_u, ↓reduceIte, i10, n06, n16, n26, n36, n46, n56, n10])
      show (f_X11_liftableCells_L4 S.mv a 0 0).bind _ = _
      unfold f_X11_liftableCells_L4
      rw [if_neg h30, h2]
      rfl
    unfold f_X11_liftableCells
    simp only [hl, ob_s, h2, m_goes1, ↓reduceIte]
theorem lb_25 {T : Nat} {S : Sys} (h : RelS T S) (a1 a2 a3 a4 : Int32) (ol : Nat → Int64) (od : Nat → UInt64) : ∃ r, lawOp_25 S a1 a2 a3 a4 ol od = some r ∧ RelS (T + 1) r.1 := by
  refine lb_ask h [0] (f_X10_liftableCells (none, S.ep, S.fc) S.qv a1) (f_X11_liftableCells S.mv a1) (ask_liftable h _ a1) (f_L_liftableCells (none, S.ep, S.fc) S.qv a1 ol) ol od (fun r h1 => ?_) (fun k c h1 hc hex => ?_)
  · unfold f_L_liftableCells
    simp only [h1, ob_s, jm_r]
  · unfold f_L_liftableCells
    simp only [h1, ob_s, jm_l]
    rcases (show c = 0 ∨ c = 1 ∨ c = 2 ∨ c = 3 by omega) with rfl | rfl | rfl | rfl <;> (simp at hex) <;> (subst hex; rfl)
/-! the best winch -/
noncomputable def bsW (w : Nat → Int32) (c i : Nat) (b : Option Nat) : Option Nat := if dcd (canL w i c) = true then (match b with | none => some i | some b0 => if w (11 + 3 * b0) ≤ w (11 + 3 * i) then some b0 else some i) else b
noncomputable def best (w : Nat → Int32) (c n : Nat) : Option Nat := itr (bsW w c) none n
theorem best_n {w : Nat → Int32} {c n : Nat} (h : ¬ canL w n c) : best w c (n + 1) = best w c n := by
  show bsW w c n (best w c n) = _
  unfold bsW
  rw [if_neg (fun q => h (dcd_t.mp q))]
theorem best_0 {w : Nat → Int32} {c n : Nat} (h : canL w n c) (e : best w c n = none) : best w c (n + 1) = some n := by
  show bsW w c n (best w c n) = _
  unfold bsW
  rw [if_pos (dcd_t.mpr h), e]
theorem best_1 {w : Nat → Int32} {c n b : Nat} (h : canL w n c) (e : best w c n = some b) : best w c (n + 1) = if w (11 + 3 * b) ≤ w (11 + 3 * n) then some b else some n := by
  show bsW w c n (best w c n) = _
  unfold bsW
  rw [if_pos (dcd_t.mpr h), e]
theorem best_lt {w : Nat → Int32} {c : Nat} : ∀ n b, best w c n = some b → b < n
  | 0, b, h => by cases h
  | n + 1, b, h => by
    by_cases hc : canL w n c
    · cases e : best w c n with
      | none =>
        rw [best_0 hc e] at h
        cases h
        omega
      | some b0 =>
        rw [best_1 hc e] at h
        have := best_lt n b0 e
        by_cases hle : w (11 + 3 * b0) ≤ w (11 + 3 * n)
        · rw [if_pos hle] at h; cases h; omega
        · rw [if_neg hle] at h; cases h; omega
    · rw [best_n hc] at h
      have := best_lt n b h
      omega
theorem q_best {q : QV} {w : Nat → Int32} {t : Nat} (hr : RelQ q w) (hi : InvW t w) (r k n : Nat) (hrr : r < 5) (hk : k < 6) (hn : n ≤ 3) (en : w 5 = nI n) : f_X7_leastAbleWinch q (nI r) (nI k) = some (enc (best w (6 * r + k) n)) := by
  have hl : jbL (fun s : Int32 × Int32 => f_X7_leastAbleWinch_L5 q (nI r) (nI k) s.1 s.2) 5000 (enc (best w (6 * r + k) 0), nI 0) = some (enc (best w (6 * r + k) n), nI n) := by
    refine lpD (fun i => (enc (best w (6 * r + k) i), nI i)) _ n (fun i hin => ?_) ?_ 5000 (by omega)
    · show f_X7_leastAbleWinch_L5 q (nI r) (nI k) (enc (best w (6 * r + k) i)) (nI i) = some (Sum.inl (enc (best w (6 * r + k) (i + 1)), nI (i + 1)))
      obtain ⟨f1, f2⟩ := q_able hr hi i r k (by omega) (q_hasWi hr en hn hin) hrr hk
      have ji : jIn (nI i) 3 := nIin (by omega) (by decide)
      have li : (nI i).toNatClampNeg = i := nI_clamp (by omega)
      have hge : ¬ nI n ≤ nI i := nI_ge hin (by omega)
      have h61 : ∀ x : Int32, f_X7_leastAbleWinch_J61 q (nI r) (nI k) (nI i) = some (.inl (nI i, nI (i + 1))) := fun x => by
        unfold f_X7_leastAbleWinch_J61 f_X7_leastAbleWinch_J64
        rw [nI_1]
      have h64 : ∀ x : Int32, f_X7_leastAbleWinch_J64 q (nI r) (nI k) x (nI i) = some (.inl (x, nI (i + 1))) := fun x => by
        unfold f_X7_leastAbleWinch_J64
        rw [nI_1]
      unfold f_X7_leastAbleWinch_L5
      simp only [hr.nw, en, if_neg hge]
      by_cases h : canL w i (6 * r + k)
      · simp only [f1 h, ob_s, n06, ↓reduceIte]
        unfold f_X7_leastAbleWinch_J33
        simp only [i10, ↓reduceIte]
        cases e : best w (6 * r + k) i with
        | none =>
          rw [if_pos (show enc none = -1 from rfl), best_0 h e, h61 0]
          rfl
        | some b =>
          have hb := best_lt i b e
          have jb : jIn (nI b) 3 := nIin (by omega) (by decide)
          have lb : (nI b).toNatClampNeg = b := nI_clamp (by omega)
          have hne : ¬ enc (some b) = -1 := enc_ne (by omega)
          rw [if_neg hne, best_1 h e, show enc (some b) = nI b from rfl]
          simp only [if_pos ji, if_pos jb, li, lb, hr.cp i (by omega), hr.cp b (by omega)]
          by_cases hle : w (11 + 3 * b) ≤ w (11 + 3 * i)
          · rw [if_pos hle, if_pos hle, h64]
            rfl
          · rw [if_neg hle, if_neg hle, h61 0]
            rfl
      · obtain ⟨z, hz, e⟩ := f2 h
        have hz6 : z + 1 < 6 := by omega
        have hz0 : ¬ z + 1 = 0 := by omega
        simp only [e, ob_s, if_pos hz6, if_neg hz0]
        unfold f_X7_leastAbleWinch_J33
        simp only [↓reduceIte, h64, best_n h]
    · show f_X7_leastAbleWinch_L5 q _ _ _ (nI n) = _
      unfold f_X7_leastAbleWinch_L5
      simp only [hr.nw, en, if_pos (Int32.le_refl (nI n))]
  have hl' : jbL (fun s : Int32 × Int32 => f_X7_leastAbleWinch_L5 q (nI r) (nI k) s.1 s.2) 5000 ((-1 : Int32), (0 : Int32)) = some (enc (best w (6 * r + k) n), nI n) := hl
  unfold f_X7_leastAbleWinch
  simp only [hl', ob_s]
theorem m_best {t : Nat} (m : MV) (hi : InvW t (mNow m)) (a b : Int32) (c n : Nat) (hc : c < 30) (hn : n ≤ 3) (en : mNow m 5 = nI n) : jbL (fun s : Int32 × Int32 => f_X11_bestWinch_L12 m a b (nI c) s.1 s.2) 5000 ((-1 : Int32), (0 : Int32)) = some (enc (best (mNow m) c n), nI n) := by
  have hl : jbL (fun s : Int32 × Int32 => f_X11_bestWinch_L12 m a b (nI c) s.1 s.2) 5000 (enc (best (mNow m) c 0), nI 0) = some (enc (best (mNow m) c n), nI n) := by
    refine lpD (fun i => (enc (best (mNow m) c i), nI i)) _ n (fun i hin => ?_) ?_ 5000 (by omega)
    · show f_X11_bestWinch_L12 m a b (nI c) (enc (best (mNow m) c i)) (nI i) = some (Sum.inl (enc (best (mNow m) c (i + 1)), nI (i + 1)))
      obtain ⟨o2, f1, f2⟩ := m_able m hi i c (by omega) hc
      have hge : ¬ nI n ≤ nI i := nI_ge hin (by omega)
      have o1 : ∀ z, z < 3 → f_X11_ofWinch m (nI z) 1 = some (mNow m (11 + 3 * z)) := fun z hz => by rw [show (1 : Int32) = nI 1 from rfl, m_ofW m z 1 (by omega)]; congr 2; omega
      have h77 : f_X11_bestWinch_J77 m a b (nI c) (nI i) = some (.inl (nI i, nI (i + 1))) := by
        unfold f_X11_bestWinch_J77 f_X11_bestWinch_J84
        rw [nI_1]
      have h82 : ∀ x : Int32, f_X11_bestWinch_J82 m a b (nI c) x (nI i) = some (.inl (x, nI (i + 1))) := fun x => by
        unfold f_X11_bestWinch_J82 f_X11_bestWinch_J84
        rw [nI_1]
      have h46 : ∀ x : Int32, f_X11_bestWinch_J46 m a b (nI c) x (nI i) = some (.inl (x, nI (i + 1))) := fun x => by
        unfold f_X11_bestWinch_J46 f_X11_bestWinch_J47
        rw [if_pos rfl, h82]
      unfold f_X11_bestWinch_L12
      simp only [if_pos jl5, cl5, en, if_neg hge, o2, ob_s]
      by_cases h : canL (mNow m) i c
      · simp only [(f1 h).1, (f1 h).2, ob_s, i10, ↓reduceIte]
        unfold f_X11_bestWinch_J47
        simp only [i10, ↓reduceIte]
        cases e : best (mNow m) c i with
        | none =>
          rw [if_pos (show enc none = -1 from rfl), best_0 h e, h77]
          rfl
        | some b0 =>
          have hb := best_lt i b0 e
          have hne : ¬ enc (some b0) = -1 := enc_ne (by omega)
          rw [if_neg hne, best_1 h e, show enc (some b0) = nI b0 from rfl]
          simp only [o1 i (by omega), o1 b0 (by omega), ob_s]
          by_cases hle : mNow m (11 + 3 * b0) ≤ mNow m (11 + 3 * i)
          · rw [if_pos hle, if_pos hle, h82]
            rfl
          · rw [if_neg hle, if_neg hle, h77]
            rfl
      · rw [best_n h]
        by_cases h0 : mNow m (21 + 7 * c) = 0
        · simp only [h0, ↓reduceIte, f2 h h0, ob_s, h46]
        · simp only [if_neg h0, h46]
    · show f_X11_bestWinch_L12 m _ _ _ _ (nI n) = _
      unfold f_X11_bestWinch_L12
      simp only [if_pos jl5, cl5, en, if_pos (Int32.le_refl (nI n))]
  exact hl
theorem ask_best {S : Sys} {T : Nat} (h : RelS T S) (tv : TV) (a b : Int32) : Ask [0, 2] (f_X10_bestWinch tv S.qv a b) (f_X11_bestWinch S.mv a b) S.mv := by
  obtain ⟨n, hn, en⟩ := h.w.nw
  rcases cell_or a b with ⟨r, k, hrr, hk, rfl, rfl⟩ | ⟨h1, h2, h3⟩
  · obtain ⟨g1, g2, g3, g4⟩ := g_cell r k hrr hk
    have hm := m_best S.mv h.w (nI r) (nI k) (6 * r + k) n (by omega) hn en
    have hq := q_best h.q h.w r k n hrr hk hn en
    generalize enc (best (mNow S.mv) (6 * r + k) n) = x at *
    by_cases hx : x = -1
    · right
      refine ⟨2, 1, 0, mSThrown 2 S.mv, ?_, by omega, rfl, ?_, Kept.thrown _ _, rfl⟩
      · unfold f_X10_bestWinch
        simp only [g1, ob_s, rf_0, jm_r, hq, if_pos hx]
      · unfold f_X11_bestWinch f_X11_bestWinch_J109
        simp only [g4, ob_s, hm, g3, if_pos hx, m_holds2, ↓reduceIte]
    · left
      refine ⟨x, mSThrown 0 S.mv, ?_, ?_, Kept.thrown _ _, rfl⟩
      · unfold f_X10_bestWinch
        simp only [g1, ob_s, rf_0, jm_r, hq, if_neg hx]
      · unfold f_X11_bestWinch f_X11_bestWinch_J109
        simp only [g4, ob_s, hm, g3, if_neg hx, m_holds0, i10, ↓reduceIte]
  · right
    have hm := m_best S.mv h.w a b 0 n (by omega) hn en
    have h3' : f_X11_cellAt a b = some (nI 0) := h3
    refine ⟨0, 0, 0, mSThrown 1 S.mv, by unfold f_X10_bestWinch; simp only [h1, ob_s, rf_1, jm_l], by omega, rfl, ?_, Kept.thrown _ _, rfl⟩
    generalize enc (best (mNow S.mv) 0 n) = x at *
    unfold f_X11_bestWinch f_X11_bestWinch_J109
    by_cases hx : x = -1
    · simp only [h3', ob_s, hm, h2, if_pos hx, m_holds1, ↓reduceIte]
    · simp only [h3', ob_s, hm, h2, if_neg hx, m_holds1, ↓reduceIte]
theorem lb_26 {T : Nat} {S : Sys} (h : RelS T S) (a1 a2 a3 a4 : Int32) (ol : Nat → Int64) (od : Nat → UInt64) : ∃ r, lawOp_26 S a1 a2 a3 a4 ol od = some r ∧ RelS (T + 1) r.1 := by
  refine lb_ask h [0, 2] (f_X10_bestWinch (none, S.ep, S.fc) S.qv a1 a2) (f_X11_bestWinch S.mv a1 a2) (ask_best h _ a1 a2) (f_L_bestWinch (none, S.ep, S.fc) S.qv a1 a2 ol) ol od (fun r h1 => ?_) (fun k c h1 hc hex => ?_)
  · unfold f_L_bestWinch
    simp only [h1, ob_s, jm_r]
  · unfold f_L_bestWinch
    simp only [h1, ob_s, jm_l]
    rcases (show c = 0 ∨ c = 1 ∨ c = 2 ∨ c = 3 by omega) with rfl | rfl | rfl | rfl <;> (simp at hex) <;> (subst hex; rfl)
