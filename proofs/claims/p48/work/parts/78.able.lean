def canL (w : Nat → Int32) (i c : Nat) : Prop := w (21 + 7 * c) = 0 ∧ ∃ j s, j < 3 ∧ s ≤ 3 ∧ w (22 + 7 * c) = nI (j + 1) ∧ w (23 + 7 * c + j) = nI s ∧ ableW w i c s
theorem q_hasWi {q : QV} {w : Nat → Int32} {n i : Nat} (hr : RelQ q w) (en : w 5 = nI n) (hn : n ≤ 3) (hi : i < n) : f_X7_hasWinch q (nI i) = some 1 := by
  unfold f_X7_hasWinch
  rw [if_neg (nI_pos (by omega)), hr.nw, en, if_neg (nI_ge hi (by omega))]
theorem canL_un {w : Nat → Int32} {i c j s : Nat} (hj : j < 3) (hs : s ≤ 3) (en : w (22 + 7 * c) = nI (j + 1)) (es : w (23 + 7 * c + j) = nI s) : canL w i c ↔ w (21 + 7 * c) = 0 ∧ ableW w i c s := by
  constructor
  · intro ⟨h0, j', s', hj', hs', en', es', ha⟩
    rw [en, nI_eq (by omega) (by omega)] at en'
    have e : j' = j := by omega
    subst e
    rw [es, nI_eq (by omega) (by omega)] at es'
    subst es'
    exact ⟨h0, ha⟩
  · intro ⟨h0, ha⟩
    exact ⟨h0, j, s, hj, hs, en, es, ha⟩
theorem canL_0 {w : Nat → Int32} {i c : Nat} (en : w (22 + 7 * c) = nI 0) : ¬ canL w i c := by
  intro ⟨h0, j', s', hj', hs', en', es', ha⟩
  rw [en, nI_eq (by omega) (by omega)] at en'
  omega
theorem q_able {q : QV} {w : Nat → Int32} {t : Nat} (hr : RelQ q w) (hi : InvW t w) (i r k : Nat) (hi3 : i < 3) (hw : f_X7_hasWinch q (nI i) = some 1) (hrr : r < 5) (hk : k < 6) : (canL w i (6 * r + k) → f_X7_liftFault q (nI i) (nI r) (nI k) = some 0) ∧ (¬ canL w i (6 * r + k) → ∃ z, z < 5 ∧ f_X7_liftFault q (nI i) (nI r) (nI k) = some (z + 1)) := by
  have hc : 6 * r + k < 30 := by omega
  obtain ⟨n, hn, en⟩ := hi.n (6 * r + k) hc
  rcases (show n = 0 ∨ ∃ j, n = j + 1 from by cases n with | zero => exact Or.inl rfl | succ j => exact Or.inr ⟨j, rfl⟩) with hz | ⟨j, hz⟩
  · subst hz
    refine ⟨fun h => absurd h (canL_0 en), fun _ => ⟨2, by omega, ?_⟩⟩
    obtain ⟨g1, g2, g3, g4⟩ := g_cell r k hrr hk
    generalize 6 * r + k = c at *
    have jc : jIn (nI c) 30 := nIin hc (by decide)
    have lc : (nI c).toNatClampNeg = c := nI_clamp (by omega)
    have htop : f_X7_topFault q (nI r) (nI k) = some 3 := by
      unfold f_X7_topFault
      simp only [g1, g2, ob_s, n06, ↓reduceIte, if_pos jc, lc, hr.n c hc, en, if_pos (show nI 0 ≤ (0 : Int32) from Int32.le_refl _)]
    unfold f_X7_liftFault
    simp only [hw, htop, ob_s, i10, n36, ↓reduceIte, n30]
  · subst hz
    obtain ⟨s, hs, es⟩ := hi.b (6 * r + k) j hc (by omega)
    obtain ⟨f1, f2, f3⟩ := q_liftFault hr hi i r k j s hi3 hw hrr hk (by omega) en es
    rw [canL_un (i := i) (show j < 3 by omega) hs en es]
    refine ⟨fun h => f1 h.1 h.2, fun h => ?_⟩
    by_cases h0 : w (21 + 7 * (6 * r + k)) = 0
    · exact ⟨4, by omega, f2 h0 (fun ha => h ⟨h0, ha⟩)⟩
    · exact ⟨3, by omega, f3 h0⟩
theorem q_countL {q : QV} {w : Nat → Int32} {t : Nat} (hr : RelQ q w) (hi : InvW t w) (i : Nat) (hi3 : i < 3) (hw : f_X7_hasWinch q (nI i) = some 1) : f_X7_countLiftable q (nI i) = some (nI (cnt (canL w i) 30)) := by
  have hl : jbL (fun s : Int32 × Int32 => f_X7_countLiftable_L4 q (nI i) s.1 s.2) 5000 (nI (cnt (canL w i) 0), nI 0) = some (nI (cnt (canL w i) 30), nI 30) := by
    refine lpD (fun k => (nI (cnt (canL w i) k), nI k)) _ 30 (fun k hk => ?_) ?_ 5000 (by decide)
    · show f_X7_countLiftable_L4 q (nI i) (nI (cnt (canL w i) k)) (nI k) = some (Sum.inl (nI (cnt (canL w i) (k + 1)), nI (k + 1)))
      obtain ⟨hr5, hk6, hrk⟩ := rc_of k hk
      obtain ⟨f1, f2⟩ := q_able hr hi i (k / 6) (k % 6) hi3 hw hr5 hk6
      rw [hrk] at f1 f2
      unfold f_X7_countLiftable_L4 f_X7_countLiftable_J32
      rw [if_neg (show ¬ (30 : Int32) ≤ nI k from nI_ge (a := k) (b := 30) hk (by decide)), g_row k hk, g_col k hk]
      by_cases h : canL w i k
      · simp only [ob_s, f1 h, n06, ↓reduceIte, nI_1, cnt_yes (p := canL w i) h]
      · obtain ⟨z, hz, e⟩ := f2 h
        have hz6 : z + 1 < 6 := by omega
        have hz0 : ¬ z + 1 = 0 := by omega
        simp only [ob_s, e, if_pos hz6, if_neg hz0, nI_1, cnt_no (p := canL w i) h]
    · show f_X7_countLiftable_L4 q _ _ (nI 30) = _
      unfold f_X7_countLiftable_L4
      rw [if_pos (show (30 : Int32) ≤ nI 30 from Int32.le_refl _)]
  have hl' : jbL (fun s : Int32 × Int32 => f_X7_countLiftable_L4 q (nI i) s.1 s.2) 5000 ((0 : Int32), (0 : Int32)) = some (nI (cnt (canL w i) 30), nI 30) := hl
  unfold f_X7_countLiftable
  simp only [hl', ob_s]
noncomputable def bsW (w : Nat → Int32) (c i : Nat) (b : Option Nat) : Option Nat := if dcd (canL w i c) = true then (match b with | none => some i | some b0 => if w (11 + 3 * b0) ≤ w (11 + 3 * i) then some b0 else some i) else b
noncomputable def best (w : Nat → Int32) (c n : Nat) : Option Nat := itr (bsW w c) none n
theorem best_n {w : Nat → Int32} {c n : Nat} (h : ¬ canL w n c) : best w c (n + 1) = best w c n := by
  show bsW w c n (best w c n) = _
  unfold bsW
  rw [if_neg (fun q => h (dcd_t.mp q))]
theorem best_0 {w : Nat → Int32} {c n : Nat} (h : canL w n c) (e : best w c n = none) : best w c (n + 1) = some n := by
  show bsW w c n (best w c n) = _
  unfold bsW
  rw [if_pos (dcd_t.mpr h), e]
theorem best_1 {w : Nat → Int32} {c n b : Nat} (h : canL w n c) (e : best w c n = some b) : best w c (n + 1) = if w (11 + 3 * b) ≤ w (11 + 3 * n) then some b else some n := by
  show bsW w c n (best w c n) = _
  unfold bsW
  rw [if_pos (dcd_t.mpr h), e]
theorem best_lt {w : Nat → Int32} {c : Nat} : ∀ n b, best w c n = some b → b < n
  | 0, b, h => by cases h
  | n + 1, b, h => by
    by_cases hc : canL w n c
    · cases e : best w c n with
      | none =>
        rw [best_0 hc e] at h
        cases h
        omega
      | some b0 =>
        rw [best_1 hc e] at h
        have := best_lt n b0 e
        by_cases hle : w (11 + 3 * b0) ≤ w (11 + 3 * n)
        · rw [if_pos hle] at h; cases h; omega
        · rw [if_neg hle] at h; cases h; omega
    · rw [best_n hc] at h
      have := best_lt n b h
      omega
theorem q_best {q : QV} {w : Nat → Int32} {t : Nat} (hr : RelQ q w) (hi : InvW t w) (r k n : Nat) (hrr : r < 5) (hk : k < 6) (hn : n ≤ 3) (en : w 5 = nI n) : f_X7_leastAbleWinch q (nI r) (nI k) = some (enc (best w (6 * r + k) n)) := by
  have hl : jbL (fun s : Int32 × Int32 => f_X7_leastAbleWinch_L5 q (nI r) (nI k) s.1 s.2) 5000 (enc (best w (6 * r + k) 0), nI 0) = some (enc (best w (6 * r + k) n), nI n) := by
    refine lpD (fun i => (enc (best w (6 * r + k) i), nI i)) _ n (fun i hin => ?_) ?_ 5000 (by omega)
    · show f_X7_leastAbleWinch_L5 q (nI r) (nI k) (enc (best w (6 * r + k) i)) (nI i) = some (Sum.inl (enc (best w (6 * r + k) (i + 1)), nI (i + 1)))
      obtain ⟨f1, f2⟩ := q_able hr hi i r k (by omega) (q_hasWi hr en hn hin) hrr hk
      have ji : jIn (nI i) 3 := nIin (by omega) (by decide)
      have li : (nI i).toNatClampNeg = i := nI_clamp (by omega)
      have hge : ¬ nI n ≤ nI i := nI_ge hin (by omega)
      have h61 : ∀ x : Int32, f_X7_leastAbleWinch_J61 q (nI r) (nI k) (nI i) = some (.inl (nI i, nI (i + 1))) := fun x => by
        unfold f_X7_leastAbleWinch_J61 f_X7_leastAbleWinch_J64
        rw [nI_1]
      have h64 : ∀ x : Int32, f_X7_leastAbleWinch_J64 q (nI r) (nI k) x (nI i) = some (.inl (x, nI (i + 1))) := fun x => by
        unfold f_X7_leastAbleWinch_J64
        rw [nI_1]
      unfold f_X7_leastAbleWinch_L5
      simp only [hr.nw, en, if_neg hge]
      by_cases h : canL w i (6 * r + k)
      · simp only [f1 h, ob_s, n06, ↓reduceIte]
        unfold f_X7_leastAbleWinch_J33
        simp only [i10, ↓reduceIte]
        cases e : best w (6 * r + k) i with
        | none =>
          rw [if_pos (show enc none = -1 from rfl), best_0 h e, h61 0]
          rfl
        | some b =>
          have hb := best_lt i b e
          have jb : jIn (nI b) 3 := nIin (by omega) (by decide)
          have lb : (nI b).toNatClampNeg = b := nI_clamp (by omega)
          have hne : ¬ enc (some b) = -1 := enc_ne (by omega)
          rw [if_neg hne, best_1 h e, show enc (some b) = nI b from rfl]
          simp only [if_pos ji, if_pos jb, li, lb, hr.cp i (by omega), hr.cp b (by omega)]
          by_cases hle : w (11 + 3 * b) ≤ w (11 + 3 * i)
          · rw [if_pos hle, if_pos hle, h64]
            rfl
          · rw [if_neg hle, if_neg hle, h61 0]
            rfl
      · obtain ⟨z, hz, e⟩ := f2 h
        have hz6 : z + 1 < 6 := by omega
        have hz0 : ¬ z + 1 = 0 := by omega
        simp only [e, ob_s, if_pos hz6, if_neg hz0]
        unfold f_X7_leastAbleWinch_J33
        simp only [↓reduceIte, h64, best_n h]
    · show f_X7_leastAbleWinch_L5 q _ _ _ (nI n) = _
      unfold f_X7_leastAbleWinch_L5
      simp only [hr.nw, en, if_pos (Int32.le_refl (nI n))]
  have hl' : jbL (fun s : Int32 × Int32 => f_X7_leastAbleWinch_L5 q (nI r) (nI k) s.1 s.2) 5000 ((-1 : Int32), (0 : Int32)) = some (enc (best w (6 * r + k) n), nI n) := hl
  unfold f_X7_leastAbleWinch
  simp only [hl', ob_s]
