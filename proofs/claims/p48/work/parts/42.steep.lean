/-- one neighbour's part in it -/
def stp1 (w : Nat → Int32) (h : Int32) (x : Int32) (o : Option Nat) : Int32 := match o with
  | none => x
  | some d => jMax x (jAbs (h - w (19 + 7 * d)))
def stp (w : Nat → Int32) (c : Nat) (h : Int32) : Int32 := stp1 w h (stp1 w h (stp1 w h (stp1 w h 0 (nb c 0)) (nb c 1)) (nb c 2)) (nb c 3)
theorem jMax_swap (a b c : Int32) : jMax (jMax a b) c = jMax (jMax a c) b := by
  unfold jMax
  split <;> (try split) <;> (try split) <;> (try split) <;> first | rfl | (simp only [Int32.lt_iff_toInt_lt, ← Int32.toInt_inj] at *; omega)
theorem stp1_swap (w : Nat → Int32) (h x : Int32) (a b : Option Nat) : stp1 w h (stp1 w h x a) b = stp1 w h (stp1 w h x b) a := by
  cases a <;> cases b <;> simp only [stp1]
  exact jMax_swap _ _ _
theorem q_steep1 {q : QV} {w : Nat → Int32} (hr : RelQ q w) (c k : Nat) (hc : c < 30) (hk : k < 4) (h x : Int32) : f_X7_steepestFrom_L5 q (nI c) h x (nI k) = some (.inl (stp1 w h x (nb c k), nI (k + 1))) := by
  unfold f_X7_steepestFrom_L5
  rw [if_neg (show ¬ (4 : Int32) ≤ nI k from nI_ge (a := k) (b := 4) hk (by decide)), g_nb c k hc hk]
  show (if enc (nb c k) = -1 then _ else _) = _
  cases hn : nb c k with
  | none =>
    rw [if_pos (show enc none = -1 from rfl)]
    show some (Sum.inl (x, nI k + 1)) = _
    rw [nI_1]
    rfl
  | some d =>
    have hd := nb_lt hc hk hn
    rw [if_neg (enc_ne hd)]
    show (if jIn (nI d) 30 then _ else _) = _
    rw [if_pos (nIin hd (by decide))]
    show some (Sum.inl (jMax x (jAbs (h - qHeights q (nI d).toNatClampNeg)), nI k + 1)) = _
    rw [nI_clamp (by omega), hr.h d hd, nI_1]
    rfl
theorem q_steep {q : QV} {w : Nat → Int32} (hr : RelQ q w) (c : Nat) (hc : c < 30) (h : Int32) : f_X7_steepestFrom q (nI c) h = some (stp w c h) := by
  have hl : jbL (fun s => f_X7_steepestFrom_L5 q (nI c) h s.1 s.2) 5000 (itr (fun k x => stp1 w h x (nb c k)) 0 0, nI 0) = some (itr (fun k x => stp1 w h x (nb c k)) 0 4, nI 4) := by
    refine lpD (fun k => (itr (fun k x => stp1 w h x (nb c k)) 0 k, nI k)) _ 4 (fun k hk => ?_) ?_ 5000 (by decide)
    · exact q_steep1 hr c k hc hk h _
    · show f_X7_steepestFrom_L5 q (nI c) h _ (nI 4) = _
      unfold f_X7_steepestFrom_L5
      rw [if_pos (show (4 : Int32) ≤ nI 4 from Int32.le_refl _)]
  unfold f_X7_steepestFrom
  rw [show ((0 : Int32), (0 : Int32)) = (itr (fun k x => stp1 w h x (nb c k)) 0 0, nI 0) from rfl, hl]
  rfl
theorem m_of {m : MV} (c j : Nat) (h : 7 * c + j < 210) : f_X11_of m (nI c) (nI j) = some (mNow m (19 + 7 * c + j)) := by
  unfold f_X11_of f_X11_placeOf
  show (if jIn (19 + 7 * nI c + nI j) 229 then some (mNow m (19 + 7 * nI c + nI j).toNatClampNeg) else none) = _
  rw [show (19 : Int32) + 7 * nI c + nI j = nI (19 + 7 * c + j) by rw [show (19 : Int32) = nI 19 from rfl, show (7 : Int32) = nI 7 from rfl, nImul, nI_add, nI_add], if_pos (nIin (by omega) (by decide)), nI_clamp (by omega)]
theorem m_steep1 {m : MV} (c k : Nat) (hc : c < 30) (hk : k < 4) (h x : Int32) : f_X11_steepest_L5 m (nI c) h x (nI k) = some (.inl (stp1 (mNow m) h x (nb c (sd k)), nI (k + 1))) := by
  unfold f_X11_steepest_L5
  rw [if_neg (show ¬ (4 : Int32) ≤ nI k from nI_ge (a := k) (b := 4) hk (by decide)), m_nb c k hc hk]
  show (if enc (nb c (sd k)) = -1 then _ else _) = _
  cases hn : nb c (sd k) with
  | none =>
    rw [if_pos (show enc none = -1 from rfl)]
    show some (Sum.inl (x, nI k + 1)) = _
    rw [nI_1]
    rfl
  | some d =>
    have hsd : sd k < 4 := by unfold sd; split <;> omega
    have hd := nb_lt hc hsd hn
    rw [if_neg (enc_ne hd)]
    show (f_X11_of m (nI d) 0).bind _ = _
    rw [show (0 : Int32) = nI 0 from rfl, m_of d 0 (by omega)]
    show some (Sum.inl (jMax x (jAbs (h - mNow m (19 + 7 * d + 0))), nI k + 1)) = _
    rw [nI_1]
    rfl
theorem m_steep {m : MV} (c : Nat) (hc : c < 30) (h : Int32) : f_X11_steepest m (nI c) h = some (stp (mNow m) c h) := by
  have hl : jbL (fun s => f_X11_steepest_L5 m (nI c) h s.1 s.2) 5000 (itr (fun k x => stp1 (mNow m) h x (nb c (sd k))) 0 0, nI 0) = some (itr (fun k x => stp1 (mNow m) h x (nb c (sd k))) 0 4, nI 4) := by
    refine lpD (fun k => (itr (fun k x => stp1 (mNow m) h x (nb c (sd k))) 0 k, nI k)) _ 4 (fun k hk => ?_) ?_ 5000 (by decide)
    · exact m_steep1 c k hc hk h _
    · show f_X11_steepest_L5 m (nI c) h _ (nI 4) = _
      unfold f_X11_steepest_L5
      rw [if_pos (show (4 : Int32) ≤ nI 4 from Int32.le_refl _)]
  have he : itr (fun k x => stp1 (mNow m) h x (nb c (sd k))) 0 4 = stp (mNow m) c h := by
    show stp1 (mNow m) h (stp1 (mNow m) h (stp1 (mNow m) h (stp1 (mNow m) h 0 (nb c 0)) (nb c 2)) (nb c 3)) (nb c 1) = _
    unfold stp
    rw [stp1_swap _ _ _ (nb c 3) (nb c 1), stp1_swap _ _ _ (nb c 2) (nb c 1)]
  unfold f_X11_steepest
  rw [show ((0 : Int32), (0 : Int32)) = (itr (fun k x => stp1 (mNow m) h x (nb c (sd k))) 0 0, nI 0) from rfl, hl]
  show some (itr (fun k x => stp1 (mNow m) h x (nb c (sd k))) 0 4) = _
  rw [he]

