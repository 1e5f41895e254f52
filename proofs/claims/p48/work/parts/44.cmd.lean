theorem ob_s {α β : Type} (a : α) (f : α → Option β) : (some a).bind f = f a := Eq.trans rfl rfl
theorem jb_u {α β : Type} (e : α) (k : α → β) : jbN e k = k e := Eq.trans rfl rfl
theorem i10 : ((1 : Int32) = 0) = False := by decide
theorem n06 : ((0 : Nat) < 6) = True := by decide
theorem n16 : ((1 : Nat) < 6) = True := by decide
theorem n26 : ((2 : Nat) < 6) = True := by decide
theorem n36 : ((3 : Nat) < 6) = True := by decide
theorem n46 : ((4 : Nat) < 6) = True := by decide
theorem n56 : ((5 : Nat) < 6) = True := by decide
theorem cl0 : (0 : Int32).toNatClampNeg = 0 := nI_clamp (n := 0) (by omega)
theorem jl0 : jIn (0 : Int32) 229 := nIin (c := 0) (by omega) (by decide)
theorem cl1 : (1 : Int32).toNatClampNeg = 1 := nI_clamp (n := 1) (by omega)
theorem jl1 : jIn (1 : Int32) 229 := nIin (c := 1) (by omega) (by decide)
theorem nar0 : vp_nar .boolean (0 : Int32) = 0 := by decide +kernel
theorem nar1 : vp_nar .boolean (1 : Int32) = 1 := by decide +kernel
theorem mN1 (m : MV) (f : Nat → Int32) : mNow (mSNow f m) = f := Eq.trans rfl rfl
theorem mN2 (m : MV) (a : Int32) : mNow (mSThrown a m) = mNow m := Eq.trans rfl rfl
theorem mN3 (m : MV) (f g : Nat → Int32) : mSNow f (mSNow g m) = mSNow f m := Eq.trans rfl rfl
theorem mN4 (m : MV) (f : Nat → Int32) (a : Int32) : mSNow f (mSThrown a m) = mSThrown a (mSNow f m) := Eq.trans rfl rfl
theorem n10 : ((1 : Nat) = 0) = False := by decide
theorem m_holds1 (m : MV) (b c d : Int32) : f_X11_holds m 0 b c d = some (0, mSThrown 1 m) := rfl
theorem m_holds2 (m : MV) (c d : Int32) : f_X11_holds m 1 0 c d = some (0, mSThrown 2 m) := rfl
theorem m_holds3 (m : MV) (d : Int32) : f_X11_holds m 1 1 0 d = some (0, mSThrown 3 m) := rfl
theorem m_holds4 (m : MV) : f_X11_holds m 1 1 1 0 = some (0, mSThrown 4 m) := rfl
theorem m_holds0 (m : MV) : f_X11_holds m 1 1 1 1 = some (1, mSThrown 0 m) := rfl
theorem m_goes1 (m : MV) : f_X11_goes m 0 = some (0, mSThrown 1 m) := by
  unfold f_X11_goes
  rw [m_holds1, Option.bind_some, if_pos (show vp_nar .boolean (0 : Int32) = 0 by decide +kernel)]
theorem m_goes0 (m : MV) : f_X11_goes m 1 = some (1, mSThrown 0 m) := by
  unfold f_X11_goes
  rw [m_holds0, Option.bind_some, if_pos (show vp_nar .boolean (1 : Int32) = 1 by decide +kernel)]
/-- what a command does on both sides: the program's fault and change, the reference's body; ex: the exceptions in the order of their numbers -/
def Cmd (t : Nat) (ex : List Nat) (F : Option Nat) (Ch : Option (Int32 × QV)) (B : Option (Int32 × MV)) (m : MV) : Prop :=
  (F = some 0 ∧ ∃ r q' w', Ch = some (r, q') ∧ B = some (r, mSThrown 0 (mSNow w' m)) ∧ RelQ q' w' ∧ InvW (t + 1) w') ∨
  (∃ k r c, F = some (k + 1) ∧ k < 5 ∧ B = some (r, mSThrown (nI (c + 1)) m) ∧ c < 4 ∧ ex[c]? = some k)
theorem stone_or (a : Int32) : (∃ s, s < 4 ∧ a = nI s ∧ f_X7_isStone a = some 1 ∧ f_X11_isStone a = some 1) ∨ (f_X7_isStone a = some 0 ∧ f_X11_isStone a = some 0) := by
  by_cases h1 : a < 0
  · right
    have hi : f_X11_isIn a 0 3 = some 0 := by simp [f_X11_isIn, h1]
    refine ⟨by simp [f_X7_isStone, h1], ?_⟩
    unfold f_X11_isStone
    rw [hi]
    rfl
  · by_cases h2 : (4 : Int32) ≤ a
    · right
      have h2' : (3 : Int32) < a := by rw [Int32.lt_iff_toInt_lt]; rw [Int32.le_iff_toInt_le] at h2; exact h2
      have hi : f_X11_isIn a 0 3 = some 0 := by simp [f_X11_isIn, h1, h2']
      refine ⟨by simp [f_X7_isStone, h1, h2], ?_⟩
      unfold f_X11_isStone
      rw [hi]
      rfl
    · obtain ⟨s, hs, rfl⟩ := nI_lt_of (n := 4) (by decide) h1 h2
      left
      have := (by decide +kernel : ∀ s : Fin 4, f_X7_isStone (nI s.val) = some 1 ∧ f_X11_isStone (nI s.val) = some 1) ⟨s, hs⟩
      exact ⟨s, hs, rfl, this.1, this.2⟩
theorem upd_at (f : Nat → Int32) (i : Nat) (x : Int32) : upd f i x i = x := if_pos rfl
theorem upd_ne (f : Nat → Int32) {i k : Nat} (x : Int32) (h : k ≠ i) : upd f i x k = f k := if_neg h
theorem placeOf_nI (c : Nat) : f_X11_placeOf (nI c) = some (nI (19 + 7 * c)) := by
  unfold f_X11_placeOf
  rw [show (19 : Int32) = nI 19 from rfl, show (7 : Int32) = nI 7 from rfl, nImul, nI_add]
/-- a change that leaves the loose blocks alone leaves their sum -/
theorem itr_upd (w : Nat → Int32) (i : Nat) (x : Int32) (h : ∀ c, c < 30 → 22 + 7 * c ≠ i) : itr (fun c y => y + upd w i x (22 + 7 * c)) 0 30 = itr (fun c y => y + w (22 + 7 * c)) 0 30 :=
  itr_cong (N := 30) (fun k y hk => by rw [upd_ne _ _ (h k hk)]) 30 (Nat.le_refl _)
theorem RelQ.stone {q : QV} {w : Nat → Int32} (hr : RelQ q w) (c : Nat) (hc : c < 30) (x : Int32) : RelQ (qSStones (upd (qStones q) c x) q) (upd w (20 + 7 * c) x) := RelQ.mk
  (f_h := fun d hd => by rw [upd_ne _ _ (by omega)]; exact hr.h d hd)
  (f_s := fun d hd => by
      show upd (qStones q) c x d = _
      by_cases e : d = c
      · subst e; rw [upd_at, upd_at]
      · rw [upd_ne _ _ e, upd_ne _ _ (by omega)]; exact hr.s d hd)
  (f_l := fun d hd => by rw [upd_ne _ _ (by omega)]; exact hr.l d hd)
  (f_n := fun d hd => by rw [upd_ne _ _ (by omega)]; exact hr.n d hd)
  (f_b := fun d j hd hj => by rw [upd_ne _ _ (by omega)]; exact hr.b d j hd hj)
  (f_wc := fun i hi => by rw [upd_ne _ _ (by omega)]; exact hr.wc i hi)
  (f_cp := fun i hi => by rw [upd_ne _ _ (by omega)]; exact hr.cp i hi)
  (f_rc := fun i hi => by rw [upd_ne _ _ (by omega)]; exact hr.rc i hi)
  (f_yd := fun i hi => by rw [upd_ne _ _ (by omega)]; exact hr.yd i hi)
  (f_lim := by rw [upd_ne _ _ (by omega)]; exact hr.lim)
  (f_rub := by rw [upd_ne _ _ (by omega)]; exact hr.rub)
  (f_cuts := by rw [upd_ne _ _ (by omega)]; exact hr.cuts)
  (f_lifts := by rw [upd_ne _ _ (by omega)]; exact hr.lifts)
  (f_work := by rw [upd_ne _ _ (by omega)]; exact hr.work)
  (f_nw := by rw [upd_ne _ _ (by omega)]; exact hr.nw)
theorem InvW.stone {t : Nat} {w : Nat → Int32} (hi : InvW t w) (c n : Nat) (hc : c < 30) (hn : n ≤ 3) : InvW t (upd w (20 + 7 * c) (nI n)) := InvW.mk
  (f_h := fun d hd => by rw [upd_ne _ _ (by omega)]; exact hi.h d hd)
  (f_s := fun d hd => by
      by_cases e : d = c
      · subst e; rw [upd_at]; exact ⟨n, hn, rfl⟩
      · rw [upd_ne _ _ (by omega)]; exact hi.s d hd)
  (f_l := fun d hd => by rw [upd_ne _ _ (by omega)]; exact hi.l d hd)
  (f_n := fun d hd => by rw [upd_ne _ _ (by omega)]; exact hi.n d hd)
  (f_b := fun d j hd hj => by rw [upd_ne _ _ (by omega)]; exact hi.b d j hd hj)
  (f_wc := fun i h => by rw [upd_ne _ _ (by omega)]; exact hi.wc i h)
  (f_cp := fun i h => by rw [upd_ne _ _ (by omega)]; exact hi.cp i h)
  (f_rc := fun i h => by rw [upd_ne _ _ (by omega)]; exact hi.rc i h)
  (f_lim := by rw [upd_ne _ _ (by omega)]; exact hi.lim)
  (f_cuts := by rw [upd_ne _ _ (by omega)]; exact hi.cuts)
  (f_work := by rw [upd_ne _ _ (by omega)]; exact hi.work)
  (f_nw := by rw [upd_ne _ _ (by omega)]; exact hi.nw)
  (f_sum := by rw [upd_ne _ _ (by omega), upd_ne _ _ (by omega), itr_upd _ _ _ (fun d _ => by omega)]; exact hi.sum)
  (f_step := fun d k e hd hk he => by have := nb_lt hd hk he; rw [upd_ne _ _ (by omega), upd_ne _ _ (by omega), upd_ne _ _ (by omega)]; exact hi.step d k e hd hk he)
/-- stone -/
theorem cmd_stone {t : Nat} {q : QV} {m : MV} (hr : RelQ q (mNow m)) (hi : InvW t (mNow m)) (a b s : Int32) : Cmd t [0, 1] (f_X7_stoneFault q a b s) (f_X7_changeStone q a b s) (f_X11_sets m a b s) m := by
  rcases cell_or a b with ⟨r, k, hrr, hk, rfl, rfl⟩ | ⟨h1, h2, h3⟩
  · obtain ⟨g1, g2, g3, g4⟩ := g_cell r k hrr hk
    have hc : 6 * r + k < 30 := by omega
    generalize 6 * r + k = c at *
    have hof : f_X11_of m (nI c) 1 = some (mNow m (20 + 7 * c)) := by rw [show (1 : Int32) = nI 1 from rfl, m_of c 1 (by omega)]; congr 2; omega
    rcases stone_or s with ⟨n, hn, rfl, s1, s2⟩ | ⟨s1, s2⟩
    · left
      refine ⟨by unfold f_X7_stoneFault; rw [g1]; (try simp only [ob_s, jb_u, ↓reduceIte, i10, n06, n16, n26, n36, n46, n56, n10]); rw [s1]; rfl, mNow m (20 + 7 * c), _, upd (mNow m) (20 + 7 * c) (nI n), ?_, ?_, hr.stone c hc (nI n), (hi.stone c n hc (by omega)).up (Nat.le_succ t)⟩
      · unfold f_X7_changeStone
        simp only [g2, ob_s, if_pos (nIin hc (by decide : 30 < 2 ^ 31)), nI_clamp (show c < 2 ^ 31 by omega), jb_u, hr.s c hc]
      · unfold f_X11_sets
        rw [g4]
        (try simp only [ob_s, jb_u, ↓reduceIte, i10, n06, n16, n26, n36, n46, n56, n10])
        show (f_X11_of m (nI c) 1).bind _ = _
        rw [hof, g3, s2]
        (try simp only [ob_s, jb_u, ↓reduceIte, i10, n06, n16, n26, n36, n46, n56, n10])
        show (f_X11_holds m 1 1 1 1).bind _ = _
        rw [m_holds0]
        (try simp only [ob_s, jb_u, ↓reduceIte, i10, n06, n16, n26, n36, n46, n56, n10])
        show (f_X11_placeOf (nI c)).bind _ = _
        rw [placeOf_nI]
        show (if jIn (nI (19 + 7 * c) + 1) 229 then _ else _) = _
        rw [nI_1, if_pos (nIin (by omega) (by decide)), nI_clamp (by omega), show 19 + 7 * c + 1 = 20 + 7 * c by omega]
        rfl
    · right
      refine ⟨1, mNow m (20 + 7 * c), 1, by unfold f_X7_stoneFault; rw [g1]; (try simp only [ob_s, jb_u, ↓reduceIte, i10, n06, n16, n26, n36, n46, n56, n10]); rw [s1]; rfl, by omega, ?_, by omega, rfl⟩
      unfold f_X11_sets
      rw [g4]
      (try simp only [ob_s, jb_u, ↓reduceIte, i10, n06, n16, n26, n36, n46, n56, n10])
      show (f_X11_of m (nI c) 1).bind _ = _
      rw [hof, g3, s2]
      (try simp only [ob_s, jb_u, ↓reduceIte, i10, n06, n16, n26, n36, n46, n56, n10])
      show (f_X11_holds m 1 0 1 1).bind _ = _
      rw [m_holds2]
      rfl
  · right
    have hof : f_X11_of m 0 1 = some (mNow m 20) := by rw [show (0 : Int32) = nI 0 from rfl, show (1 : Int32) = nI 1 from rfl, m_of 0 1 (by omega)]
    refine ⟨0, mNow m 20, 0, by unfold f_X7_stoneFault; rw [h1]; rfl, by omega, ?_, by omega, rfl⟩
    unfold f_X11_sets
    rw [h3]
    (try simp only [ob_s, jb_u, ↓reduceIte, i10, n06, n16, n26, n36, n46, n56, n10])
    show (f_X11_of m 0 1).bind _ = _
    rw [hof, h2]
    (try simp only [ob_s, jb_u, ↓reduceIte, i10, n06, n16, n26, n36, n46, n56, n10])
    show (f_X11_isStone s).bind _ = _
    rcases stone_or s with ⟨n, hn, rfl, s1, s2⟩ | ⟨s1, s2⟩ <;> rw [s2] <;> rfl

