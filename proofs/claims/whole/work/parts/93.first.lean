theorem law_hB : ∀ t S, t < 512 → RelS t S → ∀ k, k < 64 → ∀ a1 a2 a3 a4 ol od, ∃ r, lawOp k S a1 a2 a3 a4 ol od = some r ∧ RelS (t + 1) r.1 := by
  intro t S ht h k hk a1 a2 a3 a4 ol od
  match k, hk with
  | 0, _ => exact lb_0 h (by omega) a1 a2 a3 a4 ol od
  | 1, _ => exact lb_1 h (by omega) a1 a2 a3 a4 ol od
  | 2, _ => exact lb_2 h (by omega) a1 a2 a3 a4 ol od
  | 3, _ => exact lb_3 h a1 a2 a3 a4 ol od
  | 4, _ => exact lb_4 h (by omega) a1 a2 a3 a4 ol od
  | 5, _ => exact lb_5 h (by omega) a1 a2 a3 a4 ol od
  | 6, _ => exact lb_6 h (by omega) a1 a2 a3 a4 ol od
  | 7, _ => exact lb_7 h (by omega) a1 a2 a3 a4 ol od
  | 8, _ => exact lb_8 h a1 a2 a3 a4 ol od
  | 9, _ => exact lb_9 h a1 a2 a3 a4 ol od
  | 10, _ => exact lb_10 h a1 a2 a3 a4 ol od
  | 11, _ => exact lb_11 h a1 a2 a3 a4 ol od
  | 12, _ => exact lb_12 h a1 a2 a3 a4 ol od
  | 13, _ => exact lb_13 h a1 a2 a3 a4 ol od
  | 14, _ => exact lb_14 h a1 a2 a3 a4 ol od
  | 15, _ => exact lb_15 h a1 a2 a3 a4 ol od
  | 16, _ => exact lb_16 h a1 a2 a3 a4 ol od
  | 17, _ => exact lb_17 h a1 a2 a3 a4 ol od
  | 18, _ => exact lb_18 h a1 a2 a3 a4 ol od
  | 19, _ => exact lb_19 h a1 a2 a3 a4 ol od
  | 20, _ => exact lb_20 h a1 a2 a3 a4 ol od
  | 21, _ => exact lb_21 h a1 a2 a3 a4 ol od
  | 22, _ => exact lb_22 h a1 a2 a3 a4 ol od
  | 23, _ => exact lb_23 h a1 a2 a3 a4 ol od
  | 24, _ => exact lb_24 h a1 a2 a3 a4 ol od
  | 25, _ => exact lb_25 h a1 a2 a3 a4 ol od
  | 26, _ => exact lb_26 h a1 a2 a3 a4 ol od
  | 27, _ => exact lb_27 h a1 a2 a3 a4 ol od
  | 28, _ => exact lb_28 h a1 a2 a3 a4 ol od
  | 29, _ => exact lb_29 h a1 a2 a3 a4 ol od
  | 30, _ => exact lb_30 h a1 a2 a3 a4 ol od
  | 31, _ => exact lb_31 h a1 a2 a3 a4 ol od
  | 32, _ => exact lb_32 h a1 a2 a3 a4 ol od
  | 33, _ => exact lb_33 h a1 a2 a3 a4 ol od
  | 34, _ => exact lb_34 h (by omega) a1 a2 a3 a4 ol od
  | 35, _ => exact lb_35 h a1 a2 a3 a4 ol od
  | 36, _ => exact lb_36 h a1 a2 a3 a4 ol od
  | 37, _ => exact lb_37 h (by omega) a1 a2 a3 a4 ol od
  | 38, _ => exact lb_38 h a1 a2 a3 a4 ol od
  | 39, _ => exact lb_39 h a1 a2 a3 a4 ol od
  | 40, _ => exact lb_40 h a1 a2 a3 a4 ol od
  | 41, _ => exact lb_41 h a1 a2 a3 a4 ol od
  | 42, _ => exact lb_42 h a1 a2 a3 a4 ol od
  | 43, _ => exact lb_43 h a1 a2 a3 a4 ol od
  | 44, _ => exact lb_44 h a1 a2 a3 a4 ol od
  | k + 45, _ => exact ⟨(S, ol, od), rfl, h.up⟩
/-! the first state -/
def w0 (n : Nat) : Nat → Int32 := fun i => if i = 0 then 1 else if i = 1 then 5 else if 19 ≤ i ∧ i < 19 + 7 * n ∧ (i - 19) % 7 = 0 then 6 else 0
def h0 (n : Nat) : Nat → Int32 := fun c => if c < n then 6 else 0
theorem w0_step {n : Nat} (hn : n < 30) : upd (w0 n) (19 + 7 * n) 6 = w0 (n + 1) := by
  funext k
  unfold upd w0
  by_cases h : k = 19 + 7 * n
  · subst h
    rw [if_pos rfl, if_neg (by omega), if_neg (by omega), if_pos ⟨by omega, by omega, by omega⟩]
  · rw [if_neg h]
    by_cases h0 : k = 0
    · rw [if_pos h0, if_pos h0]
    · by_cases h1 : k = 1
      · rw [if_neg h0, if_pos h1, if_neg h0, if_pos h1]
      · rw [if_neg h0, if_neg h1, if_neg h0, if_neg h1]
        by_cases h2 : 19 ≤ k ∧ k < 19 + 7 * n ∧ (k - 19) % 7 = 0
        · rw [if_pos h2, if_pos ⟨h2.1, by omega, h2.2.2⟩]
        · rw [if_neg h2, if_neg (by omega)]
theorem h0_step {n : Nat} : upd (h0 n) n 6 = h0 (n + 1) := by
  funext k
  unfold upd h0
  by_cases h : k = n
  · subst h
    rw [if_pos rfl, if_pos (by omega)]
  · rw [if_neg h]
    by_cases h2 : k < n
    · rw [if_pos h2, if_pos (by omega)]
    · rw [if_neg h2, if_neg (by omega)]
def q0 : QV := qSHeights (h0 30) (qSRubble 5 (qSLimit 1 qZero))
def m0 : MV := mSNow (w0 30) mZero
theorem q0_loop (H : Nat → Nat → Int32) (hs : ∀ k, k < 30 → upd (H k) k 6 = H (k + 1)) (q2 : QV) : jbL (fun s => f_X7_init_L84 s.1 s.2) 5000 (nI 0, qSHeights (H 0) q2) = some (nI 30, qSHeights (H 30) q2) := by
  refine lpD (fun k => (nI k, qSHeights (H k) q2)) _ 30 (fun k hk => ?_) ?_ 5000 (by decide)
  · show f_X7_init_L84 (nI k) _ = _
    unfold f_X7_init_L84
    rw [if_neg (show ¬ (30 : Int32) ≤ nI k from nI_ge (a := k) (b := 30) hk (by decide)), if_pos (nIin hk (by decide)), nI_clamp (by omega)]
    show some (Sum.inl (nI k + 1, qSHeights (upd (H k) k 6) q2)) = _
    rw [nI_1, hs k hk]
  · show f_X7_init_L84 (nI 30) _ = _
    unfold f_X7_init_L84
    rw [if_pos (show (30 : Int32) ≤ nI 30 from Int32.le_refl _)]
theorem q0_same : ∀ (q2 : QV) (h : Nat → Int32), qHeights q2 = h → qSHeights h q2 = q2 := by
  intro q2 h e
  rw [← e]
  rfl
theorem q0_init : f_X7_init = some q0 := by
  have e1 : qHeights (qSRubble 5 (qSLimit 1 qZero)) = h0 0 := by
    funext k
    exact (if_neg (Nat.not_lt_zero k)).symm
  have hl := q0_loop h0 (fun k _ => h0_step) (qSRubble 5 (qSLimit 1 qZero))
  rw [q0_same _ _ e1] at hl
  unfold q0
  generalize h0 30 = hh at hl ⊢
  unfold f_X7_init
  simp only [jbN]
  generalize qSRubble 5 (qSLimit 1 qZero) = q2 at hl ⊢
  have hl' : jbL (fun s => f_X7_init_L84 s.1 s.2) 5000 ((0 : Int32), q2) = some (nI 30, qSHeights hh q2) := hl
  rw [hl']
  rfl
theorem m0_loop (H : Nat → Nat → Int32) (hs : ∀ k, k < 30 → upd (H k) (19 + 7 * k) 6 = H (k + 1)) (m : MV) : jbL (fun s => f_X11_init_L99 s.1 s.2) 5000 (nI 0, mSNow (H 0) m) = some (nI 30, mSNow (H 30) m) := by
  refine lpD (fun k => (nI k, mSNow (H k) m)) _ 30 (fun k hk => ?_) ?_ 5000 (by decide)
  · show f_X11_init_L99 (nI k) _ = _
    unfold f_X11_init_L99 f_X11_placeOf
    rw [if_neg (show ¬ (30 : Int32) ≤ nI k from nI_ge (a := k) (b := 30) hk (by decide)), Option.bind_some, show (19 : Int32) + 7 * nI k + 0 = nI (19 + 7 * k) from by rw [show (19 : Int32) = nI 19 from rfl, show (7 : Int32) = nI 7 from rfl, nImul, nI_add, Int32.add_zero], if_pos (nIin (by omega) (by decide)), nI_clamp (by omega)]
    show some (Sum.inl (nI k + 1, mSNow (upd (H k) (19 + 7 * k) 6) m)) = _
    rw [nI_1, hs k hk]
  · show f_X11_init_L99 (nI 30) _ = _
    unfold f_X11_init_L99
    rw [if_pos (show (30 : Int32) ≤ nI 30 from Int32.le_refl _)]
theorem m0_two (m : MV) : mSNow (upd (mNow (mSNow (upd (mNow m) 0 1) m)) 1 5) (mSNow (upd (mNow m) 0 1) m) = mSNow (upd (upd (mNow m) 0 1) 1 5) m := rfl
theorem m0_row : upd (upd (mNow mZero) 0 1) 1 5 = w0 0 := by
  funext k
  show (if k = 1 then (5 : Int32) else if k = 0 then 1 else 0) = _
  unfold w0
  by_cases h1 : k = 1
  · subst h1; rfl
  · rw [if_neg h1, if_neg h1]
    by_cases h0 : k = 0
    · rw [if_pos h0, if_pos h0]
    · rw [if_neg h0, if_neg h0, if_neg (by omega)]
theorem m0_pure (m m1 : MV) (h : jbL (fun s => f_X11_init_L99 s.1 s.2) 5000 ((0 : Int32), mSNow (upd (upd (mNow m) 0 1) 1 5) m) = some (nI 30, m1)) : (jbN m fun w0 =>
  if jIn 0 229 then
  jbN (mSNow (upd (mNow w0) (0 : Int32).toNatClampNeg 1) w0) fun w2 =>
  if jIn 1 229 then
  jbN (mSNow (upd (mNow w2) (1 : Int32).toNatClampNeg 5) w2) fun w4 =>
  (jbL (fun s => f_X11_init_L99 (s.1) (s.2)) 5000 (0, w4)).bind fun o99 =>
  some (o99.2)
  else none
  else none) = some m1 := by
  have i0 : jIn (0 : Int32) 229 := by decide
  have i1 : jIn (1 : Int32) 229 := by decide
  have n0 : Int32.toNatClampNeg 0 = 0 := by decide
  have n1 : Int32.toNatClampNeg 1 = 1 := by decide
  rw [jb_u, if_pos i0, n0, jb_u, if_pos i1, n1, jb_u]
  rw [m0_two, h]
  rfl
theorem m0_init : f_X11_init = some m0 := by
  have hl := m0_loop w0 (fun k hk => w0_step hk) mZero
  unfold m0
  generalize w0 30 = hh at hl ⊢
  refine m0_pure mZero (mSNow hh mZero) ?_
  rw [m0_row]
  exact hl
def S0 : Sys := mkS (-1) (-1) q0 q0 sZero ([], 0, 0) (fun _ => 0, 0) (fun _ => 0, 0) none m0
theorem w0_h {c : Nat} (h : c < 30) : w0 30 (19 + 7 * c) = nI 6 := (by decide +kernel : ∀ c : Fin 30, w0 30 (19 + 7 * c.val) = nI 6) ⟨c, h⟩
theorem w0_z {i : Nat} (h : 2 ≤ i) (h2 : i < 19 ∨ (i - 19) % 7 ≠ 0) : w0 30 i = nI 0 := by
  unfold w0
  rw [if_neg (by omega), if_neg (by omega), if_neg (by omega)]
  rfl
theorem q0_rel : RelQ q0 (w0 30) := by
  refine RelQ.mk ?_ ?_ ?_ ?_ ?_ ?_ ?_ ?_ ?_ rfl rfl rfl rfl rfl rfl
  · intro c hc
    rw [w0_h hc]
    exact if_pos hc
  · intro c hc
    rw [w0_z (by omega) (Or.inr (by omega))]; rfl
  · intro c hc
    rw [w0_z (by omega) (Or.inr (by omega))]; rfl
  · intro c hc
    rw [w0_z (by omega) (Or.inr (by omega))]; rfl
  · intro c j hc hj
    rw [w0_z (by omega) (Or.inr (by omega))]; rfl
  · intro i hi
    rw [w0_z (by omega) (Or.inl (by omega))]; rfl
  · intro i hi
    rw [w0_z (by omega) (Or.inl (by omega))]; rfl
  · intro i hi
    rw [w0_z (by omega) (Or.inl (by omega))]; rfl
  · intro i hi
    rw [w0_z (by omega) (Or.inl (by omega))]; rfl
theorem w0_inv (t : Nat) : InvW t (w0 30) := by
  refine InvW.mk ?_ ?_ ?_ ?_ ?_ ?_ ?_ ?_ ⟨1, by decide, by decide, rfl⟩ ⟨0, by omega, rfl⟩ ⟨0, by omega, rfl⟩ ⟨0, by decide, rfl⟩ (by decide +kernel) ?_
  · intro c hc
    exact ⟨6, by decide, w0_h hc⟩
  · intro c hc
    exact ⟨0, by decide, w0_z (by omega) (Or.inr (by omega))⟩
  · intro c hc
    exact ⟨0, by decide, w0_z (by omega) (Or.inr (by omega))⟩
  · intro c hc
    exact ⟨0, by decide, w0_z (by omega) (Or.inr (by omega))⟩
  · intro c j hc hj
    exact ⟨0, by decide, w0_z (by omega) (Or.inr (by omega))⟩
  · intro i hi
    exact ⟨0, by decide, w0_z (by omega) (Or.inl (by omega))⟩
  · intro i hi
    exact ⟨0, by decide, w0_z (by omega) (Or.inl (by omega))⟩
  · intro i hi
    exact ⟨0, by decide, w0_z (by omega) (Or.inl (by omega))⟩
  · intro c k d hc hk e
    rw [w0_h hc, w0_h (nb_lt hc hk e)]
    omega
theorem S0_rel : RelS 0 S0 := by
  refine RelS.mk q0_rel (w0_inv _) ⟨0, 0, rfl, by decide, rfl, by decide, Nat.zero_le _, Or.inr ⟨Nat.zero_le _, Nat.zero_le _⟩, rfl, fun j hj => absurd hj (Nat.not_lt_zero _)⟩ rfl rfl ⟨0, by decide, rfl, rfl, fun k hk => absurd hk (Nat.not_lt_zero _)⟩ ⟨0, by decide, rfl, rfl, fun k hk => absurd hk (Nat.not_lt_zero _)⟩ rfl
