/-! the first state -/
def w0 (n : Nat) : Nat → Int32 := fun i => if i = 0 then 1 else if i = 1 then 5 else if 19 ≤ i ∧ i < 19 + 7 * n ∧ (i - 19) % 7 = 0 then 6 else 0
def h0 (n : Nat) : Nat → Int32 := fun c => if c < n then 6 else 0
theorem h0_step {n : Nat} : upd (h0 n) n 6 = h0 (n + 1) := by
  funext k
  unfold upd h0
  by_cases h : k = n
  · subst h
    rw [if_pos rfl, if_pos (by omega)]
  · rw [if_neg h]
    by_cases h2 : k < n
    · rw [if_pos h2, if_pos (by omega)]
    · rw [if_neg h2, if_neg (by omega)]
def q0 : QV := qSHeights (h0 30) (qSRubble 5 (qSLimit 1 qZero))
theorem q0_loop (H : Nat → Nat → Int32) (hs : ∀ k, k < 30 → upd (H k) k 6 = H (k + 1)) (q2 : QV) : jbL (fun s => f_X7_init_L84 s.1 s.2) 5000 (nI 0, qSHeights (H 0) q2) = some (nI 30, qSHeights (H 30) q2) := by
  refine lpD (fun k => (nI k, qSHeights (H k) q2)) _ 30 (fun k hk => ?_) ?_ 5000 (by decide)
  · show f_X7_init_L84 (nI k) _ = _
    unfold f_X7_init_L84
    rw [if_neg (show ¬ (30 : Int32) ≤ nI k from nI_ge (a := k) (b := 30) hk (by decide)), if_pos (nIin hk (by decide)), nI_clamp (by omega)]
    show some (Sum.inl (nI k + 1, qSHeights (upd (H k) k 6) q2)) = _
    rw [nI_1, hs k hk]
  · show f_X7_init_L84 (nI 30) _ = _
    unfold f_X7_init_L84
    rw [if_pos (show (30 : Int32) ≤ nI 30 from Int32.le_refl _)]
theorem q0_same : ∀ (q2 : QV) (h : Nat → Int32), qHeights q2 = h → qSHeights h q2 = q2 := by
  intro q2 h e
  rw [← e]
  rfl
theorem q0_init : f_X7_init = some q0 := by
  have e1 : qHeights (qSRubble 5 (qSLimit 1 qZero)) = h0 0 := by
    funext k
    exact (if_neg (Nat.not_lt_zero k)).symm
  have hl := q0_loop h0 (fun k _ => h0_step) (qSRubble 5 (qSLimit 1 qZero))
  rw [q0_same _ _ e1] at hl
  unfold q0
  generalize h0 30 = hh at hl ⊢
  unfold f_X7_init
  simp only [jbN]
  generalize qSRubble 5 (qSLimit 1 qZero) = q2 at hl ⊢
  have hl' : jbL (fun s => f_X7_init_L84 s.1 s.2) 5000 ((0 : Int32), q2) = some (nI 30, qSHeights hh q2) := hl
  rw [hl']
  rfl
theorem w0_h {c : Nat} (h : c < 30) : w0 30 (19 + 7 * c) = nI 6 := (by decide +kernel : ∀ c : Fin 30, w0 30 (19 + 7 * c.val) = nI 6) ⟨c, h⟩
theorem w0_z {i : Nat} (h : 2 ≤ i) (h2 : i < 19 ∨ (i - 19) % 7 ≠ 0) : w0 30 i = nI 0 := by
  unfold w0
  rw [if_neg (by omega), if_neg (by omega), if_neg (by omega)]
  rfl
theorem q0_rel : RelQ q0 (w0 30) := by
  refine RelQ.mk ?_ ?_ ?_ ?_ ?_ ?_ ?_ ?_ ?_ rfl rfl rfl rfl rfl rfl
  · intro c hc
    rw [w0_h hc]
    exact if_pos hc
  · intro c hc
    rw [w0_z (by omega) (Or.inr (by omega))]; rfl
  · intro c hc
    rw [w0_z (by omega) (Or.inr (by omega))]; rfl
  · intro c hc
    rw [w0_z (by omega) (Or.inr (by omega))]; rfl
  · intro c j hc hj
    rw [w0_z (by omega) (Or.inr (by omega))]; rfl
  · intro i hi
    rw [w0_z (by omega) (Or.inl (by omega))]; rfl
  · intro i hi
    rw [w0_z (by omega) (Or.inl (by omega))]; rfl
  · intro i hi
    rw [w0_z (by omega) (Or.inl (by omega))]; rfl
  · intro i hi
    rw [w0_z (by omega) (Or.inl (by omega))]; rfl
theorem w0_inv (t : Nat) : InvW t (w0 30) := by
  refine InvW.mk ?_ ?_ ?_ ?_ ?_ ?_ ?_ ?_ ⟨1, by decide, by decide, rfl⟩ ⟨0, by omega, rfl⟩ ⟨0, by omega, rfl⟩ ⟨0, by decide, rfl⟩ (by decide +kernel) ?_
  · intro c hc
    exact ⟨6, by decide, w0_h hc⟩
  · intro c hc
    exact ⟨0, by decide, w0_z (by omega) (Or.inr (by omega))⟩
  · intro c hc
    exact ⟨0, by decide, w0_z (by omega) (Or.inr (by omega))⟩
  · intro c hc
    exact ⟨0, by decide, w0_z (by omega) (Or.inr (by omega))⟩
  · intro c j hc hj
    exact ⟨0, by decide, w0_z (by omega) (Or.inr (by omega))⟩
  · intro i hi
    exact ⟨0, by decide, w0_z (by omega) (Or.inl (by omega))⟩
  · intro i hi
    exact ⟨0, by decide, w0_z (by omega) (Or.inl (by omega))⟩
  · intro i hi
    exact ⟨0, by decide, w0_z (by omega) (Or.inl (by omega))⟩
  · intro c k d hc hk e
    rw [w0_h hc, w0_h (nb_lt hc hk e)]
    omega
theorem w0_wd : WD (w0 30) := by
  intro n i j hn en hi hj _
  rw [w0_z (by omega) (Or.inl (by omega)), nI_eq (by omega) (by omega)] at en
  omega
theorem x0_ok : Sx 0 q0 ([], 0, 0) := ⟨⟨0, 0, rfl, by omega, rfl, by omega, Nat.zero_le _, Or.inr (Nat.zero_le _)⟩, w0 30, q0_rel, w0_inv 0, w0_wd⟩
