abbrev RelQ (q : QV) (w : Nat → Int32) : Prop :=
  (∀ c, c < 30 → qHeights q c = w (19 + 7 * c)) ∧
  (∀ c, c < 30 → qStones q c = w (20 + 7 * c)) ∧
  (∀ c, c < 30 → qLedges q c = w (21 + 7 * c)) ∧
  (∀ c, c < 30 → qBlockCounts q c = w (22 + 7 * c)) ∧
  (∀ c j, c < 30 → j < 3 → qBlocks q (3 * c + j) = w (23 + 7 * c + j)) ∧
  (∀ i, i < 3 → qWinchCells q i = w (10 + 3 * i)) ∧
  (∀ i, i < 3 → qCapacities q i = w (11 + 3 * i)) ∧
  (∀ i, i < 3 → qReaches q i = w (12 + 3 * i)) ∧
  (∀ i, i < 4 → qYard q i = w (6 + i)) ∧
  (qLimit q = w 0) ∧
  (qRubble q = w 1) ∧
  (qCuts q = w 2) ∧
  (qLifts q = w 3) ∧
  (qWork q = (w 4).toInt64) ∧
  (qWinches q = w 5)
theorem RelQ.h {q : QV} {w : Nat → Int32} (x : RelQ q w) : ∀ c, c < 30 → qHeights q c = w (19 + 7 * c) := x.1
theorem RelQ.s {q : QV} {w : Nat → Int32} (x : RelQ q w) : ∀ c, c < 30 → qStones q c = w (20 + 7 * c) := x.2.1
theorem RelQ.l {q : QV} {w : Nat → Int32} (x : RelQ q w) : ∀ c, c < 30 → qLedges q c = w (21 + 7 * c) := x.2.2.1
theorem RelQ.n {q : QV} {w : Nat → Int32} (x : RelQ q w) : ∀ c, c < 30 → qBlockCounts q c = w (22 + 7 * c) := x.2.2.2.1
theorem RelQ.b {q : QV} {w : Nat → Int32} (x : RelQ q w) : ∀ c j, c < 30 → j < 3 → qBlocks q (3 * c + j) = w (23 + 7 * c + j) := x.2.2.2.2.1
theorem RelQ.wc {q : QV} {w : Nat → Int32} (x : RelQ q w) : ∀ i, i < 3 → qWinchCells q i = w (10 + 3 * i) := x.2.2.2.2.2.1
theorem RelQ.cp {q : QV} {w : Nat → Int32} (x : RelQ q w) : ∀ i, i < 3 → qCapacities q i = w (11 + 3 * i) := x.2.2.2.2.2.2.1
theorem RelQ.rc {q : QV} {w : Nat → Int32} (x : RelQ q w) : ∀ i, i < 3 → qReaches q i = w (12 + 3 * i) := x.2.2.2.2.2.2.2.1
theorem RelQ.yd {q : QV} {w : Nat → Int32} (x : RelQ q w) : ∀ i, i < 4 → qYard q i = w (6 + i) := x.2.2.2.2.2.2.2.2.1
theorem RelQ.lim {q : QV} {w : Nat → Int32} (x : RelQ q w) : qLimit q = w 0 := x.2.2.2.2.2.2.2.2.2.1
theorem RelQ.rub {q : QV} {w : Nat → Int32} (x : RelQ q w) : qRubble q = w 1 := x.2.2.2.2.2.2.2.2.2.2.1
theorem RelQ.cuts {q : QV} {w : Nat → Int32} (x : RelQ q w) : qCuts q = w 2 := x.2.2.2.2.2.2.2.2.2.2.2.1
theorem RelQ.lifts {q : QV} {w : Nat → Int32} (x : RelQ q w) : qLifts q = w 3 := x.2.2.2.2.2.2.2.2.2.2.2.2.1
theorem RelQ.work {q : QV} {w : Nat → Int32} (x : RelQ q w) : qWork q = (w 4).toInt64 := x.2.2.2.2.2.2.2.2.2.2.2.2.2.1
theorem RelQ.nw {q : QV} {w : Nat → Int32} (x : RelQ q w) : qWinches q = w 5 := x.2.2.2.2.2.2.2.2.2.2.2.2.2.2
theorem RelQ.mk {q : QV} {w : Nat → Int32} (f_h : ∀ c, c < 30 → qHeights q c = w (19 + 7 * c)) (f_s : ∀ c, c < 30 → qStones q c = w (20 + 7 * c)) (f_l : ∀ c, c < 30 → qLedges q c = w (21 + 7 * c)) (f_n : ∀ c, c < 30 → qBlockCounts q c = w (22 + 7 * c)) (f_b : ∀ c j, c < 30 → j < 3 → qBlocks q (3 * c + j) = w (23 + 7 * c + j)) (f_wc : ∀ i, i < 3 → qWinchCells q i = w (10 + 3 * i)) (f_cp : ∀ i, i < 3 → qCapacities q i = w (11 + 3 * i)) (f_rc : ∀ i, i < 3 → qReaches q i = w (12 + 3 * i)) (f_yd : ∀ i, i < 4 → qYard q i = w (6 + i)) (f_lim : qLimit q = w 0) (f_rub : qRubble q = w 1) (f_cuts : qCuts q = w 2) (f_lifts : qLifts q = w 3) (f_work : qWork q = (w 4).toInt64) (f_nw : qWinches q = w 5) : RelQ q w := ⟨f_h, f_s, f_l, f_n, f_b, f_wc, f_cp, f_rc, f_yd, f_lim, f_rub, f_cuts, f_lifts, f_work, f_nw⟩
/-- the number that an int stands for -/
def vN (x : Int32) : Nat := x.toNatClampNeg
theorem vN_nI {n : Nat} (h : n < 2 ^ 31) : vN (nI n) = n := nI_clamp h
/-- what holds of the row of numbers after t calls -/
abbrev InvW (t : Nat) (w : Nat → Int32) : Prop :=
  (∀ c, c < 30 → ∃ n, n ≤ 9 ∧ w (19 + 7 * c) = nI n) ∧
  (∀ c, c < 30 → ∃ n, n ≤ 3 ∧ w (20 + 7 * c) = nI n) ∧
  (∀ c, c < 30 → ∃ n, n ≤ 1 ∧ w (21 + 7 * c) = nI n) ∧
  (∀ c, c < 30 → ∃ n, n ≤ 3 ∧ w (22 + 7 * c) = nI n) ∧
  (∀ c j, c < 30 → j < 3 → ∃ n, n ≤ 3 ∧ w (23 + 7 * c + j) = nI n) ∧
  (∀ i, i < 3 → ∃ n, n < 30 ∧ w (10 + 3 * i) = nI n) ∧
  (∀ i, i < 3 → ∃ n, n ≤ 9 ∧ w (11 + 3 * i) = nI n) ∧
  (∀ i, i < 3 → ∃ n, n ≤ 6 ∧ w (12 + 3 * i) = nI n) ∧
  (∃ n, 1 ≤ n ∧ n ≤ 4 ∧ w 0 = nI n) ∧
  (∃ n, n ≤ t ∧ w 2 = nI n) ∧
  (∃ n, n ≤ 50 * t ∧ w 4 = nI n) ∧
  (∃ n, n ≤ 3 ∧ w 5 = nI n) ∧
  (w 2 = w 3 + itr (fun c x => x + w (22 + 7 * c)) 0 30) ∧
  (∀ c k d, c < 30 → k < 4 → nb c k = some d → vN (w (19 + 7 * c)) ≤ vN (w (19 + 7 * d)) + vN (w 0))
theorem InvW.h {t : Nat} {w : Nat → Int32} (x : InvW t w) : ∀ c, c < 30 → ∃ n, n ≤ 9 ∧ w (19 + 7 * c) = nI n := x.1
theorem InvW.s {t : Nat} {w : Nat → Int32} (x : InvW t w) : ∀ c, c < 30 → ∃ n, n ≤ 3 ∧ w (20 + 7 * c) = nI n := x.2.1
theorem InvW.l {t : Nat} {w : Nat → Int32} (x : InvW t w) : ∀ c, c < 30 → ∃ n, n ≤ 1 ∧ w (21 + 7 * c) = nI n := x.2.2.1
theorem InvW.n {t : Nat} {w : Nat → Int32} (x : InvW t w) : ∀ c, c < 30 → ∃ n, n ≤ 3 ∧ w (22 + 7 * c) = nI n := x.2.2.2.1
theorem InvW.b {t : Nat} {w : Nat → Int32} (x : InvW t w) : ∀ c j, c < 30 → j < 3 → ∃ n, n ≤ 3 ∧ w (23 + 7 * c + j) = nI n := x.2.2.2.2.1
theorem InvW.wc {t : Nat} {w : Nat → Int32} (x : InvW t w) : ∀ i, i < 3 → ∃ n, n < 30 ∧ w (10 + 3 * i) = nI n := x.2.2.2.2.2.1
theorem InvW.cp {t : Nat} {w : Nat → Int32} (x : InvW t w) : ∀ i, i < 3 → ∃ n, n ≤ 9 ∧ w (11 + 3 * i) = nI n := x.2.2.2.2.2.2.1
theorem InvW.rc {t : Nat} {w : Nat → Int32} (x : InvW t w) : ∀ i, i < 3 → ∃ n, n ≤ 6 ∧ w (12 + 3 * i) = nI n := x.2.2.2.2.2.2.2.1
theorem InvW.lim {t : Nat} {w : Nat → Int32} (x : InvW t w) : ∃ n, 1 ≤ n ∧ n ≤ 4 ∧ w 0 = nI n := x.2.2.2.2.2.2.2.2.1
theorem InvW.cuts {t : Nat} {w : Nat → Int32} (x : InvW t w) : ∃ n, n ≤ t ∧ w 2 = nI n := x.2.2.2.2.2.2.2.2.2.1
theorem InvW.work {t : Nat} {w : Nat → Int32} (x : InvW t w) : ∃ n, n ≤ 50 * t ∧ w 4 = nI n := x.2.2.2.2.2.2.2.2.2.2.1
theorem InvW.nw {t : Nat} {w : Nat → Int32} (x : InvW t w) : ∃ n, n ≤ 3 ∧ w 5 = nI n := x.2.2.2.2.2.2.2.2.2.2.2.1
theorem InvW.sum {t : Nat} {w : Nat → Int32} (x : InvW t w) : w 2 = w 3 + itr (fun c x => x + w (22 + 7 * c)) 0 30 := x.2.2.2.2.2.2.2.2.2.2.2.2.1
theorem InvW.step {t : Nat} {w : Nat → Int32} (x : InvW t w) : ∀ c k d, c < 30 → k < 4 → nb c k = some d → vN (w (19 + 7 * c)) ≤ vN (w (19 + 7 * d)) + vN (w 0) := x.2.2.2.2.2.2.2.2.2.2.2.2.2
theorem InvW.mk {t : Nat} {w : Nat → Int32} (f_h : ∀ c, c < 30 → ∃ n, n ≤ 9 ∧ w (19 + 7 * c) = nI n) (f_s : ∀ c, c < 30 → ∃ n, n ≤ 3 ∧ w (20 + 7 * c) = nI n) (f_l : ∀ c, c < 30 → ∃ n, n ≤ 1 ∧ w (21 + 7 * c) = nI n) (f_n : ∀ c, c < 30 → ∃ n, n ≤ 3 ∧ w (22 + 7 * c) = nI n) (f_b : ∀ c j, c < 30 → j < 3 → ∃ n, n ≤ 3 ∧ w (23 + 7 * c + j) = nI n) (f_wc : ∀ i, i < 3 → ∃ n, n < 30 ∧ w (10 + 3 * i) = nI n) (f_cp : ∀ i, i < 3 → ∃ n, n ≤ 9 ∧ w (11 + 3 * i) = nI n) (f_rc : ∀ i, i < 3 → ∃ n, n ≤ 6 ∧ w (12 + 3 * i) = nI n) (f_lim : ∃ n, 1 ≤ n ∧ n ≤ 4 ∧ w 0 = nI n) (f_cuts : ∃ n, n ≤ t ∧ w 2 = nI n) (f_work : ∃ n, n ≤ 50 * t ∧ w 4 = nI n) (f_nw : ∃ n, n ≤ 3 ∧ w 5 = nI n) (f_sum : w 2 = w 3 + itr (fun c x => x + w (22 + 7 * c)) 0 30) (f_step : ∀ c k d, c < 30 → k < 4 → nb c k = some d → vN (w (19 + 7 * c)) ≤ vN (w (19 + 7 * d)) + vN (w 0)) : InvW t w := ⟨f_h, f_s, f_l, f_n, f_b, f_wc, f_cp, f_rc, f_lim, f_cuts, f_work, f_nw, f_sum, f_step⟩
theorem InvW.up {t u : Nat} {w : Nat → Int32} (h : InvW t w) (htu : t ≤ u) : InvW u w := by
  obtain ⟨n, hn, e⟩ := h.cuts
  obtain ⟨m, hm, e2⟩ := h.work
  exact InvW.mk h.h h.s h.l h.n h.b h.wc h.cp h.rc h.lim ⟨n, by omega, e⟩ ⟨m, by omega, e2⟩ h.nw h.sum h.step
theorem cpy_0 (u0 u1 : Nat → Int32) (i j : Nat) : va_cpy u0 u1 i j 0 = u1 := by
  funext k
  unfold va_cpy
  rw [if_neg (by omega)]
theorem cpy_1 (u0 u1 : Nat → Int32) (i j n : Nat) : upd (va_cpy u0 u1 i j n) (j + n) (u0 (i + n)) = va_cpy u0 u1 i j (n + 1) := by
  funext k
  unfold upd va_cpy
  by_cases h : k = j + n
  · subst h
    rw [if_pos rfl, if_pos (by omega)]
    congr 1
    omega
  · rw [if_neg h]
    by_cases h2 : j ≤ k ∧ k < j + n
    · rw [if_pos h2, if_pos (by omega)]
    · rw [if_neg h2, if_neg (by omega)]
theorem nar_le1 {n : Nat} (h : n ≤ 1) : vp_nar .boolean (nI n) = nI n := (by decide +kernel : ∀ n : Fin 2, vp_nar .boolean (nI n.val) = nI n.val) ⟨n, by omega⟩
theorem cpy_in {f g : Nat → Int32} {n k : Nat} (h : k < n) : va_cpy f g 0 0 n k = f k := by
  unfold va_cpy
  rw [if_pos (by omega)]
  congr 1
  omega
theorem jbN_i {α β : Type} {e : α} {k : α → β} {P : β → Prop} (h : ∀ x, x = e → P (k x)) : P (jbN e k) := h e rfl
set_option maxHeartbeats 4000000 in
theorem q_copy (q q1 : QV) (w : Nat → Int32) (t : Nat) (hr : RelQ q1 w) (hi : InvW t w) : ∃ o, f_X7_copyFrom q q1 = some o ∧ RelQ o w := by
  have hbit : ∀ c, c < 30 → vp_nar .boolean (qLedges q1 c) = qLedges q1 c := fun c hc => by
    obtain ⟨n, hn, e⟩ := hi.l c hc
    rw [hr.l c hc, e]
    exact nar_le1 hn
  have hl : ∀ q8 : QV, jbL (fun s => f_X7_copyFrom_L118 q1 s.1 s.2) 5000 (nI 0, qSLedges (va_cpy (qLedges q1) (qLedges q8) 0 0 0) q8) = some (nI 30, qSLedges (va_cpy (qLedges q1) (qLedges q8) 0 0 30) q8) := by
    intro q8
    refine lpD (fun k => (nI k, qSLedges (va_cpy (qLedges q1) (qLedges q8) 0 0 k) q8)) _ 30 (fun k hk => ?_) ?_ 5000 (by decide)
    · show f_X7_copyFrom_L118 q1 (nI k) _ = _
      unfold f_X7_copyFrom_L118
      rw [if_neg (show ¬ (30 : Int32) ≤ nI k from nI_ge (a := k) (b := 30) hk (by decide)), if_pos (nIin hk (by decide)), if_pos (nIin hk (by decide)), nI_clamp (by omega), hbit k hk]
      show some (Sum.inl (nI k + 1, qSLedges (upd (va_cpy (qLedges q1) (qLedges q8) 0 0 k) k (qLedges q1 k)) q8)) = _
      have := cpy_1 (qLedges q1) (qLedges q8) 0 0 k
      simp only [Nat.zero_add] at this
      rw [this, nI_1]
    · show f_X7_copyFrom_L118 q1 (nI 30) _ = _
      unfold f_X7_copyFrom_L118
      rw [if_pos (show (30 : Int32) ≤ nI 30 from Int32.le_refl _)]
  unfold f_X7_copyFrom
  refine jbN_i (P := fun z => ∃ o, z = some o ∧ RelQ o w) fun w1 ew1 => ?_
  try dsimp only
  refine jbN_i (P := fun z => ∃ o, z = some o ∧ RelQ o w) fun w2 ew2 => ?_
  try dsimp only
  refine jbN_i (P := fun z => ∃ o, z = some o ∧ RelQ o w) fun w3 ew3 => ?_
  try dsimp only
  refine jbN_i (P := fun z => ∃ o, z = some o ∧ RelQ o w) fun w4 ew4 => ?_
  try dsimp only
  refine jbN_i (P := fun z => ∃ o, z = some o ∧ RelQ o w) fun w5 ew5 => ?_
  try dsimp only
  refine jbN_i (P := fun z => ∃ o, z = some o ∧ RelQ o w) fun w6 ew6 => ?_
  try dsimp only
  refine jbN_i (P := fun z => ∃ o, z = some o ∧ RelQ o w) fun w7 ew7 => ?_
  try dsimp only
  refine jbN_i (P := fun z => ∃ o, z = some o ∧ RelQ o w) fun w8 ew8 => ?_
  try dsimp only
  have h0 : qHeights w8 = va_cpy (qHeights q1) (qHeights q) 0 0 30 := by
    have e8 : qHeights w8 = qHeights w7 := by rw [ew8]; rfl
    have e7 : qHeights w7 = qHeights w6 := by rw [ew7]; rfl
    have e6 : qHeights w6 = qHeights w5 := by rw [ew6]; rfl
    have e5 : qHeights w5 = qHeights w4 := by rw [ew5]; rfl
    have e4 : qHeights w4 = qHeights w3 := by rw [ew4]; rfl
    have e3 : qHeights w3 = qHeights w2 := by rw [ew3]; rfl
    have e2 : qHeights w2 = qHeights w1 := by rw [ew2]; rfl
    have e1 : qHeights w1 = va_cpy (qHeights q1) (qHeights q) 0 0 30 := by rw [ew1]; rfl
    rw [e8, e7, e6, e5, e4, e3, e2, e1]
  have h1 : qStones w8 = va_cpy (qStones q1) (qStones w1) 0 0 30 := by
    have e8 : qStones w8 = qStones w7 := by rw [ew8]; rfl
    have e7 : qStones w7 = qStones w6 := by rw [ew7]; rfl
    have e6 : qStones w6 = qStones w5 := by rw [ew6]; rfl
    have e5 : qStones w5 = qStones w4 := by rw [ew5]; rfl
    have e4 : qStones w4 = qStones w3 := by rw [ew4]; rfl
    have e3 : qStones w3 = qStones w2 := by rw [ew3]; rfl
    have e2 : qStones w2 = va_cpy (qStones q1) (qStones w1) 0 0 30 := by rw [ew2]; rfl
    rw [e8, e7, e6, e5, e4, e3, e2]
  have h2 : qBlockCounts w8 = va_cpy (qBlockCounts q1) (qBlockCounts w2) 0 0 30 := by
    have e8 : qBlockCounts w8 = qBlockCounts w7 := by rw [ew8]; rfl
    have e7 : qBlockCounts w7 = qBlockCounts w6 := by rw [ew7]; rfl
    have e6 : qBlockCounts w6 = qBlockCounts w5 := by rw [ew6]; rfl
    have e5 : qBlockCounts w5 = qBlockCounts w4 := by rw [ew5]; rfl
    have e4 : qBlockCounts w4 = qBlockCounts w3 := by rw [ew4]; rfl
    have e3 : qBlockCounts w3 = va_cpy (qBlockCounts q1) (qBlockCounts w2) 0 0 30 := by rw [ew3]; rfl
    rw [e8, e7, e6, e5, e4, e3]
  have h3 : qBlocks w8 = va_cpy (qBlocks q1) (qBlocks w3) 0 0 90 := by
    have e8 : qBlocks w8 = qBlocks w7 := by rw [ew8]; rfl
    have e7 : qBlocks w7 = qBlocks w6 := by rw [ew7]; rfl
    have e6 : qBlocks w6 = qBlocks w5 := by rw [ew6]; rfl
    have e5 : qBlocks w5 = qBlocks w4 := by rw [ew5]; rfl
    have e4 : qBlocks w4 = va_cpy (qBlocks q1) (qBlocks w3) 0 0 90 := by rw [ew4]; rfl
    rw [e8, e7, e6, e5, e4]
  have h4 : qWinchCells w8 = va_cpy (qWinchCells q1) (qWinchCells w4) 0 0 3 := by
    have e8 : qWinchCells w8 = qWinchCells w7 := by rw [ew8]; rfl
    have e7 : qWinchCells w7 = qWinchCells w6 := by rw [ew7]; rfl
    have e6 : qWinchCells w6 = qWinchCells w5 := by rw [ew6]; rfl
    have e5 : qWinchCells w5 = va_cpy (qWinchCells q1) (qWinchCells w4) 0 0 3 := by rw [ew5]; rfl
    rw [e8, e7, e6, e5]
  have h5 : qCapacities w8 = va_cpy (qCapacities q1) (qCapacities w5) 0 0 3 := by
    have e8 : qCapacities w8 = qCapacities w7 := by rw [ew8]; rfl
    have e7 : qCapacities w7 = qCapacities w6 := by rw [ew7]; rfl
    have e6 : qCapacities w6 = va_cpy (qCapacities q1) (qCapacities w5) 0 0 3 := by rw [ew6]; rfl
    rw [e8, e7, e6]
  have h6 : qReaches w8 = va_cpy (qReaches q1) (qReaches w6) 0 0 3 := by
    have e8 : qReaches w8 = qReaches w7 := by rw [ew8]; rfl
    have e7 : qReaches w7 = va_cpy (qReaches q1) (qReaches w6) 0 0 3 := by rw [ew7]; rfl
    rw [e8, e7]
  have h7 : qYard w8 = va_cpy (qYard q1) (qYard w7) 0 0 4 := by
    have e8 : qYard w8 = va_cpy (qYard q1) (qYard w7) 0 0 4 := by rw [ew8]; rfl
    rw [e8]
  have h9 := hl w8
  rw [cpy_0] at h9
  rw [show qSLedges (qLedges w8) w8 = w8 from rfl] at h9
  rw [show ((nI 0 : Int32), w8) = ((0 : Int32), w8) from rfl] at h9
  refine ⟨qSWork (qWork q1) (qSLifts (qLifts q1) (qSCuts (qCuts q1) (qSRubble (qRubble q1) (qSLimit (qLimit q1) (qSWinches (qWinches q1) (qSLedges (va_cpy (qLedges q1) (qLedges w8) 0 0 30) w8)))))), by rw [h9]; rfl, ?_⟩
  clear ew1 ew2 ew3 ew4 ew5 ew6 ew7 ew8 hl h9
  exact RelQ.mk
    (f_h := fun c hc => by show qHeights w8 c = _; rw [h0, cpy_in hc]; exact hr.h c hc)
    (f_s := fun c hc => by show qStones w8 c = _; rw [h1, cpy_in hc]; exact hr.s c hc)
    (f_l := fun c hc => by show va_cpy (qLedges q1) (qLedges w8) 0 0 30 c = _; rw [cpy_in hc]; exact hr.l c hc)
    (f_n := fun c hc => by show qBlockCounts w8 c = _; rw [h2, cpy_in hc]; exact hr.n c hc)
    (f_b := fun c j hc hj => by show qBlocks w8 (3 * c + j) = _; rw [h3, cpy_in (by omega)]; exact hr.b c j hc hj)
    (f_wc := fun i h => by show qWinchCells w8 i = _; rw [h4, cpy_in h]; exact hr.wc i h)
    (f_cp := fun i h => by show qCapacities w8 i = _; rw [h5, cpy_in h]; exact hr.cp i h)
    (f_rc := fun i h => by show qReaches w8 i = _; rw [h6, cpy_in h]; exact hr.rc i h)
    (f_yd := fun i h => by show qYard w8 i = _; rw [h7, cpy_in h]; exact hr.yd i h)
    (f_lim := hr.lim) (f_rub := hr.rub) (f_cuts := hr.cuts) (f_lifts := hr.lifts) (f_work := hr.work) (f_nw := hr.nw)

