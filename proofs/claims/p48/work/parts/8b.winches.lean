/-! ===== areWinchesRight ===== -/
theorem best_can {w : Nat → Int32} {c : Nat} : ∀ n, (∀ b, best w c n = some b → canL w b c) ∧ (best w c n = none → ∀ i, i < n → ¬ canL w i c)
  | 0 => ⟨fun b h => (by cases h), fun _ i h => absurd h (Nat.not_lt_zero i)⟩
  | n + 1 => by
    obtain ⟨h1, h2⟩ := best_can (w := w) (c := c) n
    by_cases hc : canL w n c
    · cases e : best w c n with
      | none =>
        rw [best_0 hc e]
        exact ⟨fun b h => by cases h; exact hc, fun h => by cases h⟩
      | some b0 =>
        rw [best_1 hc e]
        refine ⟨fun b h => ?_, fun h => ?_⟩
        · by_cases hle : w (11 + 3 * b0) ≤ w (11 + 3 * n)
          · rw [if_pos hle] at h; cases h; exact h1 _ e
          · rw [if_neg hle] at h; cases h; exact hc
        · by_cases hle : w (11 + 3 * b0) ≤ w (11 + 3 * n)
          · rw [if_pos hle] at h; cases h
          · rw [if_neg hle] at h; cases h
    · rw [best_n hc]
      refine ⟨h1, fun h i hi => ?_⟩
      by_cases e : i = n
      · rw [e]; exact hc
      · exact h2 h i (by omega)
/-- which winches can lift from the cell, as bits -/
def mkB (p : Nat → Bool) (n : Nat) : Nat := sumN (fun i => if p i = true then 2 ^ i else 0) n
theorem mkB_s (p : Nat → Bool) (n : Nat) : mkB p (n + 1) = mkB p n + (if p n = true then 2 ^ n else 0) := sumN_s _ n
theorem mkB_0 (p : Nat → Bool) : mkB p 0 = 0 := rfl
theorem mkB_ok (p : Nat → Bool) (n : Nat) (hn : n ≤ 3) : mkB p n < 8 ∧ (mkB p n = 0 ↔ ∀ i, i < n → p i = false) ∧ ∀ b, b < n → p b = true → mkB p n / 2 ^ b % 2 = 1 := by
  have h : ∀ x y z : Bool, ∀ m : Fin 4, (let s := (if 0 < m.val ∧ x = true then 1 else 0) + (if 1 < m.val ∧ y = true then 2 else 0) + (if 2 < m.val ∧ z = true then 4 else 0); s < 8 ∧ (s = 0 ↔ (0 < m.val → x = false) ∧ (1 < m.val → y = false) ∧ (2 < m.val → z = false)) ∧ (0 < m.val → x = true → s / 1 % 2 = 1) ∧ (1 < m.val → y = true → s / 2 % 2 = 1) ∧ (2 < m.val → z = true → s / 4 % 2 = 1)) := by decide
  have e : mkB p n = (if 0 < n ∧ p 0 = true then 1 else 0) + (if 1 < n ∧ p 1 = true then 2 else 0) + (if 2 < n ∧ p 2 = true then 4 else 0) := by
    rcases (show n = 0 ∨ n = 1 ∨ n = 2 ∨ n = 3 by omega) with rfl | rfl | rfl | rfl
    · rw [mkB_0]; simp
    · rw [mkB_s, mkB_0]; simp
    · rw [mkB_s, mkB_s, mkB_0]; simp
    · rw [mkB_s, mkB_s, mkB_s, mkB_0]; simp
  obtain ⟨h1, h2, h3, h4, h5⟩ := h (p 0) (p 1) (p 2) ⟨n, by omega⟩
  rw [e]
  refine ⟨h1, h2.trans ⟨fun ⟨a, b, c⟩ i hi => ?_, fun a => ⟨fun q => a 0 q, fun q => a 1 q, fun q => a 2 q⟩⟩, fun b hb hp => ?_⟩
  · rcases (show i = 0 ∨ i = 1 ∨ i = 2 by omega) with rfl | rfl | rfl
    · exact a hi
    · exact b hi
    · exact c hi
  · rcases (show b = 0 ∨ b = 1 ∨ b = 2 by omega) with rfl | rfl | rfl
    · exact h3 hb hp
    · exact h4 hb hp
    · exact h5 hb hp
theorem shl_ok : ∀ i : Fin 3, (1 : Int32) <<< (nI i.val &&& 31) = nI (2 ^ i.val) := by decide +kernel
theorem shr_ok : ∀ m : Fin 8, ∀ b : Fin 3, m.val / 2 ^ b.val % 2 = 1 → (nI m.val >>> (nI b.val &&& 31)) - (nI m.val >>> (nI b.val &&& 31)) / 2 * 2 = 1 := by decide +kernel
section
variable {q : QV} {w : Nat → Int32} {t : Nat} {hv : HV}
theorem tq_yard (tv : TV) (hr : RelQ q w) : f_X10_yardWeight tv q = some (yWt w 4) := by
  have hq : jbL (fun s => f_X7_weightOfYard_L4 q s.1 s.2) 5000 (yWt w 0, nI 0) = some (yWt w 4, nI 4) := by
    refine lpD (fun k => (yWt w k, nI k)) _ 4 (fun k hk => ?_) ?_ 5000 (by decide)
    · show f_X7_weightOfYard_L4 q (yWt w k) (nI k) = some (Sum.inl (yWt w k + w (6 + k) * (2 + nI k), nI (k + 1)))
      unfold f_X7_weightOfYard_L4
      rw [if_neg (show ¬ (4 : Int32) ≤ nI k from nI_ge (a := k) (b := 4) hk (by decide)), if_pos (nIin hk (by decide)), nI_clamp (by omega), hr.yd k hk]
      simp only [wt7, ob_s, jb_u, nI_1]
    · show f_X7_weightOfYard_L4 q _ (nI 4) = _
      unfold f_X7_weightOfYard_L4
      rw [if_pos (show (4 : Int32) ≤ nI 4 from Int32.le_refl _)]
  have hq' : jbL (fun s : Int32 × Int32 => f_X7_weightOfYard_L4 q s.1 s.2) 5000 ((0 : Int32), (0 : Int32)) = some (yWt w 4, nI 4) := hq
  unfold f_X10_yardWeight f_X7_weightOfYard
  simp only [hq', ob_s]
theorem wn_315 (hr : RelQ q w) (u1 : Nat → Int32) (sv : SV) (ov : OV) (svd : Option QV) (x3 x4 : Int32) : jbL (fun s : Int32 × Int32 => f_L_areWinchesRight_L315 u1 q sv ov hv svd x3 x4 s.1 s.2) 5000 ((0 : Int32), (0 : Int32)) = some (yWt w 4, nI 4) := by
  have hl : jbL (fun s : Int32 × Int32 => f_L_areWinchesRight_L315 u1 q sv ov hv svd x3 x4 s.1 s.2) 5000 (yWt w 0, nI 0) = some (yWt w 4, nI 4) := by
    refine lpD (fun k => (yWt w k, nI k)) _ 4 (fun k hk => ?_) ?_ 5000 (by decide)
    · show f_L_areWinchesRight_L315 u1 q sv ov hv svd x3 x4 (yWt w k) (nI k) = some (Sum.inl (yWt w k + w (6 + k) * (2 + nI k), nI (k + 1)))
      unfold f_L_areWinchesRight_L315
      rw [if_neg (show ¬ (4 : Int32) ≤ nI k from nI_ge (a := k) (b := 4) hk (by decide)), tq_inYard _ hr k hk, ob_s, jm_r, jb_u, nI_1]
    · show f_L_areWinchesRight_L315 u1 q sv ov hv svd x3 x4 _ (nI 4) = _
      unfold f_L_areWinchesRight_L315
      rw [if_pos (show (4 : Int32) ≤ nI 4 from Int32.le_refl _)]
  exact hl
/-- the work of a lift is not below 0 -/
theorem lift_work {q1 : QV} {r a b : Int32} {c : Nat} (hr : RelQ q w) (hi : InvW t w) (h : AtC a b c) (hj : ∃ j, j < 3 ∧ w (22 + 7 * c) = nI (j + 1)) (e : f_X7_liftBlock q a b = some (r, q1)) : ¬ r < 0 := by
  obtain ⟨j, hj3, ej⟩ := hj
  obtain ⟨s, hs, es⟩ := hi.b c j h.1 (by omega)
  have ht := q_topStone hr c j h.1 hj3 ej
  obtain ⟨x, hx, ex⟩ := hi.h c h.1
  unfold f_X7_liftBlock at e
  obtain ⟨o1, h1, e⟩ := jbB_e e
  have e1 : o1 = nI c := Option.some.inj (h1.symm.trans h.g.2)
  subst e1
  obtain ⟨o3, h3, e⟩ := jbB_e e
  have e3 : o3 = nI s := (Option.some.inj (h3.symm.trans ht)).trans es
  subst e3
  obtain ⟨o5, h5, e⟩ := jbB_e e
  have e5 : o5 = 2 + nI s := Option.some.inj (h5.symm.trans (wt7 _))
  subst e5
  obtain ⟨-, e⟩ := jbA_e e
  obtain ⟨z, ez, e⟩ := jbN_x e
  obtain ⟨-, e⟩ := jbA_e e
  obtain ⟨-, e⟩ := jbA_e e
  obtain ⟨w1, -, e⟩ := jbN_x e
  obtain ⟨-, e⟩ := jbA_e e
  obtain ⟨-, e⟩ := jbA_e e
  obtain ⟨w2, -, e⟩ := jbN_x e
  obtain ⟨w3, -, e⟩ := jbN_x e
  obtain ⟨w4, -, e⟩ := jbN_x e
  cases e
  rw [ez, nI_clamp (show c < 2 ^ 31 by have := h.1; omega), hr.h c h.1, ex]
  exact (by decide +kernel : ∀ s : Fin 4, ∀ x : Fin 10, ¬ (2 + nI s.val) * (10 - nI x.val) < 0) ⟨s, by omega⟩ ⟨x, by omega⟩
/-- the law's lift: not below 0 just where the winch can -/
theorem L_lift (hr : RelQ q w) (hi : InvW t w) (ht : t < 2 ^ 20) (hh : HI hv) (n i : Nat) (hn : n ≤ 3) (en : w 5 = nI n) (hin : i < n) (k : Nat) (hk : k < 30) :
    ∃ r q' hv', f_L_deed q hv 6 (nI k / 6) (nI k - nI k / 6 * 6) (nI i) 0 = some (r, q', hv') ∧ HI hv' ∧ (canL w i k → ¬ r < 0) ∧ (¬ canL w i k → r < 0) := by
  have hA := AtC.k hk
  obtain ⟨-, ea, eb⟩ := id hA
  obtain ⟨hr5, hk6, hrk⟩ := rc_of k hk
  have hw := q_hasWi hr en hn hin
  obtain ⟨f1, f2⟩ := q_able hr hi i (k / 6) (k % 6) (by omega) hw hr5 hk6
  rw [hrk, ← ea, ← eb] at f1 f2
  have hplain : f_L_plain q hv 6 (nI k / 6) (nI k - nI k / 6 * 6) (nI i) 0 = (f_X10_lift (none, -1, -1) q hv (nI i) (nI k / 6) (nI k - nI k / 6 * 6)).bind fun o => jbM o (fun x => some (.inl x)) (fun y => some (.inr y)) := by
    unfold f_L_plain
    rw [if_neg (by decide), if_neg (by decide), if_neg (by decide), if_neg (by decide), if_neg (by decide), if_neg (by decide), if_pos rfl]
  by_cases hc : canL w i k
  · have hcmd := cmd_lift (m := mSNow w mZero) (by rw [mkM]; exact hr) (by rw [mkM]; exact hi) ht (nI i) (nI k / 6) (nI k - nI k / 6 * 6)
    rcases hcmd with ⟨hF, r, q', w', hCh, -, hq', hw'⟩ | ⟨j, r, c, hF, hj, -, -, -⟩
    · obtain ⟨hv', h1, h2⟩ := record_ok hh hr hi
      refine ⟨r, q', hv', ?_, h2, fun _ => ?_, fun h => absurd hc h⟩
      · unfold f_L_deed
        rw [hplain]
        unfold f_X10_lift
        rw [hF, ob_s, rf_0, ob_s, jm_r, h1, ob_s, hCh, ob_s, ob_s, jm_r, ob_s, jm_r]
      · obtain ⟨-, j, s, hj, hs, ej, -, -⟩ := hc
        exact lift_work hr hi hA ⟨j, hj, ej⟩ hCh
    · rw [f1 hc] at hF
      have := Option.some.inj hF
      omega
  · obtain ⟨z, hz, hF⟩ := f2 hc
    refine ⟨if z = 0 then -2002 else if z = 1 then -2003 else if z = 3 then -2005 else if z = 4 then -2001 else -2004, q, hv, ?_, hh, fun h => absurd h hc, fun _ => ?_⟩
    · unfold f_L_deed
      rw [hplain]
      unfold f_X10_lift
      rw [hF, ob_s, rf_s z hz, ob_s, jm_l, ob_s, jm_l, ob_s, jm_l]
      rcases (show z = 0 ∨ z = 1 ∨ z = 2 ∨ z = 3 ∨ z = 4 by omega) with rfl | rfl | rfl | rfl | rfl <;> rfl
    · rcases (show z = 0 ∨ z = 1 ∨ z = 2 ∨ z = 3 ∨ z = 4 by omega) with rfl | rfl | rfl | rfl | rfl <;> decide
theorem save_ok (hr : RelQ q w) (hi : InvW t w) (svd : Option QV) : ∃ o, f_X10_save q svd = some o ∧ RelQ o w := by
  unfold f_X10_save
  cases svd with
  | none =>
    obtain ⟨qi, hqi⟩ := q_init
    obtain ⟨o, ho, hro⟩ := q_copy qi q _ _ hr hi
    exact ⟨o, by simp only [hqi, ob_s, ho], hro⟩
  | some q0 => exact q_copy q0 q _ _ hr hi
theorem restore_ok {qs : QV} (hr : RelQ qs w) (hi : InvW t w) (q1 : QV) : ∃ o, f_X10_restore q1 (some qs) = some (.inr o) ∧ RelQ o w := by
  obtain ⟨o, ho, hro⟩ := q_copy q1 qs _ _ hr hi
  refine ⟨o, ?_, hro⟩
  unfold f_X10_restore
  simp only [ho, ob_s]
/-- a winch tries one cell -/
theorem wn_92 {qs : QV} (hrs : RelQ qs w) (hr : RelQ q w) (hi : InvW t w) (ht : t < 2 ^ 20) (hh : HI hv) (n i : Nat) (hn : n ≤ 3) (en : w 5 = nI n) (hin : i < n) (sv : SV) (ov : OV) (x1 x2 x3 x7 : Int32) (k : Nat) (hk : k < 30) (u : Nat → Int32) :
    ∃ q' hv' v, RelQ q' w ∧ HI hv' ∧ ((canL w i k ∧ v = (1 : Int32)) ∨ (¬ canL w i k ∧ v = 0)) ∧ f_L_areWinchesRight_L92 sv ov (some qs) x1 x2 x3 (nI i) 1 x7 (nI k) u q hv = some (.inl (1, x7 + v, nI (k + 1), upd u k (u k + (if v = 1 then nI (2 ^ i) else 0)), q', hv')) := by
  obtain ⟨r, q1, hv1, e1, h1, h2, h3⟩ := L_lift hr hi ht hh n i hn en hin k hk
  obtain ⟨q2, e2, hr2⟩ := restore_ok hrs hi q1
  have hlift := fun (q : QV) (hr : RelQ q w) => tq_liftable (none, -1, -1) hr hi n i hn en hin
  have e0 : f_L_areWinchesRight_L92 sv ov (some qs) x1 x2 x3 (nI i) 1 x7 (nI k) u q hv = if r < 0 then f_L_areWinchesRight_J140 u q1 sv ov hv1 (some qs) x1 x2 x3 1 (nI i) (nI k) (nI (cnt (canL w i) 30)) r 0 x7 else f_L_areWinchesRight_J140 u q1 sv ov hv1 (some qs) x1 x2 x3 1 (nI i) (nI k) (nI (cnt (canL w i) 30)) r 1 x7 := by
    unfold f_L_areWinchesRight_L92
    rw [if_neg (show ¬ (30 : Int32) ≤ nI k from nI_ge (a := k) (b := 30) hk (by decide)), hlift q hr, ob_s, jm_r, e1, ob_s, jb_u]
  have hJ : ∀ (y0 z : Int32), f_L_areWinchesRight_J162 u q1 sv ov hv1 (some qs) x1 x2 x3 1 (nI i) z (nI k) (nI (cnt (canL w i) 30)) y0 (u k) (nI k) = some (.inl (1, z, nI (k + 1), upd u k (u k + y0), q2, (hv1.1, hv1.2.1, 0))) := by
    intro y0 z
    unfold f_L_areWinchesRight_J162
    rw [if_pos (nIin hk (by decide)), nI_clamp (by omega), jb_u, e2, ob_s, jm_r, if_neg (show ¬ (1 : Int32) = 0 from by decide), hlift q2 hr2, ob_s, jm_r, if_pos rfl]
    unfold f_L_areWinchesRight_J189
    rw [nI_1]
  by_cases hc : canL w i k
  · refine ⟨q2, _, 1, hr2, h1.forget, Or.inl ⟨hc, rfl⟩, ?_⟩
    rw [e0, if_neg (h2 hc)]
    unfold f_L_areWinchesRight_J140
    rw [jb_u, if_pos (nIin hk (by decide)), if_neg (h2 hc), nI_clamp (by omega), hJ, if_pos rfl, shl_ok ⟨i, by omega⟩]
  · refine ⟨q2, _, 0, hr2, h1.forget, Or.inr ⟨hc, rfl⟩, ?_⟩
    rw [e0, if_pos (h3 hc)]
    unfold f_L_areWinchesRight_J140
    rw [jb_u, if_pos (nIin hk (by decide)), if_pos (h3 hc), nI_clamp (by omega), hJ, if_neg (show ¬ (0 : Int32) = 1 from by decide)]
noncomputable def mkW (w : Nat → Int32) (k n : Nat) : Nat := mkB (fun i => dcd (canL w i k)) n
theorem mkW_s (w : Nat → Int32) (k n : Nat) : mkW w k (n + 1) = mkW w k n + (if dcd (canL w n k) = true then 2 ^ n else 0) := mkB_s _ n
/-- a winch tries all cells -/
theorem wn_cells {qs : QV} (hrs : RelQ qs w) (hr : RelQ q w) (hi : InvW t w) (ht : t < 2 ^ 20) (hh : HI hv) (n i : Nat) (hn : n ≤ 3) (en : w 5 = nI n) (hin : i < n) (sv : SV) (ov : OV) (x1 x2 x3 : Int32) (u : Nat → Int32) (hu : ∀ k, k < 30 → u k = nI (mkW w k i)) :
    ∃ u' q' hv', RelQ q' w ∧ HI hv' ∧ (∀ k, k < 30 → u' k = nI (mkW w k (i + 1))) ∧ jbL (fun s : Int32 × Int32 × Int32 × (Nat → Int32) × QV × HV => f_L_areWinchesRight_L92 sv ov (some qs) x1 x2 x3 (nI i) s.1 s.2.1 s.2.2.1 s.2.2.2.1 s.2.2.2.2.1 s.2.2.2.2.2) 31 ((1 : Int32), (0 : Int32), (0 : Int32), u, q, hv) = some (1, nI (cnt (canL w i) 30), nI 30, u', q', hv') := by
  obtain ⟨r, h1, u', q', hv', g1, g2, g3, -, rfl⟩ := lpL (body := fun s : Int32 × Int32 × Int32 × (Nat → Int32) × QV × HV => f_L_areWinchesRight_L92 sv ov (some qs) x1 x2 x3 (nI i) s.1 s.2.1 s.2.2.1 s.2.2.2.1 s.2.2.2.2.1 s.2.2.2.2.2)
    (fun k s => ∃ u' q' hv', RelQ q' w ∧ HI hv' ∧ (∀ j, j < k → u' j = nI (mkW w j (i + 1))) ∧ (∀ j, k ≤ j → j < 30 → u' j = nI (mkW w j i)) ∧ s = ((1 : Int32), nI (cnt (canL w i) k), nI k, u', q', hv'))
    (fun r => ∃ u' q' hv', RelQ q' w ∧ HI hv' ∧ (∀ j, j < 30 → u' j = nI (mkW w j (i + 1))) ∧ (∀ j, 30 ≤ j → j < 30 → u' j = nI (mkW w j i)) ∧ r = ((1 : Int32), nI (cnt (canL w i) 30), nI 30, u', q', hv')) 30
    (fun k s hk ⟨u1, q1, hv1, a1, a2, a3, a4, e⟩ => by
      subst e
      left
      obtain ⟨q2, hv2, v, b1, b2, b3, b4⟩ := wn_92 hrs a1 hi ht a2 n i hn en hin sv ov x1 x2 x3 (nI (cnt (canL w i) k)) k hk u1
      refine ⟨_, b4, upd u1 k (u1 k + (if v = 1 then nI (2 ^ i) else 0)), q2, hv2, b1, b2, fun j hj => ?_, fun j hj hj30 => ?_, ?_⟩
      · by_cases e : j = k
        · subst e
          rw [upd_at, a4 j (Nat.le_refl _) hk, mkW_s]
          rcases b3 with ⟨hc, rfl⟩ | ⟨hc, rfl⟩
          · rw [if_pos rfl, if_pos (dcd_t.mpr hc), nI_add]
          · rw [if_neg (show ¬ (0 : Int32) = 1 from by decide), if_neg (fun h => hc (dcd_t.mp h)), Int32.add_zero, Nat.add_zero]
        · rw [upd_ne _ _ e]
          exact a3 j (by omega)
      · rw [upd_ne _ _ (by omega)]
        exact a4 j (by omega) hj30
      · rcases b3 with ⟨hc, rfl⟩ | ⟨hc, rfl⟩
        · rw [cnt_yes hc, nI_1]
        · rw [cnt_no hc, Int32.add_zero])
    (fun s ⟨u1, q1, hv1, a1, a2, a3, a4, e⟩ => by
      subst e
      refine ⟨_, ?_, u1, q1, hv1, a1, a2, a3, a4, rfl⟩
      show f_L_areWinchesRight_L92 sv ov (some qs) x1 x2 x3 (nI i) 1 _ (nI 30) u1 q1 hv1 = _
      unfold f_L_areWinchesRight_L92
      rw [if_pos (show (30 : Int32) ≤ nI 30 from Int32.le_refl _)]) 31 0 ((1 : Int32), (0 : Int32), (0 : Int32), u, q, hv) (by omega) (by omega) ⟨u, q, hv, hr, hh, fun j hj => absurd hj (Nat.not_lt_zero j), fun j _ hj => hu j hj, rfl⟩
  exact ⟨u', q', hv', g1, g2, g3, h1⟩
theorem wn_80 {qs : QV} (hrs : RelQ qs w) (hr : RelQ q w) (hi : InvW t w) (ht : t < 2 ^ 20) (hh : HI hv) (n : Nat) (hn : n ≤ 3) (en : w 5 = nI n) (sv : SV) (ov : OV) (x2 x3 : Int32) (u : Nat → Int32) (hu : ∀ k, k < 30 → u k = 0) :
    ∃ u' q' hv', RelQ q' w ∧ HI hv' ∧ (∀ k, k < 30 → u' k = nI (mkW w k n)) ∧ jbL (fun s : Int32 × Int32 × (Nat → Int32) × QV × HV => f_L_areWinchesRight_L80 sv ov (some qs) (nI n) x2 x3 s.1 s.2.1 s.2.2.1 s.2.2.2.1 s.2.2.2.2) 4 ((1 : Int32), (0 : Int32), u, q, hv) = some (1, nI n, u', q', hv') := by
  obtain ⟨r, h1, u', q', hv', g1, g2, g3, rfl⟩ := lpL (body := fun s : Int32 × Int32 × (Nat → Int32) × QV × HV => f_L_areWinchesRight_L80 sv ov (some qs) (nI n) x2 x3 s.1 s.2.1 s.2.2.1 s.2.2.2.1 s.2.2.2.2)
    (fun i s => ∃ u' q' hv', RelQ q' w ∧ HI hv' ∧ (∀ k, k < 30 → u' k = nI (mkW w k i)) ∧ s = ((1 : Int32), nI i, u', q', hv'))
    (fun r => ∃ u' q' hv', RelQ q' w ∧ HI hv' ∧ (∀ k, k < 30 → u' k = nI (mkW w k n)) ∧ r = ((1 : Int32), nI n, u', q', hv')) n
    (fun i s hin ⟨u1, q1, hv1, a1, a2, a3, e⟩ => by
      subst e
      left
      obtain ⟨u2, q2, hv2, b1, b2, b3, b4⟩ := wn_cells hrs a1 hi ht a2 n i hn en hin sv ov (nI n) x2 x3 u1 a3
      refine ⟨((1 : Int32), nI (i + 1), u2, q2, hv2), ?_, u2, q2, hv2, b1, b2, b3, rfl⟩
      show f_L_areWinchesRight_L80 sv ov (some qs) (nI n) x2 x3 1 (nI i) u1 q1 hv1 = _
      unfold f_L_areWinchesRight_L80
      rw [if_neg (show ¬ nI n ≤ nI i from nI_ge (a := i) (b := n) hin (by omega)), b4, ob_s, if_neg (show ¬ (1 : Int32) = 0 from by decide), tq_liftable _ b1 hi n i hn en hin, ob_s, jm_r, if_pos rfl]
      unfold f_L_areWinchesRight_J218
      rw [nI_1])
    (fun s ⟨u1, q1, hv1, a1, a2, a3, e⟩ => by
      subst e
      refine ⟨_, ?_, u1, q1, hv1, a1, a2, a3, rfl⟩
      show f_L_areWinchesRight_L80 sv ov (some qs) (nI n) x2 x3 1 (nI n) u1 q1 hv1 = _
      unfold f_L_areWinchesRight_L80
      rw [if_pos (Int32.le_refl _)]) 4 0 ((1 : Int32), (0 : Int32), u, q, hv) (by omega) (by omega) ⟨u, q, hv, hr, hh, fun k hk => (hu k hk).trans rfl, rfl⟩
  exact ⟨u', q', hv', g1, g2, g3, h1⟩
theorem wn_229 (hr : RelQ q w) (hi : InvW t w) (n : Nat) (hn : n ≤ 3) (en : w 5 = nI n) (sv : SV) (ov : OV) (svd : Option QV) (x2 x3 : Int32) (u : Nat → Int32) (hu : ∀ k, k < 30 → u k = nI (mkW w k n)) :
    jbL (fun s : Int32 × Int32 × SV => f_L_areWinchesRight_L229 u q ov hv svd x2 x3 s.1 s.2.1 s.2.2) 31 ((1 : Int32), (0 : Int32), sv) = some (1, nI 30, sv) := by
  have hl : jbL (fun s : Int32 × Int32 × SV => f_L_areWinchesRight_L229 u q ov hv svd x2 x3 s.1 s.2.1 s.2.2) 31 ((1 : Int32), nI 0, sv) = some (1, nI 30, sv) := by
    refine lpD (fun k => ((1 : Int32), nI k, sv)) _ 30 (fun k hk => ?_) ?_ 31 (by decide)
    · show f_L_areWinchesRight_L229 u q ov hv svd x2 x3 1 (nI k) sv = some (Sum.inl (1, nI (k + 1), sv))
      obtain ⟨m1, m2, m3⟩ := mkB_ok (fun i => dcd (canL w i k)) n hn
      have m1 : mkW w k n < 8 := m1
      obtain ⟨b1, b2⟩ := best_can (w := w) (c := k) n
      have h299 : f_L_areWinchesRight_J299 u q sv ov hv svd x2 x3 (nI k) = some (Sum.inl (1, nI (k + 1), sv)) := by
        unfold f_L_areWinchesRight_J299 f_L_areWinchesRight_J304
        rw [nI_1]
      unfold f_L_areWinchesRight_L229
      rw [if_neg (show ¬ (30 : Int32) ≤ nI k from nI_ge (a := k) (b := 30) hk (by decide)), ask_bst hr hi sv n hn en k hk, ob_s, jb_u, if_neg (show ¬ (1 : Int32) = 0 from by decide)]
      simp only [if_pos (nIin hk (by decide : 30 < 2 ^ 31)), nI_clamp (show k < 2 ^ 31 by omega), hu k hk]
      cases e : best w k n with
      | none =>
        have hz : mkW w k n = 0 := m2.mpr fun i hi9 => by
          have := b2 e i hi9
          cases h : dcd (canL w i k) with
          | false => rfl
          | true => exact absurd (dcd_t.mp h) this
        have ea : askB w n k = -2004 := by unfold askB; rw [e]
        rw [hz, if_pos (show nI 0 = (0 : Int32) from rfl), ea, if_pos rfl, h299]
      | some b =>
        have hb := best_lt n b e
        have hbit := m3 b hb (dcd_t.mpr (b1 b e))
        have hbit : mkW w k n / 2 ^ b % 2 = 1 := hbit
        have hz : ¬ nI (mkW w k n) = 0 := by
          rw [show (0 : Int32) = nI 0 from rfl, nI_eq (by omega) (by omega)]
          intro h0
          rw [h0, Nat.zero_div] at hbit
          omega
        have ea : askB w n k = nI b := by unfold askB; rw [e]
        rw [if_neg hz, ea, if_neg (show ¬ nI b < 0 from by rw [show (0 : Int32) = nI 0 from rfl, nI_ltI (by omega) (by omega)]; omega), if_pos (shr_ok ⟨mkW w k n, m1⟩ ⟨b, by omega⟩ hbit), h299]
    · show f_L_areWinchesRight_L229 u q ov hv svd x2 x3 1 (nI 30) sv = _
      unfold f_L_areWinchesRight_L229
      rw [if_pos (show (30 : Int32) ≤ nI 30 from Int32.le_refl _)]
  exact hl
/-- areWinchesRight answers 1, and the quarry is as it was -/
theorem L_winches (hr : RelQ q w) (hi : InvW t w) (ht : t < 2 ^ 20) (hh : HI hv) (sv : SV) (ov : OV) (svd : Option QV) :
    ∃ q' sv' ov' hv' svd', f_L_areWinchesRight q sv ov hv svd = some (1, q', sv', ov', hv', svd') ∧ RelQ q' w ∧ HI hv' := by
  obtain ⟨n, hn, en⟩ := hi.nw
  obtain ⟨ov1, e1⟩ := L_looks hr hi n hn en sv ov
  obtain ⟨qs, e2, hrs⟩ := save_ok hr hi svd
  obtain ⟨u', q', hv', g1, g2, g3, g4⟩ := wn_80 hrs hr hi ht hh n hn en sv ov1 0 (looksV w n) (fun _ => 0) (fun _ _ => rfl)
  obtain ⟨ov2, e3⟩ := L_looks g1 hi n hn en sv ov1
  obtain ⟨l1, l2⟩ := tq_liftable0 (none, -1, -1) hr n hn en
  refine ⟨q', sv, ov2, hv', some qs, ?_, g1, g2⟩
  unfold f_L_areWinchesRight
  rw [tq_winches _ hr, ob_s, e1, ob_s, jb_u, en, ask_x6_0 l1, ob_s, if_pos rfl, ask_x6_0 l2, ob_s, if_pos rfl, ask_x7_0 (tq_best5 _), ob_s, if_pos rfl]
  unfold f_L_areWinchesRight_J65
  rw [e2, ob_s, jb_u, g4, ob_s, wn_229 g1 hi n hn en sv ov1 (some qs) 0 (looksV w n) u' g3, ob_s, wn_315 g1 u' sv ov1 (some qs), ob_s, if_neg (show ¬ (1 : Int32) = 0 from by decide), tq_yard _ g1, ob_s, if_pos rfl, e3, ob_s, if_pos rfl]
end
