/-! ===== areCellsRight ===== -/
section
variable {q : QV} {w : Nat → Int32} {t : Nat}
theorem tq_cons (tv : TV) (hr : RelQ q w) (hi : InvW t w) (sv : SV) (f : Nat → Nat) (hf : LOk w f) (hcf : ∀ c d, c < 30 → pos w c → Cn (SE w) c d → f c = f d) : ∃ sv', f_X10_isConsistent tv q sv = some (1, sv') := by
  obtain ⟨sv1, e1⟩ := q_search hr hi sv f hf hcf
  obtain ⟨sv2, e2⟩ := q_merge hr hi sv1 f hf hcf
  obtain ⟨sv3, e3⟩ := q_needed hr hi tv sv2
  have hlim : f_X7_limit q = some (w 0) := by unfold f_X7_limit; rw [hr.lim]
  have hw := (q_within hr (w 0)).1 (fun c hc => stp_in hi hc)
  have hq2 : f_X7_cutsDone q = some (w 2) := by unfold f_X7_cutsDone; rw [hr.cuts]
  have hq3 : f_X7_liftsDone q = some (w 3) := by unfold f_X7_liftsDone; rw [hr.lifts]
  refine ⟨sv3, ?_⟩
  unfold f_X10_isConsistent
  simp only [hlim, ob_s, hw, i10, ↓reduceIte, e1, e2, e3, hq2, hq3, q_blocks hr]
  rw [if_pos hi.sum]
theorem tq_mean (tv : TV) (hr : RelQ q w) (hi : InvW t w) : f_X10_meanHeight tv q = some (FP.ddiv (FP.i2d (nI (sumN (hS w) 30))) (4629137466983448576 : UInt64)) := by
  unfold f_X10_meanHeight
  rw [q_hsum hr hi, Option.bind_some, if_pos (fr_and64 _ (fr_mean _ (hS_le hi)))]
theorem cmp_d {x : UInt64} (h : x.toNat % 9223372036854775808 ≤ 9218868437227405312) : Op.cmpValue (FP.dcmp x x) .l = 0 := by rw [fr_dcmp x h]; rfl
theorem fr_fcmp (x : UInt32) (h : x.toNat % 2147483648 ≤ 2139095040) : FP.fcmp x x = some .eq := fr_ord _ (fr_not32 _ h)
theorem cmp_f {x : UInt32} (h : x.toNat % 2147483648 ≤ 2139095040) : Op.cmpValue (FP.fcmp x x) .l = 0 := by rw [fr_fcmp x h]; rfl
theorem share_ok (hi : InvW t w) (ht : t ≤ 10240) (hz : ¬ w 2 = 0) : (FP.fdiv (FP.i2f (w 3)) (FP.i2f (w 2))).toNat % 2147483648 ≤ 2139095040 := by
  obtain ⟨n, hn, en⟩ := hi.cuts
  have hn0 : n ≠ 0 := fun e => hz (by rw [en, e]; rfl)
  have h2 := fr_i2f n (by omega)
  rw [en]
  exact fr_div _ _ (lifts_fin hi ht) h2.1 (h2.2 hn0)
theorem tq_share (tv : TV) (hr : RelQ q w) (hi : InvW t w) (ht : t ≤ 10240) (hz : ¬ w 2 = 0) : f_X10_liftedShare tv q = some (.inr (FP.fdiv (FP.i2f (w 3)) (FP.i2f (w 2)))) := by
  have hq2 : f_X7_cutsDone q = some (w 2) := by unfold f_X7_cutsDone; rw [hr.cuts]
  have hq3 : f_X7_liftsDone q = some (w 3) := by unfold f_X7_liftsDone; rw [hr.lifts]
  unfold f_X10_liftedShare
  rw [hq2, Option.bind_some, if_neg hz, hq3, Option.bind_some, if_pos (fr_and32 _ (share_ok hi ht hz))]
/-! the loop over the other cells -/
theorem need_1 : ∀ h : Fin 10, ∀ g : Fin 10, ∀ m : Fin 37, jMax 0 ((nI h.val - nI g.val) - nI m.val) = nI (h.val - (g.val + m.val)) := by decide +kernel
theorem L_farN (c d : Nat) (h : c < 30) (hd : d < 30) : f_L_far (nI c) (nI d) = some (nI (far c d)) := by
  unfold f_L_far
  rw [L_far c d h hd]
theorem L_needed (hr : RelQ q w) (hi : InvW t w) (u1 : Nat → Int32) (sv : SV) (x1 x2 x3 x4 x6 x9 x10 : Int32) (c n L : Nat) (hc : c < 30) (hn : n ≤ 9) (hL : w 0 = nI L) (hL4 : L ≤ 4) :
    jbL (fun s => f_L_areCellsRight_L269 u1 q sv x1 x2 x3 x4 x6 (nI c) x9 x10 (nI n) s.1 s.2) 5000 ((0 : Int32), (0 : Int32)) = some (nI (sumN (lw w L c n) 30), nI 30) := by
  have hl : jbL (fun s => f_L_areCellsRight_L269 u1 q sv x1 x2 x3 x4 x6 (nI c) x9 x10 (nI n) s.1 s.2) 5000 (nI (sumN (lw w L c n) 0), nI 0) = some (nI (sumN (lw w L c n) 30), nI 30) := by
    refine lpD (fun k => (nI (sumN (lw w L c n) k), nI k)) _ 30 (fun k hk => ?_) ?_ 5000 (by decide)
    · show f_L_areCellsRight_L269 u1 q sv x1 x2 x3 x4 x6 (nI c) x9 x10 (nI n) (nI (sumN (lw w L c n) k)) (nI k) = some (Sum.inl (nI (sumN (lw w L c n) (k + 1)), nI (k + 1)))
      have h9 := hh_9 hi k hk
      have hf := far_le c k hc hk
      have hm := mul36 hL4 hf
      unfold f_L_areCellsRight_L269
      rw [if_neg (show ¬ (30 : Int32) ≤ nI k from nI_ge (a := k) (b := 30) hk (by decide)), tq_height _ hr (AtC.k hk), ob_s, jm_r, tq_limit _ hr, ob_s, L_farN c k hc hk, ob_s, jb_u, hL, nImul, hN hi k hk, need_1 ⟨vN (w (19 + 7 * k)), by omega⟩ ⟨n, by omega⟩ ⟨L * far c k, by omega⟩, nI_add, nI_1, sumN_s]
      rfl
    · show f_L_areCellsRight_L269 u1 q sv x1 x2 x3 x4 x6 (nI c) x9 x10 (nI n) _ (nI 30) = _
      unfold f_L_areCellsRight_L269
      rw [if_pos (show (30 : Int32) ≤ nI 30 from Int32.le_refl _)]
  exact hl
/-! one cell -/
theorem cl_441 (hr : RelQ q w) (hi : InvW t w) (u1 : Nat → Int32) (sv : SV) (x1 x2 x3 x4 : Int32) (k : Nat) (hk : k < 30) :
    (if w (22 + 7 * k) = 0 then f_L_areCellsRight_J441 u1 q sv x1 x2 x3 x4 (nI k) 1 else f_L_areCellsRight_J441 u1 q sv x1 x2 x3 x4 (nI k) 0) = some (.inl (x2, x3, x4, 1, nI (k + 1), u1, sv)) := by
  obtain ⟨t0, t1⟩ := tq_top (none, -1, -1) hr hi (AtC.k hk)
  by_cases h0 : w (22 + 7 * k) = 0
  · rw [if_pos h0]
    unfold f_L_areCellsRight_J441
    rw [ask_x1_2 (t0 h0), ob_s, if_pos rfl]
    unfold f_L_areCellsRight_J469
    rw [if_pos rfl]
    unfold f_L_areCellsRight_J477
    rw [nI_1]
  · rw [if_neg h0]
    obtain ⟨n, hn, en⟩ := hi.n k hk
    have hn0 : n ≠ 0 := fun e => h0 (by rw [en, e]; rfl)
    obtain ⟨j, rfl⟩ := Nat.exists_eq_succ_of_ne_zero hn0
    obtain ⟨s, hs, es⟩ := hi.b k j hk (by omega)
    unfold f_L_areCellsRight_J441
    rw [ask_r1 (t1 j en (by omega)), ob_s, es, if_neg ((by decide +kernel : ∀ s : Fin 4, ¬ nI s.val = (-2004 : Int32)) ⟨s, by omega⟩)]
    unfold f_L_areCellsRight_J469
    rw [if_pos rfl]
    unfold f_L_areCellsRight_J477
    rw [nI_1]
theorem cl_245 (hr : RelQ q w) (hi : InvW t w) (u1 : Nat → Int32) (sv : SV) (to : Nat) (hto : to < 10) (x2 x3 x4 : Int32) (k : Nat) (hk : k < 30) (b : Int32) (hb : (canC w k ∧ b = 1) ∨ (¬ canC w k ∧ b = 0)) :
    ∃ sv', f_L_areCellsRight_J245 u1 q sv (nI to) x2 x3 x4 1 (nI k) (w (19 + 7 * k)) (stp w k (w (19 + 7 * k))) b = some (.inl (x2, x3 + b, x4, 1, nI (k + 1), u1, sv')) := by
  obtain ⟨L, hL1, hL4, hL⟩ := hi.lim
  have h9 := hh_9 hi k hk
  have hgoal : jMin (nI to) (w (19 + 7 * k)) = nI (min to (vN (w (19 + 7 * k)))) := by
    rw [hN hi k hk, jMin_nI (by omega) (by omega), ← hN hi k hk]
  have hg : min to (vN (w (19 + 7 * k))) ≤ vN (w (19 + 7 * k)) := Nat.min_le_right _ _
  obtain ⟨c1, c2⟩ := tq_canCut (none, -1, -1) hr (AtC.k hk)
  have hcan : f_X10_canCut (none, -1, -1) q (nI k / 6) (nI k - nI k / 6 * 6) = some (.inr b) := by
    rcases hb with ⟨h1, rfl⟩ | ⟨h1, rfl⟩
    · exact c1 h1
    · exact c2 h1
  have htold : f_L_told b = some b := by rcases hb with ⟨-, rfl⟩ | ⟨-, rfl⟩ <;> rfl
  obtain ⟨sv', hsp⟩ := tq_spread (none, -1, -1) hr hi sv (AtC.k hk) _ L hg hL hL4
  refine ⟨sv', ?_⟩
  unfold f_L_areCellsRight_J245
  rw [htold, ob_s, jb_u, hgoal, jb_u, L_needed hr hi u1 sv _ _ _ _ _ _ _ k _ L hk (by omega) hL hL4, ob_s, if_neg (show ¬ (1 : Int32) = 0 from by decide), tq_steep _ hr (AtC.k hk), ob_s, jm_r, if_pos rfl, tq_limit _ hr, ob_s, if_neg (Int32.not_lt.mpr (stp_in hi hk)), hcan, ob_s, jm_r, if_pos rfl]
  rw [ask_r3 (tq_lower _ hr hi (AtC.k hk) _ L hg hL hL4), ob_s, if_pos rfl, ask_r4 hsp, ob_s, if_pos rfl, tq_loose _ hr (AtC.k hk), ob_s, jm_r]
  exact cl_441 hr hi u1 sv' _ x2 _ x4 k hk
theorem cl_117 (hr : RelQ q w) (hi : InvW t w) (u1 : Nat → Int32) (sv : SV) (to : Nat) (hto : to < 10) (x2 x3 x4 : Int32) (k : Nat) (hk : k < 30) :
    ∃ b sv', ((canC w k ∧ b = 1) ∨ (¬ canC w k ∧ b = 0)) ∧ f_L_areCellsRight_L117 q (nI to) x2 x3 x4 1 (nI k) u1 sv = some (.inl (x2 + w (19 + 7 * k), x3 + b, x4 + w (22 + 7 * k), 1, nI (k + 1), upd u1 (vN (w (19 + 7 * k))) (u1 (vN (w (19 + 7 * k))) + 1), sv')) := by
  have h9 := hh_9 hi k hk
  have eh := hN hi k hk
  have hin : jIn (w (19 + 7 * k)) 10 := by rw [eh]; exact nIin (by omega) (by decide)
  have ecl : (w (19 + 7 * k)).toNatClampNeg = vN (w (19 + 7 * k)) := rfl
  have hcase : ∃ b, ((canC w k ∧ b = 1) ∨ (¬ canC w k ∧ b = 0)) ∧ ∀ sv1, f_L_areCellsRight_L117 q (nI to) x2 x3 x4 1 (nI k) u1 sv1 = f_L_areCellsRight_J245 (upd u1 (vN (w (19 + 7 * k))) (u1 (vN (w (19 + 7 * k))) + 1)) q sv1 (nI to) (x2 + w (19 + 7 * k)) x3 (x4 + w (22 + 7 * k)) 1 (nI k) (w (19 + 7 * k)) (stp w k (w (19 + 7 * k))) b := by
    have hpre : ∀ sv1, f_L_areCellsRight_L117 q (nI to) x2 x3 x4 1 (nI k) u1 sv1 =
        if w (21 + 7 * k) = 0 then (if w (19 + 7 * k) ≤ 0 then f_L_areCellsRight_J244 (upd u1 (vN (w (19 + 7 * k))) (u1 (vN (w (19 + 7 * k))) + 1)) q sv1 (nI to) (x2 + w (19 + 7 * k)) x3 (x4 + w (22 + 7 * k)) 1 (nI k) (w (19 + 7 * k)) (stp w k (w (19 + 7 * k))) else
          if 3 ≤ w (22 + 7 * k) then f_L_areCellsRight_J244 (upd u1 (vN (w (19 + 7 * k))) (u1 (vN (w (19 + 7 * k))) + 1)) q sv1 (nI to) (x2 + w (19 + 7 * k)) x3 (x4 + w (22 + 7 * k)) 1 (nI k) (w (19 + 7 * k)) (stp w k (w (19 + 7 * k))) else
          if w 0 < stp w k (w (19 + 7 * k) - 1) then f_L_areCellsRight_J244 (upd u1 (vN (w (19 + 7 * k))) (u1 (vN (w (19 + 7 * k))) + 1)) q sv1 (nI to) (x2 + w (19 + 7 * k)) x3 (x4 + w (22 + 7 * k)) 1 (nI k) (w (19 + 7 * k)) (stp w k (w (19 + 7 * k))) else
          f_L_areCellsRight_J245 (upd u1 (vN (w (19 + 7 * k))) (u1 (vN (w (19 + 7 * k))) + 1)) q sv1 (nI to) (x2 + w (19 + 7 * k)) x3 (x4 + w (22 + 7 * k)) 1 (nI k) (w (19 + 7 * k)) (stp w k (w (19 + 7 * k))) 1)
        else f_L_areCellsRight_J244 (upd u1 (vN (w (19 + 7 * k))) (u1 (vN (w (19 + 7 * k))) + 1)) q sv1 (nI to) (x2 + w (19 + 7 * k)) x3 (x4 + w (22 + 7 * k)) 1 (nI k) (w (19 + 7 * k)) (stp w k (w (19 + 7 * k))) := by
      intro sv1
      unfold f_L_areCellsRight_L117
      rw [if_neg (show ¬ (30 : Int32) ≤ nI k from nI_ge (a := k) (b := 30) hk (by decide)), tq_height _ hr (AtC.k hk), ob_s, jm_r, L_steepest hr k hk, ob_s, jb_u, if_pos hin, if_pos hin, jb_u, tq_loose _ hr (AtC.k hk), ob_s, jm_r, jb_u, tq_ledge _ hr hi (AtC.k hk), ob_s, jm_r, ob_s, jm_r, L_steepest hr k hk, ob_s, tq_limit _ hr, ob_s, ecl]
    by_cases hl : w (21 + 7 * k) = 0
    · by_cases hh : w (19 + 7 * k) ≤ 0
      · exact ⟨0, Or.inr ⟨fun hc => hc.1.2.1 hh, rfl⟩, fun sv1 => by rw [hpre, if_pos hl, if_pos hh]; rfl⟩
      · by_cases hn : (3 : Int32) ≤ w (22 + 7 * k)
        · exact ⟨0, Or.inr ⟨fun hc => (nlt3.mp hn) hc.1.2.2, rfl⟩, fun sv1 => by rw [hpre, if_pos hl, if_neg hh, if_pos hn]; rfl⟩
        · by_cases hs : w 0 < stp w k (w (19 + 7 * k) - 1)
          · exact ⟨0, Or.inr ⟨fun hc => hc.2 hs, rfl⟩, fun sv1 => by rw [hpre, if_pos hl, if_neg hh, if_neg hn, if_pos hs]; rfl⟩
          · exact ⟨1, Or.inl ⟨⟨⟨hl, hh, Classical.byContradiction fun q => hn (nlt3.mpr q)⟩, hs⟩, rfl⟩, fun sv1 => by rw [hpre, if_pos hl, if_neg hh, if_neg hn, if_neg hs]⟩
    · exact ⟨0, Or.inr ⟨fun hc => hl hc.1.1, rfl⟩, fun sv1 => by rw [hpre, if_neg hl]; rfl⟩
  obtain ⟨b, hb, he⟩ := hcase
  obtain ⟨sv', h⟩ := cl_245 hr hi (upd u1 (vN (w (19 + 7 * k))) (u1 (vN (w (19 + 7 * k))) + 1)) sv to hto (x2 + w (19 + 7 * k)) x3 (x4 + w (22 + 7 * k)) k hk b hb
  exact ⟨b, sv', hb, by rw [he, h]⟩
/-- the main loop -/
theorem cl_main (hr : RelQ q w) (hi : InvW t w) (u1 : Nat → Int32) (hu : ∀ h, h < 10 → u1 h = 0) (sv : SV) (to : Nat) (hto : to < 10) :
    ∃ u2 sv', (∀ h, h < 10 → u2 h = cAt w (nI h) 30) ∧ jbL (fun s : Int32 × Int32 × Int32 × Int32 × Int32 × (Nat → Int32) × SV => f_L_areCellsRight_L117 q (nI to) s.1 s.2.1 s.2.2.1 s.2.2.2.1 s.2.2.2.2.1 s.2.2.2.2.2.1 s.2.2.2.2.2.2) 31 (0, 0, 0, 1, 0, u1, sv) =
      some (nI (sumN (hS w) 30), nI (cnt (canC w) 30), itr (fun c x => x + w (22 + 7 * c)) 0 30, 1, nI 30, u2, sv') := by
  obtain ⟨r, h1, u2, sv', h2, rfl⟩ := lpL (body := fun s : Int32 × Int32 × Int32 × Int32 × Int32 × (Nat → Int32) × SV => f_L_areCellsRight_L117 q (nI to) s.1 s.2.1 s.2.2.1 s.2.2.2.1 s.2.2.2.2.1 s.2.2.2.2.2.1 s.2.2.2.2.2.2)
    (fun k s => ∃ u2 sv', (∀ h, h < 10 → u2 h = cAt w (nI h) k) ∧ s = (nI (sumN (hS w) k), nI (cnt (canC w) k), itr (fun c x => x + w (22 + 7 * c)) 0 k, 1, nI k, u2, sv'))
    (fun r => ∃ u2 sv', (∀ h, h < 10 → u2 h = cAt w (nI h) 30) ∧ r = (nI (sumN (hS w) 30), nI (cnt (canC w) 30), itr (fun c x => x + w (22 + 7 * c)) 0 30, 1, nI 30, u2, sv')) 30
    (fun k s hk ⟨u2, sv1, hu2, e⟩ => by
      subst e
      left
      obtain ⟨b, sv', hb, hstep⟩ := cl_117 hr hi u2 sv1 to hto (nI (sumN (hS w) k)) (nI (cnt (canC w) k)) (itr (fun c x => x + w (22 + 7 * c)) 0 k) k hk
      refine ⟨_, hstep, upd u2 (vN (w (19 + 7 * k))) (u2 (vN (w (19 + 7 * k))) + 1), sv', fun h hh => ?_, ?_⟩
      · have h9 := hh_9 hi k hk
        have eh := hN hi k hk
        show _ = (if w (19 + 7 * k) = nI h then cAt w (nI h) k + 1 else cAt w (nI h) k)
        by_cases e : h = vN (w (19 + 7 * k))
        · subst e
          rw [upd_at, if_pos eh, hu2 _ hh]
        · rw [upd_ne _ _ e, if_neg (fun q => e (by rw [q, vN_nI (by omega)])), hu2 h hh]
      · have e1 : nI (sumN (hS w) k) + w (19 + 7 * k) = nI (sumN (hS w) (k + 1)) := by rw [sumN_s]; show _ = nI (_ + vN (w (19 + 7 * k))); rw [← nI_add, ← hN hi k hk]
        have e2 : nI (cnt (canC w) k) + b = nI (cnt (canC w) (k + 1)) := by
          rcases hb with ⟨hc, rfl⟩ | ⟨hc, rfl⟩
          · rw [cnt_yes hc, nI_1]
          · rw [cnt_no hc, Int32.add_zero]
        rw [e1, e2]
        rfl)
    (fun s ⟨u2, sv1, hu2, e⟩ => by
      subst e
      refine ⟨_, ?_, u2, sv1, hu2, rfl⟩
      show f_L_areCellsRight_L117 q (nI to) _ _ _ _ (nI 30) _ _ = _
      unfold f_L_areCellsRight_L117
      rw [if_pos (show (30 : Int32) ≤ nI 30 from Int32.le_refl _)]) 31 0 (0, 0, 0, 1, 0, u1, sv) (by omega) (by omega) ⟨u1, sv, fun h hh => hu h hh, rfl⟩
  exact ⟨u2, sv', h2, h1⟩
theorem cl_488 (hr : RelQ q w) (u1 : Nat → Int32) (hu : ∀ h, h < 10 → u1 h = cAt w (nI h) 30) (sv : SV) (x2 x3 x4 : Int32) :
    jbL (fun s => f_L_areCellsRight_L488 u1 q sv x2 x3 x4 s.1 s.2) 5000 ((1 : Int32), (0 : Int32)) = some (1, nI 10) := by
  have hl : jbL (fun s => f_L_areCellsRight_L488 u1 q sv x2 x3 x4 s.1 s.2) 5000 ((1 : Int32), nI 0) = some (1, nI 10) := by
    refine lpD (fun k => ((1 : Int32), nI k)) _ 10 (fun k hk => ?_) ?_ 5000 (by decide)
    · show f_L_areCellsRight_L488 u1 q sv x2 x3 x4 1 (nI k) = some (Sum.inl (1, nI (k + 1)))
      unfold f_L_areCellsRight_L488
      rw [if_neg (show ¬ (10 : Int32) ≤ nI k from nI_ge (a := k) (b := 10) hk (by decide)), if_neg (show ¬ (1 : Int32) = 0 from by decide), tq_cellsAt _ hr k hk, ob_s, jm_r, if_pos (nIin hk (by decide)), nI_clamp (by omega), if_pos (hu k hk).symm]
      unfold f_L_areCellsRight_J519
      rw [nI_1]
    · show f_L_areCellsRight_L488 u1 q sv x2 x3 x4 1 (nI 10) = _
      unfold f_L_areCellsRight_L488
      rw [if_pos (show (10 : Int32) ≤ nI 10 from Int32.le_refl _)]
  exact hl
theorem cl_575 (hr : RelQ q w) (hi : InvW t w) (ht : t ≤ 10240) (u1 : Nat → Int32) (sv : SV) : f_L_areCellsRight_J575 u1 q sv (w 3) 1 = some (1, sv) := by
  unfold f_L_areCellsRight_J575
  rw [if_neg (show ¬ (1 : Int32) = 0 from by decide), tq_cuts _ hr, ob_s]
  by_cases hz : w 2 = 0
  · rw [if_pos hz]
    rfl
  · rw [if_neg hz, tq_share _ hr hi ht hz, ob_s, jm_r, ob_s, if_pos (fr_and32 _ (share_ok hi ht hz)), if_pos (cmp_f (share_ok hi ht hz))]
    rfl
theorem cl_112 (hr : RelQ q w) (hi : InvW t w) (ht : t ≤ 10240) (f : Nat → Nat) (hf : LOk w f) (hcf : ∀ c d, c < 30 → pos w c → Cn (SE w) c d → f c = f d) (u1 : Nat → Int32) (hu : ∀ h, h < 10 → u1 h = 0) (sv : SV) (to : Nat) (hto : to < 10) :
    ∃ sv', f_L_areCellsRight_J112 u1 q sv (nI to) 0 0 0 1 = some (1, sv') := by
  obtain ⟨u2, sv1, hu2, hm⟩ := cl_main hr hi u1 hu sv to hto
  obtain ⟨sv2, hc⟩ := tq_cons (none, -1, -1) hr hi sv1 f hf hcf
  have h3 : w 2 - itr (fun c x => x + w (22 + 7 * c)) 0 30 = w 3 := by
    have := hi.sum
    rw [this, Int32.add_sub_cancel]
  have hmn := fr_mean _ (hS_le hi)
  refine ⟨sv2, ?_⟩
  unfold f_L_areCellsRight_J112
  rw [hm, ob_s, cl_488 hr u2 hu2, ob_s, tq_cuts _ hr, ob_s, jb_u, if_neg (show ¬ (1 : Int32) = 0 from by decide), tq_cuttable _ hr, ob_s, if_pos rfl, tq_mean _ hr hi, ob_s, if_pos (fr_and64 _ hmn), if_pos (cmp_d hmn), hc, ob_s, if_neg (show ¬ (1 : Int32) = 0 from by decide), h3]
  exact cl_575 hr hi ht u2 sv2
/-- areCellsRight answers 1 -/
theorem L_cells (hr : RelQ q w) (hi : InvW t w) (ht : t ≤ 10240) (f : Nat → Nat) (hf : LOk w f) (hcf : ∀ c d, c < 30 → pos w c → Cn (SE w) c d → f c = f d) (sv : SV) (to : Nat) (hto : to < 10) : ∃ sv', f_L_areCellsRight q sv (nI to) = some (1, sv') := by
  obtain ⟨sv', h⟩ := cl_112 hr hi ht f hf hcf (fun _ => 0) (fun _ _ => rfl) sv to hto
  refine ⟨sv', ?_⟩
  unfold f_L_areCellsRight
  rw [jb_u, ask_x0_0 (tq_height5 _).1, ob_s, if_pos rfl, ask_x0_0 (tq_height5 _).2, ob_s, if_pos rfl, ask_x2_1 (tq_cellsAt10 _), ob_s, if_pos rfl, ask_x3_1 (tq_lower10 _ hr hi), ob_s, if_pos rfl, ask_x4_0 (tq_spread6 _ _), ob_s, if_pos rfl, ask_x8_1 (tq_inYard4 _), ob_s, if_pos rfl]
  exact h
end
