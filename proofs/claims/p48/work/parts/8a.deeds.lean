/-! ===== the calls that change: the law's deed ===== -/
theorem jbN_x {α β : Type} {e : α} {k : α → β} {o : β} (h : jbN e k = o) : ∃ x, x = e ∧ k x = o := ⟨e, rfl, h⟩
/-- the winches stand where they stood -/
def KW (q q' : QV) : Prop := qWinchCells q' = qWinchCells q ∧ qWinches q' = qWinches q
theorem KW.tr {a b c : QV} (h : KW a b) (k : KW b c) : KW a c := ⟨k.1.trans h.1, k.2.trans h.2⟩
theorem KW.rf (a : QV) : KW a a := ⟨rfl, rfl⟩
theorem kw_BlockCounts {q q1 : QV} {x : Nat → Int32} (e : q1 = qSBlockCounts x q) : KW q q1 := by subst e; exact ⟨Eq.trans rfl rfl, Eq.trans rfl rfl⟩
theorem kw_Blocks {q q1 : QV} {x : Nat → Int32} (e : q1 = qSBlocks x q) : KW q q1 := by subst e; exact ⟨Eq.trans rfl rfl, Eq.trans rfl rfl⟩
theorem kw_Cuts {q q1 : QV} {x : Int32} (e : q1 = qSCuts x q) : KW q q1 := by subst e; exact ⟨Eq.trans rfl rfl, Eq.trans rfl rfl⟩
theorem kw_Heights {q q1 : QV} {x : Nat → Int32} (e : q1 = qSHeights x q) : KW q q1 := by subst e; exact ⟨Eq.trans rfl rfl, Eq.trans rfl rfl⟩
theorem kw_Ledges {q q1 : QV} {x : Nat → Int32} (e : q1 = qSLedges x q) : KW q q1 := by subst e; exact ⟨Eq.trans rfl rfl, Eq.trans rfl rfl⟩
theorem kw_Lifts {q q1 : QV} {x : Int32} (e : q1 = qSLifts x q) : KW q q1 := by subst e; exact ⟨Eq.trans rfl rfl, Eq.trans rfl rfl⟩
theorem kw_Limit {q q1 : QV} {x : Int32} (e : q1 = qSLimit x q) : KW q q1 := by subst e; exact ⟨Eq.trans rfl rfl, Eq.trans rfl rfl⟩
theorem kw_Rubble {q q1 : QV} {x : Int32} (e : q1 = qSRubble x q) : KW q q1 := by subst e; exact ⟨Eq.trans rfl rfl, Eq.trans rfl rfl⟩
theorem kw_Stones {q q1 : QV} {x : Nat → Int32} (e : q1 = qSStones x q) : KW q q1 := by subst e; exact ⟨Eq.trans rfl rfl, Eq.trans rfl rfl⟩
theorem kw_Work {q q1 : QV} {x : Int64} (e : q1 = qSWork x q) : KW q q1 := by subst e; exact ⟨Eq.trans rfl rfl, Eq.trans rfl rfl⟩
theorem kw_Yard {q q1 : QV} {x : Nat → Int32} (e : q1 = qSYard x q) : KW q q1 := by subst e; exact ⟨Eq.trans rfl rfl, Eq.trans rfl rfl⟩
theorem kw_f_cutCell {q q1 : QV} {r : Int32} {a b : Int32} (h : f_X7_cutCell q a b = some (r, q1)) : KW q q1 := by
  unfold f_X7_cutCell at h
  obtain ⟨o1, -, h⟩ := jbB_e h
  obtain ⟨-, h⟩ := jbA_e h
  obtain ⟨-, h⟩ := jbA_e h
  obtain ⟨-, h⟩ := jbA_e h
  obtain ⟨w5, e5, h⟩ := jbN_x h
  obtain ⟨-, h⟩ := jbA_e h
  obtain ⟨-, h⟩ := jbA_e h
  obtain ⟨w8, e8, h⟩ := jbN_x h
  obtain ⟨w9, e9, h⟩ := jbN_x h
  obtain ⟨-, h⟩ := jbA_e h
  obtain ⟨-, h⟩ := jbA_e h
  obtain ⟨w12, e12, h⟩ := jbN_x h
  obtain ⟨-, h⟩ := jbA_e h
  cases h
  exact ((((kw_Blocks e5).tr (kw_BlockCounts e8)).tr (kw_Cuts e9)).tr (kw_Heights e12))
theorem kw_f_fillCell {q q1 : QV} {r : Int32} {a b : Int32} (h : f_X7_fillCell q a b = some (r, q1)) : KW q q1 := by
  unfold f_X7_fillCell at h
  obtain ⟨o1, -, h⟩ := jbB_e h
  obtain ⟨w2, e2, h⟩ := jbN_x h
  obtain ⟨-, h⟩ := jbA_e h
  obtain ⟨-, h⟩ := jbA_e h
  obtain ⟨w5, e5, h⟩ := jbN_x h
  obtain ⟨-, h⟩ := jbA_e h
  cases h
  exact ((kw_Rubble e2).tr (kw_Heights e5))
theorem kw_f_changeLimit {q q1 : QV} {r : Int32} {a : Int32} (h : f_X7_changeLimit q a = some (r, q1)) : KW q q1 := by
  unfold f_X7_changeLimit at h
  obtain ⟨z1, -, h⟩ := jbN_x h
  obtain ⟨w2, e2, h⟩ := jbN_x h
  cases h
  exact (kw_Limit e2)
theorem kw_f_changeStone {q q1 : QV} {r : Int32} {a b s : Int32} (h : f_X7_changeStone q a b s = some (r, q1)) : KW q q1 := by
  unfold f_X7_changeStone at h
  obtain ⟨o1, -, h⟩ := jbB_e h
  obtain ⟨-, h⟩ := jbA_e h
  obtain ⟨z3, -, h⟩ := jbN_x h
  obtain ⟨-, h⟩ := jbA_e h
  obtain ⟨w5, e5, h⟩ := jbN_x h
  cases h
  exact (kw_Stones e5)
theorem kw_f_liftBlock {q q1 : QV} {r : Int32} {a b : Int32} (h : f_X7_liftBlock q a b = some (r, q1)) : KW q q1 := by
  unfold f_X7_liftBlock at h
  obtain ⟨o1, -, h⟩ := jbB_e h
  obtain ⟨o2, -, h⟩ := jbB_e h
  obtain ⟨o3, -, h⟩ := jbB_e h
  obtain ⟨-, h⟩ := jbA_e h
  obtain ⟨z5, -, h⟩ := jbN_x h
  obtain ⟨-, h⟩ := jbA_e h
  obtain ⟨-, h⟩ := jbA_e h
  obtain ⟨w8, e8, h⟩ := jbN_x h
  obtain ⟨-, h⟩ := jbA_e h
  obtain ⟨-, h⟩ := jbA_e h
  obtain ⟨w11, e11, h⟩ := jbN_x h
  obtain ⟨w12, e12, h⟩ := jbN_x h
  obtain ⟨w13, e13, h⟩ := jbN_x h
  cases h
  exact ((((kw_BlockCounts e8).tr (kw_Yard e11)).tr (kw_Lifts e12)).tr (kw_Work e13))
theorem kw_f_crushBlocks {q q1 : QV} {r : Int32} {a b : Int32} (h : f_X7_crushBlocks q a b = some (r, q1)) : KW q q1 := by
  unfold f_X7_crushBlocks at h
  obtain ⟨-, h⟩ := jbA_e h
  obtain ⟨-, h⟩ := jbA_e h
  obtain ⟨w3, e3, h⟩ := jbN_x h
  obtain ⟨w4, e4, h⟩ := jbN_x h
  cases h
  exact ((kw_Yard e3).tr (kw_Rubble e4))
theorem kw_f_switchLedge {q q1 : QV} {r : Int32} {a b : Int32} (h : f_X7_switchLedge q a b = some (r, q1)) : KW q q1 := by
  have hJ : ∀ x y z : Int32, f_X7_switchLedge_J25 q x y z = some (r, q1) → KW q q1 := by
    intro x y z h
    unfold f_X7_switchLedge_J25 at h
    obtain ⟨-, h⟩ := jbA_e h
    obtain ⟨w1, e1, h⟩ := jbN_x h
    obtain ⟨-, h⟩ := jbA_e h
    obtain ⟨-, h⟩ := jbA_e h
    cases h
    exact kw_Ledges e1
  unfold f_X7_switchLedge at h
  obtain ⟨o1, -, h⟩ := jbB_e h
  obtain ⟨-, h⟩ := jbA_e h
  by_cases hc : (qLedges q) o1.toNatClampNeg = 0
  · exact hJ _ _ _ (jbT h hc)
  · exact hJ _ _ _ (jbF h hc)
/-! what can be undone -/
def HI (hv : HV) : Prop := ∃ n c : Nat, hv.2.1 = nI n ∧ n < 8 ∧ hv.2.2 = nI c ∧ c ≤ 8 ∧ hv.1.length ≤ 8 ∧ (hv.1.length = 8 ∨ n ≤ hv.1.length)
theorem HI.forget {hv : HV} (h : HI hv) : HI (hv.1, hv.2.1, 0) := by
  obtain ⟨n, c, e1, hn, e2, hc, hl, hf⟩ := h
  exact ⟨n, 0, e1, hn, rfl, by omega, hl, hf⟩
theorem record_ok {hv : HV} {q : QV} {w : Nat → Int32} {t : Nat} (hh : HI hv) (hr : RelQ q w) (hi : InvW t w) : ∃ hv', f_X4_record hv q = some hv' ∧ HI hv' := by
  obtain ⟨n, c, e1, hn, e2, hc, hlen, hfree⟩ := hh
  obtain ⟨L, nx, ct⟩ := hv
  have e1 : nx = nI n := e1
  have e2 : ct = nI c := e2
  have hlen : L.length ≤ 8 := hlen
  have hfree : L.length = 8 ∨ n ≤ L.length := hfree
  subst e1; subst e2
  obtain ⟨L', hrec, hL'⟩ : ∃ L' : List QV, f_X4_record (L, nI n, nI c) q = some (L', nI ((n + 1) % 8), nI (min (c + 1) 8)) ∧ ((L'.length = L.length ∧ n < L.length) ∨ (L'.length = L.length + 1 ∧ n = L.length)) := by
    unfold f_X4_record
    simp only []
    rw [if_pos (nIin hn (by decide)), nI_clamp (by omega), h_next n hn, h_min c hc]
    cases hL : L[n]? with
    | some q0 =>
      obtain ⟨o, ho, hro⟩ := q_copy q0 q _ t hr hi
      have hlt : n < L.length := (List.getElem?_eq_some_iff.mp hL).1
      refine ⟨L.set n o, ?_, Or.inl ⟨List.length_set .., hlt⟩⟩
      show (f_X7_copyFrom q0 q).bind _ = _
      rw [ho]
      rfl
    | none =>
      have hge : L.length ≤ n := List.getElem?_eq_none_iff.mp hL
      have hnl : n = L.length := by omega
      obtain ⟨qi, hqi⟩ := q_init
      obtain ⟨o, ho, hro⟩ := q_copy qi q _ t hr hi
      refine ⟨L ++ [o], ?_, Or.inr ⟨by simp, hnl⟩⟩
      show (if n = L.length then _ else _) = _
      rw [if_pos hnl, hqi, Option.bind_some, ho]
      rfl
  refine ⟨_, hrec, (n + 1) % 8, min (c + 1) 8, rfl, by omega, rfl, by omega, ?_, ?_⟩
  · show L'.length ≤ 8
    omega
  · show L'.length = 8 ∨ (n + 1) % 8 ≤ L'.length
    omega
/-! one call: it throws and leaves all, or it changes -/
def Dd (t : Nat) (q : QV) (hv : HV) (D : Option (Sum (Nat × QV × HV) (Int32 × QV × HV))) : Prop :=
  (∃ k, k < 5 ∧ D = some (.inl (k, q, hv))) ∨ (∃ r q' hv' w', D = some (.inr (r, q', hv')) ∧ RelQ q' w' ∧ InvW (t + 1) w' ∧ WD w' ∧ HI hv')
theorem mkM (w : Nat → Int32) : mNow (mSNow w mZero) = w := mN1 _ _
theorem wd_kw {q q' : QV} {w w' : Nat → Int32} (hr : RelQ q w) (hr' : RelQ q' w') (hk : KW q q') (hd : WD w) : WD w' := by
  have e : ∀ i, i < 3 → w' (10 + 3 * i) = w (10 + 3 * i) := fun i h => by rw [← hr'.wc i h, hk.1, hr.wc i h]
  have e5 : w' 5 = w 5 := by rw [← hr'.nw, hk.2, hr.nw]
  intro n i j hn en hi hj h
  exact hd n i j hn (e5 ▸ en) hi hj (by rw [← e i (by omega), ← e j (by omega)]; exact h)
theorem dd_gen {t : Nat} {q : QV} {hv : HV} {w : Nat → Int32} {ex : List Nat} {F : Option Nat} {Ch : Option (Int32 × QV)} {B : Option (Int32 × MV)} (hr : RelQ q w) (hi : InvW t w) (hh : HI hv) (hc : Cmd t ex F Ch B (mSNow w mZero)) (hwd : ∀ r q' w', F = some 0 → Ch = some (r, q') → RelQ q' w' → InvW (t + 1) w' → WD w') :
    Dd t q hv (F.bind fun o1 => (f_X10_refuse o1).bind fun o3 => jbM o3 (fun x => some (.inl (x, q, hv))) (fun _ => (f_X4_record hv q).bind fun o5 => Ch.bind fun o8 => some (.inr (o8.1, o8.2, o5)))) := by
  rcases hc with ⟨hF, r, q', w', hCh, -, hq', hw'⟩ | ⟨k, r, c, hF, hk, -, -, -⟩
  · obtain ⟨hv', h1, h2⟩ := record_ok hh hr hi
    right
    refine ⟨r, q', hv', w', ?_, hq', hw', hwd r q' w' hF hCh hq' hw', h2⟩
    rw [hF, ob_s, rf_0, ob_s, jm_r, h1, ob_s, hCh, ob_s]
  · left
    refine ⟨k, hk, ?_⟩
    rw [hF, ob_s, rf_s k hk, ob_s, jm_l]
section
variable {t : Nat} {q : QV} {hv : HV} {w : Nat → Int32}
theorem dd_setStone (tv : TV) (hr : RelQ q w) (hi : InvW t w) (hd : WD w) (hh : HI hv) (a b s : Int32) : Dd t q hv (f_X10_setStone tv q hv a b s) := by
  have hc := cmd_stone (m := mSNow w mZero) (by rw [mkM]; exact hr) (by rw [mkM]; exact hi) a b s
  exact dd_gen hr hi hh hc (fun r q' w' _ e h1 _ => wd_kw hr h1 (kw_f_changeStone e) hd)
theorem dd_cut (tv : TV) (hr : RelQ q w) (hi : InvW t w) (hd : WD w) (hh : HI hv) (ht : t < 2 ^ 20) (a b : Int32) : Dd t q hv (f_X10_cut tv q hv a b) := by
  have hc := cmd_cut (m := mSNow w mZero) (by rw [mkM]; exact hr) (by rw [mkM]; exact hi) ht a b
  exact dd_gen hr hi hh hc (fun r q' w' _ e h1 _ => wd_kw hr h1 (kw_f_cutCell e) hd)
theorem dd_fill (tv : TV) (hr : RelQ q w) (hi : InvW t w) (hd : WD w) (hh : HI hv) (a b : Int32) : Dd t q hv (f_X10_fill tv q hv a b) := by
  have hc := cmd_fill (m := mSNow w mZero) (by rw [mkM]; exact hr) (by rw [mkM]; exact hi) a b
  exact dd_gen hr hi hh hc (fun r q' w' _ e h1 _ => wd_kw hr h1 (kw_f_fillCell e) hd)
theorem dd_setStepLimit (tv : TV) (hr : RelQ q w) (hi : InvW t w) (hd : WD w) (hh : HI hv) (a : Int32) : Dd t q hv (f_X10_setStepLimit tv q hv a) := by
  have hc := cmd_limit (m := mSNow w mZero) (by rw [mkM]; exact hr) (by rw [mkM]; exact hi) a
  exact dd_gen hr hi hh hc (fun r q' w' _ e h1 _ => wd_kw hr h1 (kw_f_changeLimit e) hd)
theorem dd_lift (tv : TV) (hr : RelQ q w) (hi : InvW t w) (hd : WD w) (hh : HI hv) (ht : t < 2 ^ 20) (x a b : Int32) : Dd t q hv (f_X10_lift tv q hv x a b) := by
  have hc := cmd_lift (m := mSNow w mZero) (by rw [mkM]; exact hr) (by rw [mkM]; exact hi) ht x a b
  exact dd_gen hr hi hh hc (fun r q' w' _ e h1 _ => wd_kw hr h1 (kw_f_liftBlock e) hd)
theorem dd_crush (tv : TV) (hr : RelQ q w) (hi : InvW t w) (hd : WD w) (hh : HI hv) (a b : Int32) : Dd t q hv (f_X10_crush tv q hv a b) := by
  have hc := cmd_crush (m := mSNow w mZero) (by rw [mkM]; exact hr) (by rw [mkM]; exact hi) a b
  exact dd_gen hr hi hh hc (fun r q' w' _ e h1 _ => wd_kw hr h1 (kw_f_crushBlocks e) hd)
theorem dd_toggleLedge (tv : TV) (hr : RelQ q w) (hi : InvW t w) (hd : WD w) (hh : HI hv) (a b : Int32) : Dd t q hv (f_X10_toggleLedge tv q hv a b) := by
  have hc := cmd_ledge (m := mSNow w mZero) (by rw [mkM]; exact hr) (by rw [mkM]; exact hi) a b
  rcases hc with ⟨hF, r, q', w', hCh, -, hq', hw'⟩ | ⟨k, r, c, hF, hk, -, -, -⟩
  · obtain ⟨hv', h1, h2⟩ := record_ok hh hr hi
    obtain ⟨n, q2, hn1, h3⟩ := q_switch hr hi a b hF
    have e : (nI n, q2) = (r, q') := Option.some.inj (h3.symm.trans hCh)
    have er : nI n = r := congrArg Prod.fst e
    right
    refine ⟨r, q', hv', w', ?_, hq', hw', wd_kw hr hq' (kw_f_switchLedge hCh) hd, h2⟩
    unfold f_X10_toggleLedge
    rw [hF, ob_s, rf_0, ob_s, jm_r, h1, ob_s, hCh, ob_s, if_pos (show vp_nar .boolean (r, q').1 = (r, q').1 from er ▸ nar_le1 hn1)]
  · left
    refine ⟨k, hk, ?_⟩
    unfold f_X10_toggleLedge
    rw [hF, ob_s, rf_s k hk, ob_s, jm_l]
theorem winch_new (hr : RelQ q w) (hi : InvW t w) {a b x y : Int32} (hF : f_X7_winchFault q a b x y = some 0) : ∃ n c, n < 3 ∧ c < 30 ∧ w 5 = nI n ∧ ¬ hasW w n c ∧ f_X3_cellAt a b = some (nI c) := by
  obtain ⟨n, hn, en⟩ := hi.nw
  rcases cell_or a b with ⟨r, k, hrr, hk, rfl, rfl⟩ | ⟨h1, h2, h3⟩
  · obtain ⟨g1, g2, g3, g4⟩ := g_cell r k hrr hk
    have hc : 6 * r + k < 30 := by omega
    generalize 6 * r + k = c at *
    have hfl : f_X7_winchFault q (nI r) (nI k) x y = if x < 2 then some 2 else if 9 < x then some 2 else if y < 1 then some 2 else if y ≤ 6 then (if 3 ≤ nI n then some 4 else (f_X7_hasWinchAt q (nI c)).bind fun o6 => if o6 = 0 then some 0 else some 4) else some 2 := by
      unfold f_X7_winchFault
      simp only [g1, g2, ob_s, n06, ↓reduceIte, hr.nw, en]
      try rfl
    rw [hfl] at hF
    by_cases x1 : x < 2
    · rw [if_pos x1] at hF; cases hF
    rw [if_neg x1] at hF
    by_cases x2 : 9 < x
    · rw [if_pos x2] at hF; cases hF
    rw [if_neg x2] at hF
    by_cases y1 : y < 1
    · rw [if_pos y1] at hF; cases hF
    rw [if_neg y1] at hF
    by_cases y2 : y ≤ 6
    · rw [if_pos y2] at hF
      by_cases h3 : (3 : Int32) ≤ nI n
      · rw [if_pos h3] at hF; cases hF
      rw [if_neg h3] at hF
      obtain ⟨w1, w2⟩ := q_hasW hr n c hn en
      by_cases hw : hasW w n c
      · rw [w1 hw, ob_s, if_neg (show ¬ (1 : Int32) = 0 from by decide)] at hF; cases hF
      · refine ⟨n, c, ?_, hc, en, hw, g2⟩
        by_cases h9 : n = 3
        · subst h9
          exact absurd (show (3 : Int32) ≤ nI 3 from Int32.le_refl _) h3
        · omega
    · rw [if_neg y2] at hF; cases hF
  · exfalso
    have : f_X7_winchFault q a b x y = some 1 := by unfold f_X7_winchFault; rw [h1]; rfl
    rw [this] at hF
    cases hF
theorem winch_put {q1 : QV} {r a b x y : Int32} (h : f_X7_placeWinch q a b x y = some (r, q1)) : ∃ o, f_X3_cellAt a b = some o ∧ qWinchCells q1 = upd (qWinchCells q) (qWinches q).toNatClampNeg o ∧ qWinches q1 = qWinches q + 1 := by
  unfold f_X7_placeWinch at h
  obtain ⟨z1, e1, h⟩ := jbN_x h
  subst e1
  obtain ⟨o, eo, h⟩ := jbB_e h
  obtain ⟨-, h⟩ := jbA_e h
  obtain ⟨w5, e5, h⟩ := jbN_x h
  obtain ⟨-, h⟩ := jbA_e h
  obtain ⟨w7, e7, h⟩ := jbN_x h
  obtain ⟨-, h⟩ := jbA_e h
  obtain ⟨w9, e9, h⟩ := jbN_x h
  obtain ⟨w10, e10, h⟩ := jbN_x h
  cases h
  have a5 : qWinchCells w5 = upd (qWinchCells q) (qWinches q).toNatClampNeg o := by rw [e5]; exact Eq.trans rfl rfl
  have b5 : qWinches w5 = qWinches q := by rw [e5]; exact Eq.trans rfl rfl
  have a7 : qWinchCells w7 = qWinchCells w5 := by rw [e7]; exact Eq.trans rfl rfl
  have b7 : qWinches w7 = qWinches w5 := by rw [e7]; exact Eq.trans rfl rfl
  have a9 : qWinchCells w9 = qWinchCells w7 := by rw [e9]; exact Eq.trans rfl rfl
  have b9 : qWinches w9 = qWinches w7 := by rw [e9]; exact Eq.trans rfl rfl
  have a10 : qWinchCells q1 = qWinchCells w9 := by rw [e10]; exact Eq.trans rfl rfl
  have b10 : qWinches q1 = qWinches w9 + 1 := by rw [e10]; exact Eq.trans rfl rfl
  refine ⟨o, eo, ?_, ?_⟩
  · rw [a10, a9, a7, a5]
  · rw [b10, b9, b7, b5]
theorem wd_winch {q' : QV} {w' : Nat → Int32} {r a b x y : Int32} (hr : RelQ q w) (hi : InvW t w) (hd : WD w) (hF : f_X7_winchFault q a b x y = some 0) (hCh : f_X7_placeWinch q a b x y = some (r, q')) (hr' : RelQ q' w') (hi' : InvW (t + 1) w') : WD w' := by
  obtain ⟨n, c, hn3, hc, en, hno, ec⟩ := winch_new hr hi hF
  obtain ⟨o, eo, h1, h2⟩ := winch_put hCh
  have eoc : o = nI c := Option.some.inj (eo.symm.trans ec)
  have eq5 : qWinches q = nI n := hr.nw.trans en
  rw [eoc, eq5, nI_clamp (by omega)] at h1
  rw [eq5, nI_1] at h2
  have e5 : w' 5 = nI (n + 1) := hr'.nw.symm.trans h2
  have ew : ∀ i, i < 3 → w' (10 + 3 * i) = if i = n then nI c else w (10 + 3 * i) := fun i h => by
    rw [← hr'.wc i h, h1]
    by_cases e : i = n
    · rw [if_pos e, e, upd_at]
    · rw [if_neg e, upd_ne _ _ e, hr.wc i h]
  intro n' i j hn' en' hi9 hj9 h
  have e9 : n' = n + 1 := (nI_eq (by omega) (by omega)).mp (en'.symm.trans e5)
  subst e9
  rw [ew i (by omega), ew j (by omega)] at h
  by_cases ei : i = n
  · by_cases ej : j = n
    · omega
    · rw [if_pos ei, if_neg ej] at h
      exact absurd ⟨j, by omega, h.symm⟩ hno
  · by_cases ej : j = n
    · rw [if_neg ei, if_pos ej] at h
      exact absurd ⟨i, by omega, h⟩ hno
    · rw [if_neg ei, if_neg ej] at h
      exact hd n i j (by omega) en (by omega) (by omega) h
theorem dd_addWinch (tv : TV) (hr : RelQ q w) (hi : InvW t w) (hd : WD w) (hh : HI hv) (a b x y : Int32) : Dd t q hv (f_X10_addWinch tv q hv a b x y) := by
  have hc := cmd_winch (m := mSNow w mZero) (by rw [mkM]; exact hr) (by rw [mkM]; exact hi) a b x y
  exact dd_gen hr hi hh hc (fun r q' w' e0 e h1 h2 => wd_winch hr hi hd e0 e h1 h2)
/-! deed -/
def Sx (t : Nat) (q : QV) (hv : HV) : Prop := HI hv ∧ ∃ w, RelQ q w ∧ InvW t w ∧ WD w
theorem deed_of {t : Nat} {q : QV} {hv : HV} {w : Nat → Int32} (hr : RelQ q w) (hi : InvW t w) (hd : WD w) (hh : HI hv) {k a b c d : Int32} (h : Dd t q hv (f_L_plain q hv k a b c d)) : ∃ r q' hv', f_L_deed q hv k a b c d = some (r, q', hv') ∧ Sx (t + 1) q' hv' := by
  rcases h with ⟨j, hj, e⟩ | ⟨r, q', hv', w', e, h1, h2, h3, h4⟩
  · have hs : Sx (t + 1) q hv := ⟨hh, w, hr, hi.up (Nat.le_succ t), hd⟩
    unfold f_L_deed
    rw [e, ob_s, jm_l]
    rcases (show j = 0 ∨ j = 1 ∨ j = 2 ∨ j = 3 ∨ j = 4 by omega) with rfl | rfl | rfl | rfl | rfl
    · exact ⟨_, _, _, rfl, hs⟩
    · exact ⟨_, _, _, rfl, hs⟩
    · exact ⟨_, _, _, rfl, hs⟩
    · exact ⟨_, _, _, rfl, hs⟩
    · exact ⟨_, _, _, rfl, hs⟩
  · refine ⟨r, q', hv', ?_, h4, w', h1, h2, h3⟩
    unfold f_L_deed
    rw [e, ob_s, jm_r]
theorem dd_id {t : Nat} {q : QV} {hv : HV} {D : Option (Sum (Nat × QV × HV) (Int32 × QV × HV))} (h : Dd t q hv D) : Dd t q hv (D.bind fun o => jbM o (fun x => some (.inl x)) (fun y => some (.inr y))) := by
  rcases h with ⟨j, hj, e⟩ | ⟨r, q', hv', w', e, h1, h2, h3, h4⟩
  · exact Or.inl ⟨j, hj, by rw [e, ob_s, jm_l]⟩
  · exact Or.inr ⟨r, q', hv', w', by rw [e, ob_s, jm_r], h1, h2, h3, h4⟩
theorem dd_told {t : Nat} {q : QV} {hv : HV} {D : Option (Sum (Nat × QV × HV) (Int32 × QV × HV))} (h : Dd t q hv D) : Dd t q hv (D.bind fun o => jbM o (fun x => some (.inl x)) (fun y => (f_L_told y.1).bind fun k9 => some (.inr (k9, y.2)))) := by
  rcases h with ⟨j, hj, e⟩ | ⟨r, q', hv', w', e, h1, h2, h3, h4⟩
  · exact Or.inl ⟨j, hj, by rw [e, ob_s, jm_l]⟩
  · exact Or.inr ⟨tlI r, q', hv', w', by rw [e, ob_s, jm_r, told_ok, ob_s], h1, h2, h3, h4⟩
/-- each deed goes, and keeps what is kept -/
theorem L_deed {t : Nat} {q : QV} {hv : HV} (hs : Sx t q hv) (ht : t < 2 ^ 20) (k : Nat) (hk : k < 8) (a b c d : Int32) : ∃ r q' hv', f_L_deed q hv (nI k) a b c d = some (r, q', hv') ∧ Sx (t + 1) q' hv' := by
  obtain ⟨hh, w, hr, hi, hd⟩ := hs
  refine deed_of hr hi hd hh ?_
  rcases (show k = 0 ∨ k = 1 ∨ k = 2 ∨ k = 3 ∨ k = 4 ∨ k = 5 ∨ k = 6 ∨ k = 7 by omega) with rfl | rfl | rfl | rfl | rfl | rfl | rfl | rfl
  · unfold f_L_plain
    rw [if_pos (show nI 0 = (0 : Int32) from rfl)]
    exact dd_id (dd_setStone _ hr hi hd hh a b c)
  · unfold f_L_plain
    rw [if_neg (show ¬ nI 1 = (0 : Int32) from by decide), if_pos (show nI 1 = (1 : Int32) from rfl)]
    exact dd_id (dd_cut _ hr hi hd hh ht a b)
  · unfold f_L_plain
    rw [if_neg (show ¬ nI 2 = (0 : Int32) from by decide), if_neg (show ¬ nI 2 = (1 : Int32) from by decide), if_pos (show nI 2 = (2 : Int32) from rfl)]
    exact dd_id (dd_fill _ hr hi hd hh a b)
  · unfold f_L_plain
    rw [if_neg (show ¬ nI 3 = (0 : Int32) from by decide), if_neg (show ¬ nI 3 = (1 : Int32) from by decide), if_neg (show ¬ nI 3 = (2 : Int32) from by decide), if_pos (show nI 3 = (3 : Int32) from rfl)]
    exact dd_told (dd_toggleLedge _ hr hi hd hh a b)
  · unfold f_L_plain
    rw [if_neg (show ¬ nI 4 = (0 : Int32) from by decide), if_neg (show ¬ nI 4 = (1 : Int32) from by decide), if_neg (show ¬ nI 4 = (2 : Int32) from by decide), if_neg (show ¬ nI 4 = (3 : Int32) from by decide), if_pos (show nI 4 = (4 : Int32) from rfl)]
    exact dd_id (dd_setStepLimit _ hr hi hd hh a)
  · unfold f_L_plain
    rw [if_neg (show ¬ nI 5 = (0 : Int32) from by decide), if_neg (show ¬ nI 5 = (1 : Int32) from by decide), if_neg (show ¬ nI 5 = (2 : Int32) from by decide), if_neg (show ¬ nI 5 = (3 : Int32) from by decide), if_neg (show ¬ nI 5 = (4 : Int32) from by decide), if_pos (show nI 5 = (5 : Int32) from rfl)]
    exact dd_id (dd_addWinch _ hr hi hd hh a b c d)
  · unfold f_L_plain
    rw [if_neg (show ¬ nI 6 = (0 : Int32) from by decide), if_neg (show ¬ nI 6 = (1 : Int32) from by decide), if_neg (show ¬ nI 6 = (2 : Int32) from by decide), if_neg (show ¬ nI 6 = (3 : Int32) from by decide), if_neg (show ¬ nI 6 = (4 : Int32) from by decide), if_neg (show ¬ nI 6 = (5 : Int32) from by decide), if_pos (show nI 6 = (6 : Int32) from rfl)]
    exact dd_id (dd_lift _ hr hi hd hh ht c a b)
  · unfold f_L_plain
    rw [if_neg (show ¬ nI 7 = (0 : Int32) from by decide), if_neg (show ¬ nI 7 = (1 : Int32) from by decide), if_neg (show ¬ nI 7 = (2 : Int32) from by decide), if_neg (show ¬ nI 7 = (3 : Int32) from by decide), if_neg (show ¬ nI 7 = (4 : Int32) from by decide), if_neg (show ¬ nI 7 = (5 : Int32) from by decide), if_neg (show ¬ nI 7 = (6 : Int32) from by decide), if_pos (show nI 7 = (7 : Int32) from rfl)]
    exact dd_id (dd_crush _ hr hi hd hh a b)
end
