/-! the ledge, in the law: its answer is a bit -/
theorem q_switch {q : QV} {w : Nat → Int32} {t : Nat} (hr : RelQ q w) (hi : InvW t w) (a b : Int32) (hF : f_X3_cellFault a b = some 0) : ∃ n q', n ≤ 1 ∧ f_X7_switchLedge q a b = some (nI n, q') := by
  rcases cell_or a b with ⟨r, k, hrr, hk, rfl, rfl⟩ | ⟨h1, h2, h3⟩
  · obtain ⟨g1, g2, g3, g4⟩ := g_cell r k hrr hk
    have hc : 6 * r + k < 30 := by omega
    generalize 6 * r + k = c at *
    have hj : jIn (nI c) 30 := nIin hc (by decide)
    have hcl : (nI c).toNatClampNeg = c := nI_clamp (by omega)
    have hJ : ∀ y : Nat, y ≤ 1 → f_X7_switchLedge_J25 q (nI c) (nI y) (nI c) = some (nI y, qSLedges (upd (qLedges q) c (nI y)) q) := by
      intro y hy
      unfold f_X7_switchLedge_J25
      simp only [if_pos hj, nar_le1 hy, hcl, jb_u, qg2_0, qg2_1, qg2_2, qg2_3, qg2_4, qg2_5, qg2_6, qg2_7, qg2_8, qg2_9, qg2_10, qg2_11, qg2_12, qg2_13, qg2_14, upd_at, ↓reduceIte]
    unfold f_X7_switchLedge
    simp only [g2, ob_s, if_pos hj]
    by_cases e : qLedges q (nI c).toNatClampNeg = 0
    · rw [if_pos e]; exact ⟨1, _, by omega, hJ 1 (by omega)⟩
    · rw [if_neg e]; exact ⟨0, _, by omega, hJ 0 (by omega)⟩
  · rw [h1] at hF
    exact absurd hF (by decide)
theorem lb_3 {T : Nat} {S : Sys} (h : RelS T S) (a1 a2 a3 a4 : Int32) (ol : Nat → Int64) (od : Nat → UInt64) : ∃ r, lawOp_3 S a1 a2 a3 a4 ol od = some r ∧ RelS (T + 1) r.1 := by
  rcases mutS h [0] (f_X3_cellFault a1 a2) (f_X7_switchLedge S.qv a1 a2) (fun m => f_X11_toggles m a1 a2) (fun m hq hw => cmd_ledge hq hw a1 a2) with ⟨r, q', hv', m', h1, h2, h3, h4, h5, h6⟩ | ⟨k, c, m', h1, hk, h4, h5, hc, hex, h6⟩
  · obtain ⟨n, q2, hn, e⟩ := q_switch h.q h.w a1 a2 h1
    have hrn : r = nI n := by
      rw [e] at h3
      cases h3
      rfl
    have hM : f_X11_toggleLedge S.mv a1 a2 = some (nI n, m') := by
      have h4' : ((f_X11_begins S.mv).bind fun o1 => (f_X11_toggles o1 a1 a2).bind fun o3 => (f_X11_ends o3.2 o3.1).bind fun o5 => if o5.1 = 1 then some (1, o5.2) else some (0, o5.2)) = (((f_X11_begins S.mv).bind fun o1 => (f_X11_toggles o1 a1 a2).bind fun o3 => f_X11_ends o3.2 o3.1).bind fun o5 => if o5.1 = 1 then some (1, o5.2) else some (0, o5.2)) := by
        rw [Option.bind_assoc]
        congr 1
        funext o1
        rw [Option.bind_assoc]
      unfold f_X11_toggleLedge
      rw [h4', h4, Option.bind_some, hrn]
      rcases (show n = 0 ∨ n = 1 by omega) with rfl | rfl
      · rw [if_neg (by decide +kernel)]; rfl
      · rw [if_pos (by decide +kernel)]; rfl
    have hL : f_L_toggleLedge (none, S.ep, S.fc) S.qv S.hv a1 a2 ol = if nI n = 0 then some (0, vp_updL ol (0 : Int32).toNatClampNeg 0, q', hv') else some (0, vp_updL ol (0 : Int32).toNatClampNeg 1, q', hv') := by
      unfold f_L_toggleLedge f_X10_toggleLedge
      simp only [h1, rf_0, jm_r, ob_s, h2, h3, hrn, nar_le1 hn, ↓reduceIte]
    rcases (show n = 0 ∨ n = 1 by omega) with rfl | rfl
    · rw [if_pos (show nI 0 = (0 : Int32) from rfl)] at hL
      refine ⟨((mkS S.ep S.fc q' S.bv S.sv hv' S.pv S.ov S.svd m'), vp_updL ol (0 : Int32).toNatClampNeg 0, od), ?_, h6⟩
      unfold lawOp_3
      rw [hL, hM]
      simp only [ob_s, th_u, h5, ↓reduceIte, uL0, if_pos (show nI 0 = (0 : Int32) from rfl)]
    · have h10 : ¬ nI 1 = (0 : Int32) := by decide +kernel
      rw [if_neg h10] at hL
      refine ⟨((mkS S.ep S.fc q' S.bv S.sv hv' S.pv S.ov S.svd m'), vp_updL ol (0 : Int32).toNatClampNeg 1, od), ?_, h6⟩
      unfold lawOp_3
      rw [hL, hM]
      simp only [ob_s, th_u, h5, ↓reduceIte, uL0, if_neg h10]
  · have hM : f_X11_toggleLedge S.mv a1 a2 = some (0, m') := by
      have h4' : ((f_X11_begins S.mv).bind fun o1 => (f_X11_toggles o1 a1 a2).bind fun o3 => (f_X11_ends o3.2 o3.1).bind fun o5 => if o5.1 = 1 then some (1, o5.2) else some (0, o5.2)) = (((f_X11_begins S.mv).bind fun o1 => (f_X11_toggles o1 a1 a2).bind fun o3 => f_X11_ends o3.2 o3.1).bind fun o5 => if o5.1 = 1 then some (1, o5.2) else some (0, o5.2)) := by
        rw [Option.bind_assoc]
        congr 1
        funext o1
        rw [Option.bind_assoc]
      unfold f_X11_toggleLedge
      rw [h4', h4, Option.bind_some, if_neg (by decide)]
    have hne : ¬ nI (c + 1) = 0 := nI_s0 hc
    have hL : f_L_toggleLedge (none, S.ep, S.fc) S.qv S.hv a1 a2 ol = some (nI (c + 1), ol, S.qv, S.hv) := by
      unfold f_L_toggleLedge f_X10_toggleLedge
      simp only [h1, rf_s k hk, jm_l, ob_s]
      rcases (show c = 0 ∨ c = 1 ∨ c = 2 ∨ c = 3 by omega) with rfl | rfl | rfl | rfl <;> (simp at hex) <;> (subst hex; rfl)
    refine ⟨((mkS S.ep S.fc S.qv S.bv S.sv S.hv S.pv S.ov S.svd m'), ol, od), ?_, h6⟩
    unfold lawOp_3
    rw [hL, hM]
    simp only [ob_s, th_u, h5, ↓reduceIte, if_neg hne]
