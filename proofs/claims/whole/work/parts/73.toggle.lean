/-! the ledge, in the law: its answer is a bit -/
theorem q_switch {q : QV} {w : Nat → Int32} {t : Nat} (hr : RelQ q w) (hi : InvW t w) (a b : Int32) (hF : f_X3_cellFault a b = some 0) : ∃ n q', n ≤ 1 ∧ f_X7_switchLedge q a b = some (nI n, q') := by
  rcases cell_or a b with ⟨r, k, hrr, hk, rfl, rfl⟩ | ⟨h1, h2, h3⟩
  · obtain ⟨g1, g2, g3, g4⟩ := g_cell r k hrr hk
    have hc : 6 * r + k < 30 := by omega
    generalize 6 * r + k = c at *
    have hj : jIn (nI c) 30 := nIin hc (by decide)
    have hcl : (nI c).toNatClampNeg = c := nI_clamp (by omega)
    have hJ : ∀ y : Nat, y ≤ 1 → f_X7_switchLedge_J25 q (nI c) (nI y) (nI c) = some (nI y, qSLedges (upd (qLedges q) c (nI y)) q) := by
      intro y hy
      unfold f_X7_switchLedge_J25
      simp only [if_pos hj, nar_le1 hy, hcl, jb_u, qg2_0, qg2_1, qg2_2, qg2_3, qg2_4, qg2_5, qg2_6, qg2_7, qg2_8, qg2_9, qg2_10, qg2_11, qg2_12, qg2_13, qg2_14, upd_at, ↓reduceIte]
    unfold f_X7_switchLedge
    simp only [g2, ob_s, if_pos hj]
    by_cases e : qLedges q (nI c).toNatClampNeg = 0
    · rw [if_pos e]; exact ⟨1, _, by omega, hJ 1 (by omega)⟩
    · rw [if_neg e]; exact ⟨0, _, by omega, hJ 0 (by omega)⟩
  · rw [h1] at hF
    exact absurd hF (by decide)
theorem bnd3 {α β γ δ : Type} (A : Option α) (B : α → Option β) (E : β → Option γ) (F : γ → Option δ) : (A.bind fun a => (B a).bind fun b => (E b).bind F) = ((A.bind fun a => (B a).bind fun b => E b).bind F) := by
  cases A with
  | none => rfl
  | some a =>
    show ((B a).bind fun b => (E b).bind F) = ((B a).bind fun b => E b).bind F
    cases B a <;> rfl
theorem m_toggle (m : MV) (a1 a2 : Int32) : f_X11_toggleLedge m a1 a2 = ((f_X11_begins m).bind fun o1 => (f_X11_toggles o1 a1 a2).bind fun o3 => f_X11_ends o3.2 o3.1).bind (fun o5 => if o5.1 = 1 then some (1, o5.2) else some (0, o5.2)) := by
  unfold f_X11_toggleLedge
  exact bnd3 (f_X11_begins m) (fun o1 => f_X11_toggles o1 a1 a2) (fun o3 => f_X11_ends o3.2 o3.1) (fun o5 => if o5.1 = 1 then some (1, o5.2) else some (0, o5.2))
theorem lb_3 {T : Nat} {S : Sys} (h : RelS T S) (a1 a2 a3 a4 : Int32) (ol : Nat → Int64) (od : Nat → UInt64) : ∃ r, lawOp_3 S a1 a2 a3 a4 ol od = some r ∧ RelS (T + 1) r.1 := by
  have i0 : ¬ nI 0 = (1 : Int32) := by decide +kernel
  have i1 : nI 1 = (1 : Int32) := rfl
  have h10 : ¬ nI 1 = (0 : Int32) := by decide +kernel
  have h00 : nI 0 = (0 : Int32) := rfl
  have hM0 := m_toggle S.mv a1 a2
  rcases mutS h [0] (f_X3_cellFault a1 a2) (f_X7_switchLedge S.qv a1 a2) (fun m => f_X11_toggles m a1 a2) (fun m hq hw => cmd_ledge hq hw a1 a2) with ⟨r, q', hv', m', h1, h2, h3, h4, h5, h6⟩ | ⟨k, c, m', h1, hk, h4, h5, hc, hex, h6⟩
  · obtain ⟨n, q2, hn, e⟩ := q_switch h.q h.w a1 a2 h1
    have hrn : r = nI n := by
      rw [e] at h3
      cases h3
      rfl
    have h4' : ((f_X11_begins S.mv).bind fun o1 => (f_X11_toggles o1 a1 a2).bind fun o3 => f_X11_ends o3.2 o3.1) = some (r, m') := h4
    rw [h4', ob_s] at hM0
    have hL : f_L_toggleLedge (none, S.ep, S.fc) S.qv S.hv a1 a2 ol = if nI n = 0 then some (0, vp_updL ol (0 : Int32).toNatClampNeg 0, q', hv') else some (0, vp_updL ol (0 : Int32).toNatClampNeg 1, q', hv') := by
      unfold f_L_toggleLedge f_X10_toggleLedge
      simp only [h1, rf_0, jm_r, ob_s, h2, h3, hrn, nar_le1 hn, ↓reduceIte]
    have hn2 : n = 0 ∨ n = 1 := by omega
    rcases hn2 with hz | hz
    · rw [hz] at hrn hL
      rw [hrn] at hM0
      have hM : f_X11_toggleLedge S.mv a1 a2 = some (0, m') := by rw [hM0]; exact if_neg i0
      rw [if_pos h00] at hL
      refine ⟨((mkS S.ep S.fc q' S.bv S.sv hv' S.pv S.ov S.svd m'), vp_updL ol (0 : Int32).toNatClampNeg 0, od), ?_, h6⟩
      unfold lawOp_3
      rw [hL, hM]
      simp only [ob_s, th_u, h5, ↓reduceIte, uL0]
    · rw [hz] at hrn hL
      rw [hrn] at hM0
      have hM : f_X11_toggleLedge S.mv a1 a2 = some (1, m') := by rw [hM0]; exact if_pos i1
      rw [if_neg h10] at hL
      refine ⟨((mkS S.ep S.fc q' S.bv S.sv hv' S.pv S.ov S.svd m'), vp_updL ol (0 : Int32).toNatClampNeg 1, od), ?_, h6⟩
      unfold lawOp_3
      rw [hL, hM]
      simp only [ob_s, th_u, h5, ↓reduceIte, uL0, i10]
  · have h4' : ((f_X11_begins S.mv).bind fun o1 => (f_X11_toggles o1 a1 a2).bind fun o3 => f_X11_ends o3.2 o3.1) = some (0, m') := h4
    rw [h4', ob_s] at hM0
    have i01 : ¬ (0 : Int32) = 1 := by decide
    have hM : f_X11_toggleLedge S.mv a1 a2 = some (0, m') := by rw [hM0]; exact if_neg i01
    have hne : ¬ nI (c + 1) = 0 := nI_s0 hc
    have hL : f_L_toggleLedge (none, S.ep, S.fc) S.qv S.hv a1 a2 ol = some (nI (c + 1), ol, S.qv, S.hv) := by
      unfold f_L_toggleLedge f_X10_toggleLedge
      simp only [h1, rf_s k hk, jm_l, ob_s]
      rcases (show c = 0 ∨ c = 1 ∨ c = 2 ∨ c = 3 by omega) with rfl | rfl | rfl | rfl <;> (simp at hex) <;> (subst hex; rfl)
    refine ⟨((mkS S.ep S.fc S.qv S.bv S.sv S.hv S.pv S.ov S.svd m'), ol, od), ?_, h6⟩
    unfold lawOp_3
    rw [hL, hM]
    simp only [ob_s, th_u, h5, ↓reduceIte, if_neg hne]
