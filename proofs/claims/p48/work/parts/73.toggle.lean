theorem q_switch {q : QV} {w : Nat → Int32} {t : Nat} (hr : RelQ q w) (hi : InvW t w) (a b : Int32) (hF : f_X3_cellFault a b = some 0) : ∃ n q', n ≤ 1 ∧ f_X7_switchLedge q a b = some (nI n, q') := by
  rcases cell_or a b with ⟨r, k, hrr, hk, rfl, rfl⟩ | ⟨h1, h2, h3⟩
  · obtain ⟨g1, g2, g3, g4⟩ := g_cell r k hrr hk
    have hc : 6 * r + k < 30 := by omega
    generalize 6 * r + k = c at *
    have hj : jIn (nI c) 30 := nIin hc (by decide)
    have hcl : (nI c).toNatClampNeg = c := nI_clamp (by omega)
    have hJ : ∀ y : Nat, y ≤ 1 → f_X7_switchLedge_J25 q (nI c) (nI y) (nI c) = some (nI y, qSLedges (upd (qLedges q) c (nI y)) q) := by
      intro y hy
      unfold f_X7_switchLedge_J25
      simp only [if_pos hj, nar_le1 hy, hcl, jb_u, qg2_0, qg2_1, qg2_2, qg2_3, qg2_4, qg2_5, qg2_6, qg2_7, qg2_8, qg2_9, qg2_10, qg2_11, qg2_12, qg2_13, qg2_14, upd_at, ↓reduceIte]
    unfold f_X7_switchLedge
    simp only [g2, ob_s, if_pos hj]
    by_cases e : qLedges q (nI c).toNatClampNeg = 0
    · rw [if_pos e]; exact ⟨1, _, by omega, hJ 1 (by omega)⟩
    · rw [if_neg e]; exact ⟨0, _, by omega, hJ 0 (by omega)⟩
  · rw [h1] at hF
    exact absurd hF (by decide)
