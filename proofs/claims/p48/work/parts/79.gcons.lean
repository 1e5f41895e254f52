theorem stp1_in {w : Nat → Int32} {t : Nat} (hi : InvW t w) {c k L : Nat} (hc : c < 30) (hk : k < 4) (hL : w 0 = nI L) (hL4 : L ≤ 4) {x : Int32} (hx : x ≤ nI L) : stp1 w (w (19 + 7 * c)) x (nb c k) ≤ nI L := by
  cases hn : nb c k with
  | none => exact hx
  | some d =>
    have hd := nb_lt hc hk hn
    show jMax x (jAbs (w (19 + 7 * c) - w (19 + 7 * d))) ≤ nI L
    have h1 := hi.step c k d hc hk hn
    have h2 := hi.step d (3 - k) c hd (by omega) (nb_sym hc hk hn)
    rw [hL, vN_nI (by omega)] at h1 h2
    have p1 := hh_9 hi c hc
    have p2 := hh_9 hi d hd
    rw [jMax_le]
    refine ⟨hx, ?_⟩
    rw [hN hi c hc, hN hi d hd, jAbs_nI (by omega) (by omega), nI_leI (by unfold dist1; omega) (by omega)]
    unfold dist1
    omega
theorem stp_in {w : Nat → Int32} {t : Nat} (hi : InvW t w) {c : Nat} (hc : c < 30) : stp w c (w (19 + 7 * c)) ≤ w 0 := by
  obtain ⟨L, h1, h4, hL⟩ := hi.lim
  rw [hL]
  have h0 : (0 : Int32) ≤ nI L := nI_pos' (by omega)
  unfold stp
  exact stp1_in hi hc (by omega) hL h4 (stp1_in hi hc (by omega) hL h4 (stp1_in hi hc (by omega) hL h4 (stp1_in hi hc (by omega) hL h4 h0)))
theorem q_blocks {q : QV} {w : Nat → Int32} (hr : RelQ q w) : f_X7_blockSum q = some (itr (fun c x => x + w (22 + 7 * c)) 0 30) := by
  have hl : jbL (fun s : Int32 × Int32 => f_X7_blockSum_L4 q s.1 s.2) 5000 (itr (fun c x => x + w (22 + 7 * c)) 0 0, nI 0) = some (itr (fun c x => x + w (22 + 7 * c)) 0 30, nI 30) := by
    refine lpD (fun c => (itr (fun c x => x + w (22 + 7 * c)) 0 c, nI c)) _ 30 (fun c hc => ?_) ?_ 5000 (by decide)
    · show f_X7_blockSum_L4 q (itr (fun c x => x + w (22 + 7 * c)) 0 c) (nI c) = some (Sum.inl (itr (fun c x => x + w (22 + 7 * c)) 0 c + w (22 + 7 * c), nI (c + 1)))
      unfold f_X7_blockSum_L4
      rw [if_neg (show ¬ (30 : Int32) ≤ nI c from nI_ge (a := c) (b := 30) hc (by decide)), if_pos (nIin hc (by decide)), nI_clamp (by omega), hr.n c hc]
      simp only [jb_u, nI_1]
    · show f_X7_blockSum_L4 q _ (nI 30) = _
      unfold f_X7_blockSum_L4
      rw [if_pos (show (30 : Int32) ≤ nI 30 from Int32.le_refl _)]
  have hl' : jbL (fun s : Int32 × Int32 => f_X7_blockSum_L4 q s.1 s.2) 5000 ((0 : Int32), (0 : Int32)) = some (itr (fun c x => x + w (22 + 7 * c)) 0 30, nI 30) := hl
  unfold f_X7_blockSum
  simp only [hl', ob_s]
theorem q_needed {q : QV} {w : Nat → Int32} {t : Nat} (hr : RelQ q w) (hi : InvW t w) (tv : TV) (sv : SV) : ∃ sv', f_X10_neededCutsAgree tv q sv = some (1, sv') := by
  obtain ⟨L, hL1, hL4, hL⟩ := hi.lim
  obtain ⟨r, h1, x, sv', h2⟩ := lpL (body := fun s : Int32 × SV => f_X10_neededCutsAgree_L2 tv q s.1 s.2) (fun k s => s.1 = nI k) (fun r => ∃ x sv', r = .inl (x, sv')) 30
    (fun k s hk e => by
      left
      obtain ⟨x, sv⟩ := s
      have e : x = nI k := e
      subst e
      obtain ⟨sv', e4⟩ := q_spread hr hi sv k 0 L hk (Nat.zero_le _) hL hL4
      have e3 := q_dist hr hi k 0 L hk (by omega) hL hL4
      have e4' : f_X8_cutsBySpreading sv q (nI k) 0 = some (nI (sumN (lw w L k 0) 30), sv') := e4
      have e3' : f_X7_cutsByDistance q (nI k) 0 = some (nI (sumN (lw w L k 0) 30)) := e3
      refine ⟨(nI (k + 1), sv'), ?_, rfl⟩
      show f_X10_neededCutsAgree_L2 tv q (nI k) sv = _
      unfold f_X10_neededCutsAgree_L2
      rw [if_neg (show ¬ (30 : Int32) ≤ nI k from nI_ge (a := k) (b := 30) hk (by decide)), e3', e4']
      simp only [ob_s, ↓reduceIte, nI_1])
    (fun s e => ⟨.inl (s.1, s.2), by
      obtain ⟨x, sv⟩ := s
      have e : x = nI 30 := e
      subst e
      show f_X10_neededCutsAgree_L2 tv q (nI 30) sv = _
      unfold f_X10_neededCutsAgree_L2
      rw [if_pos (show (30 : Int32) ≤ nI 30 from Int32.le_refl _)], _, _, rfl⟩) 5000 0 (nI 0, sv) (by omega) (by omega) rfl
  have h1' : jbL (fun s : Int32 × SV => f_X10_neededCutsAgree_L2 tv q s.1 s.2) 5000 ((0 : Int32), sv) = some (.inl (x, sv')) := by rw [← h2]; exact h1
  refine ⟨sv', ?_⟩
  unfold f_X10_neededCutsAgree
  simp only [h1', ob_s, jm_l]
