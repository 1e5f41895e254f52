/-! ===== the script's numbers, lay, any ===== -/
theorem L_cell (g : GG) (hL : gS g 5 1 ≤ 260) (i : Nat) (hi : i < 2 ^ 31) : ∃ x, f_L_cell g (nI i) = some x := by
  unfold f_L_cell
  by_cases h : Int32.ofNat (gS g 5 1) ≤ nI i
  · rw [if_pos h]
    exact ⟨_, rfl⟩
  · have hlt : i < gS g 5 1 := by
      by_cases h9 : i < gS g 5 1
      · exact h9
      · exact absurd ((nI_leI (a := gS g 5 1) (b := i) (by omega) hi).mpr (by omega)) h
    rw [if_neg h, if_pos (nIin hlt (by omega))]
    exact ⟨_, rfl⟩
theorem ushr_8 (x : Int32) : ∃ r, r < 2 ^ 24 ∧ (x.toUInt32 >>> ((8 : Int32).toUInt32 &&& Int32.toUInt32 31)).toInt32 = nI r := by
  have e8 : ((8 : Int32).toUInt32 &&& Int32.toUInt32 31) = 8 := by decide
  rw [e8]
  refine ⟨(x.toUInt32 >>> 8).toNat, ?_, ?_⟩
  · rw [UInt32.toNat_shiftRight]
    have h := x.toUInt32.toNat_lt
    have e : (8 : UInt32).toNat % 32 = 8 := by decide
    rw [e, Nat.shiftRight_eq_div_pow]
    omega
  · apply Int32.toBitVec_inj.mp
    show (x.toUInt32 >>> 8).toBitVec = (Int32.ofNat _).toBitVec
    rw [Int32.toBitVec_ofNat']
    apply BitVec.eq_of_toNat_eq
    rw [BitVec.toNat_ofNat, Nat.mod_eq_of_lt (UInt32.toNat_lt _)]
    rfl
theorem L_pick (g : GG) (hL : gS g 5 1 ≤ 260) (i m : Nat) (hi : i < 2 ^ 31) (h0 : 0 < m) (hm : m < 2 ^ 31) : ∃ r, r < m ∧ f_L_pick g (nI i) (nI m) = some (nI r) := by
  obtain ⟨x, hx⟩ := L_cell g hL i hi
  obtain ⟨r, hr, er⟩ := ushr_8 x
  refine ⟨r % m, Nat.mod_lt _ h0, ?_⟩
  unfold f_L_pick
  rw [hx, ob_s, er, if_pos (show ¬ nI m = 0 from by rw [show (0 : Int32) = nI 0 from rfl, nI_eq hm (by omega)]; omega), pk_rem (by omega) h0 hm]
theorem Sx.up {t u : Nat} {q : QV} {hv : HV} (h : Sx t q hv) (htu : t ≤ u) : Sx u q hv := by
  obtain ⟨hh, w, hr, hi, hd⟩ := h
  exact ⟨hh, w, hr, hi.up htu, hd⟩
/-- it goes, and keeps what is kept -/
def Gd (t : Nat) (X : Option (Int32 × QV × HV)) : Prop := ∃ r q' hv', X = some (r, q', hv') ∧ Sx t q' hv'
section
variable {g : GG} {t : Nat} {q : QV} {hv : HV}
theorem gd_deed (hs : Sx t q hv) (ht : t < 2 ^ 20) (k : Nat) (hk : k < 8) (a b c d : Int32) : Gd (t + 1) (f_L_deed q hv (nI k) a b c d) := L_deed hs ht k hk a b c d
theorem gd_ret {X : Option (Int32 × QV × HV)} (h : Gd t X) : Gd t (X.bind fun o => some (o.1, o.2.1, o.2.2)) := by
  obtain ⟨r, q', hv', e, hs⟩ := h
  exact ⟨r, q', hv', by rw [e, ob_s], hs⟩
theorem gd_pick (hL : gS g 5 1 ≤ 260) (i j m : Nat) (hi : i + j < 2 ^ 31) (h0 : 0 < m) (hm : m < 2 ^ 31) {k : Int32 → Option (Int32 × QV × HV)} (h : ∀ r, r < m → Gd t (k (nI r))) : Gd t ((f_L_pick g (nI i + nI j) (nI m)).bind k) := by
  obtain ⟨r, hr, e⟩ := L_pick g hL (i + j) m hi h0 hm
  rw [nI_add, e, ob_s]
  exact h r hr

theorem L_any (hL : gS g 5 1 ≤ 260) (hs : Sx t q hv) (ht : t < 2 ^ 20) (i : Nat) (hi : i < 2 ^ 30) : Gd (t + 1) (f_L_any g q hv (nI i)) := by
  obtain ⟨r1, hr1, e1⟩ := L_pick g hL (i + 1) 5 (by omega) (by omega) (by omega)
  obtain ⟨r2, hr2, e2⟩ := L_pick g hL (i + 2) 6 (by omega) (by omega) (by omega)
  obtain ⟨r0, hr0, e0⟩ := L_pick g hL i 24 (by omega) (by omega) (by omega)
  have e1 : f_L_pick g (nI i + 1) 5 = some (nI r1) := by rw [nI_1]; exact e1
  have e2 : f_L_pick g (nI i + 2) 6 = some (nI r2) := by rw [show (2 : Int32) = nI 2 from rfl, nI_add]; exact e2
  have e0 : f_L_pick g (nI i) 24 = some (nI r0) := e0
  obtain ⟨n, hn, en⟩ : ∃ n, n ≤ 3 ∧ f_X10_winchCount (none, -1, -1) q = some (nI n) := by
    obtain ⟨-, w, hr, hi, -⟩ := hs
    obtain ⟨n, hn, en⟩ := hi.nw
    exact ⟨n, hn, by rw [tq_winches _ hr, en]⟩
  have emax : jMax 1 (nI n) = nI (max 1 n) := jMax_nI (a := 1) (b := n) (by omega) (by omega)
  unfold f_L_any
  rw [e1, ob_s, e2, ob_s, e0, ob_s]
  by_cases h0 : nI r0 = 0
  · rw [if_pos h0]
    refine gd_pick hL i 3 4 (by omega) (by omega) (by omega) (fun r3 hr3 => ?_)
    exact gd_ret (gd_deed hs ht 0 (by omega) _ _ _ _)
  rw [if_neg h0]
  by_cases h1 : nI r0 = 1
  · rw [if_pos h1]
    refine gd_pick hL i 3 4 (by omega) (by omega) (by omega) (fun r3 hr3 => ?_)
    exact gd_ret (gd_deed hs ht 0 (by omega) _ _ _ _)
  rw [if_neg h1]
  by_cases h2 : nI r0 = 2
  · rw [if_pos h2]
    exact gd_ret (gd_deed hs ht 3 (by omega) _ _ _ _)
  rw [if_neg h2]
  by_cases h3 : nI r0 = 3
  · rw [if_pos h3]
    exact gd_ret (gd_deed hs ht 3 (by omega) _ _ _ _)
  rw [if_neg h3]
  by_cases h4 : nI r0 = 4
  · rw [if_pos h4]
    exact gd_ret (gd_deed hs ht 3 (by omega) _ _ _ _)
  rw [if_neg h4]
  by_cases h5 : nI r0 = 5
  · rw [if_pos h5]
    refine gd_pick hL i 3 4 (by omega) (by omega) (by omega) (fun r3 hr3 => ?_)
    exact gd_ret (gd_deed hs ht 4 (by omega) _ _ _ _)
  rw [if_neg h5]
  by_cases h6 : nI r0 = 6
  · rw [if_pos h6]
    refine gd_pick hL i 3 4 (by omega) (by omega) (by omega) (fun r3 hr3 => ?_)
    exact gd_ret (gd_deed hs ht 4 (by omega) _ _ _ _)
  rw [if_neg h6]
  by_cases h7 : nI r0 = 7
  · rw [if_pos h7]
    refine gd_pick hL i 3 8 (by omega) (by omega) (by omega) (fun r3 hr3 => ?_)
    refine gd_pick hL i 4 6 (by omega) (by omega) (by omega) (fun r4 hr4 => ?_)
    exact gd_ret (gd_deed hs ht 5 (by omega) _ _ _ _)
  rw [if_neg h7]
  by_cases h8 : nI r0 = 8
  · rw [if_pos h8]
    rw [en, ob_s, emax]
    refine gd_pick hL i 3 (max 1 n) (by omega) (by omega) (by omega) (fun r3 hr3 => ?_)
    exact gd_ret (gd_deed hs ht 6 (by omega) _ _ _ _)
  rw [if_neg h8]
  by_cases h9 : nI r0 = 9
  · rw [if_pos h9]
    rw [en, ob_s, emax]
    refine gd_pick hL i 3 (max 1 n) (by omega) (by omega) (by omega) (fun r3 hr3 => ?_)
    exact gd_ret (gd_deed hs ht 6 (by omega) _ _ _ _)
  rw [if_neg h9]
  by_cases h10 : nI r0 = 10
  · rw [if_pos h10]
    rw [en, ob_s, emax]
    refine gd_pick hL i 3 (max 1 n) (by omega) (by omega) (by omega) (fun r3 hr3 => ?_)
    exact gd_ret (gd_deed hs ht 6 (by omega) _ _ _ _)
  rw [if_neg h10]
  by_cases h11 : nI r0 = 11
  · rw [if_pos h11]
    rw [en, ob_s, emax]
    refine gd_pick hL i 3 (max 1 n) (by omega) (by omega) (by omega) (fun r3 hr3 => ?_)
    exact gd_ret (gd_deed hs ht 6 (by omega) _ _ _ _)
  rw [if_neg h11]
  by_cases h12 : nI r0 = 12
  · rw [if_pos h12]
    refine gd_pick hL i 3 4 (by omega) (by omega) (by omega) (fun r3 hr3 => ?_)
    refine gd_pick hL i 4 3 (by omega) (by omega) (by omega) (fun r4 hr4 => ?_)
    exact gd_ret (gd_deed hs ht 7 (by omega) _ _ _ _)
  rw [if_neg h12]
  by_cases h13 : nI r0 = 13
  · rw [if_pos h13]
    refine gd_pick hL i 3 4 (by omega) (by omega) (by omega) (fun r3 hr3 => ?_)
    refine gd_pick hL i 4 3 (by omega) (by omega) (by omega) (fun r4 hr4 => ?_)
    exact gd_ret (gd_deed hs ht 7 (by omega) _ _ _ _)
  rw [if_neg h13]
  by_cases h14 : nI r0 = 14
  · rw [if_pos h14]
    exact gd_ret (gd_deed hs ht 2 (by omega) _ _ _ _)
  rw [if_neg h14]
  by_cases h15 : nI r0 = 15
  · rw [if_pos h15]
    exact gd_ret (gd_deed hs ht 2 (by omega) _ _ _ _)
  rw [if_neg h15]
  by_cases h16 : nI r0 = 16
  · rw [if_pos h16]
    exact gd_ret (gd_deed hs ht 2 (by omega) _ _ _ _)
  rw [if_neg h16]
  exact gd_ret (gd_deed hs ht 1 (by omega) _ _ _ _)
/-! lay -/
theorem lay_19 (hL : gS g 5 1 ≤ 260) (hs : Sx t q hv) (ht : t < 1000) (x : Int32) : ∃ x' q' hv', jbL (fun s : Int32 × Int32 × QV × HV => f_L_lay_L19 g s.1 s.2.1 s.2.2.1 s.2.2.2) 31 (x, (0 : Int32), q, hv) = some (x', nI 30, q', hv') ∧ Sx (t + 30) q' hv' := by
  obtain ⟨r, h1, x', q', hv', h2, rfl⟩ := lpL (body := fun s : Int32 × Int32 × QV × HV => f_L_lay_L19 g s.1 s.2.1 s.2.2.1 s.2.2.2)
    (fun k s => ∃ x' q' hv', Sx (t + k) q' hv' ∧ s = (x', nI k, q', hv')) (fun r => ∃ x' q' hv', Sx (t + 30) q' hv' ∧ r = (x', nI 30, q', hv')) 30
    (fun k s hk ⟨x1, q1, hv1, a1, e⟩ => by
      subst e
      left
      obtain ⟨p1, -, b1⟩ := L_pick g hL (11 + k) 2 (by omega) (by omega) (by omega)
      obtain ⟨p2, -, b2⟩ := L_pick g hL (51 + k) 4 (by omega) (by omega) (by omega)
      have b1 : f_L_pick g (11 + nI k) 2 = some (nI p1) := by rw [show (11 : Int32) = nI 11 from rfl, nI_add]; exact b1
      have b2 : f_L_pick g (51 + nI k) 4 = some (nI p2) := by rw [show (51 : Int32) = nI 51 from rfl, nI_add]; exact b2
      obtain ⟨r, q2, hv2, c1, c2⟩ := L_deed a1 (by omega) 0 (by omega) (nI k / 6) (nI k - nI k / 6 * 6) (nI p2) 0
      have c1 : f_L_deed q1 hv1 0 (nI k / 6) (nI k - nI k / 6 * 6) (nI p2) 0 = some (r, q2, hv2) := c1
      refine ⟨(x1 + nI p1 * r, nI (k + 1), q2, hv2), ?_, _, q2, hv2, c2, rfl⟩
      show f_L_lay_L19 g x1 (nI k) q1 hv1 = _
      unfold f_L_lay_L19
      rw [if_neg (show ¬ (30 : Int32) ≤ nI k from nI_ge (a := k) (b := 30) hk (by decide)), b1, ob_s, b2, ob_s, c1, ob_s, jb_u, nI_1])
    (fun s ⟨x1, q1, hv1, a1, e⟩ => by
      subst e
      refine ⟨_, ?_, x1, q1, hv1, a1, rfl⟩
      show f_L_lay_L19 g x1 (nI 30) q1 hv1 = _
      unfold f_L_lay_L19
      rw [if_pos (show (30 : Int32) ≤ nI 30 from Int32.le_refl _)]) 31 0 (x, (0 : Int32), q, hv) (by omega) (by omega) ⟨x, q, hv, hs, rfl⟩
  exact ⟨x', q', hv', h1, h2⟩
theorem lay_69 (hL : gS g 5 1 ≤ 260) (hs : Sx t q hv) (ht : t < 1000) (x : Int32) : ∃ x' n q' hv', jbL (fun s : Int32 × Int32 × QV × HV => f_L_lay_L69 g s.1 s.2.1 s.2.2.1 s.2.2.2) 41 (x, (0 : Int32), q, hv) = some (x', n, q', hv') ∧ Sx (t + 39) q' hv' := by
  obtain ⟨N, hN, eN⟩ := L_pick g hL 1 40 (by omega) (by omega) (by omega)
  have eN : f_L_pick g 1 40 = some (nI N) := eN
  obtain ⟨r, h1, x', q', hv', h2, rfl⟩ := lpL (body := fun s : Int32 × Int32 × QV × HV => f_L_lay_L69 g s.1 s.2.1 s.2.2.1 s.2.2.2)
    (fun k s => ∃ x' q' hv', Sx (t + 1 * k) q' hv' ∧ s = (x', nI k, q', hv')) (fun r => ∃ x' q' hv', Sx (t + 1 * N) q' hv' ∧ r = (x', nI N, q', hv')) N
    (fun k s hk ⟨x1, q1, hv1, a1, e⟩ => by
      subst e
      left
      obtain ⟨p1, -, ep1⟩ := L_pick g hL (91 + k) 5 (by omega) (by omega) (by omega)
      have ep1 : f_L_pick g (91 + nI k) 5 = some (nI p1) := by rw [show (91 : Int32) = nI 91 from rfl, nI_add]; exact ep1
      obtain ⟨p2, -, ep2⟩ := L_pick g hL (141 + k) 6 (by omega) (by omega) (by omega)
      have ep2 : f_L_pick g (141 + nI k) 6 = some (nI p2) := by rw [show (141 : Int32) = nI 141 from rfl, nI_add]; exact ep2
      obtain ⟨r1, q2, hv2, d2, c2⟩ := L_deed a1 (by omega) 1 (by omega) (nI p1) (nI p2) 0 0
      have d2 : f_L_deed q1 hv1 1 (nI p1) (nI p2) 0 0 = some (r1, q2, hv2) := d2
      refine ⟨(x1 + r1, nI (k + 1), q2, hv2), ?_, _, q2, hv2, c2, rfl⟩
      show f_L_lay_L69 g x1 (nI k) q1 hv1 = _
      unfold f_L_lay_L69
      rw [eN, ob_s, if_neg (show ¬ nI N ≤ nI k from nI_ge (a := k) (b := N) hk (by omega)), ep1, ob_s, ep2, ob_s, d2, ob_s, jb_u, nI_1])
    (fun s ⟨x1, q1, hv1, a1, e⟩ => by
      subst e
      refine ⟨_, ?_, x1, q1, hv1, a1, rfl⟩
      show f_L_lay_L69 g x1 (nI N) q1 hv1 = _
      unfold f_L_lay_L69
      rw [eN, ob_s, if_pos (Int32.le_refl _)]) 41 0 (x, (0 : Int32), q, hv) (by omega) (by omega) ⟨x, q, hv, hs, rfl⟩
  exact ⟨x', nI N, q', hv', h1, h2.up (by omega)⟩
theorem lay_118 (hL : gS g 5 1 ≤ 260) (hs : Sx t q hv) (ht : t < 1000) (x : Int32) : ∃ x' n q' hv', jbL (fun s : Int32 × Int32 × QV × HV => f_L_lay_L118 g s.1 s.2.1 s.2.2.1 s.2.2.2) 6 (x, (0 : Int32), q, hv) = some (x', n, q', hv') ∧ Sx (t + 8) q' hv' := by
  obtain ⟨N, hN, eN⟩ := L_pick g hL 2 5 (by omega) (by omega) (by omega)
  have eN : f_L_pick g 2 5 = some (nI N) := eN
  obtain ⟨r, h1, x', q', hv', h2, rfl⟩ := lpL (body := fun s : Int32 × Int32 × QV × HV => f_L_lay_L118 g s.1 s.2.1 s.2.2.1 s.2.2.2)
    (fun k s => ∃ x' q' hv', Sx (t + 2 * k) q' hv' ∧ s = (x', nI k, q', hv')) (fun r => ∃ x' q' hv', Sx (t + 2 * N) q' hv' ∧ r = (x', nI N, q', hv')) N
    (fun k s hk ⟨x1, q1, hv1, a1, e⟩ => by
      subst e
      left
      obtain ⟨p1, -, ep1⟩ := L_pick g hL (191 + k) 5 (by omega) (by omega) (by omega)
      have ep1 : f_L_pick g (191 + nI k) 5 = some (nI p1) := by rw [show (191 : Int32) = nI 191 from rfl, nI_add]; exact ep1
      obtain ⟨p2, -, ep2⟩ := L_pick g hL (196 + k) 6 (by omega) (by omega) (by omega)
      have ep2 : f_L_pick g (196 + nI k) 6 = some (nI p2) := by rw [show (196 : Int32) = nI 196 from rfl, nI_add]; exact ep2
      obtain ⟨p3, -, ep3⟩ := L_pick g hL (201 + k) 8 (by omega) (by omega) (by omega)
      have ep3 : f_L_pick g (201 + nI k) 8 = some (nI p3) := by rw [show (201 : Int32) = nI 201 from rfl, nI_add]; exact ep3
      obtain ⟨p4, -, ep4⟩ := L_pick g hL (206 + k) 6 (by omega) (by omega) (by omega)
      have ep4 : f_L_pick g (206 + nI k) 6 = some (nI p4) := by rw [show (206 : Int32) = nI 206 from rfl, nI_add]; exact ep4
      obtain ⟨r1, q2, hv2, d2, c2⟩ := L_deed a1 (by omega) 5 (by omega) (nI p1) (nI p2) (2 + nI p3) (1 + nI p4)
      have d2 : f_L_deed q1 hv1 5 (nI p1) (nI p2) (2 + nI p3) (1 + nI p4) = some (r1, q2, hv2) := d2
      obtain ⟨p5, -, ep5⟩ := L_pick g hL (211 + k) 2 (by omega) (by omega) (by omega)
      have ep5 : f_L_pick g (211 + nI k) 2 = some (nI p5) := by rw [show (211 : Int32) = nI 211 from rfl, nI_add]; exact ep5
      obtain ⟨p6, -, ep6⟩ := L_pick g hL (216 + k) 5 (by omega) (by omega) (by omega)
      have ep6 : f_L_pick g (216 + nI k) 5 = some (nI p6) := by rw [show (216 : Int32) = nI 216 from rfl, nI_add]; exact ep6
      obtain ⟨p7, -, ep7⟩ := L_pick g hL (221 + k) 6 (by omega) (by omega) (by omega)
      have ep7 : f_L_pick g (221 + nI k) 6 = some (nI p7) := by rw [show (221 : Int32) = nI 221 from rfl, nI_add]; exact ep7
      obtain ⟨r2, q3, hv3, d3, c3⟩ := L_deed c2 (by omega) 3 (by omega) (nI p6) (nI p7) 0 0
      have d3 : f_L_deed q2 hv2 3 (nI p6) (nI p7) 0 0 = some (r2, q3, hv3) := d3
      refine ⟨(x1 + r1 + nI p5 * r2, nI (k + 1), q3, hv3), ?_, _, q3, hv3, c3, rfl⟩
      show f_L_lay_L118 g x1 (nI k) q1 hv1 = _
      unfold f_L_lay_L118
      rw [eN, ob_s, if_neg (show ¬ nI N ≤ nI k from nI_ge (a := k) (b := N) hk (by omega)), ep1, ob_s, ep2, ob_s, ep3, ob_s, ep4, ob_s, d2, ob_s, jb_u, ep5, ob_s, ep6, ob_s, ep7, ob_s, d3, ob_s, jb_u, nI_1])
    (fun s ⟨x1, q1, hv1, a1, e⟩ => by
      subst e
      refine ⟨_, ?_, x1, q1, hv1, a1, rfl⟩
      show f_L_lay_L118 g x1 (nI N) q1 hv1 = _
      unfold f_L_lay_L118
      rw [eN, ob_s, if_pos (Int32.le_refl _)]) 6 0 (x, (0 : Int32), q, hv) (by omega) (by omega) ⟨x, q, hv, hs, rfl⟩
  exact ⟨x', nI N, q', hv', h1, h2.up (by omega)⟩
theorem lay_233 (hL : gS g 5 1 ≤ 260) (hs : Sx t q hv) (ht : t < 1000) (x : Int32) : ∃ x' n q' hv', jbL (fun s : Int32 × Int32 × QV × HV => f_L_lay_L233 g s.1 s.2.1 s.2.2.1 s.2.2.2) 21 (x, (0 : Int32), q, hv) = some (x', n, q', hv') ∧ Sx (t + 19) q' hv' := by
  obtain ⟨N, hN, eN⟩ := L_pick g hL 3 20 (by omega) (by omega) (by omega)
  have eN : f_L_pick g 3 20 = some (nI N) := eN
  obtain ⟨r, h1, x', q', hv', h2, rfl⟩ := lpL (body := fun s : Int32 × Int32 × QV × HV => f_L_lay_L233 g s.1 s.2.1 s.2.2.1 s.2.2.2)
    (fun k s => ∃ x' q' hv', Sx (t + 1 * k) q' hv' ∧ s = (x', nI k, q', hv')) (fun r => ∃ x' q' hv', Sx (t + 1 * N) q' hv' ∧ r = (x', nI N, q', hv')) N
    (fun k s hk ⟨x1, q1, hv1, a1, e⟩ => by
      subst e
      left
      obtain ⟨p1, -, ep1⟩ := L_pick g hL (231 + k) 5 (by omega) (by omega) (by omega)
      have ep1 : f_L_pick g (231 + nI k) 5 = some (nI p1) := by rw [show (231 : Int32) = nI 231 from rfl, nI_add]; exact ep1
      obtain ⟨p2, -, ep2⟩ := L_pick g hL (251 + k) 6 (by omega) (by omega) (by omega)
      have ep2 : f_L_pick g (251 + nI k) 6 = some (nI p2) := by rw [show (251 : Int32) = nI 251 from rfl, nI_add]; exact ep2
      obtain ⟨p3, -, ep3⟩ := L_pick g hL (271 + k) 3 (by omega) (by omega) (by omega)
      have ep3 : f_L_pick g (271 + nI k) 3 = some (nI p3) := by rw [show (271 : Int32) = nI 271 from rfl, nI_add]; exact ep3
      obtain ⟨r1, q2, hv2, d2, c2⟩ := L_deed a1 (by omega) 6 (by omega) (nI p1) (nI p2) (nI p3) 0
      have d2 : f_L_deed q1 hv1 6 (nI p1) (nI p2) (nI p3) 0 = some (r1, q2, hv2) := d2
      refine ⟨(x1 + r1, nI (k + 1), q2, hv2), ?_, _, q2, hv2, c2, rfl⟩
      show f_L_lay_L233 g x1 (nI k) q1 hv1 = _
      unfold f_L_lay_L233
      rw [eN, ob_s, if_neg (show ¬ nI N ≤ nI k from nI_ge (a := k) (b := N) hk (by omega)), ep1, ob_s, ep2, ob_s, ep3, ob_s, d2, ob_s, jb_u, nI_1])
    (fun s ⟨x1, q1, hv1, a1, e⟩ => by
      subst e
      refine ⟨_, ?_, x1, q1, hv1, a1, rfl⟩
      show f_L_lay_L233 g x1 (nI N) q1 hv1 = _
      unfold f_L_lay_L233
      rw [eN, ob_s, if_pos (Int32.le_refl _)]) 21 0 (x, (0 : Int32), q, hv) (by omega) (by omega) ⟨x, q, hv, hs, rfl⟩
  exact ⟨x', nI N, q', hv', h1, h2.up (by omega)⟩
theorem L_lay (hL : gS g 5 1 ≤ 260) (hs : Sx t q hv) (ht : t < 100) : ∃ q' hv', f_L_lay g q hv = some (q', hv') ∧ Sx (t + 200) q' hv' := by
  obtain ⟨p, -, ep⟩ := L_pick g hL 0 4 (by omega) (by omega) (by omega)
  have ep : f_L_pick g 0 4 = some (nI p) := ep
  obtain ⟨r, q1, hv1, d1, c1⟩ := L_deed hs (by omega) 4 (by omega) (1 + nI p) 0 0 0
  have d1 : f_L_deed q hv 4 (1 + nI p) 0 0 0 = some (r, q1, hv1) := d1
  obtain ⟨x2, q2, hv2, d2, c2⟩ := lay_19 hL c1 (by omega) r
  obtain ⟨x3, n3, q3, hv3, d3, c3⟩ := lay_69 hL c2 (by omega) x2
  obtain ⟨x4, n4, q4, hv4, d4, c4⟩ := lay_118 hL c3 (by omega) x3
  obtain ⟨x5, n5, q5, hv5, d5, c5⟩ := lay_233 hL c4 (by omega) x4
  refine ⟨q5, hv5, ?_, c5.up (by omega)⟩
  unfold f_L_lay
  rw [ep, ob_s, d1, ob_s, jb_u, d2, ob_s, d3, ob_s, d4, ob_s, d5, ob_s]
end
