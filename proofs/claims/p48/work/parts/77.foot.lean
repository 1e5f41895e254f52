def WE (w : Nat → Int32) (c d : Nat) : Prop := c < 30 ∧ (∃ k, k < 4 ∧ nb c k = some d) ∧ w (21 + 7 * d) = 0 ∧ ¬ 1 < jAbs (w (19 + 7 * c) - w (19 + 7 * d))
theorem WE_lt {w : Nat → Int32} (c d : Nat) (h : WE w c d) : d < 30 := by
  obtain ⟨hc, ⟨k, hk, e⟩, _⟩ := h
  exact nb_lt hc hk e
theorem q_ledgeAt {q : QV} {w : Nat → Int32} {t : Nat} (hr : RelQ q w) (hi : InvW t w) (c : Nat) (hc : c < 30) : f_X7_hasLedgeAt q (nI c) = some (w (21 + 7 * c)) := by
  obtain ⟨n, hn, e⟩ := hi.l c hc
  unfold f_X7_hasLedgeAt
  rw [if_pos (nIin hc (by decide)), nI_clamp (by omega), hr.l c hc, e, if_pos (nar_le1 hn)]
theorem q_walk {q : QV} {w : Nat → Int32} {t : Nat} (hr : RelQ q w) (hi : InvW t w) (c k : Nat) (hc : c < 30) (hk : k < 4) : (∀ d, nb c k = some d → WE w c d → f_X8_canWalk q (nI c) (enc (nb c k)) = some 1) ∧ ((∀ d, nb c k = some d → ¬ WE w c d) → f_X8_canWalk q (nI c) (enc (nb c k)) = some 0) := by
  cases hn : nb c k with
  | none =>
    exact ⟨fun d e => (nomatch e), fun _ => by unfold f_X8_canWalk; rw [if_pos (show enc none = -1 from rfl)]⟩
  | some d =>
    have hd := nb_lt hc hk hn
    have hed : enc (some d) = nI d := rfl
    have hun : f_X8_canWalk q (nI c) (enc (some d)) = if w (21 + 7 * d) = 0 then (if 1 < jAbs (w (19 + 7 * c) - w (19 + 7 * d)) then some 0 else some 1) else some 0 := by
      unfold f_X8_canWalk
      rw [if_neg (enc_ne hd), hed]
      simp only [q_ledgeAt hr hi d hd, q_heightAt hr c hc, q_heightAt hr d hd, ob_s]
    refine ⟨fun d' e h => ?_, fun hno => ?_⟩
    · cases e
      rw [hun, if_pos h.2.2.1, if_neg h.2.2.2]
    · rw [hun]
      by_cases h1 : w (21 + 7 * d) = 0
      · by_cases h2 : 1 < jAbs (w (19 + 7 * c) - w (19 + 7 * d))
        · rw [if_pos h1, if_pos h2]
        · exact absurd ⟨hc, ⟨k, hk, hn⟩, h1, h2⟩ (hno d rfl)
      · rw [if_neg h1]
abbrev PaI (w : Nat → Int32) (s : Nat) (l : List Nat) (ln : Nat → Nat) (sv : SV) : Prop :=
  (l.Nodup) ∧
  (∀ x ∈ l, x < 30) ∧
  (s ∈ l ∧ ln s = 0) ∧
  (∀ x ∈ l, wi (WE w) s (ln x) x) ∧
  (∀ (i j x y : Nat), i ≤ j → l[i]? = some x → l[j]? = some y → ln x ≤ ln y) ∧
  (Qu sv l) ∧
  (∀ c, c < 30 → (c ∈ l → sLengths sv c = nI (ln c)) ∧ (c ∉ l → sLengths sv c = -1))
theorem PaI.nd {w : Nat → Int32} {s : Nat} {l : List Nat} {ln : Nat → Nat} {sv : SV} (x : PaI w s l ln sv) : l.Nodup := x.1
theorem PaI.lt {w : Nat → Int32} {s : Nat} {l : List Nat} {ln : Nat → Nat} {sv : SV} (x : PaI w s l ln sv) : ∀ x ∈ l, x < 30 := x.2.1
theorem PaI.s0 {w : Nat → Int32} {s : Nat} {l : List Nat} {ln : Nat → Nat} {sv : SV} (x : PaI w s l ln sv) : s ∈ l ∧ ln s = 0 := x.2.2.1
theorem PaI.wy {w : Nat → Int32} {s : Nat} {l : List Nat} {ln : Nat → Nat} {sv : SV} (x : PaI w s l ln sv) : ∀ x ∈ l, wi (WE w) s (ln x) x := x.2.2.2.1
theorem PaI.mo {w : Nat → Int32} {s : Nat} {l : List Nat} {ln : Nat → Nat} {sv : SV} (x : PaI w s l ln sv) : ∀ (i j x y : Nat), i ≤ j → l[i]? = some x → l[j]? = some y → ln x ≤ ln y := x.2.2.2.2.1
theorem PaI.qu {w : Nat → Int32} {s : Nat} {l : List Nat} {ln : Nat → Nat} {sv : SV} (x : PaI w s l ln sv) : Qu sv l := x.2.2.2.2.2.1
theorem PaI.le {w : Nat → Int32} {s : Nat} {l : List Nat} {ln : Nat → Nat} {sv : SV} (x : PaI w s l ln sv) : ∀ c, c < 30 → (c ∈ l → sLengths sv c = nI (ln c)) ∧ (c ∉ l → sLengths sv c = -1) := x.2.2.2.2.2.2
theorem PaI.mk {w : Nat → Int32} {s : Nat} {l : List Nat} {ln : Nat → Nat} {sv : SV} (f_nd : l.Nodup) (f_lt : ∀ x ∈ l, x < 30) (f_s0 : s ∈ l ∧ ln s = 0) (f_wy : ∀ x ∈ l, wi (WE w) s (ln x) x) (f_mo : ∀ (i j x y : Nat), i ≤ j → l[i]? = some x → l[j]? = some y → ln x ≤ ln y) (f_qu : Qu sv l) (f_le : ∀ c, c < 30 → (c ∈ l → sLengths sv c = nI (ln c)) ∧ (c ∉ l → sLengths sv c = -1)) : PaI w s l ln sv := ⟨f_nd, f_lt, f_s0, f_wy, f_mo, f_qu, f_le⟩
theorem PaI.len {w : Nat → Int32} {s : Nat} {l : List Nat} {ln : Nat → Nat} {sv : SV} (h : PaI w s l ln sv) : l.length ≤ 30 := by
  rw [← cnt_list h.nd h.lt]
  exact cnt_le _ _
/-- the length of a way is less than the number of cells -/
theorem wi_29 {w : Nat → Int32} {s x n : Nat} (hs : s < 30) (h : wi (WE w) s n x) : wi (WE w) s 29 x := cn_wi (WE_lt (w := w)) hs ⟨n, h⟩
def dnW (w : Nat → Int32) (l : List Nat) (ln : Nat → Nat) (c k : Nat) : Prop := ∀ j d, j < k → nb c j = some d → WE w c d → d ∈ l ∧ ln d ≤ ln c + 1
theorem pa_in {q : QV} {w : Nat → Int32} {t : Nat} (hr : RelQ q w) (hi : InvW t w) (s hd c : Nat) (x3 : Int32) (l0 : List Nat) (ln0 : Nat → Nat) (sv0 : SV) (h0 : PaI w s l0 ln0 sv0) (hc : l0[hd]? = some c) (htop : ∀ x ∈ l0, ln0 x ≤ ln0 c + 1) (hlc0 : ln0 c ≤ 30)
    (hcl : ∀ i x, i < hd → l0[i]? = some x → dnW w l0 ln0 x 4) : ∃ (r : Int32 × Int32 × SV) (l : List Nat) (ln : Nat → Nat), jbL (fun s : Int32 × Int32 × SV => f_X8_shortestPath_L74 q x3 (nI hd) s.1 s.2.1 s.2.2) 5000 (nI l0.length, nI 0, sv0) = some r ∧ r.1 = nI l.length ∧ PaI w s l ln r.2.2 ∧ hd + 1 ≤ l.length ∧ l[hd]? = some c ∧ ln c = ln0 c ∧ (∀ x ∈ l, ln x ≤ ln c + 1) ∧ ∀ i x, i < hd + 1 → l[i]? = some x → dnW w l ln x 4 := by
  have hhl : hd < l0.length := (List.getElem?_eq_some_iff.mp hc).1
  have hlen0 := h0.len
  have hcm0 : c ∈ l0 := List.mem_of_getElem? hc
  have hc30 : c < 30 := h0.lt c hcm0
  have hjc : jIn (nI c) 30 := nIin hc30 (by decide)
  have hlc : (nI c).toNatClampNeg = c := nI_clamp (by omega)
  have hjq : jIn (nI hd) 271 := nIin (by omega) (by decide)
  obtain ⟨r, h1, l, ln, h2⟩ := lpL (body := fun s : Int32 × Int32 × SV => f_X8_shortestPath_L74 q x3 (nI hd) s.1 s.2.1 s.2.2)
    (fun k st => ∃ l ln, st.1 = nI l.length ∧ st.2.1 = nI k ∧ PaI w s l ln st.2.2 ∧ (∃ l1, l = l0 ++ l1) ∧ (∀ x ∈ l0, ln x = ln0 x) ∧ (∀ x ∈ l, ln x ≤ ln c + 1) ∧ dnW w l ln c k)
    (fun r => ∃ l ln, r.1 = nI l.length ∧ PaI w s l ln r.2.2 ∧ (∃ l1, l = l0 ++ l1) ∧ (∀ x ∈ l0, ln x = ln0 x) ∧ (∀ x ∈ l, ln x ≤ ln c + 1) ∧ dnW w l ln c 4) 4
    (fun k st hk ⟨l, ln, e1, e2, hb, ⟨l1, hl1⟩, hsm, htp, hdn⟩ => by
      left
      obtain ⟨x, y, sv⟩ := st
      have e1 : x = nI l.length := e1
      have e2 : y = nI k := e2
      have hb : PaI w s l ln sv := hb
      subst e1; subst e2
      have hlen := hb.len
      have hcl0 : l[hd]? = some c := by
        rw [hl1, List.getElem?_append_left hhl]
        exact hc
      have hcm : c ∈ l := List.mem_of_getElem? hcl0
      have hlnc : ln c ≤ 30 := by rw [hsm c hcm0]; exact hlc0
      have hq : sQueue sv (nI hd).toNatClampNeg = nI c := by rw [nI_clamp (by omega)]; exact hb.qu hd c hcl0
      have h4 : ¬ (4 : Int32) ≤ nI k := nI_ge (a := k) (b := 4) hk (by decide)
      obtain ⟨k1, k0⟩ := q_walk hr hi c k hc30 hk
      show ∃ s', f_X8_shortestPath_L74 q x3 (nI hd) (nI l.length) (nI k) sv = _ ∧ _
      by_cases hse : ∃ d, nb c k = some d ∧ WE w c d
      · obtain ⟨d, hnd, hse⟩ := hse
        have hd30 := WE_lt _ _ hse
        have hjd : jIn (enc (nb c k)) 30 := by rw [hnd]; exact nIin hd30 (by decide)
        have hld : (enc (nb c k)).toNatClampNeg = d := by rw [hnd]; exact nI_clamp (by omega)
        have kk := k1 d hnd hse
        by_cases hm : d ∈ l
        · have h9 := htp d hm
          have hne : ¬ sLengths sv d = -1 := by
            rw [(hb.le d hd30).1 hm]
            exact (by decide +kernel : ∀ n : Fin 40, ¬ nI n.val = -1) ⟨ln d, by omega⟩
          refine ⟨(nI l.length, nI (k + 1), sv), ?_, l, ln, rfl, rfl, hb, ⟨l1, hl1⟩, hsm, htp, fun j d' hj he hs' => ?_⟩
          · unfold f_X8_shortestPath_L74 f_X8_shortestPath_J164
            simp only [if_neg h4, if_pos hjq, hq, g_nb c k hc30 hk, ob_s, kk, i10, ↓reduceIte, if_pos hjd, hld, if_neg hne, nI_1]
          · by_cases ej : j = k
            · subst ej; rw [hnd] at he; cases he; exact ⟨hm, htp _ hm⟩
            · exact hdn j d' (by omega) he hs'
        · have hlt : l.length < 271 := by omega
          have hdc : c ≠ d := fun e => hm (e ▸ hcm)
          have hjl : jIn (nI l.length) 271 := nIin hlt (by decide)
          have hll : (nI l.length).toNatClampNeg = l.length := nI_clamp (by omega)
          have hg : ¬ (271 : Int32) ≤ nI l.length := nI_ge (a := l.length) (b := 271) hlt (by decide)
          have hlx : sLengths sv c = nI (ln c) := (hb.le c hc30).1 hcm
          have hnew : ∀ x, x ∈ l → (if x = d then ln c + 1 else ln x) = ln x := fun x hx => if_neg (show ¬ x = d from fun e => hm (e ▸ hx))
          have hec : enc (nb c k) = nI d := by rw [hnd]; rfl
          have kk2 : f_X8_canWalk q (nI c) (nI d) = some 1 := by rw [← hec]; exact kk
          have hjd2 : jIn (nI d) 30 := nIin hd30 (by decide)
          have hld2 : (nI d).toNatClampNeg = d := nI_clamp (by omega)
          have hmem : ∀ x, x ∈ l ++ [d] → x ∈ l ∨ x = d := fun x hx => by
            rcases List.mem_append.mp hx with h | h
            · exact Or.inl h
            · exact Or.inr (List.mem_singleton.mp h)
          refine ⟨(nI (l ++ [d]).length, nI (k + 1), sSQueue (upd (sQueue (sSLengths (upd (sLengths sv) d (nI (ln c + 1))) sv)) l.length (nI d)) (sSLengths (upd (sLengths sv) d (nI (ln c + 1))) sv)), ?_, l ++ [d], fun x => if x = d then ln c + 1 else ln x, rfl, rfl, ?_, ⟨l1 ++ [d], by rw [hl1, List.append_assoc]⟩, fun x hx => ?_, fun x hx => ?_, fun j d' hj he hs' => ?_⟩
          · rw [List.length_append, List.length_singleton]
            unfold f_X8_shortestPath_L74 f_X8_shortestPath_J164
            simp only [if_neg h4, if_pos hjq, hq, g_nb c k hc30 hk, ob_s, hec, kk2, i10, ↓reduceIte, if_pos hjd2, hld2, (hb.le d hd30).2 hm, if_neg hg, if_pos hjc, hlc, hlx, jb_u, if_pos hjl, hll, nI_1]
          · refine ⟨?_, ?_, ⟨List.mem_append_left _ hb.s0.1, ?_⟩, ?_, ?_, ?_, ?_⟩
            · rw [List.nodup_append]
              refine ⟨hb.nd, by simp, fun a ha b hb' => ?_⟩
              rw [List.mem_singleton] at hb'
              subst hb'
              exact fun e => hm (e ▸ ha)
            · intro x hx
              rcases hmem x hx with h | h
              · exact hb.lt x h
              · subst h; exact hd30
            · show (if s = d then ln c + 1 else ln s) = 0
              rw [hnew s hb.s0.1]
              exact hb.s0.2
            · intro x hx
              show wi (WE w) s (if x = d then ln c + 1 else ln x) x
              rcases hmem x hx with h | h
              · rw [hnew x h]; exact hb.wy x h
              · subst h; rw [if_pos rfl]; exact Or.inr ⟨c, hb.wy c hcm, hse⟩
            · intro i j x y hij hx hy
              show (if x = d then ln c + 1 else ln x) ≤ (if y = d then ln c + 1 else ln y)
              have hj := (List.getElem?_eq_some_iff.mp hy).1
              rw [List.length_append, List.length_singleton] at hj
              by_cases ej : j = l.length
              · have hyd : y = d := by
                  rw [ej, List.getElem?_append_right (Nat.le_refl _), Nat.sub_self] at hy
                  cases hy
                  rfl
                rw [if_pos hyd]
                rcases hmem x (List.mem_of_getElem? hx) with h | h
                · rw [hnew x h]; exact htp x h
                · rw [if_pos h]; exact Nat.le_refl _
              · have hi1 : i < l.length := by omega
                have hj1 : j < l.length := by omega
                rw [List.getElem?_append_left hi1] at hx
                rw [List.getElem?_append_left hj1] at hy
                rw [hnew x (List.mem_of_getElem? hx), hnew y (List.mem_of_getElem? hy)]
                exact hb.mo i j x y hij hx hy
            · intro i x hx
              show upd (sQueue sv) l.length (nI d) i = nI x
              by_cases e : i = l.length
              · subst e
                rw [List.getElem?_append_right (Nat.le_refl _), Nat.sub_self] at hx
                cases hx
                rw [upd_at]
              · have hi2 : i < l.length := by
                  have := (List.getElem?_eq_some_iff.mp hx).1
                  rw [List.length_append, List.length_singleton] at this
                  omega
                rw [List.getElem?_append_left hi2] at hx
                rw [upd_ne _ _ e]
                exact hb.qu i x hx
            · intro x hx
              show (_ → upd (sLengths sv) d (nI (ln c + 1)) x = nI (if x = d then ln c + 1 else ln x)) ∧ (_ → upd (sLengths sv) d (nI (ln c + 1)) x = -1)
              by_cases e : x = d
              · subst e
                rw [upd_at, if_pos rfl]
                exact ⟨fun _ => rfl, fun h => absurd (List.mem_append_right _ (List.mem_singleton.mpr rfl)) h⟩
              · rw [upd_ne _ _ e, if_neg e]
                exact ⟨fun h => (hb.le x hx).1 ((hmem x h).resolve_right e), fun h => (hb.le x hx).2 (fun h2 => h (List.mem_append_left _ h2))⟩
          · show (if x = d then ln c + 1 else ln x) = ln0 x
            rw [hnew x (by rw [hl1]; exact List.mem_append_left _ hx)]
            exact hsm x hx
          · show (if x = d then ln c + 1 else ln x) ≤ (if c = d then ln c + 1 else ln c) + 1
            rw [if_neg hdc]
            rcases hmem x hx with h | h
            · rw [hnew x h]; exact htp x h
            · rw [if_pos h]; exact Nat.le_refl _
          · show d' ∈ l ++ [d] ∧ (if d' = d then ln c + 1 else ln d') ≤ (if c = d then ln c + 1 else ln c) + 1
            rw [if_neg hdc]
            by_cases ej : j = k
            · subst ej
              rw [hnd] at he
              cases he
              rw [if_pos rfl]
              exact ⟨List.mem_append_right _ (List.mem_singleton.mpr rfl), Nat.le_refl _⟩
            · obtain ⟨p1, p2⟩ := hdn j d' (by omega) he hs'
              rw [hnew d' p1]
              exact ⟨List.mem_append_left _ p1, p2⟩
      · have kk := k0 (fun d hnd hs' => hse ⟨d, hnd, hs'⟩)
        refine ⟨(nI l.length, nI (k + 1), sv), ?_, l, ln, rfl, rfl, hb, ⟨l1, hl1⟩, hsm, htp, fun j d' hj he hs' => ?_⟩
        · unfold f_X8_shortestPath_L74 f_X8_shortestPath_J164
          simp only [if_neg h4, if_pos hjq, hq, g_nb c k hc30 hk, ob_s, kk, ↓reduceIte, nI_1]
        · by_cases ej : j = k
          · subst ej; exact absurd ⟨d', he, hs'⟩ hse
          · exact hdn j d' (by omega) he hs')
    (fun st ⟨l, ln, e1, e2, hrest⟩ => ⟨st, by
      obtain ⟨x, y, sv⟩ := st
      have e2 : y = nI 4 := e2
      subst e2
      show f_X8_shortestPath_L74 q x3 (nI hd) x (nI 4) sv = _
      unfold f_X8_shortestPath_L74
      rw [if_pos (show (4 : Int32) ≤ nI 4 from Int32.le_refl _)], l, ln, e1, hrest⟩) 5000 0 (nI l0.length, nI 0, sv0) (by omega) (by omega) ⟨l0, ln0, rfl, rfl, h0, ⟨[], (List.append_nil _).symm⟩, fun _ _ => rfl, htop, fun j d hj => absurd hj (Nat.not_lt_zero _)⟩
  obtain ⟨g1, g2, ⟨l1, hl1⟩, g4, g5, g6⟩ := h2
  refine ⟨r, l, ln, h1, g1, g2, by rw [hl1, List.length_append]; omega, by rw [hl1, List.getElem?_append_left hhl]; exact hc, g4 c hcm0, g5, fun i x hi hx => ?_⟩
  by_cases e : i = hd
  · subst e
    rw [hl1, List.getElem?_append_left hhl, hc] at hx
    cases hx
    exact g6
  · have hil : i < l0.length := by omega
    rw [hl1, List.getElem?_append_left hil] at hx
    intro j d hj he hs'
    obtain ⟨p1, p2⟩ := hcl i x (by omega) hx j d hj he hs'
    rw [g4 d p1, g4 x (List.mem_of_getElem? hx)]
    exact ⟨by rw [hl1]; exact List.mem_append_left _ p1, p2⟩
/-- at its end the queue holds all that can be reached, each with the least length -/
theorem pa_all {q : QV} {w : Nat → Int32} {t : Nat} (hr : RelQ q w) (hi : InvW t w) (s : Nat) (hs : s < 30) (x3 : Int32) (sv0 : SV) (h0 : PaI w s [s] (fun _ => 0) sv0) : ∃ (r : Int32 × Int32 × SV) (l : List Nat) (ln : Nat → Nat), jbL (fun s : Int32 × Int32 × SV => f_X8_shortestPath_L54 q x3 s.1 s.2.1 s.2.2) 5000 (1, 0, sv0) = some r ∧ PaI w s l ln r.2.2 ∧ ∀ n x, wi (WE w) s n x → x ∈ l ∧ ln x ≤ n := by
  obtain ⟨r, h1, l, ln, h2, h3⟩ := lpW (body := fun s : Int32 × Int32 × SV => f_X8_shortestPath_L54 q x3 s.1 s.2.1 s.2.2)
    (fun st => ∃ (l : List Nat) (ln : Nat → Nat) (hd : Nat), st.1 = nI l.length ∧ st.2.1 = nI hd ∧ hd ≤ l.length ∧ PaI w s l ln st.2.2 ∧ (∀ c, l[hd]? = some c → ∀ x ∈ l, ln x ≤ ln c + 1) ∧ (∀ x ∈ l, ln x ≤ hd) ∧ ∀ i x, i < hd → l[i]? = some x → dnW w l ln x 4)
    (fun r => ∃ (l : List Nat) (ln : Nat → Nat), PaI w s l ln r.2.2 ∧ ∀ i x, l[i]? = some x → dnW w l ln x 4) (fun st => 100 - vN st.2.1)
    (fun st ⟨l, ln, hd, e1, e2, hle, hb, htop, hbd, hsn⟩ => by
      obtain ⟨x, y, sv⟩ := st
      have e1 : x = nI l.length := e1
      have e2 : y = nI hd := e2
      have hb : PaI w s l ln sv := hb
      subst e1; subst e2
      have hlen := hb.len
      show (∃ s', f_X8_shortestPath_L54 q x3 (nI l.length) (nI hd) sv = _ ∧ _) ∨ _
      by_cases hlt : hd < l.length
      · left
        obtain ⟨c, hc⟩ : ∃ c, l[hd]? = some c := ⟨l[hd], List.getElem?_eq_getElem hlt⟩
        have hcm : c ∈ l := List.mem_of_getElem? hc
        have hb1 := hbd c hcm
        obtain ⟨r, l', ln', k1, k2, k3, k4, k5, k8, k6, k7⟩ := pa_in hr hi s hd c x3 l ln sv hb hc (htop c hc) (by omega) hsn
        have k1' : jbL (fun s : Int32 × Int32 × SV => f_X8_shortestPath_L74 q x3 (nI hd) s.1 s.2.1 s.2.2) 5000 (nI l.length, (0 : Int32), sv) = some r := k1
        have hlc : ln' c ≤ hd := by rw [k8]; exact hb1
        refine ⟨(r.1, nI (hd + 1), r.2.2), ?_, ⟨l', ln', hd + 1, k2, rfl, k4, k3, fun c2 hc2 x hx => ?_, fun x hx => by have := k6 x hx; omega, k7⟩, ?_⟩
        · unfold f_X8_shortestPath_L54
          rw [if_neg (nI_ge hlt (by omega)), if_neg (show ¬ (271 : Int32) ≤ nI hd from nI_ge (a := hd) (b := 271) (by omega) (by decide)), k1']
          simp only [ob_s, nI_1]
        · have p1 := k3.mo hd (hd + 1) c c2 (by omega) k5 hc2
          have p2 := k6 x hx
          omega
        · show 100 - vN (nI (hd + 1)) < 100 - vN (nI hd)
          rw [vN_nI (by omega), vN_nI (by omega)]
          omega
      · right
        have e : hd = l.length := by omega
        subst e
        refine ⟨(nI l.length, nI l.length, sv), ?_, l, ln, hb, fun i x hx => hsn i x (List.getElem?_eq_some_iff.mp hx).1 hx⟩
        show f_X8_shortestPath_L54 q x3 (nI l.length) (nI l.length) sv = _
        unfold f_X8_shortestPath_L54
        rw [if_pos (Int32.le_refl _)]) 5000 (1, 0, sv0) (by show 100 - vN 0 < 5000; omega) ⟨[s], fun _ => 0, 0, rfl, rfl, by simp, h0, fun _ _ _ _ => Nat.zero_le _, fun _ _ => Nat.le_refl _, fun i x hi => absurd hi (Nat.not_lt_zero _)⟩
  refine ⟨r, l, ln, h1, h2, fun n => ?_⟩
  induction n with
  | zero =>
    intro x hx
    have hx : x = s := hx
    subst hx
    exact ⟨h2.s0.1, by rw [h2.s0.2]; exact Nat.le_refl _⟩
  | succ n ih =>
    intro x hx
    rcases hx with hx | ⟨d, hx, e⟩
    · obtain ⟨p1, p2⟩ := ih x hx
      exact ⟨p1, by omega⟩
    · obtain ⟨p1, p2⟩ := ih d hx
      obtain ⟨i, hi⟩ := List.getElem?_of_mem p1
      obtain ⟨_, ⟨k, hk, hn⟩, _⟩ := id e
      obtain ⟨p3, p4⟩ := h3 i d hi k x hk hn e
      exact ⟨p3, by omega⟩
/-- how far, by footpaths -/
def Dist (w : Nat → Int32) (s g : Nat) (r : Int32) : Prop := (w (21 + 7 * s) = 0 ∧ ∃ n, n ≤ 29 ∧ r = nI n ∧ wi (WE w) s n g ∧ ∀ k, wi (WE w) s k g → n ≤ k) ∨ ((w (21 + 7 * s) = 0 → ∀ n, ¬ wi (WE w) s n g) ∧ r = -1)
theorem Dist.un {w : Nat → Int32} {s g : Nat} {r r' : Int32} (h : Dist w s g r) (h' : Dist w s g r') : r = r' := by
  rcases h with ⟨h0, n, h1, h2, h3, h4⟩ | ⟨h1, h2⟩ <;> rcases h' with ⟨k0, m, k1, k2, k3, k4⟩ | ⟨k1, k2⟩
  · have := h4 m k3
    have := k4 n h3
    rw [h2, k2, show n = m by omega]
  · exact absurd h3 (k1 h0 n)
  · exact absurd k3 (h1 k0 m)
  · rw [h2, k2]
theorem q_path {q : QV} {w : Nat → Int32} {t : Nat} (hr : RelQ q w) (hi : InvW t w) (sv : SV) (s g : Nat) (hs : s < 30) (hg : g < 30) : ∃ r sv', f_X8_shortestPath sv q (nI s) (nI g) = some (r, sv') ∧ Dist w s g r := by
  have hjs : jIn (nI s) 30 := nIin hs (by decide)
  have hls : (nI s).toNatClampNeg = s := nI_clamp (by omega)
  have hjg : jIn (nI g) 30 := nIin hg (by decide)
  have hlg : (nI g).toNatClampNeg = g := nI_clamp (by omega)
  obtain ⟨r0, a1, a2⟩ := lpL (body := fun s0 : Int32 × SV => f_X8_shortestPath_L3 q (nI s) (nI g) s0.1 s0.2) (fun k s => s.1 = nI k ∧ ∀ c, c < k → sLengths s.2 c = -1) (fun r => ∀ c, c < 30 → sLengths r.2 c = -1) 30
    (fun k st hk ⟨e, ha⟩ => by
      left
      obtain ⟨x, sv⟩ := st
      have e : x = nI k := e
      subst e
      refine ⟨(nI (k + 1), sSLengths (upd (sLengths sv) k (-1)) sv), ?_, rfl, fun c hc => ?_⟩
      · show f_X8_shortestPath_L3 q (nI s) (nI g) (nI k) sv = _
        unfold f_X8_shortestPath_L3
        rw [if_neg (show ¬ (30 : Int32) ≤ nI k from nI_ge (a := k) (b := 30) hk (by decide)), if_pos (nIin hk (by decide)), nI_clamp (by omega)]
        simp only [jb_u, nI_1]
      · show upd (sLengths sv) k (-1) c = -1
        by_cases e : c = k
        · subst e; rw [upd_at]
        · rw [upd_ne _ _ e]; exact ha c (by omega))
    (fun st ⟨e, ha⟩ => ⟨st, by
      obtain ⟨x, sv⟩ := st
      have e : x = nI 30 := e
      subst e
      show f_X8_shortestPath_L3 q (nI s) (nI g) (nI 30) sv = _
      unfold f_X8_shortestPath_L3
      rw [if_pos (show (30 : Int32) ≤ nI 30 from Int32.le_refl _)], ha⟩) 5000 0 (nI 0, sv) (by omega) (by omega) ⟨rfl, fun c hc => absurd hc (Nat.not_lt_zero _)⟩
  have a1' : jbL (fun s0 : Int32 × SV => f_X8_shortestPath_L3 q (nI s) (nI g) s0.1 s0.2) 5000 ((0 : Int32), sv) = some r0 := a1
  by_cases hl : w (21 + 7 * s) = 0
  · have h0 : PaI w s [s] (fun _ => 0) (sSQueue (upd (sQueue (sSLengths (upd (sLengths r0.2) s 0) r0.2)) 0 (nI s)) (sSLengths (upd (sLengths r0.2) s 0) r0.2)) := by
      refine ⟨by simp, ?_, ⟨by simp, rfl⟩, ?_, fun _ _ _ _ _ _ _ => Nat.le_refl _, ?_, ?_⟩
      · intro x hx; rw [List.mem_singleton] at hx; subst hx; exact hs
      · intro x hx; rw [List.mem_singleton] at hx; subst hx; rfl
      · intro i x hx
        cases i with
        | zero => cases hx; rfl
        | succ i => simp at hx
      · intro x hx
        show (_ → upd (sLengths r0.2) s 0 x = nI 0) ∧ (_ → upd (sLengths r0.2) s 0 x = -1)
        by_cases e : x = s
        · subst e
          rw [upd_at]
          exact ⟨fun _ => rfl, fun h => absurd (List.mem_singleton.mpr rfl) h⟩
        · rw [upd_ne _ _ e]
          exact ⟨fun h => absurd (List.mem_singleton.mp h) e, fun _ => a2 x hx⟩
    obtain ⟨r, l, ln, k1, k2, k3⟩ := pa_all hr hi s hs (nI g) _ h0
    have j0 : jIn (0 : Int32) 271 := nIin (c := 0) (by omega) (by decide)
    refine ⟨sLengths r.2.2 g, r.2.2, ?_, ?_⟩
    · unfold f_X8_shortestPath
      simp only [a1', ob_s, q_ledgeAt hr hi s hs, hl, ↓reduceIte, if_pos hjs, hls, jb_u, if_pos j0, cl0, k1, if_pos hjg, hlg]
    · by_cases hm : g ∈ l
      · left
        have hw := k2.wy g hm
        obtain ⟨_, h29⟩ := k3 29 g (wi_29 hs hw)
        exact ⟨hl, ln g, h29, (k2.le g hg).1 hm, hw, fun k h => (k3 k g h).2⟩
      · right
        exact ⟨fun _ n h => hm (k3 n g h).1, (k2.le g hg).2 hm⟩
  · refine ⟨-1, r0.2, ?_, Or.inr ⟨fun h => absurd h hl, rfl⟩⟩
    unfold f_X8_shortestPath
    simp only [a1', ob_s, q_ledgeAt hr hi s hs, if_neg hl]
