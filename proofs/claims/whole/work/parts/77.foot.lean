/-! ===== footpaths ===== -/
def WE (w : Nat → Int32) (c d : Nat) : Prop := c < 30 ∧ (∃ k, k < 4 ∧ nb c k = some d) ∧ w (21 + 7 * d) = 0 ∧ ¬ 1 < jAbs (w (19 + 7 * c) - w (19 + 7 * d))
theorem WE_lt {w : Nat → Int32} (c d : Nat) (h : WE w c d) : d < 30 := by
  obtain ⟨hc, ⟨k, hk, e⟩, _⟩ := h
  exact nb_lt hc hk e
theorem q_ledgeAt {q : QV} {w : Nat → Int32} {t : Nat} (hr : RelQ q w) (hi : InvW t w) (c : Nat) (hc : c < 30) : f_X7_hasLedgeAt q (nI c) = some (w (21 + 7 * c)) := by
  obtain ⟨n, hn, e⟩ := hi.l c hc
  unfold f_X7_hasLedgeAt
  rw [if_pos (nIin hc (by decide)), nI_clamp (by omega), hr.l c hc, e, if_pos (nar_le1 hn)]
theorem q_walk {q : QV} {w : Nat → Int32} {t : Nat} (hr : RelQ q w) (hi : InvW t w) (c k : Nat) (hc : c < 30) (hk : k < 4) : (∀ d, nb c k = some d → WE w c d → f_X8_canWalk q (nI c) (enc (nb c k)) = some 1) ∧ ((∀ d, nb c k = some d → ¬ WE w c d) → f_X8_canWalk q (nI c) (enc (nb c k)) = some 0) := by
  cases hn : nb c k with
  | none =>
    exact ⟨fun d e => (nomatch e), fun _ => by unfold f_X8_canWalk; rw [if_pos (show enc none = -1 from rfl)]⟩
  | some d =>
    have hd := nb_lt hc hk hn
    have hed : enc (some d) = nI d := rfl
    have hun : f_X8_canWalk q (nI c) (enc (some d)) = if w (21 + 7 * d) = 0 then (if 1 < jAbs (w (19 + 7 * c) - w (19 + 7 * d)) then some 0 else some 1) else some 0 := by
      unfold f_X8_canWalk
      rw [if_neg (enc_ne hd), hed]
      simp only [q_ledgeAt hr hi d hd, q_heightAt hr c hc, q_heightAt hr d hd, ob_s]
    refine ⟨fun d' e h => ?_, fun hno => ?_⟩
    · cases e
      rw [hun, if_pos h.2.2.1, if_neg h.2.2.2]
    · rw [hun]
      by_cases h1 : w (21 + 7 * d) = 0
      · by_cases h2 : 1 < jAbs (w (19 + 7 * c) - w (19 + 7 * d))
        · rw [if_pos h1, if_pos h2]
        · exact absurd ⟨hc, ⟨k, hk, hn⟩, h1, h2⟩ (hno d rfl)
      · rw [if_neg h1]
theorem m_stride {m : MV} (c k : Nat) (hc : c < 30) (hk : k < 4) : (∀ d, nb c (sd k) = some d → WE (mNow m) c d → f_X11_isStride m (nI c) (nI k) = some 1) ∧ ((∀ d, nb c (sd k) = some d → ¬ WE (mNow m) c d) → f_X11_isStride m (nI c) (nI k) = some 0) := by
  have hsd : sd k < 4 := by unfold sd; split <;> omega
  cases hn : nb c (sd k) with
  | none =>
    refine ⟨fun d e => (nomatch e), fun _ => ?_⟩
    unfold f_X11_isStride
    rw [m_nb c k hc hk, hn]
    simp only [ob_s, if_pos (show enc none = -1 from rfl)]
  | some d =>
    have hd := nb_lt hc hsd hn
    have hed : enc (some d) = nI d := rfl
    have hne := enc_ne hd
    have o2 : f_X11_of m (nI d) 2 = some (mNow m (21 + 7 * d)) := by rw [show (2 : Int32) = nI 2 from rfl, m_of d 2 (by omega)]; congr 2; omega
    have o0 : ∀ z, z < 30 → f_X11_of m (nI z) 0 = some (mNow m (19 + 7 * z)) := fun z hz => by rw [show (0 : Int32) = nI 0 from rfl, m_of z 0 (by omega)]; rfl
    have hun : f_X11_isStride m (nI c) (nI k) = if mNow m (21 + 7 * d) = 0 then (if 1 < jAbs (mNow m (19 + 7 * c) - mNow m (19 + 7 * d)) then some 0 else some 1) else some 0 := by
      unfold f_X11_isStride
      rw [m_nb c k hc hk, hn]
      simp only [ob_s, if_neg hne]
      rw [hed]
      simp only [o2, o0 c hc, o0 d hd, ob_s]
    refine ⟨fun d' e h => ?_, fun hno => ?_⟩
    · cases e
      rw [hun, if_pos h.2.2.1, if_neg h.2.2.2]
    · rw [hun]
      by_cases h1 : mNow m (21 + 7 * d) = 0
      · by_cases h2 : 1 < jAbs (mNow m (19 + 7 * c) - mNow m (19 + 7 * d))
        · rw [if_pos h1, if_pos h2]
        · exact absurd ⟨hc, ⟨sd k, hsd, hn⟩, h1, h2⟩ (hno d rfl)
      · rw [if_neg h1]
/-! the program's search: ln tells how far a cell of the queue is -/
abbrev PaI (w : Nat → Int32) (s : Nat) (l : List Nat) (ln : Nat → Nat) (sv : SV) : Prop :=
  (l.Nodup) ∧
  (∀ x ∈ l, x < 30) ∧
  (s ∈ l ∧ ln s = 0) ∧
  (∀ x ∈ l, wi (WE w) s (ln x) x) ∧
  (∀ (i j x y : Nat), i ≤ j → l[i]? = some x → l[j]? = some y → ln x ≤ ln y) ∧
  (Qu sv l) ∧
  (∀ c, c < 30 → (c ∈ l → sLengths sv c = nI (ln c)) ∧ (c ∉ l → sLengths sv c = -1))
theorem PaI.nd {w : Nat → Int32} {s : Nat} {l : List Nat} {ln : Nat → Nat} {sv : SV} (x : PaI w s l ln sv) : l.Nodup := x.1
theorem PaI.lt {w : Nat → Int32} {s : Nat} {l : List Nat} {ln : Nat → Nat} {sv : SV} (x : PaI w s l ln sv) : ∀ x ∈ l, x < 30 := x.2.1
theorem PaI.s0 {w : Nat → Int32} {s : Nat} {l : List Nat} {ln : Nat → Nat} {sv : SV} (x : PaI w s l ln sv) : s ∈ l ∧ ln s = 0 := x.2.2.1
theorem PaI.wy {w : Nat → Int32} {s : Nat} {l : List Nat} {ln : Nat → Nat} {sv : SV} (x : PaI w s l ln sv) : ∀ x ∈ l, wi (WE w) s (ln x) x := x.2.2.2.1
theorem PaI.mo {w : Nat → Int32} {s : Nat} {l : List Nat} {ln : Nat → Nat} {sv : SV} (x : PaI w s l ln sv) : ∀ (i j x y : Nat), i ≤ j → l[i]? = some x → l[j]? = some y → ln x ≤ ln y := x.2.2.2.2.1
theorem PaI.qu {w : Nat → Int32} {s : Nat} {l : List Nat} {ln : Nat → Nat} {sv : SV} (x : PaI w s l ln sv) : Qu sv l := x.2.2.2.2.2.1
theorem PaI.le {w : Nat → Int32} {s : Nat} {l : List Nat} {ln : Nat → Nat} {sv : SV} (x : PaI w s l ln sv) : ∀ c, c < 30 → (c ∈ l → sLengths sv c = nI (ln c)) ∧ (c ∉ l → sLengths sv c = -1) := x.2.2.2.2.2.2
theorem PaI.mk {w : Nat → Int32} {s : Nat} {l : List Nat} {ln : Nat → Nat} {sv : SV} (f_nd : l.Nodup) (f_lt : ∀ x ∈ l, x < 30) (f_s0 : s ∈ l ∧ ln s = 0) (f_wy : ∀ x ∈ l, wi (WE w) s (ln x) x) (f_mo : ∀ (i j x y : Nat), i ≤ j → l[i]? = some x → l[j]? = some y → ln x ≤ ln y) (f_qu : Qu sv l) (f_le : ∀ c, c < 30 → (c ∈ l → sLengths sv c = nI (ln c)) ∧ (c ∉ l → sLengths sv c = -1)) : PaI w s l ln sv := ⟨f_nd, f_lt, f_s0, f_wy, f_mo, f_qu, f_le⟩
theorem PaI.len {w : Nat → Int32} {s : Nat} {l : List Nat} {ln : Nat → Nat} {sv : SV} (h : PaI w s l ln sv) : l.length ≤ 30 := by
  rw [← cnt_list h.nd h.lt]
  exact cnt_le _ _
/-- the length of a way is less than the number of cells -/
theorem wi_29 {w : Nat → Int32} {s x n : Nat} (hs : s < 30) (h : wi (WE w) s n x) : wi (WE w) s 29 x := cn_wi (WE_lt (w := w)) hs ⟨n, h⟩
def dnW (w : Nat → Int32) (l : List Nat) (ln : Nat → Nat) (c k : Nat) : Prop := ∀ j d, j < k → nb c j = some d → WE w c d → d ∈ l ∧ ln d ≤ ln c + 1
theorem pa_in {q : QV} {w : Nat → Int32} {t : Nat} (hr : RelQ q w) (hi : InvW t w) (s hd c : Nat) (x3 : Int32) (l0 : List Nat) (ln0 : Nat → Nat) (sv0 : SV) (h0 : PaI w s l0 ln0 sv0) (hc : l0[hd]? = some c) (htop : ∀ x ∈ l0, ln0 x ≤ ln0 c + 1) (hlc0 : ln0 c ≤ 30)
    (hcl : ∀ i x, i < hd → l0[i]? = some x → dnW w l0 ln0 x 4) : ∃ (r : Int32 × Int32 × SV) (l : List Nat) (ln : Nat → Nat), jbL (fun s : Int32 × Int32 × SV => f_X8_shortestPath_L74 q x3 (nI hd) s.1 s.2.1 s.2.2) 5000 (nI l0.length, nI 0, sv0) = some r ∧ r.1 = nI l.length ∧ PaI w s l ln r.2.2 ∧ hd + 1 ≤ l.length ∧ l[hd]? = some c ∧ ln c = ln0 c ∧ (∀ x ∈ l, ln x ≤ ln c + 1) ∧ ∀ i x, i < hd + 1 → l[i]? = some x → dnW w l ln x 4 := by
  have hhl : hd < l0.length := (List.getElem?_eq_some_iff.mp hc).1
  have hlen0 := h0.len
  have hcm0 : c ∈ l0 := List.mem_of_getElem? hc
  have hc30 : c < 30 := h0.lt c hcm0
  have hjc : jIn (nI c) 30 := nIin hc30 (by decide)
  have hlc : (nI c).toNatClampNeg = c := nI_clamp (by omega)
  have hjq : jIn (nI hd) 271 := nIin (by omega) (by decide)
  obtain ⟨r, h1, l, ln, h2⟩ := lpL (body := fun s : Int32 × Int32 × SV => f_X8_shortestPath_L74 q x3 (nI hd) s.1 s.2.1 s.2.2)
    (fun k st => ∃ l ln, st.1 = nI l.length ∧ st.2.1 = nI k ∧ PaI w s l ln st.2.2 ∧ (∃ l1, l = l0 ++ l1) ∧ (∀ x ∈ l0, ln x = ln0 x) ∧ (∀ x ∈ l, ln x ≤ ln c + 1) ∧ dnW w l ln c k)
    (fun r => ∃ l ln, r.1 = nI l.length ∧ PaI w s l ln r.2.2 ∧ (∃ l1, l = l0 ++ l1) ∧ (∀ x ∈ l0, ln x = ln0 x) ∧ (∀ x ∈ l, ln x ≤ ln c + 1) ∧ dnW w l ln c 4) 4
    (fun k st hk ⟨l, ln, e1, e2, hb, ⟨l1, hl1⟩, hsm, htp, hdn⟩ => by
      left
      obtain ⟨x, y, sv⟩ := st
      have e1 : x = nI l.length := e1
      have e2 : y = nI k := e2
      have hb : PaI w s l ln sv := hb
      subst e1; subst e2
      have hlen := hb.len
      have hcl0 : l[hd]? = some c := by
        rw [hl1, List.getElem?_append_left hhl]
        exact hc
      have hcm : c ∈ l := List.mem_of_getElem? hcl0
      have hlnc : ln c ≤ 30 := by rw [hsm c hcm0]; exact hlc0
      have hq : sQueue sv (nI hd).toNatClampNeg = nI c := by rw [nI_clamp (by omega)]; exact hb.qu hd c hcl0
      have h4 : ¬ (4 : Int32) ≤ nI k := nI_ge (a := k) (b := 4) hk (by decide)
      obtain ⟨k1, k0⟩ := q_walk hr hi c k hc30 hk
      show ∃ s', f_X8_shortestPath_L74 q x3 (nI hd) (nI l.length) (nI k) sv = _ ∧ _
      by_cases hse : ∃ d, nb c k = some d ∧ WE w c d
      · obtain ⟨d, hnd, hse⟩ := hse
        have hd30 := WE_lt _ _ hse
        have hjd : jIn (enc (nb c k)) 30 := by rw [hnd]; exact nIin hd30 (by decide)
        have hld : (enc (nb c k)).toNatClampNeg = d := by rw [hnd]; exact nI_clamp (by omega)
        have kk := k1 d hnd hse
        by_cases hm : d ∈ l
        · have h9 := htp d hm
          have hne : ¬ sLengths sv d = -1 := by
            rw [(hb.le d hd30).1 hm]
            exact (by decide +kernel : ∀ n : Fin 40, ¬ nI n.val = -1) ⟨ln d, by omega⟩
          refine ⟨(nI l.length, nI (k + 1), sv), ?_, l, ln, rfl, rfl, hb, ⟨l1, hl1⟩, hsm, htp, fun j d' hj he hs' => ?_⟩
          · unfold f_X8_shortestPath_L74 f_X8_shortestPath_J164
            simp only [if_neg h4, if_pos hjq, hq, g_nb c k hc30 hk, ob_s, kk, i10, ↓reduceIte, if_pos hjd, hld, if_neg hne, nI_1]
          · by_cases ej : j = k
            · subst ej; rw [hnd] at he; cases he; exact ⟨hm, htp _ hm⟩
            · exact hdn j d' (by omega) he hs'
        · have hlt : l.length < 271 := by omega
          have hdc : c ≠ d := fun e => hm (e ▸ hcm)
          have hjl : jIn (nI l.length) 271 := nIin hlt (by decide)
          have hll : (nI l.length).toNatClampNeg = l.length := nI_clamp (by omega)
          have hg : ¬ (271 : Int32) ≤ nI l.length := nI_ge (a := l.length) (b := 271) hlt (by decide)
          have hlx : sLengths sv c = nI (ln c) := (hb.le c hc30).1 hcm
          have hnew : ∀ x, x ∈ l → (if x = d then ln c + 1 else ln x) = ln x := fun x hx => if_neg (show ¬ x = d from fun e => hm (e ▸ hx))
          have hec : enc (nb c k) = nI d := by rw [hnd]; rfl
          have kk2 : f_X8_canWalk q (nI c) (nI d) = some 1 := by rw [← hec]; exact kk
          have hjd2 : jIn (nI d) 30 := nIin hd30 (by decide)
          have hld2 : (nI d).toNatClampNeg = d := nI_clamp (by omega)
          have hmem : ∀ x, x ∈ l ++ [d] → x ∈ l ∨ x = d := fun x hx => by
            rcases List.mem_append.mp hx with h | h
            · exact Or.inl h
            · exact Or.inr (List.mem_singleton.mp h)
          refine ⟨(nI (l ++ [d]).length, nI (k + 1), sSQueue (upd (sQueue (sSLengths (upd (sLengths sv) d (nI (ln c + 1))) sv)) l.length (nI d)) (sSLengths (upd (sLengths sv) d (nI (ln c + 1))) sv)), ?_, l ++ [d], fun x => if x = d then ln c + 1 else ln x, rfl, rfl, ?_, ⟨l1 ++ [d], by rw [hl1, List.append_assoc]⟩, fun x hx => ?_, fun x hx => ?_, fun j d' hj he hs' => ?_⟩
          · rw [List.length_append, List.length_singleton]
            unfold f_X8_shortestPath_L74 f_X8_shortestPath_J164
            simp only [if_neg h4, if_pos hjq, hq, g_nb c k hc30 hk, ob_s, hec, kk2, i10, ↓reduceIte, if_pos hjd2, hld2, (hb.le d hd30).2 hm, if_neg hg, if_pos hjc, hlc, hlx, jb_u, if_pos hjl, hll, nI_1]
          · refine ⟨?_, ?_, ⟨List.mem_append_left _ hb.s0.1, ?_⟩, ?_, ?_, ?_, ?_⟩
            · rw [List.nodup_append]
              refine ⟨hb.nd, by simp, fun a ha b hb' => ?_⟩
              rw [List.mem_singleton] at hb'
              subst hb'
              exact fun e => hm (e ▸ ha)
            · intro x hx
              rcases hmem x hx with h | h
              · exact hb.lt x h
              · subst h; exact hd30
            · show (if s = d then ln c + 1 else ln s) = 0
              rw [hnew s hb.s0.1]
              exact hb.s0.2
            · intro x hx
              show wi (WE w) s (if x = d then ln c + 1 else ln x) x
              rcases hmem x hx with h | h
              · rw [hnew x h]; exact hb.wy x h
              · subst h; rw [if_pos rfl]; exact Or.inr ⟨c, hb.wy c hcm, hse⟩
            · intro i j x y hij hx hy
              show (if x = d then ln c + 1 else ln x) ≤ (if y = d then ln c + 1 else ln y)
              have hj := (List.getElem?_eq_some_iff.mp hy).1
              rw [List.length_append, List.length_singleton] at hj
              by_cases ej : j = l.length
              · have hyd : y = d := by
                  rw [ej, List.getElem?_append_right (Nat.le_refl _), Nat.sub_self] at hy
                  cases hy
                  rfl
                rw [if_pos hyd]
                rcases hmem x (List.mem_of_getElem? hx) with h | h
                · rw [hnew x h]; exact htp x h
                · rw [if_pos h]; exact Nat.le_refl _
              · have hi1 : i < l.length := by omega
                have hj1 : j < l.length := by omega
                rw [List.getElem?_append_left hi1] at hx
                rw [List.getElem?_append_left hj1] at hy
                rw [hnew x (List.mem_of_getElem? hx), hnew y (List.mem_of_getElem? hy)]
                exact hb.mo i j x y hij hx hy
            · intro i x hx
              show upd (sQueue sv) l.length (nI d) i = nI x
              by_cases e : i = l.length
              · subst e
                rw [List.getElem?_append_right (Nat.le_refl _), Nat.sub_self] at hx
                cases hx
                rw [upd_at]
              · have hi2 : i < l.length := by
                  have := (List.getElem?_eq_some_iff.mp hx).1
                  rw [List.length_append, List.length_singleton] at this
                  omega
                rw [List.getElem?_append_left hi2] at hx
                rw [upd_ne _ _ e]
                exact hb.qu i x hx
            · intro x hx
              show (_ → upd (sLengths sv) d (nI (ln c + 1)) x = nI (if x = d then ln c + 1 else ln x)) ∧ (_ → upd (sLengths sv) d (nI (ln c + 1)) x = -1)
              by_cases e : x = d
              · subst e
                rw [upd_at, if_pos rfl]
                exact ⟨fun _ => rfl, fun h => absurd (List.mem_append_right _ (List.mem_singleton.mpr rfl)) h⟩
              · rw [upd_ne _ _ e, if_neg e]
                exact ⟨fun h => (hb.le x hx).1 ((hmem x h).resolve_right e), fun h => (hb.le x hx).2 (fun h2 => h (List.mem_append_left _ h2))⟩
          · show (if x = d then ln c + 1 else ln x) = ln0 x
            rw [hnew x (by rw [hl1]; exact List.mem_append_left _ hx)]
            exact hsm x hx
          · show (if x = d then ln c + 1 else ln x) ≤ (if c = d then ln c + 1 else ln c) + 1
            rw [if_neg hdc]
            rcases hmem x hx with h | h
            · rw [hnew x h]; exact htp x h
            · rw [if_pos h]; exact Nat.le_refl _
          · show d' ∈ l ++ [d] ∧ (if d' = d then ln c + 1 else ln d') ≤ (if c = d then ln c + 1 else ln c) + 1
            rw [if_neg hdc]
            by_cases ej : j = k
            · subst ej
              rw [hnd] at he
              cases he
              rw [if_pos rfl]
              exact ⟨List.mem_append_right _ (List.mem_singleton.mpr rfl), Nat.le_refl _⟩
            · obtain ⟨p1, p2⟩ := hdn j d' (by omega) he hs'
              rw [hnew d' p1]
              exact ⟨List.mem_append_left _ p1, p2⟩
      · have kk := k0 (fun d hnd hs' => hse ⟨d, hnd, hs'⟩)
        refine ⟨(nI l.length, nI (k + 1), sv), ?_, l, ln, rfl, rfl, hb, ⟨l1, hl1⟩, hsm, htp, fun j d' hj he hs' => ?_⟩
        · unfold f_X8_shortestPath_L74 f_X8_shortestPath_J164
          simp only [if_neg h4, if_pos hjq, hq, g_nb c k hc30 hk, ob_s, kk, ↓reduceIte, nI_1]
        · by_cases ej : j = k
          · subst ej; exact absurd ⟨d', he, hs'⟩ hse
          · exact hdn j d' (by omega) he hs')
    (fun st ⟨l, ln, e1, e2, hrest⟩ => ⟨st, by
      obtain ⟨x, y, sv⟩ := st
      have e2 : y = nI 4 := e2
      subst e2
      show f_X8_shortestPath_L74 q x3 (nI hd) x (nI 4) sv = _
      unfold f_X8_shortestPath_L74
      rw [if_pos (show (4 : Int32) ≤ nI 4 from Int32.le_refl _)], l, ln, e1, hrest⟩) 5000 0 (nI l0.length, nI 0, sv0) (by omega) (by omega) ⟨l0, ln0, rfl, rfl, h0, ⟨[], (List.append_nil _).symm⟩, fun _ _ => rfl, htop, fun j d hj => absurd hj (Nat.not_lt_zero _)⟩
  obtain ⟨g1, g2, ⟨l1, hl1⟩, g4, g5, g6⟩ := h2
  refine ⟨r, l, ln, h1, g1, g2, by rw [hl1, List.length_append]; omega, by rw [hl1, List.getElem?_append_left hhl]; exact hc, g4 c hcm0, g5, fun i x hi hx => ?_⟩
  by_cases e : i = hd
  · subst e
    rw [hl1, List.getElem?_append_left hhl, hc] at hx
    cases hx
    exact g6
  · have hil : i < l0.length := by omega
    rw [hl1, List.getElem?_append_left hil] at hx
    intro j d hj he hs'
    obtain ⟨p1, p2⟩ := hcl i x (by omega) hx j d hj he hs'
    rw [g4 d p1, g4 x (List.mem_of_getElem? hx)]
    exact ⟨by rw [hl1]; exact List.mem_append_left _ p1, p2⟩
/-- at its end the queue holds all that can be reached, each with the least length -/
theorem pa_all {q : QV} {w : Nat → Int32} {t : Nat} (hr : RelQ q w) (hi : InvW t w) (s : Nat) (hs : s < 30) (x3 : Int32) (sv0 : SV) (h0 : PaI w s [s] (fun _ => 0) sv0) : ∃ (r : Int32 × Int32 × SV) (l : List Nat) (ln : Nat → Nat), jbL (fun s : Int32 × Int32 × SV => f_X8_shortestPath_L54 q x3 s.1 s.2.1 s.2.2) 5000 (1, 0, sv0) = some r ∧ PaI w s l ln r.2.2 ∧ ∀ n x, wi (WE w) s n x → x ∈ l ∧ ln x ≤ n := by
  obtain ⟨r, h1, l, ln, h2, h3⟩ := lpW (body := fun s : Int32 × Int32 × SV => f_X8_shortestPath_L54 q x3 s.1 s.2.1 s.2.2)
    (fun st => ∃ (l : List Nat) (ln : Nat → Nat) (hd : Nat), st.1 = nI l.length ∧ st.2.1 = nI hd ∧ hd ≤ l.length ∧ PaI w s l ln st.2.2 ∧ (∀ c, l[hd]? = some c → ∀ x ∈ l, ln x ≤ ln c + 1) ∧ (∀ x ∈ l, ln x ≤ hd) ∧ ∀ i x, i < hd → l[i]? = some x → dnW w l ln x 4)
    (fun r => ∃ (l : List Nat) (ln : Nat → Nat), PaI w s l ln r.2.2 ∧ ∀ i x, l[i]? = some x → dnW w l ln x 4) (fun st => 100 - vN st.2.1)
    (fun st ⟨l, ln, hd, e1, e2, hle, hb, htop, hbd, hsn⟩ => by
      obtain ⟨x, y, sv⟩ := st
      have e1 : x = nI l.length := e1
      have e2 : y = nI hd := e2
      have hb : PaI w s l ln sv := hb
      subst e1; subst e2
      have hlen := hb.len
      show (∃ s', f_X8_shortestPath_L54 q x3 (nI l.length) (nI hd) sv = _ ∧ _) ∨ _
      by_cases hlt : hd < l.length
      · left
        obtain ⟨c, hc⟩ : ∃ c, l[hd]? = some c := ⟨l[hd], List.getElem?_eq_getElem hlt⟩
        have hcm : c ∈ l := List.mem_of_getElem? hc
        have hb1 := hbd c hcm
        obtain ⟨r, l', ln', k1, k2, k3, k4, k5, k8, k6, k7⟩ := pa_in hr hi s hd c x3 l ln sv hb hc (htop c hc) (by omega) hsn
        have k1' : jbL (fun s : Int32 × Int32 × SV => f_X8_shortestPath_L74 q x3 (nI hd) s.1 s.2.1 s.2.2) 5000 (nI l.length, (0 : Int32), sv) = some r := k1
        have hlc : ln' c ≤ hd := by rw [k8]; exact hb1
        refine ⟨(r.1, nI (hd + 1), r.2.2), ?_, ⟨l', ln', hd + 1, k2, rfl, k4, k3, fun c2 hc2 x hx => ?_, fun x hx => by have := k6 x hx; omega, k7⟩, ?_⟩
        · unfold f_X8_shortestPath_L54
          rw [if_neg (nI_ge hlt (by omega)), if_neg (show ¬ (271 : Int32) ≤ nI hd from nI_ge (a := hd) (b := 271) (by omega) (by decide)), k1']
          simp only [ob_s, nI_1]
        · have p1 := k3.mo hd (hd + 1) c c2 (by omega) k5 hc2
          have p2 := k6 x hx
          omega
        · show 100 - vN (nI (hd + 1)) < 100 - vN (nI hd)
          rw [vN_nI (by omega), vN_nI (by omega)]
          omega
      · right
        have e : hd = l.length := by omega
        subst e
        refine ⟨(nI l.length, nI l.length, sv), ?_, l, ln, hb, fun i x hx => hsn i x (List.getElem?_eq_some_iff.mp hx).1 hx⟩
        show f_X8_shortestPath_L54 q x3 (nI l.length) (nI l.length) sv = _
        unfold f_X8_shortestPath_L54
        rw [if_pos (Int32.le_refl _)]) 5000 (1, 0, sv0) (by show 100 - vN 0 < 5000; omega) ⟨[s], fun _ => 0, 0, rfl, rfl, by simp, h0, fun _ _ _ _ => Nat.zero_le _, fun _ _ => Nat.le_refl _, fun i x hi => absurd hi (Nat.not_lt_zero _)⟩
  refine ⟨r, l, ln, h1, h2, fun n => ?_⟩
  induction n with
  | zero =>
    intro x hx
    have hx : x = s := hx
    subst hx
    exact ⟨h2.s0.1, by rw [h2.s0.2]; exact Nat.le_refl _⟩
  | succ n ih =>
    intro x hx
    rcases hx with hx | ⟨d, hx, e⟩
    · obtain ⟨p1, p2⟩ := ih x hx
      exact ⟨p1, by omega⟩
    · obtain ⟨p1, p2⟩ := ih d hx
      obtain ⟨i, hi⟩ := List.getElem?_of_mem p1
      obtain ⟨_, ⟨k, hk, hn⟩, _⟩ := id e
      obtain ⟨p3, p4⟩ := h3 i d hi k x hk hn e
      exact ⟨p3, by omega⟩
/-- how far, by footpaths -/
def Dist (w : Nat → Int32) (s g : Nat) (r : Int32) : Prop := (w (21 + 7 * s) = 0 ∧ ∃ n, n ≤ 29 ∧ r = nI n ∧ wi (WE w) s n g ∧ ∀ k, wi (WE w) s k g → n ≤ k) ∨ ((w (21 + 7 * s) = 0 → ∀ n, ¬ wi (WE w) s n g) ∧ r = -1)
theorem Dist.un {w : Nat → Int32} {s g : Nat} {r r' : Int32} (h : Dist w s g r) (h' : Dist w s g r') : r = r' := by
  rcases h with ⟨h0, n, h1, h2, h3, h4⟩ | ⟨h1, h2⟩ <;> rcases h' with ⟨k0, m, k1, k2, k3, k4⟩ | ⟨k1, k2⟩
  · have := h4 m k3
    have := k4 n h3
    rw [h2, k2, show n = m by omega]
  · exact absurd h3 (k1 h0 n)
  · exact absurd k3 (h1 k0 m)
  · rw [h2, k2]
theorem q_path {q : QV} {w : Nat → Int32} {t : Nat} (hr : RelQ q w) (hi : InvW t w) (sv : SV) (s g : Nat) (hs : s < 30) (hg : g < 30) : ∃ r sv', f_X8_shortestPath sv q (nI s) (nI g) = some (r, sv') ∧ Dist w s g r := by
  have hjs : jIn (nI s) 30 := nIin hs (by decide)
  have hls : (nI s).toNatClampNeg = s := nI_clamp (by omega)
  have hjg : jIn (nI g) 30 := nIin hg (by decide)
  have hlg : (nI g).toNatClampNeg = g := nI_clamp (by omega)
  obtain ⟨r0, a1, a2⟩ := lpL (body := fun s0 : Int32 × SV => f_X8_shortestPath_L3 q (nI s) (nI g) s0.1 s0.2) (fun k s => s.1 = nI k ∧ ∀ c, c < k → sLengths s.2 c = -1) (fun r => ∀ c, c < 30 → sLengths r.2 c = -1) 30
    (fun k st hk ⟨e, ha⟩ => by
      left
      obtain ⟨x, sv⟩ := st
      have e : x = nI k := e
      subst e
      refine ⟨(nI (k + 1), sSLengths (upd (sLengths sv) k (-1)) sv), ?_, rfl, fun c hc => ?_⟩
      · show f_X8_shortestPath_L3 q (nI s) (nI g) (nI k) sv = _
        unfold f_X8_shortestPath_L3
        rw [if_neg (show ¬ (30 : Int32) ≤ nI k from nI_ge (a := k) (b := 30) hk (by decide)), if_pos (nIin hk (by decide)), nI_clamp (by omega)]
        simp only [jb_u, nI_1]
      · show upd (sLengths sv) k (-1) c = -1
        by_cases e : c = k
        · subst e; rw [upd_at]
        · rw [upd_ne _ _ e]; exact ha c (by omega))
    (fun st ⟨e, ha⟩ => ⟨st, by
      obtain ⟨x, sv⟩ := st
      have e : x = nI 30 := e
      subst e
      show f_X8_shortestPath_L3 q (nI s) (nI g) (nI 30) sv = _
      unfold f_X8_shortestPath_L3
      rw [if_pos (show (30 : Int32) ≤ nI 30 from Int32.le_refl _)], ha⟩) 5000 0 (nI 0, sv) (by omega) (by omega) ⟨rfl, fun c hc => absurd hc (Nat.not_lt_zero _)⟩
  have a1' : jbL (fun s0 : Int32 × SV => f_X8_shortestPath_L3 q (nI s) (nI g) s0.1 s0.2) 5000 ((0 : Int32), sv) = some r0 := a1
  by_cases hl : w (21 + 7 * s) = 0
  · have h0 : PaI w s [s] (fun _ => 0) (sSQueue (upd (sQueue (sSLengths (upd (sLengths r0.2) s 0) r0.2)) 0 (nI s)) (sSLengths (upd (sLengths r0.2) s 0) r0.2)) := by
      refine ⟨by simp, ?_, ⟨by simp, rfl⟩, ?_, fun _ _ _ _ _ _ _ => Nat.le_refl _, ?_, ?_⟩
      · intro x hx; rw [List.mem_singleton] at hx; subst hx; exact hs
      · intro x hx; rw [List.mem_singleton] at hx; subst hx; rfl
      · intro i x hx
        cases i with
        | zero => cases hx; rfl
        | succ i => simp at hx
      · intro x hx
        show (_ → upd (sLengths r0.2) s 0 x = nI 0) ∧ (_ → upd (sLengths r0.2) s 0 x = -1)
        by_cases e : x = s
        · subst e
          rw [upd_at]
          exact ⟨fun _ => rfl, fun h => absurd (List.mem_singleton.mpr rfl) h⟩
        · rw [upd_ne _ _ e]
          exact ⟨fun h => absurd (List.mem_singleton.mp h) e, fun _ => a2 x hx⟩
    obtain ⟨r, l, ln, k1, k2, k3⟩ := pa_all hr hi s hs (nI g) _ h0
    have j0 : jIn (0 : Int32) 271 := nIin (c := 0) (by omega) (by decide)
    refine ⟨sLengths r.2.2 g, r.2.2, ?_, ?_⟩
    · unfold f_X8_shortestPath
      simp only [a1', ob_s, q_ledgeAt hr hi s hs, hl, ↓reduceIte, if_pos hjs, hls, jb_u, if_pos j0, cl0, k1, if_pos hjg, hlg]
    · by_cases hm : g ∈ l
      · left
        have hw := k2.wy g hm
        obtain ⟨_, h29⟩ := k3 29 g (wi_29 hs hw)
        exact ⟨hl, ln g, h29, (k2.le g hg).1 hm, hw, fun k h => (k3 k g h).2⟩
      · right
        exact ⟨fun _ n h => hm (k3 n g h).1, (k2.le g hg).2 hm⟩
  · refine ⟨-1, r0.2, ?_, Or.inr ⟨fun h => absurd h hl, rfl⟩⟩
    unfold f_X8_shortestPath
    simp only [a1', ob_s, q_ledgeAt hr hi s hs, if_neg hl]
/-! the reference's levels -/
def LeM (V : Nat → Prop) (ln : Nat → Nat) (m : MV) : Prop := ∀ c, c < 30 → (V c → mMarks m c = nI (ln c)) ∧ (¬ V c → mMarks m c = -1)
def WyM (w : Nat → Int32) (s : Nat) (V : Nat → Prop) (ln : Nat → Nat) : Prop := ∀ c, V c → wi (WE w) s (ln c) c ∧ c < 30 ∧ w (21 + 7 * s) = 0
theorem m_strides (m : MV) (s n c : Nat) (hc : c < 30) (hn : n < 30) (V0 V : Nat → Prop) (ln : Nat → Nat) (hsub : ∀ x, V0 x → V x) (hnew : ∀ x, ¬ V0 x → ln x = n + 1) (hln : ∀ x, ln x ≤ n + 1) (hle : LeM V ln m) (hwy : WyM (mNow m) s V ln) :
    ∃ m' V', f_X11_strides m (nI c) (nI n) = some m' ∧ Kept m m' ∧ mThrown m' = mThrown m ∧ (∀ x, V x → V' x) ∧ LeM V' ln m' ∧ WyM (mNow m) s V' ln ∧ (V c → ln c = n → ∀ d, WE (mNow m) c d → V' d) := by
  have hjc : jIn (nI c) 30 := nIin hc (by decide)
  have hlc : (nI c).toNatClampNeg = c := nI_clamp (by omega)
  obtain ⟨r, h1, V', h2⟩ := lpL (body := fun s : Int32 × MV => f_X11_strides_L2 (nI c) (nI n) s.1 s.2)
    (fun k st => ∃ V', st.1 = nI k ∧ Kept m st.2 ∧ mThrown st.2 = mThrown m ∧ (∀ x, V x → V' x) ∧ LeM V' ln st.2 ∧ WyM (mNow m) s V' ln ∧ (V' c → V c ∨ ¬ ln c = n) ∧ ∀ j d, j < k → nb c (sd j) = some d → WE (mNow m) c d → V' d)
    (fun r => ∃ V', Kept m r.2 ∧ mThrown r.2 = mThrown m ∧ (∀ x, V x → V' x) ∧ LeM V' ln r.2 ∧ WyM (mNow m) s V' ln ∧ (V c → ln c = n → ∀ d, WE (mNow m) c d → V' d)) 4
    (fun k st hk ⟨V', e1, kp, et, hs1, hl, hwy', hcV, hsn⟩ => by
      obtain ⟨x, m1⟩ := st
      have e1 : x = nI k := e1
      have kp : Kept m m1 := kp
      have et : mThrown m1 = mThrown m := et
      have hl : LeM V' ln m1 := hl
      subst e1
      have hsd : sd k < 4 := by unfold sd; split <;> omega
      have h4 : ¬ (4 : Int32) ≤ nI k := nI_ge (a := k) (b := 4) hk (by decide)
      obtain ⟨k1, k0⟩ := m_stride (m := m1) c k hc hk
      rw [kp.now] at k1 k0
      show (∃ s', f_X11_strides_L2 (nI c) (nI n) (nI k) m1 = _ ∧ _) ∨ (∃ r, f_X11_strides_L2 (nI c) (nI n) (nI k) m1 = _ ∧ _)
      by_cases hgo : V' c ∧ ln c = n
      · left
        have hmc : mMarks m1 c = nI n := by rw [(hl c hc).1 hgo.1, hgo.2]
        by_cases hse : ∃ d, nb c (sd k) = some d ∧ WE (mNow m) c d
        · obtain ⟨d, hnd, hse⟩ := hse
          have hd30 := WE_lt _ _ hse
          have hec : enc (nb c (sd k)) = nI d := by rw [hnd]; rfl
          have hjd : jIn (nI d) 30 := nIin hd30 (by decide)
          have hld : (nI d).toNatClampNeg = d := nI_clamp (by omega)
          have kk := k1 d hnd hse
          by_cases hd : V' d
          · have hne : ¬ mMarks m1 d = -1 := by
              rw [(hl d hd30).1 hd]
              have := hln d
              exact (by decide +kernel : ∀ n : Fin 40, ¬ nI n.val = -1) ⟨ln d, by omega⟩
            refine ⟨(nI (k + 1), m1), ?_, V', rfl, kp, et, hs1, hl, hwy', hcV, fun j d' hj he hs' => ?_⟩
            · unfold f_X11_strides_L2 f_X11_strides_J54
              simp only [if_neg h4, if_pos hjc, hlc, hmc, ↓reduceIte, m_nb c k hc hk, ob_s, kk, i10, hec, if_pos hjd, hld, if_neg hne, nI_1]
            · by_cases ej : j = k
              · subst ej; rw [hnd] at he; cases he; exact hd
              · exact hsn j d' (by omega) he hs'
          · have hd0 : ¬ V0 d := fun h => hd (hs1 d (hsub d h))
            have hdc : c ≠ d := fun e => hd (e ▸ hgo.1)
            refine ⟨(nI (k + 1), mSMarks (upd (mMarks m1) d (nI (n + 1))) m1), ?_, fun x => V' x ∨ x = d, rfl, kp.tr (Kept.marks _ _), et, fun x hx => Or.inl (hs1 x hx), fun x hx => ?_, fun x hx => ?_, fun h => hcV (h.resolve_right hdc), fun j d' hj he hs' => ?_⟩
            · unfold f_X11_strides_L2 f_X11_strides_J54
              simp only [if_neg h4, if_pos hjc, hlc, hmc, ↓reduceIte, m_nb c k hc hk, ob_s, kk, i10, hec, if_pos hjd, hld, (hl d hd30).2 hd, jb_u, nI_1]
            · show (_ → upd (mMarks m1) d (nI (n + 1)) x = nI (ln x)) ∧ (_ → upd (mMarks m1) d (nI (n + 1)) x = -1)
              by_cases e : x = d
              · subst e
                rw [upd_at, hnew x hd0]
                exact ⟨fun _ => rfl, fun h => absurd (Or.inr rfl) h⟩
              · rw [upd_ne _ _ e]
                exact ⟨fun h => (hl x hx).1 (h.resolve_right e), fun h => (hl x hx).2 (fun h2 => h (Or.inl h2))⟩
            · rcases hx with hx | hx
              · exact hwy' x hx
              · subst hx
                have p := hwy' c hgo.1
                rw [hgo.2] at p
                exact ⟨by rw [hnew x hd0]; exact Or.inr ⟨c, p.1, hse⟩, hd30, p.2.2⟩
            · by_cases ej : j = k
              · subst ej; rw [hnd] at he; cases he; exact Or.inr rfl
              · exact Or.inl (hsn j d' (by omega) he hs')
        · have kk := k0 (fun d hnd hs' => hse ⟨d, hnd, hs'⟩)
          refine ⟨(nI (k + 1), m1), ?_, V', rfl, kp, et, hs1, hl, hwy', hcV, fun j d' hj he hs' => ?_⟩
          · unfold f_X11_strides_L2 f_X11_strides_J54
            simp only [if_neg h4, if_pos hjc, hlc, hmc, ↓reduceIte, m_nb c k hc hk, ob_s, kk, nI_1]
          · by_cases ej : j = k
            · subst ej; exact absurd ⟨d', he, hs'⟩ hse
            · exact hsn j d' (by omega) he hs'
      · right
        have hne : ¬ mMarks m1 c = nI n := by
          by_cases hv : V' c
          · rw [(hl c hc).1 hv]
            have := hln c
            rw [nI_eq (by omega) (by omega)]
            exact fun h => hgo ⟨hv, h⟩
          · rw [(hl c hc).2 hv]
            exact fun h => nI_ne_m1 hn h.symm
        refine ⟨(nI k, m1), ?_, V', kp, et, hs1, hl, hwy', fun hv hn2 => absurd ⟨hs1 c hv, hn2⟩ hgo⟩
        unfold f_X11_strides_L2
        simp only [if_neg h4, if_pos hjc, hlc, if_neg hne])
    (fun st ⟨V', e1, kp, et, hs1, hl, hwy', hcV, hsn⟩ => ⟨st, by
      obtain ⟨x, m1⟩ := st
      have e1 : x = nI 4 := e1
      subst e1
      show f_X11_strides_L2 (nI c) (nI n) (nI 4) m1 = _
      unfold f_X11_strides_L2
      rw [if_pos (show (4 : Int32) ≤ nI 4 from Int32.le_refl _)], V', kp, et, hs1, hl, hwy', fun _ _ d hs => by
        obtain ⟨_, ⟨k, hk, hn⟩, _⟩ := id hs
        obtain ⟨j, hj, ej⟩ : ∃ j, j < 4 ∧ sd j = k := by
          rcases (show k = 0 ∨ k = 1 ∨ k = 2 ∨ k = 3 by omega) with rfl | rfl | rfl | rfl
          · exact ⟨0, by omega, rfl⟩
          · exact ⟨3, by omega, rfl⟩
          · exact ⟨1, by omega, rfl⟩
          · exact ⟨2, by omega, rfl⟩
        exact hsn j d hj (by rw [ej]; exact hn) hs⟩) 5000 0 (nI 0, m) (by omega) (by omega) ⟨V, rfl, Kept.rf m, rfl, fun _ h => h, hle, hwy, fun h => Or.inl h, fun j d hj => absurd hj (Nat.not_lt_zero _)⟩
  have h1' : jbL (fun s : Int32 × MV => f_X11_strides_L2 (nI c) (nI n) s.1 s.2) 5000 ((0 : Int32), m) = some r := h1
  refine ⟨r.2, V', ?_, h2⟩
  unfold f_X11_strides
  simp only [h1', ob_s]
def AlM (w : Nat → Int32) (s n : Nat) (V : Nat → Prop) (ln : Nat → Nat) : Prop := w (21 + 7 * s) = 0 → ∀ j c, j ≤ n → wi (WE w) s j c → V c ∧ ln c ≤ j
theorem m_level (m : MV) (s n : Nat) (hs : s < 30) (hn : n < 30) (V0 : Nat → Prop) (ln0 : Nat → Nat) (hln0 : ∀ x, V0 x → ln0 x ≤ n) (hle0 : LeM V0 ln0 m) (hwy0 : WyM (mNow m) s V0 ln0) (hal0 : AlM (mNow m) s n V0 ln0) :
    ∃ (r : Int32 × MV) (V : Nat → Prop) (ln : Nat → Nat), jbL (fun s : Int32 × MV => f_X11_measures_L49 (nI n) s.1 s.2) 5000 (0, m) = some r ∧ Kept m r.2 ∧ mThrown r.2 = mThrown m ∧ (∀ x, V x → ln x ≤ n + 1) ∧ LeM V ln r.2 ∧ WyM (mNow m) s V ln ∧ AlM (mNow m) s (n + 1) V ln := by
  obtain ⟨ln, hl1, hl2⟩ : ∃ ln : Nat → Nat, (∀ x, V0 x → ln x = ln0 x) ∧ ∀ x, ¬ V0 x → ln x = n + 1 :=
    ⟨fun x => if dcd (V0 x) = true then ln0 x else n + 1, fun x h => if_pos (dcd_t.mpr h), fun x h => if_neg (fun q => h (dcd_t.mp q))⟩
  have hln : ∀ x, ln x ≤ n + 1 := fun x => by
    by_cases h : V0 x
    · rw [hl1 x h]; have := hln0 x h; omega
    · rw [hl2 x h]; exact Nat.le_refl _
  obtain ⟨r, h1, V, h2⟩ := lpL (body := fun s : Int32 × MV => f_X11_measures_L49 (nI n) s.1 s.2)
    (fun k st => ∃ V, st.1 = nI k ∧ Kept m st.2 ∧ mThrown st.2 = mThrown m ∧ (∀ x, V0 x → V x) ∧ LeM V ln st.2 ∧ WyM (mNow m) s V ln ∧ ∀ c, c < k → V0 c → ln c = n → ∀ d, WE (mNow m) c d → V d)
    (fun r => ∃ V, Kept m r.2 ∧ mThrown r.2 = mThrown m ∧ (∀ x, V0 x → V x) ∧ LeM V ln r.2 ∧ WyM (mNow m) s V ln ∧ ∀ c, c < 30 → V0 c → ln c = n → ∀ d, WE (mNow m) c d → V d) 30
    (fun k st hk ⟨V, e1, kp, et, hsub, hl, hwy, hpr⟩ => by
      left
      obtain ⟨x, m1⟩ := st
      have e1 : x = nI k := e1
      have kp : Kept m m1 := kp
      have et : mThrown m1 = mThrown m := et
      have hl : LeM V ln m1 := hl
      subst e1
      obtain ⟨m2, V2, a1, a2, a3, a4, a5, a6, a7⟩ := m_strides m1 s n k hk hn V0 V ln hsub hl2 hln hl (by rw [kp.now]; exact hwy)
      rw [kp.now] at a6 a7
      refine ⟨(nI (k + 1), m2), ?_, V2, rfl, kp.tr a2, a3.trans et, fun x hx => a4 x (hsub x hx), a5, a6, fun c hc hv hn2 d hs' => ?_⟩
      · show f_X11_measures_L49 (nI n) (nI k) m1 = _
        unfold f_X11_measures_L49
        rw [if_neg (show ¬ (30 : Int32) ≤ nI k from nI_ge (a := k) (b := 30) hk (by decide)), a1]
        simp only [ob_s, nI_1]
      · by_cases e : c = k
        · subst e; exact a7 (hsub c hv) hn2 d hs'
        · exact a4 d (hpr c (by omega) hv hn2 d hs'))
    (fun st ⟨V, e1, kp, et, hsub, hl, hwy, hpr⟩ => ⟨st, by
      obtain ⟨x, m1⟩ := st
      have e1 : x = nI 30 := e1
      subst e1
      show f_X11_measures_L49 (nI n) (nI 30) m1 = _
      unfold f_X11_measures_L49
      rw [if_pos (show (30 : Int32) ≤ nI 30 from Int32.le_refl _)], V, kp, et, hsub, hl, hwy, hpr⟩) 5000 0 (nI 0, m) (by omega) (by omega) ⟨V0, rfl, Kept.rf m, rfl, fun _ h => h, fun x hx => ⟨fun h => by rw [hl1 x h]; exact (hle0 x hx).1 h, (hle0 x hx).2⟩, fun x hx => by rw [hl1 x hx]; exact hwy0 x hx, fun c hc => absurd hc (Nat.not_lt_zero _)⟩
  obtain ⟨g1, g2, g3, g4, g5, g6⟩ := h2
  refine ⟨r, V, ln, h1, g1, g2, fun x _ => hln x, g4, g5, fun h0 j c hj hw => ?_⟩
  have hold : ∀ j c, j ≤ n → wi (WE (mNow m)) s j c → V0 c ∧ ln c ≤ j := fun j c hj hw => by
    obtain ⟨p1, p2⟩ := hal0 h0 j c hj hw
    exact ⟨p1, by rw [hl1 c p1]; exact p2⟩
  by_cases ej : j ≤ n
  · obtain ⟨p1, p2⟩ := hold j c ej hw
    exact ⟨g3 c p1, p2⟩
  · have e : j = n + 1 := by omega
    subst e
    rcases hw with hw | ⟨d, hw, hE⟩
    · obtain ⟨p1, p2⟩ := hold n c (Nat.le_refl _) hw
      exact ⟨g3 c p1, by omega⟩
    · obtain ⟨p1, p2⟩ := hold n d (Nat.le_refl _) hw
      by_cases hd : ln d = n
      · exact ⟨g6 d hE.1 p1 hd c hE, hln c⟩
      · have hwd := (hwy0 d p1).1
        rw [← hl1 d p1] at hwd
        obtain ⟨p3, p4⟩ := hold (ln d + 1) c (by omega) (Or.inr ⟨d, hwd, hE⟩)
        exact ⟨g3 c p3, by omega⟩
theorem m_measures (m : MV) (s : Nat) (hs : s < 30) : ∃ m', f_X11_measures m (nI s) = some m' ∧ Kept m m' ∧ mThrown m' = mThrown m ∧ ∀ c, c < 30 → Dist (mNow m) s c (mMarks m' c) := by
  obtain ⟨r0, a1, a2, a3, a4⟩ := lpL (body := fun st : Int32 × MV => f_X11_measures_L2 (nI s) st.1 st.2)
    (fun k st => st.1 = nI k ∧ Kept m st.2 ∧ mThrown st.2 = mThrown m ∧ ∀ c, c < k → (c = s ∧ mNow m (21 + 7 * s) = 0 → mMarks st.2 c = nI 0) ∧ (¬ (c = s ∧ mNow m (21 + 7 * s) = 0) → mMarks st.2 c = -1))
    (fun r => Kept m r.2 ∧ mThrown r.2 = mThrown m ∧ ∀ c, c < 30 → (c = s ∧ mNow m (21 + 7 * s) = 0 → mMarks r.2 c = nI 0) ∧ (¬ (c = s ∧ mNow m (21 + 7 * s) = 0) → mMarks r.2 c = -1)) 30
    (fun k st hk ⟨e1, kp, et, ha⟩ => by
      left
      obtain ⟨x, m1⟩ := st
      have e1 : x = nI k := e1
      have kp : Kept m m1 := kp
      have et : mThrown m1 = mThrown m := et
      have ha : ∀ c, c < k → (c = s ∧ mNow m (21 + 7 * s) = 0 → mMarks m1 c = nI 0) ∧ (¬ (c = s ∧ mNow m (21 + 7 * s) = 0) → mMarks m1 c = -1) := ha
      subst e1
      have hjk : jIn (nI k) 30 := nIin hk (by decide)
      have hlk : (nI k).toNatClampNeg = k := nI_clamp (by omega)
      have o2 : f_X11_of m1 (nI k) 2 = some (mNow m (21 + 7 * k)) := by rw [show (2 : Int32) = nI 2 from rfl, m_of k 2 (by omega), kp.now]; congr 2; omega
      have hrow : ∀ y, ((k = s ∧ mNow m (21 + 7 * s) = 0) → y = nI 0) → (¬ (k = s ∧ mNow m (21 + 7 * s) = 0) → y = -1) → f_X11_measures_L2 (nI s) (nI k) m1 = some (.inl (nI (k + 1), mSMarks (upd (mMarks m1) k y) m1)) → ∃ s', f_X11_measures_L2 (nI s) (nI k) m1 = some (Sum.inl s') ∧ s'.1 = nI (k + 1) ∧ Kept m s'.2 ∧ mThrown s'.2 = mThrown m ∧ ∀ c, c < k + 1 → (c = s ∧ mNow m (21 + 7 * s) = 0 → mMarks s'.2 c = nI 0) ∧ (¬ (c = s ∧ mNow m (21 + 7 * s) = 0) → mMarks s'.2 c = -1) := by
        intro y y1 y2 hL
        refine ⟨_, hL, rfl, kp.tr (Kept.marks _ _), et, fun c hc => ?_⟩
        show (_ → upd (mMarks m1) k y c = nI 0) ∧ (_ → upd (mMarks m1) k y c = -1)
        by_cases e : c = k
        · subst e
          rw [upd_at]
          exact ⟨y1, y2⟩
        · rw [upd_ne _ _ e]
          exact ha c (by omega)
      show ∃ s', f_X11_measures_L2 (nI s) (nI k) m1 = _ ∧ _
      have h30 : ¬ (30 : Int32) ≤ nI k := nI_ge (a := k) (b := 30) hk (by decide)
      by_cases e : k = s
      · subst e
        by_cases h0 : mNow m (21 + 7 * k) = 0
        · refine hrow 0 (fun _ => rfl) (fun h => absurd ⟨rfl, h0⟩ h) ?_
          unfold f_X11_measures_L2 f_X11_measures_J32
          simp only [if_neg h30, ↓reduceIte, o2, ob_s, h0, if_pos hjk, hlk, jb_u, nI_1]
        · refine hrow (-1) (fun h => absurd h.2 h0) (fun _ => rfl) ?_
          unfold f_X11_measures_L2 f_X11_measures_J31 f_X11_measures_J32
          simp only [if_neg h30, ↓reduceIte, o2, ob_s, if_neg h0, if_pos hjk, hlk, jb_u, nI_1]
      · have hne : ¬ nI k = nI s := by rw [nI_eq (by omega) (by omega)]; exact e
        refine hrow (-1) (fun h => absurd h.1 e) (fun _ => rfl) ?_
        unfold f_X11_measures_L2 f_X11_measures_J31 f_X11_measures_J32
        simp only [if_neg h30, if_neg hne, if_pos hjk, hlk, jb_u, nI_1])
    (fun st ⟨e1, kp, et, ha⟩ => ⟨st, by
      obtain ⟨x, m1⟩ := st
      have e1 : x = nI 30 := e1
      subst e1
      show f_X11_measures_L2 (nI s) (nI 30) m1 = _
      unfold f_X11_measures_L2
      rw [if_pos (show (30 : Int32) ≤ nI 30 from Int32.le_refl _)], kp, et, ha⟩) 5000 0 (nI 0, m) (by omega) (by omega) ⟨rfl, Kept.rf m, rfl, fun c hc => absurd hc (Nat.not_lt_zero _)⟩
  obtain ⟨r, h1, V, ln, h2, h3, h4, h5, h6, h7⟩ := lpL (body := fun st : Int32 × MV => f_X11_measures_L41 st.1 st.2)
    (fun n st => ∃ V ln, st.1 = nI n ∧ Kept m st.2 ∧ mThrown st.2 = mThrown m ∧ (∀ x, V x → ln x ≤ n) ∧ LeM V ln st.2 ∧ WyM (mNow m) s V ln ∧ AlM (mNow m) s n V ln)
    (fun r => ∃ V ln, Kept m r.2 ∧ mThrown r.2 = mThrown m ∧ (∀ x, V x → ln x ≤ 30) ∧ LeM V ln r.2 ∧ WyM (mNow m) s V ln ∧ AlM (mNow m) s 30 V ln) 30
    (fun n st hn ⟨V, ln, e1, kp, et, hb, hl, hwy, hal⟩ => by
      left
      obtain ⟨x, m1⟩ := st
      have e1 : x = nI n := e1
      have kp : Kept m m1 := kp
      have et : mThrown m1 = mThrown m := et
      have hl : LeM V ln m1 := hl
      subst e1
      obtain ⟨r, V', ln', b1, b2, b3, b4, b5, b6, b7⟩ := m_level m1 s n hs hn V ln hb hl (by rw [kp.now]; exact hwy) (by rw [kp.now]; exact hal)
      rw [kp.now] at b6 b7
      refine ⟨(nI (n + 1), r.2), ?_, V', ln', rfl, kp.tr b2, b3.trans et, b4, b5, b6, b7⟩
      show f_X11_measures_L41 (nI n) m1 = _
      unfold f_X11_measures_L41
      rw [if_neg (show ¬ (30 : Int32) ≤ nI n from nI_ge (a := n) (b := 30) hn (by decide)), b1]
      simp only [ob_s, nI_1])
    (fun st ⟨V, ln, e1, hrest⟩ => ⟨st, by
      obtain ⟨x, m1⟩ := st
      have e1 : x = nI 30 := e1
      subst e1
      show f_X11_measures_L41 (nI 30) m1 = _
      unfold f_X11_measures_L41
      rw [if_pos (show (30 : Int32) ≤ nI 30 from Int32.le_refl _)], V, ln, hrest⟩) 5000 0 (nI 0, r0.2) (by omega) (by omega) ⟨fun c => c = s ∧ mNow m (21 + 7 * s) = 0, fun _ => 0, rfl, a2, a3, fun _ _ => Nat.le_refl _, a4, fun x hx => ⟨hx.1, by rw [hx.1]; exact hs, hx.2⟩, fun h0 j c hj hw => by
        have e : j = 0 := by omega
        subst e
        exact ⟨⟨hw, h0⟩, Nat.le_refl _⟩⟩
  have a1' : jbL (fun st : Int32 × MV => f_X11_measures_L2 (nI s) st.1 st.2) 5000 ((0 : Int32), m) = some r0 := a1
  have h1' : jbL (fun st : Int32 × MV => f_X11_measures_L41 st.1 st.2) 5000 ((0 : Int32), r0.2) = some r := h1
  refine ⟨r.2, ?_, h2, h3, fun c hc => ?_⟩
  · unfold f_X11_measures
    simp only [a1', ob_s, h1']
  · by_cases hv : V c
    · left
      obtain ⟨p1, p2, p3⟩ := h6 c hv
      have h29 := (h7 p3 29 c (by omega) (wi_29 hs p1)).2
      refine ⟨p3, ln c, h29, (h5 c hc).1 hv, p1, fun k hk => ?_⟩
      by_cases hk30 : k ≤ 30
      · exact (h7 p3 k c hk30 hk).2
      · omega
    · right
      exact ⟨fun h0 n hn => hv (h7 h0 29 c (by omega) (wi_29 hs hn)).1, (h5 c hc).2 hv⟩
theorem m_f44 (m : MV) (x : Int32) : f_X11_footpath_J44 m x = some (0, mSThrown 1 m) := by
  unfold f_X11_footpath_J44 f_X11_footpath_J45 f_X11_footpath_J56
  by_cases h : x = -1
  · simp only [if_pos h, m_holds1, ob_s, ↓reduceIte]
  · simp only [if_neg h, m_holds1, ob_s, ↓reduceIte]
theorem m_f45 (m : MV) (x : Int32) : (x = -1 → f_X11_footpath_J45 m x 1 = some (0, mSThrown 2 m)) ∧ (¬ x = -1 → f_X11_footpath_J45 m x 1 = some (x, mSThrown 0 m)) := by
  unfold f_X11_footpath_J45 f_X11_footpath_J56
  constructor
  · intro h
    rw [if_pos h]
    simp only [m_holds2, ob_s, ↓reduceIte]
  · intro h
    rw [if_neg h]
    simp only [m_holds0, ob_s, i10, ↓reduceIte]
theorem m_foot (m : MV) (a b c d : Int32) (u v : Nat) (hu : f_X11_cellAt a b = some (nI u)) (hu30 : u < 30) (hv : f_X11_cellAt c d = some (nI v)) (hv30 : v < 30) :
    ∃ m' x, Kept m m' ∧ Dist (mNow m) u v x ∧ f_X11_footpath m a b c d = (f_X11_isCell a b).bind fun o9 => if o9 = 0 then some (0, mSThrown 1 m') else (f_X11_isCell c d).bind fun o11 => if o11 = 0 then some (0, mSThrown 1 m') else f_X11_footpath_J45 m' x 1 := by
  obtain ⟨m', a1, a2, a3, a4⟩ := m_measures m u hu30
  refine ⟨m', mMarks m' v, a2, a4 v hv30, ?_⟩
  unfold f_X11_footpath
  simp only [hu, ob_s, a1, hv, if_pos (nIin hv30 (by decide : 30 < 2 ^ 31)), nI_clamp (show v < 2 ^ 31 by omega), jb_u, m_f44]
theorem ask_foot {S : Sys} {T : Nat} (h : RelS T S) (tv : TV) (a b c d : Int32) : AskS [0, 2] (f_X10_footpath tv S.qv S.sv a b c d) (f_X11_footpath S.mv a b c d) S.mv := by
  have h0 : (0 : Int32) = nI 0 := rfl
  rcases cell_or a b with ⟨r, k, hrr, hk, rfl, rfl⟩ | ⟨h1, h2, h3⟩
  · obtain ⟨g1, g2, g3, g4⟩ := g_cell r k hrr hk
    have hu : 6 * r + k < 30 := by omega
    rcases cell_or c d with ⟨r2, k2, hrr2, hk2, rfl, rfl⟩ | ⟨p1, p2, p3⟩
    · obtain ⟨q1, q2, q3, q4⟩ := g_cell r2 k2 hrr2 hk2
      have hv : 6 * r2 + k2 < 30 := by omega
      obtain ⟨m', x, b1, b2, b3⟩ := m_foot S.mv (nI r) (nI k) (nI r2) (nI k2) (6 * r + k) (6 * r2 + k2) g4 hu q4 hv
      obtain ⟨y, sv', e1, e2⟩ := q_path h.q h.w S.sv (6 * r + k) (6 * r2 + k2) hu hv
      have hxy : y = x := e2.un b2
      subst hxy
      by_cases hy : y = -1
      · right
        refine ⟨2, 1, 0, sv', mSThrown 2 m', ?_, by omega, rfl, ?_, b1.tr (Kept.thrown _ _), rfl⟩
        · unfold f_X10_footpath
          simp only [g1, q1, g2, q2, ob_s, rf_0, jm_r, e1, jb_u, if_pos hy]
        · rw [b3]
          simp only [g3, q3, ob_s, i10, ↓reduceIte, (m_f45 m' y).1 hy]
      · left
        refine ⟨y, sv', mSThrown 0 m', ?_, ?_, b1.tr (Kept.thrown _ _), rfl⟩
        · unfold f_X10_footpath
          simp only [g1, q1, g2, q2, ob_s, rf_0, jm_r, e1, jb_u, if_neg hy]
        · rw [b3]
          simp only [g3, q3, ob_s, i10, ↓reduceIte, (m_f45 m' y).2 hy]
    · right
      rw [h0] at p3
      obtain ⟨m', x, b1, b2, b3⟩ := m_foot S.mv (nI r) (nI k) c d (6 * r + k) 0 g4 hu p3 (by omega)
      refine ⟨0, 0, 0, S.sv, mSThrown 1 m', ?_, by omega, rfl, ?_, b1.tr (Kept.thrown _ _), rfl⟩
      · unfold f_X10_footpath
        simp only [g1, p1, ob_s, rf_0, rf_1, jm_r, jm_l]
      · rw [b3]
        simp only [g3, p2, ob_s, i10, ↓reduceIte]
  · right
    rw [h0] at h3
    obtain ⟨v, hv30, hv⟩ : ∃ v, v < 30 ∧ f_X11_cellAt c d = some (nI v) := by
      rcases cell_or c d with ⟨r2, k2, hrr2, hk2, rfl, rfl⟩ | ⟨p1, p2, p3⟩
      · exact ⟨6 * r2 + k2, by omega, (g_cell r2 k2 hrr2 hk2).2.2.2⟩
      · exact ⟨0, by omega, p3⟩
    obtain ⟨m', x, b1, b2, b3⟩ := m_foot S.mv a b c d 0 v h3 (by omega) hv hv30
    refine ⟨0, 0, 0, S.sv, mSThrown 1 m', ?_, by omega, rfl, ?_, b1.tr (Kept.thrown _ _), rfl⟩
    · unfold f_X10_footpath
      simp only [h1, ob_s, rf_1, jm_l]
    · rw [b3]
      simp only [h2, ob_s, ↓reduceIte]
theorem lb_23 {T : Nat} {S : Sys} (h : RelS T S) (a1 a2 a3 a4 : Int32) (ol : Nat → Int64) (od : Nat → UInt64) : ∃ r, lawOp_23 S a1 a2 a3 a4 ol od = some r ∧ RelS (T + 1) r.1 := by
  refine lb_askS h [0, 2] (f_X10_footpath (none, S.ep, S.fc) S.qv S.sv a1 a2 a3 a4) (f_X11_footpath S.mv a1 a2 a3 a4) (ask_foot h _ a1 a2 a3 a4) (f_L_footpath (none, S.ep, S.fc) S.qv S.sv a1 a2 a3 a4 ol) ol od (fun r sv' h1 => ?_) (fun k c sv' h1 hc hex => ?_)
  · unfold f_L_footpath
    simp only [h1, ob_s, jm_r]
  · unfold f_L_footpath
    simp only [h1, ob_s, jm_l]
    rcases (show c = 0 ∨ c = 1 ∨ c = 2 ∨ c = 3 by omega) with rfl | rfl | rfl | rfl <;> (simp at hex) <;> (subst hex; rfl)
