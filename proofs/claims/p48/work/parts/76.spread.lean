def dp (w : Nat → Int32) (low : Nat → Nat) (c : Nat) : Nat := vN (w (19 + 7 * c)) - low c
abbrev SpI (w : Nat → Int32) (L : Nat) (t : Nat) (a : Nat) (l : List Nat) (low : Nat → Nat) (sv : SV) : Prop :=
  (∀ x ∈ l, x < 30) ∧
  (Qu sv l) ∧
  (∀ c, c < 30 → sLowered sv c = nI (low c)) ∧
  (∀ c, c < 30 → low c ≤ vN (w (19 + 7 * c))) ∧
  (∀ c, c < 30 → vN (w (19 + 7 * c)) ≤ low c ∨ a + L * far t c ≤ low c) ∧
  (low t ≤ a) ∧
  (l.length ≤ 1 + sumN (dp w low) 30)
theorem SpI.lt {w : Nat → Int32} {L : Nat} {t : Nat} {a : Nat} {l : List Nat} {low : Nat → Nat} {sv : SV} (x : SpI w L t a l low sv) : ∀ x ∈ l, x < 30 := x.1
theorem SpI.qu {w : Nat → Int32} {L : Nat} {t : Nat} {a : Nat} {l : List Nat} {low : Nat → Nat} {sv : SV} (x : SpI w L t a l low sv) : Qu sv l := x.2.1
theorem SpI.lo {w : Nat → Int32} {L : Nat} {t : Nat} {a : Nat} {l : List Nat} {low : Nat → Nat} {sv : SV} (x : SpI w L t a l low sv) : ∀ c, c < 30 → sLowered sv c = nI (low c) := x.2.2.1
theorem SpI.ub {w : Nat → Int32} {L : Nat} {t : Nat} {a : Nat} {l : List Nat} {low : Nat → Nat} {sv : SV} (x : SpI w L t a l low sv) : ∀ c, c < 30 → low c ≤ vN (w (19 + 7 * c)) := x.2.2.2.1
theorem SpI.lb {w : Nat → Int32} {L : Nat} {t : Nat} {a : Nat} {l : List Nat} {low : Nat → Nat} {sv : SV} (x : SpI w L t a l low sv) : ∀ c, c < 30 → vN (w (19 + 7 * c)) ≤ low c ∨ a + L * far t c ≤ low c := x.2.2.2.2.1
theorem SpI.ta {w : Nat → Int32} {L : Nat} {t : Nat} {a : Nat} {l : List Nat} {low : Nat → Nat} {sv : SV} (x : SpI w L t a l low sv) : low t ≤ a := x.2.2.2.2.2.1
theorem SpI.len {w : Nat → Int32} {L : Nat} {t : Nat} {a : Nat} {l : List Nat} {low : Nat → Nat} {sv : SV} (x : SpI w L t a l low sv) : l.length ≤ 1 + sumN (dp w low) 30 := x.2.2.2.2.2.2
theorem SpI.mk {w : Nat → Int32} {L : Nat} {t : Nat} {a : Nat} {l : List Nat} {low : Nat → Nat} {sv : SV} (f_lt : ∀ x ∈ l, x < 30) (f_qu : Qu sv l) (f_lo : ∀ c, c < 30 → sLowered sv c = nI (low c)) (f_ub : ∀ c, c < 30 → low c ≤ vN (w (19 + 7 * c))) (f_lb : ∀ c, c < 30 → vN (w (19 + 7 * c)) ≤ low c ∨ a + L * far t c ≤ low c) (f_ta : low t ≤ a) (f_len : l.length ≤ 1 + sumN (dp w low) 30) : SpI w L t a l low sv := ⟨f_lt, f_qu, f_lo, f_ub, f_lb, f_ta, f_len⟩
/-- still to be seen, or low enough all around -/
def Pd (L : Nat) (l : List Nat) (low : Nat → Nat) (hd c : Nat) : Prop := (∃ i, hd ≤ i ∧ l[i]? = some c) ∨ ∀ k d, k < 4 → nb c k = some d → low d ≤ low c + L
theorem dp_le {w : Nat → Int32} {t0 : Nat} (hi : InvW t0 w) (low : Nat → Nat) : sumN (dp w low) 30 ≤ 270 := by
  have := sumN_le (g := dp w low) (b := 9) 30 (fun d hd => by unfold dp; have := hh_9 hi d hd; omega)
  omega
theorem spr_in {q : QV} {w : Nat → Int32} {t0 : Nat} (hr : RelQ q w) (hi : InvW t0 w) (L t a : Nat) (hL : w 0 = nI L) (hL4 : L ≤ 4) (ht : t < 30) (hd c : Nat) (l0 : List Nat) (low0 : Nat → Nat) (sv0 : SV) (h0 : SpI w L t a l0 low0 sv0) (hc : l0[hd]? = some c) (hhd : hd < 271)
    (hp0 : ∀ x, x < 30 → x ≠ c → Pd L l0 low0 (hd + 1) x) : ∃ (r : Int32 × Int32 × Int32 × SV) (l : List Nat) (low : Nat → Nat), jbL (fun s : Int32 × Int32 × Int32 × SV => f_X8_cutsBySpreading_L79 q (nI hd) s.1 s.2.1 s.2.2.1 s.2.2.2) 5000 (nI (sumN (dp w low0) 30), nI l0.length, nI 0, sv0) = some r ∧ r.1 = nI (sumN (dp w low) 30) ∧ r.2.1 = nI l.length ∧ SpI w L t a l low r.2.2.2 ∧ hd + 1 ≤ l.length ∧ ∀ x, x < 30 → Pd L l low (hd + 1) x := by
  have hhl : hd < l0.length := (List.getElem?_eq_some_iff.mp hc).1
  have hc30 : c < 30 := h0.lt c (List.mem_of_getElem? hc)
  have hjc : jIn (nI c) 30 := nIin hc30 (by decide)
  have hlc : (nI c).toNatClampNeg = c := nI_clamp (by omega)
  have hjq : jIn (nI hd) 271 := nIin hhd (by decide)
  have hlim : f_X7_limit q = some (nI L) := by unfold f_X7_limit; rw [hr.lim, hL]
  have hvL : vN (w 0) = L := by rw [hL, vN_nI (by omega)]
  obtain ⟨r, h1, l, low, h2⟩ := lpL (body := fun s : Int32 × Int32 × Int32 × SV => f_X8_cutsBySpreading_L79 q (nI hd) s.1 s.2.1 s.2.2.1 s.2.2.2)
    (fun k st => ∃ l low, st.1 = nI (sumN (dp w low) 30) ∧ st.2.1 = nI l.length ∧ st.2.2.1 = nI k ∧ SpI w L t a l low st.2.2.2 ∧ (∃ l1, l = l0 ++ l1) ∧ (∀ x, x < 30 → x ≠ c → Pd L l low (hd + 1) x) ∧ ∀ j d, j < k → nb c j = some d → low d ≤ low c + L)
    (fun r => ∃ l low, r.1 = nI (sumN (dp w low) 30) ∧ r.2.1 = nI l.length ∧ SpI w L t a l low r.2.2.2 ∧ (∃ l1, l = l0 ++ l1) ∧ (∀ x, x < 30 → x ≠ c → Pd L l low (hd + 1) x) ∧ ∀ j d, j < 4 → nb c j = some d → low d ≤ low c + L) 4
    (fun k st hk ⟨l, low, e1, e2, e3, hb, ⟨l1, hl1⟩, hpd, hcl⟩ => by
      left
      obtain ⟨x, y, z, sv⟩ := st
      have e1 : x = nI (sumN (dp w low) 30) := e1
      have e2 : y = nI l.length := e2
      have e3 : z = nI k := e3
      have hb : SpI w L t a l low sv := hb
      subst e1; subst e2; subst e3
      have hsum := dp_le hi low
      have hlen := hb.len
      have hcl0 : l[hd]? = some c := by
        rw [hl1, List.getElem?_append_left hhl]
        exact hc
      have hq : sQueue sv (nI hd).toNatClampNeg = nI c := by rw [nI_clamp (by omega)]; exact hb.qu hd c hcl0
      have h4 : ¬ (4 : Int32) ≤ nI k := nI_ge (a := k) (b := 4) hk (by decide)
      have hlo := hb.lo c hc30
      have hhc := hh_9 hi c hc30
      have hubc := hb.ub c hc30
      have hskip : ∀ o, f_X8_excessOver sv (enc (nb c k)) (nI (low c + L)) = some o → o ≤ 0 → f_X8_cutsBySpreading_L79 q (nI hd) (nI (sumN (dp w low) 30)) (nI l.length) (nI k) sv = some (.inl (nI (sumN (dp w low) 30), nI l.length, nI (k + 1), sv)) := by
        intro o ho hle
        unfold f_X8_cutsBySpreading_L79 f_X8_cutsBySpreading_J170
        simp only [if_neg h4, if_pos hjq, hq, g_nb c k hc30 hk, ob_s, if_pos hjc, hlim, hlc, hlo, nI_add, ho, if_pos hle, nI_1]
      show ∃ s', f_X8_cutsBySpreading_L79 q (nI hd) (nI (sumN (dp w low) 30)) (nI l.length) (nI k) sv = _ ∧ _
      cases hn : nb c k with
      | none =>
        refine ⟨_, hskip 0 (by rw [hn]; unfold f_X8_excessOver; rw [if_pos (show enc none = -1 from rfl)]) (Int32.le_refl _), l, low, rfl, rfl, rfl, hb, ⟨l1, hl1⟩, hpd, fun j d hj he => ?_⟩
        by_cases ej : j = k
        · subst ej; rw [hn] at he; cases he
        · exact hcl j d (by omega) he
      | some d =>
        have hd30 := nb_lt hc30 hk hn
        have hjd : jIn (nI d) 30 := nIin hd30 (by decide)
        have hld : (nI d).toNatClampNeg = d := nI_clamp (by omega)
        have hod := hb.lo d hd30
        have hhd9 := hh_9 hi d hd30
        have hubd := hb.ub d hd30
        have hdc : d ≠ c := fun e => by
          subst e
          have := (by decide +kernel : ∀ c : Fin 30, ∀ k : Fin 4, nb c.val k.val ≠ some c.val) ⟨d, hd30⟩ ⟨k, hk⟩
          exact this hn
        have hex : f_X8_excessOver sv (enc (nb c k)) (nI (low c + L)) = some (nI (low d) - nI (low c + L)) := by
          rw [hn]
          unfold f_X8_excessOver
          rw [if_neg (enc_ne hd30)]
          show (if jIn (nI d) 30 then some (sLowered sv (nI d).toNatClampNeg - nI (low c + L)) else none) = _
          rw [if_pos hjd, hld, hod]
        by_cases hle : low d ≤ low c + L
        · refine ⟨_, hskip _ hex (sub_le0 hle (by omega)), l, low, rfl, rfl, rfl, hb, ⟨l1, hl1⟩, hpd, fun j d' hj he => ?_⟩
          by_cases ej : j = k
          · subst ej; rw [hn] at he; cases he; exact hle
          · exact hcl j d' (by omega) he
        · obtain ⟨e, he⟩ : ∃ e, low d = low c + L + e := ⟨low d - (low c + L), by omega⟩
          have he0 : 0 < e := by omega
          have hexe : f_X8_excessOver sv (enc (some d)) (nI (low c + L)) = some (nI e) := by
            rw [← hn, hex, nIsub (by omega), show low d - (low c + L) = e by omega]
          have hS : sumN (dp w (fun x => if x = d then low c + L else low x)) 30 = sumN (dp w low) 30 + e := by
            refine sumN_upd (d := d) (e := e) (fun x hx => ?_) ?_ 30 hd30
            · unfold dp; simp only [if_neg hx]
            · unfold dp; simp only [↓reduceIte]; omega
          have hsum2 := dp_le hi (fun x => if x = d then low c + L else low x)
          have hl271 : l.length < 271 := by omega
          have hjl : jIn (nI l.length) 271 := nIin hl271 (by decide)
          have hll : (nI l.length).toNatClampNeg = l.length := nI_clamp (by omega)
          have hg : ¬ (271 : Int32) ≤ nI l.length := nI_ge (a := l.length) (b := 271) hl271 (by decide)
          have hne0 : ¬ nI e ≤ 0 := nI_nle he0 (by omega)
          have hnew : nI (low d) - nI e = nI (low c + L) := by rw [nIsub (by omega), show low d - e = low c + L by omega]
          refine ⟨(nI (sumN (dp w (fun x => if x = d then low c + L else low x)) 30), nI (l ++ [d]).length, nI (k + 1), sSQueue (upd (sQueue (sSLowered (upd (sLowered sv) d (nI (low c + L))) sv)) l.length (nI d)) (sSLowered (upd (sLowered sv) d (nI (low c + L))) sv)), ?_, l ++ [d], fun x => if x = d then low c + L else low x, rfl, rfl, rfl, ?_, ⟨l1 ++ [d], by rw [hl1, List.append_assoc]⟩, fun x hx hxc => ?_, fun j d' hj he' => ?_⟩
          · have hnn : f_X3_neighbour (nI c) (nI k) = some (enc (some d)) := by rw [g_nb c k hc30 hk, hn]
            have hed : enc (some d) = nI d := rfl
            have hexe2 : f_X8_excessOver sv (nI d) (nI (low c + L)) = some (nI e) := hexe
            rw [hS, List.length_append, List.length_singleton]
            unfold f_X8_cutsBySpreading_L79 f_X8_cutsBySpreading_J170
            simp only [if_neg h4, if_pos hjq, hq, hnn, ob_s, if_pos hjc, hlim, hlc, hlo, nI_add, hexe2, if_neg hne0, if_neg hg, hed, if_pos hjd, hld, jb_u, hod, hnew, if_pos hjl, hll, nI_1]
          · refine ⟨fun x hx => ?_, fun i x hx => ?_, fun x hx => ?_, fun x hx => ?_, fun x hx => ?_, ?_, ?_⟩
            · rcases List.mem_append.mp hx with hx | hx
              · exact hb.lt x hx
              · rw [List.mem_singleton] at hx; subst hx; exact hd30
            · show upd (sQueue sv) l.length (nI d) i = nI x
              by_cases e : i = l.length
              · subst e
                rw [List.getElem?_append_right (Nat.le_refl _), Nat.sub_self] at hx
                cases hx
                rw [upd_at]
              · have hi2 : i < l.length := by
                  have := (List.getElem?_eq_some_iff.mp hx).1
                  rw [List.length_append, List.length_singleton] at this
                  omega
                rw [List.getElem?_append_left hi2] at hx
                rw [upd_ne _ _ e]
                exact hb.qu i x hx
            · show upd (sLowered sv) d (nI (low c + L)) x = nI (if x = d then low c + L else low x)
              by_cases e : x = d
              · subst e; rw [upd_at, if_pos rfl]
              · rw [upd_ne _ _ e, if_neg e]; exact hb.lo x hx
            · show (if x = d then low c + L else low x) ≤ _
              by_cases e : x = d
              · subst e; rw [if_pos rfl]; omega
              · rw [if_neg e]; exact hb.ub x hx
            · show _ ≤ (if x = d then low c + L else low x) ∨ _ ≤ (if x = d then low c + L else low x)
              by_cases e : x = d
              · subst e
                rw [if_pos rfl]
                have hst := hi.step x (3 - k) c hd30 (by omega) (nb_sym hc30 hk hn)
                rw [hvL] at hst
                have hf := far_nb t c k x ht hc30 hk hn
                have hmul : L * far t x ≤ L * far t c + L := by
                  have := Nat.mul_le_mul_left L hf
                  rw [Nat.mul_succ] at this
                  exact this
                rcases hb.lb c hc30 with h | h
                · left; omega
                · right; omega
              · rw [if_neg e]; exact hb.lb x hx
            · show (if t = d then low c + L else low t) ≤ a
              have := hb.ta
              by_cases e : t = d
              · subst e; rw [if_pos rfl]; omega
              · rw [if_neg e]; exact this
            · rw [hS, List.length_append, List.length_singleton]; omega
          · by_cases e : x = d
            · subst e
              exact Or.inl ⟨l.length, by rw [hl1, List.length_append]; omega, by rw [List.getElem?_append_right (Nat.le_refl _), Nat.sub_self]; rfl⟩
            · rcases hpd x hx hxc with ⟨i, h1, h2⟩ | h
              · exact Or.inl ⟨i, h1, by rw [List.getElem?_append_left (List.getElem?_eq_some_iff.mp h2).1]; exact h2⟩
              · right
                intro j y hj hy
                show (if y = d then low c + L else low y) ≤ (if x = d then low c + L else low x) + L
                have h3 := h j y hj hy
                rw [if_neg e]
                by_cases ey : y = d
                · subst ey; rw [if_pos rfl]; omega
                · rw [if_neg ey]; exact h3
          · show (if d' = d then low c + L else low d') ≤ (if c = d then low c + L else low c) + L
            rw [if_neg (show ¬ c = d from fun e => hdc e.symm)]
            by_cases ed : d' = d
            · subst ed; rw [if_pos rfl]; omega
            · rw [if_neg ed]
              by_cases ej : j = k
              · subst ej; rw [hn] at he'; cases he'; exact absurd rfl ed
              · exact hcl j d' (by omega) he')
    (fun st ⟨l, low, e1, e2, e3, hb, hl1, hpd, hcl⟩ => ⟨st, by
      obtain ⟨x, y, z, sv⟩ := st
      have e3 : z = nI 4 := e3
      subst e3
      show f_X8_cutsBySpreading_L79 q (nI hd) x y (nI 4) sv = _
      unfold f_X8_cutsBySpreading_L79
      rw [if_pos (show (4 : Int32) ≤ nI 4 from Int32.le_refl _)], l, low, e1, e2, hb, hl1, hpd, hcl⟩) 5000 0 (nI (sumN (dp w low0) 30), nI l0.length, nI 0, sv0) (by omega) (by omega) ⟨l0, low0, rfl, rfl, rfl, h0, ⟨[], (List.append_nil _).symm⟩, hp0, fun j d hj => absurd hj (Nat.not_lt_zero _)⟩
  obtain ⟨g1, g2, g3, ⟨l1, hl1⟩, g5, g6⟩ := h2
  refine ⟨r, l, low, h1, g1, g2, g3, by rw [hl1, List.length_append]; omega, fun x hx => ?_⟩
  by_cases e : x = c
  · subst e
    exact Or.inr (fun k d hk he => g6 k d hk he)
  · exact g5 x hx e
/-- the program's sum by spreading -/
theorem q_spread {q : QV} {w : Nat → Int32} {t0 : Nat} (hr : RelQ q w) (hi : InvW t0 w) (sv : SV) (t a L : Nat) (ht : t < 30) (ha : a ≤ vN (w (19 + 7 * t))) (hL : w 0 = nI L) (hL4 : L ≤ 4) : ∃ sv', f_X8_cutsBySpreading sv q (nI t) (nI a) = some (nI (sumN (lw w L t a) 30), sv') := by
  have hvL : vN (w 0) = L := by rw [hL, vN_nI (by omega)]
  have hh9 := hh_9 hi t ht
  have hjt : jIn (nI t) 30 := nIin ht (by decide)
  have hlt : (nI t).toNatClampNeg = t := nI_clamp (by omega)
  obtain ⟨r0, a1, a2⟩ := lpL (body := fun s : Int32 × SV => f_X8_cutsBySpreading_L3 q (nI t) (nI a) s.1 s.2) (fun k s => s.1 = nI k ∧ ∀ c, c < k → sLowered s.2 c = nI (vN (w (19 + 7 * c)))) (fun r => ∀ c, c < 30 → sLowered r.2 c = nI (vN (w (19 + 7 * c)))) 30
    (fun k s hk ⟨e, hs⟩ => by
      left
      obtain ⟨x, sv⟩ := s
      have e : x = nI k := e
      subst e
      refine ⟨(nI (k + 1), sSLowered (upd (sLowered sv) k (nI (vN (w (19 + 7 * k))))) sv), ?_, rfl, fun c hc => ?_⟩
      · show f_X8_cutsBySpreading_L3 q (nI t) (nI a) (nI k) sv = _
        unfold f_X8_cutsBySpreading_L3
        rw [if_neg (show ¬ (30 : Int32) ≤ nI k from nI_ge (a := k) (b := 30) hk (by decide)), q_heightAt hr k hk, hN hi k hk]
        simp only [ob_s, if_pos (nIin hk (by decide : 30 < 2 ^ 31)), nI_clamp (show k < 2 ^ 31 by omega), jb_u, nI_1, vN_nI (show vN (w (19 + 7 * k)) < 2 ^ 31 by have := hh_9 hi k hk; omega)]
      · show upd (sLowered sv) k (nI (vN (w (19 + 7 * k)))) c = nI (vN (w (19 + 7 * c)))
        by_cases e : c = k
        · subst e; rw [upd_at]
        · rw [upd_ne _ _ e]; exact hs c (by omega))
    (fun s ⟨e, hs⟩ => ⟨s, by
      obtain ⟨x, sv⟩ := s
      have e : x = nI 30 := e
      subst e
      show f_X8_cutsBySpreading_L3 q (nI t) (nI a) (nI 30) sv = _
      unfold f_X8_cutsBySpreading_L3
      rw [if_pos (show (30 : Int32) ≤ nI 30 from Int32.le_refl _)], hs⟩) 5000 0 (nI 0, sv) (by omega) (by omega) ⟨rfl, fun c hc => absurd hc (Nat.not_lt_zero _)⟩
  have hsum0 : sumN (dp w (fun x => if x = t then a else vN (w (19 + 7 * x)))) 30 = vN (w (19 + 7 * t)) - a := by
    have h1 := sumN_upd (g := fun _ => 0) (g' := dp w (fun x => if x = t then a else vN (w (19 + 7 * x)))) (d := t) (e := vN (w (19 + 7 * t)) - a) (fun c hc => by unfold dp; simp only [if_neg hc, Nat.sub_self]) (by unfold dp; simp only [↓reduceIte, Nat.zero_add]) 30 ht
    rw [h1, sumN_0, Nat.zero_add]
  have hsp : SpI w L t a [t] (fun x => if x = t then a else vN (w (19 + 7 * x))) (sSQueue (upd (sQueue (sSLowered (upd (sLowered r0.2) t (nI a)) r0.2)) 0 (nI t)) (sSLowered (upd (sLowered r0.2) t (nI a)) r0.2)) := by
    refine ⟨fun x hx => ?_, fun i x hx => ?_, fun x hx => ?_, fun x hx => ?_, fun x hx => ?_, ?_, ?_⟩
    · rw [List.mem_singleton] at hx; subst hx; exact ht
    · cases i with
      | zero => cases hx; rfl
      | succ i => simp at hx
    · show upd (sLowered r0.2) t (nI a) x = nI (if x = t then a else vN (w (19 + 7 * x)))
      by_cases e : x = t
      · subst e; rw [upd_at, if_pos rfl]
      · rw [upd_ne _ _ e, if_neg e]; exact a2 x hx
    · show (if x = t then a else vN (w (19 + 7 * x))) ≤ _
      by_cases e : x = t
      · subst e; rw [if_pos rfl]; exact ha
      · rw [if_neg e]; exact Nat.le_refl _
    · show _ ≤ (if x = t then a else vN (w (19 + 7 * x))) ∨ _ ≤ (if x = t then a else vN (w (19 + 7 * x)))
      by_cases e : x = t
      · subst e; rw [if_pos rfl, far_0]; right; omega
      · rw [if_neg e]; left; exact Nat.le_refl _
    · show (if t = t then a else vN (w (19 + 7 * t))) ≤ a
      rw [if_pos rfl]
      exact Nat.le_refl _
    · show 1 ≤ _
      omega
  have hpd0 : ∀ x, x < 30 → Pd L [t] (fun x => if x = t then a else vN (w (19 + 7 * x))) 0 x := fun x hx => by
    by_cases e : x = t
    · subst e; exact Or.inl ⟨0, Nat.le_refl _, rfl⟩
    · right
      intro k d hk hn
      show (if d = t then a else vN (w (19 + 7 * d))) ≤ (if x = t then a else vN (w (19 + 7 * x))) + L
      have hd30 := nb_lt hx hk hn
      have hst := hi.step d (3 - k) x hd30 (by omega) (nb_sym hx hk hn)
      rw [hvL] at hst
      rw [if_neg e]
      by_cases ed : d = t
      · subst ed; rw [if_pos rfl]; omega
      · rw [if_neg ed]; exact hst
  obtain ⟨r, h1, l, low, h2, h3, h4⟩ := lpW (body := fun s : Int32 × Int32 × Int32 × SV => f_X8_cutsBySpreading_L59 q s.1 s.2.1 s.2.2.1 s.2.2.2)
    (fun st => ∃ (l : List Nat) (low : Nat → Nat) (hd : Nat), st.1 = nI (sumN (dp w low) 30) ∧ st.2.1 = nI l.length ∧ st.2.2.1 = nI hd ∧ hd ≤ l.length ∧ SpI w L t a l low st.2.2.2 ∧ ∀ x, x < 30 → Pd L l low hd x)
    (fun r => ∃ (l : List Nat) (low : Nat → Nat), r.1 = nI (sumN (dp w low) 30) ∧ SpI w L t a l low r.2.2.2 ∧ ∀ x, x < 30 → Pd L l low l.length x) (fun st => 300 - vN st.2.2.1)
    (fun st ⟨l, low, hd, e1, e2, e3, hle, hb, hpd⟩ => by
      obtain ⟨x, y, z, sv⟩ := st
      have e1 : x = nI (sumN (dp w low) 30) := e1
      have e2 : y = nI l.length := e2
      have e3 : z = nI hd := e3
      have hb : SpI w L t a l low sv := hb
      subst e1; subst e2; subst e3
      have hlen := hb.len
      have hsum := dp_le hi low
      show (∃ s', f_X8_cutsBySpreading_L59 q (nI (sumN (dp w low) 30)) (nI l.length) (nI hd) sv = _ ∧ _) ∨ _
      by_cases hlt2 : hd < l.length
      · left
        obtain ⟨c, hc⟩ : ∃ c, l[hd]? = some c := ⟨l[hd], List.getElem?_eq_getElem hlt2⟩
        obtain ⟨r, l', low', k1, k2, k3, k4, k5, k6⟩ := spr_in hr hi L t a hL hL4 ht hd c l low sv hb hc (by omega) (fun x hx hxc => by
          rcases hpd x hx with ⟨i, p1, p2⟩ | p
          · refine Or.inl ⟨i, ?_, p2⟩
            by_cases e : i = hd
            · subst e; rw [hc] at p2; cases p2; exact absurd rfl hxc
            · omega
          · exact Or.inr p)
        have k1' : jbL (fun s : Int32 × Int32 × Int32 × SV => f_X8_cutsBySpreading_L79 q (nI hd) s.1 s.2.1 s.2.2.1 s.2.2.2) 5000 (nI (sumN (dp w low) 30), nI l.length, (0 : Int32), sv) = some r := k1
        refine ⟨(r.1, r.2.1, nI (hd + 1), r.2.2.2), ?_, ⟨l', low', hd + 1, k2, k3, rfl, k5, k4, k6⟩, ?_⟩
        · unfold f_X8_cutsBySpreading_L59
          rw [if_neg (nI_ge hlt2 (by omega)), if_neg (show ¬ (271 : Int32) ≤ nI hd from nI_ge (a := hd) (b := 271) (by omega) (by decide)), k1']
          simp only [ob_s, nI_1]
        · show 300 - vN (nI (hd + 1)) < 300 - vN (nI hd)
          rw [vN_nI (by omega), vN_nI (by omega)]
          omega
      · right
        have e : hd = l.length := by omega
        subst e
        refine ⟨(nI (sumN (dp w low) 30), nI l.length, nI l.length, sv), ?_, l, low, rfl, hb, hpd⟩
        show f_X8_cutsBySpreading_L59 q _ (nI l.length) (nI l.length) sv = _
        unfold f_X8_cutsBySpreading_L59
        rw [if_pos (Int32.le_refl _)]) 5000 (nI (vN (w (19 + 7 * t)) - a), 1, 0, sSQueue (upd (sQueue (sSLowered (upd (sLowered r0.2) t (nI a)) r0.2)) 0 (nI t)) (sSLowered (upd (sLowered r0.2) t (nI a)) r0.2)) (by show 300 - vN 0 < 5000; omega) ⟨[t], fun x => if x = t then a else vN (w (19 + 7 * x)), 0, by rw [hsum0], rfl, rfl, by simp, hsp, hpd0⟩
  have hcl : ∀ x, x < 30 → ∀ k d, k < 4 → nb x k = some d → low d ≤ low x + L := fun x hx => by
    rcases h4 x hx with ⟨i, p1, p2⟩ | p
    · have := (List.getElem?_eq_some_iff.mp p2).1
      omega
    · exact p
  have hup : ∀ n c, c < 30 → far t c = n → low c ≤ a + L * n := by
    intro n
    induction n with
    | zero =>
      intro c hc e
      rw [far_z t c ht hc e]
      exact h3.ta
    | succ n ih =>
      intro c hc e
      obtain ⟨d, k, hd, hk, hn, hf⟩ := far_prev t c n ht hc e
      have p1 := ih d hd hf
      have p2 := hcl d hd k c hk hn
      rw [Nat.mul_succ]
      omega
  have hfin : sumN (dp w low) 30 = sumN (lw w L t a) 30 := sumN_cong 30 fun c hc => by
    have p1 := hup (far t c) c hc rfl
    have p2 := h3.ub c hc
    unfold dp lw
    rcases h3.lb c hc with h | h <;> omega
  have a1' : jbL (fun s : Int32 × SV => f_X8_cutsBySpreading_L3 q (nI t) (nI a) s.1 s.2) 5000 ((0 : Int32), sv) = some r0 := a1
  have j0 : jIn (0 : Int32) 271 := nIin (c := 0) (by omega) (by decide)
  refine ⟨r.2.2.2, ?_⟩
  unfold f_X8_cutsBySpreading
  simp only [a1', ob_s, if_pos hjt, hlt, a2 t ht, nIsub ha, jb_u, if_pos j0, cl0, h1, h2, hfin]
