def SE (w : Nat → Int32) (c d : Nat) : Prop := c < 30 ∧ (∃ k, k < 4 ∧ nb c k = some d) ∧ ¬ w (19 + 7 * c) ≤ 0 ∧ ¬ w (19 + 7 * d) ≤ 0 ∧ w (20 + 7 * c) = w (20 + 7 * d)
theorem SE_lt {w : Nat → Int32} {c d : Nat} (h : SE w c d) : d < 30 := by
  obtain ⟨hc, ⟨k, hk, e⟩, _⟩ := h
  exact nb_lt hc hk e
theorem SE_sy {w : Nat → Int32} (c d : Nat) (h : SE w c d) : SE w d c := by
  have hd := SE_lt h
  obtain ⟨hc, ⟨k, hk, e⟩, h1, h2, h3⟩ := h
  exact ⟨hd, ⟨3 - k, by omega, nb_sym hc hk e⟩, h2, h1, h3.symm⟩
theorem q_heightAt {q : QV} {w : Nat → Int32} (hr : RelQ q w) (c : Nat) (hc : c < 30) : f_X7_heightAt q (nI c) = some (w (19 + 7 * c)) := by
  unfold f_X7_heightAt
  rw [if_pos (nIin hc (by decide)), nI_clamp (by omega), hr.h c hc]
theorem q_stoneAt {q : QV} {w : Nat → Int32} (hr : RelQ q w) (c : Nat) (hc : c < 30) : f_X7_stoneAt q (nI c) = some (w (20 + 7 * c)) := by
  unfold f_X7_stoneAt
  rw [if_pos (nIin hc (by decide)), nI_clamp (by omega), hr.s c hc]
theorem q_cont {q : QV} {w : Nat → Int32} (hr : RelQ q w) (c k : Nat) (hc : c < 30) (hk : k < 4) : (∀ d, nb c k = some d → SE w c d → f_X8_continuesSeam q (nI c) (enc (nb c k)) = some 1) ∧ ((∀ d, nb c k = some d → ¬ SE w c d) → f_X8_continuesSeam q (nI c) (enc (nb c k)) = some 0) := by
  cases hn : nb c k with
  | none =>
    exact ⟨fun d e => (nomatch e), fun _ => by unfold f_X8_continuesSeam; rw [if_pos (show enc none = -1 from rfl)]⟩
  | some d =>
    have hd := nb_lt hc hk hn
    have hun : f_X8_continuesSeam q (nI c) (enc (some d)) = if w (19 + 7 * c) ≤ 0 then some 0 else if w (19 + 7 * d) ≤ 0 then some 0 else if w (20 + 7 * c) = w (20 + 7 * d) then some 1 else some 0 := by
      unfold f_X8_continuesSeam
      rw [if_neg (enc_ne hd)]
      (try simp only [ob_s, jb_u, ↓reduceIte, i10, n06, n16, n26, n36, n46, n56, n10])
      show (f_X7_heightAt q (nI c)).bind _ = _
      rw [q_heightAt hr c hc]
      show (if w (19 + 7 * c) ≤ 0 then _ else (f_X7_heightAt q (nI d)).bind _) = _
      rw [q_heightAt hr d hd, q_stoneAt hr c hc]
      show (if w (19 + 7 * c) ≤ 0 then _ else if w (19 + 7 * d) ≤ 0 then _ else (f_X7_stoneAt q (nI d)).bind _) = _
      rw [q_stoneAt hr d hd]
      rfl
    refine ⟨fun d' e hse => ?_, fun hno => ?_⟩
    · cases e
      rw [hun, if_neg hse.2.2.1, if_neg hse.2.2.2.1, if_pos hse.2.2.2.2]
    · rw [hun]
      by_cases h1 : w (19 + 7 * c) ≤ 0
      · rw [if_pos h1]
      · by_cases h2 : w (19 + 7 * d) ≤ 0
        · rw [if_neg h1, if_pos h2]
        · rw [if_neg h1, if_neg h2, if_neg (fun h3 => hno d rfl ⟨hc, ⟨k, hk, hn⟩, h1, h2, h3⟩)]
/-- the marks are those of M -/
def Mk (sv : SV) (M : Nat → Prop) : Prop := ∀ c, c < 30 → (M c → sMarked sv c = 1) ∧ (¬ M c → sMarked sv c = 0)
/-- the queue holds l -/
def Qu (sv : SV) (l : List Nat) : Prop := ∀ i x, l[i]? = some x → sQueue sv i = nI x
abbrev BfI (w : Nat → Int32) (M0 : Nat → Prop) (s : Nat) (l : List Nat) (sv : SV) : Prop :=
  (l.Nodup) ∧
  (∀ x ∈ l, x < 30) ∧
  (∀ x ∈ l, ¬ M0 x) ∧
  (∀ x ∈ l, Cn (SE w) s x) ∧
  (s ∈ l) ∧
  (Mk sv (fun c => M0 c ∨ c ∈ l)) ∧
  (Qu sv l)
theorem BfI.nd {w : Nat → Int32} {M0 : Nat → Prop} {s : Nat} {l : List Nat} {sv : SV} (x : BfI w M0 s l sv) : l.Nodup := x.1
theorem BfI.lt {w : Nat → Int32} {M0 : Nat → Prop} {s : Nat} {l : List Nat} {sv : SV} (x : BfI w M0 s l sv) : ∀ x ∈ l, x < 30 := x.2.1
theorem BfI.fr {w : Nat → Int32} {M0 : Nat → Prop} {s : Nat} {l : List Nat} {sv : SV} (x : BfI w M0 s l sv) : ∀ x ∈ l, ¬ M0 x := x.2.2.1
theorem BfI.cn {w : Nat → Int32} {M0 : Nat → Prop} {s : Nat} {l : List Nat} {sv : SV} (x : BfI w M0 s l sv) : ∀ x ∈ l, Cn (SE w) s x := x.2.2.2.1
theorem BfI.s0 {w : Nat → Int32} {M0 : Nat → Prop} {s : Nat} {l : List Nat} {sv : SV} (x : BfI w M0 s l sv) : s ∈ l := x.2.2.2.2.1
theorem BfI.ma {w : Nat → Int32} {M0 : Nat → Prop} {s : Nat} {l : List Nat} {sv : SV} (x : BfI w M0 s l sv) : Mk sv (fun c => M0 c ∨ c ∈ l) := x.2.2.2.2.2.1
theorem BfI.qu {w : Nat → Int32} {M0 : Nat → Prop} {s : Nat} {l : List Nat} {sv : SV} (x : BfI w M0 s l sv) : Qu sv l := x.2.2.2.2.2.2
theorem BfI.mk {w : Nat → Int32} {M0 : Nat → Prop} {s : Nat} {l : List Nat} {sv : SV} (f_nd : l.Nodup) (f_lt : ∀ x ∈ l, x < 30) (f_fr : ∀ x ∈ l, ¬ M0 x) (f_cn : ∀ x ∈ l, Cn (SE w) s x) (f_s0 : s ∈ l) (f_ma : Mk sv (fun c => M0 c ∨ c ∈ l)) (f_qu : Qu sv l) : BfI w M0 s l sv := ⟨f_nd, f_lt, f_fr, f_cn, f_s0, f_ma, f_qu⟩
theorem BfI.len {w : Nat → Int32} {M0 : Nat → Prop} {s : Nat} {l : List Nat} {sv : SV} (h : BfI w M0 s l sv) : l.length ≤ 30 := by
  rw [← cnt_list h.nd h.lt]
  exact cnt_le _ _
/-- what is still to be seen of the cell at i, from the side k on -/
def seen (w : Nat → Int32) (M0 : Nat → Prop) (l : List Nat) (c k : Nat) : Prop := ∀ j d, j < k → nb c j = some d → SE w c d → M0 d ∨ d ∈ l
theorem bfs_in {q : QV} {w : Nat → Int32} (hr : RelQ q w) (M0 : Nat → Prop) (s hd c : Nat) (l0 : List Nat) (sv0 : SV) (h0 : BfI w M0 s l0 sv0) (hc : l0[hd]? = some c) (hhd : hd < 30)
    (hcl : ∀ i x, i < hd → l0[i]? = some x → seen w M0 l0 x 4) : ∃ (r : Int32 × Int32 × SV) (l : List Nat), jbL (fun s => f_X8_collectSeam_L57 q (nI hd) s.1 s.2.1 s.2.2) 5000 (nI l0.length, nI 0, sv0) = some r ∧ r.1 = nI l.length ∧ BfI w M0 s l r.2.2 ∧ (∃ l1, l = l0 ++ l1) ∧ ∀ i x, i < hd + 1 → l[i]? = some x → seen w M0 l x 4 := by
  have hc30 : c < 30 := h0.lt c (List.mem_of_getElem? hc)
  obtain ⟨r, h1, l, h2, h3, h4, h5⟩ := lpL (body := fun s : Int32 × Int32 × SV => f_X8_collectSeam_L57 q (nI hd) s.1 s.2.1 s.2.2)
    (fun k st => ∃ l, st.1 = nI l.length ∧ st.2.1 = nI k ∧ BfI w M0 s l st.2.2 ∧ (∃ l1, l = l0 ++ l1) ∧ seen w M0 l c k)
    (fun r => ∃ l, r.1 = nI l.length ∧ BfI w M0 s l r.2.2 ∧ (∃ l1, l = l0 ++ l1) ∧ seen w M0 l c 4) 4
    (fun k st hk ⟨l, e1, e2, hb, ⟨l1, hl1⟩, hsn⟩ => by
      left
      obtain ⟨x, y, sv⟩ := st
      have e1 : x = nI l.length := e1
      have e2 : y = nI k := e2
      have hb : BfI w M0 s l sv := hb
      subst e1; subst e2
      have hlen := hb.len
      have hcl0 : l[hd]? = some c := by
        rw [hl1, List.getElem?_append_left (List.getElem?_eq_some_iff.mp hc).1]
        exact hc
      have hq : sQueue sv (nI hd).toNatClampNeg = nI c := by rw [nI_clamp (by omega)]; exact hb.qu hd c hcl0
      have hjq : jIn (nI hd) 271 := nIin (by omega) (by decide)
      obtain ⟨k1, k0⟩ := q_cont hr c k hc30 hk
      have hL : f_X8_collectSeam_L57 q (nI hd) (nI l.length) (nI k) sv = (f_X8_continuesSeam q (nI c) (enc (nb c k))).bind fun o12 => if o12 = 0 then some (.inl (nI l.length, nI k + 1, sv)) else if jIn (enc (nb c k)) 30 then (if sMarked sv (enc (nb c k)).toNatClampNeg = 0 then (if 271 ≤ nI l.length then some (.inl (nI l.length, nI k + 1, sv)) else if jIn (enc (nb c k)) 30 then (if jIn (nI l.length) 271 then some (.inl (nI l.length + 1, nI k + 1, sSQueue (upd (sQueue sv) (nI l.length).toNatClampNeg (enc (nb c k))) (sSMarked (upd (sMarked sv) (enc (nb c k)).toNatClampNeg (vp_nar .boolean 1)) sv))) else none) else none) else some (.inl (nI l.length, nI k + 1, sv))) else none := by
        unfold f_X8_collectSeam_L57
        rw [if_neg (show ¬ (4 : Int32) ≤ nI k from nI_ge (a := k) (b := 4) hk (by decide)), if_pos hjq, hq, g_nb c k hc30 hk]
        show (if jIn (nI hd) 271 then _ else none) = _
        rw [if_pos hjq]
        rfl
      show ∃ s', f_X8_collectSeam_L57 q (nI hd) (nI l.length) (nI k) sv = _ ∧ _
      rw [hL]
      by_cases hse : ∃ d, nb c k = some d ∧ SE w c d
      · obtain ⟨d, hnd, hse⟩ := hse
        have hd30 := SE_lt hse
        have hjd : jIn (enc (nb c k)) 30 := by rw [hnd]; exact nIin hd30 (by decide)
        have hld : (enc (nb c k)).toNatClampNeg = d := by rw [hnd]; exact nI_clamp (by omega)
        rw [k1 d hnd hse]
        simp only [ob_s, i10, ↓reduceIte, if_pos hjd, hld]
        have hsame : (M0 d ∨ d ∈ l) → seen w M0 l c (k + 1) := fun hm j d' hj he hs' => by
          by_cases ej : j = k
          · subst ej
            rw [hnd] at he
            cases he
            exact hm
          · exact hsn j d' (by omega) he hs'
        by_cases hm : M0 d ∨ d ∈ l
        · rw [if_neg (by rw [(hb.ma d hd30).1 hm]; decide)]
          exact ⟨(nI l.length, nI (k + 1), sv), by rw [nI_1], l, rfl, rfl, hb, ⟨l1, hl1⟩, hsame hm⟩
        · have hlt : l.length < 271 := by omega
          rw [if_pos ((hb.ma d hd30).2 hm), if_neg (show ¬ (271 : Int32) ≤ nI l.length from nI_ge (a := l.length) (b := 271) hlt (by decide)), if_pos (nIin hlt (by decide)), nI_clamp (by omega)]
          refine ⟨(nI (l ++ [d]).length, nI (k + 1), sSQueue (upd (sQueue sv) l.length (enc (nb c k))) (sSMarked (upd (sMarked sv) d (vp_nar .boolean 1)) sv)), ?_, l ++ [d], rfl, rfl, ?_, ⟨l1 ++ [d], by rw [hl1, List.append_assoc]⟩, ?_⟩
          · rw [List.length_append, nI_1, nI_1]
            rfl
          · refine ⟨?_, ?_, ?_, ?_, List.mem_append_left _ hb.s0, ?_, ?_⟩
            · rw [List.nodup_append]
              refine ⟨hb.nd, by simp, fun a ha b hb' => ?_⟩
              rw [List.mem_singleton] at hb'
              subst hb'
              exact fun e => hm (Or.inr (e ▸ ha))
            · intro x hx
              rcases List.mem_append.mp hx with hx | hx
              · exact hb.lt x hx
              · rw [List.mem_singleton] at hx; subst hx; exact hd30
            · intro x hx
              rcases List.mem_append.mp hx with hx | hx
              · exact hb.fr x hx
              · rw [List.mem_singleton] at hx; subst hx; exact fun h => hm (Or.inl h)
            · intro x hx
              rcases List.mem_append.mp hx with hx | hx
              · exact hb.cn x hx
              · rw [List.mem_singleton] at hx; subst hx; exact .st (hb.cn c (List.mem_of_getElem? hcl0)) hse
            · intro x hx
              show (_ → upd (sMarked sv) d (vp_nar .boolean 1) x = 1) ∧ (_ → upd (sMarked sv) d (vp_nar .boolean 1) x = 0)
              by_cases e : x = d
              · subst e
                rw [upd_at]
                exact ⟨fun _ => by decide +kernel, fun h => absurd (Or.inr (List.mem_append_right _ (List.mem_singleton.mpr rfl))) h⟩
              · rw [upd_ne _ _ e]
                refine ⟨fun h => (hb.ma x hx).1 ?_, fun h => (hb.ma x hx).2 fun h2 => h ?_⟩
                · rcases h with h | h
                  · exact Or.inl h
                  · rcases List.mem_append.mp h with h | h
                    · exact Or.inr h
                    · exact absurd (List.mem_singleton.mp h) e
                · rcases h2 with h2 | h2
                  · exact Or.inl h2
                  · exact Or.inr (List.mem_append_left _ h2)
            · intro i x hx
              show upd (sQueue sv) l.length (enc (nb c k)) i = nI x
              by_cases e : i = l.length
              · subst e
                rw [List.getElem?_append_right (Nat.le_refl _), Nat.sub_self] at hx
                cases hx
                rw [upd_at, hnd]
                rfl
              · have hi : i < l.length := by
                  have := (List.getElem?_eq_some_iff.mp hx).1
                  rw [List.length_append, List.length_singleton] at this
                  omega
                rw [List.getElem?_append_left hi] at hx
                rw [upd_ne _ _ e]
                exact hb.qu i x hx
          · intro j d' hj he hs'
            by_cases ej : j = k
            · subst ej
              rw [hnd] at he
              cases he
              exact Or.inr (List.mem_append_right _ (List.mem_singleton.mpr rfl))
            · rcases hsn j d' (by omega) he hs' with h | h
              · exact Or.inl h
              · exact Or.inr (List.mem_append_left _ h)
      · rw [k0 (fun d hnd hs' => hse ⟨d, hnd, hs'⟩)]
        refine ⟨(nI l.length, nI (k + 1), sv), by rw [← nI_1]; rfl, l, rfl, rfl, hb, ⟨l1, hl1⟩, fun j d' hj he hs' => ?_⟩
        by_cases ej : j = k
        · subst ej
          exact absurd ⟨d', he, hs'⟩ hse
        · exact hsn j d' (by omega) he hs')
    (fun st ⟨l, e1, e2, hb, hl1, hsn⟩ => ⟨(st.1, st.2.1, st.2.2), by
      obtain ⟨x, y, sv⟩ := st
      have e2 : y = nI 4 := e2
      subst e2
      show f_X8_collectSeam_L57 q (nI hd) x (nI 4) sv = _
      unfold f_X8_collectSeam_L57
      rw [if_pos (show (4 : Int32) ≤ nI 4 from Int32.le_refl _)], l, e1, hb, hl1, hsn⟩) 5000 0 (nI l0.length, nI 0, sv0) (by omega) (by omega) ⟨l0, rfl, rfl, h0, ⟨[], (List.append_nil _).symm⟩, fun j d hj => absurd hj (Nat.not_lt_zero _)⟩
  obtain ⟨l1, hl1⟩ := h4
  refine ⟨r, l, h1, h2, h3, ⟨l1, hl1⟩, fun i x hi hx => ?_⟩
  by_cases e : i = hd
  · subst e
    rw [hl1, List.getElem?_append_left (List.getElem?_eq_some_iff.mp hc).1, hc] at hx
    cases hx
    exact h5
  · have hi2 : i < hd := by omega
    have hil : i < l0.length := Nat.lt_trans hi2 (List.getElem?_eq_some_iff.mp hc).1
    rw [hl1, List.getElem?_append_left hil] at hx
    intro j d hj he hs'
    rcases hcl i x hi2 hx j d hj he hs' with h | h
    · exact Or.inl h
    · exact Or.inr (by rw [hl1]; exact List.mem_append_left _ h)

