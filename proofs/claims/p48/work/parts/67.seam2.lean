/-- the whole search: from a cell above 0 that is not marked, the cells of its seam, each once -/
theorem bfs {q : QV} {w : Nat → Int32} (hr : RelQ q w) (M0 : Nat → Prop) (hM : ∀ a b, M0 a → SE w a b → M0 b) (s : Nat) (hs : s < 30) (hs0 : ¬ M0 s) (sv0 : SV) (h0 : BfI w M0 s [s] sv0) :
    ∃ (r : Int32 × Int32 × SV) (l : List Nat), jbL (fun s => f_X8_collectSeam_L38 q s.1 s.2.1 s.2.2) 5000 (1, 0, sv0) = some r ∧ r.1 = nI l.length ∧ BfI w M0 s l r.2.2 ∧ ∀ x, x ∈ l ↔ Cn (SE w) s x := by
  obtain ⟨r, h1, l, h2, h3, h4⟩ := lpW (body := fun s : Int32 × Int32 × SV => f_X8_collectSeam_L38 q s.1 s.2.1 s.2.2)
    (fun st => ∃ (l : List Nat) (hd : Nat), st.1 = nI l.length ∧ st.2.1 = nI hd ∧ hd ≤ l.length ∧ BfI w M0 s l st.2.2 ∧ ∀ i x, i < hd → l[i]? = some x → seen w M0 l x 4)
    (fun r => ∃ l, r.1 = nI l.length ∧ BfI w M0 s l r.2.2 ∧ ∀ i x, i < l.length → l[i]? = some x → seen w M0 l x 4) (fun st => 100 - vN st.2.1)
    (fun st ⟨l, hd, e1, e2, hle, hb, hsn⟩ => by
      obtain ⟨x, y, sv⟩ := st
      have e1 : x = nI l.length := e1
      have e2 : y = nI hd := e2
      subst e1; subst e2
      have hlen := hb.len
      show (∃ s', f_X8_collectSeam_L38 q (nI l.length) (nI hd) sv = _ ∧ _) ∨ _
      by_cases hlt : hd < l.length
      · left
        obtain ⟨c, hc⟩ : ∃ c, l[hd]? = some c := ⟨l[hd], List.getElem?_eq_getElem hlt⟩
        obtain ⟨r, l', k1, k2, k3, ⟨l1, k4⟩, k5⟩ := bfs_in hr M0 s hd c l sv hb hc (by omega) hsn
        have hle2 : hd + 1 ≤ l'.length := by rw [k4, List.length_append]; omega
        refine ⟨(r.1, nI hd + 1, r.2.2), ?_, ⟨l', hd + 1, k2, nI_1 hd, hle2, k3, k5⟩, ?_⟩
        · unfold f_X8_collectSeam_L38
          rw [if_neg (nI_ge hlt (by omega)), if_neg (show ¬ (271 : Int32) ≤ nI hd from nI_ge (a := hd) (b := 271) (by omega) (by decide)), show (nI l.length, (0 : Int32), sv) = (nI l.length, nI 0, sv) from rfl, k1]
          rfl
        · show 100 - vN (nI hd + 1) < 100 - vN (nI hd)
          rw [nI_1, vN_nI (by omega), vN_nI (by omega)]
          omega
      · right
        have e : hd = l.length := by omega
        subst e
        refine ⟨(nI l.length, nI l.length, sv), ?_, l, rfl, hb, hsn⟩
        show f_X8_collectSeam_L38 q (nI l.length) (nI l.length) sv = _
        unfold f_X8_collectSeam_L38
        rw [if_pos (Int32.le_refl _)]) 5000 (1, 0, sv0) (by show 100 - vN 0 < 5000; omega) ⟨[s], 0, rfl, rfl, by simp, h0, fun i x hi => absurd hi (Nat.not_lt_zero _)⟩
  refine ⟨r, l, h1, h2, h3, fun x => ⟨h3.cn x, fun hx => Cn.ind (P := fun x => x ∈ l) h3.s0 (fun a b _ ih e => ?_) hx⟩⟩
  obtain ⟨i, hi⟩ := List.getElem?_of_mem ih
  obtain ⟨hc30, ⟨k, hk, hn⟩, -⟩ := id e
  rcases h4 i _ (List.getElem?_eq_some_iff.mp hi).1 hi k _ hk hn e with h | h
  · exact absurd (hM _ _ h (SE_sy _ _ e)) (h3.fr _ ih)
  · exact h
/-- the program's search for a cell -/
theorem q_collect {q : QV} {w : Nat → Int32} {t : Nat} (hr : RelQ q w) (hi : InvW t w) (M0 : Nat → Prop) (hM : ∀ a b, M0 a → SE w a b → M0 b) (sv : SV) (hmk : Mk sv M0) (s : Nat) (hs : s < 30) :
    ((M0 s ∨ w (19 + 7 * s) ≤ 0) → f_X8_collectSeam sv q (nI s) = some (0, sv)) ∧
    (¬ M0 s → ¬ w (19 + 7 * s) ≤ 0 → ∃ sv' l, f_X8_collectSeam sv q (nI s) = some (nI l.length, sv') ∧ BfI w M0 s l sv' ∧ ∀ x, x ∈ l ↔ Cn (SE w) s x) := by
  have hj : jIn (nI s) 30 := nIin hs (by decide)
  have hcl : (nI s).toNatClampNeg = s := nI_clamp (by omega)
  have hz : w (19 + 7 * s) = 0 ↔ w (19 + 7 * s) ≤ 0 := by
    obtain ⟨n, hn, e⟩ := hi.h s hs
    rw [e, show (0 : Int32) = nI 0 from rfl, nI_eq (by omega) (by omega), nI_leI (by omega) (by omega)]
    omega
  refine ⟨fun h => ?_, fun h1 h2 => ?_⟩
  · unfold f_X8_collectSeam
    simp only [if_pos hj, hcl]
    by_cases hm : M0 s
    · rw [if_neg (by rw [(hmk s hs).1 hm]; decide)]
    · rw [if_pos ((hmk s hs).2 hm), q_heightAt hr s hs, Option.bind_some]
      rw [if_pos (hz.mpr (h.resolve_left hm))]
  · have h0 : BfI w M0 s [s] (sSQueue (upd (sQueue (sSMarked (upd (sMarked sv) s (vp_nar .boolean 1)) sv)) 0 (nI s)) (sSMarked (upd (sMarked sv) s (vp_nar .boolean 1)) sv)) := by
      refine ⟨by simp, ?_, ?_, ?_, by simp, ?_, ?_⟩
      · intro x hx; rw [List.mem_singleton] at hx; subst hx; exact hs
      · intro x hx; rw [List.mem_singleton] at hx; subst hx; exact h1
      · intro x hx; rw [List.mem_singleton] at hx; subst hx; exact .rf _
      · intro x hx
        show (_ → upd (sMarked sv) s (vp_nar .boolean 1) x = 1) ∧ (_ → upd (sMarked sv) s (vp_nar .boolean 1) x = 0)
        by_cases e : x = s
        · subst e
          rw [upd_at]
          exact ⟨fun _ => by decide +kernel, fun h => absurd (Or.inr (List.mem_singleton.mpr rfl)) h⟩
        · rw [upd_ne _ _ e]
          exact ⟨fun h => (hmk x hx).1 (h.resolve_right (fun h9 => e (List.mem_singleton.mp h9))), fun h => (hmk x hx).2 (fun h9 => h (Or.inl h9))⟩
      · intro i x hx
        cases i with
        | zero => cases hx; rfl
        | succ i => simp at hx
    obtain ⟨r, l, k1, k2, k3, k4⟩ := bfs hr M0 hM s hs h1 _ h0
    refine ⟨r.2.2, l, ?_, k3, k4⟩
    unfold f_X8_collectSeam
    have j0 : jIn (0 : Int32) 271 := nIin (c := 0) (by omega) (by decide)
    have c0 : (0 : Int32).toNatClampNeg = 0 := nI_clamp (n := 0) (by omega)
    have hne : ¬ w (19 + 7 * s) = 0 := fun h => h2 (hz.mp h)
    simp only [if_pos hj, hcl, if_pos ((hmk s hs).2 h1), q_heightAt hr s hs, ob_s, if_neg hne, if_pos j0, jb_u, c0, k1, k2]
theorem q_clear (sv : SV) : ∃ sv', f_X8_clearMarks sv = some sv' ∧ Mk sv' (fun _ => False) := by
  obtain ⟨r, h1, h2⟩ := lpL (body := fun s : Int32 × SV => f_X8_clearMarks_L2 s.1 s.2) (fun k s => s.1 = nI k ∧ ∀ c, c < k → sMarked s.2 c = 0) (fun r => ∀ c, c < 30 → sMarked r.2 c = 0) 30
    (fun k s hk ⟨e, ha⟩ => by
      left
      obtain ⟨x, sv⟩ := s
      have e : x = nI k := e
      subst e
      refine ⟨(nI (k + 1), sSMarked (upd (sMarked sv) k (vp_nar .boolean 0)) sv), ?_, rfl, fun c hc => ?_⟩
      · show f_X8_clearMarks_L2 (nI k) sv = _
        unfold f_X8_clearMarks_L2
        rw [if_neg (show ¬ (30 : Int32) ≤ nI k from nI_ge (a := k) (b := 30) hk (by decide)), if_pos (nIin hk (by decide)), nI_clamp (by omega), ← nI_1]
        rfl
      · show upd (sMarked sv) k (vp_nar .boolean 0) c = 0
        by_cases e : c = k
        · subst e; rw [upd_at]; decide +kernel
        · rw [upd_ne _ _ e]; exact ha c (by omega))
    (fun s ⟨e, ha⟩ => ⟨s, by
      obtain ⟨x, sv⟩ := s
      have e : x = nI 30 := e
      subst e
      show f_X8_clearMarks_L2 (nI 30) sv = _
      unfold f_X8_clearMarks_L2
      rw [if_pos (show (30 : Int32) ≤ nI 30 from Int32.le_refl _)], ha⟩) 5000 0 (nI 0, sv) (by omega) (by omega) ⟨rfl, fun c hc => absurd hc (Nat.not_lt_zero _)⟩
  refine ⟨r.2, ?_, fun c hc => ⟨fun h => h.elim, fun _ => h2 c hc⟩⟩
  unfold f_X8_clearMarks
  rw [show (0 : Int32) = nI 0 from rfl, h1]
  rfl

