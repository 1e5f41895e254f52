def isOne (w : Nat → Int32) (f : Nat → Nat) (c : Nat) : Prop := pos w c ∧ f c = c
theorem Mk.cong {sv : SV} {M M' : Nat → Prop} (h : Mk sv M) (e : ∀ c, M c ↔ M' c) : Mk sv M' := fun c hc => ⟨fun q => (h c hc).1 ((e c).mpr q), fun q => (h c hc).2 (fun q2 => q ((e c).mp q2))⟩
theorem pos_cn {w : Nat → Int32} {c d : Nat} (hp : pos w c) (h : Cn (SE w) c d) : pos w d := Cn.ind (P := fun d => pos w d) hp (fun a b _ _ e => e.2.2.2.1) h
/-- by search -/
theorem q_search {q : QV} {w : Nat → Int32} {t : Nat} (hr : RelQ q w) (hi : InvW t w) (sv : SV) (f : Nat → Nat) (hf : LOk w f) (hcf : ∀ c d, c < 30 → pos w c → Cn (SE w) c d → f c = f d) : ∃ sv', f_X8_seamsBySearch sv q = some (nI (cnt (isOne w f) 30), sv') := by
  obtain ⟨sv1, h1, h2⟩ := q_clear sv
  obtain ⟨r, g1, g2⟩ := lpL (body := fun s : Int32 × Int32 × SV => f_X8_seamsBySearch_L8 q s.1 s.2.1 s.2.2)
    (fun k s => s.1 = nI (cnt (isOne w f) k) ∧ s.2.1 = nI k ∧ Mk s.2.2 (fun c => ∃ s, s < k ∧ pos w s ∧ Cn (SE w) s c)) (fun r => r.1 = nI (cnt (isOne w f) 30)) 30
    (fun k s hk ⟨e1, e2, e3⟩ => by
      left
      obtain ⟨x, y, sv⟩ := s
      have e1 : x = nI (cnt (isOne w f) k) := e1
      have e2 : y = nI k := e2
      have e3 : Mk sv (fun c => ∃ s, s < k ∧ pos w s ∧ Cn (SE w) s c) := e3
      subst e1; subst e2
      obtain ⟨c0, c1⟩ := q_collect hr hi (fun c => ∃ s, s < k ∧ pos w s ∧ Cn (SE w) s c) (fun a b ⟨s, h1, h2, h3⟩ e => ⟨s, h1, h2, h3.st e⟩) sv e3 k hk
      show ∃ s', f_X8_seamsBySearch_L8 q (nI (cnt (isOne w f) k)) (nI k) sv = _ ∧ _
      have hskip : f_X8_collectSeam sv q (nI k) = some (0, sv) → f_X8_seamsBySearch_L8 q (nI (cnt (isOne w f) k)) (nI k) sv = some (.inl (nI (cnt (isOne w f) k), nI (k + 1), sv)) := by
        intro h
        unfold f_X8_seamsBySearch_L8 f_X8_seamsBySearch_J26
        rw [if_neg (show ¬ (30 : Int32) ≤ nI k from nI_ge (a := k) (b := 30) hk (by decide)), h]
        simp only [ob_s, nI_1, if_pos (Int32.le_refl (0 : Int32))]
      by_cases hp : pos w k
      · by_cases hm : ∃ s, s < k ∧ pos w s ∧ Cn (SE w) s k
        · refine ⟨_, hskip (c0 (Or.inl hm)), ?_, rfl, e3.cong fun c => ⟨fun ⟨s, q1, q2, q3⟩ => ⟨s, by omega, q2, q3⟩, fun ⟨s, q1, q2, q3⟩ => ?_⟩⟩
          · obtain ⟨s, q1, q2, q3⟩ := hm
            have hfs := hf s (by omega) q2
            rw [cnt_no (p := isOne w f) (fun q => by have := hcf s k (by omega) q2 q3; have := q.2; omega)]
          · by_cases es : s = k
            · subst es
              obtain ⟨s2, p1, p2, p3⟩ := hm
              exact ⟨s2, p1, p2, p3.tr q3⟩
            · exact ⟨s, by omega, q2, q3⟩
        · obtain ⟨sv', l, b1, b2, b3⟩ := c1 hm hp
          have hlen := b2.len
          have h0 : 0 < l.length := List.length_pos_of_mem b2.s0
          have hfk : f k = k := by
            have hfk := hf k hk hp
            apply Classical.byContradiction
            intro h9
            exact hm ⟨f k, by omega, pos_cn hp hfk.2.1, Cn.sy SE_sy hfk.2.1⟩
          refine ⟨(nI (cnt (isOne w f) (k + 1)), nI (k + 1), sv'), ?_, rfl, rfl, b2.ma.cong fun c => ⟨fun q => ?_, fun ⟨s, q1, q2, q3⟩ => ?_⟩⟩
          · unfold f_X8_seamsBySearch_L8 f_X8_seamsBySearch_J26
            rw [if_neg (show ¬ (30 : Int32) ≤ nI k from nI_ge (a := k) (b := 30) hk (by decide)), b1, cnt_yes (p := isOne w f) ⟨hp, hfk⟩]
            simp only [ob_s, nI_1, if_neg (nI_nle h0 (show l.length < 2 ^ 31 by omega))]
          · rcases q with ⟨s, q1, q2, q3⟩ | q
            · exact ⟨s, by omega, q2, q3⟩
            · exact ⟨k, by omega, hp, (b3 c).mp q⟩
          · by_cases es : s = k
            · subst es; exact Or.inr ((b3 c).mpr q3)
            · exact Or.inl ⟨s, by omega, q2, q3⟩
      · refine ⟨_, hskip (c0 (Or.inr (Classical.byContradiction fun h => hp h))), ?_, rfl, e3.cong fun c => ⟨fun ⟨s, q1, q2, q3⟩ => ⟨s, by omega, q2, q3⟩, fun ⟨s, q1, q2, q3⟩ => ?_⟩⟩
        · rw [cnt_no (p := isOne w f) (fun q => hp q.1)]
        · exact ⟨s, by have : s ≠ k := fun es => hp (es ▸ q2); omega, q2, q3⟩)
    (fun s ⟨e1, e2, e3⟩ => ⟨s, by
      obtain ⟨x, y, sv⟩ := s
      have e2 : y = nI 30 := e2
      subst e2
      show f_X8_seamsBySearch_L8 q x (nI 30) sv = _
      unfold f_X8_seamsBySearch_L8
      rw [if_pos (show (30 : Int32) ≤ nI 30 from Int32.le_refl _)], e1⟩) 5000 0 (nI 0, nI 0, sv1) (by omega) (by omega) ⟨rfl, rfl, h2.cong fun c => ⟨fun h => h.elim, fun ⟨s, q1, _⟩ => absurd q1 (Nat.not_lt_zero _)⟩⟩
  have g1' : jbL (fun s : Int32 × Int32 × SV => f_X8_seamsBySearch_L8 q s.1 s.2.1 s.2.2) 5000 ((0 : Int32), (0 : Int32), sv1) = some r := g1
  refine ⟨r.2.2, ?_⟩
  unfold f_X8_seamsBySearch
  simp only [h1, ob_s, g1', g2]
theorem nI_p1 (n : Nat) : nI (n + 1) + (-1) = nI n := by rw [← nI_1, Int32.add_assoc, show (1 : Int32) + -1 = 0 by decide, Int32.add_zero]
theorem cnt_rem {p q : Nat → Prop} {x : Nat} (hx : p x) (h : ∀ c, q c ↔ p c ∧ c ≠ x) : ∀ n, x < n → cnt q n + 1 = cnt p n
  | 0, hn => absurd hn (Nat.not_lt_zero _)
  | n + 1, hn => by
    by_cases e : x = n
    · have e1 : cnt q n = cnt p n := cnt_cong n (fun c hc => (h c).trans ⟨fun z => z.1, fun z => ⟨z, by omega⟩⟩)
      rw [cnt_yes (p := p) (n := n) (e ▸ hx), cnt_no (p := q) (n := n) (fun hq => ((h n).mp hq).2 e.symm), e1]
    · have ih := cnt_rem hx h n (by omega)
      by_cases hp : p n
      · rw [cnt_yes hp, cnt_yes ((h n).mpr ⟨hp, fun e2 => e e2.symm⟩)]; omega
      · rw [cnt_no hp, cnt_no (fun hq => hp ((h n).mp hq).1)]; exact ih
theorem cnt_not (p : Nat → Prop) : ∀ n, cnt p n + cnt (fun c => ¬ p c) n = n
  | 0 => rfl
  | n + 1 => by
    have ih := cnt_not p n
    by_cases h : p n
    · rw [cnt_yes h, cnt_no (p := fun c => ¬ p c) (fun q => q h)]; omega
    · rw [cnt_no h, cnt_yes (p := fun c => ¬ p c) h]; omega
theorem nd_map {φ : Nat → Nat} : ∀ l : List Nat, l.Nodup → (∀ x, x ∈ l → ∀ y, y ∈ l → φ x = φ y → x = y) → (l.map φ).Nodup
  | [], _, _ => by simp
  | a :: l, hn, hi => by
    rw [List.nodup_cons] at hn
    rw [List.map_cons, List.nodup_cons]
    refine ⟨fun hm => ?_, nd_map l hn.2 (fun x hx y hy => hi x (List.mem_cons_of_mem _ hx) y (List.mem_cons_of_mem _ hy))⟩
    obtain ⟨b, hb, e⟩ := List.mem_map.mp hm
    have := hi a (by simp) b (List.mem_cons_of_mem _ hb) e.symm
    exact hn.1 (this ▸ hb)
theorem cnt_inj {p q : Nat → Prop} {n : Nat} (φ : Nat → Nat) (h : ∀ c, c < n → p c → φ c < n ∧ q (φ c)) (hi : ∀ c d, c < n → d < n → p c → p d → φ c = φ d → c = d) : cnt p n ≤ cnt q n := by
  have hm : ∀ x, x ∈ (List.range n).filter (fun c => dcd (p c)) → x < n ∧ p x := fun x hx => ⟨List.mem_range.mp (List.mem_filter.mp hx).1, dcd_t.mp (List.mem_filter.mp hx).2⟩
  have hn : ((List.range n).filter (fun c => dcd (p c))).Nodup := List.Pairwise.filter _ List.nodup_range
  have h1 : cnt p n = ((List.range n).filter (fun c => dcd (p c))).length := List.countP_eq_length_filter
  generalize (List.range n).filter (fun c => dcd (p c)) = l at *
  have hn2 : (l.map φ).Nodup := nd_map l hn (fun x hx y hy e => hi x y (hm x hx).1 (hm y hy).1 (hm x hx).2 (hm y hy).2 e)
  have hlt : ∀ x, x ∈ l.map φ → x < n ∧ q x := fun x hx => by
    obtain ⟨c, hc, e⟩ := List.mem_map.mp hx
    subst e
    exact h c (hm c hc).1 (hm c hc).2
  have h2 := cnt_list hn2 (fun x hx => (hlt x hx).1)
  rw [h1, ← List.length_map (f := φ), ← h2]
  exact cnt_mono (fun c hc => (hlt c hc).2) n
/-- two ways to take one cell of each seam -/
theorem reps {w : Nat → Int32} {f g : Nat → Nat} (hf : ∀ c, c < 30 → pos w c → f c < 30 ∧ Cn (SE w) c (f c)) (hcf : ∀ c d, c < 30 → pos w c → Cn (SE w) c d → f c = f d) (hg : ∀ c, c < 30 → pos w c → g c < 30 ∧ Cn (SE w) c (g c)) (hcg : ∀ c d, c < 30 → pos w c → Cn (SE w) c d → g c = g d) : cnt (isOne w f) 30 ≤ cnt (isOne w g) 30 := by
  refine cnt_inj g (fun c hc ho => ⟨(hg c hc ho.1).1, pos_cn ho.1 (hg c hc ho.1).2, (hcg c (g c) hc ho.1 (hg c hc ho.1).2).symm⟩) (fun c d hc hd ho ho2 e => ?_)
  have h1 : Cn (SE w) c d := (hg c hc ho.1).2.tr (by rw [e]; exact Cn.sy SE_sy (hg d hd ho2.1).2)
  rw [← ho.2, ← ho2.2]
  exact hcf c d hc ho.1 h1
def LB (w : Nat → Int32) (L : Nat → Nat) (sv : SV) : Prop := ∀ x, x < 30 → sLabels sv x = nI (L x) ∧ L x < 30 ∧ Cn (SE w) x (L x) ∧ L (L x) = L x
def Dn (w : Nat → Int32) (L : Nat → Nat) (c k : Nat) : Prop := ∀ x j d, (x < c ∨ (x = c ∧ j < k)) → j < 4 → nb x j = some d → SE w x d → L x = L d
theorem q_relabel (sv : SV) (L : Nat → Nat) (hL : ∀ x, x < 30 → sLabels sv x = nI (L x) ∧ L x < 30) (a b : Nat) (ha : a < 30) (hb : b < 30) : ∃ sv', f_X8_relabel sv (nI a) (nI b) = some sv' ∧ ∀ x, x < 30 → sLabels sv' x = nI (if L x = a then b else L x) := by
  obtain ⟨r, h1, h2⟩ := lpL (body := fun s : Int32 × SV => f_X8_relabel_L2 (nI a) (nI b) s.1 s.2) (fun k s => s.1 = nI k ∧ ∀ x, x < 30 → sLabels s.2 x = nI (if x < k ∧ L x = a then b else L x)) (fun r => ∀ x, x < 30 → sLabels r.2 x = nI (if L x = a then b else L x)) 30
    (fun k s hk ⟨e, hs⟩ => by
      left
      obtain ⟨x, sv1⟩ := s
      have e : x = nI k := e
      have hs : ∀ x, x < 30 → sLabels sv1 x = nI (if x < k ∧ L x = a then b else L x) := hs
      subst e
      have hlk : sLabels sv1 k = nI (L k) := by rw [hs k hk, if_neg (fun q => Nat.lt_irrefl k q.1)]
      have hLk := (hL k hk).2
      show ∃ s', f_X8_relabel_L2 (nI a) (nI b) (nI k) sv1 = _ ∧ _
      have hjk : jIn (nI k) 30 := nIin hk (by decide)
      have hck : (nI k).toNatClampNeg = k := nI_clamp (by omega)
      by_cases hk2 : L k = a
      · have hlk2 : sLabels sv1 k = nI a := by rw [hlk, hk2]
        refine ⟨(nI (k + 1), sSLabels (upd (sLabels sv1) k (nI b)) sv1), ?_, rfl, fun x hx => ?_⟩
        · unfold f_X8_relabel_L2 f_X8_relabel_J25
          rw [if_neg (show ¬ (30 : Int32) ≤ nI k from nI_ge (a := k) (b := 30) hk (by decide))]
          simp only [if_pos hjk, hck, hlk2, ↓reduceIte, jb_u, nI_1]
        · show upd (sLabels sv1) k (nI b) x = _
          by_cases ex : x = k
          · subst ex; rw [upd_at, if_pos ⟨by omega, hk2⟩]
          · rw [upd_ne _ _ ex, hs x hx]
            by_cases hq : L x = a
            · by_cases hxk : x < k
              · rw [if_pos ⟨hxk, hq⟩, if_pos ⟨by omega, hq⟩]
              · rw [if_neg (fun q => hxk q.1), if_neg (fun q => by have := q.1; omega)]
            · rw [if_neg (fun q => hq q.2), if_neg (fun q => hq q.2)]
      · have hlk2 : ¬ sLabels sv1 k = nI a := by rw [hlk, nI_eq (by omega) (by omega)]; exact hk2
        refine ⟨(nI (k + 1), sv1), ?_, rfl, fun x hx => ?_⟩
        · unfold f_X8_relabel_L2 f_X8_relabel_J25
          rw [if_neg (show ¬ (30 : Int32) ≤ nI k from nI_ge (a := k) (b := 30) hk (by decide))]
          simp only [if_pos hjk, hck, if_neg hlk2, nI_1]
        · show sLabels sv1 x = _
          rw [hs x hx]
          by_cases hq : L x = a
          · have hne : x ≠ k := fun e => hk2 (e ▸ hq)
            by_cases hxk : x < k
            · rw [if_pos ⟨hxk, hq⟩, if_pos ⟨by omega, hq⟩]
            · rw [if_neg (fun q => hxk q.1), if_neg (fun q => by have := q.1; omega)]
          · rw [if_neg (fun q => hq q.2), if_neg (fun q => hq q.2)])
    (fun s ⟨e, hs⟩ => ⟨s, by
      obtain ⟨x, sv1⟩ := s
      have e : x = nI 30 := e
      subst e
      show f_X8_relabel_L2 (nI a) (nI b) (nI 30) sv1 = _
      unfold f_X8_relabel_L2
      rw [if_pos (show (30 : Int32) ≤ nI 30 from Int32.le_refl _)], fun x hx => by
        rw [hs x hx]
        by_cases hq : L x = a
        · rw [if_pos ⟨hx, hq⟩, if_pos hq]
        · rw [if_neg (fun q => hq q.2), if_neg hq]⟩) 5000 0 (nI 0, sv) (by omega) (by omega) ⟨rfl, fun x hx => by rw [(hL x hx).1, if_neg (fun q => absurd q.1 (Nat.not_lt_zero _))]⟩
  refine ⟨r.2, ?_, h2⟩
  have h1' : jbL (fun s : Int32 × SV => f_X8_relabel_L2 (nI a) (nI b) s.1 s.2) 5000 ((0 : Int32), sv) = some r := h1
  unfold f_X8_relabel
  simp only [h1', ob_s]
theorem q_merge1 {q : QV} {w : Nat → Int32} (hr : RelQ q w) (c : Nat) (hc : c < 30) (L0 : Nat → Nat) (sv0 : SV) (h0 : LB w L0 sv0) (hd0 : Dn w L0 c 0) : ∃ (r : Int32 × Int32 × SV) (L : Nat → Nat), jbL (fun s : Int32 × Int32 × SV => f_X8_seamsByMerging_L41 q (nI c) s.1 s.2.1 s.2.2) 5000 (nI (cnt (isOne w L0) 30), nI 0, sv0) = some r ∧ r.1 = nI (cnt (isOne w L) 30) ∧ LB w L r.2.2 ∧ Dn w L c 4 := by
  have hjc : jIn (nI c) 30 := nIin hc (by decide)
  have hlc : (nI c).toNatClampNeg = c := nI_clamp (by omega)
  obtain ⟨r, h1, L, h2⟩ := lpL (body := fun s : Int32 × Int32 × SV => f_X8_seamsByMerging_L41 q (nI c) s.1 s.2.1 s.2.2)
    (fun k s => ∃ L, s.1 = nI (cnt (isOne w L) 30) ∧ s.2.1 = nI k ∧ LB w L s.2.2 ∧ Dn w L c k)
    (fun r => ∃ L, r.1 = nI (cnt (isOne w L) 30) ∧ LB w L r.2.2 ∧ Dn w L c 4) 4
    (fun k s hk ⟨L, e1, e2, hb, hdn⟩ => by
      left
      obtain ⟨x, y, sv⟩ := s
      have e1 : x = nI (cnt (isOne w L) 30) := e1
      have e2 : y = nI k := e2
      have hb : LB w L sv := hb
      subst e1; subst e2
      obtain ⟨k1, k0⟩ := q_cont hr c k hc hk
      have hun : ∀ x2 : Int32, f_X8_seamsByMerging_L41 q (nI c) x2 (nI k) sv = (f_X8_continuesSeam q (nI c) (enc (nb c k))).bind fun o8 => if o8 = 0 then some (.inl (x2, nI k + 1, sv)) else if jIn (nI c) 30 then (if jIn (enc (nb c k)) 30 then (if sLabels sv (nI c).toNatClampNeg = sLabels sv (enc (nb c k)).toNatClampNeg then some (.inl (x2, nI k + 1, sv)) else (if jIn (enc (nb c k)) 30 then (if jIn (nI c) 30 then (f_X8_relabel sv (sLabels sv (enc (nb c k)).toNatClampNeg) (sLabels sv (nI c).toNatClampNeg)).bind fun o14 => some (.inl (x2 + (-1), nI k + 1, o14)) else none) else none)) else none) else none := by
        intro x2
        unfold f_X8_seamsByMerging_L41
        rw [if_neg (show ¬ (4 : Int32) ≤ nI k from nI_ge (a := k) (b := 4) hk (by decide)), g_nb c k hc hk]
        rfl
      show ∃ s', f_X8_seamsByMerging_L41 q (nI c) (nI (cnt (isOne w L) 30)) (nI k) sv = _ ∧ _
      rw [hun]
      by_cases hse : ∃ d, nb c k = some d ∧ SE w c d
      · obtain ⟨d, hnd, hse⟩ := hse
        have hd30 := SE_lt hse
        have hjd : jIn (enc (nb c k)) 30 := by rw [hnd]; exact nIin hd30 (by decide)
        have hld : (enc (nb c k)).toNatClampNeg = d := by rw [hnd]; exact nI_clamp (by omega)
        have hbc := hb c hc
        have hbd := hb d hd30
        rw [k1 d hnd hse]
        simp only [ob_s, i10, ↓reduceIte, if_pos hjd, if_pos hjc, hld, hlc, hbc.1, hbd.1]
        by_cases e : L c = L d
        · rw [if_pos (by rw [e])]
          refine ⟨(nI (cnt (isOne w L) 30), nI (k + 1), sv), by rw [nI_1], L, rfl, rfl, hb, fun x j d' h hj he hs => ?_⟩
          by_cases ej : x = c ∧ j = k
          · obtain ⟨e1, e2⟩ := ej
            subst e1; subst e2
            rw [hnd] at he
            cases he
            exact e
          · exact hdn x j d' (by omega) hj he hs
        · rw [if_neg (by rw [nI_eq (by omega) (by omega)]; exact e)]
          obtain ⟨sv', r1, r2⟩ := q_relabel sv L (fun x hx => ⟨(hb x hx).1, (hb x hx).2.1⟩) (L d) (L c) hbd.2.1 hbc.2.1
          have hne : L c ≠ L d := e
          have hcd : Cn (SE w) c d := Cn.one hse
          have hcnt : cnt (isOne w (fun x => if L x = L d then L c else L x)) 30 + 1 = cnt (isOne w L) 30 := by
            refine cnt_rem (x := L d) ⟨pos_cn hse.2.2.2.1 hbd.2.2.1, hbd.2.2.2⟩ (fun z => ?_) 30 hbd.2.1
            constructor
            · intro ⟨z1, z2⟩
              by_cases hz : L z = L d
              · have z2 : (if L z = L d then L c else L z) = z := z2
                rw [if_pos hz] at z2
                rw [← z2, hbc.2.2.2] at hz
                exact absurd hz hne
              · have z2 : (if L z = L d then L c else L z) = z := z2
                rw [if_neg hz] at z2
                exact ⟨⟨z1, z2⟩, fun h9 => hz (by rw [h9]; exact hbd.2.2.2)⟩
            · intro ⟨⟨z1, z2⟩, z3⟩
              refine ⟨z1, ?_⟩
              show (if L z = L d then L c else L z) = z
              rw [if_neg (fun h9 => z3 (by rw [← z2]; exact h9))]
              exact z2
          refine ⟨(nI (cnt (isOne w (fun x => if L x = L d then L c else L x)) 30), nI (k + 1), sv'), ?_, fun x => if L x = L d then L c else L x, rfl, rfl, fun x hx => ⟨r2 x hx, ?_, ?_, ?_⟩, fun x j d' h hj he hs => ?_⟩
          · rw [r1, ← hcnt]
            simp only [ob_s, nI_p1, nI_1]
          · show (if L x = L d then L c else L x) < 30
            by_cases hz : L x = L d
            · rw [if_pos hz]; exact hbc.2.1
            · rw [if_neg hz]; exact (hb x hx).2.1
          · show Cn (SE w) x (if L x = L d then L c else L x)
            by_cases hz : L x = L d
            · rw [if_pos hz]
              have h9 := (hb x hx).2.2.1
              rw [hz] at h9
              exact (h9.tr (Cn.sy SE_sy hbd.2.2.1)).tr ((Cn.sy SE_sy hcd).tr hbc.2.2.1)
            · rw [if_neg hz]; exact (hb x hx).2.2.1
          · show (if L (if L x = L d then L c else L x) = L d then L c else L (if L x = L d then L c else L x)) = (if L x = L d then L c else L x)
            by_cases hz : L x = L d
            · simp only [if_pos hz, hbc.2.2.2]
              rw [if_neg hne]
            · simp only [if_neg hz, (hb x hx).2.2.2]
          · show (if L x = L d then L c else L x) = (if L d' = L d then L c else L d')
            by_cases ej : x = c ∧ j = k
            · obtain ⟨e1, e2⟩ := ej
              subst e1; subst e2
              rw [hnd] at he
              cases he
              rw [if_neg hne, if_pos rfl]
            · rw [hdn x j d' (by omega) hj he hs]
      · rw [k0 (fun d hnd hs' => hse ⟨d, hnd, hs'⟩)]
        refine ⟨(nI (cnt (isOne w L) 30), nI (k + 1), sv), by rw [← nI_1]; rfl, L, rfl, rfl, hb, fun x j d' h hj he hs => ?_⟩
        by_cases ej : x = c ∧ j = k
        · obtain ⟨e1, e2⟩ := ej
          subst e1; subst e2
          exact absurd ⟨d', he, hs⟩ hse
        · exact hdn x j d' (by omega) hj he hs)
    (fun s ⟨L, e1, e2, hb, hdn⟩ => ⟨s, by
      obtain ⟨x, y, sv⟩ := s
      have e2 : y = nI 4 := e2
      subst e2
      show f_X8_seamsByMerging_L41 q (nI c) x (nI 4) sv = _
      unfold f_X8_seamsByMerging_L41
      rw [if_pos (show (4 : Int32) ≤ nI 4 from Int32.le_refl _)], L, e1, hb, hdn⟩) 5000 0 (nI (cnt (isOne w L0) 30), nI 0, sv0) (by omega) (by omega) ⟨L0, rfl, rfl, h0, hd0⟩
  exact ⟨r, L, h1, h2⟩
theorem q_merge {q : QV} {w : Nat → Int32} {t : Nat} (hr : RelQ q w) (hi : InvW t w) (sv : SV) (f : Nat → Nat) (hf : LOk w f) (hcf : ∀ c d, c < 30 → pos w c → Cn (SE w) c d → f c = f d) : ∃ sv', f_X8_seamsByMerging sv q = some (nI (cnt (isOne w f) 30), sv') := by
  obtain ⟨r0, a1, a2⟩ := lpL (body := fun s : Int32 × SV => f_X8_seamsByMerging_L2 q s.1 s.2) (fun k s => s.1 = nI k ∧ ∀ c, c < k → sLabels s.2 c = nI c) (fun r => ∀ c, c < 30 → sLabels r.2 c = nI c) 30
    (fun k s hk ⟨e, ha⟩ => by
      left
      obtain ⟨x, sv⟩ := s
      have e : x = nI k := e
      subst e
      refine ⟨(nI (k + 1), sSLabels (upd (sLabels sv) k (nI k)) sv), ?_, rfl, fun c hc => ?_⟩
      · show f_X8_seamsByMerging_L2 q (nI k) sv = _
        unfold f_X8_seamsByMerging_L2
        rw [if_neg (show ¬ (30 : Int32) ≤ nI k from nI_ge (a := k) (b := 30) hk (by decide)), if_pos (nIin hk (by decide)), nI_clamp (by omega)]
        simp only [jb_u, nI_1]
      · show upd (sLabels sv) k (nI k) c = nI c
        by_cases e : c = k
        · subst e; rw [upd_at]
        · rw [upd_ne _ _ e]; exact ha c (by omega))
    (fun s ⟨e, ha⟩ => ⟨s, by
      obtain ⟨x, sv⟩ := s
      have e : x = nI 30 := e
      subst e
      show f_X8_seamsByMerging_L2 q (nI 30) sv = _
      unfold f_X8_seamsByMerging_L2
      rw [if_pos (show (30 : Int32) ≤ nI 30 from Int32.le_refl _)], ha⟩) 5000 0 (nI 0, sv) (by omega) (by omega) ⟨rfl, fun c hc => absurd hc (Nat.not_lt_zero _)⟩
  have hz : ∀ c, c < 30 → (w (19 + 7 * c) = 0 ↔ ¬ pos w c) := fun c hc => by
    obtain ⟨n, hn, e⟩ := hi.h c hc
    unfold pos
    rw [e, show (0 : Int32) = nI 0 from rfl, nI_eq (by omega) (by omega), nI_leI (by omega) (by omega)]
    omega
  have hcnt : f_X7_countAt q 0 = some (nI (cnt (fun c => ¬ pos w c) 30)) := by
    have hl : jbL (fun s : Int32 × Int32 => f_X7_countAt_L4 q 0 s.1 s.2) 5000 (nI (cnt (fun c => ¬ pos w c) 0), nI 0) = some (nI (cnt (fun c => ¬ pos w c) 30), nI 30) := by
      refine lpD (fun j => (nI (cnt (fun c => ¬ pos w c) j), nI j)) _ 30 (fun d hd => ?_) ?_ 5000 (by decide)
      · show f_X7_countAt_L4 q 0 (nI (cnt (fun c => ¬ pos w c) d)) (nI d) = some (Sum.inl (nI (cnt (fun c => ¬ pos w c) (d + 1)), nI (d + 1)))
        unfold f_X7_countAt_L4 f_X7_countAt_J23
        rw [if_neg (show ¬ (30 : Int32) ≤ nI d from nI_ge (a := d) (b := 30) hd (by decide)), if_pos (nIin hd (by decide)), nI_clamp (by omega), hr.h d hd]
        by_cases hp : pos w d
        · rw [if_neg (fun q => (hz d hd).mp q hp), cnt_no (p := fun c => ¬ pos w c) (fun q => q hp), nI_1]
        · rw [if_pos ((hz d hd).mpr hp), cnt_yes (p := fun c => ¬ pos w c) hp, nI_1, nI_1]
      · show f_X7_countAt_L4 q 0 _ (nI 30) = _
        unfold f_X7_countAt_L4
        rw [if_pos (show (30 : Int32) ≤ nI 30 from Int32.le_refl _)]
    have hl' : jbL (fun s : Int32 × Int32 => f_X7_countAt_L4 q 0 s.1 s.2) 5000 ((0 : Int32), (0 : Int32)) = some (nI (cnt (fun c => ¬ pos w c) 30), nI 30) := hl
    unfold f_X7_countAt
    simp only [hl', ob_s]
  have hid : cnt (isOne w (fun c => c)) 30 = cnt (pos w) 30 := cnt_cong 30 fun c _ => ⟨fun h => h.1, fun h => ⟨h, rfl⟩⟩
  have hsum := cnt_not (pos w) 30
  have hz3 : (30 : Int32) - nI (cnt (fun c => ¬ pos w c) 30) = nI (cnt (isOne w (fun c => c)) 30) := by
    have h30 : 30 - cnt (fun c => ¬ pos w c) 30 = cnt (pos w) 30 := by omega
    rw [show (30 : Int32) = nI 30 from rfl, nIsub (by omega), hid, h30]
  obtain ⟨r, h1, L, h2⟩ := lpL (body := fun s : Int32 × Int32 × SV => f_X8_seamsByMerging_L32 q s.1 s.2.1 s.2.2)
    (fun c s => ∃ L, s.1 = nI (cnt (isOne w L) 30) ∧ s.2.1 = nI c ∧ LB w L s.2.2 ∧ Dn w L c 0)
    (fun r => ∃ L, r.1 = nI (cnt (isOne w L) 30) ∧ LB w L r.2.2 ∧ Dn w L 30 0) 30
    (fun c s hc ⟨L, e1, e2, hb, hdn⟩ => by
      left
      obtain ⟨x, y, sv⟩ := s
      have e1 : x = nI (cnt (isOne w L) 30) := e1
      have e2 : y = nI c := e2
      have hb : LB w L sv := hb
      subst e1; subst e2
      obtain ⟨r, L', b1, b2, b3, b4⟩ := q_merge1 hr c hc L sv hb hdn
      have b1' : jbL (fun s : Int32 × Int32 × SV => f_X8_seamsByMerging_L41 q (nI c) s.1 s.2.1 s.2.2) 5000 (nI (cnt (isOne w L) 30), (0 : Int32), sv) = some r := b1
      refine ⟨(r.1, nI (c + 1), r.2.2), ?_, L', b2, rfl, b3, fun x j d h hj he hs => b4 x j d (by omega) hj he hs⟩
      show f_X8_seamsByMerging_L32 q (nI (cnt (isOne w L) 30)) (nI c) sv = _
      unfold f_X8_seamsByMerging_L32
      rw [if_neg (show ¬ (30 : Int32) ≤ nI c from nI_ge (a := c) (b := 30) hc (by decide)), b1']
      simp only [ob_s, nI_1])
    (fun s ⟨L, e1, e2, hb, hdn⟩ => ⟨s, by
      obtain ⟨x, y, sv⟩ := s
      have e2 : y = nI 30 := e2
      subst e2
      show f_X8_seamsByMerging_L32 q x (nI 30) sv = _
      unfold f_X8_seamsByMerging_L32
      rw [if_pos (show (30 : Int32) ≤ nI 30 from Int32.le_refl _)], L, e1, hb, hdn⟩) 5000 0 (nI (cnt (isOne w (fun c => c)) 30), nI 0, r0.2) (by omega) (by omega) ⟨fun c => c, rfl, rfl, fun x hx => ⟨a2 x hx, hx, Cn.rf x, rfl⟩, fun x j d h => by omega⟩
  obtain ⟨g1, g2, g3⟩ := h2
  have hE : ∀ a b, SE w a b → L a = L b := fun a b e => by
    obtain ⟨hc30, ⟨k, hk, hn⟩, -⟩ := id e
    exact g3 a k b (Or.inl hc30) hk hn e
  have hcL : ∀ c d, c < 30 → pos w c → Cn (SE w) c d → L c = L d := fun c d _ _ h => Cn.ind (P := fun d => L c = L d) rfl (fun a b _ ih e => ih.trans (hE a b e)) h
  have heq : cnt (isOne w L) 30 = cnt (isOne w f) 30 := Nat.le_antisymm (reps (fun c hc hp => ⟨(g2 c hc).2.1, (g2 c hc).2.2.1⟩) hcL (fun c hc hp => ⟨(hf c hc hp).1, (hf c hc hp).2.1⟩) hcf) (reps (fun c hc hp => ⟨(hf c hc hp).1, (hf c hc hp).2.1⟩) hcf (fun c hc hp => ⟨(g2 c hc).2.1, (g2 c hc).2.2.1⟩) hcL)
  have a1' : jbL (fun s : Int32 × SV => f_X8_seamsByMerging_L2 q s.1 s.2) 5000 ((0 : Int32), sv) = some r0 := a1
  have h1' : jbL (fun s : Int32 × Int32 × SV => f_X8_seamsByMerging_L32 q s.1 s.2.1 s.2.2) 5000 (nI (cnt (isOne w (fun c => c)) 30), (0 : Int32), r0.2) = some r := h1
  refine ⟨r.2.2, ?_⟩
  unfold f_X8_seamsByMerging
  simp only [a1', ob_s, hcnt, jb_u, hz3, h1', g1, heq]
