/-! ===== arePathsRight ===== -/
/-- the lengths, in a row -/
def LN (u : Nat → Int32) (ln : Nat → Nat) : Prop := ∀ c, c < 30 → u c = nI (ln c) ∧ ln c ≤ 99
/-- what is less than 99 is a way -/
def LW (w : Nat → Int32) (s : Nat) (ln : Nat → Nat) : Prop := ∀ c, c < 30 → ln c < 99 → w (21 + 7 * s) = 0 ∧ wi (WE w) s (ln c) c
section
variable {q : QV} {w : Nat → Int32} {t : Nat}
theorem pt_store {u : Nat → Int32} (sv : SV) (x1 x3 : Int32) (p a : Nat) (ha : a < 30) (v : Int32) : f_L_arePathsRight_J180 u q sv x1 x3 (nI p) v (nI a) = some (.inl (nI (p + 1), upd u a v)) := by
  unfold f_L_arePathsRight_J180
  rw [if_pos (nIin ha (by decide)), nI_clamp (by omega), jb_u, nI_1]
theorem pt_7 (hr : RelQ q w) (hi : InvW t w) (sv : SV) (s : Nat) (hs : s < 30) (u0 : Nat → Int32) : ∃ u ln, jbL (fun z => f_L_arePathsRight_L7 q sv (nI s) z.1 z.2) 5000 ((0 : Int32), u0) = some (nI 30, u) ∧ LN u ln ∧ LW w s ln ∧ (w (21 + 7 * s) = 0 → ln s = 0) := by
  have hstep : ∀ k, k < 30 → ∀ u, f_L_arePathsRight_L7 q sv (nI s) (nI k) u = some (.inl (nI (k + 1), upd u k (nI (if k = s then (if w (21 + 7 * s) = 0 then 0 else 99) else 99)))) := by
    intro k hk u
    have h99 : f_L_arePathsRight_J39 u q sv (nI s) (nI k) (nI k) = some (.inl (nI (k + 1), upd u k (nI 99))) := by
      unfold f_L_arePathsRight_J39 f_L_arePathsRight_J41
      rw [if_pos (nIin hk (by decide)), nI_clamp (by omega), jb_u, nI_1]
      rfl
    unfold f_L_arePathsRight_L7
    rw [if_neg (show ¬ (30 : Int32) ≤ nI k from nI_ge (a := k) (b := 30) hk (by decide))]
    by_cases e : k = s
    · subst e
      rw [if_pos rfl, if_pos rfl, tq_ledge _ hr hi (AtC.k hk), ob_s, jm_r]
      by_cases hl : w (21 + 7 * k) = 0
      · rw [if_pos hl, if_pos hl]
        unfold f_L_arePathsRight_J41
        rw [if_pos (nIin hk (by decide)), nI_clamp (by omega), jb_u, nI_1]
        rfl
      · rw [if_neg hl, if_neg hl, h99]
    · rw [if_neg e, if_neg (fun h => e ((nI_eq (by omega) (by omega)).mp h)), h99]
  obtain ⟨r, h1, u, h2, rfl⟩ := lpL (body := fun z : Int32 × (Nat → Int32) => f_L_arePathsRight_L7 q sv (nI s) z.1 z.2)
    (fun k z => ∃ u, (∀ c, c < k → u c = nI (if c = s then (if w (21 + 7 * s) = 0 then 0 else 99) else 99)) ∧ z = (nI k, u))
    (fun r => ∃ u, (∀ c, c < 30 → u c = nI (if c = s then (if w (21 + 7 * s) = 0 then 0 else 99) else 99)) ∧ r = (nI 30, u)) 30
    (fun k z hk ⟨u, hu, e⟩ => by
      subst e
      left
      refine ⟨_, hstep k hk u, _, fun c hc => ?_, rfl⟩
      by_cases e : c = k
      · subst e; rw [upd_at]
      · rw [upd_ne _ _ e]; exact hu c (by omega))
    (fun z ⟨u, hu, e⟩ => by
      subst e
      refine ⟨_, ?_, u, hu, rfl⟩
      show f_L_arePathsRight_L7 q sv (nI s) (nI 30) u = _
      unfold f_L_arePathsRight_L7
      rw [if_pos (show (30 : Int32) ≤ nI 30 from Int32.le_refl _)]) 5000 0 ((0 : Int32), u0) (by omega) (by omega) ⟨u0, fun c hc => absurd hc (Nat.not_lt_zero c), rfl⟩
  refine ⟨u, fun c => if c = s then (if w (21 + 7 * s) = 0 then 0 else 99) else 99, h1, fun c hc => ⟨h2 c hc, ?_⟩, fun c hc hlt => ?_, fun h => ?_⟩
  · show (if c = s then (if w (21 + 7 * s) = 0 then 0 else 99) else 99) ≤ 99
    split
    · split <;> omega
    · omega
  · have hlt : (if c = s then (if w (21 + 7 * s) = 0 then 0 else 99) else 99) < 99 := hlt
    by_cases e : c = s
    · subst e
      by_cases hl : w (21 + 7 * c) = 0
      · refine ⟨hl, ?_⟩
        show wi (WE w) c (if c = c then (if w (21 + 7 * c) = 0 then 0 else 99) else 99) c
        rw [if_pos rfl, if_pos hl]
        rfl
      · rw [if_pos rfl, if_neg hl] at hlt; omega
    · rw [if_neg e] at hlt; omega
  · show (if s = s then (if w (21 + 7 * s) = 0 then 0 else 99) else 99) = 0
    rw [if_pos rfl, if_pos h]
/-- one pair -/
theorem pt_59 (hr : RelQ q w) (hi : InvW t w) (sv : SV) (x1 x3 : Int32) (s : Nat) (p : Nat) (hp : p < 900) (u : Nat → Int32) (ln : Nat → Nat) (hu : LN u ln) (hw : LW w s ln) :
    ∃ u' ln', f_L_arePathsRight_L59 q sv x1 x3 (nI p) u = some (.inl (nI (p + 1), u')) ∧ LN u' ln' ∧ LW w s ln' ∧ (∀ x, ln' x ≤ ln x) ∧ (WE w (p / 30) (p % 30) → ln' (p % 30) ≤ ln (p / 30) + 1) := by
  obtain ⟨e1, e2⟩ := pr_30 p hp
  have ha : p / 30 < 30 := by omega
  have hb : p % 30 < 30 := by omega
  generalize ea : p / 30 = a at *
  generalize eb : p % 30 = b at *
  have hpre : f_L_arePathsRight_L59 q sv x1 x3 (nI p) u = if far a b = 1 then (if w (21 + 7 * b) = 0 then (if 1 < jAbs (w (19 + 7 * a) - w (19 + 7 * b)) then f_L_arePathsRight_J149 u q sv x1 x3 (nI p) (nI a) (nI b) else f_L_arePathsRight_J150 u q sv x1 x3 (nI p) (nI a) (nI b) 1) else f_L_arePathsRight_J149 u q sv x1 x3 (nI p) (nI a) (nI b)) else f_L_arePathsRight_J149 u q sv x1 x3 (nI p) (nI a) (nI b) := by
    unfold f_L_arePathsRight_L59
    rw [if_neg (show ¬ (900 : Int32) ≤ nI p from nI_ge (a := p) (b := 900) hp (by decide)), jb_u, jb_u, e2, e1, L_farN a b ha hb, ob_s]
    by_cases hf : far a b = 1
    · rw [if_pos ((nI_one (far_small a b ha hb)).mpr hf), if_pos hf, tq_ledge _ hr hi (AtC.k hb), ob_s, jm_r, tq_height _ hr (AtC.k ha), ob_s, jm_r, tq_height _ hr (AtC.k hb), ob_s, jm_r]
    · rw [if_neg (fun h => hf ((nI_one (far_small a b ha hb)).mp h)), if_neg hf]
  have hback : f_L_arePathsRight_J149 u q sv x1 x3 (nI p) (nI a) (nI b) = some (.inl (nI (p + 1), upd u b (u b))) := by
    unfold f_L_arePathsRight_J149 f_L_arePathsRight_J150
    rw [if_pos rfl, if_pos (nIin hb (by decide)), nI_clamp (by omega), pt_store sv x1 x3 p b hb]
  have hsame : LN (upd u b (u b)) ln := fun c hc => by
    have : upd u b (u b) c = u c := by
      by_cases e : c = b
      · rw [e, upd_at]
      · rw [upd_ne _ _ e]
    rw [this]
    exact hu c hc
  by_cases hE : WE w a b
  · obtain ⟨-, hn, hl, hst⟩ := id hE
    have hf : far a b = 1 := (far_nb1 ha hb).mpr hn
    have la := (hu a ha).2
    have lb := (hu b hb).2
    have hmin : jMin (u b) (u a + 1) = nI (min (ln b) (ln a + 1)) := by rw [(hu a ha).1, (hu b hb).1, nI_1, jMin_nI (by omega) (by omega)]
    refine ⟨upd u b (nI (min (ln b) (ln a + 1))), fun x => if x = b then min (ln b) (ln a + 1) else ln x, ?_, fun c hc => ?_, fun c hc hlt => ?_, fun x => ?_, fun _ => ?_⟩
    · rw [hpre, if_pos hf, if_pos hl, if_neg hst]
      unfold f_L_arePathsRight_J150
      rw [if_neg (show ¬ (1 : Int32) = 0 from by decide), if_pos (nIin hb (by decide)), if_pos (nIin ha (by decide)), nI_clamp (by omega), nI_clamp (by omega), hmin, pt_store sv x1 x3 p b hb]
    · by_cases e : c = b
      · subst e
        rw [upd_at]
        show nI (min (ln c) (ln a + 1)) = nI (if c = c then min (ln c) (ln a + 1) else ln c) ∧ (if c = c then min (ln c) (ln a + 1) else ln c) ≤ 99
        rw [if_pos rfl]
        exact ⟨rfl, Nat.le_trans (Nat.min_le_left _ _) lb⟩
      · rw [upd_ne _ _ e]
        simp only [if_neg e]
        exact hu c hc
    · by_cases e : c = b
      · subst e
        simp only [↓reduceIte] at hlt ⊢
        rcases Nat.le_total (ln c) (ln a + 1) with h | h
        · rw [Nat.min_eq_left h] at hlt ⊢; exact hw c hc hlt
        · rw [Nat.min_eq_right h] at hlt ⊢
          obtain ⟨h1, h2⟩ := hw a ha (by omega)
          exact ⟨h1, Or.inr ⟨a, h2, hE⟩⟩
      · simp only [if_neg e] at hlt ⊢
        exact hw c hc hlt
    · show (if x = b then min (ln b) (ln a + 1) else ln x) ≤ ln x
      by_cases e : x = b
      · rw [if_pos e, e]; exact Nat.min_le_left _ _
      · rw [if_neg e]; exact Nat.le_refl _
    · show (if b = b then min (ln b) (ln a + 1) else ln b) ≤ ln a + 1
      rw [if_pos rfl]; exact Nat.min_le_right _ _
  · refine ⟨upd u b (u b), ln, ?_, hsame, hw, fun x => Nat.le_refl _, fun h => absurd h hE⟩
    rw [hpre]
    by_cases hf : far a b = 1
    · rw [if_pos hf]
      by_cases hl : w (21 + 7 * b) = 0
      · rw [if_pos hl]
        by_cases hst : 1 < jAbs (w (19 + 7 * a) - w (19 + 7 * b))
        · rw [if_pos hst, hback]
        · exact absurd ⟨ha, (far_nb1 ha hb).mp hf, hl, hst⟩ hE
      · rw [if_neg hl, hback]
    · rw [if_neg hf, hback]
/-- one round -/
theorem pt_50 (hr : RelQ q w) (hi : InvW t w) (sv : SV) (x1 x3 : Int32) (s : Nat) (u : Nat → Int32) (ln : Nat → Nat) (hu : LN u ln) (hw : LW w s ln) :
    ∃ u' ln', jbL (fun z => f_L_arePathsRight_L59 q sv x1 x3 z.1 z.2) 5000 ((0 : Int32), u) = some (nI 900, u') ∧ LN u' ln' ∧ LW w s ln' ∧ (∀ x, ln' x ≤ ln x) ∧ ∀ x d, WE w x d → ln' d ≤ ln x + 1 := by
  obtain ⟨r, h1, u', l', h2, h3, h4, h5, rfl⟩ := lpL (body := fun z : Int32 × (Nat → Int32) => f_L_arePathsRight_L59 q sv x1 x3 z.1 z.2)
    (fun p z => ∃ u' l', LN u' l' ∧ LW w s l' ∧ (∀ x, l' x ≤ ln x) ∧ (∀ x d, 30 * x + d < p → WE w x d → l' d ≤ ln x + 1) ∧ z = (nI p, u'))
    (fun r => ∃ u' l', LN u' l' ∧ LW w s l' ∧ (∀ x, l' x ≤ ln x) ∧ (∀ x d, 30 * x + d < 900 → WE w x d → l' d ≤ ln x + 1) ∧ r = (nI 900, u')) 900
    (fun p z hp ⟨u1, l1, a1, a2, a3, a4, e⟩ => by
      subst e
      left
      obtain ⟨u2, l2, b1, b2, b3, b4, b5⟩ := pt_59 hr hi sv x1 x3 s p hp u1 l1 a1 a2
      refine ⟨_, b1, u2, l2, b2, b3, fun x => Nat.le_trans (b4 x) (a3 x), fun x d hx hE => ?_, rfl⟩
      by_cases e : 30 * x + d = p
      · have hd := WE_lt _ _ hE
        have e1 : p / 30 = x := by omega
        have e2 : p % 30 = d := by omega
        rw [e1, e2] at b5
        exact Nat.le_trans (b5 hE) (Nat.succ_le_succ (a3 x))
      · exact Nat.le_trans (b4 d) (a4 x d (by omega) hE))
    (fun z ⟨u1, l1, a1, a2, a3, a4, e⟩ => by
      subst e
      refine ⟨_, ?_, u1, l1, a1, a2, a3, a4, rfl⟩
      show f_L_arePathsRight_L59 q sv x1 x3 (nI 900) u1 = _
      unfold f_L_arePathsRight_L59
      rw [if_pos (show (900 : Int32) ≤ nI 900 from Int32.le_refl _)]) 5000 0 ((0 : Int32), u) (by omega) (by omega) ⟨u, ln, hu, hw, fun _ => Nat.le_refl _, fun x d h => absurd h (Nat.not_lt_zero _), rfl⟩
  exact ⟨u', l', h1, h2, h3, h4, fun x d hE => h5 x d (by have := hE.1; have := WE_lt _ _ hE; omega) hE⟩
/-- at the end the lengths are those of the shortest footpaths -/
theorem pt_all (hr : RelQ q w) (hi : InvW t w) (sv : SV) (x1 : Int32) (s : Nat) (hs : s < 30) (u : Nat → Int32) (ln : Nat → Nat) (hu : LN u ln) (hw : LW w s ln) (h0 : w (21 + 7 * s) = 0 → ln s = 0) :
    ∃ u' ln', jbL (fun z => f_L_arePathsRight_L50 q sv x1 z.1 z.2) 5000 ((0 : Int32), u) = some (nI 30, u') ∧ LN u' ln' ∧ ∀ c, c < 30 → Dist w s c (if ln' c ≤ 98 then nI (ln' c) else -1) := by
  obtain ⟨r, h1, u', l', h2, h3, h4, rfl⟩ := lpL (body := fun z : Int32 × (Nat → Int32) => f_L_arePathsRight_L50 q sv x1 z.1 z.2)
    (fun k z => ∃ u' l', LN u' l' ∧ LW w s l' ∧ (w (21 + 7 * s) = 0 → ∀ n c, n ≤ k → wi (WE w) s n c → l' c ≤ n) ∧ z = (nI k, u'))
    (fun r => ∃ u' l', LN u' l' ∧ LW w s l' ∧ (w (21 + 7 * s) = 0 → ∀ n c, n ≤ 30 → wi (WE w) s n c → l' c ≤ n) ∧ r = (nI 30, u')) 30
    (fun k z hk ⟨u1, l1, a1, a2, a3, e⟩ => by
      subst e
      left
      obtain ⟨u2, l2, b1, b2, b3, b4, b5⟩ := pt_50 hr hi sv x1 (nI k) s u1 l1 a1 a2
      refine ⟨(nI (k + 1), u2), ?_, u2, l2, b2, b3, fun hl n c hn hw => ?_, rfl⟩
      · show f_L_arePathsRight_L50 q sv x1 (nI k) u1 = _
        unfold f_L_arePathsRight_L50
        rw [if_neg (show ¬ (30 : Int32) ≤ nI k from nI_ge (a := k) (b := 30) hk (by decide)), b1, ob_s, nI_1]
      · cases n with
        | zero => exact Nat.le_trans (b4 c) (a3 hl 0 c (by omega) hw)
        | succ m =>
          rcases hw with hw | ⟨d, hw, hE⟩
          · exact Nat.le_trans (b4 c) (Nat.le_trans (a3 hl m c (by omega) hw) (by omega))
          · exact Nat.le_trans (b5 d c hE) (Nat.succ_le_succ (a3 hl m d (by omega) hw)))
    (fun z ⟨u1, l1, a1, a2, a3, e⟩ => by
      subst e
      refine ⟨_, ?_, u1, l1, a1, a2, a3, rfl⟩
      show f_L_arePathsRight_L50 q sv x1 (nI 30) u1 = _
      unfold f_L_arePathsRight_L50
      rw [if_pos (show (30 : Int32) ≤ nI 30 from Int32.le_refl _)]) 5000 0 ((0 : Int32), u) (by omega) (by omega) ⟨u, ln, hu, hw, fun hl n c hn hw => by
        have hn0 : n = 0 := by omega
        subst hn0
        rw [show c = s from hw, h0 hl]
        exact Nat.le_refl _, rfl⟩
  refine ⟨u', l', h1, h2, fun c hc => ?_⟩
  by_cases h98 : l' c ≤ 98
  · rw [if_pos h98]
    obtain ⟨hl, hwi⟩ := h3 c hc (by omega)
    have h29 : l' c ≤ 29 := h4 hl 29 c (by omega) (wi_29 hs hwi)
    exact Or.inl ⟨hl, l' c, h29, rfl, hwi, fun k hk => by
      by_cases hk30 : k ≤ 30
      · exact h4 hl k c hk30 hk
      · omega⟩
  · rw [if_neg h98]
    exact Or.inr ⟨fun hl n hn => h98 (by have := h4 hl 29 c (by omega) (wi_29 hs hn); omega), rfl⟩
/-- arePathsRight answers 1 -/
theorem L_paths (hr : RelQ q w) (hi : InvW t w) (sv : SV) (s : Nat) (hs : s < 30) : ∃ sv', f_L_arePathsRight q sv (nI s) = some (1, sv') := by
  obtain ⟨u1, l1, a1, a2, a3, a4⟩ := pt_7 hr hi sv s hs (fun _ => 0)
  obtain ⟨u2, l2, b1, b2, b3⟩ := pt_all hr hi sv (nI s) s hs u1 l1 a2 a3 a4
  obtain ⟨r, h1, sv', rfl⟩ := lpL (body := fun z : Int32 × Int32 × SV => f_L_arePathsRight_L233 u2 q (nI s) z.1 z.2.1 z.2.2)
    (fun k z => ∃ sv', z = ((1 : Int32), nI k, sv')) (fun r => ∃ sv', r = ((1 : Int32), nI 30, sv')) 30
    (fun k z hk ⟨sv1, e⟩ => by
      subst e
      left
      obtain ⟨r, sv2, hd, hf⟩ := tq_foot (none, -1, -1) hr hi sv1 (AtC.k hs) (AtC.k hk)
      have er := Dist.un hd (b3 k hk)
      subst er
      obtain ⟨c1, c2⟩ := b2 k hk
      have hask : f_L_ask q sv1 5 (nI s / 6) (nI s - nI s / 6 * 6) (nI k / 6) (nI k - nI k / 6 * 6) = some (if l2 k ≤ 98 then nI (l2 k) else (-2004), sv2) := by
        by_cases h98 : l2 k ≤ 98
        · rw [if_pos h98] at hf ⊢
          rw [if_neg ((by decide +kernel : ∀ n : Fin 99, ¬ nI n.val = -1) ⟨l2 k, by omega⟩)] at hf
          exact ask_r5 hf
        · rw [if_neg h98] at hf ⊢
          rw [if_pos rfl] at hf
          exact ask_x5_2 hf
      refine ⟨((1 : Int32), nI (k + 1), sv2), ?_, sv2, rfl⟩
      show f_L_arePathsRight_L233 u2 q (nI s) 1 (nI k) sv1 = _
      unfold f_L_arePathsRight_L233
      rw [if_neg (show ¬ (30 : Int32) ≤ nI k from nI_ge (a := k) (b := 30) hk (by decide)), if_neg (show ¬ (1 : Int32) = 0 from by decide), hask, ob_s]
      simp only [if_pos (nIin hk (by decide : 30 < 2 ^ 31)), nI_clamp (show k < 2 ^ 31 by omega), c1]
      by_cases h98 : l2 k ≤ 98
      · rw [if_pos (show nI (l2 k) ≤ (98 : Int32) from (nI_leI (a := l2 k) (b := 98) (by omega) (by omega)).mpr h98), if_pos h98]
        unfold f_L_arePathsRight_J286
        rw [if_pos rfl]
        unfold f_L_arePathsRight_J294
        rw [nI_1]
      · rw [if_neg (show ¬ nI (l2 k) ≤ (98 : Int32) from fun h => h98 ((nI_leI (a := l2 k) (b := 98) (by omega) (by omega)).mp h)), if_neg h98]
        unfold f_L_arePathsRight_J286
        rw [if_pos rfl]
        unfold f_L_arePathsRight_J294
        rw [nI_1])
    (fun z ⟨sv1, e⟩ => by
      subst e
      refine ⟨_, ?_, sv1, rfl⟩
      show f_L_arePathsRight_L233 u2 q (nI s) _ (nI 30) sv1 = _
      unfold f_L_arePathsRight_L233
      rw [if_pos (show (30 : Int32) ≤ nI 30 from Int32.le_refl _)]) 31 0 ((1 : Int32), (0 : Int32), sv) (by omega) (by omega) ⟨sv, rfl⟩
  refine ⟨sv', ?_⟩
  unfold f_L_arePathsRight
  rw [jb_u, a1, ob_s, b1, ob_s, ask_x5_0 (tq_foot5 _ _).1, ob_s, if_pos rfl, ask_x5_0 (tq_foot5 _ _).2, ob_s, if_pos rfl]
  unfold f_L_arePathsRight_J229
  rw [h1, ob_s, if_pos nar1]
end
