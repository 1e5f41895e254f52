/-! ===== areSeamsRight ===== -/
theorem pr_30 (p : Nat) (h : p < 900) : nI p / 30 = nI (p / 30) ∧ nI p - nI p / 30 * 30 = nI (p % 30) := (by decide +kernel : ∀ p : Fin 900, nI p.val / 30 = nI (p.val / 30) ∧ nI p.val - nI p.val / 30 * 30 = nI (p.val % 30)) ⟨p, h⟩
/-- the labels, in a row -/
def LA (w u : Nat → Int32) (f : Nat → Nat) : Prop := ∀ c, c < 30 → (pos w c → u c = nI (f c)) ∧ (¬ pos w c → u c = -1)
section
variable {q : QV} {w : Nat → Int32} {t : Nat}
theorem sm_7 (hr : RelQ q w) (sv : SV) (u0 : Nat → Int32) : ∃ u, jbL (fun s => f_L_areSeamsRight_L7 q sv s.1 s.2) 5000 ((0 : Int32), u0) = some (nI 30, u) ∧ LA w u (fun c => c) := by
  obtain ⟨r, h1, u, h2, rfl⟩ := lpL (body := fun s : Int32 × (Nat → Int32) => f_L_areSeamsRight_L7 q sv s.1 s.2)
    (fun k s => ∃ u, (∀ c, c < k → (pos w c → u c = nI c) ∧ (¬ pos w c → u c = -1)) ∧ s = (nI k, u))
    (fun r => ∃ u, LA w u (fun c => c) ∧ r = (nI 30, u)) 30
    (fun k s hk ⟨u, hu, e⟩ => by
      subst e
      left
      have hstep : f_L_areSeamsRight_L7 q sv (nI k) u = some (.inl (nI (k + 1), upd u k (if w (19 + 7 * k) ≤ 0 then -1 else nI k))) := by
        unfold f_L_areSeamsRight_L7
        rw [if_neg (show ¬ (30 : Int32) ≤ nI k from nI_ge (a := k) (b := 30) hk (by decide)), tq_height _ hr (AtC.k hk), ob_s, jm_r]
        by_cases h : w (19 + 7 * k) ≤ 0
        · rw [if_pos h, if_pos h]
          unfold f_L_areSeamsRight_J35
          rw [if_pos (nIin hk (by decide)), nI_clamp (by omega), jb_u, nI_1]
        · rw [if_neg h, if_neg h]
          unfold f_L_areSeamsRight_J35
          rw [if_pos (nIin hk (by decide)), nI_clamp (by omega), jb_u, nI_1]
      refine ⟨_, hstep, _, fun c hc => ?_, rfl⟩
      by_cases e : c = k
      · subst e
        rw [upd_at]
        exact ⟨fun hp => if_neg hp, fun hp => if_pos (Classical.byContradiction fun h => hp h)⟩
      · rw [upd_ne _ _ e]
        exact hu c (by omega))
    (fun s ⟨u, hu, e⟩ => by
      subst e
      refine ⟨_, ?_, u, hu, rfl⟩
      show f_L_areSeamsRight_L7 q sv (nI 30) u = _
      unfold f_L_areSeamsRight_L7
      rw [if_pos (show (30 : Int32) ≤ nI 30 from Int32.le_refl _)]) 5000 0 ((0 : Int32), u0) (by omega) (by omega) ⟨u0, fun c hc => absurd hc (Nat.not_lt_zero c), rfl⟩
  exact ⟨u, h1, h2⟩
theorem la_neg {u : Nat → Int32} {f : Nat → Nat} (hu : LA w u f) (ho : LOk w f) {c : Nat} (hc : c < 30) : u c < 0 ↔ ¬ pos w c := by
  constructor
  · intro h hp
    rw [(hu c hc).1 hp] at h
    have := (ho c hc hp).1
    rw [show (0 : Int32) = nI 0 from rfl, nI_ltI (by omega) (by omega)] at h
    omega
  · intro hp
    rw [(hu c hc).2 hp]
    decide
theorem sm_store {u : Nat → Int32} (sv : SV) (x2 : Int32) (p a : Nat) (ha : a < 30) (v : Int32) : f_L_areSeamsRight_J160 u q sv x2 (nI p) v (nI a) = some (.inl (nI (p + 1), upd u a v)) := by
  unfold f_L_areSeamsRight_J160
  rw [if_pos (nIin ha (by decide)), nI_clamp (by omega), jb_u, nI_1]
/-- one pair -/
theorem sm_52 (hr : RelQ q w) (sv : SV) (x2 : Int32) (p : Nat) (hp : p < 900) (u : Nat → Int32) (f : Nat → Nat) (hu : LA w u f) (ho : LOk w f) :
    ∃ u' f', f_L_areSeamsRight_L52 q sv x2 (nI p) u = some (.inl (nI (p + 1), u')) ∧ LA w u' f' ∧ LOk w f' ∧ (∀ x, f' x ≤ f x) ∧ (SE w (p / 30) (p % 30) → f' (p / 30) ≤ f (p % 30)) := by
  obtain ⟨e1, e2⟩ := pr_30 p hp
  have ha : p / 30 < 30 := by omega
  have hb : p % 30 < 30 := by omega
  generalize ea : p / 30 = a at *
  generalize eb : p % 30 = b at *
  have hstart : ∀ X : Option (Sum (Int32 × (Nat → Int32)) (Int32 × (Nat → Int32))), (if far a b = 1 then (if u a < 0 then f_L_areSeamsRight_J131 u q sv x2 (nI p) (nI a) (nI b) else if u b < 0 then f_L_areSeamsRight_J131 u q sv x2 (nI p) (nI a) (nI b) else if w (20 + 7 * a) = w (20 + 7 * b) then f_L_areSeamsRight_J132 u q sv x2 (nI p) (nI a) (nI b) 1 else f_L_areSeamsRight_J131 u q sv x2 (nI p) (nI a) (nI b)) else f_L_areSeamsRight_J131 u q sv x2 (nI p) (nI a) (nI b)) = X → f_L_areSeamsRight_L52 q sv x2 (nI p) u = X := by
    intro X hX
    rw [← hX]
    unfold f_L_areSeamsRight_L52
    rw [if_neg (show ¬ (900 : Int32) ≤ nI p from nI_ge (a := p) (b := 900) hp (by decide)), jb_u, jb_u, e2, e1, L_farN a b ha hb, ob_s]
    by_cases hf : far a b = 1
    · rw [if_pos ((nI_one (far_small a b ha hb)).mpr hf), if_pos hf, if_pos (nIin ha (by decide)), nI_clamp (by omega), if_pos (nIin hb (by decide)), nI_clamp (by omega), tq_stone _ hr (AtC.k ha), ob_s, jm_r, tq_stone _ hr (AtC.k hb), ob_s, jm_r]
    · rw [if_neg (fun h => hf ((nI_one (far_small a b ha hb)).mp h)), if_neg hf]
  have hback : f_L_areSeamsRight_J131 u q sv x2 (nI p) (nI a) (nI b) = some (.inl (nI (p + 1), upd u a (u a))) := by
    unfold f_L_areSeamsRight_J131 f_L_areSeamsRight_J132
    rw [if_pos rfl, if_pos (nIin ha (by decide)), nI_clamp (by omega), sm_store sv x2 p a ha]
  have hsame : LA w (upd u a (u a)) f := fun c hc => by
    have : upd u a (u a) c = u c := by
      by_cases e : c = a
      · rw [e, upd_at]
      · rw [upd_ne _ _ e]
    rw [this]
    exact hu c hc
  by_cases hE : SE w a b
  · obtain ⟨-, hn, hpa, hpb, hst⟩ := id hE
    have hf : far a b = 1 := (far_nb1 ha hb).mpr hn
    have hpa : pos w a := hpa
    have hpb : pos w b := hpb
    have oa := ho a ha hpa
    have ob := ho b hb hpb
    have hmin : jMin (u a) (u b) = nI (min (f a) (f b)) := by rw [(hu a ha).1 hpa, (hu b hb).1 hpb, jMin_nI (by omega) (by omega)]
    refine ⟨upd u a (nI (min (f a) (f b))), fun x => if x = a then min (f a) (f b) else f x, hstart _ ?_, fun c hc => ?_, fun c hc hp => ?_, fun x => ?_, fun _ => ?_⟩
    · rw [if_pos hf, if_neg (fun h => (la_neg hu ho ha).mp h hpa), if_neg (fun h => (la_neg hu ho hb).mp h hpb), if_pos hst]
      unfold f_L_areSeamsRight_J132
      rw [if_neg (show ¬ (1 : Int32) = 0 from by decide), if_pos (nIin ha (by decide)), if_pos (nIin hb (by decide)), nI_clamp (by omega), nI_clamp (by omega), hmin, sm_store sv x2 p a ha]
    · by_cases e : c = a
      · subst e
        rw [upd_at]
        exact ⟨fun _ => congrArg nI (if_pos rfl).symm, fun h => absurd hpa h⟩
      · rw [upd_ne _ _ e]
        simp only [if_neg e]
        exact hu c hc
    · by_cases e : c = a
      · subst e
        simp only [↓reduceIte]
        rcases Nat.le_total (f c) (f b) with h | h
        · rw [Nat.min_eq_left h]; exact oa
        · rw [Nat.min_eq_right h]
          exact ⟨ob.1, (Cn.one hE).tr ob.2.1, Nat.le_trans h oa.2.2⟩
      · simp only [if_neg e]
        exact ho c hc hp
    · show (if x = a then min (f a) (f b) else f x) ≤ f x
      by_cases e : x = a
      · rw [if_pos e, e]; exact Nat.min_le_left _ _
      · rw [if_neg e]; exact Nat.le_refl _
    · show (if a = a then min (f a) (f b) else f a) ≤ f b
      rw [if_pos rfl]; exact Nat.min_le_right _ _
  · refine ⟨upd u a (u a), f, hstart _ ?_, hsame, ho, fun x => Nat.le_refl _, fun h => absurd h hE⟩
    by_cases hf : far a b = 1
    · rw [if_pos hf]
      by_cases h1 : u a < 0
      · rw [if_pos h1, hback]
      · by_cases h2 : u b < 0
        · rw [if_neg h1, if_pos h2, hback]
        · rw [if_neg h1, if_neg h2, if_neg (fun hst => hE ⟨ha, (far_nb1 ha hb).mp hf, (Classical.not_not.mp fun h => h1 ((la_neg hu ho ha).mpr h) : pos w a), (Classical.not_not.mp fun h => h2 ((la_neg hu ho hb).mpr h) : pos w b), hst⟩), hback]
    · rw [if_neg hf, hback]
/-- one round -/
theorem sm_44 (hr : RelQ q w) (sv : SV) (x2 : Int32) (u : Nat → Int32) (f : Nat → Nat) (hu : LA w u f) (ho : LOk w f) :
    ∃ u' f', jbL (fun s => f_L_areSeamsRight_L52 q sv x2 s.1 s.2) 5000 ((0 : Int32), u) = some (nI 900, u') ∧ LA w u' f' ∧ LOk w f' ∧ (∀ x, f' x ≤ f x) ∧ ∀ x d, SE w x d → f' x ≤ f d := by
  obtain ⟨r, h1, u', f', h2, h3, h4, h5, rfl⟩ := lpL (body := fun s : Int32 × (Nat → Int32) => f_L_areSeamsRight_L52 q sv x2 s.1 s.2)
    (fun p s => ∃ u' f', LA w u' f' ∧ LOk w f' ∧ (∀ x, f' x ≤ f x) ∧ (∀ x d, 30 * x + d < p → SE w x d → f' x ≤ f d) ∧ s = (nI p, u'))
    (fun r => ∃ u' f', LA w u' f' ∧ LOk w f' ∧ (∀ x, f' x ≤ f x) ∧ (∀ x d, 30 * x + d < 900 → SE w x d → f' x ≤ f d) ∧ r = (nI 900, u')) 900
    (fun p s hp ⟨u1, f1, a1, a2, a3, a4, e⟩ => by
      subst e
      left
      obtain ⟨u2, f2, b1, b2, b3, b4, b5⟩ := sm_52 hr sv x2 p hp u1 f1 a1 a2
      refine ⟨_, b1, u2, f2, b2, b3, fun x => Nat.le_trans (b4 x) (a3 x), fun x d hx hE => ?_, rfl⟩
      by_cases e : 30 * x + d = p
      · have hd := SE_lt hE
        have e1 : p / 30 = x := by omega
        have e2 : p % 30 = d := by omega
        rw [e1, e2] at b5
        exact Nat.le_trans (b5 hE) (a3 d)
      · exact Nat.le_trans (b4 x) (a4 x d (by omega) hE))
    (fun s ⟨u1, f1, a1, a2, a3, a4, e⟩ => by
      subst e
      refine ⟨_, ?_, u1, f1, a1, a2, a3, a4, rfl⟩
      show f_L_areSeamsRight_L52 q sv x2 (nI 900) u1 = _
      unfold f_L_areSeamsRight_L52
      rw [if_pos (show (900 : Int32) ≤ nI 900 from Int32.le_refl _)]) 5000 0 ((0 : Int32), u) (by omega) (by omega) ⟨u, f, hu, ho, fun _ => Nat.le_refl _, fun x d h => absurd h (Nat.not_lt_zero _), rfl⟩
  exact ⟨u', f', h1, h2, h3, h4, fun x d hE => h5 x d (by have := hE.1; have := SE_lt hE; omega) hE⟩
/-- the labels at the end: each cell's is the least of its seam -/
theorem sm_marks (hr : RelQ q w) (sv : SV) (u : Nat → Int32) (hu : LA w u (fun c => c)) :
    ∃ u' f, jbL (fun s => f_L_areSeamsRight_L44 q sv s.1 s.2) 5000 ((0 : Int32), u) = some (nI 30, u') ∧ LA w u' f ∧ LOk w f ∧ ∀ c d, c < 30 → pos w c → Cn (SE w) c d → f c = f d := by
  have hok0 : LOk w (fun c => c) := fun c hc _ => ⟨hc, Cn.rf c, Nat.le_refl _⟩
  obtain ⟨r, h1, u', f, hl, ho, hw, rfl⟩ := lpL (body := fun s : Int32 × (Nat → Int32) => f_L_areSeamsRight_L44 q sv s.1 s.2)
    (fun k s => ∃ u' f, LA w u' f ∧ LOk w f ∧ (∀ s c, wi (SE w) s k c → f c ≤ s) ∧ s = (nI k, u'))
    (fun r => ∃ u' f, LA w u' f ∧ LOk w f ∧ (∀ s c, wi (SE w) s 30 c → f c ≤ s) ∧ r = (nI 30, u')) 30
    (fun k s hk ⟨u1, f1, hl, ho, hw, e⟩ => by
      subst e
      left
      obtain ⟨u2, f2, a1, a2, a3, a4, a5⟩ := sm_44 hr sv (nI k) u1 f1 hl ho
      refine ⟨(nI (k + 1), u2), ?_, u2, f2, a2, a3, fun s c hsc => ?_, rfl⟩
      · show f_L_areSeamsRight_L44 q sv (nI k) u1 = _
        unfold f_L_areSeamsRight_L44
        rw [if_neg (show ¬ (30 : Int32) ≤ nI k from nI_ge (a := k) (b := 30) hk (by decide)), a1, ob_s, nI_1]
      · rcases hsc with h | ⟨d, h, hE⟩
        · exact Nat.le_trans (a4 c) (hw s c h)
        · exact Nat.le_trans (a5 c d (SE_sy _ _ hE)) (hw s d h))
    (fun s ⟨u1, f1, hl, ho, hw, e⟩ => by
      subst e
      refine ⟨_, ?_, u1, f1, hl, ho, hw, rfl⟩
      show f_L_areSeamsRight_L44 q sv (nI 30) u1 = _
      unfold f_L_areSeamsRight_L44
      rw [if_pos (show (30 : Int32) ≤ nI 30 from Int32.le_refl _)]) 5000 0 ((0 : Int32), u) (by omega) (by omega) ⟨u, fun c => c, hu, hok0, fun s c h => by rw [show c = s from h]; exact Nat.le_refl _, rfl⟩
  refine ⟨u', f, h1, hl, ho, fun c d hc hp hcd => ?_⟩
  have hE : ∀ a b, SE w a b → b < 30 := fun a b h => SE_lt h
  have hd30 : d < 30 := wi_lt hE hc (cn_wi hE hc hcd)
  have hpd : pos w d := pos_cn hp hcd
  have h2 := ho c hc hp
  have h3 := ho d hd30 hpd
  have k1 : Cn (SE w) (f d) c := Cn.sy SE_sy (hcd.tr h3.2.1)
  have k2 : Cn (SE w) (f c) d := (Cn.sy SE_sy h2.2.1).tr hcd
  have l1 := hw (f d) c (wi_up (by omega) (cn_wi hE h3.1 k1))
  have l2 := hw (f c) d (wi_up (by omega) (cn_wi hE h2.1 k2))
  omega
/-- one seam by the labels -/
theorem sm_one {u : Nat → Int32} {f : Nat → Nat} (hu : LA w u f) (ho : LOk w f) (hcf : ∀ c d, c < 30 → pos w c → Cn (SE w) c d → f c = f d) {k d : Nat} (hk : k < 30) (hd : d < 30) : (¬ u k < 0 ∧ u d = u k) ↔ (pos w k ∧ Cn (SE w) k d) := by
  rw [la_neg hu ho hk]
  constructor
  · rintro ⟨h1, h2⟩
    have hp : pos w k := Classical.not_not.mp h1
    by_cases hpd : pos w d
    · rw [(hu d hd).1 hpd, (hu k hk).1 hp] at h2
      have ok := ho k hk hp
      have od := ho d hd hpd
      have e := (nI_eq (by omega) (by omega)).mp h2
      exact ⟨hp, ok.2.1.tr (Cn.sy SE_sy (e ▸ od.2.1))⟩
    · rw [(hu d hd).2 hpd, (hu k hk).1 hp] at h2
      have ok := ho k hk hp
      exact absurd h2.symm ((by decide +kernel : ∀ n : Fin 30, ¬ nI n.val = -1) ⟨f k, ok.1⟩)
  · rintro ⟨hp, hc⟩
    exact ⟨fun h => h hp, by rw [(hu d hd).1 (pos_cn hp hc), (hu k hk).1 hp, hcf k d hk hp hc]⟩
theorem sm_196 (hr : RelQ q w) (hi : InvW t w) (u : Nat → Int32) (f : Nat → Nat) (hu : LA w u f) (ho : LOk w f) (hcf : ∀ c d, c < 30 → pos w c → Cn (SE w) c d → f c = f d) (sv : SV) (x2 x3 : Int32) (k : Nat) (hk : k < 30) :
    jbL (fun s : Int32 × Int32 × Int32 => f_L_areSeamsRight_L196 u q sv x2 x3 (nI k) s.1 s.2.1 s.2.2) 5000 ((0 : Int32), (0 : Int32), (0 : Int32)) = some (nI (sumN (sgW w k 0) 30), nI (sumN (sgW w k 1) 30), nI 30) := by
  have hl : jbL (fun s : Int32 × Int32 × Int32 => f_L_areSeamsRight_L196 u q sv x2 x3 (nI k) s.1 s.2.1 s.2.2) 5000 (nI (sumN (sgW w k 0) 0), nI (sumN (sgW w k 1) 0), nI 0) = some (nI (sumN (sgW w k 0) 30), nI (sumN (sgW w k 1) 30), nI 30) := by
    refine lpD (fun d => (nI (sumN (sgW w k 0) d), nI (sumN (sgW w k 1) d), nI d)) _ 30 (fun d hd => ?_) ?_ 5000 (by decide)
    · show f_L_areSeamsRight_L196 u q sv x2 x3 (nI k) (nI (sumN (sgW w k 0) d)) (nI (sumN (sgW w k 1) d)) (nI d) = some (Sum.inl (nI (sumN (sgW w k 0) (d + 1)), nI (sumN (sgW w k 1) (d + 1)), nI (d + 1)))
      have hpre : f_L_areSeamsRight_L196 u q sv x2 x3 (nI k) (nI (sumN (sgW w k 0) d)) (nI (sumN (sgW w k 1) d)) (nI d) = if u k < 0 then f_L_areSeamsRight_J225 u q sv x2 x3 (nI k) (nI (sumN (sgW w k 0) d)) (nI (sumN (sgW w k 1) d)) (nI d) else if u d = u k then f_L_areSeamsRight_J226 u q sv x2 x3 (nI k) (nI (sumN (sgW w k 0) d)) (nI (sumN (sgW w k 1) d)) (nI d) 1 else f_L_areSeamsRight_J225 u q sv x2 x3 (nI k) (nI (sumN (sgW w k 0) d)) (nI (sumN (sgW w k 1) d)) (nI d) := by
        unfold f_L_areSeamsRight_L196
        simp only [if_neg (show ¬ (30 : Int32) ≤ nI d from nI_ge (a := d) (b := 30) hd (by decide)), if_pos (nIin hk (by decide : 30 < 2 ^ 31)), nI_clamp (show k < 2 ^ 31 by omega), if_pos (nIin hd (by decide : 30 < 2 ^ 31)), nI_clamp (show d < 2 ^ 31 by omega)]
      by_cases hone : pos w k ∧ Cn (SE w) k d
      · have h9 := (sm_one hu ho hcf hk hd).mpr hone
        rw [hpre, if_neg h9.1, if_pos h9.2]
        unfold f_L_areSeamsRight_J226
        rw [show f_L_told 1 = some 1 from rfl, ob_s, jb_u, if_neg (show ¬ (1 : Int32) = 0 from by decide), tq_height _ hr (AtC.k hd), ob_s, jm_r]
        unfold f_L_areSeamsRight_J263
        rw [jb_u, sumN_s, sumN_s, sg_y hone, sg_y hone, if_pos rfl, if_neg (show ¬ (1 : Int32) = 0 from by decide), nI_1, nI_1, hN hi d hd, nI_add, vN_nI (by have := hh_9 hi d hd; omega)]
      · have h9 : u k < 0 ∨ ¬ u d = u k := Classical.byContradiction fun h => hone ((sm_one hu ho hcf hk hd).mp ⟨fun h2 => h (Or.inl h2), Classical.not_not.mp fun h2 => h (Or.inr h2)⟩)
        have hJ : f_L_areSeamsRight_J225 u q sv x2 x3 (nI k) (nI (sumN (sgW w k 0) d)) (nI (sumN (sgW w k 1) d)) (nI d) = some (Sum.inl (nI (sumN (sgW w k 0) (d + 1)), nI (sumN (sgW w k 1) (d + 1)), nI (d + 1))) := by
          unfold f_L_areSeamsRight_J225 f_L_areSeamsRight_J226
          rw [show f_L_told 0 = some 0 from rfl, ob_s, jb_u, if_pos rfl]
          unfold f_L_areSeamsRight_J263
          rw [jb_u, sumN_s, sumN_s, sg_n hone, sg_n hone, nI_1, Int32.add_zero, Int32.add_zero]
          rfl
        rw [hpre]
        by_cases h1 : u k < 0
        · rw [if_pos h1, hJ]
        · rw [if_neg h1, if_neg (h9.resolve_left h1), hJ]
    · show f_L_areSeamsRight_L196 u q sv x2 x3 (nI k) _ _ (nI 30) = _
      unfold f_L_areSeamsRight_L196
      rw [if_pos (show (30 : Int32) ≤ nI 30 from Int32.le_refl _)]
  exact hl
theorem sm_287 (hr : RelQ q w) (hi : InvW t w) (u : Nat → Int32) (sv : SV) (k : Nat) (hk : k < 30) (y0 y1 : Int32) (h0 : y0 = 0 ∨ y0 = 1) :
    ∃ sv', f_L_areSeamsRight_J287 u q sv 1 (nI k) (nI (sumN (sgW w k 0) 30)) (nI (sumN (sgW w k 1) 30)) y0 y1 = some (.inl (y1 + y0, 1, nI (k + 1), sv')) := by
  obtain ⟨sv1, e1⟩ := tq_size (none, -1, -1) hr hi sv (AtC.k hk)
  obtain ⟨sv2, e2⟩ := tq_volume (none, -1, -1) hr hi sv1 (AtC.k hk)
  have ht : f_L_told y0 = some y0 := by rcases h0 with rfl | rfl <;> rfl
  refine ⟨sv2, ?_⟩
  unfold f_L_areSeamsRight_J287
  rw [ht, ob_s, jb_u, if_neg (show ¬ (1 : Int32) = 0 from by decide), e1, ob_s, jm_r, if_pos rfl, e2, ob_s, jm_r, if_pos rfl]
  unfold f_L_areSeamsRight_J339
  rw [nI_1]
theorem sm_180 (hr : RelQ q w) (hi : InvW t w) (u : Nat → Int32) (f : Nat → Nat) (hu : LA w u f) (ho : LOk w f) (hcf : ∀ c d, c < 30 → pos w c → Cn (SE w) c d → f c = f d) (sv : SV) :
    ∃ sv', jbL (fun s : Int32 × Int32 × Int32 × SV => f_L_areSeamsRight_L180 u q s.1 s.2.1 s.2.2.1 s.2.2.2) 5000 ((0 : Int32), (1 : Int32), (0 : Int32), sv) = some (nI (cnt (isOne w f) 30), 1, nI 30, sv') := by
  obtain ⟨r, h1, sv', rfl⟩ := lpL (body := fun s : Int32 × Int32 × Int32 × SV => f_L_areSeamsRight_L180 u q s.1 s.2.1 s.2.2.1 s.2.2.2)
    (fun k s => ∃ sv', s = (nI (cnt (isOne w f) k), 1, nI k, sv')) (fun r => ∃ sv', r = (nI (cnt (isOne w f) 30), 1, nI 30, sv')) 30
    (fun k s hk ⟨sv1, e⟩ => by
      subst e
      left
      have hpre : f_L_areSeamsRight_L180 u q (nI (cnt (isOne w f) k)) 1 (nI k) sv1 = if u k = nI k then f_L_areSeamsRight_J287 u q sv1 1 (nI k) (nI (sumN (sgW w k 0) 30)) (nI (sumN (sgW w k 1) 30)) 1 (nI (cnt (isOne w f) k)) else f_L_areSeamsRight_J287 u q sv1 1 (nI k) (nI (sumN (sgW w k 0) 30)) (nI (sumN (sgW w k 1) 30)) 0 (nI (cnt (isOne w f) k)) := by
        unfold f_L_areSeamsRight_L180
        rw [if_neg (show ¬ (30 : Int32) ≤ nI k from nI_ge (a := k) (b := 30) hk (by decide)), sm_196 hr hi u f hu ho hcf sv1 _ _ k hk, ob_s, if_pos (nIin hk (by decide)), nI_clamp (by omega)]
      by_cases h : u k = nI k
      · obtain ⟨sv2, e2⟩ := sm_287 hr hi u sv1 k hk 1 (nI (cnt (isOne w f) k)) (Or.inr rfl)
        have hone : isOne w f k := by
          by_cases hp : pos w k
          · refine ⟨hp, ?_⟩
            rw [(hu k hk).1 hp] at h
            exact (nI_eq (by have := (ho k hk hp).1; omega) (by omega)).mp h
          · rw [(hu k hk).2 hp] at h
            exact absurd h.symm ((by decide +kernel : ∀ n : Fin 30, ¬ nI n.val = -1) ⟨k, hk⟩)
        exact ⟨_, by show f_L_areSeamsRight_L180 u q (nI (cnt (isOne w f) k)) 1 (nI k) sv1 = _; rw [hpre, if_pos h, e2], sv2, by rw [cnt_yes hone, nI_1]⟩
      · obtain ⟨sv2, e2⟩ := sm_287 hr hi u sv1 k hk 0 (nI (cnt (isOne w f) k)) (Or.inl rfl)
        have hone : ¬ isOne w f k := fun h9 => h (by rw [(hu k hk).1 h9.1, h9.2])
        exact ⟨_, by show f_L_areSeamsRight_L180 u q (nI (cnt (isOne w f) k)) 1 (nI k) sv1 = _; rw [hpre, if_neg h, e2], sv2, by rw [cnt_no hone, Int32.add_zero]⟩)
    (fun s ⟨sv1, e⟩ => by
      subst e
      refine ⟨_, ?_, sv1, rfl⟩
      show f_L_areSeamsRight_L180 u q _ _ (nI 30) _ = _
      unfold f_L_areSeamsRight_L180
      rw [if_pos (show (30 : Int32) ≤ nI 30 from Int32.le_refl _)]) 5000 0 ((0 : Int32), (1 : Int32), (0 : Int32), sv) (by omega) (by omega) ⟨sv, rfl⟩
  exact ⟨sv', h1⟩
/-- areSeamsRight answers 1 -/
theorem L_seams (hr : RelQ q w) (hi : InvW t w) (sv : SV) : ∃ sv', f_L_areSeamsRight q sv = some (1, sv') := by
  obtain ⟨u1, a1, a2⟩ := sm_7 hr sv (fun _ => 0)
  obtain ⟨u2, f, b1, b2, b3, b4⟩ := sm_marks hr sv u1 a2
  obtain ⟨sv1, c1⟩ := sm_180 hr hi u2 f b2 b3 b4 sv
  obtain ⟨sv2, d1⟩ := tq_count (none, -1, -1) hr hi sv1 f b3 b4
  obtain ⟨sv3, d2⟩ := tq_merge (none, -1, -1) hr hi sv2 f b3 b4
  refine ⟨sv3, ?_⟩
  unfold f_L_areSeamsRight
  rw [jb_u, a1, ob_s, b1, ob_s, c1, ob_s, if_neg (show ¬ (1 : Int32) = 0 from by decide), d1, ob_s, if_pos rfl, d2, ob_s, if_pos rfl]
/-- labels there are -/
theorem labels (hr : RelQ q w) (sv : SV) : ∃ f, LOk w f ∧ ∀ c d, c < 30 → pos w c → Cn (SE w) c d → f c = f d := by
  obtain ⟨u1, a1, a2⟩ := sm_7 hr sv (fun _ => 0)
  obtain ⟨u2, f, b1, b2, b3, b4⟩ := sm_marks hr sv u1 a2
  exact ⟨f, b3, b4⟩
end
