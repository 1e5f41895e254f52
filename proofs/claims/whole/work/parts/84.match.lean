/-! ===== the text as a program: what stands at a place ===== -/
def fmL (v : Nat) : List Nat := match v with
  | 0 => [115, 116, 111, 110, 101, 32, 35, 35, 35]
  | 1 => [99, 117, 116, 32, 35, 35]
  | 2 => [102, 105, 108, 108, 32, 35, 35]
  | 3 => [108, 101, 100, 103, 101, 32, 35, 35]
  | 4 => [108, 105, 109, 105, 116, 32, 35]
  | 5 => [119, 105, 110, 99, 104, 32, 35, 35, 32, 35, 32, 35]
  | 6 => [108, 105, 102, 116, 32, 35, 32, 35, 35]
  | _ => [99, 114, 117, 115, 104, 32, 35, 32, 35]
def wlL (v : Nat) : Nat := match v with
  | 0 => 6 | 1 => 4 | 2 => 5 | 3 => 6 | 4 => 6 | 5 => 6 | 6 => 5 | _ => 6
def soL (v : Nat) : Nat := match v with
  | 0 => 0 | 1 => 6 | 2 => 10 | 3 => 15 | 4 => 21 | 5 => 27 | 6 => 33 | 7 => 38 | _ => 44
def wdL (v : Nat) : List Nat := (fmL v).take (wlL v)
/-- the sign at j is one that c stands for -/
def mt (X : Nat → Int32) (c j : Nat) : Prop := (c = 35 ∧ ¬ X j < 48 ∧ ¬ 57 < X j) ∨ (c ≠ 35 ∧ X j = nI c)
def okc (X : Nat → Int32) (n : Nat) (pat : List Nat) (p j : Nat) : Prop := ∃ c, pat[j]? = some c ∧ p + j < n ∧ mt X c (p + j)
/-- the first r go on like the pattern, the next one doesn't -/
def IsMl (X : Nat → Int32) (n : Nat) (pat : List Nat) (p r : Nat) : Prop := (∀ j, j < r → okc X n pat p j) ∧ ¬ okc X n pat p r
theorem IsMl.un {X : Nat → Int32} {n p r s : Nat} {pat : List Nat} (h : IsMl X n pat p r) (k : IsMl X n pat p s) : r = s := by
  rcases Nat.lt_trichotomy r s with h1 | h1 | h1
  · exact absurd (k.1 r h1) h.2
  · exact h1
  · exact absurd (h.1 s h1) k.2
theorem okc_lt {X : Nat → Int32} {n p j : Nat} {pat : List Nat} (h : okc X n pat p j) : j < pat.length := by
  obtain ⟨c, h1, _⟩ := h
  exact (List.getElem?_eq_some_iff.mp h1).1
theorem IsMl.le {X : Nat → Int32} {n p r : Nat} {pat : List Nat} (h : IsMl X n pat p r) : r ≤ pat.length := by
  apply Classical.byContradiction
  intro h1
  have := okc_lt (h.1 pat.length (by omega))
  omega
theorem IsMl.ps {X : Nat → Int32} {n p r : Nat} {pat : List Nat} (h : IsMl X n pat p r) (hp : p ≤ n) : p + r ≤ n := by
  by_cases e : r = 0
  · omega
  · obtain ⟨c, _, h1, _⟩ := h.1 (r - 1) (by omega)
    omega
theorem okc_wd {X : Nat → Int32} {n p j v : Nat} (h : j < wlL v) : okc X n (wdL v) p j ↔ okc X n (fmL v) p j := by
  unfold okc wdL
  rw [List.getElem?_take_of_lt h]
theorem fm_len (v : Nat) (h : v < 8) : wlL v < (fmL v).length := (by decide +kernel : ∀ v : Fin 8, wlL v.val < (fmL v.val).length) ⟨v, h⟩
theorem fm_12 (v : Nat) (h : v < 8) : (fmL v).length ≤ 12 := (by decide +kernel : ∀ v : Fin 8, (fmL v.val).length ≤ 12) ⟨v, h⟩
theorem fm_6 (v : Nat) (h : v < 8) : 6 ≤ (fmL v).length ∧ wlL v ≤ 6 := (by decide +kernel : ∀ v : Fin 8, 6 ≤ (fmL v.val).length ∧ wlL v.val ≤ 6) ⟨v, h⟩
theorem wd_len (v : Nat) (h : v < 8) : (wdL v).length = wlL v := (by decide +kernel : ∀ v : Fin 8, (wdL v.val).length = wlL v.val) ⟨v, h⟩
theorem x9_len (v : Nat) (h : v < 8) : f_X9_length v = some (nI (fmL v).length) := (by decide +kernel : ∀ v : Fin 8, f_X9_length v.val = some (nI (fmL v.val).length)) ⟨v, h⟩
theorem mp_some {α : Type} {o : Option α} {c : α} (f : α → Bool) (h : o.map f ≠ some false) (e : o = some c) : f c = true := by
  subst e
  cases hf : f c with
  | true => rfl
  | false => exact absurd (by show some (f c) = some false; rw [hf]) h
theorem x9_chr (v j c : Nat) (h : v < 8) (e : (fmL v)[j]? = some c) : f_J0_charAt_5068e v (nI j) = some (nI c) := by
  have hj : j < 12 := by have := (List.getElem?_eq_some_iff.mp e).1; have := fm_12 v h; omega
  have hall : ∀ v : Fin 8, ∀ j : Fin 12, ((fmL v.val)[j.val]?).map (fun c => decide (f_J0_charAt_5068e v.val (nI j.val) = some (nI c))) ≠ some false := by decide +kernel
  have h1 : ((fmL v)[j]?).map (fun c => decide (f_J0_charAt_5068e v (nI j) = some (nI c))) ≠ some false := hall ⟨v, h⟩ ⟨j, hj⟩
  have h2 := mp_some _ h1 e
  exact of_decide_eq_true h2
theorem x9_dig (v j c : Nat) (h : v < 8) (e : (fmL v)[j]? = some c) : f_X9_takesDigitAt v (nI j) = some (if c = 35 then 1 else 0) := by
  have hj : j < 12 := by have := (List.getElem?_eq_some_iff.mp e).1; have := fm_12 v h; omega
  have hall : ∀ v : Fin 8, ∀ j : Fin 12, ((fmL v.val)[j.val]?).map (fun c => decide (f_X9_takesDigitAt v.val (nI j.val) = some (if c = 35 then 1 else 0))) ≠ some false := by decide +kernel
  have h1 : ((fmL v)[j]?).map (fun c => decide (f_X9_takesDigitAt v (nI j) = some (if c = 35 then 1 else 0))) ≠ some false := hall ⟨v, h⟩ ⟨j, hj⟩
  have h2 := mp_some _ h1 e
  exact of_decide_eq_true h2
theorem x9_allow (X : Nat → Int32) (v j c k : Nat) (h : v < 8) (e : (fmL v)[j]? = some c) : (mt X c k → f_X9_allows v (nI j) (X k) = some 1) ∧ (¬ mt X c k → f_X9_allows v (nI j) (X k) = some 0) := by
  have h28 : v < 28 := by omega
  by_cases e35 : c = 35
  · have ht : f_X9_takesDigitAt v (nI j) = some 1 := by rw [x9_dig v j c h e, if_pos e35]
    constructor
    · intro hm
      rcases hm with ⟨_, h1, h2⟩ | ⟨h1, _⟩
      · unfold f_X9_allows f_X9_isDigit
        simp only [if_pos h, ht, ob_s, i10, ↓reduceIte, if_neg h1, if_neg h2, nar1]
      · exact absurd e35 h1
    · intro hm
      unfold f_X9_allows f_X9_isDigit
      by_cases h1 : X k < 48
      · simp only [if_pos h, ht, ob_s, i10, ↓reduceIte, if_pos h1, nar0]
      · by_cases h2 : 57 < X k
        · simp only [if_pos h, ht, ob_s, i10, ↓reduceIte, if_neg h1, if_pos h2, nar0]
        · exact absurd (Or.inl ⟨e35, h1, h2⟩) hm
  · have ht : f_X9_takesDigitAt v (nI j) = some 0 := by rw [x9_dig v j c h e, if_neg e35]
    have hc := x9_chr v j c h e
    constructor
    · intro hm
      rcases hm with ⟨h1, _⟩ | ⟨_, h1⟩
      · exact absurd h1 e35
      · unfold f_X9_allows
        simp only [if_pos h, ht, ob_s, ↓reduceIte, if_pos h28, hc, if_pos h1.symm]
    · intro hm
      have h1 : ¬ nI c = X k := fun q => hm (Or.inr ⟨e35, q.symm⟩)
      unfold f_X9_allows
      simp only [if_pos h, ht, ob_s, ↓reduceIte, if_pos h28, hc, if_neg h1]
/-- the program's matching -/
theorem q_ml {pv : PV} {n : Nat} (e1 : pLength pv = nI n) (hn : n ≤ 60) (v p : Nat) (hv : v < 8) (hp : p ≤ n) : ∃ r, f_X6_matchLength pv v (nI p) = some (nI r) ∧ IsMl (pText pv) n (fmL v) p r := by
  have hl12 := fm_12 v hv
  obtain ⟨z, h1, r, h2, h3⟩ := lpL (body := fun s => f_X6_matchLength_L2 pv v (nI p) s)
    (fun k s => s = nI k ∧ ∀ j, j < k → okc (pText pv) n (fmL v) p j) (fun z => ∃ r, z = nI r ∧ IsMl (pText pv) n (fmL v) p r) (fmL v).length
    (fun k s hk ⟨e, ha⟩ => by
      subst e
      have hge : ¬ nI (fmL v).length ≤ nI k := nI_ge hk (by omega)
      obtain ⟨c, hc⟩ : ∃ c, (fmL v)[k]? = some c := ⟨(fmL v)[k], List.getElem?_eq_getElem hk⟩
      by_cases hlen : p + k < n
      · have hlt : ¬ nI n ≤ nI (p + k) := nI_ge hlen (by omega)
        have hj : jIn (nI (p + k)) 60 := nIin (by omega) (by decide)
        have hcl : (nI (p + k)).toNatClampNeg = p + k := nI_clamp (by omega)
        obtain ⟨a1, a0⟩ := x9_allow (pText pv) v k c (p + k) hv hc
        by_cases hm : mt (pText pv) c (p + k)
        · left
          refine ⟨nI (k + 1), ?_, rfl, fun j hj => ?_⟩
          · unfold f_X6_matchLength_L2
            simp only [if_pos hv, x9_len v hv, ob_s, if_neg hge, e1, nI_add, if_neg hlt, if_pos hj, hcl, a1 hm, i10, ↓reduceIte, nI_1]
          · by_cases e : j = k
            · subst e; exact ⟨c, hc, hlen, hm⟩
            · exact ha j (by omega)
        · right
          refine ⟨nI k, ?_, k, rfl, ha, fun ⟨c', hc', _, hm'⟩ => ?_⟩
          · unfold f_X6_matchLength_L2
            simp only [if_pos hv, x9_len v hv, ob_s, if_neg hge, e1, nI_add, if_neg hlt, if_pos hj, hcl, a0 hm, ↓reduceIte]
          · rw [hc] at hc'
            cases hc'
            exact hm hm'
      · right
        have hlt : nI n ≤ nI (p + k) := nI_le (by omega) (by omega)
        refine ⟨nI k, ?_, k, rfl, ha, fun ⟨_, _, h9, _⟩ => hlen h9⟩
        unfold f_X6_matchLength_L2
        simp only [if_pos hv, x9_len v hv, ob_s, if_neg hge, e1, nI_add, if_pos hlt])
    (fun s ⟨e, ha⟩ => ⟨s, by
      subst e
      unfold f_X6_matchLength_L2
      simp only [if_pos hv, x9_len v hv, ob_s, if_pos (Int32.le_refl (nI (fmL v).length))], (fmL v).length, e, ha, fun h => absurd (okc_lt h) (Nat.lt_irrefl _)⟩) 5000 0 (nI 0) (by omega) (by omega) ⟨rfl, fun j hj => absurd hj (Nat.not_lt_zero _)⟩
  subst h2
  have h1' : jbL (fun s => f_X6_matchLength_L2 pv v (nI p) s) 5000 (0 : Int32) = some (nI r) := h1
  refine ⟨r, ?_, h3⟩
  unfold f_X6_matchLength
  simp only [h1', ob_s]
/-! the reference's words -/
theorem m_so (w : Nat) (h : w < 9) : f_X11_startOf (nI w) = some (nI (soL w)) := (by decide +kernel : ∀ w : Fin 9, f_X11_startOf (nI w.val) = some (nI (soL w.val))) ⟨w, h⟩
theorem so_wl (w : Nat) (h : w < 8) : soL (w + 1) = soL w + wlL w ∧ soL w < 40 := (by decide +kernel : ∀ w : Fin 8, soL (w.val + 1) = soL w.val + wlL w.val ∧ soL w.val < 40) ⟨w, h⟩
theorem x11_chr (w j c : Nat) (h : w < 8) (e : (wdL w)[j]? = some c) : f_J0_charAt_5068e 8 (nI (soL w + j)) = some (nI c) ∧ c ≠ 35 := by
  have hj : j < 6 := by have := (List.getElem?_eq_some_iff.mp e).1; have := wd_len w h; have := fm_6 w h; omega
  have hall : ∀ w : Fin 8, ∀ j : Fin 6, ((wdL w.val)[j.val]?).map (fun c => decide (f_J0_charAt_5068e 8 (nI (soL w.val + j.val)) = some (nI c) ∧ c ≠ 35)) ≠ some false := by decide +kernel
  have h1 : ((wdL w)[j]?).map (fun c => decide (f_J0_charAt_5068e 8 (nI (soL w + j)) = some (nI c) ∧ c ≠ 35)) ≠ some false := hall ⟨w, h⟩ ⟨j, hj⟩
  have h2 := mp_some _ h1 e
  exact of_decide_eq_true h2
theorem n828 : (8 : Nat) < 28 := by decide
theorem m_ml {m : MV} {n p : Nat} (hn : n ≤ 60) (e1 : mSize m = nI n) (e2 : mSpot m = nI p) (hp : p ≤ n) (x1 x2 : Int32) (w : Nat) (hw : w < 8) : ∃ r, jbL (fun s => f_X11_kindHere_L36 m x1 x2 (nI w) (nI (wlL w)) s) 5000 (0 : Int32) = some (nI r) ∧ IsMl (mText m) n (wdL w) p r := by
  have hl6 := (fm_6 w hw).2
  have hwl := wd_len w hw
  have hso := (so_wl w hw).2
  obtain ⟨z, h1, r, h2, h3⟩ := lpL (body := fun s => f_X11_kindHere_L36 m x1 x2 (nI w) (nI (wlL w)) s)
    (fun k s => s = nI k ∧ ∀ j, j < k → okc (mText m) n (wdL w) p j) (fun z => ∃ r, z = nI r ∧ IsMl (mText m) n (wdL w) p r) (wlL w)
    (fun k s hk ⟨e, ha⟩ => by
      subst e
      have hge : ¬ nI (wlL w) ≤ nI k := nI_ge hk (by omega)
      have hk2 : k < (wdL w).length := by rw [hwl]; exact hk
      obtain ⟨c, hc⟩ : ∃ c, (wdL w)[k]? = some c := ⟨(wdL w)[k], List.getElem?_eq_getElem hk2⟩
      obtain ⟨c1, c2⟩ := x11_chr w k c hw hc
      by_cases hlen : p + k < n
      · have hlt : ¬ nI n ≤ nI (p + k) := nI_ge hlen (by omega)
        have hj : jIn (nI (p + k)) 60 := nIin (by omega) (by decide)
        have hcl : (nI (p + k)).toNatClampNeg = p + k := nI_clamp (by omega)
        by_cases hm : mText m (p + k) = nI c
        · left
          refine ⟨nI (k + 1), ?_, rfl, fun j hj => ?_⟩
          · unfold f_X11_kindHere_L36
            simp only [if_neg hge, e1, e2, nI_add, if_neg hlt, if_pos hj, m_so w (show w < 9 by omega), ob_s, if_pos n828, c1, hcl, if_pos hm, nI_1]
          · by_cases e : j = k
            · subst e; exact ⟨c, hc, hlen, Or.inr ⟨c2, hm⟩⟩
            · exact ha j (by omega)
        · right
          refine ⟨nI k, ?_, k, rfl, ha, fun ⟨c', hc', _, hm'⟩ => ?_⟩
          · unfold f_X11_kindHere_L36
            simp only [if_neg hge, e1, e2, nI_add, if_neg hlt, if_pos hj, m_so w (show w < 9 by omega), ob_s, if_pos n828, c1, hcl, if_neg hm]
          · rw [hc] at hc'
            cases hc'
            rcases hm' with ⟨h9, _⟩ | ⟨_, h9⟩
            · exact c2 h9
            · exact hm h9
      · right
        have hlt : nI n ≤ nI (p + k) := nI_le (by omega) (by omega)
        refine ⟨nI k, ?_, k, rfl, ha, fun ⟨_, _, h9, _⟩ => hlen h9⟩
        unfold f_X11_kindHere_L36
        simp only [if_neg hge, e1, e2, nI_add, if_pos hlt])
    (fun s ⟨e, ha⟩ => ⟨s, by
      subst e
      unfold f_X11_kindHere_L36
      simp only [if_pos (Int32.le_refl (nI (wlL w)))], wlL w, e, ha, fun h => by have := okc_lt h; omega⟩) 5000 0 (nI 0) (by omega) (by omega) ⟨rfl, fun j hj => absurd hj (Nat.not_lt_zero _)⟩
  subst h2
  exact ⟨r, h1, h3⟩
def mx (k : Nat → Nat) : Nat → Nat
  | 0 => 0
  | w + 1 => max (mx k w) (k w)
theorem mx_le {k : Nat → Nat} {b : Nat} : ∀ n, (∀ i, i < n → k i ≤ b) → mx k n ≤ b
  | 0, _ => Nat.zero_le _
  | n + 1, h => by
    have h1 := mx_le n (fun i hi => h i (by omega))
    have h2 := h n (by omega)
    show max (mx k n) (k n) ≤ b
    omega
theorem mx_cong {k r : Nat → Nat} : ∀ n, (∀ i, i < n → k i = r i) → mx k n = mx r n
  | 0, _ => rfl
  | n + 1, h => by
    show max (mx k n) (k n) = max (mx r n) (r n)
    rw [mx_cong n (fun i hi => h i (by omega)), h n (by omega)]
theorem mx_at {k : Nat → Nat} {w : Nat} : ∀ n, w < n → (∀ i, i < n → i ≠ w → k i ≤ k w) → mx k n = k w
  | 0, h, _ => absurd h (Nat.not_lt_zero _)
  | n + 1, h, hk => by
    show max (mx k n) (k n) = k w
    by_cases e : w = n
    · have h1 := mx_le (k := k) (b := k w) n (fun i hi => hk i (by omega) (by omega))
      rw [← e] at h1 ⊢
      omega
    · have h1 := mx_at n (by omega) (fun i hi hne => hk i (by omega) hne)
      have h2 := hk n (by omega) (fun q => e q.symm)
      omega
theorem nI_nm1 (n : Nat) (h : n < 200) : ¬ nI n = -1 := (by decide +kernel : ∀ n : Fin 200, ¬ nI n.val = -1) ⟨n, h⟩
theorem m_words {m : MV} {n p : Nat} (hn : n ≤ 60) (e1 : mSize m = nI n) (e2 : mSpot m = nI p) (hp : p ≤ n) (k : Nat → Nat) (hk : ∀ w, w < 8 → IsMl (mText m) n (wdL w) p (k w)) :
    ∃ r : Int32 × Int32 × Int32, jbL (fun s : Int32 × Int32 × Int32 => f_X11_kindHere_L9 m s.1 s.2.1 s.2.2) 5000 (nI p, (-1 : Int32), (0 : Int32)) = some r ∧ ((r.2.1 = -1 ∧ r.1 = nI (p + mx k 8) ∧ ∀ v, v < 8 → k v < wlL v) ∨ ∃ v, v < 8 ∧ r.2.1 = nI v ∧ k v = wlL v) := by
  have hk60 : ∀ w, w < 8 → k w ≤ 6 := fun w hw => by
    have := (hk w hw).le
    rw [wd_len w hw] at this
    have := (fm_6 w hw).2
    omega
  obtain ⟨r, h1, h2⟩ := lpL (body := fun s : Int32 × Int32 × Int32 => f_X11_kindHere_L9 m s.1 s.2.1 s.2.2)
    (fun w st => (st.2.2 = nI w ∧ st.2.1 = -1 ∧ st.1 = nI (p + mx k w) ∧ ∀ v, v < w → k v < wlL v) ∨ ∃ v, v < 8 ∧ st.2.1 = nI v ∧ k v = wlL v)
    (fun r => (r.2.1 = -1 ∧ r.1 = nI (p + mx k 8) ∧ ∀ v, v < 8 → k v < wlL v) ∨ ∃ v, v < 8 ∧ r.2.1 = nI v ∧ k v = wlL v) 8
    (fun w st hw hst => by
      obtain ⟨x, y, z⟩ := st
      rcases hst with ⟨ez, ey, ex, hall⟩ | ⟨v, hv, ey, ek⟩
      · left
        have ez : z = nI w := ez
        have ey : y = -1 := ey
        have ex : x = nI (p + mx k w) := ex
        subst ez; subst ey; subst ex
        have h8 : ¬ (8 : Int32) ≤ nI w := nI_ge (a := w) (b := 8) hw (by decide)
        have hmw := mx_le (k := k) (b := 6) w (fun i hi => hk60 i (by omega))
        have hkw := hk60 w hw
        obtain ⟨s1, s2⟩ := so_wl w hw
        obtain ⟨r, q1, q2⟩ := m_ml hn e1 e2 hp (nI (p + mx k w)) (-1) w hw
        have er : r = k w := q2.un (hk w hw)
        subst er
        have hsub : nI (soL (w + 1)) - nI (soL w) = nI (wlL w) := by rw [nIsub (by omega), show soL (w + 1) - soL w = wlL w by omega]
        have hmax : jMax (nI (p + mx k w)) (nI (p + k w)) = nI (p + mx k (w + 1)) := by
          rw [jMax_nI (by omega) (by omega)]
          show nI (max (p + mx k w) (p + k w)) = nI (p + max (mx k w) (k w))
          rw [show max (p + mx k w) (p + k w) = p + max (mx k w) (k w) by omega]
        have hso := m_so (w + 1) (by omega)
        have hwl6 := (fm_6 w hw).2
        show ∃ s', f_X11_kindHere_L9 m (nI (p + mx k w)) (-1) (nI w) = _ ∧ _
        by_cases e : k w = wlL w
        · refine ⟨(nI (p + mx k (w + 1)), nI w, nI (w + 1)), ?_, Or.inr ⟨w, hw, rfl, e⟩⟩
          have ee : nI (k w) = nI (wlL w) := by rw [e]
          unfold f_X11_kindHere_L9 f_X11_kindHere_J114
          simp only [if_neg h8, ↓reduceIte, hso, m_so w (show w < 9 by omega), ob_s, hsub, jb_u, q1, e2, nI_add, hmax, if_pos ee, nI_1]
        · refine ⟨(nI (p + mx k (w + 1)), -1, nI (w + 1)), ?_, Or.inl ⟨rfl, rfl, rfl, fun v hv => ?_⟩⟩
          · have ee : ¬ nI (k w) = nI (wlL w) := by rw [nI_eq (by omega) (by omega)]; exact e
            unfold f_X11_kindHere_L9 f_X11_kindHere_J114
            simp only [if_neg h8, ↓reduceIte, hso, m_so w (show w < 9 by omega), ob_s, hsub, jb_u, q1, e2, nI_add, hmax, if_neg ee, nI_1]
          · by_cases ev : v = w
            · subst ev
              have := (hk v hw).le
              rw [wd_len v hw] at this
              omega
            · exact hall v (by omega)
      · right
        have ey : y = nI v := ey
        subst ey
        refine ⟨(x, nI v, z), ?_, Or.inr ⟨v, hv, rfl, ek⟩⟩
        show f_X11_kindHere_L9 m x (nI v) z = _
        unfold f_X11_kindHere_L9
        by_cases h8 : (8 : Int32) ≤ z
        · rw [if_pos h8]
        · rw [if_neg h8, if_neg (nI_nm1 v (by omega))])
    (fun st hst => by
      obtain ⟨x, y, z⟩ := st
      rcases hst with ⟨ez, ey, ex, hall⟩ | ⟨v, hv, ey, ek⟩
      · have ez : z = nI 8 := ez
        subst ez
        refine ⟨(x, y, nI 8), ?_, Or.inl ⟨ey, ex, hall⟩⟩
        show f_X11_kindHere_L9 m x y (nI 8) = _
        unfold f_X11_kindHere_L9
        rw [if_pos (show (8 : Int32) ≤ nI 8 from Int32.le_refl _)]
      · have ey : y = nI v := ey
        subst ey
        refine ⟨(x, nI v, z), ?_, Or.inr ⟨v, hv, rfl, ek⟩⟩
        show f_X11_kindHere_L9 m x (nI v) z = _
        unfold f_X11_kindHere_L9
        by_cases h8 : (8 : Int32) ≤ z
        · rw [if_pos h8]
        · rw [if_neg h8, if_neg (nI_nm1 v (by omega))]) 5000 0 (nI p, -1, nI 0) (by omega) (by omega) (Or.inl ⟨rfl, rfl, rfl, fun v hv => absurd hv (Nat.not_lt_zero _)⟩)
  exact ⟨r, h1, h2⟩
/-- the reference's word: none, or one -/
theorem m_kind {m : MV} {n p : Nat} (hn : n ≤ 60) (e1 : mSize m = nI n) (e2 : mSpot m = nI p) (e3 : mWrong m = -1) (hp : p ≤ n) (k : Nat → Nat) (hk : ∀ w, w < 8 → IsMl (mText m) n (wdL w) p (k w)) :
    ((∀ v, v < 8 → k v < wlL v) ∧ f_X11_kindHere m = some (-1, mSSpot (nI p) (mSWrong (nI (p + mx k 8)) m))) ∨ (∃ v, v < 8 ∧ k v = wlL v ∧ f_X11_kindHere m = some (nI v, mSSpot (nI (p + wlL v)) (mSWrong (-1) m))) := by
  obtain ⟨r, h1, h2⟩ := m_words hn e1 e2 hp k hk
  have sp : ∀ x : Int32, mSpot (mSWrong x m) = nI p := fun x => by
    have : mSpot (mSWrong x m) = mSpot m := by simp only [mg15_0, mg15_1, mg15_2, mg15_3, mg15_4, mg15_5, mg15_6, mg15_7, mg15_8, mg15_9, mg15_10, mg15_11, mg15_12, mg15_13, mg15_14, mg15_15, mg15_16, mg15_17, mg15_18]
    rw [this, e2]
  rcases h2 with ⟨a1, a2, a3⟩ | ⟨v, hv, a1, a2⟩
  · left
    refine ⟨a3, ?_⟩
    unfold f_X11_kindHere
    rw [jb_u, e2, h1, Option.bind_some, if_pos a1, a1, a2]
    unfold f_X11_kindHere_J135 f_X11_kindHere_J163
    simp only [jb_u, ↓reduceIte, sp, Int32.add_zero]
  · right
    refine ⟨v, hv, a2, ?_⟩
    obtain ⟨s1, s2⟩ := so_wl v hv
    have hne : ¬ nI v = -1 := nI_nm1 v (by omega)
    have hso := m_so (v + 1) (by omega)
    rw [← nI_1] at hso
    have hsub : nI p + (nI (soL (v + 1)) - nI (soL v)) = nI (p + wlL v) := by rw [nIsub (by omega), nI_add, show p + (soL (v + 1) - soL v) = p + wlL v by omega]
    unfold f_X11_kindHere
    rw [jb_u, e2, h1, Option.bind_some, a1, if_neg hne, e3]
    unfold f_X11_kindHere_J135 f_X11_kindHere_J163
    simp only [jb_u, if_neg hne, hso, m_so v (show v < 9 by omega), ob_s, sp, hsub]
/-! the program's verb -/
theorem q_verb {pv : PV} {n p : Nat} (e1 : pLength pv = nI n) (hn : n ≤ 60) (hp : p ≤ n) (r : Nat → Nat) (hr : ∀ v, v < 8 → IsMl (pText pv) n (fmL v) p (r v)) :
    ((∀ v, v < 8 → r v ≠ (fmL v).length) → f_X6_verbAt pv (nI p) = some none) ∧ (∀ w, w < 8 → r w = (fmL w).length → (∀ v, v < w → r v ≠ (fmL v).length) → f_X6_verbAt pv (nI p) = some (some w)) := by
  have htot : f_X9_total = some 8 := rfl
  have step : ∀ v, v < 8 → (r v = (fmL v).length → f_X6_verbAt_L2 pv (nI p) (nI v) = some (.inr (.inr (some v)))) ∧ (r v ≠ (fmL v).length → f_X6_verbAt_L2 pv (nI p) (nI v) = some (.inl (nI (v + 1)))) := fun v hv => by
    have h8 : ¬ (8 : Int32) ≤ nI v := nI_ge (a := v) (b := 8) hv (by decide)
    have hat : f_X9_at (nI v) = some v := by
      unfold f_X9_at
      rw [if_pos (nIin hv (by decide)), nI_clamp (by omega)]
    obtain ⟨z, z1, z2⟩ := q_ml e1 hn v p hv hp
    have ez : z = r v := z2.un (hr v hv)
    subst ez
    have hz := z2.le
    have h12 := fm_12 v hv
    constructor
    · intro e
      have ee : nI (r v) = nI (fmL v).length := by rw [e]
      unfold f_X6_verbAt_L2
      simp only [htot, ob_s, if_neg h8, hat, z1, if_pos hv, x9_len v hv, if_pos ee]
    · intro e
      have ee : ¬ nI (r v) = nI (fmL v).length := by rw [nI_eq (by omega) (by omega)]; exact e
      unfold f_X6_verbAt_L2
      simp only [htot, ob_s, if_neg h8, hat, z1, if_pos hv, x9_len v hv, if_neg ee, nI_1]
  constructor
  · intro hall
    obtain ⟨z, h1, x, h2⟩ := lpL (body := fun s => f_X6_verbAt_L2 pv (nI p) s) (fun k s => s = nI k) (fun z => ∃ x, z = .inl x) 8
      (fun k s hk e => by
        left
        subst e
        exact ⟨nI (k + 1), (step k hk).2 (hall k hk), rfl⟩)
      (fun s e => ⟨.inl s, by
        subst e
        unfold f_X6_verbAt_L2
        simp only [htot, ob_s, if_pos (show (8 : Int32) ≤ nI 8 from Int32.le_refl _)], s, rfl⟩) 5000 0 (nI 0) (by omega) (by omega) rfl
    subst h2
    have h1' : jbL (fun s => f_X6_verbAt_L2 pv (nI p) s) 5000 (0 : Int32) = some (.inl x) := h1
    unfold f_X6_verbAt
    simp only [h1', ob_s, jm_l]
  · intro w hw ew hbef
    obtain ⟨z, h1, h2⟩ := lpL (body := fun s => f_X6_verbAt_L2 pv (nI p) s) (fun k s => s = nI k) (fun z => z = .inr (some w)) w
      (fun k s hk e => by
        left
        subst e
        exact ⟨nI (k + 1), (step k (by omega)).2 (hbef k hk), rfl⟩)
      (fun s e => ⟨.inr (some w), by
        subst e
        exact (step w hw).1 ew, rfl⟩) 5000 0 (nI 0) (by omega) (by omega) rfl
    subst h2
    have h1' : jbL (fun s => f_X6_verbAt_L2 pv (nI p) s) 5000 (0 : Int32) = some (.inr (some w)) := h1
    unfold f_X6_verbAt
    simp only [h1', ob_s, jm_r]
theorem q_long {pv : PV} {n p : Nat} (e1 : pLength pv = nI n) (hn : n ≤ 60) (hp : p ≤ n) (r : Nat → Nat) (hr : ∀ v, v < 8 → IsMl (pText pv) n (fmL v) p (r v)) : f_X6_longestMatch pv (nI p) = some (nI (mx r 8)) := by
  have htot : f_X9_total = some 8 := rfl
  have hr12 : ∀ v, v < 8 → r v ≤ 12 := fun v hv => Nat.le_trans (hr v hv).le (fm_12 v hv)
  have hl : jbL (fun s : Int32 × Int32 => f_X6_longestMatch_L4 pv (nI p) s.1 s.2) 5000 (nI (mx r 0), nI 0) = some (nI (mx r 8), nI 8) := by
    refine lpD (fun v => (nI (mx r v), nI v)) _ 8 (fun v hv => ?_) ?_ 5000 (by decide)
    · show f_X6_longestMatch_L4 pv (nI p) (nI (mx r v)) (nI v) = some (Sum.inl (nI (max (mx r v) (r v)), nI (v + 1)))
      have h8 : ¬ (8 : Int32) ≤ nI v := nI_ge (a := v) (b := 8) hv (by decide)
      have hat : f_X9_at (nI v) = some v := by
        unfold f_X9_at
        rw [if_pos (nIin hv (by decide)), nI_clamp (by omega)]
      obtain ⟨z, z1, z2⟩ := q_ml e1 hn v p hv hp
      have ez : z = r v := z2.un (hr v hv)
      subst ez
      have h1 := mx_le (k := r) (b := 12) v (fun i hi => hr12 i (by omega))
      have h2 := hr12 v hv
      have hmax : jMax (nI (mx r v)) (nI (r v)) = nI (max (mx r v) (r v)) := jMax_nI (by omega) (by omega)
      unfold f_X6_longestMatch_L4
      simp only [htot, ob_s, if_neg h8, hat, z1, jb_u, hmax, nI_1]
    · show f_X6_longestMatch_L4 pv (nI p) _ (nI 8) = _
      unfold f_X6_longestMatch_L4
      simp only [htot, ob_s, if_pos (show (8 : Int32) ≤ nI 8 from Int32.le_refl _)]
  have hl' : jbL (fun s : Int32 × Int32 => f_X6_longestMatch_L4 pv (nI p) s.1 s.2) 5000 ((0 : Int32), (0 : Int32)) = some (nI (mx r 8), nI 8) := hl
  unfold f_X6_longestMatch
  simp only [hl', ob_s]
/-! forms and words -/
theorem rk1 {X : Nat → Int32} {n p v : Nat} {k r : Nat} (hv : v < 8) (hk : IsMl X n (wdL v) p k) (hr : IsMl X n (fmL v) p r) (h : k < wlL v) : r = k :=
  hr.un ⟨fun j hj => (okc_wd (by omega)).mp (hk.1 j hj), fun q => hk.2 ((okc_wd h).mpr q)⟩
theorem rk2 {X : Nat → Int32} {n p v : Nat} {k r : Nat} (hv : v < 8) (hk : IsMl X n (wdL v) p k) (hr : IsMl X n (fmL v) p r) (h : k = wlL v) : wlL v ≤ r := by
  apply Classical.byContradiction
  intro h1
  exact hr.2 ((okc_wd (by omega)).mp (hk.1 r (by omega)))
theorem fm_df (w v : Nat) (hw : w < 8) (hv : v < 8) (h : w ≠ v) : ∃ i, i < wlL w ∧ i < wlL v ∧ (fmL w).getD i 0 ≠ (fmL v).getD i 0 ∧ (fmL w).getD i 0 ≠ 35 ∧ (fmL v).getD i 0 ≠ 35 ∧ (fmL w).getD i 0 < 200 ∧ (fmL v).getD i 0 < 200 ∧ i < (fmL w).length ∧ i < (fmL v).length := by
  have hall : ∀ w : Fin 8, ∀ v : Fin 8, w = v ∨ ∃ i : Fin 6, i.val < wlL w.val ∧ i.val < wlL v.val ∧ (fmL w.val).getD i.val 0 ≠ (fmL v.val).getD i.val 0 ∧ (fmL w.val).getD i.val 0 ≠ 35 ∧ (fmL v.val).getD i.val 0 ≠ 35 ∧ (fmL w.val).getD i.val 0 < 200 ∧ (fmL v.val).getD i.val 0 < 200 ∧ i.val < (fmL w.val).length ∧ i.val < (fmL v.val).length := by decide +kernel
  rcases hall ⟨w, hw⟩ ⟨v, hv⟩ with h1 | ⟨i, h1⟩
  · exact absurd (congrArg Fin.val h1) h
  · exact ⟨i.val, h1⟩
theorem okc_lit {X : Nat → Int32} {n p j : Nat} {pat : List Nat} (h : okc X n pat p j) (h35 : pat.getD j 0 ≠ 35) : X (p + j) = nI (pat.getD j 0) := by
  obtain ⟨c, h1, h2, h3⟩ := h
  have e : pat.getD j 0 = c := by rw [List.getD_eq_getElem?_getD, h1]; rfl
  rw [e] at h35 ⊢
  rcases h3 with ⟨q, _⟩ | ⟨_, q⟩
  · exact absurd q h35
  · exact q
theorem rk3 {X : Nat → Int32} {n p w v : Nat} {k r : Nat} (hw : w < 8) (hv : v < 8) (hne : w ≠ v) (hk : IsMl X n (wdL w) p k) (hkw : k = wlL w) (hr : IsMl X n (fmL v) p r) : r < wlL w ∧ r < wlL v := by
  obtain ⟨i, i1, i2, i3, i4, i5, i6, i7, _, _⟩ := fm_df w v hw hv hne
  have h1 := okc_lit ((okc_wd i1).mp (hk.1 i (by omega))) i4
  have hri : r ≤ i := by
    apply Classical.byContradiction
    intro h2
    have h3 := okc_lit (hr.1 i (by omega)) i5
    rw [h1, nI_eq (by omega) (by omega)] at h3
    exact i3 h3
  omega
