noncomputable def dcd (p : Prop) : Bool := @decide p (Classical.propDecidable p)
theorem dcd_t {p : Prop} : dcd p = true ↔ p := by unfold dcd; exact @decide_eq_true_iff p (Classical.propDecidable p)
/-- how many of the first n have it -/
noncomputable def cnt (p : Nat → Prop) (n : Nat) : Nat := (List.range n).countP (fun c => dcd (p c))
theorem cnt_s (p : Nat → Prop) (n : Nat) : cnt p (n + 1) = cnt p n + (if dcd (p n) = true then 1 else 0) := by
  unfold cnt
  rw [List.range_succ, List.countP_append, List.countP_singleton]
theorem cnt_yes {p : Nat → Prop} {n : Nat} (h : p n) : cnt p (n + 1) = cnt p n + 1 := by rw [cnt_s, if_pos (dcd_t.mpr h)]
theorem cnt_no {p : Nat → Prop} {n : Nat} (h : ¬ p n) : cnt p (n + 1) = cnt p n := by rw [cnt_s, if_neg (fun q => h (dcd_t.mp q))]; rfl
theorem cnt_le (p : Nat → Prop) (n : Nat) : cnt p n ≤ n := by
  unfold cnt
  exact Nat.le_trans List.countP_le_length (by simp)
theorem cnt_mono {p q : Nat → Prop} (h : ∀ c, p c → q c) : ∀ n, cnt p n ≤ cnt q n
  | 0 => Nat.le_refl _
  | n + 1 => by
    have ih := cnt_mono h n
    by_cases hp : p n
    · rw [cnt_yes hp, cnt_yes (h n hp)]; omega
    · rw [cnt_no hp, cnt_s]; omega
theorem cnt_lt {p q : Nat → Prop} (h : ∀ c, p c → q c) {x : Nat} (hq : q x) (hp : ¬ p x) : ∀ n, x < n → cnt p n < cnt q n
  | 0, hx => absurd hx (Nat.not_lt_zero _)
  | n + 1, hx => by
    by_cases e : x = n
    · subst e
      rw [cnt_no hp, cnt_yes hq]
      have := cnt_mono h x
      omega
    · have ih := cnt_lt h hq hp n (by omega)
      by_cases hpn : p n
      · rw [cnt_yes hpn, cnt_yes (h n hpn)]; omega
      · rw [cnt_no hpn, cnt_s]; omega
theorem cnt_cong {p q : Nat → Prop} : ∀ n, (∀ c, c < n → (p c ↔ q c)) → cnt p n = cnt q n
  | 0, _ => rfl
  | n + 1, h => by
    have ih := cnt_cong n (fun c hc => h c (by omega))
    by_cases hp : p n
    · rw [cnt_yes hp, cnt_yes ((h n (by omega)).mp hp), ih]
    · rw [cnt_no hp, cnt_no (fun q => hp ((h n (by omega)).mpr q)), ih]
theorem filter_perm {l : List Nat} {n : Nat} (hn : l.Nodup) (hl : ∀ x ∈ l, x < n) : ((List.range n).filter (fun c => decide (c ∈ l))).Perm l := by
  rw [List.perm_iff_count]
  intro a
  have h1 : ((List.range n).filter (fun c => decide (c ∈ l))).Nodup := List.Pairwise.filter _ List.nodup_range
  rw [List.Nodup.count h1, List.Nodup.count hn]
  by_cases ha : a ∈ l
  · rw [if_pos ha, if_pos (List.mem_filter.mpr ⟨List.mem_range.mpr (hl a ha), by simp [ha]⟩)]
  · rw [if_neg ha, if_neg (fun h => ha (by simpa using (List.mem_filter.mp h).2))]
/-- a list without repeats is as long as what it holds is many -/
theorem cnt_list {l : List Nat} {n : Nat} (hn : l.Nodup) (hl : ∀ x ∈ l, x < n) : cnt (fun c => c ∈ l) n = l.length := by
  rw [← (filter_perm hn hl).length_eq, ← List.countP_eq_length_filter]
  unfold cnt
  congr 1
  funext c
  rw [Bool.eq_iff_iff, dcd_t, decide_eq_true_iff]
theorem sum_perm {a b : List Nat} (h : a.Perm b) : a.sum = b.sum := by
  induction h with
  | nil => rfl
  | cons x _ ih => rw [List.sum_cons, List.sum_cons, ih]
  | swap x y l => rw [List.sum_cons, List.sum_cons, List.sum_cons, List.sum_cons]; omega
  | trans _ _ ih1 ih2 => exact ih1.trans ih2
/-- sums over what a list holds -/
theorem sum_list {l : List Nat} {n : Nat} (hn : l.Nodup) (hl : ∀ x ∈ l, x < n) (f : Nat → Nat) : (l.map f).sum = ((List.range n).map (fun c => if c ∈ l then f c else 0)).sum := by
  rw [← sum_perm ((filter_perm hn hl).map f)]
  generalize List.range n = r
  induction r with
  | nil => rfl
  | cons a r ih =>
    by_cases ha : a ∈ l
    · simp [List.filter_cons, ha, ih]
    · simp [List.filter_cons, ha, ih]
/-- within so many steps -/
def wi (E : Nat → Nat → Prop) (s : Nat) : Nat → Nat → Prop
  | 0, c => c = s
  | n + 1, c => wi E s n c ∨ ∃ d, wi E s n d ∧ E d c
theorem wi_up {E : Nat → Nat → Prop} {s c : Nat} : ∀ {n m : Nat}, n ≤ m → wi E s n c → wi E s m c := by
  intro n m h
  induction h with
  | refl => exact id
  | step _ ih => exact fun q => Or.inl (ih q)
/-- a way of some length -/
abbrev Cn (E : Nat → Nat → Prop) (a b : Nat) : Prop := ∃ n, wi E a n b
theorem Cn.rf {E : Nat → Nat → Prop} (a : Nat) : Cn E a a := ⟨0, rfl⟩
theorem Cn.st {E : Nat → Nat → Prop} {a b c : Nat} (h : Cn E a b) (e : E b c) : Cn E a c := by
  obtain ⟨n, h⟩ := h
  exact ⟨n + 1, Or.inr ⟨b, h, e⟩⟩
theorem Cn.ind {E : Nat → Nat → Prop} {a : Nat} {P : Nat → Prop} (h0 : P a) (hs : ∀ b c, Cn E a b → P b → E b c → P c) {b : Nat} (h : Cn E a b) : P b := by
  obtain ⟨n, h⟩ := h
  induction n generalizing b with
  | zero => cases h; exact h0
  | succ n ih =>
    rcases h with h | ⟨d, h, e⟩
    · exact ih h
    · exact hs d b ⟨n, h⟩ (ih h) e
theorem Cn.tr {E : Nat → Nat → Prop} {a b c : Nat} (h : Cn E a b) (h2 : Cn E b c) : Cn E a c := Cn.ind (P := fun c => Cn E a c) h (fun _ _ _ ih e => ih.st e) h2
theorem Cn.one {E : Nat → Nat → Prop} {a b : Nat} (h : E a b) : Cn E a b := (Cn.rf a).st h
theorem Cn.sy {E : Nat → Nat → Prop} (hs : ∀ a b, E a b → E b a) {a b : Nat} (h : Cn E a b) : Cn E b a := Cn.ind (P := fun b => Cn E b a) (Cn.rf a) (fun _ _ _ ih e => (Cn.one (hs _ _ e)).tr ih) h
theorem wi_lt {E : Nat → Nat → Prop} (hE : ∀ a b, E a b → b < 30) {s : Nat} (hs : s < 30) : ∀ {n c : Nat}, wi E s n c → c < 30
  | 0, _, h => by cases h; exact hs
  | n + 1, c, h => by
    rcases h with h | ⟨d, _, e⟩
    · exact wi_lt hE hs h
    · exact hE _ _ e
/-- on 30 cells 29 steps are enough -/
theorem cn_wi {E : Nat → Nat → Prop} (hE : ∀ a b, E a b → b < 30) {s c : Nat} (hs : s < 30) (h : Cn E s c) : wi E s 29 c := by
  have hstab : ∃ n, n ≤ 29 ∧ ∀ x, wi E s (n + 1) x → wi E s n x := by
    apply Classical.byContradiction
    intro hno
    have hgrow : ∀ n, n ≤ 30 → n + 1 ≤ cnt (wi E s n) 30 := by
      intro n
      induction n with
      | zero =>
        intro _
        have : cnt (fun _ => False) 30 < cnt (wi E s 0) 30 := cnt_lt (p := fun _ => False) (q := wi E s 0) (fun _ h => h.elim) (x := s) rfl (fun h => h) 30 hs
        omega
      | succ n ih =>
        intro hn
        have h1 := ih (by omega)
        have h2 : ∃ x, wi E s (n + 1) x ∧ ¬ wi E s n x := by
          apply Classical.byContradiction
          intro h3
          exact hno ⟨n, by omega, fun x hx => Classical.byContradiction fun h4 => h3 ⟨x, hx, h4⟩⟩
        obtain ⟨x, hx1, hx2⟩ := h2
        have := cnt_lt (p := wi E s n) (q := wi E s (n + 1)) (fun c h => Or.inl h) hx1 hx2 30 (wi_lt hE hs hx1)
        omega
    have h1 := hgrow 30 (by omega)
    have h2 := cnt_le (wi E s 30) 30
    omega
  obtain ⟨n, hn, hst⟩ := hstab
  have hall : wi E s n c := Cn.ind (P := fun c => wi E s n c) (wi_up (Nat.zero_le n) (show wi E s 0 s from rfl)) (fun _ _ _ ih e => hst _ (Or.inr ⟨_, ih, e⟩)) h
  exact wi_up hn hall

