theorem lpL {σ ρ : Type} {body : σ → Option (Sum σ ρ)} (P : Nat → σ → Prop) (Q : ρ → Prop) (N : Nat)
    (h : ∀ k s, k < N → P k s → (∃ s', body s = some (.inl s') ∧ P (k + 1) s') ∨ (∃ r, body s = some (.inr r) ∧ Q r))
    (he : ∀ s, P N s → ∃ r, body s = some (.inr r) ∧ Q r) : ∀ (f k : Nat) (s : σ), k ≤ N → N - k < f → P k s → ∃ r, jbL body f s = some r ∧ Q r := by
  intro f
  induction f with
  | zero => intro k s _ h2; exact absurd h2 (Nat.not_lt_zero _)
  | succ f ih =>
    intro k s hk hf hP
    by_cases hN : k < N
    · rcases h k s hN hP with ⟨s', h1, h2⟩ | ⟨r, h1, h2⟩
      · obtain ⟨r, h3, h4⟩ := ih (k + 1) s' hN (by omega) h2
        exact ⟨r, by show (body s).bind _ = _; rw [h1]; exact h3, h4⟩
      · exact ⟨r, by show (body s).bind _ = _; rw [h1]; rfl, h2⟩
    · have hkN : k = N := by omega
      subst hkN
      obtain ⟨r, h1, h2⟩ := he s hP
      exact ⟨r, by show (body s).bind _ = _; rw [h1]; rfl, h2⟩
theorem lpW {σ ρ : Type} {body : σ → Option (Sum σ ρ)} (P : σ → Prop) (Q : ρ → Prop) (μ : σ → Nat)
    (h : ∀ s, P s → (∃ s', body s = some (.inl s') ∧ P s' ∧ μ s' < μ s) ∨ (∃ r, body s = some (.inr r) ∧ Q r)) : ∀ (f : Nat) (s : σ), μ s < f → P s → ∃ r, jbL body f s = some r ∧ Q r := by
  intro f
  induction f with
  | zero => intro s h2; exact absurd h2 (Nat.not_lt_zero _)
  | succ f ih =>
    intro s hf hP
    rcases h s hP with ⟨s', h1, h2, h3⟩ | ⟨r, h1, h2⟩
    · obtain ⟨r, h4, h5⟩ := ih s' (by omega) h2
      exact ⟨r, by show (body s).bind _ = _; rw [h1]; exact h4, h5⟩
    · exact ⟨r, by show (body s).bind _ = _; rw [h1]; rfl, h2⟩
/-- a counting loop whose states are known -/
theorem lpD {σ ρ : Type} {body : σ → Option (Sum σ ρ)} (st : Nat → σ) (fin : ρ) (N : Nat) (h : ∀ k, k < N → body (st k) = some (.inl (st (k + 1)))) (he : body (st N) = some (.inr fin)) (f : Nat) (hf : N < f) : jbL body f (st 0) = some fin := by
  obtain ⟨r, h1, h2⟩ := lpL (fun k s => s = st k) (fun r => r = fin) N (fun k s hk hs => Or.inl ⟨st (k + 1), by rw [hs]; exact h k hk, rfl⟩) (fun s hs => ⟨fin, by rw [hs]; exact he, rfl⟩) f 0 (st 0) (Nat.zero_le _) (by omega) rfl
  rw [h1, h2]
/-- a fold over 0 .. n-1 -/
def itr {α : Type} (step : Nat → α → α) (a : α) : Nat → α
  | 0 => a
  | k + 1 => step k (itr step a k)
theorem itr_cong {α : Type} {s1 s2 : Nat → α → α} {a : α} {N : Nat} (h : ∀ k x, k < N → s1 k x = s2 k x) : ∀ n, n ≤ N → itr s1 a n = itr s2 a n
  | 0, _ => rfl
  | n + 1, hn => by
    show s1 n (itr s1 a n) = s2 n (itr s2 a n)
    rw [itr_cong h n (by omega), h n _ (by omega)]
theorem nIin {c N : Nat} (h : c < N) (hN : N < 2 ^ 31) : jIn (nI c) N := nI_in h hN
theorem nIsub {a b : Nat} (h : b ≤ a) : nI a - nI b = nI (a - b) := by
  obtain ⟨k, rfl⟩ := Nat.exists_eq_add_of_le h
  rw [Nat.add_comm b k, ← nI_add, Int32.add_sub_cancel, Nat.add_sub_cancel]
theorem nImul (a b : Nat) : nI a * nI b = nI (a * b) := (Int32.ofNat_mul a b).symm
theorem jMax_nI {a b : Nat} (ha : a < 2 ^ 31) (hb : b < 2 ^ 31) : jMax (nI a) (nI b) = nI (max a b) := by
  unfold jMax
  by_cases h : a < b
  · rw [if_pos (nI_lt h hb), Nat.max_eq_right (by omega)]
  · rw [if_neg (nI_nlt (by omega) ha), Nat.max_eq_left (by omega)]
theorem jMin_nI {a b : Nat} (ha : a < 2 ^ 31) (hb : b < 2 ^ 31) : jMin (nI a) (nI b) = nI (min a b) := by
  unfold jMin
  by_cases h : b < a
  · rw [if_pos (nI_lt h ha), Nat.min_eq_right (by omega)]
  · rw [if_neg (nI_nlt (by omega) hb), Nat.min_eq_left (by omega)]
/-- of two small numbers the distance -/
def dist1 (a b : Nat) : Nat := (a - b) + (b - a)
theorem jAbs_nI {a b : Nat} (ha : a < 2 ^ 31) (hb : b < 2 ^ 31) : jAbs (nI a - nI b) = nI (dist1 a b) := by
  unfold jAbs dist1
  by_cases h : b ≤ a
  · rw [nIsub h, if_pos (nI_pos' (by omega)), show b - a = 0 by omega, Nat.add_zero]
  · have h2 : nI a - nI b = -(nI (b - a)) := by rw [← nIsub (by omega : a ≤ b)]; simp
    rw [h2, if_neg, show a - b = 0 by omega, Nat.zero_add]
    · simp
    · rw [Int32.le_iff_toInt_le, Int32.toInt_neg, nI_toInt (by omega), Int32.toInt_zero]
      rw [Int.bmod_eq_of_le (by omega) (by omega)]
      omega
def nb (c : Nat) (k : Nat) : Option Nat := match k with
  | 0 => if 6 ≤ c then some (c - 6) else none
  | 1 => if 0 < c % 6 then some (c - 1) else none
  | 2 => if c % 6 < 5 then some (c + 1) else none
  | _ => if c < 24 then some (c + 6) else none
/-- the reference's sides -/
def sd (k : Nat) : Nat := match k with | 0 => 0 | 1 => 2 | 2 => 3 | _ => 1
def enc (o : Option Nat) : Int32 := match o with | none => -1 | some d => nI d
def far (c d : Nat) : Nat := dist1 (c / 6) (d / 6) + dist1 (c % 6) (d % 6)
theorem g_row (c : Nat) (h : c < 30) : f_X3_rowOf (nI c) = some (nI (c / 6)) := (by decide +kernel : ∀ c : Fin 30, f_X3_rowOf (nI c.val) = some (nI (c.val / 6))) ⟨c, h⟩
theorem g_col (c : Nat) (h : c < 30) : f_X3_columnOf (nI c) = some (nI (c % 6)) := (by decide +kernel : ∀ c : Fin 30, f_X3_columnOf (nI c.val) = some (nI (c.val % 6))) ⟨c, h⟩
theorem g_div (c : Nat) (h : c < 30) : nI c / 6 = nI (c / 6) := (by decide +kernel : ∀ c : Fin 30, nI c.val / 6 = nI (c.val / 6)) ⟨c, h⟩
theorem g_mod (c : Nat) (h : c < 30) : nI c - nI c / 6 * 6 = nI (c % 6) := (by decide +kernel : ∀ c : Fin 30, nI c.val - nI c.val / 6 * 6 = nI (c.val % 6)) ⟨c, h⟩
theorem g_nb (c k : Nat) (h : c < 30) (hk : k < 4) : f_X3_neighbour (nI c) (nI k) = some (enc (nb c k)) := (by decide +kernel : ∀ c : Fin 30, ∀ k : Fin 4, f_X3_neighbour (nI c.val) (nI k.val) = some (enc (nb c.val k.val))) ⟨c, h⟩ ⟨k, hk⟩
theorem m_nb (c k : Nat) (h : c < 30) (hk : k < 4) : f_X11_beside (nI c) (nI k) = some (enc (nb c (sd k))) := (by decide +kernel : ∀ c : Fin 30, ∀ k : Fin 4, f_X11_beside (nI c.val) (nI k.val) = some (enc (nb c.val (sd k.val)))) ⟨c, h⟩ ⟨k, hk⟩
theorem g_far (c d : Nat) (h : c < 30) (hd : d < 30) : f_X3_distance (nI c) (nI d) = some (nI (far c d)) := (by decide +kernel : ∀ c : Fin 30, ∀ d : Fin 30, f_X3_distance (nI c.val) (nI d.val) = some (nI (far c.val d.val))) ⟨c, h⟩ ⟨d, hd⟩
theorem m_far (c d : Nat) (h : c < 30) (hd : d < 30) : f_X11_farFrom (nI c) (nI d) = some (nI (far c d)) := (by decide +kernel : ∀ c : Fin 30, ∀ d : Fin 30, f_X11_farFrom (nI c.val) (nI d.val) = some (nI (far c.val d.val))) ⟨c, h⟩ ⟨d, hd⟩
theorem nb_lt {c k d : Nat} (h : c < 30) (hk : k < 4) (e : nb c k = some d) : d < 30 := by
  have := (by decide +kernel : ∀ c : Fin 30, ∀ k : Fin 4, ∀ d, nb c.val k.val = some d → d < 30)
  exact this ⟨c, h⟩ ⟨k, hk⟩ d e
theorem nb_sym {c k d : Nat} (h : c < 30) (hk : k < 4) (e : nb c k = some d) : nb d (3 - k) = some c := by
  have hall : ∀ c : Fin 30, ∀ k : Fin 4, ((nb c.val k.val).map fun d => decide (nb d (3 - k.val) = some c.val)) ≠ some false := by decide +kernel
  have h1 := hall ⟨c, h⟩ ⟨k, hk⟩
  rw [show nb (⟨c, h⟩ : Fin 30).val (⟨k, hk⟩ : Fin 4).val = some d from e] at h1
  by_cases h2 : nb d (3 - k) = some c
  · exact h2
  · exact absurd (by show some (decide (nb d (3 - k) = some c)) = some false; rw [decide_eq_false h2]) h1
theorem enc_ne {d : Nat} (h : d < 30) : ¬ enc (some d) = -1 := by
  have := (by decide +kernel : ∀ d : Fin 30, ¬ nI d.val = -1)
  exact this ⟨d, h⟩
theorem g_cell (r k : Nat) (hr : r < 5) (hk : k < 6) : f_X3_cellFault (nI r) (nI k) = some 0 ∧ f_X3_cellAt (nI r) (nI k) = some (nI (6 * r + k)) ∧ f_X11_isCell (nI r) (nI k) = some 1 ∧ f_X11_cellAt (nI r) (nI k) = some (nI (6 * r + k)) := (by decide +kernel : ∀ r : Fin 5, ∀ k : Fin 6, f_X3_cellFault (nI r.val) (nI k.val) = some 0 ∧ f_X3_cellAt (nI r.val) (nI k.val) = some (nI (6 * r.val + k.val)) ∧ f_X11_isCell (nI r.val) (nI k.val) = some 1 ∧ f_X11_cellAt (nI r.val) (nI k.val) = some (nI (6 * r.val + k.val))) ⟨r, hr⟩ ⟨k, hk⟩
theorem nI_lt_of {x : Int32} {n : Nat} (hn : n < 2 ^ 31) (h0 : ¬ x < 0) (h1 : ¬ nI n ≤ x) : ∃ j, j < n ∧ x = nI j := by
  obtain ⟨j, hj, rfl⟩ := nI_of h0
  exact ⟨j, Nat.not_le.mp fun q => h1 (nI_le q hj), rfl⟩
/-- each pair of numbers is a cell, or no cell for either -/
theorem cell_or (a b : Int32) : (∃ r k, r < 5 ∧ k < 6 ∧ a = nI r ∧ b = nI k) ∨ (f_X3_cellFault a b = some 1 ∧ f_X11_isCell a b = some 0 ∧ f_X11_cellAt a b = some 0) := by
  by_cases h1 : a < 0
  · right
    have hi : f_X11_isCell a b = some 0 := by simp [f_X11_isCell, f_X11_isIn, h1]
    refine ⟨?_, hi, ?_⟩
    · simp [f_X3_cellFault, f_X3_hasRow, f_X3_cellFault_J21, f_X3_cellFault_J22, h1]
    · simp [f_X11_cellAt, hi]
  · by_cases h2 : (5 : Int32) ≤ a
    · right
      have h2' : (4 : Int32) < a := by rw [Int32.lt_iff_toInt_lt]; rw [Int32.le_iff_toInt_le] at h2; exact h2
      have hi : f_X11_isCell a b = some 0 := by simp [f_X11_isCell, f_X11_isIn, h1, h2']
      refine ⟨?_, hi, ?_⟩
      · simp [f_X3_cellFault, f_X3_hasRow, f_X3_cellFault_J21, f_X3_cellFault_J22, h1, h2]
      · simp [f_X11_cellAt, hi]
    · obtain ⟨r, hr, rfl⟩ := nI_lt_of (n := 5) (by decide) h1 h2
      have hrow : f_X3_hasRow (nI r) = some 1 := (by decide +kernel : ∀ r : Fin 5, f_X3_hasRow (nI r.val) = some 1) ⟨r, hr⟩
      have hin : f_X11_isIn (nI r) 0 4 = some 1 := (by decide +kernel : ∀ r : Fin 5, f_X11_isIn (nI r.val) 0 4 = some 1) ⟨r, hr⟩
      by_cases h3 : b < 0
      · right
        have hi : f_X11_isCell (nI r) b = some 0 := by simp [f_X11_isCell, hin]; simp [f_X11_isIn, h3]
        refine ⟨?_, hi, ?_⟩
        · simp [f_X3_cellFault, hrow, f_X3_cellFault_J21, f_X3_cellFault_J22, h3]
        · simp [f_X11_cellAt, hi]
      · by_cases h4 : (6 : Int32) ≤ b
        · right
          have h4' : (5 : Int32) < b := by rw [Int32.lt_iff_toInt_lt]; rw [Int32.le_iff_toInt_le] at h4; exact h4
          have hi : f_X11_isCell (nI r) b = some 0 := by simp [f_X11_isCell, hin]; simp [f_X11_isIn, h3, h4']
          refine ⟨?_, hi, ?_⟩
          · simp [f_X3_cellFault, hrow, f_X3_cellFault_J21, f_X3_cellFault_J22, h3, h4]
          · simp [f_X11_cellAt, hi]
        · obtain ⟨k, hk, rfl⟩ := nI_lt_of (n := 6) (by decide) h3 h4
          exact Or.inl ⟨r, k, hr, hk, rfl, rfl⟩

