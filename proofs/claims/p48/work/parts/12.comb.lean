/-! the words of the pure functions: what fails is none -/
abbrev jIn (i : Int32) (n : Nat) : Prop := ¬ (i < 0 ∨ n ≤ i.toNatClampNeg)
abbrev jMax (x y : Int32) : Int32 := if x < y then y else x
abbrev jMin (x y : Int32) : Int32 := if y < x then y else x
abbrev jAbs (x : Int32) : Int32 := if 0 ≤ x then x else 0 - x
def jbN {α β : Type} (e : α) (k : α → β) : β := k e
theorem jbN_e {α β : Type} {e x : α} {k : α → β} {o : β} (h : jbN e k = o) (hx : x = e) : k x = o := by subst hx; exact h
theorem jbA_e {α : Type} {c : Prop} [Decidable c] {k : Option α} {o : α} (h : (if c then k else none) = some o) : c ∧ k = some o := by
  by_cases hc : c
  · rw [if_pos hc] at h; exact ⟨hc, h⟩
  · rw [if_neg hc] at h; cases h
theorem jbT {α : Type} {c : Prop} [Decidable c] {a b o : α} (h : (if c then a else b) = o) (hc : c) : a = o := by rw [if_pos hc] at h; exact h
theorem jbF {α : Type} {c : Prop} [Decidable c] {a b o : α} (h : (if c then a else b) = o) (hc : ¬ c) : b = o := by rw [if_neg hc] at h; exact h
theorem jbB_e {α β : Type} {x : Option α} {k : α → Option β} {o : β} (h : x.bind k = some o) : ∃ a, x = some a ∧ k a = some o := by
  cases x with
  | none => cases h
  | some a => exact ⟨a, rfl, h⟩
/-- a loop: the body goes on (inl) or comes out (inr) -/
def jbL {σ ρ : Type} (body : σ → Option (Sum σ ρ)) : Nat → σ → Option ρ
  | 0, _ => none
  | n + 1, s => (body s).bind fun r => match r with
    | .inl s' => jbL body n s'
    | .inr y => some y
def jbR {σ ρ : Type} (body : σ → Option (Sum σ ρ)) (n : Nat) (o : ρ) (r : Sum σ ρ) : Prop := match r with
  | .inl s' => jbL body n s' = some o
  | .inr y => y = o
theorem jbL_0 {σ ρ : Type} (body : σ → Option (Sum σ ρ)) (s : σ) (o : ρ) : ¬ jbL body 0 s = some o := fun h => by cases h
theorem jbL_e {σ ρ : Type} {body : σ → Option (Sum σ ρ)} {n : Nat} {s : σ} {o : ρ} (h : jbL body (n + 1) s = some o) : ∃ r, body s = some r ∧ jbR body n o r := by
  obtain ⟨r, h1, h2⟩ := jbB_e h
  refine ⟨r, h1, ?_⟩
  cases r with
  | inl s' => exact h2
  | inr y => exact Option.some.inj h2
theorem jbR_r {σ ρ : Type} {body : σ → Option (Sum σ ρ)} {n : Nat} {o y : ρ} (h : jbR body n o (.inr y)) : y = o := h
def jbM {σ ρ τ : Type} (o : Sum σ ρ) (k : σ → Option τ) (r : ρ → Option τ) : Option τ := match o with
  | .inl s => k s
  | .inr y => r y
theorem jbM_l {σ ρ τ : Type} {s : σ} {k : σ → Option τ} {r : ρ → Option τ} {x : Option τ} (h : jbM (.inl s) k r = x) : k s = x := h
theorem nar_z {v : Int32} (h : vp_nar .boolean v = v) : narrow .boolean (.int v) = .int v := by
  simp only [vp_nar, narrow] at h ⊢
  rw [h]
theorem nar_c {v : Int32} (h : vp_nar .char v = v) : narrow .char (.int v) = .int v := by
  simp only [vp_nar, narrow] at h ⊢
  rw [h]
theorem enF {g : GG} {A : Nat → Prop} {U : State} {H : Heap} (hZ : ST g A U H) {x y : Nat} (h1 : x < 6) (h2 : y < 6) (h : some (gS g 0 x) = some (gS g 0 y)) : x = y := hZ.1.2 x y h1 h2 (Option.some.inj h)
theorem enV {g : GG} {A : Nat → Prop} {U : State} {H : Heap} (hZ : ST g A U H) {x y : Nat} (h1 : x < 8) (h2 : y < 8) (h : some (gS g 1 x) = some (gS g 1 y)) : x = y := hZ.2.1.2 x y h1 h2 (Option.some.inj h)
theorem enN {g : GG} {k x y : Nat} (h : ¬ some (gS g k x) = some (gS g k y)) : ¬ x = y := fun e => h (by rw [e])
theorem nar_0 : narrow .boolean (.int 0) = .int 0 := by decide +kernel
theorem nar_1 : narrow .boolean (.int 1) = .int 1 := by decide +kernel
