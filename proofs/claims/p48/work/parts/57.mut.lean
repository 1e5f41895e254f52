theorem jm_l {σ ρ τ : Type} (x : σ) (f : σ → Option τ) (g : ρ → Option τ) : jbM (Sum.inl x) f g = f x := Eq.trans rfl rfl
theorem jm_r {σ ρ τ : Type} (x : ρ) (f : σ → Option τ) (g : ρ → Option τ) : jbM (Sum.inr x) f g = g x := Eq.trans rfl rfl
theorem rf_0 : f_X10_refuse 0 = some (.inr ()) := Eq.trans rfl rfl
theorem rf_s (k : Nat) (h : k < 5) : f_X10_refuse (k + 1) = some (.inl k) := by
  unfold f_X10_refuse
  rw [if_pos (by omega), if_neg (by omega)]
  rfl
