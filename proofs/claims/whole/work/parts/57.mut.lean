/-! the calls that change, one by one -/
theorem jm_l {σ ρ τ : Type} (x : σ) (f : σ → Option τ) (g : ρ → Option τ) : jbM (Sum.inl x) f g = f x := Eq.trans rfl rfl
theorem jm_r {σ ρ τ : Type} (x : ρ) (f : σ → Option τ) (g : ρ → Option τ) : jbM (Sum.inr x) f g = g x := Eq.trans rfl rfl
theorem th_u (m : MV) : f_X11_thrown m = some (mThrown m) := Eq.trans rfl rfl
theorem rf_0 : f_X10_refuse 0 = some (.inr ()) := Eq.trans rfl rfl
theorem rf_s (k : Nat) (h : k < 5) : f_X10_refuse (k + 1) = some (.inl k) := by
  unfold f_X10_refuse
  rw [if_pos (by omega), if_neg (by omega)]
  rfl
theorem uL0 (ol : Nat → Int64) (x : Int64) : vp_updL ol (0 : Int32).toNatClampNeg x (0 : Int32).toNatClampNeg = x := if_pos rfl
theorem lb_mut {T : Nat} {S : Sys} (h : RelS T S) (ex : List Nat) (F : Option Nat) (Ch : Option (Int32 × QV)) (B : MV → Option (Int32 × MV))
    (hcmd : ∀ m, RelQ S.qv (mNow m) → InvW (20 * T) (mNow m) → Cmd (20 * T) ex F Ch (B m) m) (fL : Option (Int32 × (Nat → Int64) × QV × HV)) (fM : Option (Int32 × MV)) (ol : Nat → Int64) (od : Nat → UInt64)
    (hM : fM = (f_X11_begins S.mv).bind fun o1 => (B o1).bind fun o3 => (f_X11_ends o3.2 o3.1).bind fun o5 => some (o5.1, o5.2))
    (hOK : ∀ r q' hv', F = some 0 → f_X4_record S.hv S.qv = some hv' → Ch = some (r, q') → fL = some (0, vp_updL ol (0 : Int32).toNatClampNeg r.toInt64, q', hv'))
    (hX : ∀ k c, F = some (k + 1) → k < 5 → c < 4 → ex[c]? = some k → fL = some (nI (c + 1), ol, S.qv, S.hv)) :
    ∃ r : LR, (fL.bind fun k1 => fM.bind fun o3 => (f_X11_thrown o3.2).bind fun o5 => if o5 = k1.1 then (if k1.1 = 0 then (if k1.2.1 (0 : Int32).toNatClampNeg = o3.1.toInt64 then some ((mkS S.ep S.fc k1.2.2.1 S.bv S.sv k1.2.2.2 S.pv S.ov S.svd o3.2), k1.2.1, od) else none) else some ((mkS S.ep S.fc k1.2.2.1 S.bv S.sv k1.2.2.2 S.pv S.ov S.svd o3.2), k1.2.1, od)) else none) = some r ∧ RelS (T + 1) r.1 := by
  have hb : ((f_X11_begins S.mv).bind fun o1 => (B o1).bind fun o3 => (f_X11_ends o3.2 o3.1).bind fun o5 => some (o5.1, o5.2)) = ((f_X11_begins S.mv).bind fun o1 => (B o1).bind fun o3 => f_X11_ends o3.2 o3.1) := by
    congr 1
    funext o1
    congr 1
    funext o3
    cases f_X11_ends o3.2 o3.1 <;> rfl
  rcases mutS h ex F Ch B hcmd with ⟨r, q', hv', m', h1, h2, h3, h4, h5, h6⟩ | ⟨k, c, m', h1, hk, h4, h5, hc, hex, h6⟩
  · refine ⟨((mkS S.ep S.fc q' S.bv S.sv hv' S.pv S.ov S.svd m'), vp_updL ol (0 : Int32).toNatClampNeg r.toInt64, od), ?_, h6⟩
    rw [hM, hb, h4, hOK r q' hv' h1 h2 h3]
    simp only [ob_s, th_u, h5, ↓reduceIte, uL0]
  · refine ⟨((mkS S.ep S.fc S.qv S.bv S.sv S.hv S.pv S.ov S.svd m'), ol, od), ?_, h6⟩
    have hne : ¬ nI (c + 1) = 0 := by
      rw [show (0 : Int32) = nI 0 from rfl, nI_eq (by omega) (by omega)]
      omega
    rw [hM, hb, h4, hX k c h1 hk hc hex]
    simp only [ob_s, th_u, h5, ↓reduceIte, if_neg hne]
