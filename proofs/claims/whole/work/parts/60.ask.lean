/-! ===== the calls that tell ===== -/
/-- a call that tells, on both sides -/
def Ask (ex : List Nat) (C : Option (Sum Nat Int32)) (M : Option (Int32 × MV)) (m : MV) : Prop :=
  (∃ r m', C = some (.inr r) ∧ M = some (r, m') ∧ Kept m m' ∧ mThrown m' = 0) ∨
  (∃ k c y m', C = some (.inl k) ∧ c < 4 ∧ ex[c]? = some k ∧ M = some (y, m') ∧ Kept m m' ∧ mThrown m' = nI (c + 1))
theorem nI_s0 {c : Nat} (h : c < 4) : ¬ nI (c + 1) = 0 := by
  rw [show (0 : Int32) = nI 0 from rfl, nI_eq (by omega) (by omega)]
  omega
theorem lb_ask {T : Nat} {S : Sys} (h : RelS T S) (ex : List Nat) (C : Option (Sum Nat Int32)) (fM : Option (Int32 × MV)) (hask : Ask ex C fM S.mv) (fL : Option (Int32 × (Nat → Int64))) (ol : Nat → Int64) (od : Nat → UInt64)
    (hOK : ∀ r, C = some (.inr r) → fL = some (0, vp_updL ol (0 : Int32).toNatClampNeg r.toInt64)) (hX : ∀ k c, C = some (.inl k) → c < 4 → ex[c]? = some k → fL = some (nI (c + 1), ol)) :
    ∃ r : LR, (fL.bind fun k1 => fM.bind fun o3 => (f_X11_thrown o3.2).bind fun o5 => if o5 = k1.1 then (if k1.1 = 0 then (if k1.2 (0 : Int32).toNatClampNeg = o3.1.toInt64 then some ((mkS S.ep S.fc S.qv S.bv S.sv S.hv S.pv S.ov S.svd o3.2), k1.2, od) else none) else some ((mkS S.ep S.fc S.qv S.bv S.sv S.hv S.pv S.ov S.svd o3.2), k1.2, od)) else none) = some r ∧ RelS (T + 1) r.1 := by
  rcases hask with ⟨r, m', h1, h2, h3, h4⟩ | ⟨k, c, y, m', h1, hc, hex, h2, h3, h4⟩
  · refine ⟨((mkS S.ep S.fc S.qv S.bv S.sv S.hv S.pv S.ov S.svd m'), vp_updL ol (0 : Int32).toNatClampNeg r.toInt64, od), ?_, h.kept (sv' := S.sv) h3⟩
    rw [hOK r h1, h2]
    simp only [ob_s, th_u, h4, ↓reduceIte, uL0]
  · refine ⟨((mkS S.ep S.fc S.qv S.bv S.sv S.hv S.pv S.ov S.svd m'), ol, od), ?_, h.kept (sv' := S.sv) h3⟩
    rw [hX k c h1 hc hex, h2]
    simp only [ob_s, th_u, h4, ↓reduceIte, if_neg (nI_s0 hc)]
theorem lb_askZ {T : Nat} {S : Sys} (h : RelS T S) (ex : List Nat) (C : Option (Sum Nat Int32)) (fM : Option (Int32 × MV)) (hask : Ask ex C fM S.mv) (fL : Option (Int32 × (Nat → Int64))) (ol : Nat → Int64) (od : Nat → UInt64)
    (hOK : ∀ r, C = some (.inr r) → fL = if r = 0 then some (0, vp_updL ol (0 : Int32).toNatClampNeg 0) else some (0, vp_updL ol (0 : Int32).toNatClampNeg 1)) (hX : ∀ k c, C = some (.inl k) → c < 4 → ex[c]? = some k → fL = some (nI (c + 1), ol)) :
    ∃ r : LR, (fL.bind fun k1 => fM.bind fun o3 => (f_X11_thrown o3.2).bind fun o5 => if o5 = k1.1 then (if k1.1 = 0 then (if k1.2 (0 : Int32).toNatClampNeg = if o3.1 = 0 then 0 else 1 then some ((mkS S.ep S.fc S.qv S.bv S.sv S.hv S.pv S.ov S.svd o3.2), k1.2, od) else none) else some ((mkS S.ep S.fc S.qv S.bv S.sv S.hv S.pv S.ov S.svd o3.2), k1.2, od)) else none) = some r ∧ RelS (T + 1) r.1 := by
  rcases hask with ⟨r, m', h1, h2, h3, h4⟩ | ⟨k, c, y, m', h1, hc, hex, h2, h3, h4⟩
  · by_cases hr : r = 0
    · refine ⟨((mkS S.ep S.fc S.qv S.bv S.sv S.hv S.pv S.ov S.svd m'), vp_updL ol (0 : Int32).toNatClampNeg 0, od), ?_, h.kept (sv' := S.sv) h3⟩
      rw [hOK r h1, h2, if_pos hr]
      simp only [ob_s, th_u, h4, ↓reduceIte, uL0, if_pos hr]
    · refine ⟨((mkS S.ep S.fc S.qv S.bv S.sv S.hv S.pv S.ov S.svd m'), vp_updL ol (0 : Int32).toNatClampNeg 1, od), ?_, h.kept (sv' := S.sv) h3⟩
      rw [hOK r h1, h2, if_neg hr]
      simp only [ob_s, th_u, h4, ↓reduceIte, uL0, if_neg hr]
  · refine ⟨((mkS S.ep S.fc S.qv S.bv S.sv S.hv S.pv S.ov S.svd m'), ol, od), ?_, h.kept (sv' := S.sv) h3⟩
    rw [hX k c h1 hc hex, h2]
    simp only [ob_s, th_u, h4, ↓reduceIte, if_neg (nI_s0 hc)]
/-- a value of a cell -/
theorem m_asks (m : MV) (a b : Int32) (j : Nat) (hj : j < 4) : (∀ r k, r < 5 → k < 6 → a = nI r → b = nI k → f_X11_asks m a b (nI j) = some (mNow m (19 + 7 * (6 * r + k) + j), mSThrown 0 m)) ∧ (f_X11_isCell a b = some 0 → f_X11_asks m a b (nI j) = some (0, mSThrown 1 m)) := by
  refine ⟨fun r k hrr hk ea eb => ?_, fun h => ?_⟩
  · subst ea; subst eb
    obtain ⟨g1, g2, g3, g4⟩ := g_cell r k hrr hk
    unfold f_X11_asks
    simp only [g3, ob_s, m_goes0, i10, ↓reduceIte, g4, m_of (6 * r + k) j (show 7 * (6 * r + k) + j < 210 by omega), mN2]
  · unfold f_X11_asks
    simp only [h, ob_s, m_goes1, ↓reduceIte]
theorem rf_1 : f_X10_refuse 1 = some (.inl 0) := Eq.trans rfl rfl
theorem rf_3 : f_X10_refuse 3 = some (.inl 2) := Eq.trans rfl rfl
theorem ask_height {S : Sys} {T : Nat} (h : RelS T S) (tv : TV) (a b : Int32) : Ask [0] (f_X10_height tv S.qv a b) (f_X11_height S.mv a b) S.mv := by
  obtain ⟨m1, m2⟩ := m_asks S.mv a b 0 (by omega)
  rcases cell_or a b with ⟨r, k, hrr, hk, rfl, rfl⟩ | ⟨h1, h2, h3⟩
  · left
    obtain ⟨g1, g2, g3, g4⟩ := g_cell r k hrr hk
    have hc : 6 * r + k < 30 := by omega
    refine ⟨mNow S.mv (19 + 7 * (6 * r + k)), mSThrown 0 S.mv, ?_, ?_, Kept.thrown _ _, rfl⟩
    · unfold f_X10_height f_X7_heightAt
      simp only [g1, g2, ob_s, rf_0, jm_r, if_pos (nIin hc (by decide : 30 < 2 ^ 31)), nI_clamp (show 6 * r + k < 2 ^ 31 by omega), h.q.h _ hc]
    · unfold f_X11_height
      rw [show (0 : Int32) = nI 0 from rfl, m1 r k hrr hk rfl rfl]
      simp only [ob_s, Nat.add_zero]
      rfl
  · right
    refine ⟨0, 0, 0, mSThrown 1 S.mv, by unfold f_X10_height; simp only [h1, ob_s, rf_1, jm_l], by omega, rfl, ?_, Kept.thrown _ _, rfl⟩
    unfold f_X11_height
    rw [show (0 : Int32) = nI 0 from rfl, m2 h2]
    simp only [ob_s]
    rfl
