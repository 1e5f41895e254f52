/-! ===== what can be undone: the ring and the shifted rows ===== -/
def hrow (m : MV) (j : Nat) : Nat → Int32 := fun k => mHistory m (229 * j + k)
def HRel (t : Nat) (hv : HV) (m : MV) : Prop := ∃ n c : Nat, hv.2.1 = nI n ∧ n < 8 ∧ hv.2.2 = nI c ∧ c ≤ 8 ∧ hv.1.length ≤ 8 ∧ (hv.1.length = 8 ∨ (n ≤ hv.1.length ∧ c ≤ n)) ∧ mRemembered m = nI c ∧
  ∀ j, j < c → ∃ q, hv.1[(n + 8 - c + j) % 8]? = some q ∧ RelQ q (hrow m j) ∧ InvW t (hrow m j)
theorem h_next (n : Nat) (h : n < 8) : nI n + 1 - (nI n + 1) / 8 * 8 = nI ((n + 1) % 8) := (by decide +kernel : ∀ n : Fin 8, nI n.val + 1 - (nI n.val + 1) / 8 * 8 = nI ((n.val + 1) % 8)) ⟨n, h⟩
theorem h_prev (n : Nat) (h : n < 8) : nI n + 8 - 1 - (nI n + 8 - 1) / 8 * 8 = nI ((n + 7) % 8) := (by decide +kernel : ∀ n : Fin 8, nI n.val + 8 - 1 - (nI n.val + 8 - 1) / 8 * 8 = nI ((n.val + 7) % 8)) ⟨n, h⟩
theorem h_min (c : Nat) (h : c ≤ 8) : jMin (nI c + 1) 8 = nI (min (c + 1) 8) := (by decide +kernel : ∀ c : Fin 9, jMin (nI c.val + 1) 8 = nI (min (c.val + 1) 8)) ⟨c, by omega⟩
theorem h_eq8 (c : Nat) (h : c ≤ 8) : nI c = 8 ↔ c = 8 := (by decide +kernel : ∀ c : Fin 9, nI c.val = 8 ↔ c.val = 8) ⟨c, by omega⟩
theorem q_init : ∃ q, f_X7_init = some q := by
  have hl : ∀ q2 : QV, jbL (fun s => f_X7_init_L84 s.1 s.2) 5000 (nI 0, itr (fun k q => qSHeights (upd (qHeights q) k 6) q) q2 0) = some (nI 30, itr (fun k q => qSHeights (upd (qHeights q) k 6) q) q2 30) := by
    intro q2
    refine lpD (fun k => (nI k, itr (fun k q => qSHeights (upd (qHeights q) k 6) q) q2 k)) _ 30 (fun k hk => ?_) ?_ 5000 (by decide)
    · show f_X7_init_L84 (nI k) _ = _
      unfold f_X7_init_L84
      rw [if_neg (show ¬ (30 : Int32) ≤ nI k from nI_ge (a := k) (b := 30) hk (by decide)), if_pos (nIin hk (by decide)), nI_clamp (by omega)]
      show some (Sum.inl (nI k + 1, _)) = _
      rw [nI_1]
      rfl
    · show f_X7_init_L84 (nI 30) _ = _
      unfold f_X7_init_L84
      rw [if_pos (show (30 : Int32) ≤ nI 30 from Int32.le_refl _)]
  unfold f_X7_init
  simp only [jbN]
  generalize qSRubble 5 (qSLimit 1 qZero) = q2
  have h9 := hl q2
  rw [show (nI 0 : Int32) = 0 from rfl] at h9
  have h9' : jbL (fun s => f_X7_init_L84 s.1 s.2) 5000 ((0 : Int32), q2) = some (nI 30, itr (fun k q => qSHeights (upd (qHeights q) k 6) q) q2 30) := h9
  rw [h9']
  exact ⟨_, rfl⟩
/-- the reference's shift -/
def shf (h : Nat → Int32) (n : Nat) : Nat → Int32 := fun k => if k < n then h (k + 229) else h k
theorem shf_1 (h : Nat → Int32) (n : Nat) : upd (shf h n) n (shf h n (n + 229)) = shf h (n + 1) := by
  funext k
  unfold upd shf
  by_cases e : k = n
  · subst e
    rw [if_pos rfl, if_neg (by omega), if_pos (by omega)]
  · rw [if_neg e]
    by_cases h2 : k < n
    · rw [if_pos h2, if_pos (by omega)]
    · rw [if_neg h2, if_neg (by omega)]
theorem m_shift (m : MV) : jbL (fun s => f_X11_remembers_L11 s.1 s.2) 5000 (0, m) = some (nI 1603, mSHistory (shf (mHistory m) 1603) m) := by
  have h0 : mSHistory (shf (mHistory m) 0) m = m := by
    rw [show shf (mHistory m) 0 = mHistory m from funext fun k => if_neg (Nat.not_lt_zero k)]
    rfl
  have hl : jbL (fun s => f_X11_remembers_L11 s.1 s.2) 5000 (nI 0, mSHistory (shf (mHistory m) 0) m) = some (nI 1603, mSHistory (shf (mHistory m) 1603) m) := by
    refine lpD (fun k => (nI k, mSHistory (shf (mHistory m) k) m)) _ 1603 (fun k hk => ?_) ?_ 5000 (by decide)
    · show f_X11_remembers_L11 (nI k) _ = _
      unfold f_X11_remembers_L11
      rw [if_neg (show ¬ (1603 : Int32) ≤ nI k from nI_ge (a := k) (b := 1603) hk (by decide)), show nI k + 229 = nI (k + 229) from nI_add k 229, if_pos (nIin (by omega) (by decide)), if_pos (nIin (by omega) (by decide)), nI_clamp (by omega), nI_clamp (by omega)]
      show some (Sum.inl (nI k + 1, mSHistory (upd (shf (mHistory m) k) k (shf (mHistory m) k (k + 229))) m)) = _
      rw [shf_1, nI_1]
    · show f_X11_remembers_L11 (nI 1603) _ = _
      unfold f_X11_remembers_L11
      rw [if_pos (show (1603 : Int32) ≤ nI 1603 from Int32.le_refl _)]
  rw [h0] at hl
  exact hl
theorem mS_RH (m : MV) (a b : Int32) (H H2 : Nat → Int32) : mSRemembered a (mSHistory H (mSRemembered b (mSHistory H2 m))) = mSRemembered a (mSHistory H m) := rfl
/-- both remember: the program the quarry q, the reference its row of before -/
theorem remember {t : Nat} {hv : HV} {m : MV} {q : QV} (hh : HRel t hv m) (hr : RelQ q (mBefore m)) (hi : InvW t (mBefore m)) :
    ∃ hv' H' c', f_X4_record hv q = some hv' ∧ f_X11_remembers m = some (mSRemembered c' (mSHistory H' m)) ∧ HRel t hv' (mSRemembered c' (mSHistory H' m)) := by
  obtain ⟨n, c, e1, hn, e2, hc, hlen, hfree, e3, hrows⟩ := hh
  obtain ⟨L, nx, ct⟩ := hv
  have e1 : nx = nI n := e1
  have e2 : ct = nI c := e2
  subst e1; subst e2
  -- the program
  obtain ⟨L', hrec, hL', hL1, hL2⟩ : ∃ L' : List QV, f_X4_record (L, nI n, nI c) q = some (L', nI ((n + 1) % 8), nI (min (c + 1) 8)) ∧ (L'.length = L.length ∨ (L'.length = L.length + 1 ∧ n = L.length)) ∧ (∃ o, L'[n]? = some o ∧ RelQ o (mBefore m)) ∧ ∀ i, i ≠ n → ∀ o, L[i]? = some o → L'[i]? = some o := by
    unfold f_X4_record
    simp only []
    rw [if_pos (nIin hn (by decide)), nI_clamp (by omega), h_next n hn, h_min c hc]
    cases hL : L[n]? with
    | some q0 =>
      obtain ⟨o, ho, hro⟩ := q_copy q0 q _ t hr hi
      have hlt : n < L.length := (List.getElem?_eq_some_iff.mp hL).1
      refine ⟨L.set n o, ?_, Or.inl (List.length_set ..), ⟨o, by rw [List.getElem?_set_self hlt], hro⟩, fun i hin o' ho' => by rw [List.getElem?_set_ne (Ne.symm hin)]; exact ho'⟩
      show (f_X7_copyFrom q0 q).bind _ = _
      rw [ho]
      rfl
    | none =>
      have hge : L.length ≤ n := List.getElem?_eq_none_iff.mp hL
      have hnl : n = L.length := by rcases hfree with h | ⟨h, -⟩ <;> (have h : _ := h; simp only [] at h; omega)
      obtain ⟨qi, hqi⟩ := q_init
      obtain ⟨o, ho, hro⟩ := q_copy qi q _ t hr hi
      refine ⟨L ++ [o], ?_, Or.inr ⟨by simp, hnl⟩, ⟨o, by rw [hnl]; simp, hro⟩, fun i hin o' ho' => by rw [List.getElem?_append_left (List.getElem?_eq_some_iff.mp ho').1]; exact ho'⟩
      show (if n = L.length then _ else _) = _
      rw [if_pos hnl, hqi, Option.bind_some, ho]
      rfl
  by_cases h8 : c = 8
  · subst h8
    refine ⟨_, va_cpy (mBefore m) (shf (mHistory m) 1603) 0 1603 229, nI 8, hrec, ?_, ?_⟩
    · unfold f_X11_remembers
      rw [if_pos (show mRemembered m = 8 from e3), m_shift]
      show f_X11_remembers_J50 (mSRemembered (mRemembered m - 1) (mSHistory (shf (mHistory m) 1603) m)) = _
      rw [e3]
      unfold f_X11_remembers_J50
      show (f_X11_copies (mBefore m) (shf (mHistory m) 1603) 229 1832 0 (((nI 8) - 1) * 229)).bind _ = _
      rw [show (nI 8 - 1) * 229 = nI 1603 by decide +kernel, show (0 : Int32) = nI 0 from rfl, m_copies _ _ 229 1832 0 1603 (by omega) (by omega) (by decide) (by decide)]
      show some (mSRemembered (nI 8 - 1 + 1) (mSHistory _ (mSRemembered (nI 8 - 1) (mSHistory _ m)))) = _
      rw [show nI 8 - 1 + 1 = nI 8 by decide +kernel, mS_RH]
    · refine ⟨(n + 1) % 8, 8, rfl, by omega, rfl, by omega, ?_, ?_, rfl, fun j hj => ?_⟩
      · show L'.length ≤ 8
        have hlen : L.length ≤ 8 := hlen
        omega
      · show L'.length = 8 ∨ ((n + 1) % 8 ≤ L'.length ∧ 8 ≤ (n + 1) % 8)
        have hfree : L.length = 8 ∨ (n ≤ L.length ∧ 8 ≤ n) := hfree
        omega
      · have hidx : ((n + 1) % 8 + 8 - 8 + j) % 8 = (n + 1 + j) % 8 := by omega
        show ∃ q, L'[((n + 1) % 8 + 8 - 8 + j) % 8]? = some q ∧ _
        rw [hidx]
        by_cases hj7 : j = 7
        · subst hj7
          obtain ⟨o, ho, hro⟩ := hL1
          rw [show (n + 1 + 7) % 8 = n by omega]
          have he : EqW (mBefore m) (hrow (mSRemembered (nI 8) (mSHistory (va_cpy (mBefore m) (shf (mHistory m) 1603) 0 1603 229) m)) 7) := fun k hk => by
            show _ = va_cpy (mBefore m) (shf (mHistory m) 1603) 0 1603 229 (229 * 7 + k)
            unfold va_cpy
            rw [if_pos (by omega)]
            refine congrArg (mBefore m) ?_
            omega
          exact ⟨o, ho, hro.eqw he, hi.eqw he⟩
        · obtain ⟨q1, hq1, hr1, hi1⟩ := hrows (j + 1) (by omega)
          have he : EqW (hrow m (j + 1)) (hrow (mSRemembered (nI 8) (mSHistory (va_cpy (mBefore m) (shf (mHistory m) 1603) 0 1603 229) m)) j) := fun k hk => by
            show mHistory m (229 * (j + 1) + k) = va_cpy (mBefore m) (shf (mHistory m) 1603) 0 1603 229 (229 * j + k)
            unfold va_cpy
            rw [if_neg (by omega)]
            unfold shf
            rw [if_pos (by omega)]
            refine congrArg (mHistory m) ?_
            omega
          refine ⟨q1, hL2 _ (by omega) q1 ?_, hr1.eqw he, hi1.eqw he⟩
          rw [show (n + 1 + j) % 8 = (n + 8 - 8 + (j + 1)) % 8 by omega]
          exact hq1
  · have hc7 : c < 8 := by omega
    have hmin : min (c + 1) 8 = c + 1 := by omega
    rw [hmin] at hrec
    refine ⟨_, va_cpy (mBefore m) (mHistory m) 0 (229 * c) 229, nI (c + 1), hrec, ?_, ?_⟩
    · unfold f_X11_remembers
      rw [if_neg (show ¬ mRemembered m = 8 by rw [e3]; exact fun h => h8 ((h_eq8 c hc).mp h))]
      unfold f_X11_remembers_J50
      rw [e3, show nI c * 229 = nI (229 * c) by rw [show (229 : Int32) = nI 229 from rfl, nImul, Nat.mul_comm], show (0 : Int32) = nI 0 from rfl, m_copies _ _ 229 1832 0 (229 * c) (by omega) (by omega) (by decide) (by decide)]
      show some (mSRemembered (mRemembered m + 1) _) = _
      rw [e3, nI_1]
    · refine ⟨(n + 1) % 8, c + 1, rfl, by omega, rfl, by omega, ?_, ?_, rfl, fun j hj => ?_⟩
      · show L'.length ≤ 8
        have hlen : L.length ≤ 8 := hlen
        have hfree : L.length = 8 ∨ (n ≤ L.length ∧ c ≤ n) := hfree
        omega
      · show L'.length = 8 ∨ ((n + 1) % 8 ≤ L'.length ∧ c + 1 ≤ (n + 1) % 8)
        have hlen : L.length ≤ 8 := hlen
        have hfree : L.length = 8 ∨ (n ≤ L.length ∧ c ≤ n) := hfree
        have hn8 : n < L'.length := (List.getElem?_eq_some_iff.mp hL1.choose_spec.1).1
        omega
      · show ∃ q, L'[((n + 1) % 8 + 8 - (c + 1) + j) % 8]? = some q ∧ _
        rw [show ((n + 1) % 8 + 8 - (c + 1) + j) % 8 = (n + 8 - c + j) % 8 by omega]
        by_cases hjc : j = c
        · subst hjc
          obtain ⟨o, ho, hro⟩ := hL1
          rw [show (n + 8 - j + j) % 8 = n by omega]
          have he : EqW (mBefore m) (hrow (mSRemembered (nI (j + 1)) (mSHistory (va_cpy (mBefore m) (mHistory m) 0 (229 * j) 229) m)) j) := fun k hk => by
            show _ = va_cpy (mBefore m) (mHistory m) 0 (229 * j) 229 (229 * j + k)
            unfold va_cpy
            rw [if_pos (by omega)]
            refine congrArg (mBefore m) ?_
            omega
          exact ⟨o, ho, hro.eqw he, hi.eqw he⟩
        · obtain ⟨q1, hq1, hr1, hi1⟩ := hrows j (by omega)
          have he : EqW (hrow m j) (hrow (mSRemembered (nI (c + 1)) (mSHistory (va_cpy (mBefore m) (mHistory m) 0 (229 * c) 229) m)) j) := fun k hk => by
            show mHistory m (229 * j + k) = va_cpy (mBefore m) (mHistory m) 0 (229 * c) 229 (229 * j + k)
            unfold va_cpy
            rw [if_neg (by omega)]
          exact ⟨q1, hL2 _ (by omega) q1 hq1, hr1.eqw he, hi1.eqw he⟩
