/-! ===== the mean and the share: no NaN is met ===== -/
theorem fr_t32 : FP.Core.b32.tails = 8388608 := Eq.trans rfl rfl
theorem fr_e32 : FP.Core.b32.exps = 256 := Eq.trans rfl rfl
theorem fr_x32 : FP.Core.b32.qmax = 104 := Eq.trans rfl rfl
theorem fr_n32 : FP.Core.b32.qmin = -149 := Eq.trans rfl rfl
theorem fr_p32 : 2 ^ FP.Core.b32.p = 16777216 := Eq.trans rfl rfl
theorem fr_t64 : FP.Core.b64.tails = 4503599627370496 := Eq.trans rfl rfl
theorem fr_e64 : FP.Core.b64.exps = 2048 := Eq.trans rfl rfl
theorem fr_x64 : FP.Core.b64.qmax = 971 := Eq.trans rfl rfl
theorem fr_n64 : FP.Core.b64.qmin = -1074 := Eq.trans rfl rfl
theorem fr_p64 : 2 ^ FP.Core.b64.p = 9007199254740992 := Eq.trans rfl rfl
theorem fr_fin32 (s : Bool) (c : Nat) (q : Int) (hc : c < 16777216) (hq : q ≤ 104) : FP.Core.encode FP.Core.b32 (.fin s c q) % 2147483648 ≤ 2139095040 ∧ FP.Core.encode FP.Core.b32 (.fin s c q) < 4294967296 := by
  unfold FP.Core.encode FP.Core.assemble
  simp only [fr_t32, fr_e32, fr_n32]
  by_cases h : c < 8388608
  · rw [if_pos h]
    cases s <;> simp only [Bool.toNat_true, Bool.toNat_false] <;> omega
  · rw [if_neg h]
    cases s <;> simp only [Bool.toNat_true, Bool.toNat_false] <;> omega
theorem fr_inf32 (s : Bool) : FP.Core.encode FP.Core.b32 (.inf s) % 2147483648 ≤ 2139095040 ∧ FP.Core.encode FP.Core.b32 (.inf s) < 4294967296 := by
  cases s <;> decide +kernel
theorem fr_rr32 (s : Bool) (n d : Nat) (e : Int) : FP.Core.encode FP.Core.b32 (FP.Core.roundRatio FP.Core.b32 s n d e) % 2147483648 ≤ 2139095040 ∧ FP.Core.encode FP.Core.b32 (FP.Core.roundRatio FP.Core.b32 s n d e) < 4294967296 := by
  unfold FP.Core.roundRatio
  by_cases h : n = 0
  · rw [if_pos h]
    exact fr_fin32 s 0 _ (by omega) (by rw [fr_n32]; omega)
  · rw [if_neg h]
    unfold FP.Core.roundAt FP.Core.settle FP.Core.bound
    generalize FP.Core.nearest (FP.Core.unitsNum n e (FP.Core.quantum FP.Core.b32 n d e)) (FP.Core.unitsDen d e (FP.Core.quantum FP.Core.b32 n d e)) = c
    generalize FP.Core.quantum FP.Core.b32 n d e = q
    rw [fr_p32, fr_x32, fr_t32]
    by_cases h1 : c < 16777216
    · rw [if_pos h1]
      by_cases h2 : q ≤ 104
      · rw [if_pos h2]; exact fr_fin32 s c q h1 h2
      · rw [if_neg h2]; exact fr_inf32 s
    · rw [if_neg h1]
      by_cases h2 : q + 1 ≤ 104
      · rw [if_pos h2]; exact fr_fin32 s _ _ (by omega) h2
      · rw [if_neg h2]; exact fr_inf32 s
theorem fr_fin64 (s : Bool) (c : Nat) (q : Int) (hc : c < 9007199254740992) (hq : q ≤ 971) : FP.Core.encode FP.Core.b64 (.fin s c q) % 9223372036854775808 ≤ 9218868437227405312 ∧ FP.Core.encode FP.Core.b64 (.fin s c q) < 18446744073709551616 := by
  unfold FP.Core.encode FP.Core.assemble
  simp only [fr_t64, fr_e64, fr_n64]
  by_cases h : c < 4503599627370496
  · rw [if_pos h]
    cases s <;> simp only [Bool.toNat_true, Bool.toNat_false] <;> omega
  · rw [if_neg h]
    cases s <;> simp only [Bool.toNat_true, Bool.toNat_false] <;> omega
theorem fr_inf64 (s : Bool) : FP.Core.encode FP.Core.b64 (.inf s) % 9223372036854775808 ≤ 9218868437227405312 ∧ FP.Core.encode FP.Core.b64 (.inf s) < 18446744073709551616 := by
  cases s <;> decide +kernel
theorem fr_rr64 (s : Bool) (n d : Nat) (e : Int) : FP.Core.encode FP.Core.b64 (FP.Core.roundRatio FP.Core.b64 s n d e) % 9223372036854775808 ≤ 9218868437227405312 ∧ FP.Core.encode FP.Core.b64 (FP.Core.roundRatio FP.Core.b64 s n d e) < 18446744073709551616 := by
  unfold FP.Core.roundRatio
  by_cases h : n = 0
  · rw [if_pos h]
    exact fr_fin64 s 0 _ (by omega) (by rw [fr_n64]; omega)
  · rw [if_neg h]
    unfold FP.Core.roundAt FP.Core.settle FP.Core.bound
    generalize FP.Core.nearest (FP.Core.unitsNum n e (FP.Core.quantum FP.Core.b64 n d e)) (FP.Core.unitsDen d e (FP.Core.quantum FP.Core.b64 n d e)) = c
    generalize FP.Core.quantum FP.Core.b64 n d e = q
    rw [fr_p64, fr_x64, fr_t64]
    by_cases h1 : c < 9007199254740992
    · rw [if_pos h1]
      by_cases h2 : q ≤ 971
      · rw [if_pos h2]; exact fr_fin64 s c q h1 h2
      · rw [if_neg h2]; exact fr_inf64 s
    · rw [if_neg h1]
      by_cases h2 : q + 1 ≤ 971
      · rw [if_pos h2]; exact fr_fin64 s _ _ (by omega) h2
      · rw [if_neg h2]; exact fr_inf64 s
/-- bits below those of an infinity are a number -/
theorem fr_dec32 (n : Nat) (h : n % 2147483648 < 2139095040) : ∃ s c q, FP.Core.decode FP.Core.b32 n = .fin s c q ∧ (8388608 ≤ n % 2147483648 → c ≠ 0) := by
  unfold FP.Core.decode FP.Core.fieldE FP.Core.fieldT
  simp only [fr_t32, fr_e32]
  have h1 : ¬ n / 8388608 % 256 = 256 - 1 := by omega
  rw [if_neg h1]
  by_cases h2 : n / 8388608 % 256 = 0
  · rw [if_pos h2]
    exact ⟨_, _, _, rfl, fun h3 => by omega⟩
  · rw [if_neg h2]
    exact ⟨_, _, _, rfl, fun _ => by omega⟩
theorem fr_not32 (n : Nat) (h : n % 2147483648 ≤ 2139095040) : ¬ FP.Core.decode FP.Core.b32 n = .nan := by
  unfold FP.Core.decode FP.Core.fieldE FP.Core.fieldT
  simp only [fr_t32, fr_e32]
  by_cases h1 : n / 8388608 % 256 = 256 - 1
  · rw [if_pos h1, if_pos (by omega)]
    exact fun h => nomatch h
  · rw [if_neg h1]
    by_cases h2 : n / 8388608 % 256 = 0
    · rw [if_pos h2]
      exact fun h => nomatch h
    · rw [if_neg h2]
      exact fun h => nomatch h
theorem fr_not64 (n : Nat) (h : n % 9223372036854775808 ≤ 9218868437227405312) : ¬ FP.Core.decode FP.Core.b64 n = .nan := by
  unfold FP.Core.decode FP.Core.fieldE FP.Core.fieldT
  simp only [fr_t64, fr_e64]
  by_cases h1 : n / 4503599627370496 % 2048 = 2048 - 1
  · rw [if_pos h1, if_pos (by omega)]
    exact fun h => nomatch h
  · rw [if_neg h1]
    by_cases h2 : n / 4503599627370496 % 2048 = 0
    · rw [if_pos h2]
      exact fun h => nomatch h
    · rw [if_neg h2]
      exact fun h => nomatch h
theorem fr_and32 (x : UInt32) (h : x.toNat % 2147483648 ≤ 2139095040) : x &&& 0x7fffffff ≤ 0x7f800000 := by
  rw [UInt32.le_iff_toNat_le, UInt32.toNat_and, show (0x7fffffff : UInt32).toNat = 2 ^ 31 - 1 by decide, show (0x7f800000 : UInt32).toNat = 2139095040 by decide, Nat.and_two_pow_sub_one_eq_mod]
  exact h
theorem fr_and64 (x : UInt64) (h : x.toNat % 9223372036854775808 ≤ 9218868437227405312) : x &&& 0x7fffffffffffffff ≤ 0x7ff0000000000000 := by
  rw [UInt64.le_iff_toNat_le, UInt64.toNat_and, show (0x7fffffffffffffff : UInt64).toNat = 2 ^ 63 - 1 by decide, show (0x7ff0000000000000 : UInt64).toNat = 9218868437227405312 by decide, Nat.and_two_pow_sub_one_eq_mod]
  exact h
theorem fr_cmpI (a : Int) : compare a a = Ordering.eq := by
  show (if a < a then Ordering.lt else if a = a then Ordering.eq else Ordering.gt) = Ordering.eq
  rw [if_neg (by omega), if_pos rfl]
theorem fr_ord (d : FP.Core.Datum) (h : ¬ d = .nan) : FP.Core.order d d = some .eq := by
  cases d with
  | nan => exact absurd rfl h
  | inf s => show some (compare _ _) = _; rw [fr_cmpI]
  | fin s c q => show some (compare _ _) = _; rw [fr_cmpI]
theorem fr_dcmp (x : UInt64) (h : x.toNat % 9223372036854775808 ≤ 9218868437227405312) : FP.dcmp x x = some .eq := fr_ord _ (fr_not64 _ h)
/-- the quotient of two numbers, the second not 0 -/
theorem fr_div (a b : UInt32) (ha : a.toNat % 2147483648 < 2139095040) (hb : b.toNat % 2147483648 < 2139095040) (hb0 : 8388608 ≤ b.toNat % 2147483648) : (FP.fdiv a b).toNat % 2147483648 ≤ 2139095040 := by
  obtain ⟨s, c, q, e1, _⟩ := fr_dec32 _ ha
  obtain ⟨t, d, r, e2, h0⟩ := fr_dec32 _ hb
  have h1 := fr_rr32 (s != t) c d (q - r)
  have h2 : FP.Core.div FP.Core.b32 a.toNat b.toNat = FP.Core.encode FP.Core.b32 (FP.Core.roundRatio FP.Core.b32 (s != t) c d (q - r)) := by
    unfold FP.Core.div
    rw [e1, e2]
    show FP.Core.encode FP.Core.b32 (if d = 0 then _ else _) = _
    rw [if_neg (h0 hb0)]
  show (UInt32.ofNat (FP.Core.div FP.Core.b32 a.toNat b.toNat)).toNat % 2147483648 ≤ 2139095040
  rw [h2, UInt32.toNat_ofNat_of_lt' h1.2]
  exact h1.1
theorem fr_f2d (y : UInt32) (h : y.toNat % 2147483648 ≤ 2139095040) : (FP.f2d y).toNat % 9223372036854775808 ≤ 9218868437227405312 := by
  have h1 := fr_not32 _ h
  have h2 : FP.f2d y = FP.Core.f2d y := by
    unfold FP.f2d
    rw [if_neg]
    show ¬ (decide (FP.Core.decode FP.Core.b32 y.toNat = .nan)) = true
    rw [decide_eq_true_iff]
    exact h1
  have h3 : FP.Core.convert FP.Core.b32 FP.Core.b64 y.toNat % 9223372036854775808 ≤ 9218868437227405312 ∧ FP.Core.convert FP.Core.b32 FP.Core.b64 y.toNat < 18446744073709551616 := by
    unfold FP.Core.convert
    cases e : FP.Core.decode FP.Core.b32 y.toNat with
    | nan => exact absurd e h1
    | inf s => exact fr_inf64 s
    | fin s c q => exact fr_rr64 s c 1 q
  rw [h2]
  show (UInt64.ofNat (FP.Core.convert FP.Core.b32 FP.Core.b64 y.toNat)).toNat % 9223372036854775808 ≤ 9218868437227405312
  rw [UInt64.toNat_ofNat_of_lt' h3.2]
  exact h3.1
set_option maxRecDepth 100000 in
set_option maxHeartbeats 4000000 in
theorem fr_i2fA : ∀ i : Fin 103, ∀ j : Fin 100, (FP.i2f (nI (100 * i.val + j.val))).toNat % 2147483648 < 2139095040 ∧ (100 * i.val + j.val = 0 ∨ 8388608 ≤ (FP.i2f (nI (100 * i.val + j.val))).toNat % 2147483648) := by decide +kernel
theorem fr_i2f (n : Nat) (hn : n < 10300) : (FP.i2f (nI n)).toNat % 2147483648 < 2139095040 ∧ (n ≠ 0 → 8388608 ≤ (FP.i2f (nI n)).toNat % 2147483648) := by
  have h := fr_i2fA ⟨n / 100, by omega⟩ ⟨n % 100, by omega⟩
  have e : 100 * (n / 100) + n % 100 = n := by omega
  have h1 : (FP.i2f (nI (100 * (n / 100) + n % 100))).toNat % 2147483648 < 2139095040 ∧ (100 * (n / 100) + n % 100 = 0 ∨ 8388608 ≤ (FP.i2f (nI (100 * (n / 100) + n % 100))).toNat % 2147483648) := h
  rw [e] at h1
  exact ⟨h1.1, fun h0 => h1.2.resolve_left h0⟩
theorem fr_neg (k : Nat) (hk : k < 91) : (FP.i2f (-(nI k))).toNat % 2147483648 < 2139095040 := (by decide +kernel : ∀ k : Fin 91, (FP.i2f (-(nI k.val))).toNat % 2147483648 < 2139095040) ⟨k, hk⟩
set_option maxRecDepth 100000 in
set_option maxHeartbeats 4000000 in
theorem fr_mean (n : Nat) (hn : n < 271) : (FP.ddiv (FP.i2d (nI n)) (4629137466983448576 : UInt64)).toNat % 9223372036854775808 ≤ 9218868437227405312 := (by decide +kernel : ∀ n : Fin 271, (FP.ddiv (FP.i2d (nI n.val)) (4629137466983448576 : UInt64)).toNat % 9223372036854775808 ≤ 9218868437227405312) ⟨n, hn⟩
/-! the mean -/
def hS (w : Nat → Int32) (c : Nat) : Nat := vN (w (19 + 7 * c))
theorem hS_le {w : Nat → Int32} {t : Nat} (hi : InvW t w) : sumN (hS w) 30 < 271 := by
  have := sumN_le (g := hS w) (b := 9) 30 (fun d hd => hh_9 hi d hd)
  omega
theorem q_hsum {q : QV} {w : Nat → Int32} {t : Nat} (hr : RelQ q w) (hi : InvW t w) : f_X7_heightSum q = some (nI (sumN (hS w) 30)) := by
  have hl : jbL (fun s : Int32 × Int32 => f_X7_heightSum_L4 q s.1 s.2) 5000 (nI (sumN (hS w) 0), nI 0) = some (nI (sumN (hS w) 30), nI 30) := by
    refine lpD (fun c => (nI (sumN (hS w) c), nI c)) _ 30 (fun c hc => ?_) ?_ 5000 (by decide)
    · show f_X7_heightSum_L4 q (nI (sumN (hS w) c)) (nI c) = some (Sum.inl (nI (sumN (hS w) (c + 1)), nI (c + 1)))
      unfold f_X7_heightSum_L4
      rw [if_neg (show ¬ (30 : Int32) ≤ nI c from nI_ge (a := c) (b := 30) hc (by decide)), if_pos (nIin hc (by decide)), nI_clamp (by omega), hr.h c hc, hN hi c hc, sumN_s]
      simp only [jb_u, nI_add, nI_1]
      rfl
    · show f_X7_heightSum_L4 q _ (nI 30) = _
      unfold f_X7_heightSum_L4
      rw [if_pos (show (30 : Int32) ≤ nI 30 from Int32.le_refl _)]
  have hl' : jbL (fun s : Int32 × Int32 => f_X7_heightSum_L4 q s.1 s.2) 5000 ((0 : Int32), (0 : Int32)) = some (nI (sumN (hS w) 30), nI 30) := hl
  unfold f_X7_heightSum
  simp only [hl', ob_s]
theorem m_hsum {t : Nat} (m : MV) (hi : InvW t (mNow m)) : jbL (fun s : Int32 × Int32 => f_X11_meanHeight_L9 m s.1 s.2) 5000 ((0 : Int32), (0 : Int32)) = some (nI (sumN (hS (mNow m)) 30), nI 30) := by
  have hl : jbL (fun s : Int32 × Int32 => f_X11_meanHeight_L9 m s.1 s.2) 5000 (nI (sumN (hS (mNow m)) 0), nI 0) = some (nI (sumN (hS (mNow m)) 30), nI 30) := by
    refine lpD (fun c => (nI (sumN (hS (mNow m)) c), nI c)) _ 30 (fun c hc => ?_) ?_ 5000 (by decide)
    · show f_X11_meanHeight_L9 m (nI (sumN (hS (mNow m)) c)) (nI c) = some (Sum.inl (nI (sumN (hS (mNow m)) (c + 1)), nI (c + 1)))
      have o0 : f_X11_of m (nI c) 0 = some (nI (hS (mNow m) c)) := by rw [show (0 : Int32) = nI 0 from rfl, m_of c 0 (by omega), Nat.add_zero]; exact congrArg some (hN hi c hc)
      unfold f_X11_meanHeight_L9
      rw [if_neg (show ¬ (30 : Int32) ≤ nI c from nI_ge (a := c) (b := 30) hc (by decide)), o0, sumN_s]
      simp only [ob_s, jb_u, nI_add, nI_1]
    · show f_X11_meanHeight_L9 m _ (nI 30) = _
      unfold f_X11_meanHeight_L9
      rw [if_pos (show (30 : Int32) ≤ nI 30 from Int32.le_refl _)]
  exact hl
theorem lb_33 {T : Nat} {S : Sys} (h : RelS T S) (a1 a2 a3 a4 : Int32) (ol : Nat → Int64) (od : Nat → UInt64) : ∃ r, lawOp_33 S a1 a2 a3 a4 ol od = some r ∧ RelS (T + 1) r.1 := by
  have hk : Kept S.mv (mSThrown 0 S.mv) := Kept.thrown _ _
  have h1 := q_hsum h.q h.w
  have h2 := m_hsum (mSThrown 0 S.mv) (by rw [hk.now]; exact h.w)
  rw [hk.now] at h2
  have h3 := fr_mean _ (hS_le h.w)
  have h4 := fr_and64 _ h3
  have h5 := fr_dcmp _ h3
  have e1 : f_X10_meanHeight (none, S.ep, S.fc) S.qv = some (FP.ddiv (FP.i2d (nI (sumN (hS (mNow S.mv)) 30))) (4629137466983448576 : UInt64)) := by
    unfold f_X10_meanHeight
    rw [h1, Option.bind_some, if_pos h4]
  have e2 : f_X11_meanHeight S.mv = some (FP.ddiv (FP.i2d (nI (sumN (hS (mNow S.mv)) 30))) (4629137466983448576 : UInt64), mSThrown 0 S.mv) := by
    unfold f_X11_meanHeight
    rw [jb_u, h2, Option.bind_some, if_pos h4]
  refine ⟨((mkS S.ep S.fc S.qv S.bv S.sv S.hv S.pv S.ov S.svd (mSThrown 0 S.mv)), ol, od), ?_, h.kept (sv' := S.sv) hk⟩
  unfold lawOp_33
  rw [e1, e2, Option.bind_some, Option.bind_some, if_pos h5]
/-! the share -/
theorem itr_N {w : Nat → Int32} {t : Nat} (hi : InvW t w) : ∀ n, n ≤ 30 → itr (fun c x => x + w (22 + 7 * c)) 0 n = nI (sumN (fun c => vN (w (22 + 7 * c))) n)
  | 0, _ => rfl
  | n + 1, hn => by
    obtain ⟨k, hk, e⟩ := hi.n n (by omega)
    show itr (fun c x => x + w (22 + 7 * c)) 0 n + w (22 + 7 * n) = _
    rw [itr_N hi n (by omega), sumN_s, e, vN_nI (by omega), nI_add]
theorem blk_le {w : Nat → Int32} {t : Nat} (hi : InvW t w) : sumN (fun c => vN (w (22 + 7 * c))) 30 ≤ 90 := by
  have := sumN_le (g := fun c => vN (w (22 + 7 * c))) (b := 3) 30 (fun d hd => by
    obtain ⟨k, hk, e⟩ := hi.n d hd
    show vN (w (22 + 7 * d)) ≤ 3
    rw [e, vN_nI (by omega)]
    exact hk)
  omega
theorem lifts_fin {w : Nat → Int32} {t : Nat} (hi : InvW t w) (ht : t ≤ 10240) : (FP.i2f (w 3)).toNat % 2147483648 < 2139095040 := by
  obtain ⟨n, hn, e⟩ := hi.cuts
  have hb := blk_le hi
  have hs := hi.sum
  rw [itr_N hi 30 (Nat.le_refl _), e] at hs
  generalize sumN (fun c => vN (w (22 + 7 * c))) 30 = b at *
  have h3 : w 3 = nI n - nI b := by rw [hs, Int32.add_sub_cancel]
  rw [h3]
  by_cases h : b ≤ n
  · rw [nIsub h]; exact (fr_i2f (n - b) (by omega)).1
  · rw [show nI n - nI b = -(nI (b - n)) by rw [← nIsub (by omega : n ≤ b)]; simp]
    exact fr_neg (b - n) (by omega)
theorem lb_34 {T : Nat} {S : Sys} (h : RelS T S) (hT : T ≤ 512) (a1 a2 a3 a4 : Int32) (ol : Nat → Int64) (od : Nat → UInt64) : ∃ r, lawOp_34 S a1 a2 a3 a4 ol od = some r ∧ RelS (T + 1) r.1 := by
  obtain ⟨n, hn, en⟩ := h.w.cuts
  have hq2 : f_X7_cutsDone S.qv = some (nI n) := by unfold f_X7_cutsDone; rw [h.q.cuts, en]
  have hq3 : f_X7_liftsDone S.qv = some (mNow S.mv 3) := by unfold f_X7_liftsDone; rw [h.q.lifts]
  have i1n : ¬ (1 : Int32) = 0 := by decide
  by_cases hz : n = 0
  · subst hz
    have e1 : f_L_liftedShare (none, S.ep, S.fc) S.qv od = some (1, od) := by
      unfold f_L_liftedShare f_X10_liftedShare
      rw [hq2, Option.bind_some, if_pos (show nI 0 = 0 from rfl), Option.bind_some, jm_l, if_pos rfl]
    have c2 : mNow S.mv (2 : Int32).toNatClampNeg = nI 0 := by rw [cl2]; exact en
    have e2 : f_X11_liftedShare S.mv = some (FP.fconst0, mSThrown 1 S.mv) := by
      unfold f_X11_liftedShare f_X11_liftedShare_J15
      rw [if_pos jl2, c2, if_pos (show nI 0 ≤ (0 : Int32) from Int32.le_refl _), m_goes1, Option.bind_some, if_pos rfl]
    refine ⟨((mkS S.ep S.fc S.qv S.bv S.sv S.hv S.pv S.ov S.svd (mSThrown 1 S.mv)), ol, od), ?_, h.kept (sv' := S.sv) (Kept.thrown _ _)⟩
    unfold lawOp_34
    have e3 : mThrown (mSThrown 1 S.mv) = 1 := by simp only [mg13_0, mg13_1, mg13_2, mg13_3, mg13_4, mg13_5, mg13_6, mg13_7, mg13_8, mg13_9, mg13_10, mg13_11, mg13_12, mg13_13, mg13_14, mg13_15, mg13_16, mg13_17, mg13_18]
    rw [e1, e2, Option.bind_some, Option.bind_some, th_u, Option.bind_some, if_pos e3, if_neg (show ¬ ((1 : Int32), od).1 = 0 from i1n)]
  · have h2 := fr_i2f n (by omega)
    have h3 := lifts_fin h.w (by omega)
    have hd := fr_div (FP.i2f (mNow S.mv 3)) (FP.i2f (nI n)) h3 h2.1 (h2.2 hz)
    have hd2 := fr_f2d _ hd
    have ha := fr_and32 _ hd
    have ha2 := fr_and64 _ hd2
    have hc := fr_dcmp _ hd2
    have hne : ¬ nI n = 0 := nI_ne0 (by omega) (by omega)
    have e1 : f_L_liftedShare (none, S.ep, S.fc) S.qv od = some (0, vf_upd od (0 : Int32).toNatClampNeg (FP.f2d (FP.fdiv (FP.i2f (mNow S.mv 3)) (FP.i2f (nI n))))) := by
      unfold f_L_liftedShare f_X10_liftedShare
      rw [hq2, Option.bind_some, if_neg hne, hq3, Option.bind_some, if_pos ha, Option.bind_some, jm_r, if_pos ha2]
    have e0 : mNow (mSThrown 0 S.mv) = mNow S.mv := mN2 _ _
    have c2 : mNow S.mv (2 : Int32).toNatClampNeg = nI n := by rw [cl2]; exact en
    have c2' : mNow (mSThrown 0 S.mv) (2 : Int32).toNatClampNeg = nI n := by rw [e0]; exact c2
    have c3' : mNow (mSThrown 0 S.mv) (3 : Int32).toNatClampNeg = mNow S.mv 3 := by rw [e0, cl3]
    have e2 : f_X11_liftedShare S.mv = some (FP.fdiv (FP.i2f (mNow S.mv 3)) (FP.i2f (nI n)), mSThrown 0 S.mv) := by
      unfold f_X11_liftedShare f_X11_liftedShare_J15
      rw [if_pos jl2, c2, if_neg (nI_nle (by omega) (by omega)), m_goes0, Option.bind_some, if_neg (show ¬ ((1 : Int32), mSThrown 0 S.mv).1 = 0 from i1n), if_pos jl3, if_pos jl2]
      show (if FP.fdiv (FP.i2f (mNow (mSThrown 0 S.mv) (3 : Int32).toNatClampNeg)) (FP.i2f (mNow (mSThrown 0 S.mv) (2 : Int32).toNatClampNeg)) &&& 0x7fffffff ≤ 0x7f800000 then some (FP.fdiv (FP.i2f (mNow (mSThrown 0 S.mv) (3 : Int32).toNatClampNeg)) (FP.i2f (mNow (mSThrown 0 S.mv) (2 : Int32).toNatClampNeg)), mSThrown 0 S.mv) else none) = _
      rw [c2', c3', if_pos ha]
    refine ⟨((mkS S.ep S.fc S.qv S.bv S.sv S.hv S.pv S.ov S.svd (mSThrown 0 S.mv)), ol, vf_upd od (0 : Int32).toNatClampNeg (FP.f2d (FP.fdiv (FP.i2f (mNow S.mv 3)) (FP.i2f (nI n))))), ?_, h.kept (sv' := S.sv) (Kept.thrown _ _)⟩
    have e3 : mThrown (mSThrown 0 S.mv) = 0 := by simp only [mg13_0, mg13_1, mg13_2, mg13_3, mg13_4, mg13_5, mg13_6, mg13_7, mg13_8, mg13_9, mg13_10, mg13_11, mg13_12, mg13_13, mg13_14, mg13_15, mg13_16, mg13_17, mg13_18]
    have e4 : ∀ x : UInt64, vf_upd od (0 : Int32).toNatClampNeg x (0 : Int32).toNatClampNeg = x := fun x => if_pos rfl
    unfold lawOp_34
    rw [e1, e2, Option.bind_some, Option.bind_some, th_u, Option.bind_some, if_pos e3, if_pos rfl, if_pos ⟨ha2, by
      show FP.dcmp (vf_upd od (0 : Int32).toNatClampNeg (FP.f2d (FP.fdiv (FP.i2f (mNow S.mv 3)) (FP.i2f (nI n)))) (0 : Int32).toNatClampNeg) _ = _
      rw [e4]
      exact hc⟩]
