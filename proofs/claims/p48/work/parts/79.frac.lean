theorem fr_t32 : FP.Core.b32.tails = 8388608 := Eq.trans rfl rfl
theorem fr_e32 : FP.Core.b32.exps = 256 := Eq.trans rfl rfl
theorem fr_x32 : FP.Core.b32.qmax = 104 := Eq.trans rfl rfl
theorem fr_n32 : FP.Core.b32.qmin = -149 := Eq.trans rfl rfl
theorem fr_p32 : 2 ^ FP.Core.b32.p = 16777216 := Eq.trans rfl rfl
theorem fr_t64 : FP.Core.b64.tails = 4503599627370496 := Eq.trans rfl rfl
theorem fr_e64 : FP.Core.b64.exps = 2048 := Eq.trans rfl rfl
theorem fr_fin32 (s : Bool) (c : Nat) (q : Int) (hc : c < 16777216) (hq : q ≤ 104) : FP.Core.encode FP.Core.b32 (.fin s c q) % 2147483648 ≤ 2139095040 ∧ FP.Core.encode FP.Core.b32 (.fin s c q) < 4294967296 := by
  unfold FP.Core.encode FP.Core.assemble
  simp only [fr_t32, fr_e32, fr_n32]
  by_cases h : c < 8388608
  · rw [if_pos h]
    cases s <;> simp only [Bool.toNat_true, Bool.toNat_false] <;> omega
  · rw [if_neg h]
    cases s <;> simp only [Bool.toNat_true, Bool.toNat_false] <;> omega
theorem fr_inf32 (s : Bool) : FP.Core.encode FP.Core.b32 (.inf s) % 2147483648 ≤ 2139095040 ∧ FP.Core.encode FP.Core.b32 (.inf s) < 4294967296 := by
  cases s <;> decide +kernel
theorem fr_rr32 (s : Bool) (n d : Nat) (e : Int) : FP.Core.encode FP.Core.b32 (FP.Core.roundRatio FP.Core.b32 s n d e) % 2147483648 ≤ 2139095040 ∧ FP.Core.encode FP.Core.b32 (FP.Core.roundRatio FP.Core.b32 s n d e) < 4294967296 := by
  unfold FP.Core.roundRatio
  by_cases h : n = 0
  · rw [if_pos h]
    exact fr_fin32 s 0 _ (by omega) (by rw [fr_n32]; omega)
  · rw [if_neg h]
    unfold FP.Core.roundAt FP.Core.settle FP.Core.bound
    generalize FP.Core.nearest (FP.Core.unitsNum n e (FP.Core.quantum FP.Core.b32 n d e)) (FP.Core.unitsDen d e (FP.Core.quantum FP.Core.b32 n d e)) = c
    generalize FP.Core.quantum FP.Core.b32 n d e = q
    rw [fr_p32, fr_x32, fr_t32]
    by_cases h1 : c < 16777216
    · rw [if_pos h1]
      by_cases h2 : q ≤ 104
      · rw [if_pos h2]; exact fr_fin32 s c q h1 h2
      · rw [if_neg h2]; exact fr_inf32 s
    · rw [if_neg h1]
      by_cases h2 : q + 1 ≤ 104
      · rw [if_pos h2]; exact fr_fin32 s _ _ (by omega) h2
      · rw [if_neg h2]; exact fr_inf32 s
/-- bits below those of an infinity are a number -/
theorem fr_dec32 (n : Nat) (h : n % 2147483648 < 2139095040) : ∃ s c q, FP.Core.decode FP.Core.b32 n = .fin s c q ∧ (8388608 ≤ n % 2147483648 → c ≠ 0) := by
  unfold FP.Core.decode FP.Core.fieldE FP.Core.fieldT
  simp only [fr_t32, fr_e32]
  have h1 : ¬ n / 8388608 % 256 = 256 - 1 := by omega
  rw [if_neg h1]
  by_cases h2 : n / 8388608 % 256 = 0
  · rw [if_pos h2]
    exact ⟨_, _, _, rfl, fun h3 => by omega⟩
  · rw [if_neg h2]
    exact ⟨_, _, _, rfl, fun _ => by omega⟩
theorem fr_not32 (n : Nat) (h : n % 2147483648 ≤ 2139095040) : ¬ FP.Core.decode FP.Core.b32 n = .nan := by
  unfold FP.Core.decode FP.Core.fieldE FP.Core.fieldT
  simp only [fr_t32, fr_e32]
  by_cases h1 : n / 8388608 % 256 = 256 - 1
  · rw [if_pos h1, if_pos (by omega)]
    exact fun h => nomatch h
  · rw [if_neg h1]
    by_cases h2 : n / 8388608 % 256 = 0
    · rw [if_pos h2]
      exact fun h => nomatch h
    · rw [if_neg h2]
      exact fun h => nomatch h
theorem fr_not64 (n : Nat) (h : n % 9223372036854775808 ≤ 9218868437227405312) : ¬ FP.Core.decode FP.Core.b64 n = .nan := by
  unfold FP.Core.decode FP.Core.fieldE FP.Core.fieldT
  simp only [fr_t64, fr_e64]
  by_cases h1 : n / 4503599627370496 % 2048 = 2048 - 1
  · rw [if_pos h1, if_pos (by omega)]
    exact fun h => nomatch h
  · rw [if_neg h1]
    by_cases h2 : n / 4503599627370496 % 2048 = 0
    · rw [if_pos h2]
      exact fun h => nomatch h
    · rw [if_neg h2]
      exact fun h => nomatch h
theorem fr_and32 (x : UInt32) (h : x.toNat % 2147483648 ≤ 2139095040) : x &&& 0x7fffffff ≤ 0x7f800000 := by
  rw [UInt32.le_iff_toNat_le, UInt32.toNat_and, show (0x7fffffff : UInt32).toNat = 2 ^ 31 - 1 by decide, show (0x7f800000 : UInt32).toNat = 2139095040 by decide, Nat.and_two_pow_sub_one_eq_mod]
  exact h
theorem fr_and64 (x : UInt64) (h : x.toNat % 9223372036854775808 ≤ 9218868437227405312) : x &&& 0x7fffffffffffffff ≤ 0x7ff0000000000000 := by
  rw [UInt64.le_iff_toNat_le, UInt64.toNat_and, show (0x7fffffffffffffff : UInt64).toNat = 2 ^ 63 - 1 by decide, show (0x7ff0000000000000 : UInt64).toNat = 9218868437227405312 by decide, Nat.and_two_pow_sub_one_eq_mod]
  exact h
theorem fr_cmpI (a : Int) : compare a a = Ordering.eq := by
  show (if a < a then Ordering.lt else if a = a then Ordering.eq else Ordering.gt) = Ordering.eq
  rw [if_neg (by omega), if_pos rfl]
theorem fr_ord (d : FP.Core.Datum) (h : ¬ d = .nan) : FP.Core.order d d = some .eq := by
  cases d with
  | nan => exact absurd rfl h
  | inf s => show some (compare _ _) = _; rw [fr_cmpI]
  | fin s c q => show some (compare _ _) = _; rw [fr_cmpI]
theorem fr_dcmp (x : UInt64) (h : x.toNat % 9223372036854775808 ≤ 9218868437227405312) : FP.dcmp x x = some .eq := fr_ord _ (fr_not64 _ h)
/-- the quotient of two numbers, the second not 0 -/
theorem fr_div (a b : UInt32) (ha : a.toNat % 2147483648 < 2139095040) (hb : b.toNat % 2147483648 < 2139095040) (hb0 : 8388608 ≤ b.toNat % 2147483648) : (FP.fdiv a b).toNat % 2147483648 ≤ 2139095040 := by
  obtain ⟨s, c, q, e1, _⟩ := fr_dec32 _ ha
  obtain ⟨t, d, r, e2, h0⟩ := fr_dec32 _ hb
  have h1 := fr_rr32 (s != t) c d (q - r)
  have h2 : FP.Core.div FP.Core.b32 a.toNat b.toNat = FP.Core.encode FP.Core.b32 (FP.Core.roundRatio FP.Core.b32 (s != t) c d (q - r)) := by
    unfold FP.Core.div
    rw [e1, e2]
    show FP.Core.encode FP.Core.b32 (if d = 0 then _ else _) = _
    rw [if_neg (h0 hb0)]
  show (UInt32.ofNat (FP.Core.div FP.Core.b32 a.toNat b.toNat)).toNat % 2147483648 ≤ 2139095040
  rw [h2, UInt32.toNat_ofNat_of_lt' h1.2]
  exact h1.1
set_option maxRecDepth 100000 in
set_option maxHeartbeats 4000000 in
theorem fr_i2fA : ∀ i : Fin 103, ∀ j : Fin 100, (FP.i2f (nI (100 * i.val + j.val))).toNat % 2147483648 < 2139095040 ∧ (100 * i.val + j.val = 0 ∨ 8388608 ≤ (FP.i2f (nI (100 * i.val + j.val))).toNat % 2147483648) := by decide +kernel
theorem fr_i2f (n : Nat) (hn : n < 10300) : (FP.i2f (nI n)).toNat % 2147483648 < 2139095040 ∧ (n ≠ 0 → 8388608 ≤ (FP.i2f (nI n)).toNat % 2147483648) := by
  have h := fr_i2fA ⟨n / 100, by omega⟩ ⟨n % 100, by omega⟩
  have e : 100 * (n / 100) + n % 100 = n := by omega
  have h1 : (FP.i2f (nI (100 * (n / 100) + n % 100))).toNat % 2147483648 < 2139095040 ∧ (100 * (n / 100) + n % 100 = 0 ∨ 8388608 ≤ (FP.i2f (nI (100 * (n / 100) + n % 100))).toNat % 2147483648) := h
  rw [e] at h1
  exact ⟨h1.1, fun h0 => h1.2.resolve_left h0⟩
theorem fr_neg (k : Nat) (hk : k < 91) : (FP.i2f (-(nI k))).toNat % 2147483648 < 2139095040 := (by decide +kernel : ∀ k : Fin 91, (FP.i2f (-(nI k.val))).toNat % 2147483648 < 2139095040) ⟨k, hk⟩
set_option maxRecDepth 100000 in
set_option maxHeartbeats 4000000 in
theorem fr_mean (n : Nat) (hn : n < 271) : (FP.ddiv (FP.i2d (nI n)) (4629137466983448576 : UInt64)).toNat % 9223372036854775808 ≤ 9218868437227405312 := (by decide +kernel : ∀ n : Fin 271, (FP.ddiv (FP.i2d (nI n.val)) (4629137466983448576 : UInt64)).toNat % 9223372036854775808 ≤ 9218868437227405312) ⟨n, hn⟩
def hS (w : Nat → Int32) (c : Nat) : Nat := vN (w (19 + 7 * c))
theorem hS_le {w : Nat → Int32} {t : Nat} (hi : InvW t w) : sumN (hS w) 30 < 271 := by
  have := sumN_le (g := hS w) (b := 9) 30 (fun d hd => hh_9 hi d hd)
  omega
theorem q_hsum {q : QV} {w : Nat → Int32} {t : Nat} (hr : RelQ q w) (hi : InvW t w) : f_X7_heightSum q = some (nI (sumN (hS w) 30)) := by
  have hl : jbL (fun s : Int32 × Int32 => f_X7_heightSum_L4 q s.1 s.2) 5000 (nI (sumN (hS w) 0), nI 0) = some (nI (sumN (hS w) 30), nI 30) := by
    refine lpD (fun c => (nI (sumN (hS w) c), nI c)) _ 30 (fun c hc => ?_) ?_ 5000 (by decide)
    · show f_X7_heightSum_L4 q (nI (sumN (hS w) c)) (nI c) = some (Sum.inl (nI (sumN (hS w) (c + 1)), nI (c + 1)))
      unfold f_X7_heightSum_L4
      rw [if_neg (show ¬ (30 : Int32) ≤ nI c from nI_ge (a := c) (b := 30) hc (by decide)), if_pos (nIin hc (by decide)), nI_clamp (by omega), hr.h c hc, hN hi c hc, sumN_s]
      simp only [jb_u, nI_add, nI_1]
      rfl
    · show f_X7_heightSum_L4 q _ (nI 30) = _
      unfold f_X7_heightSum_L4
      rw [if_pos (show (30 : Int32) ≤ nI 30 from Int32.le_refl _)]
  have hl' : jbL (fun s : Int32 × Int32 => f_X7_heightSum_L4 q s.1 s.2) 5000 ((0 : Int32), (0 : Int32)) = some (nI (sumN (hS w) 30), nI 30) := hl
  unfold f_X7_heightSum
  simp only [hl', ob_s]
theorem itr_N {w : Nat → Int32} {t : Nat} (hi : InvW t w) : ∀ n, n ≤ 30 → itr (fun c x => x + w (22 + 7 * c)) 0 n = nI (sumN (fun c => vN (w (22 + 7 * c))) n)
  | 0, _ => rfl
  | n + 1, hn => by
    obtain ⟨k, hk, e⟩ := hi.n n (by omega)
    show itr (fun c x => x + w (22 + 7 * c)) 0 n + w (22 + 7 * n) = _
    rw [itr_N hi n (by omega), sumN_s, e, vN_nI (by omega), nI_add]
theorem blk_le {w : Nat → Int32} {t : Nat} (hi : InvW t w) : sumN (fun c => vN (w (22 + 7 * c))) 30 ≤ 90 := by
  have := sumN_le (g := fun c => vN (w (22 + 7 * c))) (b := 3) 30 (fun d hd => by
    obtain ⟨k, hk, e⟩ := hi.n d hd
    show vN (w (22 + 7 * d)) ≤ 3
    rw [e, vN_nI (by omega)]
    exact hk)
  omega
theorem lifts_fin {w : Nat → Int32} {t : Nat} (hi : InvW t w) (ht : t ≤ 10240) : (FP.i2f (w 3)).toNat % 2147483648 < 2139095040 := by
  obtain ⟨n, hn, e⟩ := hi.cuts
  have hb := blk_le hi
  have hs := hi.sum
  rw [itr_N hi 30 (Nat.le_refl _), e] at hs
  generalize sumN (fun c => vN (w (22 + 7 * c))) 30 = b at *
  have h3 : w 3 = nI n - nI b := by rw [hs, Int32.add_sub_cancel]
  rw [h3]
  by_cases h : b ≤ n
  · rw [nIsub h]; exact (fr_i2f (n - b) (by omega)).1
  · rw [show nI n - nI b = -(nI (b - n)) by rw [← nIsub (by omega : n ≤ b)]; simp]
    exact fr_neg (b - n) (by omega)
