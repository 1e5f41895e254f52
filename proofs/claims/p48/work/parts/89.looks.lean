/-! ===== looks: one number of what can be seen ===== -/
def tlI (x : Int32) : Int32 := if x = 0 then 0 else 1
theorem told_ok (x : Int32) : f_L_told x = some (tlI x) := by
  unfold f_L_told tlI
  split <;> rfl
def askT (w : Nat → Int32) (k : Nat) : Int32 := if w (22 + 7 * k) = 0 then -2004 else w (23 + 7 * k + (vN (w (22 + 7 * k)) - 1))
noncomputable def askB (w : Nat → Int32) (n k : Nat) : Int32 := match best w k n with
  | none => -2004
  | some b => nI b
noncomputable def lkC (w : Nat → Int32) (n k : Nat) (x : Int32) : Int32 := ((31 * ((31 * ((31 * ((31 * ((31 * ((31 * x) + w (19 + 7 * k))) + w (20 + 7 * k))) + tlI (w (21 + 7 * k)))) + w (22 + 7 * k))) + askT w k)) + askB w n k)
noncomputable def lkR (w : Nat → Int32) (n y : Nat) (x : Int32) : Int32 := (rowT w n y 6).foldl (fun x c => (31 * x) + nI c) x
noncomputable def looksV (w : Nat → Int32) (n : Nat) : Int32 :=
  itr (lkR w n) (itr (fun s x => (31 * x) + w (6 + s)) (itr (lkC w n) ((31 * ((31 * ((31 * ((31 * w 0) + w 1)) + w 2)) + ((w 4).toInt64.toInt32))) + w 5) 30) 4) 5
section
variable {q : QV} {w : Nat → Int32} {t : Nat}
theorem ask_top (hr : RelQ q w) (hi : InvW t w) (sv : SV) (k : Nat) (hk : k < 30) : f_L_ask q sv 1 (nI k / 6) (nI k - nI k / 6 * 6) 0 0 = some (askT w k, sv) := by
  obtain ⟨t0, t1⟩ := tq_top (none, -1, -1) hr hi (AtC.k hk)
  unfold askT
  by_cases h0 : w (22 + 7 * k) = 0
  · rw [if_pos h0]
    exact ask_x1_2 (t0 h0)
  · rw [if_neg h0]
    obtain ⟨n, hn, en⟩ := hi.n k hk
    have hn0 : n ≠ 0 := fun e => h0 (by rw [en, e]; rfl)
    obtain ⟨j, rfl⟩ := Nat.exists_eq_succ_of_ne_zero hn0
    have hr1 := ask_r1 (q := q) (sv := sv) (c := 0) (d := 0) (t1 j en (by omega))
    rw [hr1, en, vN_nI (by omega)]
    rfl
theorem ask_bst (hr : RelQ q w) (hi : InvW t w) (sv : SV) (n : Nat) (hn : n ≤ 3) (en : w 5 = nI n) (k : Nat) (hk : k < 30) : f_L_ask q sv 7 (nI k / 6) (nI k - nI k / 6 * 6) 0 0 = some (askB w n k, sv) := by
  obtain ⟨t0, t1⟩ := tq_best (none, -1, -1) hr hi n hn en (AtC.k hk)
  unfold askB
  cases e : best w k n with
  | none => exact ask_x7_2 (t0 e)
  | some b => exact ask_r7 (t1 b e)
theorem lk_40 (hr : RelQ q w) (hi : InvW t w) (sv : SV) (ov : OV) (n : Nat) (hn : n ≤ 3) (en : w 5 = nI n) (x : Int32) : jbL (fun s : Int32 × Int32 × SV => f_L_looks_L40 q ov s.1 s.2.1 s.2.2) 31 (x, (0 : Int32), sv) = some (itr (lkC w n) x 30, nI 30, sv) := by
  have hl : jbL (fun s : Int32 × Int32 × SV => f_L_looks_L40 q ov s.1 s.2.1 s.2.2) 31 (itr (lkC w n) x 0, nI 0, sv) = some (itr (lkC w n) x 30, nI 30, sv) := by
    refine lpD (fun k => (itr (lkC w n) x k, nI k, sv)) _ 30 (fun k hk => ?_) ?_ 31 (by decide)
    · show f_L_looks_L40 q ov (itr (lkC w n) x k) (nI k) sv = some (Sum.inl (lkC w n k (itr (lkC w n) x k), nI (k + 1), sv))
      generalize itr (lkC w n) x k = z
      unfold f_L_looks_L40
      rw [if_neg (show ¬ (30 : Int32) ≤ nI k from nI_ge (a := k) (b := 30) hk (by decide)), tq_height _ hr (AtC.k hk), ob_s, jm_r, tq_stone _ hr (AtC.k hk), ob_s, jm_r, tq_ledge _ hr hi (AtC.k hk), ob_s, jm_r, told_ok, ob_s, jb_u, tq_loose _ hr (AtC.k hk), ob_s, jm_r, ask_top hr hi sv k hk, ob_s, ask_bst hr hi sv n hn en k hk, ob_s, jb_u, nI_1]
      rfl
    · show f_L_looks_L40 q ov _ (nI 30) sv = _
      unfold f_L_looks_L40
      rw [if_pos (show (30 : Int32) ≤ nI 30 from Int32.le_refl _)]
  exact hl
theorem lk_164 (hr : RelQ q w) (sv : SV) (ov : OV) (x : Int32) : jbL (fun s : Int32 × Int32 => f_L_looks_L164 q sv ov s.1 s.2) 5 (x, (0 : Int32)) = some (itr (fun s x => (31 * x) + w (6 + s)) x 4, nI 4) := by
  have hl : jbL (fun s : Int32 × Int32 => f_L_looks_L164 q sv ov s.1 s.2) 5 (itr (fun s x => (31 * x) + w (6 + s)) x 0, nI 0) = some (itr (fun s x => (31 * x) + w (6 + s)) x 4, nI 4) := by
    refine lpD (fun k => (itr (fun s x => (31 * x) + w (6 + s)) x k, nI k)) _ 4 (fun k hk => ?_) ?_ 5 (by decide)
    · show f_L_looks_L164 q sv ov (itr (fun s x => (31 * x) + w (6 + s)) x k) (nI k) = some (Sum.inl ((31 * itr (fun s x => (31 * x) + w (6 + s)) x k) + w (6 + k), nI (k + 1)))
      generalize itr (fun s x => (31 * x) + w (6 + s)) x k = z
      unfold f_L_looks_L164
      rw [if_neg (show ¬ (4 : Int32) ≤ nI k from nI_ge (a := k) (b := 4) hk (by decide)), tq_inYard _ hr k hk, ob_s, jm_r, jb_u, nI_1]
    · show f_L_looks_L164 q sv ov _ (nI 4) = _
      unfold f_L_looks_L164
      rw [if_pos (show (4 : Int32) ≤ nI 4 from Int32.le_refl _)]
  exact hl
theorem lk_202 {l : List Nat} {ov : OV} (h : LnQ l ov) (hl : l.length ≤ 48) (sv : SV) (x2 : Int32) : ∀ (b a : List Nat) (f : Nat) (x : Int32), l = a ++ b → b.length < f → jbL (fun s : Int32 × Int32 => f_L_looks_L202 q sv ov x2 (nI l.length) s.1 s.2) f (x, nI a.length) = some (b.foldl (fun x c => (31 * x) + nI c) x, nI l.length)
  | [], a, f, x, e, hf => by
    obtain ⟨f, rfl⟩ : ∃ g, f = g + 1 := ⟨f - 1, by have : ([] : List Nat).length = 0 := rfl; omega⟩
    rw [List.append_nil] at e
    refine jl_e ?_
    show f_L_looks_L202 q sv ov x2 (nI l.length) x (nI a.length) = _
    unfold f_L_looks_L202
    rw [← e, if_pos (Int32.le_refl _)]
    rfl
  | c :: b, a, f, x, e, hf => by
    obtain ⟨f, rfl⟩ : ∃ g, f = g + 1 := ⟨f - 1, by rw [List.length_cons] at hf; omega⟩
    have hlen : a.length + b.length + 1 = l.length := by rw [e, List.length_append, List.length_cons]; omega
    have ih := lk_202 h hl sv x2 b (a ++ [c]) f ((31 * x) + nI c) (by rw [e, List.append_assoc]; rfl) (by rw [List.length_cons] at hf; omega)
    rw [len_1] at ih
    rw [jl_s (s' := ((31 * x) + nI c, nI (a.length + 1)))]
    · exact ih
    · show f_L_looks_L202 q sv ov x2 (nI l.length) x (nI a.length) = _
      unfold f_L_looks_L202
      rw [if_neg (nI_ge (by omega) (by omega)), ln_rd _ h hl e, ob_s, jm_r, jb_u, nI_1]
theorem lk_188 (hr : RelQ q w) (hi : InvW t w) (sv : SV) (n : Nat) (hn : n ≤ 3) (en : w 5 = nI n) (ov : OV) (x : Int32) : ∃ ov', jbL (fun s : Int32 × Int32 × OV => f_L_looks_L188 q sv s.1 s.2.1 s.2.2) 6 (x, (0 : Int32), ov) = some (itr (lkR w n) x 5, nI 5, ov') := by
  obtain ⟨r, h1, ov', rfl⟩ := lpL (body := fun s : Int32 × Int32 × OV => f_L_looks_L188 q sv s.1 s.2.1 s.2.2)
    (fun y s => ∃ ov', s = (itr (lkR w n) x y, nI y, ov')) (fun r => ∃ ov', r = (itr (lkR w n) x 5, nI 5, ov')) 5
    (fun y s hy ⟨ov1, e⟩ => by
      subst e
      left
      obtain ⟨ov2, e1, e2⟩ := tq_writeRow (none, -1, -1) hr hi n y hn en hy ov1
      have hl48 := rowT_len hi n y hy 6 (Nat.le_refl _)
      have h3 := lk_202 (q := q) e2 (by omega) sv (nI y) (rowT w n y 6) [] 60 (itr (lkR w n) x y) rfl (by omega)
      have h3' : jbL (fun s : Int32 × Int32 => f_L_looks_L202 q sv ov2 (nI y) (nI (rowT w n y 6).length) s.1 s.2) 60 (itr (lkR w n) x y, (0 : Int32)) = some (lkR w n y (itr (lkR w n) x y), nI (rowT w n y 6).length) := h3
      refine ⟨(itr (lkR w n) x (y + 1), nI (y + 1), ov2), ?_, ov2, rfl⟩
      show f_L_looks_L188 q sv (itr (lkR w n) x y) (nI y) ov1 = _
      unfold f_L_looks_L188
      rw [if_neg (show ¬ (5 : Int32) ≤ nI y from nI_ge (a := y) (b := 5) hy (by decide)), e1, ob_s, jm_r, jb_u, h3', ob_s, nI_1]
      rfl)
    (fun s ⟨ov1, e⟩ => by
      subst e
      refine ⟨_, ?_, ov1, rfl⟩
      show f_L_looks_L188 q sv _ (nI 5) ov1 = _
      unfold f_L_looks_L188
      rw [if_pos (show (5 : Int32) ≤ nI 5 from Int32.le_refl _)]) 6 0 (x, (0 : Int32), ov) (by omega) (by omega) ⟨ov, rfl⟩
  exact ⟨ov', h1⟩
theorem L_looks (hr : RelQ q w) (hi : InvW t w) (n : Nat) (hn : n ≤ 3) (en : w 5 = nI n) (sv : SV) (ov : OV) : ∃ ov', f_L_looks q sv ov = some (looksV w n, sv, ov') := by
  obtain ⟨ov', e⟩ := lk_188 hr hi sv n hn en ov (itr (fun s x => (31 * x) + w (6 + s)) (itr (lkC w n) ((31 * ((31 * ((31 * ((31 * w 0) + w 1)) + w 2)) + ((w 4).toInt64.toInt32))) + w 5) 30) 4)
  refine ⟨ov', ?_⟩
  unfold f_L_looks
  rw [tq_limit _ hr, ob_s, tq_rubble _ hr, ob_s, tq_cuts _ hr, ob_s, tq_work _ hr, ob_s, tq_winches _ hr, ob_s, jb_u, lk_40 hr hi sv ov n hn en, ob_s, lk_164 hr, ob_s, e, ob_s]
  rfl
end
