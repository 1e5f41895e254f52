/-! ===== the output line: its text ===== -/
/-- the line holds l -/
def LnQ (l : List Nat) (ov : OV) : Prop := oLength ov = nI l.length ∧ (∀ i x, l[i]? = some x → oSigns ov i = nI x) ∧ ∀ x ∈ l, x < 128
noncomputable def cellT (w : Nat → Int32) (n c : Nat) : List Nat := [48 + vN (w (19 + 7 * c)), 97 + vN (w (20 + 7 * c))] ++ ((if w (21 + 7 * c) = 0 then [] else [61]) ++ ((if dcd (hasW w n c) = true then [94] else []) ++ List.replicate (vN (w (22 + 7 * c))) 46))
noncomputable def rowT (w : Nat → Int32) (n y : Nat) : Nat → List Nat
  | 0 => []
  | k + 1 => rowT w n y k ++ ((if k = 0 then [] else [32]) ++ cellT w n (6 * y + k))
theorem jl_s {σ ρ : Type} {body : σ → Option (Sum σ ρ)} {f : Nat} {s s' : σ} (h : body s = some (.inl s')) : jbL body (f + 1) s = jbL body f s' := by
  show (body s).bind _ = _
  rw [h]
  rfl
theorem jl_e {σ ρ : Type} {body : σ → Option (Sum σ ρ)} {f : Nat} {s : σ} {r : ρ} (h : body s = some (.inr r)) : jbL body (f + 1) s = some r := by
  show (body s).bind _ = _
  rw [h]
  rfl
theorem lnq_put {l : List Nat} {ov : OV} (h : LnQ l ov) (hp : l.length < 48) (x : Nat) (hx : x < 128) : ∃ ov', f_X5_put ov (nI x) = some ov' ∧ LnQ (l ++ [x]) ov' := by
  obtain ⟨h1, h2, h3⟩ := h
  have hl : (nI l.length).toNatClampNeg = l.length := nI_clamp (by omega)
  have hj : jIn (nI l.length) 48 := nIin hp (by decide)
  have h48 : ¬ (48 : Int32) ≤ nI l.length := nI_ge (a := l.length) (b := 48) hp (by decide)
  refine ⟨(upd (oSigns ov) l.length (nI x), nI (l.length + 1)), ?_, ?_, fun i y hi => ?_, fun y hy => ?_⟩
  · unfold f_X5_put
    simp only [h1, if_neg h48, if_pos hj, hl, nar_ch x hx, jb_u]
    show some (upd (oSigns ov) l.length (nI x), oLength ov + 1) = _
    rw [h1, nI_1]
  · show nI (l.length + 1) = nI (l ++ [x]).length
    rw [List.length_append]; rfl
  · show upd (oSigns ov) l.length (nI x) i = nI y
    by_cases e : i = l.length
    · subst e
      rw [upd_at]
      rw [List.getElem?_append_right (Nat.le_refl _), Nat.sub_self] at hi
      cases hi
      rfl
    · rw [upd_ne _ _ e]
      have hlt := (List.getElem?_eq_some_iff.mp hi).1
      rw [List.length_append] at hlt
      have hlt : i < l.length + 1 := hlt
      rw [List.getElem?_append_left (by omega)] at hi
      exact h2 i y hi
  · rcases List.mem_append.mp hy with h | h
    · exact h3 y h
    · rw [List.mem_singleton.mp h]; exact hx
section
variable {q : QV} {w : Nat → Int32} {t : Nat}
theorem lnq_dots (hr : RelQ q w) (c b : Nat) (hb31 : b < 2 ^ 31) (hc : c < 30) (en : w (22 + 7 * c) = nI b) : ∀ (r i f : Nat) (ov : OV) (l : List Nat), i + r = b → r < f → l.length + r ≤ 48 → LnQ l ov →
    ∃ ov', jbL (fun s : Int32 × OV => f_X5_putCell_L56 q (nI c) s.1 s.2) f (nI i, ov) = some (nI b, ov') ∧ LnQ (l ++ List.replicate r 46) ov' := by
  intro r
  have hjc : jIn (nI c) 30 := nIin hc (by decide)
  have hlc : (nI c).toNatClampNeg = c := nI_clamp (by omega)
  have hba : f_X7_blocksAt q (nI c) = some (nI b) := by
    unfold f_X7_blocksAt
    rw [if_pos hjc, hlc, hr.n c hc, en]
  induction r with
  | zero =>
    intro i f ov l hi hf hp h
    obtain ⟨f, rfl⟩ : ∃ g, f = g + 1 := ⟨f - 1, by omega⟩
    have e : i = b := by omega
    subst e
    refine ⟨ov, jl_e ?_, by rw [List.replicate_zero, List.append_nil]; exact h⟩
    show f_X5_putCell_L56 q (nI c) (nI i) ov = _
    unfold f_X5_putCell_L56
    simp only [hba, ob_s, if_pos (Int32.le_refl (nI i))]
  | succ r ih =>
    intro i f ov l hi hf hp h
    obtain ⟨f, rfl⟩ : ∃ g, f = g + 1 := ⟨f - 1, by omega⟩
    obtain ⟨ov1, a1, a2⟩ := lnq_put h (by omega) 46 (by omega)
    obtain ⟨ov2, b1, b2⟩ := ih (i + 1) f ov1 (l ++ [46]) (by omega) (by omega) (by rw [List.length_append]; show l.length + 1 + r ≤ 48; omega) a2
    have a1' : f_X5_put ov 46 = some ov1 := a1
    refine ⟨ov2, ?_, by rw [List.replicate_succ]; rw [List.append_assoc] at b2; exact b2⟩
    have hlt : ¬ nI b ≤ nI i := nI_ge (by omega) hb31
    rw [jl_s (s' := (nI (i + 1), ov1))]
    · exact b1
    · show f_X5_putCell_L56 q (nI c) (nI i) ov = _
      unfold f_X5_putCell_L56
      simp only [hba, ob_s, if_neg hlt, a1', nI_1]
theorem cellT_len (hi : InvW t w) (n c : Nat) (hc : c < 30) : (cellT w n c).length ≤ 7 := by
  obtain ⟨b, hb, eb⟩ := hi.n c hc
  unfold cellT
  rw [List.length_append, List.length_append, List.length_append, List.length_replicate, eb, vN_nI (by omega)]
  have h1 : (if w (21 + 7 * c) = 0 then ([] : List Nat) else [61]).length ≤ 1 := by split <;> simp
  have h2 : (if dcd (hasW w n c) = true then [94] else ([] : List Nat)).length ≤ 1 := by split <;> simp
  have h3 : ([48 + vN (w (19 + 7 * c)), 97 + vN (w (20 + 7 * c))] : List Nat).length = 2 := rfl
  omega
theorem rowT_len (hi : InvW t w) (n y : Nat) (hy : y < 5) : ∀ k, k ≤ 6 → (rowT w n y k).length ≤ 8 * k
  | 0, _ => Nat.le_refl _
  | k + 1, hk => by
    have ih := rowT_len hi n y hy k (by omega)
    have hc := cellT_len hi n (6 * y + k) (by omega)
    show (rowT w n y k ++ ((if k = 0 then [] else [32]) ++ cellT w n (6 * y + k))).length ≤ _
    rw [List.length_append, List.length_append]
    have h1 : (if k = 0 then ([] : List Nat) else [32]).length ≤ 1 := by split <;> simp
    omega
theorem lnq_cell (hr : RelQ q w) (hi : InvW t w) (n c : Nat) (hn : n ≤ 3) (en : w 5 = nI n) (hc : c < 30) (ov : OV) (l : List Nat) (hl : l.length ≤ 41) (h : LnQ l ov) : ∃ ov', f_X5_putCell ov q (nI c) = some ov' ∧ LnQ (l ++ cellT w n c) ov' := by
  obtain ⟨hn9, h9, eh⟩ := hi.h c hc
  obtain ⟨sn, sn3, es⟩ := hi.s c hc
  obtain ⟨b, hb3, eb⟩ := hi.n c hc
  have len1 : ∀ (l : List Nat) (x : Nat), (l ++ [x]).length = l.length + 1 := fun l x => by rw [List.length_append]; rfl
  obtain ⟨ov1, a1, a3⟩ := lnq_put h (by omega) (48 + hn9) (by omega)
  obtain ⟨ov2, b1, b3⟩ := lnq_put a3 (by rw [len1]; omega) (97 + sn) (by omega)
  obtain ⟨ov3, l2, l4⟩ : ∃ ov3, f_X5_putCell ov q (nI c) = f_X5_putCell_J40 ov3 q (nI c) ∧ LnQ (l ++ [48 + hn9] ++ [97 + sn] ++ (if w (21 + 7 * c) = 0 then [] else [61])) ov3 := by
    by_cases e0 : w (21 + 7 * c) = 0
    · refine ⟨ov2, ?_, by rw [if_pos e0, List.append_nil]; exact b3⟩
      unfold f_X5_putCell
      simp only [q_heightAt hr c hc, eh, ob_s, hh_ch hn9 h9, a1, q_stoneAt hr c hc, es, ss_ch sn sn3, b1, q_ledgeAt hr hi c hc, e0, ↓reduceIte]
    · obtain ⟨ov3, c1, c3⟩ := lnq_put b3 (by rw [len1, len1]; omega) 61 (by omega)
      have c1' : f_X5_put ov2 61 = some ov3 := c1
      refine ⟨ov3, ?_, by rw [if_neg e0]; exact c3⟩
      unfold f_X5_putCell
      simp only [q_heightAt hr c hc, eh, ob_s, hh_ch hn9 h9, a1, q_stoneAt hr c hc, es, ss_ch sn sn3, b1, q_ledgeAt hr hi c hc]
      rw [if_neg e0]
      simp only [c1', ob_s]
  have hlen3 : (l ++ [48 + hn9] ++ [97 + sn] ++ (if w (21 + 7 * c) = 0 then [] else [61])).length ≤ l.length + 3 := by
    rw [List.length_append, len1, len1]
    have h1 : (if w (21 + 7 * c) = 0 then ([] : List Nat) else [61]).length ≤ 1 := by split <;> simp
    omega
  obtain ⟨q1, q0⟩ := q_hasW hr n c hn en
  obtain ⟨ov4, d1, d4⟩ : ∃ ov4, f_X5_putCell_J40 ov3 q (nI c) = f_X5_putCell_J54 ov4 q (nI c) ∧ LnQ (l ++ [48 + hn9] ++ [97 + sn] ++ (if w (21 + 7 * c) = 0 then [] else [61]) ++ (if dcd (hasW w n c) = true then [94] else [])) ov4 := by
    by_cases hw : hasW w n c
    · obtain ⟨ov4, c1, c3⟩ := lnq_put l4 (by omega) 94 (by omega)
      have c1' : f_X5_put ov3 94 = some ov4 := c1
      refine ⟨ov4, ?_, by rw [if_pos (dcd_t.mpr hw)]; exact c3⟩
      unfold f_X5_putCell_J40
      simp only [q1 hw, ob_s, i10, ↓reduceIte, c1']
    · refine ⟨ov3, ?_, by rw [if_neg (fun h => hw (dcd_t.mp h)), List.append_nil]; exact l4⟩
      unfold f_X5_putCell_J40
      simp only [q0 hw, ob_s, ↓reduceIte]
  have hlen4 : (l ++ [48 + hn9] ++ [97 + sn] ++ (if w (21 + 7 * c) = 0 then [] else [61]) ++ (if dcd (hasW w n c) = true then [94] else [])).length ≤ l.length + 4 := by
    rw [List.length_append]
    have h1 : (if dcd (hasW w n c) = true then [94] else ([] : List Nat)).length ≤ 1 := by split <;> simp
    omega
  obtain ⟨ov5, e1, e3⟩ := lnq_dots hr c b (by omega) hc eb b 0 5000 ov4 _ (by omega) (by omega) (by omega) d4
  have e1' : jbL (fun s : Int32 × OV => f_X5_putCell_L56 q (nI c) s.1 s.2) 5000 ((0 : Int32), ov4) = some (nI b, ov5) := e1
  refine ⟨ov5, ?_, ?_⟩
  · rw [l2, d1]
    unfold f_X5_putCell_J54
    simp only [e1', ob_s]
  · have : l ++ cellT w n c = l ++ [48 + hn9] ++ [97 + sn] ++ (if w (21 + 7 * c) = 0 then [] else [61]) ++ (if dcd (hasW w n c) = true then [94] else []) ++ List.replicate b 46 := by
      unfold cellT
      rw [eh, es, eb, vN_nI (by omega), vN_nI (by omega), vN_nI (by omega)]
      simp only [List.append_assoc, List.cons_append, List.nil_append]
    rw [this]
    exact e3
theorem lnq_cols (hr : RelQ q w) (hi : InvW t w) (n y : Nat) (hn : n ≤ 3) (en : w 5 = nI n) (hy : y < 5) : ∀ (r k f : Nat) (ov : OV), k + r = 6 → r < f → LnQ (rowT w n y k) ov →
    ∃ ov', jbL (fun s : Int32 × OV => f_X5_write_L7 q (nI y) s.1 s.2) f (nI k, ov) = some (nI 6, ov') ∧ LnQ (rowT w n y 6) ov' := by
  intro r
  induction r with
  | zero =>
    intro k f ov hk hf h
    obtain ⟨f, rfl⟩ : ∃ g, f = g + 1 := ⟨f - 1, by omega⟩
    have e : k = 6 := by omega
    subst e
    have h6 : (6 : Int32) ≤ nI 6 := Int32.le_refl _
    refine ⟨ov, jl_e ?_, h⟩
    show f_X5_write_L7 q (nI y) (nI 6) ov = _
    unfold f_X5_write_L7
    rw [if_pos h6]
  | succ r ih =>
    intro k f ov hk hf h
    obtain ⟨f, rfl⟩ : ∃ g, f = g + 1 := ⟨f - 1, by omega⟩
    obtain ⟨g1, g2, g3, g4⟩ := g_cell y k hy (by omega)
    have h6 : ¬ (6 : Int32) ≤ nI k := nI_ge (a := k) (b := 6) (by omega) (by decide)
    have hlen := rowT_len hi n y hy k (by omega)
    obtain ⟨ov1, b2, b4⟩ : ∃ ov1, f_X5_write_L7 q (nI y) (nI k) ov = f_X5_write_J23 ov1 q (nI y) (nI k) ∧ LnQ (rowT w n y k ++ (if k = 0 then [] else [32])) ov1 := by
      by_cases e0 : k = 0
      · subst e0
        refine ⟨ov, ?_, by rw [if_pos rfl, List.append_nil]; exact h⟩
        unfold f_X5_write_L7
        rw [if_neg h6, if_pos (show nI 0 ≤ (0 : Int32) from Int32.le_refl _)]
      · have h0 : ¬ nI k ≤ 0 := by rw [show (0 : Int32) = nI 0 from rfl, nI_leI (by omega) (by omega)]; omega
        obtain ⟨ov1, c1, c3⟩ := lnq_put h (by omega) 32 (by omega)
        have c1' : f_X5_put ov 32 = some ov1 := c1
        refine ⟨ov1, ?_, by rw [if_neg e0]; exact c3⟩
        unfold f_X5_write_L7
        rw [if_neg h6, if_neg h0, c1', Option.bind_some]
    have hl1 : (rowT w n y k ++ (if k = 0 then [] else [32])).length ≤ 41 := by
      rw [List.length_append]
      have h1 : (if k = 0 then ([] : List Nat) else [32]).length ≤ 1 := by split <;> simp
      omega
    obtain ⟨ov2, d1, d4⟩ := lnq_cell hr hi n (6 * y + k) hn en (by omega) ov1 _ hl1 b4
    rw [List.append_assoc] at d4
    obtain ⟨ov3, e1, e3⟩ := ih (k + 1) f ov2 (by omega) (by omega) d4
    refine ⟨ov3, ?_, e3⟩
    rw [jl_s (s' := (nI (k + 1), ov2))]
    · exact e1
    · show f_X5_write_L7 q (nI y) (nI k) ov = _
      rw [b2]
      unfold f_X5_write_J23
      simp only [g2, ob_s, d1, nI_1]
theorem hrow_ok : ∀ y : Fin 5, f_X3_hasRow (nI y.val) = some 1 := by decide +kernel
theorem tq_writeRow (tv : TV) (hr : RelQ q w) (hi : InvW t w) (n y : Nat) (hn : n ≤ 3) (en : w 5 = nI n) (hy : y < 5) (ov : OV) : ∃ ov', f_X10_writeRow tv q ov (nI y) = some (.inr (nI (rowT w n y 6).length, ov')) ∧ LnQ (rowT w n y 6) ov' := by
  have h0 : LnQ (rowT w n y 0) (oSLength 0 ov) := ⟨rfl, ⟨fun i x h => (by cases h), fun x h => absurd h List.not_mem_nil⟩⟩
  obtain ⟨ov', e1, e2⟩ := lnq_cols hr hi n y hn en hy 6 0 5000 (oSLength 0 ov) (by omega) (by omega) h0
  have e1' : jbL (fun s : Int32 × OV => f_X5_write_L7 q (nI y) s.1 s.2) 5000 ((0 : Int32), oSLength 0 ov) = some (nI 6, ov') := e1
  refine ⟨ov', ?_, e2⟩
  unfold f_X10_writeRow f_X5_write
  rw [hrow_ok ⟨y, hy⟩, ob_s, if_neg (show ¬ (1 : Int32) = 0 from by decide), jb_u, e1', ob_s, ob_s, e2.1]
theorem tq_out (tv : TV) {l : List Nat} {ov : OV} (h : LnQ l ov) (hl : l.length ≤ 48) (i x : Nat) (hx : l[i]? = some x) : f_X10_outputAt tv ov (nI i) = some (.inr (nI x)) := by
  have hlt := (List.getElem?_eq_some_iff.mp hx).1
  have hx128 := h.2.2 x (List.mem_of_getElem? hx)
  unfold f_X10_outputAt f_X5_hasSign
  rw [if_neg (show ¬ nI i < 0 from by rw [show (0 : Int32) = nI 0 from rfl, nI_ltI (by omega) (by omega)]; omega), h.1, if_neg (nI_ge hlt (by omega)), ob_s, if_neg (show ¬ (1 : Int32) = 0 from by decide)]
  unfold f_X5_signAt
  rw [if_pos (nIin (show i < 48 by omega) (by decide)), nI_clamp (by omega), h.2.1 i x hx, if_pos (nar_ch x hx128), ob_s, if_pos (nar_ch x hx128)]
end
