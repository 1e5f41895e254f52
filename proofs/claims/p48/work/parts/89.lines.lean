/-! ===== areLinesRight ===== -/
theorem ln_rd (tv : TV) {l : List Nat} {ov : OV} (h : LnQ l ov) (hl : l.length ≤ 48) {a b : List Nat} {x : Nat} (e : l = a ++ x :: b) : f_X10_outputAt tv ov (nI a.length) = some (.inr (nI x)) :=
  tq_out tv h hl a.length x (by rw [e, List.getElem?_append_right (Nat.le_refl _), Nat.sub_self]; rfl)
theorem len_1 (l : List Nat) (x : Nat) : (l ++ [x]).length = l.length + 1 := by rw [List.length_append]; rfl
section
variable {q : QV} {w : Nat → Int32} {t : Nat}
theorem ln_dots (hr : RelQ q w) {l : List Nat} {ov : OV} (h : LnQ l ov) (hl : l.length ≤ 48) (x2 x4 : Int32) (y k b : Nat) (hb31 : b < 2 ^ 31) (hy : y < 5) (hk : k < 6) (en : w (22 + 7 * (6 * y + k)) = nI b) : ∀ (r i f : Nat) (a z : List Nat), i + r = b → r < f → l = a ++ (List.replicate r 46 ++ z) →
    jbL (fun s : Int32 × Int32 × Int32 => f_L_areLinesRight_L188 q ov x2 (nI y) x4 (nI k) s.1 s.2.1 s.2.2) f ((1 : Int32), nI a.length, nI i) = some (1, nI (a.length + r), nI b) := by
  intro r
  induction r with
  | zero =>
    intro i f a z hi hf e
    obtain ⟨f, rfl⟩ : ∃ g, f = g + 1 := ⟨f - 1, by omega⟩
    have e9 : i = b := by omega
    subst e9
    refine jl_e ?_
    show f_L_areLinesRight_L188 q ov x2 (nI y) x4 (nI k) 1 (nI a.length) (nI i) = _
    unfold f_L_areLinesRight_L188
    rw [if_neg (show ¬ (1 : Int32) = 0 from by decide), tq_loose _ hr (AtC.rc hy hk), ob_s, jm_r, en, if_pos (Int32.le_refl _), Nat.add_zero]
  | succ r ih =>
    intro i f a z hi hf e
    obtain ⟨f, rfl⟩ : ∃ g, f = g + 1 := ⟨f - 1, by omega⟩
    have e1 : l = a ++ 46 :: (List.replicate r 46 ++ z) := by rw [e, List.replicate_succ]; rfl
    have hlen : a.length + r < 48 := by
      have := congrArg List.length e1
      rw [List.length_append, List.length_cons, List.length_append, List.length_replicate] at this
      omega
    have ihh := ih (i + 1) f (a ++ [46]) z (by omega) (by omega) (by rw [e1, List.append_assoc]; rfl)
    rw [len_1] at ihh
    have hb9 : ¬ nI b ≤ nI i := nI_ge (by omega) hb31
    rw [jl_s (s' := ((1 : Int32), nI (a.length + 1), nI (i + 1)))]
    · rw [ihh, show a.length + 1 + r = a.length + (r + 1) by omega]
    · show f_L_areLinesRight_L188 q ov x2 (nI y) x4 (nI k) 1 (nI a.length) (nI i) = _
      unfold f_L_areLinesRight_L188
      rw [if_neg (show ¬ (1 : Int32) = 0 from by decide), tq_loose _ hr (AtC.rc hy hk), ob_s, jm_r, en, if_neg hb9, ln_rd _ h hl e1, ob_s, jm_r, if_pos (show nI 46 = (46 : Int32) from rfl)]
      unfold f_L_areLinesRight_J223
      rw [nI_1, nI_1]
theorem rowT_tail (w : Nat → Int32) (n y : Nat) : ∀ m k, k + 1 + m = 6 → ∃ z, rowT w n y 6 = rowT w n y (k + 1) ++ z ∧ (z = [] ∨ ∃ z', z = 32 :: z')
  | 0, k, h => by
    have e : k = 5 := by omega
    subst e
    exact ⟨[], by rw [List.append_nil], Or.inl rfl⟩
  | m + 1, k, h => by
    obtain ⟨z, h1, -⟩ := rowT_tail w n y m (k + 1) (by omega)
    refine ⟨32 :: (cellT w n (6 * y + (k + 1)) ++ z), ?_, Or.inr ⟨_, rfl⟩⟩
    rw [h1]
    show (rowT w n y (k + 1) ++ ((if k + 1 = 0 then [] else [32]) ++ cellT w n (6 * y + (k + 1)))) ++ z = _
    rw [if_neg (by omega)]
    simp only [List.append_assoc, List.cons_append, List.nil_append]
/-- one column -/
theorem ln_col (hr : RelQ q w) (hi : InvW t w) (n y : Nat) (hy : y < 5) {ov : OV} (h : LnQ (rowT w n y 6) ov) (x2 : Int32) (k : Nat) (hk : k < 6) :
    ∃ b, ((hasW w n (6 * y + k) ∧ b = 1) ∨ (¬ hasW w n (6 * y + k) ∧ b = 0)) ∧ f_L_areLinesRight_L24 q ov (nI y) (nI (rowT w n y 6).length) 1 x2 (nI (rowT w n y k).length) (nI k) = some (.inl (1, x2 + b, nI (rowT w n y (k + 1)).length, nI (k + 1))) := by
  have hl48 : (rowT w n y 6).length ≤ 48 := rowT_len hi n y hy 6 (Nat.le_refl _)
  obtain ⟨z, hz, hz2⟩ := rowT_tail w n y (5 - k) k (by omega)
  have hc : 6 * y + k < 30 := by omega
  obtain ⟨hn9, h9, eh⟩ := hi.h _ hc
  obtain ⟨sn, sn3, es⟩ := hi.s _ hc
  obtain ⟨b, hb3, eb⟩ := hi.n _ hc
  have i0 : ¬ (1 : Int32) = 0 := by decide
  -- the text in pieces
  obtain ⟨A, hA⟩ : ∃ A, A = rowT w n y k ++ (if k = 0 then [] else [32]) := ⟨_, rfl⟩
  obtain ⟨E, hE⟩ : ∃ E, E = (if w (21 + 7 * (6 * y + k)) = 0 then ([] : List Nat) else [61]) := ⟨_, rfl⟩
  obtain ⟨Wc, hWc⟩ : ∃ Wc, Wc = (if dcd (hasW w n (6 * y + k)) = true then [94] else ([] : List Nat)) := ⟨_, rfl⟩
  have ecell : cellT w n (6 * y + k) = [48 + hn9, 97 + sn] ++ (E ++ (Wc ++ List.replicate b 46)) := by
    unfold cellT
    rw [eh, es, eb, vN_nI (by omega), vN_nI (by omega), vN_nI (by omega), hE, hWc]
  have er1 : rowT w n y (k + 1) = A ++ ([48 + hn9, 97 + sn] ++ (E ++ (Wc ++ List.replicate b 46))) := by
    show rowT w n y k ++ ((if k = 0 then [] else [32]) ++ cellT w n (6 * y + k)) = _
    rw [ecell, hA, List.append_assoc]
  have el : rowT w n y 6 = A ++ ([48 + hn9, 97 + sn] ++ (E ++ (Wc ++ (List.replicate b 46 ++ z)))) := by
    rw [hz, er1]
    simp only [List.append_assoc]
  -- the blank
  have s1 : f_L_areLinesRight_L24 q ov (nI y) (nI (rowT w n y 6).length) 1 x2 (nI (rowT w n y k).length) (nI k) = f_L_areLinesRight_J54 q ov x2 (nI y) (nI (rowT w n y 6).length) (nI A.length) (nI k) := by
    unfold f_L_areLinesRight_L24
    rw [if_neg (show ¬ (6 : Int32) ≤ nI k from nI_ge (a := k) (b := 6) hk (by decide)), if_neg i0]
    by_cases e0 : k = 0
    · subst e0
      rw [if_pos (show nI 0 = (0 : Int32) from rfl), hA, if_pos rfl, List.append_nil]
    · have h0 : ¬ nI k = 0 := by rw [show (0 : Int32) = nI 0 from rfl, nI_eq (by omega) (by omega)]; exact e0
      have e9 : rowT w n y 6 = rowT w n y k ++ 32 :: ([48 + hn9, 97 + sn] ++ (E ++ (Wc ++ (List.replicate b 46 ++ z)))) := by
        rw [el, hA, if_neg e0]
        simp only [List.append_assoc, List.cons_append, List.nil_append]
      rw [if_neg h0, ln_rd _ h hl48 e9, ob_s, jm_r, if_pos (show nI 32 = (32 : Int32) from rfl), hA, if_neg e0, len_1, nI_1]
  -- height and stone
  have s2 : f_L_areLinesRight_J54 q ov x2 (nI y) (nI (rowT w n y 6).length) (nI A.length) (nI k) = f_L_areLinesRight_J103 q ov x2 (nI y) (nI (rowT w n y 6).length) (nI (A ++ [48 + hn9, 97 + sn]).length) (nI k) 1 := by
    have e1 : rowT w n y 6 = A ++ (48 + hn9) :: ((97 + sn) :: (E ++ (Wc ++ (List.replicate b 46 ++ z)))) := el
    have e2 : rowT w n y 6 = (A ++ [48 + hn9]) ++ (97 + sn) :: (E ++ (Wc ++ (List.replicate b 46 ++ z))) := by rw [e1]; simp only [List.append_assoc, List.cons_append, List.nil_append]
    have r2 := ln_rd (none, -1, -1) h hl48 e2
    rw [len_1, ← nI_1] at r2
    unfold f_L_areLinesRight_J54
    rw [ln_rd _ h hl48 e1, ob_s, jm_r, tq_height _ hr (AtC.rc hy hk), ob_s, jm_r, eh, if_pos (show nI (48 + hn9) = 48 + nI hn9 from (nI_add 48 hn9).symm), r2, ob_s, jm_r, tq_stone _ hr (AtC.rc hy hk), ob_s, jm_r, es, if_pos (show nI (97 + sn) = 97 + nI sn from (nI_add 97 sn).symm), nI_1, nI_1, List.length_append]
    rfl
  -- the ledge
  have s3 : f_L_areLinesRight_J103 q ov x2 (nI y) (nI (rowT w n y 6).length) (nI (A ++ [48 + hn9, 97 + sn]).length) (nI k) 1 = f_L_areLinesRight_J137 q ov x2 (nI y) (nI (rowT w n y 6).length) (nI (A ++ [48 + hn9, 97 + sn] ++ E).length) (nI k) 1 := by
    unfold f_L_areLinesRight_J103
    rw [if_neg i0, tq_ledge _ hr hi (AtC.rc hy hk), ob_s, jm_r]
    by_cases e0 : w (21 + 7 * (6 * y + k)) = 0
    · rw [if_pos e0, hE, if_pos e0, List.append_nil]
      rfl
    · have e3 : rowT w n y 6 = (A ++ [48 + hn9, 97 + sn]) ++ 61 :: (Wc ++ (List.replicate b 46 ++ z)) := by rw [el, hE, if_neg e0]; simp only [List.append_assoc, List.cons_append, List.nil_append]
      rw [if_neg e0, ln_rd _ h hl48 e3, ob_s, jm_r, if_pos (show nI 61 = (61 : Int32) from rfl), hE, if_neg e0, len_1, nI_1]
      rfl
  -- the winch
  have hlB : (A ++ [48 + hn9, 97 + sn] ++ E).length + (Wc ++ (List.replicate b 46 ++ z)).length = (rowT w n y 6).length := by
    rw [el]
    simp only [List.length_append]
    omega
  obtain ⟨bw, hbw, hWl, s4⟩ : ∃ bw : Nat, ((hasW w n (6 * y + k) ∧ bw = 1) ∨ (¬ hasW w n (6 * y + k) ∧ bw = 0)) ∧ Wc.length = bw ∧ f_L_areLinesRight_J137 q ov x2 (nI y) (nI (rowT w n y 6).length) (nI (A ++ [48 + hn9, 97 + sn] ++ E).length) (nI k) 1 = f_L_areLinesRight_J165 q ov 1 x2 (nI y) (nI (rowT w n y 6).length) (nI (A ++ [48 + hn9, 97 + sn] ++ E).length) (nI k) (nI bw) := by
    by_cases hw : hasW w n (6 * y + k)
    · have eW : Wc = [94] := by rw [hWc, if_pos (dcd_t.mpr hw)]
      have e4 : rowT w n y 6 = (A ++ [48 + hn9, 97 + sn] ++ E) ++ 94 :: (List.replicate b 46 ++ z) := by rw [el, eW]; simp only [List.append_assoc, List.cons_append, List.nil_append]
      refine ⟨1, Or.inl ⟨hw, rfl⟩, by rw [eW]; rfl, ?_⟩
      unfold f_L_areLinesRight_J137
      have hlt : ¬ nI (rowT w n y 6).length ≤ nI (A ++ [48 + hn9, 97 + sn] ++ E).length := by
        rw [eW] at hlB
        have : (List.cons 94 ([] : List Nat) ++ (List.replicate b 46 ++ z)).length = (List.replicate b 46 ++ z).length + 1 := rfl
        exact nI_ge (by omega) (by omega)
      rw [if_neg i0, if_neg hlt, ln_rd _ h hl48 e4, ob_s, jm_r, if_pos (show nI 94 = (94 : Int32) from rfl)]
      rfl
    · have eW : Wc = [] := by rw [hWc, if_neg (fun q => hw (dcd_t.mp q))]
      refine ⟨0, Or.inr ⟨hw, rfl⟩, by rw [eW]; rfl, ?_⟩
      unfold f_L_areLinesRight_J137
      rw [if_neg i0]
      by_cases hle : nI (rowT w n y 6).length ≤ nI (A ++ [48 + hn9, 97 + sn] ++ E).length
      · rw [if_pos hle]
        rfl
      · rw [if_neg hle]
        obtain ⟨x, z', hx, hne⟩ : ∃ x z', List.replicate b 46 ++ z = x :: z' ∧ ¬ nI x = (94 : Int32) := by
          cases b with
          | zero =>
            rcases hz2 with e | ⟨z', e⟩
            · exfalso
              apply hle
              rw [eW, e] at hlB
              have : ([] ++ (List.replicate 0 46 ++ []) : List Nat).length = 0 := rfl
              rw [show (rowT w n y 6).length = (A ++ [48 + hn9, 97 + sn] ++ E).length by omega]
              exact Int32.le_refl _
            · exact ⟨32, z', by rw [e]; rfl, by decide⟩
          | succ b' => exact ⟨46, List.replicate b' 46 ++ z, by rw [List.replicate_succ]; rfl, by decide⟩
        have e4 : rowT w n y 6 = (A ++ [48 + hn9, 97 + sn] ++ E) ++ x :: z' := by rw [el, eW, hx]; simp only [List.append_assoc, List.cons_append, List.nil_append]
        rw [ln_rd _ h hl48 e4, ob_s, jm_r, if_neg hne]
        rfl
  -- the blocks
  refine ⟨nI bw, ?_, ?_⟩
  · rcases hbw with ⟨h1, rfl⟩ | ⟨h1, rfl⟩
    · exact Or.inl ⟨h1, rfl⟩
    · exact Or.inr ⟨h1, rfl⟩
  · have ht : f_L_told (nI bw) = some (nI bw) := by rcases hbw with ⟨h1, rfl⟩ | ⟨h1, rfl⟩ <;> rfl
    have hd := ln_dots hr h hl48 (x2 + nI bw) (nI (rowT w n y 6).length) y k b (by omega) hy hk eb b 0 5000 (A ++ [48 + hn9, 97 + sn] ++ E ++ Wc) z (by omega) (by omega) (by rw [el]; simp only [List.append_assoc, List.cons_append, List.nil_append])
    have eA : (A ++ [48 + hn9, 97 + sn] ++ E ++ Wc).length = (A ++ [48 + hn9, 97 + sn] ++ E).length + bw := by rw [List.length_append, hWl]
    rw [eA] at hd
    have hd' : jbL (fun s : Int32 × Int32 × Int32 => f_L_areLinesRight_L188 q ov (x2 + nI bw) (nI y) (nI (rowT w n y 6).length) (nI k) s.1 s.2.1 s.2.2) 5000 ((1 : Int32), nI ((A ++ [48 + hn9, 97 + sn] ++ E).length + bw), (0 : Int32)) = some (1, nI ((A ++ [48 + hn9, 97 + sn] ++ E).length + bw + b), nI b) := hd
    rw [s1, s2, s3, s4]
    unfold f_L_areLinesRight_J165
    rw [ht, ob_s, jb_u, ob_s, jb_u, nI_add, hd', ob_s, nI_1]
    have e5 : (A ++ [48 + hn9, 97 + sn] ++ E).length + bw + b = (rowT w n y (k + 1)).length := by
      rw [er1]
      simp only [List.length_append, List.length_replicate]
      omega
    rw [e5]
theorem ln_row (hr : RelQ q w) (hi : InvW t w) (n y : Nat) (hy : y < 5) {ov : OV} (h : LnQ (rowT w n y 6) ov) :
    jbL (fun s : Int32 × Int32 × Int32 × Int32 => f_L_areLinesRight_L24 q ov (nI y) (nI (rowT w n y 6).length) s.1 s.2.1 s.2.2.1 s.2.2.2) 5000 ((1 : Int32), nI (cnt (hasW w n) (6 * y)), (0 : Int32), (0 : Int32)) = some (1, nI (cnt (hasW w n) (6 * (y + 1))), nI (rowT w n y 6).length, nI 6) := by
  have hl : jbL (fun s : Int32 × Int32 × Int32 × Int32 => f_L_areLinesRight_L24 q ov (nI y) (nI (rowT w n y 6).length) s.1 s.2.1 s.2.2.1 s.2.2.2) 5000 ((1 : Int32), nI (cnt (hasW w n) (6 * y + 0)), nI (rowT w n y 0).length, nI 0) = some (1, nI (cnt (hasW w n) (6 * y + 6)), nI (rowT w n y 6).length, nI 6) := by
    refine lpD (fun k => ((1 : Int32), nI (cnt (hasW w n) (6 * y + k)), nI (rowT w n y k).length, nI k)) _ 6 (fun k hk => ?_) ?_ 5000 (by decide)
    · show f_L_areLinesRight_L24 q ov (nI y) (nI (rowT w n y 6).length) 1 (nI (cnt (hasW w n) (6 * y + k))) (nI (rowT w n y k).length) (nI k) = _
      obtain ⟨b, hb, e⟩ := ln_col hr hi n y hy h (nI (cnt (hasW w n) (6 * y + k))) k hk
      rw [e]
      have e2 : nI (cnt (hasW w n) (6 * y + k)) + b = nI (cnt (hasW w n) (6 * y + (k + 1))) := by
        rcases hb with ⟨h1, rfl⟩ | ⟨h1, rfl⟩
        · rw [show 6 * y + (k + 1) = 6 * y + k + 1 by omega, cnt_yes h1, nI_1]
        · rw [show 6 * y + (k + 1) = 6 * y + k + 1 by omega, cnt_no h1, Int32.add_zero]
      rw [e2]
    · show f_L_areLinesRight_L24 q ov (nI y) (nI (rowT w n y 6).length) 1 _ _ (nI 6) = _
      unfold f_L_areLinesRight_L24
      rw [if_pos (show (6 : Int32) ≤ nI 6 from Int32.le_refl _)]
  rw [show 6 * (y + 1) = 6 * y + 6 by omega]
  exact hl
/-- the winches stand at different cells -/
def WD (w : Nat → Int32) : Prop := ∀ n i j, n ≤ 3 → w 5 = nI n → i < n → j < n → w (10 + 3 * i) = w (10 + 3 * j) → i = j
theorem winch_cnt (hi : InvW t w) (hd : WD w) (n : Nat) (hn : n ≤ 3) (en : w 5 = nI n) : cnt (hasW w n) 30 = n := by
  have hv : ∀ i, i < n → w (10 + 3 * i) = nI (vN (w (10 + 3 * i))) ∧ vN (w (10 + 3 * i)) < 30 := fun i h => by
    obtain ⟨x, hx, ex⟩ := hi.wc i (by omega)
    rw [ex, vN_nI (by omega)]
    exact ⟨rfl, hx⟩
  have e : cnt (hasW w n) 30 = cnt (fun c => c ∈ (List.range n).map (fun i => vN (w (10 + 3 * i)))) 30 := cnt_cong 30 fun c hc => by
    constructor
    · rintro ⟨i, h1, h2⟩
      refine List.mem_map.mpr ⟨i, List.mem_range.mpr h1, ?_⟩
      rw [h2, vN_nI (by omega)]
    · intro h
      obtain ⟨i, h1, h2⟩ := List.mem_map.mp h
      have h1 := List.mem_range.mp h1
      exact ⟨i, h1, by rw [(hv i h1).1, h2]⟩
  rw [e, cnt_list]
  · rw [List.length_map, List.length_range]
  · refine nd_map _ List.nodup_range fun x hx y hy h => ?_
    have hx := List.mem_range.mp hx
    have hy := List.mem_range.mp hy
    exact hd n x y hn en hx hy (by rw [(hv x hx).1, (hv y hy).1, h])
  · intro x hx
    obtain ⟨i, h1, h2⟩ := List.mem_map.mp hx
    rw [← h2]
    exact (hv i (List.mem_range.mp h1)).2
/-- areLinesRight answers 1 -/
theorem L_lines (hr : RelQ q w) (hi : InvW t w) (hd : WD w) (ov : OV) : ∃ ov', f_L_areLinesRight q ov = some (1, ov') := by
  obtain ⟨n, hn, en⟩ := hi.nw
  obtain ⟨r, h1, ov', rfl⟩ := lpL (body := fun s : Int32 × Int32 × Int32 × OV => f_L_areLinesRight_L6 q s.1 s.2.1 s.2.2.1 s.2.2.2)
    (fun y s => ∃ ov', s = ((1 : Int32), nI (cnt (hasW w n) (6 * y)), nI y, ov')) (fun r => ∃ ov', r = ((1 : Int32), nI (cnt (hasW w n) 30), nI 5, ov')) 5
    (fun y s hy ⟨ov1, e⟩ => by
      subst e
      left
      obtain ⟨ov2, e1, e2⟩ := tq_writeRow (none, -1, -1) hr hi n y hn en hy ov1
      refine ⟨((1 : Int32), nI (cnt (hasW w n) (6 * (y + 1))), nI (y + 1), ov2), ?_, ov2, rfl⟩
      show f_L_areLinesRight_L6 q 1 (nI (cnt (hasW w n) (6 * y))) (nI y) ov1 = _
      unfold f_L_areLinesRight_L6
      rw [if_neg (show ¬ (5 : Int32) ≤ nI y from nI_ge (a := y) (b := 5) hy (by decide)), e1, ob_s, jm_r, jb_u, ln_row hr hi n y hy e2, ob_s, if_neg (show ¬ (1 : Int32) = 0 from by decide), if_pos rfl]
      unfold f_L_areLinesRight_J252
      rw [nI_1])
    (fun s ⟨ov1, e⟩ => by
      subst e
      refine ⟨_, ?_, ov1, rfl⟩
      show f_L_areLinesRight_L6 q _ _ (nI 5) ov1 = _
      unfold f_L_areLinesRight_L6
      rw [if_pos (show (5 : Int32) ≤ nI 5 from Int32.le_refl _)]) 5000 0 ((1 : Int32), (0 : Int32), (0 : Int32), ov) (by omega) (by omega) ⟨ov, rfl⟩
  refine ⟨ov', ?_⟩
  unfold f_L_areLinesRight
  rw [h1, ob_s, if_neg (show ¬ (1 : Int32) = 0 from by decide), tq_winches _ hr, ob_s, winch_cnt hi hd n hn en, if_pos en.symm]
end
