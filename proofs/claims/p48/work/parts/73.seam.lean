theorem sum_app : ∀ a b : List Nat, (a ++ b).sum = a.sum + b.sum
  | [], b => by simp
  | x :: a, b => by rw [List.cons_append, List.sum_cons, List.sum_cons, sum_app a b]; omega
def sumN (g : Nat → Nat) (n : Nat) : Nat := ((List.range n).map g).sum
theorem sumN_s (g : Nat → Nat) (n : Nat) : sumN g (n + 1) = sumN g n + g n := by
  unfold sumN
  rw [List.range_succ, List.map_append, sum_app]
  rfl
theorem sumN_cong {g g' : Nat → Nat} : ∀ n, (∀ d, d < n → g d = g' d) → sumN g n = sumN g' n
  | 0, _ => rfl
  | n + 1, h => by rw [sumN_s, sumN_s, sumN_cong n (fun d hd => h d (by omega)), h n (by omega)]
theorem sumN_0 : ∀ n, sumN (fun _ => 0) n = 0
  | 0 => rfl
  | n + 1 => by rw [sumN_s, sumN_0 n]
noncomputable def sgW (w : Nat → Int32) (c : Nat) (x3 : Int32) (d : Nat) : Nat := if dcd (pos w c ∧ Cn (SE w) c d) = true then (if x3 = 0 then 1 else vN (w (19 + 7 * d))) else 0
theorem sg_y {w : Nat → Int32} {c d : Nat} {x3 : Int32} (h : pos w c ∧ Cn (SE w) c d) : sgW w c x3 d = if x3 = 0 then 1 else vN (w (19 + 7 * d)) := if_pos (dcd_t.mpr h)
theorem sg_n {w : Nat → Int32} {c d : Nat} {x3 : Int32} (h : ¬ (pos w c ∧ Cn (SE w) c d)) : sgW w c x3 d = 0 := if_neg (fun q => h (dcd_t.mp q))
theorem hN {t : Nat} {w : Nat → Int32} (hi : InvW t w) (d : Nat) (hd : d < 30) : w (19 + 7 * d) = nI (vN (w (19 + 7 * d))) := by
  obtain ⟨n, hn, e⟩ := hi.h d hd
  rw [e, vN_nI (by omega)]
/-- the list of a search counts as the seam does -/
theorem seam_sum {t : Nat} {w : Nat → Int32} (hi : InvW t w) (c : Nat) (hp : pos w c) (l : List Nat) (hnd : l.Nodup) (hlt : ∀ x ∈ l, x < 30) (hl : ∀ x, x ∈ l ↔ Cn (SE w) c x) (x3 : Int32) : (l.map (fun d => if x3 = 0 then 1 else vN (w (19 + 7 * d)))).sum = sumN (sgW w c x3) 30 := by
  rw [sum_list hnd hlt]
  refine sumN_cong 30 (fun d hd => ?_)
  by_cases h : d ∈ l
  · rw [if_pos h, sg_y ⟨hp, (hl d).mp h⟩]
  · rw [if_neg h, sg_n (fun q => h ((hl d).mpr q.2))]
theorem sum_ones : ∀ l : List Nat, (l.map (fun _ => 1)).sum = l.length
  | [] => rfl
  | x :: l => by rw [List.map_cons, List.sum_cons, sum_ones l, List.length_cons]; omega
theorem q_size {q : QV} {w : Nat → Int32} {t : Nat} (hr : RelQ q w) (hi : InvW t w) (sv : SV) (c : Nat) (hc : c < 30) : ∃ sv', f_X8_sizeOfSeam sv q (nI c) = some (nI (sumN (sgW w c 0) 30), sv') := by
  obtain ⟨sv1, h1, h2⟩ := q_clear sv
  obtain ⟨c0, c1⟩ := q_collect hr hi (fun _ => False) (fun _ _ h _ => h) sv1 h2 c hc
  unfold f_X8_sizeOfSeam
  rw [h1, Option.bind_some]
  by_cases hp : pos w c
  · obtain ⟨sv2, l, k1, k2, k3⟩ := c1 (fun h => h) hp
    refine ⟨sv2, ?_⟩
    have hs := seam_sum hi c hp l k2.nd k2.lt k3 0
    rw [show (fun d => if (0 : Int32) = 0 then 1 else vN (w (19 + 7 * d))) = fun _ => 1 from funext fun d => if_pos rfl, sum_ones] at hs
    rw [k1, Option.bind_some, hs]
  · refine ⟨sv1, ?_⟩
    have hz : ∀ n, sumN (sgW w c 0) n = 0 := fun n => by
      rw [show sgW w c 0 = fun _ => 0 from funext fun d => sg_n (fun q => hp q.1)]
      exact sumN_0 n
    rw [c0 (Or.inr (Classical.byContradiction fun h => hp h)), Option.bind_some, hz]
    rfl
theorem q_volume {q : QV} {w : Nat → Int32} {t : Nat} (hr : RelQ q w) (hi : InvW t w) (sv : SV) (c : Nat) (hc : c < 30) : ∃ sv', f_X8_volumeOfSeam sv q (nI c) = some (nI (sumN (sgW w c 1) 30), sv') := by
  obtain ⟨sv1, h1, h2⟩ := q_clear sv
  obtain ⟨c0, c1⟩ := q_collect hr hi (fun _ => False) (fun _ _ h _ => h) sv1 h2 c hc
  unfold f_X8_volumeOfSeam
  rw [h1, Option.bind_some]
  by_cases hp : pos w c
  · obtain ⟨sv2, l, k1, k2, k3⟩ := c1 (fun h => h) hp
    refine ⟨sv2, ?_⟩
    have hs := seam_sum hi c hp l k2.nd k2.lt k3 1
    rw [show (fun d => if (1 : Int32) = 0 then 1 else vN (w (19 + 7 * d))) = fun d => vN (w (19 + 7 * d)) from funext fun d => if_neg (by decide)] at hs
    have hlen := k2.len
    have hl : jbL (fun s => f_X8_volumeOfSeam_L17 sv2 q (nI l.length) s.1 s.2) 5000 (nI ((l.take 0).map (fun d => vN (w (19 + 7 * d)))).sum, nI 0) = some (nI ((l.take l.length).map (fun d => vN (w (19 + 7 * d)))).sum, nI l.length) := by
      refine lpD (fun j => (nI ((l.take j).map (fun d => vN (w (19 + 7 * d)))).sum, nI j)) _ l.length (fun j hj => ?_) ?_ 5000 (by omega)
      · show f_X8_volumeOfSeam_L17 sv2 q (nI l.length) (nI ((l.take j).map (fun d => vN (w (19 + 7 * d)))).sum) (nI j) = some (Sum.inl (nI ((l.take (j + 1)).map (fun d => vN (w (19 + 7 * d)))).sum, nI (j + 1)))
        obtain ⟨x, hx⟩ : ∃ x, l[j]? = some x := ⟨l[j], List.getElem?_eq_getElem hj⟩
        have hx30 : x < 30 := k2.lt x (List.mem_of_getElem? hx)
        have htk : l.take (j + 1) = l.take j ++ [x] := by rw [List.take_succ, hx]; rfl
        unfold f_X8_volumeOfSeam_L17
        rw [if_neg (nI_ge hj (by omega)), if_neg (show ¬ (271 : Int32) ≤ nI j from nI_ge (a := j) (b := 271) (by omega) (by decide)), if_pos (nIin (show j < 271 by omega) (by decide)), nI_clamp (by omega), k2.qu j x hx, q_heightAt hr x hx30, Option.bind_some, hN hi x hx30]
        simp only [jb_u, nI_add, nI_1, htk, List.map_append, sum_app, List.map_cons, List.map_nil, List.sum_cons, List.sum_nil, Nat.add_zero]
      · show f_X8_volumeOfSeam_L17 sv2 q (nI l.length) _ (nI l.length) = _
        unfold f_X8_volumeOfSeam_L17
        rw [if_pos (Int32.le_refl _)]
    rw [List.take_length, hs] at hl
    have hl' : jbL (fun s : Int32 × Int32 => f_X8_volumeOfSeam_L17 sv2 q (nI l.length) s.1 s.2) 5000 ((0 : Int32), (0 : Int32)) = some (nI (sumN (sgW w c 1) 30), nI l.length) := hl
    simp only [k1, ob_s, jb_u, hl']
  · refine ⟨sv1, ?_⟩
    have hz : ∀ n, sumN (sgW w c 1) n = 0 := fun n => by
      rw [show sgW w c 1 = fun _ => 0 from funext fun d => sg_n (fun q => hp q.1)]
      exact sumN_0 n
    have hl : jbL (fun s : Int32 × Int32 => f_X8_volumeOfSeam_L17 sv1 q 0 s.1 s.2) 5000 ((0 : Int32), (0 : Int32)) = some ((0 : Int32), (0 : Int32)) := by
      (try simp only [ob_s, jb_u, ↓reduceIte, i10, n06, n16, n26, n36, n46, n56, n10])
      show (f_X8_volumeOfSeam_L17 sv1 q 0 0 0).bind _ = _
      unfold f_X8_volumeOfSeam_L17
      rw [if_pos (Int32.le_refl _)]
      rfl
    rw [c0 (Or.inr (Classical.byContradiction fun h => hp h)), hz]
    simp only [ob_s, jb_u, hl]
    rfl

