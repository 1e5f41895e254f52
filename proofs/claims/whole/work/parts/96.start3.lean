theorem sys0_eq (g : GG) (ha hd : Nat → Nat → Nat) (hs hm : Nat → Nat) (oa ob : Nat) (ol : Nat → Int64) (od : Nat → UInt64) : wSys g ha hd hs hm (0, 0, none) oa ob S0 ol od = wT g ha (none, -1, -1) ++ wQ g (ha 1) q0 ++ wQ g (ha 2) q0 ++ wS g (ha 3) sZero ++ wH g (ha 4) hd ([], 0, 0) ++ wP g (ha 5) (fun _ => 0, 0) ++ wL g (ha 5 2) (0, 0, none) ++ wO g (ha 6) (fun _ => 0, 0) ++ [] ++ wM g hm m0 ++ wOut g oa ol ++ wOud g ob od := rfl
set_option maxHeartbeats 8000000 in
set_option maxRecDepth 100000 in
theorem whole_start {p : Program} {e : Env} {s : State} {m : MethodId} {below : List Frame} {meth : Method} {c : Code} (l : Launch) (hflags : l.flags = flags0) {b L : Nat} {xs : Nat → Int32} (hL : L ≤ 2560) (C0 : lw_At p s m meth c b L xs) : W p l e room_1 s m #[Value.ref b] below meth c s.heap [] 0 0 (lw_Z below #[Value.ref b] s) (entryFrame m ([Value.ref b] : List Value).toArray 10) := by
  obtain ⟨hx, hb, hr, hml, hown, ht, hX, hbl, hlocks, hgv⟩ := id C0
  have hlt : l.stackTraces = false := st_flags l hflags
  have hnw : ∀ w ∈ nwC, w.before #[Value.ref b] s = true := flat_of_before _ hgv
  obtain ⟨g, hK, hZ, hT⟩ := st_all (A := fun q : Nat => s.heap.size ≤ q) ht hnw (fun a h => Nat.not_le.mpr h)
  have hts : ∀ w ∈ wsL_law, w.before #[Value.ref b] s = true := fun w hw => ht w (wsL_law_in w hw)
  have hA : ∀ q : Nat, s.heap.size ≤ q → (fun q : Nat => s.heap.size ≤ q) q := fun _ h => h
  have hbA : ¬ (fun q : Nat => s.heap.size ≤ q) b := Nat.not_le.mpr hbl
  have C9 : LwB p s m #[Value.ref b] c g (fun q : Nat => s.heap.size ≤ q) b L xs := ⟨hx, hb, hml, hown, hts, hK, hZ, hT, hA, hX, hbl, hbA⟩
  have hS : va_S (fun q : Nat => s.heap.size ≤ q) s.heap s.heap [] := va_S.rf
  have hP : va_P (gD g) vwCl [] s.heap := fun k q h => by simp at h
  have hD : va_D (fun q : Nat => s.heap.size ≤ q) [] := ⟨fun i j p q h => by simp at h, fun k q h => by simp at h⟩
  have hl := lv_entry ([.ref b]) (n := 10) (Nat.le_of_ble_eq_true rfl)
  rw [lg_entry_eq]
  generalize (lg_sl ([.ref b]) ++ List.replicate (10 - (lg_sl ([.ref b])).length) Slot.unset).toArray = ls at hl ⊢
  have hl : lv_has ls 10 [(0, .ref b)] := hl
  have kk0 := hts (.classLink RL 8 RX10) (by decide +kernel)
  have kk1 := hts (.instantiable RX10 9) (by decide +kernel)
  have kk2 := hts (.initialized RX10) (by decide +kernel)
  have kk3 := hts (.classLink RL 130 RX11) (by decide +kernel)
  have kk4 := hts (.instantiable RX11 19) (by decide +kernel)
  have kk5 := hts (.initialized RX11) (by decide +kernel)
  have kk6 := hts (.arrayClass .long) (by decide +kernel)
  have kk7 := hts (.arrayClass .double) (by decide +kernel)
  have kk8 := hts (.methodLink RL 129 yX10_init) (by decide +kernel)
  have kk9 := hts (.instanceMethod yX10_init) (by decide +kernel)
  have kk10 := hts (.methodLink RL 132 yX11_init) (by decide +kernel)
  have kk11 := hts (.instanceMethod yX11_init) (by decide +kernel)
  refine va_new (ci := 9) (fs := [.null, .null, .null, .null, .null, .null, .null, .int 0, .int 0]) (C := RX10) (T := TX10) (N := 9) hx hb ht twC_X10 tyX10 tyX10_ok hown kk0 kk1 kk2 hK hP hD hS hA rfl (fun j hj => by rcases (show j = 0 ∨ j = 1 ∨ j = 2 ∨ j = 3 ∨ j = 4 ∨ j = 5 ∨ j = 6 ∨ j = 7 ∨ j = 8 by omega) with rfl | rfl | rfl | rfl | rfl | rfl | rfl | rfl | rfl <;> rfl) (Nat.le_of_ble_eq_true rfl) (Nat.le_of_ble_eq_true rfl) dL_law_0 (fun q0v H hP hD hS => ?_)
  have hP : va_P (gD g) vwCl [(q0v, .inr (9, [.null, .null, .null, .null, .null, .null, .null, .int 0, .int 0]))] H := hP
  have hD : va_D (fun q : Nat => s.heap.size ≤ q) [(q0v, .inr (9, [.null, .null, .null, .null, .null, .null, .null, .int 0, .int 0]))] := hD
  refine lv_dup hx hb dL_law_3 rfl ?_
  refine czI_v (As := []) (rest := [.ref q0v]) (Wr := []) (Wn := fun h : Nat → Nat → Nat => wT g h (none, -1, -1) ++ (wQ g (h 1) q0 ++ (wQ g (h 2) q0 ++ (wS g (h 3) sZero ++ (wH g (h 4) (fun _ _ => 0) ([], 0, 0) ++ ((wP g (h 5) (fun _ => 0, 0) ++ wL g (h 5 2) (0, 0, none)) ++ wO g (h 6) (fun _ => 0, 0))))))) ⟨hx, hb, hml, hown, hts⟩ (c_X10_init l g q0v q0 q0_init) (cwI 0 hts gL_law_X10_init rfl rfl rfl kk2 kk8 kk9 rfl (by decide +kernel) ⟨(Nat.le_of_ble_eq_true rfl), (Nat.le_of_ble_eq_true rfl)⟩) hK hZ hT hA hP hD hS hl.1 (List.Perm.refl _) (fun _ => List.Perm.refl _) rfl rfl (Nat.le_of_ble_eq_true rfl) ⟨(Nat.le_of_ble_eq_true rfl), (Nat.le_of_ble_eq_true rfl)⟩ dL_law_4 (fun ha H locs ho hP hD hS => ?_)
  rw [← ho]
  generalize hW1 : (wT g ha (none, -1, -1) ++ (wQ g (ha 1) q0 ++ (wQ g (ha 2) q0 ++ (wS g (ha 3) sZero ++ (wH g (ha 4) (fun _ _ => 0) ([], 0, 0) ++ ((wP g (ha 5) (fun _ => 0, 0) ++ wL g (ha 5 2) (0, 0, none)) ++ wO g (ha 6) (fun _ => 0, 0))))))) = W1 at hP hD
  refine lv_astore_n (lv' := [(1, .ref (ha 0 0)), (0, .ref b)]) hx hb dL_law_7 rfl hl (by decide) rfl (fun ls hl => ?_)
  refine va_new (ci := 10) (fs := [.null, .null, .null, .null, .int 0, .int 0, .int 0, .int 0, .null, .null, .int 0, .null, .int 0, .int 0, .int 0, .int 0, .int 0, .int 0, .null]) (C := RX11) (T := TX11) (N := 19) hx hb ht twC_X11 tyX11 tyX11_ok hown kk3 kk4 kk5 hK hP hD hS hA rfl (fun j hj => by rcases (show j = 0 ∨ j = 1 ∨ j = 2 ∨ j = 3 ∨ j = 4 ∨ j = 5 ∨ j = 6 ∨ j = 7 ∨ j = 8 ∨ j = 9 ∨ j = 10 ∨ j = 11 ∨ j = 12 ∨ j = 13 ∨ j = 14 ∨ j = 15 ∨ j = 16 ∨ j = 17 ∨ j = 18 by omega) with rfl | rfl | rfl | rfl | rfl | rfl | rfl | rfl | rfl | rfl | rfl | rfl | rfl | rfl | rfl | rfl | rfl | rfl | rfl <;> rfl) (Nat.le_of_ble_eq_true rfl) (Nat.le_of_ble_eq_true rfl) dL_law_8 (fun q1v H hP hD hS => ?_)
  refine lv_dup hx hb dL_law_11 rfl ?_
  refine czI_v (As := []) (rest := [.ref q1v]) (Wc := [(q1v, .inr (10, [.null, .null, .null, .null, .int 0, .int 0, .int 0, .int 0, .null, .null, .int 0, .null, .int 0, .int 0, .int 0, .int 0, .int 0, .int 0, .null]))]) (Wr := W1) (Wn := fun h : Nat → Nat => W1 ++ wM g h m0) ⟨hx, hb, hml, hown, hts⟩ (c_X11_init l g q1v m0 m0_init) (cwI 0 hts gL_law_X11_init rfl rfl rfl kk5 kk10 kk11 rfl (by decide +kernel) ⟨(Nat.le_of_ble_eq_true rfl), (Nat.le_of_ble_eq_true rfl)⟩) hK hZ hT hA hP hD hS hl.1 List.perm_append_comm (fun _ => List.Perm.refl _) rfl rfl (Nat.le_of_ble_eq_true rfl) ⟨(Nat.le_of_ble_eq_true rfl), (Nat.le_of_ble_eq_true rfl)⟩ dL_law_12 (fun hm H locs ho hP hD hS => ?_)
  rw [← ho]
  refine lv_astore_n (lv' := [(2, .ref (hm 0)), (1, .ref (ha 0 0)), (0, .ref b)]) hx hb dL_law_15 rfl hl (by decide) rfl (fun ls hl => ?_)
  refine lv_iconst (v := 1) hx hb dL_law_16 (by decide) ?_
  refine va_newa (atype := .long) (a0 := (1, .inr (.inl (fun _ => 0)))) hx hb kk6 rfl hK hP hD hS hA (fun _ => rfl) (by decide) (show (1 : Int32).toNatClampNeg = 1 from by decide) (by decide) (Nat.le_of_ble_eq_true rfl) (Nat.le_of_ble_eq_true rfl) dL_law_17 (fun oa cAa H hK9 hP hD hS => ?_)
  have ecA := ar_id hK9 3 rfl
  rw [ecA] at hP hD
  refine lv_astore_n (lv' := [(3, .ref oa), (2, .ref (hm 0)), (1, .ref (ha 0 0)), (0, .ref b)]) hx hb dL_law_19 rfl hl (by decide) rfl (fun ls hl => ?_)
  refine lv_iconst (v := 1) hx hb dL_law_20 (by decide) ?_
  refine va_newa (atype := .double) (a0 := (1, .inr (.inr (.inr (.inl (fun _ => 0)))))) hx hb kk7 rfl hK hP hD hS hA (fun _ => rfl) (by decide) (show (1 : Int32).toNatClampNeg = 1 from by decide) (by decide) (Nat.le_of_ble_eq_true rfl) (Nat.le_of_ble_eq_true rfl) dL_law_21 (fun ob cAb H hK9 hP hD hS => ?_)
  have ecB := ar_id hK9 4 rfl
  rw [ecB] at hP hD
  refine lv_astore (lv' := [(4, .ref ob), (3, .ref oa), (2, .ref (hm 0)), (1, .ref (ha 0 0)), (0, .ref b)]) hx hb dL_law_23 hl (by decide) rfl (fun ls hl => ?_)
  refine lv_iconst (v := 0) hx hb dL_law_25 (by decide) ?_
  refine lv_istore (lv' := [(5, .int 0), (4, .ref ob), (3, .ref oa), (2, .ref (hm 0)), (1, .ref (ha 0 0)), (0, .ref b)]) hx hb dL_law_26 hl (by decide) rfl (fun ls hl => ?_)
  have hw : (W1 ++ wM g hm m0 ++ wOut g oa (fun _ => 0) ++ wOud g ob (fun _ => 0)).Perm (wSys g ha (fun _ _ => 0) (fun _ => 0) hm (0, 0, none) oa ob S0 (fun _ => 0) (fun _ => 0)) := by
    rw [sys0_eq, ← hW1]
    simp only [List.append_assoc, List.nil_append]
    exact List.Perm.refl _
  refine W.widen (k := 100 + 60 * 0) (n := 5000 + 700 * 0) (Nat.le_of_ble_eq_true rfl) (Nat.le_of_ble_eq_true rfl) ?_
  exact law_loop l hlt hL hr hlocks C9 RelS law_hB ha hm oa ob (L + 1) 0 (Nat.zero_le _) (by omega) 0 (fun _ _ => 0) (fun _ => 0) (0, 0, none) S0 (fun _ => 0) (fun _ => 0) H locs ls nI_0.symm ⟨0, by decide, rfl, fun _ => rfl⟩ S0_rel (wp_P hw hP) (wp_D hw hD) hS (lv_sub hl [0, 5, 4, 3, 2, 1] rfl)
