set_option maxHeartbeats 8000000 in
set_option maxRecDepth 100000 in
theorem law_loop {p : Program} (l : Launch) (hlt : l.stackTraces = false) {e : Env} {s : State} {mi : MethodId} {below : List Frame} {meth : Method} {c : Code} {g : GG} (hL : gS g 5 1 ≤ 260) (hr : meth.sig.returnType = ret) (hlocks : meth.locks = false)
    (hx : p.tables.exec = Jvm.exec) (hb : c.code = cL_law) (hml : c.maxLocals = 4) (hown : s.vm.findClass RL = some mi.cls) (hts : ∀ w ∈ wsL_law, w.before #[Value.ref (gS g 5 0)] s = true) (hK : va_K (gD g) vwCl (tyL g) s) (hZ : ST g (fun q : Nat => s.heap.size ≤ q) s s.heap) (hT : STR g s) (hA : ∀ q : Nat, s.heap.size ≤ q → (fun q : Nat => s.heap.size ≤ q) q)
    (ha : Nat → Nat → Nat) (W0 : va_W) : ∀ (n t : Nat), t + n = 8 → ∀ (qv : QV) (sv : SV) (ov : OV) (hv : HV) (svd : Option QV) (hd : Nat → Nat → Nat) (hs : Nat → Nat) (H : Heap) (locs : List Loc) (ls : Array Slot), Sx (200 + t) qv hv →
      va_P (gD g) vwCl (wT g ha ((svd).map (fun _ => hs 0), -1, -1) ++ wQ g (ha 1) qv ++ wS g (ha 3) sv ++ wO g (ha 6) ov ++ wH g (ha 4) hd hv ++ wSv g hs svd ++ W0) H → va_D (fun q : Nat => s.heap.size ≤ q) (wT g ha ((svd).map (fun _ => hs 0), -1, -1) ++ wQ g (ha 1) qv ++ wS g (ha 3) sv ++ wO g (ha 6) ov ++ wH g (ha 4) hd hv ++ wSv g hs svd ++ W0) → va_S (fun q : Nat => s.heap.size ≤ q) s.heap H locs → lv_has ls 4 [(2, .int (nI t)), (0, .ref (gS g 5 0)), (1, .ref (ha 0 0))] →
      W p l e room_1 s mi #[Value.ref (gS g 5 0)] below meth c H locs (1250 + 2400 * t) (27000 + 37000 * t) (lw_Z below #[Value.ref (gS g 5 0)] s) (F0 mi 15 ls []) := by
  have hEnd : ∀ (H : Heap) (locs : List Loc) (ls : Array Slot) (k n : Nat), k ≤ 600312 → n ≤ 7290914 → va_S (fun q : Nat => s.heap.size ≤ q) s.heap H locs → W p l e room_1 s mi #[Value.ref (gS g 5 0)] below meth c H locs k n (lw_Z below #[Value.ref (gS g 5 0)] s) (F0 mi 100 ls []) := by
    intro H locs ls k n hk hn hS
    refine lv_iconst (v := 1) hx hb dL_law_100 (by decide) ?_
    refine va_forget (fun q hq => hS.2.2 q hq) ?_
    refine W.widen (k := 600312) (n := 7290914) hk hn ?_
    exact lw_ret (d0 := s.drawn) (Drawn.sameBut.refl s.drawn lw_cs) hx hb hr hlocks dL_law_101
  intro n
  induction n with
  | zero =>
    intro t ht qv sv ov hv svd hd hs H locs ls hsx hP hD hS hl
    have e8 : t = 8 := by omega
    subst e8
    refine lv_iload_n hx hb dL_law_15 rfl (lv_at hl 0 rfl) ?_
    refine lv_bipush (v := 8) hx hb dL_law_16 (by decide) ?_
    refine lv_icmp_ge (tgt := 100) hx hb dL_law_18 (by decide) (fun _ => ?_) (fun hc => absurd (show (8 : Int32) ≤ nI 8 from Int32.le_refl _) hc)
    exact hEnd _ _ _ _ _ (by omega) (by omega) hS
  | succ n ih =>
    intro t ht qv sv ov hv svd hd hs H locs ls hsx hP hD hS hl
    obtain ⟨r1, q1, hv1, e1, hsx1⟩ := L_any (g := g) hL hsx (by omega) (300 + 6 * t) (by omega)
    have e1 : f_L_any g qv hv (300 + 6 * nI t) = some (r1, q1, hv1) := by rw [show (300 : Int32) + 6 * nI t = nI (300 + 6 * t) from by rw [show (300 : Int32) = nI 300 from rfl, show (6 : Int32) = nI 6 from rfl, nImul, nI_add]]; exact e1
    obtain ⟨hh1, w, hrw, hiw, hdw⟩ := id hsx1
    obtain ⟨k2, hk2, e2⟩ := L_pick g hL (400 + t) 10 (by omega) (by omega) (by omega)
    have e2 : f_L_pick g (400 + nI t) 10 = some (nI k2) := by rw [show (400 : Int32) + nI t = nI (400 + t) from by rw [show (400 : Int32) = nI 400 from rfl, nI_add]]; exact e2
    obtain ⟨f, hf1, hf2⟩ := labels hrw sv
    obtain ⟨sv3, e3⟩ := L_cells hrw hiw (by omega) f hf1 hf2 sv k2 hk2
    obtain ⟨sv4, e4⟩ := L_seams hrw hiw sv3
    obtain ⟨k5, hk5, e5⟩ := L_pick g hL (420 + t) 30 (by omega) (by omega) (by omega)
    have e5 : f_L_pick g (420 + nI t) 30 = some (nI k5) := by rw [show (420 : Int32) + nI t = nI (420 + t) from by rw [show (420 : Int32) = nI 420 from rfl, nI_add]]; exact e5
    obtain ⟨sv6, e6⟩ := L_paths hrw hiw sv4 k5 hk5
    obtain ⟨q7, sv7, ov7, hv7, svd7, e7, hrw7, hh7⟩ := L_winches hrw hiw (by omega) hh1 sv6 ov svd
    obtain ⟨ov8, e8⟩ := L_lines hrw7 hiw hdw ov7
    refine lv_iload_n hx hb dL_law_15 rfl (lv_at hl 0 rfl) ?_
    refine lv_bipush (v := 8) hx hb dL_law_16 (by decide) ?_
    refine lv_icmp_ge (tgt := 100) hx hb dL_law_18 (by decide) (fun _ => hEnd _ _ _ _ _ (by omega) (by omega) hS) (fun _ => ?_)
    refine lv_aload_n hx hb dL_law_21 rfl (lv_at hl 2 rfl) ?_
    refine lv_aload_n hx hb dL_law_22 rfl (lv_at hl 1 rfl) ?_
    refine lv_sipush (v := 300) hx hb dL_law_23 (by decide) ?_
    refine lv_bipush (v := 6) hx hb dL_law_26 (by decide) ?_
    refine lv_iload_n hx hb dL_law_28 rfl (lv_at hl 0 rfl) ?_
    refine lv_imul hx hb dL_law_29 ?_
    refine lv_iadd hx hb dL_law_30 ?_
    refine czs_i (As := [.ref (ha 0 0), .ref (gS g 5 0), .int (300 + 6 * nI t)]) (rest := []) (Wr := (wS g (ha 3) sv ++ wO g (ha 6) ov ++ wSv g hs svd ++ W0)) (Wn := fun x9 => (wT g ha ((svd).map (fun _ => hs 0), -1, -1) ++ wQ g (ha 1) q1 ++ wS g (ha 3) sv ++ wO g (ha 6) ov ++ wH g (ha 4) x9 hv1 ++ wSv g hs svd ++ W0)) ⟨hx, hb, hml, hown, hts⟩ (c_L_any l hlt g ha hd ((svd).map (fun _ => hs 0), -1, -1) qv hv (300 + 6 * nI t) _ e1) (va_cwS 3 hts gL_law_L_any rfl rfl rfl hd_L_any ⟨(Nat.le_of_ble_eq_true rfl), (Nat.le_of_ble_eq_true rfl)⟩) hK hZ hT hA hP hD hS hl.1 (wp_of fun f => by simp only [List.countP_append, List.countP_cons, List.countP_nil] <;> omega) (fun _ => (wp_of fun f => by simp only [List.countP_append, List.countP_cons, List.countP_nil] <;> omega)) rfl rfl (Nat.le_of_ble_eq_true rfl) ⟨(show 1250 + 2400 * t + 11 ≤ 600312 by omega), (show 27000 + 37000 * t + 244 ≤ 7290914 by omega)⟩ dL_law_31 (fun hd H locs _ hP hD hS => ?_)
    refine lv_istore_n (lv' := [(3, .int r1), (2, .int (nI t)), (0, .ref (gS g 5 0)), (1, .ref (ha 0 0))]) hx hb dL_law_34 rfl hl (by decide) rfl (fun ls hl => ?_)
    refine lv_aload_n hx hb dL_law_35 rfl (lv_at hl 3 rfl) ?_
    refine lv_aload_n hx hb dL_law_36 rfl (lv_at hl 2 rfl) ?_
    refine lv_sipush (v := 400) hx hb dL_law_37 (by decide) ?_
    refine lv_iload_n hx hb dL_law_40 rfl (lv_at hl 1 rfl) ?_
    refine lv_iadd hx hb dL_law_41 ?_
    refine lv_bipush (v := 10) hx hb dL_law_42 (by decide) ?_
    refine csn_i (As := [.ref (gS g 5 0), .int (400 + nI t), .int 10]) (rest := [.ref (ha 0 0)]) ⟨hx, hb, hml, hown, hts⟩ (c_L_pick l g (400 + nI t) 10 _ e2) (va_cwS 3 hts gL_law_L_pick rfl rfl rfl hd_L_pick ⟨(Nat.le_of_ble_eq_true rfl), (Nat.le_of_ble_eq_true rfl)⟩) hK hZ hT hA hP hD hS hl.1 rfl rfl (Nat.le_of_ble_eq_true rfl) ⟨(show 1250 + 2400 * t + 11 + 0 ≤ 600312 by omega), (show 27000 + 37000 * t + 244 + 0 ≤ 7290914 by omega)⟩ dL_law_44 (fun H locs hP hD hS => ?_)
    refine cps_i (As := [.ref (ha 0 0), .int (nI k2)]) (rest := []) (Wr := (wO g (ha 6) ov ++ wH g (ha 4) hd hv1 ++ wSv g hs svd ++ W0)) (Wn := (wT g ha ((svd).map (fun _ => hs 0), -1, -1) ++ wQ g (ha 1) q1 ++ wS g (ha 3) sv3 ++ wO g (ha 6) ov ++ wH g (ha 4) hd hv1 ++ wSv g hs svd ++ W0)) ⟨hx, hb, hml, hown, hts⟩ (c_L_areCellsRight l hlt g ha ((svd).map (fun _ => hs 0), -1, -1) q1 sv (nI k2) _ e3) (va_cwS 2 hts gL_law_L_areCellsRight rfl rfl rfl hd_L_areCellsRight ⟨(Nat.le_of_ble_eq_true rfl), (Nat.le_of_ble_eq_true rfl)⟩) hK hZ hT hA hP hD hS hl.1 (wp_of fun f => by simp only [List.countP_append, List.countP_cons, List.countP_nil] <;> omega) (wp_of fun f => by simp only [List.countP_append, List.countP_cons, List.countP_nil] <;> omega) rfl rfl (Nat.le_of_ble_eq_true rfl) ⟨(show 1250 + 2400 * t + 11 + 0 + 298 ≤ 600312 by omega), (show 27000 + 37000 * t + 244 + 0 + 1792 ≤ 7290914 by omega)⟩ dL_law_47 (fun H locs hP hD hS => ?_)
    refine lv_if_eq (tgt := 92) hx hb dL_law_50 (by decide) (fun hc => absurd (show (1 : Int32) = 0 from hc) (by decide)) (fun _ => ?_)
    refine lv_aload_n hx hb dL_law_53 rfl (lv_at hl 3 rfl) ?_
    refine cps_i (As := [.ref (ha 0 0)]) (rest := []) (Wr := (wO g (ha 6) ov ++ wH g (ha 4) hd hv1 ++ wSv g hs svd ++ W0)) (Wn := (wT g ha ((svd).map (fun _ => hs 0), -1, -1) ++ wQ g (ha 1) q1 ++ wS g (ha 3) sv4 ++ wO g (ha 6) ov ++ wH g (ha 4) hd hv1 ++ wSv g hs svd ++ W0)) ⟨hx, hb, hml, hown, hts⟩ (c_L_areSeamsRight l hlt g ha ((svd).map (fun _ => hs 0), -1, -1) q1 sv3 _ e4) (va_cwS 1 hts gL_law_L_areSeamsRight rfl rfl rfl hd_L_areSeamsRight ⟨(Nat.le_of_ble_eq_true rfl), (Nat.le_of_ble_eq_true rfl)⟩) hK hZ hT hA hP hD hS hl.1 (wp_of fun f => by simp only [List.countP_append, List.countP_cons, List.countP_nil] <;> omega) (wp_of fun f => by simp only [List.countP_append, List.countP_cons, List.countP_nil] <;> omega) rfl rfl (Nat.le_of_ble_eq_true rfl) ⟨(show 1250 + 2400 * t + 11 + 0 + 298 + 1 ≤ 600312 by omega), (show 27000 + 37000 * t + 244 + 0 + 1792 + 30 ≤ 7290914 by omega)⟩ dL_law_54 (fun H locs hP hD hS => ?_)
    refine lv_if_eq (tgt := 92) hx hb dL_law_57 (by decide) (fun hc => absurd (show (1 : Int32) = 0 from hc) (by decide)) (fun _ => ?_)
    refine lv_aload_n hx hb dL_law_60 rfl (lv_at hl 3 rfl) ?_
    refine lv_aload_n hx hb dL_law_61 rfl (lv_at hl 2 rfl) ?_
    refine lv_sipush (v := 420) hx hb dL_law_62 (by decide) ?_
    refine lv_iload_n hx hb dL_law_65 rfl (lv_at hl 1 rfl) ?_
    refine lv_iadd hx hb dL_law_66 ?_
    refine lv_bipush (v := 30) hx hb dL_law_67 (by decide) ?_
    refine csn_i (As := [.ref (gS g 5 0), .int (420 + nI t), .int 30]) (rest := [.ref (ha 0 0)]) ⟨hx, hb, hml, hown, hts⟩ (c_L_pick l g (420 + nI t) 30 _ e5) (va_cwS 3 hts gL_law_L_pick rfl rfl rfl hd_L_pick ⟨(Nat.le_of_ble_eq_true rfl), (Nat.le_of_ble_eq_true rfl)⟩) hK hZ hT hA hP hD hS hl.1 rfl rfl (Nat.le_of_ble_eq_true rfl) ⟨(show 1250 + 2400 * t + 11 + 0 + 298 + 1 + 0 ≤ 600312 by omega), (show 27000 + 37000 * t + 244 + 0 + 1792 + 30 + 0 ≤ 7290914 by omega)⟩ dL_law_69 (fun H locs hP hD hS => ?_)
    refine cps_i (As := [.ref (ha 0 0), .int (nI k5)]) (rest := []) (Wr := (wO g (ha 6) ov ++ wH g (ha 4) hd hv1 ++ wSv g hs svd ++ W0)) (Wn := (wT g ha ((svd).map (fun _ => hs 0), -1, -1) ++ wQ g (ha 1) q1 ++ wS g (ha 3) sv6 ++ wO g (ha 6) ov ++ wH g (ha 4) hd hv1 ++ wSv g hs svd ++ W0)) ⟨hx, hb, hml, hown, hts⟩ (c_L_arePathsRight l hlt g ha ((svd).map (fun _ => hs 0), -1, -1) q1 sv4 (nI k5) _ e6) (va_cwS 2 hts gL_law_L_arePathsRight rfl rfl rfl hd_L_arePathsRight ⟨(Nat.le_of_ble_eq_true rfl), (Nat.le_of_ble_eq_true rfl)⟩) hK hZ hT hA hP hD hS hl.1 (wp_of fun f => by simp only [List.countP_append, List.countP_cons, List.countP_nil] <;> omega) (wp_of fun f => by simp only [List.countP_append, List.countP_cons, List.countP_nil] <;> omega) rfl rfl (Nat.le_of_ble_eq_true rfl) ⟨(show 1250 + 2400 * t + 11 + 0 + 298 + 1 + 0 + 100 ≤ 600312 by omega), (show 27000 + 37000 * t + 244 + 0 + 1792 + 30 + 0 + 624 ≤ 7290914 by omega)⟩ dL_law_72 (fun H locs hP hD hS => ?_)
    refine lv_if_eq (tgt := 92) hx hb dL_law_75 (by decide) (fun hc => absurd (show (1 : Int32) = 0 from hc) (by decide)) (fun _ => ?_)
    refine lv_aload_n hx hb dL_law_78 rfl (lv_at hl 3 rfl) ?_
    refine czs_i (As := [.ref (ha 0 0)]) (rest := []) (Wr := W0) (Wn := fun z : (Nat → Nat → Nat) × (Nat → Nat) => (wT g ha ((svd7).map (fun _ => z.2 0), -1, -1) ++ wQ g (ha 1) q7 ++ wS g (ha 3) sv7 ++ wO g (ha 6) ov7 ++ wH g (ha 4) z.1 hv7 ++ wSv g z.2 svd7 ++ W0)) ⟨hx, hb, hml, hown, hts⟩ (c_L_areWinchesRight l hlt g ha hd hs (-1) (-1) q1 sv6 ov hv1 svd _ e7) (va_cwS 1 hts gL_law_L_areWinchesRight rfl rfl rfl hd_L_areWinchesRight ⟨(Nat.le_of_ble_eq_true rfl), (Nat.le_of_ble_eq_true rfl)⟩) hK hZ hT hA hP hD hS hl.1 (List.Perm.refl _) (fun z => List.perm_append_comm) rfl rfl (Nat.le_of_ble_eq_true rfl) ⟨(show 1250 + 2400 * t + 11 + 0 + 298 + 1 + 0 + 100 + 1973 ≤ 600312 by omega), (show 27000 + 37000 * t + 244 + 0 + 1792 + 30 + 0 + 624 + 34112 ≤ 7290914 by omega)⟩ dL_law_79 (fun z H locs _ hP hD hS => ?_)
    obtain ⟨hd7, hs7⟩ := z
    have hP : va_P (gD g) vwCl (wT g ha ((svd7).map (fun _ => hs7 0), -1, -1) ++ wQ g (ha 1) q7 ++ wS g (ha 3) sv7 ++ wO g (ha 6) ov7 ++ wH g (ha 4) hd7 hv7 ++ wSv g hs7 svd7 ++ W0) H := hP
    have hD : va_D (fun q : Nat => s.heap.size ≤ q) (wT g ha ((svd7).map (fun _ => hs7 0), -1, -1) ++ wQ g (ha 1) q7 ++ wS g (ha 3) sv7 ++ wO g (ha 6) ov7 ++ wH g (ha 4) hd7 hv7 ++ wSv g hs7 svd7 ++ W0) := hD
    refine lv_if_eq (tgt := 92) hx hb dL_law_82 (by decide) (fun hc => absurd (show (1 : Int32) = 0 from hc) (by decide)) (fun _ => ?_)
    refine lv_aload_n hx hb dL_law_85 rfl (lv_at hl 3 rfl) ?_
    refine cps_i (As := [.ref (ha 0 0)]) (rest := []) (Wr := (wS g (ha 3) sv7 ++ wH g (ha 4) hd7 hv7 ++ wSv g hs7 svd7 ++ W0)) (Wn := (wT g ha ((svd7).map (fun _ => hs7 0), -1, -1) ++ wQ g (ha 1) q7 ++ wS g (ha 3) sv7 ++ wO g (ha 6) ov8 ++ wH g (ha 4) hd7 hv7 ++ wSv g hs7 svd7 ++ W0)) ⟨hx, hb, hml, hown, hts⟩ (c_L_areLinesRight l hlt g ha ((svd7).map (fun _ => hs7 0), -1, -1) q7 ov7 _ e8) (va_cwS 1 hts gL_law_L_areLinesRight rfl rfl rfl hd_L_areLinesRight ⟨(Nat.le_of_ble_eq_true rfl), (Nat.le_of_ble_eq_true rfl)⟩) hK hZ hT hA hP hD hS hl.1 (wp_of fun f => by simp only [List.countP_append, List.countP_cons, List.countP_nil] <;> omega) (wp_of fun f => by simp only [List.countP_append, List.countP_cons, List.countP_nil] <;> omega) rfl rfl (Nat.le_of_ble_eq_true rfl) ⟨(show 1250 + 2400 * t + 11 + 0 + 298 + 1 + 0 + 100 + 1973 + 0 ≤ 600312 by omega), (show 27000 + 37000 * t + 244 + 0 + 1792 + 30 + 0 + 624 + 34112 + 0 ≤ 7290914 by omega)⟩ dL_law_86 (fun H locs hP hD hS => ?_)
    refine lv_if_ne (tgt := 94) hx hb dL_law_89 (by decide) (fun _ => ?_) (fun hc => absurd (show (1 : Int32) = 0 from hc) (by decide))
    refine lv_iinc (v := (nI t + 1)) (lv' := [(2, .int (nI t + 1)), (3, .int r1), (0, .ref (gS g 5 0)), (1, .ref (ha 0 0))]) hx hb dL_law_94 hl (k := 1) rfl rfl (by decide) rfl (fun ls hl => ?_)
    refine lv_goto (tgt := 15) hx hb dL_law_97 (by decide) ?_
    rw [nI_1] at hl
    refine W.widen (k := 1250 + 2400 * (t + 1)) (n := 27000 + 37000 * (t + 1)) (by omega) (by omega) ?_
    exact ih (t + 1) (by omega) q7 sv7 ov8 hv7 svd7 hd7 hs7 H locs ls ⟨hh7, w, hrw7, hiw, hdw⟩ hP hD hS (lv_sub hl [0, 2, 3] rfl)
set_option maxHeartbeats 8000000 in
set_option maxRecDepth 100000 in
theorem law_whole {p : Program} {e : Env} {s : State} {m : MethodId} {below : List Frame} {meth : Method} {c : Code} (l : Launch) (hlt : l.stackTraces = false) {g : GG} (hL : gS g 5 1 ≤ 260) (hr : meth.sig.returnType = ret) (hlocks : meth.locks = false)
    (hx : p.tables.exec = Jvm.exec) (hb : c.code = cL_law) (hml : c.maxLocals = 4) (hown : s.vm.findClass RL = some m.cls) (ht : ∀ w ∈ lw_tbl, w.before #[Value.ref (gS g 5 0)] s = true) (hts : ∀ w ∈ wsL_law, w.before #[Value.ref (gS g 5 0)] s = true) (hK : va_K (gD g) vwCl (tyL g) s) (hZ : ST g (fun q : Nat => s.heap.size ≤ q) s s.heap) (hT : STR g s) (hA : ∀ q : Nat, s.heap.size ≤ q → (fun q : Nat => s.heap.size ≤ q) q) :
    W p l e room_1 s m #[Value.ref (gS g 5 0)] below meth c s.heap [] 0 0 (lw_Z below #[Value.ref (gS g 5 0)] s) (entryFrame m ([Value.ref (gS g 5 0)] : List Value).toArray 4) := by
  have hS : va_S (fun q : Nat => s.heap.size ≤ q) s.heap s.heap [] := va_S.rf
  have hP : va_P (gD g) vwCl [] s.heap := fun k q h => by simp at h
  have hD : va_D (fun q : Nat => s.heap.size ≤ q) [] := ⟨fun i j p q h => by simp at h, fun k q h => by simp at h⟩
  have hl := lv_entry ([.ref (gS g 5 0)]) (n := 4) (Nat.le_of_ble_eq_true rfl)
  rw [lg_entry_eq]
  generalize (lg_sl ([.ref (gS g 5 0)]) ++ List.replicate (4 - (lg_sl ([.ref (gS g 5 0)])).length) Slot.unset).toArray = ls at hl ⊢
  have hl : lv_has ls 4 [(0, .ref (gS g 5 0))] := hl
  have kk0 := hts (.classLink RL 16 RX10) (by decide +kernel)
  have kk1 := hts (.instantiable RX10 9) (by decide +kernel)
  have kk2 := hts (.initialized RX10) (by decide +kernel)
  have kk8 := hts (.methodLink RL 212 yX10_init) (by decide +kernel)
  have kk9 := hts (.instanceMethod yX10_init) (by decide +kernel)
  obtain ⟨q9, hv9, e9, hsx⟩ := L_lay (g := g) hL x0_ok (by omega)
  refine va_new (ci := 9) (fs := [.null, .null, .null, .null, .null, .null, .null, .int 0, .int 0]) (C := RX10) (T := TX10) (N := 9) hx hb ht twC_X10 tyX10 tyX10_ok hown kk0 kk1 kk2 hK hP hD hS hA rfl (fun j hj => by rcases (show j = 0 ∨ j = 1 ∨ j = 2 ∨ j = 3 ∨ j = 4 ∨ j = 5 ∨ j = 6 ∨ j = 7 ∨ j = 8 by omega) with rfl | rfl | rfl | rfl | rfl | rfl | rfl | rfl | rfl <;> rfl) (Nat.le_of_ble_eq_true rfl) (Nat.le_of_ble_eq_true rfl) dL_law_0 (fun q0v H hP hD hS => ?_)
  have hP : va_P (gD g) vwCl [(q0v, .inr (9, [.null, .null, .null, .null, .null, .null, .null, .int 0, .int 0]))] H := hP
  have hD : va_D (fun q : Nat => s.heap.size ≤ q) [(q0v, .inr (9, [.null, .null, .null, .null, .null, .null, .null, .int 0, .int 0]))] := hD
  refine lv_dup hx hb dL_law_3 rfl ?_
  refine czI_v (As := []) (rest := [.ref q0v]) (Wr := []) (Wn := fun h : Nat → Nat → Nat => wT g h (none, -1, -1) ++ (wQ g (h 1) q0 ++ (wQ g (h 2) q0 ++ (wS g (h 3) sZero ++ (wH g (h 4) (fun _ _ => 0) ([], 0, 0) ++ ((wP g (h 5) (fun _ => 0, 0) ++ wL g (h 5 2) (0, 0, none)) ++ wO g (h 6) (fun _ => 0, 0))))))) ⟨hx, hb, hml, hown, hts⟩ (c_X10_init l g q0v q0 q0_init) (cwI 0 hts gL_law_X10_init rfl rfl rfl kk2 kk8 kk9 rfl (by decide +kernel) ⟨(Nat.le_of_ble_eq_true rfl), (Nat.le_of_ble_eq_true rfl)⟩) hK hZ hT hA hP hD hS hl.1 (List.Perm.refl _) (fun _ => List.Perm.refl _) rfl rfl (Nat.le_of_ble_eq_true rfl) ⟨(Nat.le_of_ble_eq_true rfl), (Nat.le_of_ble_eq_true rfl)⟩ dL_law_4 (fun ha H locs ho hP hD hS => ?_)
  rw [← ho]
  generalize hW0 : (wQ g (ha 2) q0 ++ (wP g (ha 5) (fun _ => 0, 0) ++ wL g (ha 5 2) (0, 0, none))) = W0
  have hw : (wT g ha (none, -1, -1) ++ (wQ g (ha 1) q0 ++ (wQ g (ha 2) q0 ++ (wS g (ha 3) sZero ++ (wH g (ha 4) (fun _ _ => 0) ([], 0, 0) ++ ((wP g (ha 5) (fun _ => 0, 0) ++ wL g (ha 5 2) (0, 0, none)) ++ wO g (ha 6) (fun _ => 0, 0))))))).Perm (wT g ha ((none : Option QV).map (fun _ => (fun _ : Nat => 0) 0), -1, -1) ++ wQ g (ha 1) q0 ++ wS g (ha 3) sZero ++ wO g (ha 6) (fun _ => 0, 0) ++ wH g (ha 4) (fun _ _ => 0) ([], 0, 0) ++ wSv g (fun _ => 0) none ++ W0) := by
    rw [← hW0, show ((none : Option QV).map (fun _ => (fun _ : Nat => 0) 0), (-1 : Int32), (-1 : Int32)) = ((none, -1, -1) : TV) from rfl, show wSv g (fun _ => 0) none = [] from rfl]
    exact (wp_of fun f => by simp only [List.countP_append, List.countP_cons, List.countP_nil] <;> omega)
  have hP := wp_P hw hP
  have hD := wp_D hw hD
  clear hw
  refine lv_astore_n (lv' := [(1, .ref (ha 0 0)), (0, .ref (gS g 5 0))]) hx hb dL_law_7 rfl hl (by decide) rfl (fun ls hl => ?_)
  refine lv_aload_n hx hb dL_law_8 rfl (lv_at hl 0 rfl) ?_
  refine lv_aload_n hx hb dL_law_9 rfl (lv_at hl 1 rfl) ?_
  refine czs_v (As := [.ref (ha 0 0), .ref (gS g 5 0)]) (rest := []) (Wr := (wS g (ha 3) sZero ++ wO g (ha 6) (fun _ => 0, 0) ++ wSv g (fun _ => 0) none ++ W0)) (Wn := fun x9 => (wT g ha ((none : Option QV).map (fun _ => (fun _ : Nat => 0) 0), -1, -1) ++ wQ g (ha 1) q9 ++ wS g (ha 3) sZero ++ wO g (ha 6) (fun _ => 0, 0) ++ wH g (ha 4) x9 hv9 ++ wSv g (fun _ => 0) none ++ W0)) ⟨hx, hb, hml, hown, hts⟩ (c_L_lay l hlt g ha (fun _ _ => 0) ((none : Option QV).map (fun _ => (fun _ : Nat => 0) 0), -1, -1) q0 ([], 0, 0) _ e9) (va_cwS 2 hts gL_law_L_lay rfl rfl rfl hd_L_lay ⟨(Nat.le_of_ble_eq_true rfl), (Nat.le_of_ble_eq_true rfl)⟩) hK hZ hT hA hP hD hS hl.1 (wp_of fun f => by simp only [List.countP_append, List.countP_cons, List.countP_nil] <;> omega) (fun _ => (wp_of fun f => by simp only [List.countP_append, List.countP_cons, List.countP_nil] <;> omega)) rfl rfl (Nat.le_of_ble_eq_true rfl) ⟨(Nat.le_of_ble_eq_true rfl), (Nat.le_of_ble_eq_true rfl)⟩ dL_law_10 (fun hd H locs _ hP hD hS => ?_)
  refine lv_iconst (v := 0) hx hb dL_law_13 (by decide) ?_
  refine lv_istore_n (lv' := [(2, .int 0), (1, .ref (ha 0 0)), (0, .ref (gS g 5 0))]) hx hb dL_law_14 rfl hl (by decide) rfl (fun ls hl => ?_)
  refine W.widen (k := 1250 + 2400 * 0) (n := 27000 + 37000 * 0) (Nat.le_of_ble_eq_true rfl) (Nat.le_of_ble_eq_true rfl) ?_
  exact law_loop l hlt hL hr hlocks hx hb hml hown hts hK hZ hT hA ha W0 8 0 (by omega) q9 sZero (fun _ => 0, 0) hv9 none hd (fun _ => 0) H locs ls (by simpa using hsx) hP hD hS (lv_sub hl [0, 2, 1] rfl)
theorem whole_start {p : Program} {e : Env} {s : State} {m : MethodId} {below : List Frame} {meth : Method} {c : Code} (l : Launch) (hflags : l.flags = flags0) {b L : Nat} {xs : Nat → Int32} (hL : L ≤ 260) (C0 : lw_At p s m meth c b L xs) : W p l e room_1 s m #[Value.ref b] below meth c s.heap [] 0 0 (lw_Z below #[Value.ref b] s) (entryFrame m ([Value.ref b] : List Value).toArray 4) := by
  obtain ⟨hx, hb, hr, hml, hown, ht, hX, hbl, hlocks, hgv⟩ := id C0
  have hlt : l.stackTraces = false := st_flags l hflags
  have hnw : ∀ w ∈ nwC, w.before #[Value.ref b] s = true := flat_of_before _ hgv
  obtain ⟨g, hb5, hL5, hK, hZ, hT⟩ := st_all (A := fun q : Nat => s.heap.size ≤ q) hX hbl ht hnw (fun a h => Nat.not_le.mpr h)
  clear C0 hX hgv hnw
  subst hb5
  subst hL5
  have hts : ∀ w ∈ wsL_law, w.before #[Value.ref (gS g 5 0)] s = true := fun w hw => ht w (wsL_law_in w hw)
  exact law_whole l hlt hL hr hlocks hx hb hml hown ht hts hK hZ hT (fun _ h => h)
