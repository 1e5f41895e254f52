def wSv (g : GG) (hs : Nat → Nat) (sv : Option QV) : va_W := match sv with | none => [] | some q => wQ g hs q
def f_X10_save (qv : QV) (sv : Option QV) : Option QV :=
  match sv with
  | none => f_X7_init.bind fun q => f_X7_copyFrom q qv
  | some q => f_X7_copyFrom q qv
def rm_X10_save : Room := { frames := 2, cells := 10, slots := 238, locals := 62 }
theorem hd_X10_save : yX10_save.cls = RX10 ∧ yX10_save.cls ≠ "java/lang/invoke/MethodHandle" ∧ yX10_save.cls ≠ "java/lang/invoke/VarHandle" ∧ (parseMethodDescriptor yX10_save.desc).map (fun d => d.parameters.length) = some 0 := by decide +kernel
set_option maxHeartbeats 4000000 in
set_option maxRecDepth 100000 in
theorem c_X10_save (l : Launch) (g : GG) (ha : Nat → Nat → Nat) (ep fc : Int32) (qv : QV) (hs : Nat → Nat) (sv : Option QV) (out : QV) (hf : f_X10_save qv sv = some out) : MzV (RT := Nat → Nat) l yX10_save wsX10_save rm_X10_save g (wT g ha (sv.map (fun _ => hs 0), ep, fc) ++ wQ g (ha 1) qv ++ wSv g hs sv) [.ref (ha 0 0)] (fun _ => True) (fun h' => wT g ha (some (h' 0), ep, fc) ++ wQ g (ha 1) qv ++ wQ g h' out) 10 238 := by
  refine fun sz => mt_of (cc := cX10_save) (maxL := 1) (ret := none) (own := RX10) (Qc := fun A => va_Qv (fun _ : Nat → Nat => True) (fun h' t => PosM g A (wT g ha (some (h' 0), ep, fc) ++ wQ g (ha 1) qv ++ wQ g h' out) t) A) (by decide +kernel) rfl rfl (Nat.le_of_ble_eq_true rfl) ?_ sz
  intro p e s mi below meth c A ls hB hnm hrt hlk hP hD hl
  obtain ⟨hx, hb, hml, hown, hts, hK, hZ, hT, hA, -⟩ := hB
  have hS : va_S A s.heap s.heap [] := va_S.rf
  have hl : lv_has ls 1 [(0, .ref (ha 0 0))] := hl
  have hinX10 : ∀ w ∈ wsX100, w ∈ wsX10_save := by decide +kernel
  have hinX7 : ∀ w ∈ wsX70, w ∈ wsX10_save := by decide +kernel
  have kk0 := hts (.fieldLink RX10 47 "TerraceQuarry" "saved" "LTerraceQuarry$Quarry;") (by decide +kernel)
  have kk1 := hts (.classLink RX10 7 RX7) (by decide +kernel)
  have kk2 := hts (.instantiable RX7 15) (by decide +kernel)
  have kk3 := hts (.initialized RX7) (by decide +kernel)
  have kk4 := hts (.methodLink RX10 9 yX7_init) (by decide +kernel)
  have kk5 := hts (.instanceMethod yX7_init) (by decide +kernel)
  have kk6 := hts (.fieldLink RX10 10 "TerraceQuarry" "quarry" "LTerraceQuarry$Quarry;") (by decide +kernel)
  cases sv with
  | none =>
    unfold f_X10_save at hf
    obtain ⟨qi, hg1, hf⟩ := jbB_e hf
    have hP : va_P (gD g) vwCl ([((ha 0 0), .inr (9, [.ref (ha 1 0), .ref (ha 2 0), .ref (ha 3 0), .ref (ha 4 0), .ref (ha 5 0), .ref (ha 6 0), .null, .int ep, .int fc]))] ++ wQ g (ha 1) qv) s.heap := by rw [show wSv g hs none = [] from rfl, List.append_nil] at hP; exact hP
    have hD : va_D A ([((ha 0 0), .inr (9, [.ref (ha 1 0), .ref (ha 2 0), .ref (ha 3 0), .ref (ha 4 0), .ref (ha 5 0), .ref (ha 6 0), .null, .int ep, .int fc]))] ++ wQ g (ha 1) qv) := by rw [show wSv g hs none = [] from rfl, List.append_nil] at hD; exact hD
    refine lv_aload_n hx hb dX10_save_0 rfl (lv_at hl 0 rfl) ?_
    refine va_get (D := gD g) (ci := 9) (v := .null) (C := RX10) (T := TX10) (N := 9) hx hb hts hinX10 hown hK hP 0 rfl rfl 6 (by decide) kk0 (fun _ h9 => h9) rfl dX10_save_1 ?_
    refine lv_ifnonnullN hx hb dX10_save_4 ?_
    refine lv_aload_n hx hb dX10_save_7 rfl (lv_at hl 0 rfl) ?_
    refine va_new (ci := 7) (fs := [.null, .null, .null, .null, .null, .null, .null, .null, .null, .int 0, .int 0, .int 0, .int 0, .int 0, .long 0]) (C := RX7) (T := TX7) (N := 15) hx hb hts hinX7 tyX7 tyX7_ok hown kk1 kk2 kk3 hK hP hD hS hA rfl (fun j hj => by rcases (show j = 0 ∨ j = 1 ∨ j = 2 ∨ j = 3 ∨ j = 4 ∨ j = 5 ∨ j = 6 ∨ j = 7 ∨ j = 8 ∨ j = 9 ∨ j = 10 ∨ j = 11 ∨ j = 12 ∨ j = 13 ∨ j = 14 by omega) with rfl | rfl | rfl | rfl | rfl | rfl | rfl | rfl | rfl | rfl | rfl | rfl | rfl | rfl | rfl <;> rfl) (Nat.le_of_ble_eq_true rfl) (Nat.le_of_ble_eq_true rfl) dX10_save_8 (fun q1 H hP hD hS => ?_)
    have hP : va_P (gD g) vwCl ([((ha 0 0), .inr (9, [.ref (ha 1 0), .ref (ha 2 0), .ref (ha 3 0), .ref (ha 4 0), .ref (ha 5 0), .ref (ha 6 0), .null, .int ep, .int fc]))] ++ wQ g (ha 1) qv ++ [(q1, .inr (7, [.null, .null, .null, .null, .null, .null, .null, .null, .null, .int 0, .int 0, .int 0, .int 0, .int 0, .long 0]))]) H := hP
    have hD : va_D A ([((ha 0 0), .inr (9, [.ref (ha 1 0), .ref (ha 2 0), .ref (ha 3 0), .ref (ha 4 0), .ref (ha 5 0), .ref (ha 6 0), .null, .int ep, .int fc]))] ++ wQ g (ha 1) qv ++ [(q1, .inr (7, [.null, .null, .null, .null, .null, .null, .null, .null, .null, .int 0, .int 0, .int 0, .int 0, .int 0, .long 0]))]) := hD
    refine lv_dup hx hb dX10_save_11 rfl ?_
    refine czI_v (As := []) (rest := [.ref q1, .ref (ha 0 0)]) (Wr := ([((ha 0 0), .inr (9, [.ref (ha 1 0), .ref (ha 2 0), .ref (ha 3 0), .ref (ha 4 0), .ref (ha 5 0), .ref (ha 6 0), .null, .int ep, .int fc]))] ++ wQ g (ha 1) qv)) (Wn := fun u => ([((ha 0 0), .inr (9, [.ref (ha 1 0), .ref (ha 2 0), .ref (ha 3 0), .ref (ha 4 0), .ref (ha 5 0), .ref (ha 6 0), .null, .int ep, .int fc]))] ++ wQ g (ha 1) qv ++ wQ g u qi)) ⟨hx, hb, hml, hown, hts⟩ (c_X7_init l g q1 _ hg1) (cwI 0 hts gX10_save_X7_init rfl rfl rfl kk3 kk4 kk5 rfl (by decide +kernel) ⟨(Nat.le_of_ble_eq_true rfl), (Nat.le_of_ble_eq_true rfl)⟩) hK hZ hT hA hP hD hS hl.1 (wp_of fun f => by simp only [List.countP_append, List.countP_cons, List.countP_nil] <;> omega) (fun _ => (wp_of fun f => by simp only [List.countP_append, List.countP_cons, List.countP_nil] <;> omega)) rfl rfl (Nat.le_of_ble_eq_true rfl) ⟨(Nat.le_of_ble_eq_true rfl), (Nat.le_of_ble_eq_true rfl)⟩ dX10_save_12 (fun u H locs ho hP hD hS => ?_)
    rw [← ho]
    refine va_put (D := gD g) (ci := 9) (v := .ref (u 0)) (ty := .object "TerraceQuarry$Quarry") (C := RX10) (T := TX10) (N := 9) hx hb hts hinX10 tyX10 tyX10_ok nmX10 hown hK hP hD hS 0 rfl rfl 6 (by decide) kk0 (fun _ h9 => h9) rfl (tyX10_ok 6 (by decide)) rfl rfl (Nat.le_of_ble_eq_true rfl) dX10_save_15 (fun H locs hP hD hS => ?_)
    have hP : va_P (gD g) vwCl ([((ha 0 0), .inr (9, [.ref (ha 1 0), .ref (ha 2 0), .ref (ha 3 0), .ref (ha 4 0), .ref (ha 5 0), .ref (ha 6 0), .ref (u 0), .int ep, .int fc]))] ++ wQ g (ha 1) qv ++ wQ g u qi) H := hP
    have hD : va_D A ([((ha 0 0), .inr (9, [.ref (ha 1 0), .ref (ha 2 0), .ref (ha 3 0), .ref (ha 4 0), .ref (ha 5 0), .ref (ha 6 0), .ref (u 0), .int ep, .int fc]))] ++ wQ g (ha 1) qv ++ wQ g u qi) := hD
    refine lv_aload_n hx hb dX10_save_18 rfl (lv_at hl 0 rfl) ?_
    refine va_get (D := gD g) (ci := 9) (v := .ref (u 0)) (C := RX10) (T := TX10) (N := 9) hx hb hts hinX10 hown hK hP 0 rfl rfl 6 (by decide) kk0 (fun _ h9 => h9) rfl dX10_save_19 ?_
    refine lv_aload_n hx hb dX10_save_22 rfl (lv_at hl 0 rfl) ?_
    refine va_get (D := gD g) (ci := 9) (v := .ref (ha 1 0)) (C := RX10) (T := TX10) (N := 9) hx hb hts hinX10 hown hK hP 0 rfl rfl 0 (by decide) kk6 (fun _ h9 => h9) rfl dX10_save_23 ?_
    have hPr : va_P (gD g) vwCl (wQ g u qi ++ ([((ha 0 0), .inr (9, [.ref (ha 1 0), .ref (ha 2 0), .ref (ha 3 0), .ref (ha 4 0), .ref (ha 5 0), .ref (ha 6 0), .ref (u 0), .int ep, .int fc]))] ++ wQ g (ha 1) qv)) _ := wp_P (wp_of fun f => by simp only [List.countP_append, List.countP_cons, List.countP_nil] <;> omega) hP
    refine cpv_v (As := [.ref (ha 1 0)]) (rest := []) (Wr := [((ha 0 0), .inr (9, [.ref (ha 1 0), .ref (ha 2 0), .ref (ha 3 0), .ref (ha 4 0), .ref (ha 5 0), .ref (ha 6 0), .ref (u 0), .int ep, .int fc]))]) (Wn := ([((ha 0 0), .inr (9, [.ref (ha 1 0), .ref (ha 2 0), .ref (ha 3 0), .ref (ha 4 0), .ref (ha 5 0), .ref (ha 6 0), .ref (u 0), .int ep, .int fc]))] ++ wQ g (ha 1) qv ++ wQ g u out)) ⟨hx, hb, hml, hown, hts⟩ (c_X7_copyFrom l g u qi (ha 1) qv out hf) (cwV 1 hts gX10_save_X7_copyFrom rfl rfl rfl hd_X7_copyFrom ⟨(Nat.le_of_ble_eq_true rfl), (Nat.le_of_ble_eq_true rfl)⟩) hK hZ hT hA hP hD hS hl.1 (va_recv hK hPr (ci := 7) (q0 := 0) rfl rfl) (wp_of fun f => by simp only [List.countP_append, List.countP_cons, List.countP_nil] <;> omega) (wp_of fun f => by simp only [List.countP_append, List.countP_cons, List.countP_nil] <;> omega) rfl rfl (Nat.le_of_ble_eq_true rfl) ⟨(Nat.le_of_ble_eq_true rfl), (Nat.le_of_ble_eq_true rfl)⟩ dX10_save_26 (fun H locs hP hD hS => ?_)
    exact rz_v (RT := Nat → Nat) (PR := fun _ => True) (W1 := fun h' => wT g ha (some (h' 0), ep, fc) ++ wQ g (ha 1) qv ++ wQ g h' out) u trivial hx hb hrt hlk hK hP hD hS (Nat.le_of_ble_eq_true rfl) (Nat.le_of_ble_eq_true rfl) dX10_save_29
  | some q0 =>
    have hf : f_X7_copyFrom q0 qv = some out := hf
    have hP : va_P (gD g) vwCl ([((ha 0 0), .inr (9, [.ref (ha 1 0), .ref (ha 2 0), .ref (ha 3 0), .ref (ha 4 0), .ref (ha 5 0), .ref (ha 6 0), .ref (hs 0), .int ep, .int fc]))] ++ wQ g (ha 1) qv ++ wQ g hs q0) s.heap := hP
    have hD : va_D A ([((ha 0 0), .inr (9, [.ref (ha 1 0), .ref (ha 2 0), .ref (ha 3 0), .ref (ha 4 0), .ref (ha 5 0), .ref (ha 6 0), .ref (hs 0), .int ep, .int fc]))] ++ wQ g (ha 1) qv ++ wQ g hs q0) := hD
    refine lv_aload_n hx hb dX10_save_0 rfl (lv_at hl 0 rfl) ?_
    refine va_get (D := gD g) (ci := 9) (v := .ref (hs 0)) (C := RX10) (T := TX10) (N := 9) hx hb hts hinX10 hown hK hP 0 rfl rfl 6 (by decide) kk0 (fun _ h9 => h9) rfl dX10_save_1 ?_
    refine lv_ifnonnull (tgt := 18) hx hb dX10_save_4 (by decide) ?_
    refine lv_aload_n hx hb dX10_save_18 rfl (lv_at hl 0 rfl) ?_
    refine va_get (D := gD g) (ci := 9) (v := .ref (hs 0)) (C := RX10) (T := TX10) (N := 9) hx hb hts hinX10 hown hK hP 0 rfl rfl 6 (by decide) kk0 (fun _ h9 => h9) rfl dX10_save_19 ?_
    refine lv_aload_n hx hb dX10_save_22 rfl (lv_at hl 0 rfl) ?_
    refine va_get (D := gD g) (ci := 9) (v := .ref (ha 1 0)) (C := RX10) (T := TX10) (N := 9) hx hb hts hinX10 hown hK hP 0 rfl rfl 0 (by decide) kk6 (fun _ h9 => h9) rfl dX10_save_23 ?_
    have hPr : va_P (gD g) vwCl (wQ g hs q0 ++ ([((ha 0 0), .inr (9, [.ref (ha 1 0), .ref (ha 2 0), .ref (ha 3 0), .ref (ha 4 0), .ref (ha 5 0), .ref (ha 6 0), .ref (hs 0), .int ep, .int fc]))] ++ wQ g (ha 1) qv)) _ := wp_P (wp_of fun f => by simp only [List.countP_append, List.countP_cons, List.countP_nil] <;> omega) hP
    refine cpv_v (As := [.ref (ha 1 0)]) (rest := []) (Wr := [((ha 0 0), .inr (9, [.ref (ha 1 0), .ref (ha 2 0), .ref (ha 3 0), .ref (ha 4 0), .ref (ha 5 0), .ref (ha 6 0), .ref (hs 0), .int ep, .int fc]))]) (Wn := ([((ha 0 0), .inr (9, [.ref (ha 1 0), .ref (ha 2 0), .ref (ha 3 0), .ref (ha 4 0), .ref (ha 5 0), .ref (ha 6 0), .ref (hs 0), .int ep, .int fc]))] ++ wQ g (ha 1) qv ++ wQ g hs out)) ⟨hx, hb, hml, hown, hts⟩ (c_X7_copyFrom l g hs q0 (ha 1) qv out hf) (cwV 1 hts gX10_save_X7_copyFrom rfl rfl rfl hd_X7_copyFrom ⟨(Nat.le_of_ble_eq_true rfl), (Nat.le_of_ble_eq_true rfl)⟩) hK hZ hT hA hP hD hS hl.1 (va_recv hK hPr (ci := 7) (q0 := 0) rfl rfl) (wp_of fun f => by simp only [List.countP_append, List.countP_cons, List.countP_nil] <;> omega) (wp_of fun f => by simp only [List.countP_append, List.countP_cons, List.countP_nil] <;> omega) rfl rfl (Nat.le_of_ble_eq_true rfl) ⟨(Nat.le_of_ble_eq_true rfl), (Nat.le_of_ble_eq_true rfl)⟩ dX10_save_26 (fun H locs hP hD hS => ?_)
    exact rz_v (RT := Nat → Nat) (PR := fun _ => True) (W1 := fun h' => wT g ha (some (h' 0), ep, fc) ++ wQ g (ha 1) qv ++ wQ g h' out) hs trivial hx hb hrt hlk hK hP hD hS (Nat.le_of_ble_eq_true rfl) (Nat.le_of_ble_eq_true rfl) dX10_save_29
def f_X10_restore (qv : QV) (sv : Option QV) : Option (Sum Nat QV) :=
  match sv with
  | none => some (.inl 3)
  | some q => (f_X7_copyFrom qv q).bind fun o => some (.inr o)
def rm_X10_restore : Room := { frames := 7, cells := 1, slots := 6, locals := 120 }
theorem hd_X10_restore : yX10_restore.cls = RX10 ∧ yX10_restore.cls ≠ "java/lang/invoke/MethodHandle" ∧ yX10_restore.cls ≠ "java/lang/invoke/VarHandle" ∧ (parseMethodDescriptor yX10_restore.desc).map (fun d => d.parameters.length) = some 0 := by decide +kernel
set_option maxHeartbeats 4000000 in
set_option maxRecDepth 100000 in
theorem c_X10_restore (l : Launch) (hlt : l.stackTraces = false) (g : GG) (ha : Nat → Nat → Nat) (hd : Nat → Nat → Nat) (ep fc : Int32) (qv : QV) (hv : HV) (hs : Nat → Nat) (sv : Option QV) (out : Sum Nat QV) (hf : f_X10_restore qv sv = some out) : MxV l yX10_restore wsX10_restore rm_X10_restore g (wT g ha (sv.map (fun _ => hs 0), ep, fc) ++ wQ g (ha 1) qv ++ wH g (ha 4) hd hv ++ wSv g hs sv) [.ref (ha 0 0)] out (fun x : QV => wT g ha (sv.map (fun _ => hs 0), ep, fc) ++ wQ g (ha 1) x ++ wH g (ha 4) hd (hv.1, hv.2.1, 0) ++ wSv g hs sv) (fun k : Nat => k) (fun _ : Nat => wT g ha (sv.map (fun _ => hs 0), ep, fc) ++ wQ g (ha 1) qv ++ wH g (ha 4) hd hv ++ wSv g hs sv) 1 6 := by
  refine fun sz => mx_of (cc := cX10_restore) (maxL := 1) (ret := none) (own := RX10) (Qc := fun A => va_Qv (fun (x : QV) => out = .inr x) (fun x t => PosM g A (wT g ha (sv.map (fun _ => hs 0), ep, fc) ++ wQ g (ha 1) x ++ wH g (ha 4) hd (hv.1, hv.2.1, 0) ++ wSv g hs sv) t) A) (XC := fun A => vx_X (fun (x : Nat) => out = .inl x) (fun E x t => E = exn x ∧ PosM g A (wT g ha (sv.map (fun _ => hs 0), ep, fc) ++ wQ g (ha 1) qv ++ wH g (ha 4) hd hv ++ wSv g hs sv) t) A) (by decide +kernel) rfl rfl (Nat.le_of_ble_eq_true rfl) ?_ sz
  intro p e s mi below meth c A ls hB htb hrt hlk hP hD hl
  obtain ⟨hx, hb, hml, hown, hts, hK, hZ, hT, hA, -⟩ := hB
  have hS : va_S A s.heap s.heap [] := va_S.rf
  have hl : lv_has ls 1 [(0, .ref (ha 0 0))] := hl
  have hinX10 : ∀ w ∈ wsX100, w ∈ wsX10_restore := by decide +kernel
  have kk0 := hts (.fieldLink RX10 47 "TerraceQuarry" "saved" "LTerraceQuarry$Quarry;") (by decide +kernel)
  have kk1 := hts (.fieldLink RX10 10 "TerraceQuarry" "quarry" "LTerraceQuarry$Quarry;") (by decide +kernel)
  have kk2 := hts (.fieldLink RX10 29 "TerraceQuarry" "history" "LTerraceQuarry$History;") (by decide +kernel)
  generalize hQ : vx_MQ below _ _ _ _ _ _ _ = Q
  cases sv with
  | none =>
    cases hf
    have hP : va_P (gD g) vwCl ([((ha 0 0), .inr (9, [.ref (ha 1 0), .ref (ha 2 0), .ref (ha 3 0), .ref (ha 4 0), .ref (ha 5 0), .ref (ha 6 0), .null, .int ep, .int fc]))] ++ wQ g (ha 1) qv ++ wH g (ha 4) hd hv) s.heap := by rw [show wSv g hs none = [] from rfl, List.append_nil] at hP; exact hP
    have hD : va_D A ([((ha 0 0), .inr (9, [.ref (ha 1 0), .ref (ha 2 0), .ref (ha 3 0), .ref (ha 4 0), .ref (ha 5 0), .ref (ha 6 0), .null, .int ep, .int fc]))] ++ wQ g (ha 1) qv ++ wH g (ha 4) hd hv) := by rw [show wSv g hs none = [] from rfl, List.append_nil] at hD; exact hD
    refine lv_aload_n hx hb dX10_restore_0 rfl (lv_at hl 0 rfl) ?_
    refine va_get (D := gD g) (ci := 9) (v := .null) (C := RX10) (T := TX10) (N := 9) hx hb hts hinX10 hown hK hP 0 rfl rfl 6 (by decide) kk0 (fun _ h9 => h9) rfl dX10_restore_1 ?_
    refine lv_ifnonnullN hx hb dX10_restore_4 ?_
    have hP : va_P (gD g) vwCl (wT g ha (none, ep, fc) ++ wQ g (ha 1) qv ++ wH g (ha 4) hd hv ++ wSv g hs none) s.heap := by rw [show wSv g hs none = [] from rfl, List.append_nil]; exact hP
    have hD : va_D A (wT g ha (none, ep, fc) ++ wQ g (ha 1) qv ++ wH g (ha 4) hd hv ++ wSv g hs none) := by rw [show wSv g hs none = [] from rfl, List.append_nil]; exact hD
    subst hQ
    exact vx_throwSW (cls := "java/lang/IllegalStateException") (names := ["java/lang/RuntimeException", "java/lang/Exception"]) hx hb hlt hown (by decide +kernel) (by decide +kernel) (hts (.classLink RX10 271 "java/lang/IllegalStateException") (by decide +kernel)) (hts (.initialized "java/lang/IllegalStateException") (by decide +kernel)) (hT.1 19 ("TerraceQuarry", 331, "no state was saved") rfl) (ox_3 (fun _ h => List.mem_cons_of_mem _ (List.mem_append_left _ (List.mem_append_right _ h))) hts hT) og_3 (rx_tt hZ).1 (rx_tt hZ).2 hS (hl.1.trans hml.symm) dX10_restore_7 dX10_restore_10 dX10_restore_11 dX10_restore_14 dX10_restore_17 (fun x h => (htb x h).elim) (by decide) (Nat.le_of_ble_eq_true rfl) (Nat.le_of_ble_eq_true rfl) (Nat.le_of_ble_eq_true rfl) hlk (fun t h1 h2 h3 => rx_xc (3 : Nat) rfl rfl hK hP hD hS t h1 h2 h3) hS.2.2 (Nat.le_of_ble_eq_true rfl) (Nat.le_of_ble_eq_true rfl)
  | some q0 =>
    have hf : (f_X7_copyFrom qv q0).bind (fun o => some (.inr o)) = some out := hf
    obtain ⟨o, hg, hf⟩ := jbB_e hf
    cases hf
    have hP : va_P (gD g) vwCl ([((ha 0 0), .inr (9, [.ref (ha 1 0), .ref (ha 2 0), .ref (ha 3 0), .ref (ha 4 0), .ref (ha 5 0), .ref (ha 6 0), .ref (hs 0), .int ep, .int fc]))] ++ wQ g (ha 1) qv ++ wH g (ha 4) hd hv ++ wQ g hs q0) s.heap := hP
    have hD : va_D A ([((ha 0 0), .inr (9, [.ref (ha 1 0), .ref (ha 2 0), .ref (ha 3 0), .ref (ha 4 0), .ref (ha 5 0), .ref (ha 6 0), .ref (hs 0), .int ep, .int fc]))] ++ wQ g (ha 1) qv ++ wH g (ha 4) hd hv ++ wQ g hs q0) := hD
    refine lv_aload_n hx hb dX10_restore_0 rfl (lv_at hl 0 rfl) ?_
    refine va_get (D := gD g) (ci := 9) (v := .ref (hs 0)) (C := RX10) (T := TX10) (N := 9) hx hb hts hinX10 hown hK hP 0 rfl rfl 6 (by decide) kk0 (fun _ h9 => h9) rfl dX10_restore_1 ?_
    refine lv_ifnonnull (tgt := 18) hx hb dX10_restore_4 (by decide) ?_
    refine lv_aload_n hx hb dX10_restore_18 rfl (lv_at hl 0 rfl) ?_
    refine va_get (D := gD g) (ci := 9) (v := .ref (ha 1 0)) (C := RX10) (T := TX10) (N := 9) hx hb hts hinX10 hown hK hP 0 rfl rfl 0 (by decide) kk1 (fun _ h9 => h9) rfl dX10_restore_19 ?_
    refine lv_aload_n hx hb dX10_restore_22 rfl (lv_at hl 0 rfl) ?_
    refine va_get (D := gD g) (ci := 9) (v := .ref (hs 0)) (C := RX10) (T := TX10) (N := 9) hx hb hts hinX10 hown hK hP 0 rfl rfl 6 (by decide) kk0 (fun _ h9 => h9) rfl dX10_restore_23 ?_
    have hPr : va_P (gD g) vwCl (wQ g (ha 1) qv ++ ([((ha 0 0), .inr (9, [.ref (ha 1 0), .ref (ha 2 0), .ref (ha 3 0), .ref (ha 4 0), .ref (ha 5 0), .ref (ha 6 0), .ref (hs 0), .int ep, .int fc]))] ++ wH g (ha 4) hd hv ++ wQ g hs q0)) _ := wp_P (wp_of fun f => by simp only [List.countP_append, List.countP_cons, List.countP_nil] <;> omega) hP
    refine cpv_v (As := [.ref (hs 0)]) (rest := []) (Wr := ([((ha 0 0), .inr (9, [.ref (ha 1 0), .ref (ha 2 0), .ref (ha 3 0), .ref (ha 4 0), .ref (ha 5 0), .ref (ha 6 0), .ref (hs 0), .int ep, .int fc]))] ++ wH g (ha 4) hd hv)) (Wn := ([((ha 0 0), .inr (9, [.ref (ha 1 0), .ref (ha 2 0), .ref (ha 3 0), .ref (ha 4 0), .ref (ha 5 0), .ref (ha 6 0), .ref (hs 0), .int ep, .int fc]))] ++ wQ g (ha 1) o ++ wH g (ha 4) hd hv ++ wQ g hs q0)) ⟨hx, hb, hml, hown, hts⟩ (c_X7_copyFrom l g (ha 1) qv hs q0 o hg) (cwV 1 hts gX10_restore_X7_copyFrom rfl rfl rfl hd_X7_copyFrom ⟨(Nat.le_of_ble_eq_true rfl), (Nat.le_of_ble_eq_true rfl)⟩) hK hZ hT hA hP hD hS hl.1 (va_recv hK hPr (ci := 7) (q0 := 0) rfl rfl) (wp_of fun f => by simp only [List.countP_append, List.countP_cons, List.countP_nil] <;> omega) (wp_of fun f => by simp only [List.countP_append, List.countP_cons, List.countP_nil] <;> omega) rfl rfl (Nat.le_of_ble_eq_true rfl) ⟨(Nat.le_of_ble_eq_true rfl), (Nat.le_of_ble_eq_true rfl)⟩ dX10_restore_26 (fun H locs hP hD hS => ?_)
    refine lv_aload_n hx hb dX10_restore_29 rfl (lv_at hl 0 rfl) ?_
    refine va_get (D := gD g) (ci := 9) (v := .ref (ha 4 0)) (C := RX10) (T := TX10) (N := 9) hx hb hts hinX10 hown hK hP 0 rfl rfl 3 (by decide) kk2 (fun _ h9 => h9) rfl dX10_restore_30 ?_
    have hPr : va_P (gD g) vwCl (wH g (ha 4) hd hv ++ ([((ha 0 0), .inr (9, [.ref (ha 1 0), .ref (ha 2 0), .ref (ha 3 0), .ref (ha 4 0), .ref (ha 5 0), .ref (ha 6 0), .ref (hs 0), .int ep, .int fc]))] ++ wQ g (ha 1) o ++ wQ g hs q0)) _ := wp_P (wp_of fun f => by simp only [List.countP_append, List.countP_cons, List.countP_nil] <;> omega) hP
    refine cpv_v (As := []) (rest := []) (Wr := ([((ha 0 0), .inr (9, [.ref (ha 1 0), .ref (ha 2 0), .ref (ha 3 0), .ref (ha 4 0), .ref (ha 5 0), .ref (ha 6 0), .ref (hs 0), .int ep, .int fc]))] ++ wQ g (ha 1) o ++ wQ g hs q0)) (Wn := ([((ha 0 0), .inr (9, [.ref (ha 1 0), .ref (ha 2 0), .ref (ha 3 0), .ref (ha 4 0), .ref (ha 5 0), .ref (ha 6 0), .ref (hs 0), .int ep, .int fc]))] ++ wQ g (ha 1) o ++ wH g (ha 4) hd (hv.1, hv.2.1, 0) ++ wQ g hs q0)) ⟨hx, hb, hml, hown, hts⟩ (c_X4_forgetH l g (ha 4) hd hv) (cwV 0 hts gX10_restore_X4_forget rfl rfl rfl hd_X4_forget ⟨(Nat.le_of_ble_eq_true rfl), (Nat.le_of_ble_eq_true rfl)⟩) hK hZ hT hA hP hD hS hl.1 (va_recv hK hPr (ci := 4) (q0 := 0) rfl rfl) (wp_of fun f => by simp only [List.countP_append, List.countP_cons, List.countP_nil] <;> omega) (wp_of fun f => by simp only [List.countP_append, List.countP_cons, List.countP_nil] <;> omega) rfl rfl (Nat.le_of_ble_eq_true rfl) ⟨(Nat.le_of_ble_eq_true rfl), (Nat.le_of_ble_eq_true rfl)⟩ dX10_restore_33 (fun H locs hP hD hS => ?_)
    subst hQ
    exact rx_v o rfl hx hb hrt hlk hK hP hD hS (Nat.le_of_ble_eq_true rfl) (Nat.le_of_ble_eq_true rfl) dX10_restore_36