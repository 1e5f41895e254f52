theorem c_X4_recordH (l : Launch) (g : GG) (hh : Nat → Nat) (hd : Nat → Nat → Nat) (hv : HV) (hq : Nat → Nat) (qv : QV) (out : HV) (hf : f_X4_record hv qv = some out) : MzV (RT := Nat → Nat → Nat) l yX4_record wsX4_record rm_X4_record g (wH g hh hd hv ++ wQ g hq qv) [.ref (hh 0), .ref (hq 0)] (fun _ => True) (fun hd' => wH g hh hd' out ++ wQ g hq qv) 10 238 := c_X4_record l g hh hd hv.1 hv.2.1 hv.2.2 hq qv out hf
theorem c_X4_forgetH (l : Launch) (g : GG) (hh : Nat → Nat) (hd : Nat → Nat → Nat) (hv : HV) : MtV l yX4_forget wsX4_forget rm_X4_forget g (wH g hh hd hv) [.ref (hh 0)] (wH g hh hd (hv.1, hv.2.1, 0)) 0 0 := c_X4_forget l g hh hd hv.1 hv.2.1 hv.2.2
def f_X10_setStone (tv : TV) (qv : QV) (hv : HV) (a0 : Int32) (a1 : Int32) (a2 : Int32) : Option (Sum (Nat × QV × HV) (Int32 × QV × HV)) :=
  (f_X7_stoneFault qv a0 a1 a2).bind fun o1 =>
  (f_X10_refuse o1).bind fun o3 => jbM o3 (fun xo3 => some (.inl (xo3, qv, hv))) (fun _ =>
  (f_X4_record hv qv).bind fun o5 =>
  (f_X7_changeStone qv a0 a1 a2).bind fun o8 =>
  some (.inr ((o8.1), (o8.2), o5)))
def rm_X10_setStone : Room := { frames := 9, cells := 11, slots := 244, locals := 140 }
theorem hd_X10_setStone : yX10_setStone.cls = RX10 ∧ yX10_setStone.cls ≠ "java/lang/invoke/MethodHandle" ∧ yX10_setStone.cls ≠ "java/lang/invoke/VarHandle" ∧ (parseMethodDescriptor yX10_setStone.desc).map (fun d => d.parameters.length) = some 3 := by decide +kernel
set_option maxHeartbeats 4000000 in
set_option maxRecDepth 100000 in
theorem c_X10_setStone (l : Launch) (hlt : l.stackTraces = false) (g : GG) (ha : Nat → Nat → Nat) (hd : Nat → Nat → Nat) (tv : TV) (qv : QV) (hv : HV) (a0 : Int32) (a1 : Int32) (a2 : Int32) (out : Sum (Nat × QV × HV) (Int32 × QV × HV)) (hf : f_X10_setStone tv qv hv a0 a1 a2 = some out) : MyI l yX10_setStone wsX10_setStone rm_X10_setStone g (wT g ha tv ++ wQ g (ha 1) qv ++ wH g (ha 4) hd hv) [.ref (ha 0 0), .int a0, .int a1, .int a2] (fun u : (Int32 × QV × HV) × (Nat → Nat → Nat) => out = .inr u.1) (fun u : (Int32 × QV × HV) × (Nat → Nat → Nat) => (u.1.1)) (fun u : (Int32 × QV × HV) × (Nat → Nat → Nat) => (wT g ha tv ++ wQ g (ha 1) (u.1.2.1) ++ wH g (ha 4) u.2 (u.1.2.2))) (fun u : (Nat × QV × HV) × (Nat → Nat → Nat) => out = .inl u.1) (fun u : (Nat × QV × HV) × (Nat → Nat → Nat) => (u.1.1)) (fun u : (Nat × QV × HV) × (Nat → Nat → Nat) => (wT g ha tv ++ wQ g (ha 1) (u.1.2.1) ++ wH g (ha 4) u.2 (u.1.2.2))) 11 244 := by
  refine fun sz => mx_of (cc := cX10_setStone) (maxL := 4) (ret := (some .int)) (own := RX10) (Qc := fun A => va_Qi (fun r (u : (Int32 × QV × HV) × (Nat → Nat → Nat)) => out = .inr u.1 ∧ r = (u.1.1)) (fun u t => PosM g A ((wT g ha tv ++ wQ g (ha 1) (u.1.2.1) ++ wH g (ha 4) u.2 (u.1.2.2))) t) A) (XC := fun A => vx_X (fun (u : (Nat × QV × HV) × (Nat → Nat → Nat)) => out = .inl u.1) (fun E u t => E = exn ((u.1.1)) ∧ PosM g A ((wT g ha tv ++ wQ g (ha 1) (u.1.2.1) ++ wH g (ha 4) u.2 (u.1.2.2))) t) A) (by decide +kernel) rfl rfl (Nat.le_of_ble_eq_true rfl) ?_ sz
  intro p e s mi below meth c A ls hB htb hrt hlk hP hD hl
  obtain ⟨hx, hb, hml, hown, hts, hK, hZ, hT, hA, -⟩ := hB
  have hS : va_S A s.heap s.heap [] := va_S.rf
  have hl : lv_has ls 4 [(0, .ref (ha 0 0)), (1, .int a0), (2, .int a1), (3, .int a2)] := hl
  have hinX10 : ∀ w ∈ wsX100, w ∈ wsX10_setStone := by decide +kernel
  have k0 := hts (.fieldLink RX10 10 "TerraceQuarry" "quarry" "LTerraceQuarry$Quarry;") (by decide +kernel)
  have k1 := hts (.fieldLink RX10 29 "TerraceQuarry" "history" "LTerraceQuarry$History;") (by decide +kernel)
  generalize hQ : vx_MQ below _ _ _ _ _ _ _ = Q
  unfold f_X10_setStone at hf
  refine lv_aload_n hx hb dX10_setStone_0 rfl (lv_at hl 0 rfl) ?_
  refine va_get (D := gD g) (ci := 9) (v := .ref (ha 1 0)) (C := RX10) (T := TX10) (N := 9) hx hb hts hinX10 hown hK hP 0 rfl rfl 0 (by decide) k0 (fun _ h9 => h9) rfl dX10_setStone_1 ?_
  refine lv_iload_n hx hb dX10_setStone_4 rfl (lv_at hl 1 rfl) ?_
  refine lv_iload_n hx hb dX10_setStone_5 rfl (lv_at hl 2 rfl) ?_
  refine lv_iload_n hx hb dX10_setStone_6 rfl (lv_at hl 3 rfl) ?_
  obtain ⟨o1, g2, hf⟩ := jbB_e hf
  refine cpv_r (rv := some _) (As := [.int a0, .int a1, .int a2]) (rest := []) (Wr := (wT g ha tv ++ wH g (ha 4) hd hv)) (Wn := (wT g ha tv ++ wQ g (ha 1) qv ++ wH g (ha 4) hd hv)) ⟨hx, hb, hml, hown, hts⟩ (c_X7_stoneFault l g (ha 1) qv a0 a1 a2 _ g2) (cwV 3 hts gX10_setStone_X7_stoneFault rfl rfl rfl hd_X7_stoneFault ⟨Nat.le_of_ble_eq_true rfl, Nat.le_of_ble_eq_true rfl⟩) hK hZ hT hA hP hD hS hl.1 (va_recv hK hP (ci := 7) (q0 := 1) rfl rfl) (wp_of fun f => by simp only [List.countP_append, List.countP_cons, List.countP_nil] <;> omega) (wp_of fun f => by simp only [List.countP_append, List.countP_cons, List.countP_nil] <;> omega) rfl rfl (Nat.le_of_ble_eq_true rfl) ⟨Nat.le_of_ble_eq_true rfl, Nat.le_of_ble_eq_true rfl⟩ dX10_setStone_7 (fun H locs hP hD hS => ?_)
  obtain ⟨o3, g4, hf⟩ := jbB_e hf
  refine cxn_v (As := [.ref (gS g 0 o1)]) (rest := []) ⟨hx, hb, hml, hown, hts⟩ (c_X10_refuse l hlt g o1 _ g4) (va_cwS 1 hts gX10_setStone_X10_refuse rfl rfl rfl hd_X10_refuse ⟨Nat.le_of_ble_eq_true rfl, Nat.le_of_ble_eq_true rfl⟩) hK hZ hT hA hP hD hS hl.1 rfl rfl (Nat.le_of_ble_eq_true rfl) ⟨Nat.le_of_ble_eq_true rfl, Nat.le_of_ble_eq_true rfl⟩ dX10_setStone_10 (fun xo3 ce q9 H locs ho hP hD hS hce hcv hcl => ?_) (fun _ H locs ho hP hD hS => ?_)
  · subst ho
    have hf := jbM_l hf
    cases hf
    subst hQ
    exact ry_x ((xo3, qv, hv), hd) rfl rfl htb hlk hK hP hD hS hce hcv hcl (Nat.le_of_ble_eq_true rfl) (Nat.le_of_ble_eq_true rfl)
  subst ho
  have hf := jbM_r hf
  refine lv_aload_n hx hb dX10_setStone_13 rfl (lv_at hl 0 rfl) ?_
  refine va_get (D := gD g) (ci := 9) (v := .ref (ha 4 0)) (C := RX10) (T := TX10) (N := 9) hx hb hts hinX10 hown hK hP 0 rfl rfl 3 (by decide) k1 (fun _ h9 => h9) rfl dX10_setStone_14 ?_
  refine lv_aload_n hx hb dX10_setStone_17 rfl (lv_at hl 0 rfl) ?_
  refine va_get (D := gD g) (ci := 9) (v := .ref (ha 1 0)) (C := RX10) (T := TX10) (N := 9) hx hb hts hinX10 hown hK hP 0 rfl rfl 0 (by decide) k0 (fun _ h9 => h9) rfl dX10_setStone_18 ?_
  have hPr : va_P (gD g) vwCl (wH g (ha 4) hd hv ++ (wT g ha tv ++ wQ g (ha 1) qv)) _ := wp_P (wp_of fun f => by simp only [List.countP_append, List.countP_cons, List.countP_nil] <;> omega) hP
  obtain ⟨o5, g6, hf⟩ := jbB_e hf
  refine czv_v (As := [.ref (ha 1 0)]) (rest := []) (Wr := (wT g ha tv)) (Wn := fun hd7 => (wT g ha tv ++ wQ g (ha 1) qv ++ wH g (ha 4) hd7 o5)) ⟨hx, hb, hml, hown, hts⟩ (c_X4_recordH l g (ha 4) hd hv (ha 1) qv _ g6) (cwV 1 hts gX10_setStone_X4_record rfl rfl rfl hd_X4_record ⟨(Nat.le_of_ble_eq_true rfl), (Nat.le_of_ble_eq_true rfl)⟩) hK hZ hT hA hP hD hS hl.1 (va_recv hK hPr (ci := 4) (q0 := 0) rfl rfl) (wp_of fun f => by simp only [List.countP_append, List.countP_cons, List.countP_nil] <;> omega) (fun _ => (wp_of fun f => by simp only [List.countP_append, List.countP_cons, List.countP_nil] <;> omega)) rfl rfl (Nat.le_of_ble_eq_true rfl) ⟨(Nat.le_of_ble_eq_true rfl), (Nat.le_of_ble_eq_true rfl)⟩ dX10_setStone_21 (fun hd7 H locs ho hP hD hS => ?_)
  refine lv_aload_n hx hb dX10_setStone_24 rfl (lv_at hl 0 rfl) ?_
  refine va_get (D := gD g) (ci := 9) (v := .ref (ha 1 0)) (C := RX10) (T := TX10) (N := 9) hx hb hts hinX10 hown hK hP 0 rfl rfl 0 (by decide) k0 (fun _ h9 => h9) rfl dX10_setStone_25 ?_
  refine lv_iload_n hx hb dX10_setStone_28 rfl (lv_at hl 1 rfl) ?_
  refine lv_iload_n hx hb dX10_setStone_29 rfl (lv_at hl 2 rfl) ?_
  refine lv_iload_n hx hb dX10_setStone_30 rfl (lv_at hl 3 rfl) ?_
  obtain ⟨o8, g9, hf⟩ := jbB_e hf
  refine cpv_i (As := [.int a0, .int a1, .int a2]) (rest := []) (Wr := (wT g ha tv ++ wH g (ha 4) hd7 o5)) (Wn := (wT g ha tv ++ wQ g (ha 1) (o8.2) ++ wH g (ha 4) hd7 o5)) ⟨hx, hb, hml, hown, hts⟩ (c_X7_changeStone l g (ha 1) qv a0 a1 a2 _ g9) (cwV 3 hts gX10_setStone_X7_changeStone rfl rfl rfl hd_X7_changeStone ⟨Nat.le_of_ble_eq_true rfl, Nat.le_of_ble_eq_true rfl⟩) hK hZ hT hA hP hD hS hl.1 (va_recv hK hP (ci := 7) (q0 := 1) rfl rfl) (wp_of fun f => by simp only [List.countP_append, List.countP_cons, List.countP_nil] <;> omega) (wp_of fun f => by simp only [List.countP_append, List.countP_cons, List.countP_nil] <;> omega) rfl rfl (Nat.le_of_ble_eq_true rfl) ⟨Nat.le_of_ble_eq_true rfl, Nat.le_of_ble_eq_true rfl⟩ dX10_setStone_31 (fun H locs hP hD hS => ?_)
  cases hf
  subst hQ
  exact ry_i (((o8.1), (o8.2), o5), hd7) rfl rfl hx hb hrt hlk rfl hK hP hD hS (Nat.le_of_ble_eq_true rfl) (Nat.le_of_ble_eq_true rfl) dX10_setStone_34
def f_X10_cut (tv : TV) (qv : QV) (hv : HV) (a0 : Int32) (a1 : Int32) : Option (Sum (Nat × QV × HV) (Int32 × QV × HV)) :=
  (f_X7_cutFault qv a0 a1).bind fun o1 =>
  (f_X10_refuse o1).bind fun o3 => jbM o3 (fun xo3 => some (.inl (xo3, qv, hv))) (fun _ =>
  (f_X4_record hv qv).bind fun o5 =>
  (f_X7_cutCell qv a0 a1).bind fun o8 =>
  some (.inr ((o8.1), (o8.2), o5)))
def rm_X10_cut : Room := { frames := 9, cells := 11, slots := 244, locals := 140 }
theorem hd_X10_cut : yX10_cut.cls = RX10 ∧ yX10_cut.cls ≠ "java/lang/invoke/MethodHandle" ∧ yX10_cut.cls ≠ "java/lang/invoke/VarHandle" ∧ (parseMethodDescriptor yX10_cut.desc).map (fun d => d.parameters.length) = some 2 := by decide +kernel
set_option maxHeartbeats 4000000 in
set_option maxRecDepth 100000 in
theorem c_X10_cut (l : Launch) (hlt : l.stackTraces = false) (g : GG) (ha : Nat → Nat → Nat) (hd : Nat → Nat → Nat) (tv : TV) (qv : QV) (hv : HV) (a0 : Int32) (a1 : Int32) (out : Sum (Nat × QV × HV) (Int32 × QV × HV)) (hf : f_X10_cut tv qv hv a0 a1 = some out) : MyI l yX10_cut wsX10_cut rm_X10_cut g (wT g ha tv ++ wQ g (ha 1) qv ++ wH g (ha 4) hd hv) [.ref (ha 0 0), .int a0, .int a1] (fun u : (Int32 × QV × HV) × (Nat → Nat → Nat) => out = .inr u.1) (fun u : (Int32 × QV × HV) × (Nat → Nat → Nat) => (u.1.1)) (fun u : (Int32 × QV × HV) × (Nat → Nat → Nat) => (wT g ha tv ++ wQ g (ha 1) (u.1.2.1) ++ wH g (ha 4) u.2 (u.1.2.2))) (fun u : (Nat × QV × HV) × (Nat → Nat → Nat) => out = .inl u.1) (fun u : (Nat × QV × HV) × (Nat → Nat → Nat) => (u.1.1)) (fun u : (Nat × QV × HV) × (Nat → Nat → Nat) => (wT g ha tv ++ wQ g (ha 1) (u.1.2.1) ++ wH g (ha 4) u.2 (u.1.2.2))) 11 244 := by
  refine fun sz => mx_of (cc := cX10_cut) (maxL := 3) (ret := (some .int)) (own := RX10) (Qc := fun A => va_Qi (fun r (u : (Int32 × QV × HV) × (Nat → Nat → Nat)) => out = .inr u.1 ∧ r = (u.1.1)) (fun u t => PosM g A ((wT g ha tv ++ wQ g (ha 1) (u.1.2.1) ++ wH g (ha 4) u.2 (u.1.2.2))) t) A) (XC := fun A => vx_X (fun (u : (Nat × QV × HV) × (Nat → Nat → Nat)) => out = .inl u.1) (fun E u t => E = exn ((u.1.1)) ∧ PosM g A ((wT g ha tv ++ wQ g (ha 1) (u.1.2.1) ++ wH g (ha 4) u.2 (u.1.2.2))) t) A) (by decide +kernel) rfl rfl (Nat.le_of_ble_eq_true rfl) ?_ sz
  intro p e s mi below meth c A ls hB htb hrt hlk hP hD hl
  obtain ⟨hx, hb, hml, hown, hts, hK, hZ, hT, hA, -⟩ := hB
  have hS : va_S A s.heap s.heap [] := va_S.rf
  have hl : lv_has ls 3 [(0, .ref (ha 0 0)), (1, .int a0), (2, .int a1)] := hl
  have hinX10 : ∀ w ∈ wsX100, w ∈ wsX10_cut := by decide +kernel
  have k0 := hts (.fieldLink RX10 10 "TerraceQuarry" "quarry" "LTerraceQuarry$Quarry;") (by decide +kernel)
  have k1 := hts (.fieldLink RX10 29 "TerraceQuarry" "history" "LTerraceQuarry$History;") (by decide +kernel)
  generalize hQ : vx_MQ below _ _ _ _ _ _ _ = Q
  unfold f_X10_cut at hf
  refine lv_aload_n hx hb dX10_cut_0 rfl (lv_at hl 0 rfl) ?_
  refine va_get (D := gD g) (ci := 9) (v := .ref (ha 1 0)) (C := RX10) (T := TX10) (N := 9) hx hb hts hinX10 hown hK hP 0 rfl rfl 0 (by decide) k0 (fun _ h9 => h9) rfl dX10_cut_1 ?_
  refine lv_iload_n hx hb dX10_cut_4 rfl (lv_at hl 1 rfl) ?_
  refine lv_iload_n hx hb dX10_cut_5 rfl (lv_at hl 2 rfl) ?_
  obtain ⟨o1, g2, hf⟩ := jbB_e hf
  refine cpv_r (rv := some _) (As := [.int a0, .int a1]) (rest := []) (Wr := (wT g ha tv ++ wH g (ha 4) hd hv)) (Wn := (wT g ha tv ++ wQ g (ha 1) qv ++ wH g (ha 4) hd hv)) ⟨hx, hb, hml, hown, hts⟩ (c_X7_cutFault l g (ha 1) qv a0 a1 _ g2) (cwV 2 hts gX10_cut_X7_cutFault rfl rfl rfl hd_X7_cutFault ⟨Nat.le_of_ble_eq_true rfl, Nat.le_of_ble_eq_true rfl⟩) hK hZ hT hA hP hD hS hl.1 (va_recv hK hP (ci := 7) (q0 := 1) rfl rfl) (wp_of fun f => by simp only [List.countP_append, List.countP_cons, List.countP_nil] <;> omega) (wp_of fun f => by simp only [List.countP_append, List.countP_cons, List.countP_nil] <;> omega) rfl rfl (Nat.le_of_ble_eq_true rfl) ⟨Nat.le_of_ble_eq_true rfl, Nat.le_of_ble_eq_true rfl⟩ dX10_cut_6 (fun H locs hP hD hS => ?_)
  obtain ⟨o3, g4, hf⟩ := jbB_e hf
  refine cxn_v (As := [.ref (gS g 0 o1)]) (rest := []) ⟨hx, hb, hml, hown, hts⟩ (c_X10_refuse l hlt g o1 _ g4) (va_cwS 1 hts gX10_cut_X10_refuse rfl rfl rfl hd_X10_refuse ⟨Nat.le_of_ble_eq_true rfl, Nat.le_of_ble_eq_true rfl⟩) hK hZ hT hA hP hD hS hl.1 rfl rfl (Nat.le_of_ble_eq_true rfl) ⟨Nat.le_of_ble_eq_true rfl, Nat.le_of_ble_eq_true rfl⟩ dX10_cut_9 (fun xo3 ce q9 H locs ho hP hD hS hce hcv hcl => ?_) (fun _ H locs ho hP hD hS => ?_)
  · subst ho
    have hf := jbM_l hf
    cases hf
    subst hQ
    exact ry_x ((xo3, qv, hv), hd) rfl rfl htb hlk hK hP hD hS hce hcv hcl (Nat.le_of_ble_eq_true rfl) (Nat.le_of_ble_eq_true rfl)
  subst ho
  have hf := jbM_r hf
  refine lv_aload_n hx hb dX10_cut_12 rfl (lv_at hl 0 rfl) ?_
  refine va_get (D := gD g) (ci := 9) (v := .ref (ha 4 0)) (C := RX10) (T := TX10) (N := 9) hx hb hts hinX10 hown hK hP 0 rfl rfl 3 (by decide) k1 (fun _ h9 => h9) rfl dX10_cut_13 ?_
  refine lv_aload_n hx hb dX10_cut_16 rfl (lv_at hl 0 rfl) ?_
  refine va_get (D := gD g) (ci := 9) (v := .ref (ha 1 0)) (C := RX10) (T := TX10) (N := 9) hx hb hts hinX10 hown hK hP 0 rfl rfl 0 (by decide) k0 (fun _ h9 => h9) rfl dX10_cut_17 ?_
  have hPr : va_P (gD g) vwCl (wH g (ha 4) hd hv ++ (wT g ha tv ++ wQ g (ha 1) qv)) _ := wp_P (wp_of fun f => by simp only [List.countP_append, List.countP_cons, List.countP_nil] <;> omega) hP
  obtain ⟨o5, g6, hf⟩ := jbB_e hf
  refine czv_v (As := [.ref (ha 1 0)]) (rest := []) (Wr := (wT g ha tv)) (Wn := fun hd7 => (wT g ha tv ++ wQ g (ha 1) qv ++ wH g (ha 4) hd7 o5)) ⟨hx, hb, hml, hown, hts⟩ (c_X4_recordH l g (ha 4) hd hv (ha 1) qv _ g6) (cwV 1 hts gX10_cut_X4_record rfl rfl rfl hd_X4_record ⟨(Nat.le_of_ble_eq_true rfl), (Nat.le_of_ble_eq_true rfl)⟩) hK hZ hT hA hP hD hS hl.1 (va_recv hK hPr (ci := 4) (q0 := 0) rfl rfl) (wp_of fun f => by simp only [List.countP_append, List.countP_cons, List.countP_nil] <;> omega) (fun _ => (wp_of fun f => by simp only [List.countP_append, List.countP_cons, List.countP_nil] <;> omega)) rfl rfl (Nat.le_of_ble_eq_true rfl) ⟨(Nat.le_of_ble_eq_true rfl), (Nat.le_of_ble_eq_true rfl)⟩ dX10_cut_20 (fun hd7 H locs ho hP hD hS => ?_)
  refine lv_aload_n hx hb dX10_cut_23 rfl (lv_at hl 0 rfl) ?_
  refine va_get (D := gD g) (ci := 9) (v := .ref (ha 1 0)) (C := RX10) (T := TX10) (N := 9) hx hb hts hinX10 hown hK hP 0 rfl rfl 0 (by decide) k0 (fun _ h9 => h9) rfl dX10_cut_24 ?_
  refine lv_iload_n hx hb dX10_cut_27 rfl (lv_at hl 1 rfl) ?_
  refine lv_iload_n hx hb dX10_cut_28 rfl (lv_at hl 2 rfl) ?_
  obtain ⟨o8, g9, hf⟩ := jbB_e hf
  refine cpv_i (As := [.int a0, .int a1]) (rest := []) (Wr := (wT g ha tv ++ wH g (ha 4) hd7 o5)) (Wn := (wT g ha tv ++ wQ g (ha 1) (o8.2) ++ wH g (ha 4) hd7 o5)) ⟨hx, hb, hml, hown, hts⟩ (c_X7_cutCell l g (ha 1) qv a0 a1 _ g9) (cwV 2 hts gX10_cut_X7_cutCell rfl rfl rfl hd_X7_cutCell ⟨Nat.le_of_ble_eq_true rfl, Nat.le_of_ble_eq_true rfl⟩) hK hZ hT hA hP hD hS hl.1 (va_recv hK hP (ci := 7) (q0 := 1) rfl rfl) (wp_of fun f => by simp only [List.countP_append, List.countP_cons, List.countP_nil] <;> omega) (wp_of fun f => by simp only [List.countP_append, List.countP_cons, List.countP_nil] <;> omega) rfl rfl (Nat.le_of_ble_eq_true rfl) ⟨Nat.le_of_ble_eq_true rfl, Nat.le_of_ble_eq_true rfl⟩ dX10_cut_29 (fun H locs hP hD hS => ?_)
  cases hf
  subst hQ
  exact ry_i (((o8.1), (o8.2), o5), hd7) rfl rfl hx hb hrt hlk rfl hK hP hD hS (Nat.le_of_ble_eq_true rfl) (Nat.le_of_ble_eq_true rfl) dX10_cut_32
def f_X10_fill (tv : TV) (qv : QV) (hv : HV) (a0 : Int32) (a1 : Int32) : Option (Sum (Nat × QV × HV) (Int32 × QV × HV)) :=
  (f_X7_fillFault qv a0 a1).bind fun o1 =>
  (f_X10_refuse o1).bind fun o3 => jbM o3 (fun xo3 => some (.inl (xo3, qv, hv))) (fun _ =>
  (f_X4_record hv qv).bind fun o5 =>
  (f_X7_fillCell qv a0 a1).bind fun o8 =>
  some (.inr ((o8.1), (o8.2), o5)))
def rm_X10_fill : Room := { frames := 9, cells := 11, slots := 244, locals := 140 }
theorem hd_X10_fill : yX10_fill.cls = RX10 ∧ yX10_fill.cls ≠ "java/lang/invoke/MethodHandle" ∧ yX10_fill.cls ≠ "java/lang/invoke/VarHandle" ∧ (parseMethodDescriptor yX10_fill.desc).map (fun d => d.parameters.length) = some 2 := by decide +kernel
set_option maxHeartbeats 4000000 in
set_option maxRecDepth 100000 in
theorem c_X10_fill (l : Launch) (hlt : l.stackTraces = false) (g : GG) (ha : Nat → Nat → Nat) (hd : Nat → Nat → Nat) (tv : TV) (qv : QV) (hv : HV) (a0 : Int32) (a1 : Int32) (out : Sum (Nat × QV × HV) (Int32 × QV × HV)) (hf : f_X10_fill tv qv hv a0 a1 = some out) : MyI l yX10_fill wsX10_fill rm_X10_fill g (wT g ha tv ++ wQ g (ha 1) qv ++ wH g (ha 4) hd hv) [.ref (ha 0 0), .int a0, .int a1] (fun u : (Int32 × QV × HV) × (Nat → Nat → Nat) => out = .inr u.1) (fun u : (Int32 × QV × HV) × (Nat → Nat → Nat) => (u.1.1)) (fun u : (Int32 × QV × HV) × (Nat → Nat → Nat) => (wT g ha tv ++ wQ g (ha 1) (u.1.2.1) ++ wH g (ha 4) u.2 (u.1.2.2))) (fun u : (Nat × QV × HV) × (Nat → Nat → Nat) => out = .inl u.1) (fun u : (Nat × QV × HV) × (Nat → Nat → Nat) => (u.1.1)) (fun u : (Nat × QV × HV) × (Nat → Nat → Nat) => (wT g ha tv ++ wQ g (ha 1) (u.1.2.1) ++ wH g (ha 4) u.2 (u.1.2.2))) 11 244 := by
  refine fun sz => mx_of (cc := cX10_fill) (maxL := 3) (ret := (some .int)) (own := RX10) (Qc := fun A => va_Qi (fun r (u : (Int32 × QV × HV) × (Nat → Nat → Nat)) => out = .inr u.1 ∧ r = (u.1.1)) (fun u t => PosM g A ((wT g ha tv ++ wQ g (ha 1) (u.1.2.1) ++ wH g (ha 4) u.2 (u.1.2.2))) t) A) (XC := fun A => vx_X (fun (u : (Nat × QV × HV) × (Nat → Nat → Nat)) => out = .inl u.1) (fun E u t => E = exn ((u.1.1)) ∧ PosM g A ((wT g ha tv ++ wQ g (ha 1) (u.1.2.1) ++ wH g (ha 4) u.2 (u.1.2.2))) t) A) (by decide +kernel) rfl rfl (Nat.le_of_ble_eq_true rfl) ?_ sz
  intro p e s mi below meth c A ls hB htb hrt hlk hP hD hl
  obtain ⟨hx, hb, hml, hown, hts, hK, hZ, hT, hA, -⟩ := hB
  have hS : va_S A s.heap s.heap [] := va_S.rf
  have hl : lv_has ls 3 [(0, .ref (ha 0 0)), (1, .int a0), (2, .int a1)] := hl
  have hinX10 : ∀ w ∈ wsX100, w ∈ wsX10_fill := by decide +kernel
  have k0 := hts (.fieldLink RX10 10 "TerraceQuarry" "quarry" "LTerraceQuarry$Quarry;") (by decide +kernel)
  have k1 := hts (.fieldLink RX10 29 "TerraceQuarry" "history" "LTerraceQuarry$History;") (by decide +kernel)
  generalize hQ : vx_MQ below _ _ _ _ _ _ _ = Q
  unfold f_X10_fill at hf
  refine lv_aload_n hx hb dX10_fill_0 rfl (lv_at hl 0 rfl) ?_
  refine va_get (D := gD g) (ci := 9) (v := .ref (ha 1 0)) (C := RX10) (T := TX10) (N := 9) hx hb hts hinX10 hown hK hP 0 rfl rfl 0 (by decide) k0 (fun _ h9 => h9) rfl dX10_fill_1 ?_
  refine lv_iload_n hx hb dX10_fill_4 rfl (lv_at hl 1 rfl) ?_
  refine lv_iload_n hx hb dX10_fill_5 rfl (lv_at hl 2 rfl) ?_
  obtain ⟨o1, g2, hf⟩ := jbB_e hf
  refine cpv_r (rv := some _) (As := [.int a0, .int a1]) (rest := []) (Wr := (wT g ha tv ++ wH g (ha 4) hd hv)) (Wn := (wT g ha tv ++ wQ g (ha 1) qv ++ wH g (ha 4) hd hv)) ⟨hx, hb, hml, hown, hts⟩ (c_X7_fillFault l g (ha 1) qv a0 a1 _ g2) (cwV 2 hts gX10_fill_X7_fillFault rfl rfl rfl hd_X7_fillFault ⟨Nat.le_of_ble_eq_true rfl, Nat.le_of_ble_eq_true rfl⟩) hK hZ hT hA hP hD hS hl.1 (va_recv hK hP (ci := 7) (q0 := 1) rfl rfl) (wp_of fun f => by simp only [List.countP_append, List.countP_cons, List.countP_nil] <;> omega) (wp_of fun f => by simp only [List.countP_append, List.countP_cons, List.countP_nil] <;> omega) rfl rfl (Nat.le_of_ble_eq_true rfl) ⟨Nat.le_of_ble_eq_true rfl, Nat.le_of_ble_eq_true rfl⟩ dX10_fill_6 (fun H locs hP hD hS => ?_)
  obtain ⟨o3, g4, hf⟩ := jbB_e hf
  refine cxn_v (As := [.ref (gS g 0 o1)]) (rest := []) ⟨hx, hb, hml, hown, hts⟩ (c_X10_refuse l hlt g o1 _ g4) (va_cwS 1 hts gX10_fill_X10_refuse rfl rfl rfl hd_X10_refuse ⟨Nat.le_of_ble_eq_true rfl, Nat.le_of_ble_eq_true rfl⟩) hK hZ hT hA hP hD hS hl.1 rfl rfl (Nat.le_of_ble_eq_true rfl) ⟨Nat.le_of_ble_eq_true rfl, Nat.le_of_ble_eq_true rfl⟩ dX10_fill_9 (fun xo3 ce q9 H locs ho hP hD hS hce hcv hcl => ?_) (fun _ H locs ho hP hD hS => ?_)
  · subst ho
    have hf := jbM_l hf
    cases hf
    subst hQ
    exact ry_x ((xo3, qv, hv), hd) rfl rfl htb hlk hK hP hD hS hce hcv hcl (Nat.le_of_ble_eq_true rfl) (Nat.le_of_ble_eq_true rfl)
  subst ho
  have hf := jbM_r hf
  refine lv_aload_n hx hb dX10_fill_12 rfl (lv_at hl 0 rfl) ?_
  refine va_get (D := gD g) (ci := 9) (v := .ref (ha 4 0)) (C := RX10) (T := TX10) (N := 9) hx hb hts hinX10 hown hK hP 0 rfl rfl 3 (by decide) k1 (fun _ h9 => h9) rfl dX10_fill_13 ?_
  refine lv_aload_n hx hb dX10_fill_16 rfl (lv_at hl 0 rfl) ?_
  refine va_get (D := gD g) (ci := 9) (v := .ref (ha 1 0)) (C := RX10) (T := TX10) (N := 9) hx hb hts hinX10 hown hK hP 0 rfl rfl 0 (by decide) k0 (fun _ h9 => h9) rfl dX10_fill_17 ?_
  have hPr : va_P (gD g) vwCl (wH g (ha 4) hd hv ++ (wT g ha tv ++ wQ g (ha 1) qv)) _ := wp_P (wp_of fun f => by simp only [List.countP_append, List.countP_cons, List.countP_nil] <;> omega) hP
  obtain ⟨o5, g6, hf⟩ := jbB_e hf
  refine czv_v (As := [.ref (ha 1 0)]) (rest := []) (Wr := (wT g ha tv)) (Wn := fun hd7 => (wT g ha tv ++ wQ g (ha 1) qv ++ wH g (ha 4) hd7 o5)) ⟨hx, hb, hml, hown, hts⟩ (c_X4_recordH l g (ha 4) hd hv (ha 1) qv _ g6) (cwV 1 hts gX10_fill_X4_record rfl rfl rfl hd_X4_record ⟨(Nat.le_of_ble_eq_true rfl), (Nat.le_of_ble_eq_true rfl)⟩) hK hZ hT hA hP hD hS hl.1 (va_recv hK hPr (ci := 4) (q0 := 0) rfl rfl) (wp_of fun f => by simp only [List.countP_append, List.countP_cons, List.countP_nil] <;> omega) (fun _ => (wp_of fun f => by simp only [List.countP_append, List.countP_cons, List.countP_nil] <;> omega)) rfl rfl (Nat.le_of_ble_eq_true rfl) ⟨(Nat.le_of_ble_eq_true rfl), (Nat.le_of_ble_eq_true rfl)⟩ dX10_fill_20 (fun hd7 H locs ho hP hD hS => ?_)
  refine lv_aload_n hx hb dX10_fill_23 rfl (lv_at hl 0 rfl) ?_
  refine va_get (D := gD g) (ci := 9) (v := .ref (ha 1 0)) (C := RX10) (T := TX10) (N := 9) hx hb hts hinX10 hown hK hP 0 rfl rfl 0 (by decide) k0 (fun _ h9 => h9) rfl dX10_fill_24 ?_
  refine lv_iload_n hx hb dX10_fill_27 rfl (lv_at hl 1 rfl) ?_
  refine lv_iload_n hx hb dX10_fill_28 rfl (lv_at hl 2 rfl) ?_
  obtain ⟨o8, g9, hf⟩ := jbB_e hf
  refine cpv_i (As := [.int a0, .int a1]) (rest := []) (Wr := (wT g ha tv ++ wH g (ha 4) hd7 o5)) (Wn := (wT g ha tv ++ wQ g (ha 1) (o8.2) ++ wH g (ha 4) hd7 o5)) ⟨hx, hb, hml, hown, hts⟩ (c_X7_fillCell l g (ha 1) qv a0 a1 _ g9) (cwV 2 hts gX10_fill_X7_fillCell rfl rfl rfl hd_X7_fillCell ⟨Nat.le_of_ble_eq_true rfl, Nat.le_of_ble_eq_true rfl⟩) hK hZ hT hA hP hD hS hl.1 (va_recv hK hP (ci := 7) (q0 := 1) rfl rfl) (wp_of fun f => by simp only [List.countP_append, List.countP_cons, List.countP_nil] <;> omega) (wp_of fun f => by simp only [List.countP_append, List.countP_cons, List.countP_nil] <;> omega) rfl rfl (Nat.le_of_ble_eq_true rfl) ⟨Nat.le_of_ble_eq_true rfl, Nat.le_of_ble_eq_true rfl⟩ dX10_fill_29 (fun H locs hP hD hS => ?_)
  cases hf
  subst hQ
  exact ry_i (((o8.1), (o8.2), o5), hd7) rfl rfl hx hb hrt hlk rfl hK hP hD hS (Nat.le_of_ble_eq_true rfl) (Nat.le_of_ble_eq_true rfl) dX10_fill_32
def f_X10_toggleLedge (tv : TV) (qv : QV) (hv : HV) (a0 : Int32) (a1 : Int32) : Option (Sum (Nat × QV × HV) (Int32 × QV × HV)) :=
  (f_X3_cellFault a0 a1).bind fun o1 =>
  (f_X10_refuse o1).bind fun o3 => jbM o3 (fun xo3 => some (.inl (xo3, qv, hv))) (fun _ =>
  (f_X4_record hv qv).bind fun o5 =>
  (f_X7_switchLedge qv a0 a1).bind fun o8 =>
  if vp_nar .boolean (o8.1) = (o8.1) then some (.inr ((o8.1), (o8.2), o5)) else none)
def rm_X10_toggleLedge : Room := { frames := 9, cells := 11, slots := 244, locals := 140 }
theorem hd_X10_toggleLedge : yX10_toggleLedge.cls = RX10 ∧ yX10_toggleLedge.cls ≠ "java/lang/invoke/MethodHandle" ∧ yX10_toggleLedge.cls ≠ "java/lang/invoke/VarHandle" ∧ (parseMethodDescriptor yX10_toggleLedge.desc).map (fun d => d.parameters.length) = some 2 := by decide +kernel
set_option maxHeartbeats 4000000 in
set_option maxRecDepth 100000 in
theorem c_X10_toggleLedge (l : Launch) (hlt : l.stackTraces = false) (g : GG) (ha : Nat → Nat → Nat) (hd : Nat → Nat → Nat) (tv : TV) (qv : QV) (hv : HV) (a0 : Int32) (a1 : Int32) (out : Sum (Nat × QV × HV) (Int32 × QV × HV)) (hf : f_X10_toggleLedge tv qv hv a0 a1 = some out) : MyI l yX10_toggleLedge wsX10_toggleLedge rm_X10_toggleLedge g (wT g ha tv ++ wQ g (ha 1) qv ++ wH g (ha 4) hd hv) [.ref (ha 0 0), .int a0, .int a1] (fun u : (Int32 × QV × HV) × (Nat → Nat → Nat) => out = .inr u.1) (fun u : (Int32 × QV × HV) × (Nat → Nat → Nat) => (u.1.1)) (fun u : (Int32 × QV × HV) × (Nat → Nat → Nat) => (wT g ha tv ++ wQ g (ha 1) (u.1.2.1) ++ wH g (ha 4) u.2 (u.1.2.2))) (fun u : (Nat × QV × HV) × (Nat → Nat → Nat) => out = .inl u.1) (fun u : (Nat × QV × HV) × (Nat → Nat → Nat) => (u.1.1)) (fun u : (Nat × QV × HV) × (Nat → Nat → Nat) => (wT g ha tv ++ wQ g (ha 1) (u.1.2.1) ++ wH g (ha 4) u.2 (u.1.2.2))) 11 244 := by
  refine fun sz => mx_of (cc := cX10_toggleLedge) (maxL := 3) (ret := (some .boolean)) (own := RX10) (Qc := fun A => va_Qi (fun r (u : (Int32 × QV × HV) × (Nat → Nat → Nat)) => out = .inr u.1 ∧ r = (u.1.1)) (fun u t => PosM g A ((wT g ha tv ++ wQ g (ha 1) (u.1.2.1) ++ wH g (ha 4) u.2 (u.1.2.2))) t) A) (XC := fun A => vx_X (fun (u : (Nat × QV × HV) × (Nat → Nat → Nat)) => out = .inl u.1) (fun E u t => E = exn ((u.1.1)) ∧ PosM g A ((wT g ha tv ++ wQ g (ha 1) (u.1.2.1) ++ wH g (ha 4) u.2 (u.1.2.2))) t) A) (by decide +kernel) rfl rfl (Nat.le_of_ble_eq_true rfl) ?_ sz
  intro p e s mi below meth c A ls hB htb hrt hlk hP hD hl
  obtain ⟨hx, hb, hml, hown, hts, hK, hZ, hT, hA, -⟩ := hB
  have hS : va_S A s.heap s.heap [] := va_S.rf
  have hl : lv_has ls 3 [(0, .ref (ha 0 0)), (1, .int a0), (2, .int a1)] := hl
  have hinX10 : ∀ w ∈ wsX100, w ∈ wsX10_toggleLedge := by decide +kernel
  have k0 := hts (.fieldLink RX10 29 "TerraceQuarry" "history" "LTerraceQuarry$History;") (by decide +kernel)
  have k1 := hts (.fieldLink RX10 10 "TerraceQuarry" "quarry" "LTerraceQuarry$Quarry;") (by decide +kernel)
  generalize hQ : vx_MQ below _ _ _ _ _ _ _ = Q
  unfold f_X10_toggleLedge at hf
  refine lv_iload_n hx hb dX10_toggleLedge_0 rfl (lv_at hl 1 rfl) ?_
  refine lv_iload_n hx hb dX10_toggleLedge_1 rfl (lv_at hl 2 rfl) ?_
  obtain ⟨o1, g2, hf⟩ := jbB_e hf
  refine csn_e (As := [.int a0, .int a1]) (rest := []) ⟨hx, hb, hml, hown, hts⟩ (c_X3_cellFault l g a0 a1 _ g2) (va_cwS 2 hts gX10_toggleLedge_X3_cellFault rfl rfl rfl hd_X3_cellFault ⟨Nat.le_of_ble_eq_true rfl, Nat.le_of_ble_eq_true rfl⟩) hK hZ hT hA hP hD hS hl.1 rfl rfl (Nat.le_of_ble_eq_true rfl) ⟨Nat.le_of_ble_eq_true rfl, Nat.le_of_ble_eq_true rfl⟩ dX10_toggleLedge_2 (fun H locs hP hD hS => ?_)
  obtain ⟨o3, g4, hf⟩ := jbB_e hf
  refine cxn_v (As := [.ref (gS g 0 o1)]) (rest := []) ⟨hx, hb, hml, hown, hts⟩ (c_X10_refuse l hlt g o1 _ g4) (va_cwS 1 hts gX10_toggleLedge_X10_refuse rfl rfl rfl hd_X10_refuse ⟨Nat.le_of_ble_eq_true rfl, Nat.le_of_ble_eq_true rfl⟩) hK hZ hT hA hP hD hS hl.1 rfl rfl (Nat.le_of_ble_eq_true rfl) ⟨Nat.le_of_ble_eq_true rfl, Nat.le_of_ble_eq_true rfl⟩ dX10_toggleLedge_5 (fun xo3 ce q9 H locs ho hP hD hS hce hcv hcl => ?_) (fun _ H locs ho hP hD hS => ?_)
  · subst ho
    have hf := jbM_l hf
    cases hf
    subst hQ
    exact ry_x ((xo3, qv, hv), hd) rfl rfl htb hlk hK hP hD hS hce hcv hcl (Nat.le_of_ble_eq_true rfl) (Nat.le_of_ble_eq_true rfl)
  subst ho
  have hf := jbM_r hf
  refine lv_aload_n hx hb dX10_toggleLedge_8 rfl (lv_at hl 0 rfl) ?_
  refine va_get (D := gD g) (ci := 9) (v := .ref (ha 4 0)) (C := RX10) (T := TX10) (N := 9) hx hb hts hinX10 hown hK hP 0 rfl rfl 3 (by decide) k0 (fun _ h9 => h9) rfl dX10_toggleLedge_9 ?_
  refine lv_aload_n hx hb dX10_toggleLedge_12 rfl (lv_at hl 0 rfl) ?_
  refine va_get (D := gD g) (ci := 9) (v := .ref (ha 1 0)) (C := RX10) (T := TX10) (N := 9) hx hb hts hinX10 hown hK hP 0 rfl rfl 0 (by decide) k1 (fun _ h9 => h9) rfl dX10_toggleLedge_13 ?_
  have hPr : va_P (gD g) vwCl (wH g (ha 4) hd hv ++ (wT g ha tv ++ wQ g (ha 1) qv)) _ := wp_P (wp_of fun f => by simp only [List.countP_append, List.countP_cons, List.countP_nil] <;> omega) hP
  obtain ⟨o5, g6, hf⟩ := jbB_e hf
  refine czv_v (As := [.ref (ha 1 0)]) (rest := []) (Wr := (wT g ha tv)) (Wn := fun hd7 => (wT g ha tv ++ wQ g (ha 1) qv ++ wH g (ha 4) hd7 o5)) ⟨hx, hb, hml, hown, hts⟩ (c_X4_recordH l g (ha 4) hd hv (ha 1) qv _ g6) (cwV 1 hts gX10_toggleLedge_X4_record rfl rfl rfl hd_X4_record ⟨(Nat.le_of_ble_eq_true rfl), (Nat.le_of_ble_eq_true rfl)⟩) hK hZ hT hA hP hD hS hl.1 (va_recv hK hPr (ci := 4) (q0 := 0) rfl rfl) (wp_of fun f => by simp only [List.countP_append, List.countP_cons, List.countP_nil] <;> omega) (fun _ => (wp_of fun f => by simp only [List.countP_append, List.countP_cons, List.countP_nil] <;> omega)) rfl rfl (Nat.le_of_ble_eq_true rfl) ⟨(Nat.le_of_ble_eq_true rfl), (Nat.le_of_ble_eq_true rfl)⟩ dX10_toggleLedge_16 (fun hd7 H locs ho hP hD hS => ?_)
  refine lv_aload_n hx hb dX10_toggleLedge_19 rfl (lv_at hl 0 rfl) ?_
  refine va_get (D := gD g) (ci := 9) (v := .ref (ha 1 0)) (C := RX10) (T := TX10) (N := 9) hx hb hts hinX10 hown hK hP 0 rfl rfl 0 (by decide) k1 (fun _ h9 => h9) rfl dX10_toggleLedge_20 ?_
  refine lv_iload_n hx hb dX10_toggleLedge_23 rfl (lv_at hl 1 rfl) ?_
  refine lv_iload_n hx hb dX10_toggleLedge_24 rfl (lv_at hl 2 rfl) ?_
  obtain ⟨o8, g9, hf⟩ := jbB_e hf
  refine cpv_i (As := [.int a0, .int a1]) (rest := []) (Wr := (wT g ha tv ++ wH g (ha 4) hd7 o5)) (Wn := (wT g ha tv ++ wQ g (ha 1) (o8.2) ++ wH g (ha 4) hd7 o5)) ⟨hx, hb, hml, hown, hts⟩ (c_X7_switchLedge l g (ha 1) qv a0 a1 _ g9) (cwV 2 hts gX10_toggleLedge_X7_switchLedge rfl rfl rfl hd_X7_switchLedge ⟨Nat.le_of_ble_eq_true rfl, Nat.le_of_ble_eq_true rfl⟩) hK hZ hT hA hP hD hS hl.1 (va_recv hK hP (ci := 7) (q0 := 1) rfl rfl) (wp_of fun f => by simp only [List.countP_append, List.countP_cons, List.countP_nil] <;> omega) (wp_of fun f => by simp only [List.countP_append, List.countP_cons, List.countP_nil] <;> omega) rfl rfl (Nat.le_of_ble_eq_true rfl) ⟨Nat.le_of_ble_eq_true rfl, Nat.le_of_ble_eq_true rfl⟩ dX10_toggleLedge_25 (fun H locs hP hD hS => ?_)
  obtain ⟨h10, hf⟩ := jbA_e hf
  cases hf
  subst hQ
  exact ry_i (((o8.1), (o8.2), o5), hd7) rfl rfl hx hb hrt hlk (nar_z h10) hK hP hD hS (Nat.le_of_ble_eq_true rfl) (Nat.le_of_ble_eq_true rfl) dX10_toggleLedge_28
def f_X10_setStepLimit (tv : TV) (qv : QV) (hv : HV) (a0 : Int32) : Option (Sum (Nat × QV × HV) (Int32 × QV × HV)) :=
  (f_X7_limitFault qv a0).bind fun o1 =>
  (f_X10_refuse o1).bind fun o3 => jbM o3 (fun xo3 => some (.inl (xo3, qv, hv))) (fun _ =>
  (f_X4_record hv qv).bind fun o5 =>
  (f_X7_changeLimit qv a0).bind fun o8 =>
  some (.inr ((o8.1), (o8.2), o5)))
def rm_X10_setStepLimit : Room := { frames := 9, cells := 11, slots := 244, locals := 140 }
theorem hd_X10_setStepLimit : yX10_setStepLimit.cls = RX10 ∧ yX10_setStepLimit.cls ≠ "java/lang/invoke/MethodHandle" ∧ yX10_setStepLimit.cls ≠ "java/lang/invoke/VarHandle" ∧ (parseMethodDescriptor yX10_setStepLimit.desc).map (fun d => d.parameters.length) = some 1 := by decide +kernel
set_option maxHeartbeats 4000000 in
set_option maxRecDepth 100000 in
theorem c_X10_setStepLimit (l : Launch) (hlt : l.stackTraces = false) (g : GG) (ha : Nat → Nat → Nat) (hd : Nat → Nat → Nat) (tv : TV) (qv : QV) (hv : HV) (a0 : Int32) (out : Sum (Nat × QV × HV) (Int32 × QV × HV)) (hf : f_X10_setStepLimit tv qv hv a0 = some out) : MyI l yX10_setStepLimit wsX10_setStepLimit rm_X10_setStepLimit g (wT g ha tv ++ wQ g (ha 1) qv ++ wH g (ha 4) hd hv) [.ref (ha 0 0), .int a0] (fun u : (Int32 × QV × HV) × (Nat → Nat → Nat) => out = .inr u.1) (fun u : (Int32 × QV × HV) × (Nat → Nat → Nat) => (u.1.1)) (fun u : (Int32 × QV × HV) × (Nat → Nat → Nat) => (wT g ha tv ++ wQ g (ha 1) (u.1.2.1) ++ wH g (ha 4) u.2 (u.1.2.2))) (fun u : (Nat × QV × HV) × (Nat → Nat → Nat) => out = .inl u.1) (fun u : (Nat × QV × HV) × (Nat → Nat → Nat) => (u.1.1)) (fun u : (Nat × QV × HV) × (Nat → Nat → Nat) => (wT g ha tv ++ wQ g (ha 1) (u.1.2.1) ++ wH g (ha 4) u.2 (u.1.2.2))) 11 244 := by
  refine fun sz => mx_of (cc := cX10_setStepLimit) (maxL := 2) (ret := (some .int)) (own := RX10) (Qc := fun A => va_Qi (fun r (u : (Int32 × QV × HV) × (Nat → Nat → Nat)) => out = .inr u.1 ∧ r = (u.1.1)) (fun u t => PosM g A ((wT g ha tv ++ wQ g (ha 1) (u.1.2.1) ++ wH g (ha 4) u.2 (u.1.2.2))) t) A) (XC := fun A => vx_X (fun (u : (Nat × QV × HV) × (Nat → Nat → Nat)) => out = .inl u.1) (fun E u t => E = exn ((u.1.1)) ∧ PosM g A ((wT g ha tv ++ wQ g (ha 1) (u.1.2.1) ++ wH g (ha 4) u.2 (u.1.2.2))) t) A) (by decide +kernel) rfl rfl (Nat.le_of_ble_eq_true rfl) ?_ sz
  intro p e s mi below meth c A ls hB htb hrt hlk hP hD hl
  obtain ⟨hx, hb, hml, hown, hts, hK, hZ, hT, hA, -⟩ := hB
  have hS : va_S A s.heap s.heap [] := va_S.rf
  have hl : lv_has ls 2 [(0, .ref (ha 0 0)), (1, .int a0)] := hl
  have hinX10 : ∀ w ∈ wsX100, w ∈ wsX10_setStepLimit := by decide +kernel
  have k0 := hts (.fieldLink RX10 10 "TerraceQuarry" "quarry" "LTerraceQuarry$Quarry;") (by decide +kernel)
  have k1 := hts (.fieldLink RX10 29 "TerraceQuarry" "history" "LTerraceQuarry$History;") (by decide +kernel)
  generalize hQ : vx_MQ below _ _ _ _ _ _ _ = Q
  unfold f_X10_setStepLimit at hf
  refine lv_aload_n hx hb dX10_setStepLimit_0 rfl (lv_at hl 0 rfl) ?_
  refine va_get (D := gD g) (ci := 9) (v := .ref (ha 1 0)) (C := RX10) (T := TX10) (N := 9) hx hb hts hinX10 hown hK hP 0 rfl rfl 0 (by decide) k0 (fun _ h9 => h9) rfl dX10_setStepLimit_1 ?_
  refine lv_iload_n hx hb dX10_setStepLimit_4 rfl (lv_at hl 1 rfl) ?_
  obtain ⟨o1, g2, hf⟩ := jbB_e hf
  refine cpv_r (rv := some _) (As := [.int a0]) (rest := []) (Wr := (wT g ha tv ++ wH g (ha 4) hd hv)) (Wn := (wT g ha tv ++ wQ g (ha 1) qv ++ wH g (ha 4) hd hv)) ⟨hx, hb, hml, hown, hts⟩ (c_X7_limitFault l g (ha 1) qv a0 _ g2) (cwV 1 hts gX10_setStepLimit_X7_limitFault rfl rfl rfl hd_X7_limitFault ⟨Nat.le_of_ble_eq_true rfl, Nat.le_of_ble_eq_true rfl⟩) hK hZ hT hA hP hD hS hl.1 (va_recv hK hP (ci := 7) (q0 := 1) rfl rfl) (wp_of fun f => by simp only [List.countP_append, List.countP_cons, List.countP_nil] <;> omega) (wp_of fun f => by simp only [List.countP_append, List.countP_cons, List.countP_nil] <;> omega) rfl rfl (Nat.le_of_ble_eq_true rfl) ⟨Nat.le_of_ble_eq_true rfl, Nat.le_of_ble_eq_true rfl⟩ dX10_setStepLimit_5 (fun H locs hP hD hS => ?_)
  obtain ⟨o3, g4, hf⟩ := jbB_e hf
  refine cxn_v (As := [.ref (gS g 0 o1)]) (rest := []) ⟨hx, hb, hml, hown, hts⟩ (c_X10_refuse l hlt g o1 _ g4) (va_cwS 1 hts gX10_setStepLimit_X10_refuse rfl rfl rfl hd_X10_refuse ⟨Nat.le_of_ble_eq_true rfl, Nat.le_of_ble_eq_true rfl⟩) hK hZ hT hA hP hD hS hl.1 rfl rfl (Nat.le_of_ble_eq_true rfl) ⟨Nat.le_of_ble_eq_true rfl, Nat.le_of_ble_eq_true rfl⟩ dX10_setStepLimit_8 (fun xo3 ce q9 H locs ho hP hD hS hce hcv hcl => ?_) (fun _ H locs ho hP hD hS => ?_)
  · subst ho
    have hf := jbM_l hf
    cases hf
    subst hQ
    exact ry_x ((xo3, qv, hv), hd) rfl rfl htb hlk hK hP hD hS hce hcv hcl (Nat.le_of_ble_eq_true rfl) (Nat.le_of_ble_eq_true rfl)
  subst ho
  have hf := jbM_r hf
  refine lv_aload_n hx hb dX10_setStepLimit_11 rfl (lv_at hl 0 rfl) ?_
  refine va_get (D := gD g) (ci := 9) (v := .ref (ha 4 0)) (C := RX10) (T := TX10) (N := 9) hx hb hts hinX10 hown hK hP 0 rfl rfl 3 (by decide) k1 (fun _ h9 => h9) rfl dX10_setStepLimit_12 ?_
  refine lv_aload_n hx hb dX10_setStepLimit_15 rfl (lv_at hl 0 rfl) ?_
  refine va_get (D := gD g) (ci := 9) (v := .ref (ha 1 0)) (C := RX10) (T := TX10) (N := 9) hx hb hts hinX10 hown hK hP 0 rfl rfl 0 (by decide) k0 (fun _ h9 => h9) rfl dX10_setStepLimit_16 ?_
  have hPr : va_P (gD g) vwCl (wH g (ha 4) hd hv ++ (wT g ha tv ++ wQ g (ha 1) qv)) _ := wp_P (wp_of fun f => by simp only [List.countP_append, List.countP_cons, List.countP_nil] <;> omega) hP
  obtain ⟨o5, g6, hf⟩ := jbB_e hf
  refine czv_v (As := [.ref (ha 1 0)]) (rest := []) (Wr := (wT g ha tv)) (Wn := fun hd7 => (wT g ha tv ++ wQ g (ha 1) qv ++ wH g (ha 4) hd7 o5)) ⟨hx, hb, hml, hown, hts⟩ (c_X4_recordH l g (ha 4) hd hv (ha 1) qv _ g6) (cwV 1 hts gX10_setStepLimit_X4_record rfl rfl rfl hd_X4_record ⟨(Nat.le_of_ble_eq_true rfl), (Nat.le_of_ble_eq_true rfl)⟩) hK hZ hT hA hP hD hS hl.1 (va_recv hK hPr (ci := 4) (q0 := 0) rfl rfl) (wp_of fun f => by simp only [List.countP_append, List.countP_cons, List.countP_nil] <;> omega) (fun _ => (wp_of fun f => by simp only [List.countP_append, List.countP_cons, List.countP_nil] <;> omega)) rfl rfl (Nat.le_of_ble_eq_true rfl) ⟨(Nat.le_of_ble_eq_true rfl), (Nat.le_of_ble_eq_true rfl)⟩ dX10_setStepLimit_19 (fun hd7 H locs ho hP hD hS => ?_)
  refine lv_aload_n hx hb dX10_setStepLimit_22 rfl (lv_at hl 0 rfl) ?_
  refine va_get (D := gD g) (ci := 9) (v := .ref (ha 1 0)) (C := RX10) (T := TX10) (N := 9) hx hb hts hinX10 hown hK hP 0 rfl rfl 0 (by decide) k0 (fun _ h9 => h9) rfl dX10_setStepLimit_23 ?_
  refine lv_iload_n hx hb dX10_setStepLimit_26 rfl (lv_at hl 1 rfl) ?_
  obtain ⟨o8, g9, hf⟩ := jbB_e hf
  refine cpv_i (As := [.int a0]) (rest := []) (Wr := (wT g ha tv ++ wH g (ha 4) hd7 o5)) (Wn := (wT g ha tv ++ wQ g (ha 1) (o8.2) ++ wH g (ha 4) hd7 o5)) ⟨hx, hb, hml, hown, hts⟩ (c_X7_changeLimit l g (ha 1) qv a0 _ g9) (cwV 1 hts gX10_setStepLimit_X7_changeLimit rfl rfl rfl hd_X7_changeLimit ⟨Nat.le_of_ble_eq_true rfl, Nat.le_of_ble_eq_true rfl⟩) hK hZ hT hA hP hD hS hl.1 (va_recv hK hP (ci := 7) (q0 := 1) rfl rfl) (wp_of fun f => by simp only [List.countP_append, List.countP_cons, List.countP_nil] <;> omega) (wp_of fun f => by simp only [List.countP_append, List.countP_cons, List.countP_nil] <;> omega) rfl rfl (Nat.le_of_ble_eq_true rfl) ⟨Nat.le_of_ble_eq_true rfl, Nat.le_of_ble_eq_true rfl⟩ dX10_setStepLimit_27 (fun H locs hP hD hS => ?_)
  cases hf
  subst hQ
  exact ry_i (((o8.1), (o8.2), o5), hd7) rfl rfl hx hb hrt hlk rfl hK hP hD hS (Nat.le_of_ble_eq_true rfl) (Nat.le_of_ble_eq_true rfl) dX10_setStepLimit_30
def f_X10_addWinch (tv : TV) (qv : QV) (hv : HV) (a0 : Int32) (a1 : Int32) (a2 : Int32) (a3 : Int32) : Option (Sum (Nat × QV × HV) (Int32 × QV × HV)) :=
  (f_X7_winchFault qv a0 a1 a2 a3).bind fun o1 =>
  (f_X10_refuse o1).bind fun o3 => jbM o3 (fun xo3 => some (.inl (xo3, qv, hv))) (fun _ =>
  (f_X4_record hv qv).bind fun o5 =>
  (f_X7_placeWinch qv a0 a1 a2 a3).bind fun o8 =>
  some (.inr ((o8.1), (o8.2), o5)))
def rm_X10_addWinch : Room := { frames := 9, cells := 11, slots := 244, locals := 140 }
theorem hd_X10_addWinch : yX10_addWinch.cls = RX10 ∧ yX10_addWinch.cls ≠ "java/lang/invoke/MethodHandle" ∧ yX10_addWinch.cls ≠ "java/lang/invoke/VarHandle" ∧ (parseMethodDescriptor yX10_addWinch.desc).map (fun d => d.parameters.length) = some 4 := by decide +kernel
set_option maxHeartbeats 4000000 in
set_option maxRecDepth 100000 in
theorem c_X10_addWinch (l : Launch) (hlt : l.stackTraces = false) (g : GG) (ha : Nat → Nat → Nat) (hd : Nat → Nat → Nat) (tv : TV) (qv : QV) (hv : HV) (a0 : Int32) (a1 : Int32) (a2 : Int32) (a3 : Int32) (out : Sum (Nat × QV × HV) (Int32 × QV × HV)) (hf : f_X10_addWinch tv qv hv a0 a1 a2 a3 = some out) : MyI l yX10_addWinch wsX10_addWinch rm_X10_addWinch g (wT g ha tv ++ wQ g (ha 1) qv ++ wH g (ha 4) hd hv) [.ref (ha 0 0), .int a0, .int a1, .int a2, .int a3] (fun u : (Int32 × QV × HV) × (Nat → Nat → Nat) => out = .inr u.1) (fun u : (Int32 × QV × HV) × (Nat → Nat → Nat) => (u.1.1)) (fun u : (Int32 × QV × HV) × (Nat → Nat → Nat) => (wT g ha tv ++ wQ g (ha 1) (u.1.2.1) ++ wH g (ha 4) u.2 (u.1.2.2))) (fun u : (Nat × QV × HV) × (Nat → Nat → Nat) => out = .inl u.1) (fun u : (Nat × QV × HV) × (Nat → Nat → Nat) => (u.1.1)) (fun u : (Nat × QV × HV) × (Nat → Nat → Nat) => (wT g ha tv ++ wQ g (ha 1) (u.1.2.1) ++ wH g (ha 4) u.2 (u.1.2.2))) 11 244 := by
  refine fun sz => mx_of (cc := cX10_addWinch) (maxL := 5) (ret := (some .int)) (own := RX10) (Qc := fun A => va_Qi (fun r (u : (Int32 × QV × HV) × (Nat → Nat → Nat)) => out = .inr u.1 ∧ r = (u.1.1)) (fun u t => PosM g A ((wT g ha tv ++ wQ g (ha 1) (u.1.2.1) ++ wH g (ha 4) u.2 (u.1.2.2))) t) A) (XC := fun A => vx_X (fun (u : (Nat × QV × HV) × (Nat → Nat → Nat)) => out = .inl u.1) (fun E u t => E = exn ((u.1.1)) ∧ PosM g A ((wT g ha tv ++ wQ g (ha 1) (u.1.2.1) ++ wH g (ha 4) u.2 (u.1.2.2))) t) A) (by decide +kernel) rfl rfl (Nat.le_of_ble_eq_true rfl) ?_ sz
  intro p e s mi below meth c A ls hB htb hrt hlk hP hD hl
  obtain ⟨hx, hb, hml, hown, hts, hK, hZ, hT, hA, -⟩ := hB
  have hS : va_S A s.heap s.heap [] := va_S.rf
  have hl : lv_has ls 5 [(0, .ref (ha 0 0)), (1, .int a0), (2, .int a1), (3, .int a2), (4, .int a3)] := hl
  have hinX10 : ∀ w ∈ wsX100, w ∈ wsX10_addWinch := by decide +kernel
  have k0 := hts (.fieldLink RX10 10 "TerraceQuarry" "quarry" "LTerraceQuarry$Quarry;") (by decide +kernel)
  have k1 := hts (.fieldLink RX10 29 "TerraceQuarry" "history" "LTerraceQuarry$History;") (by decide +kernel)
  generalize hQ : vx_MQ below _ _ _ _ _ _ _ = Q
  unfold f_X10_addWinch at hf
  refine lv_aload_n hx hb dX10_addWinch_0 rfl (lv_at hl 0 rfl) ?_
  refine va_get (D := gD g) (ci := 9) (v := .ref (ha 1 0)) (C := RX10) (T := TX10) (N := 9) hx hb hts hinX10 hown hK hP 0 rfl rfl 0 (by decide) k0 (fun _ h9 => h9) rfl dX10_addWinch_1 ?_
  refine lv_iload_n hx hb dX10_addWinch_4 rfl (lv_at hl 1 rfl) ?_
  refine lv_iload_n hx hb dX10_addWinch_5 rfl (lv_at hl 2 rfl) ?_
  refine lv_iload_n hx hb dX10_addWinch_6 rfl (lv_at hl 3 rfl) ?_
  refine lv_iload hx hb dX10_addWinch_7 (lv_at hl 4 rfl) ?_
  obtain ⟨o1, g2, hf⟩ := jbB_e hf
  refine cpv_r (rv := some _) (As := [.int a0, .int a1, .int a2, .int a3]) (rest := []) (Wr := (wT g ha tv ++ wH g (ha 4) hd hv)) (Wn := (wT g ha tv ++ wQ g (ha 1) qv ++ wH g (ha 4) hd hv)) ⟨hx, hb, hml, hown, hts⟩ (c_X7_winchFault l g (ha 1) qv a0 a1 a2 a3 _ g2) (cwV 4 hts gX10_addWinch_X7_winchFault rfl rfl rfl hd_X7_winchFault ⟨Nat.le_of_ble_eq_true rfl, Nat.le_of_ble_eq_true rfl⟩) hK hZ hT hA hP hD hS hl.1 (va_recv hK hP (ci := 7) (q0 := 1) rfl rfl) (wp_of fun f => by simp only [List.countP_append, List.countP_cons, List.countP_nil] <;> omega) (wp_of fun f => by simp only [List.countP_append, List.countP_cons, List.countP_nil] <;> omega) rfl rfl (Nat.le_of_ble_eq_true rfl) ⟨Nat.le_of_ble_eq_true rfl, Nat.le_of_ble_eq_true rfl⟩ dX10_addWinch_9 (fun H locs hP hD hS => ?_)
  obtain ⟨o3, g4, hf⟩ := jbB_e hf
  refine cxn_v (As := [.ref (gS g 0 o1)]) (rest := []) ⟨hx, hb, hml, hown, hts⟩ (c_X10_refuse l hlt g o1 _ g4) (va_cwS 1 hts gX10_addWinch_X10_refuse rfl rfl rfl hd_X10_refuse ⟨Nat.le_of_ble_eq_true rfl, Nat.le_of_ble_eq_true rfl⟩) hK hZ hT hA hP hD hS hl.1 rfl rfl (Nat.le_of_ble_eq_true rfl) ⟨Nat.le_of_ble_eq_true rfl, Nat.le_of_ble_eq_true rfl⟩ dX10_addWinch_12 (fun xo3 ce q9 H locs ho hP hD hS hce hcv hcl => ?_) (fun _ H locs ho hP hD hS => ?_)
  · subst ho
    have hf := jbM_l hf
    cases hf
    subst hQ
    exact ry_x ((xo3, qv, hv), hd) rfl rfl htb hlk hK hP hD hS hce hcv hcl (Nat.le_of_ble_eq_true rfl) (Nat.le_of_ble_eq_true rfl)
  subst ho
  have hf := jbM_r hf
  refine lv_aload_n hx hb dX10_addWinch_15 rfl (lv_at hl 0 rfl) ?_
  refine va_get (D := gD g) (ci := 9) (v := .ref (ha 4 0)) (C := RX10) (T := TX10) (N := 9) hx hb hts hinX10 hown hK hP 0 rfl rfl 3 (by decide) k1 (fun _ h9 => h9) rfl dX10_addWinch_16 ?_
  refine lv_aload_n hx hb dX10_addWinch_19 rfl (lv_at hl 0 rfl) ?_
  refine va_get (D := gD g) (ci := 9) (v := .ref (ha 1 0)) (C := RX10) (T := TX10) (N := 9) hx hb hts hinX10 hown hK hP 0 rfl rfl 0 (by decide) k0 (fun _ h9 => h9) rfl dX10_addWinch_20 ?_
  have hPr : va_P (gD g) vwCl (wH g (ha 4) hd hv ++ (wT g ha tv ++ wQ g (ha 1) qv)) _ := wp_P (wp_of fun f => by simp only [List.countP_append, List.countP_cons, List.countP_nil] <;> omega) hP
  obtain ⟨o5, g6, hf⟩ := jbB_e hf
  refine czv_v (As := [.ref (ha 1 0)]) (rest := []) (Wr := (wT g ha tv)) (Wn := fun hd7 => (wT g ha tv ++ wQ g (ha 1) qv ++ wH g (ha 4) hd7 o5)) ⟨hx, hb, hml, hown, hts⟩ (c_X4_recordH l g (ha 4) hd hv (ha 1) qv _ g6) (cwV 1 hts gX10_addWinch_X4_record rfl rfl rfl hd_X4_record ⟨(Nat.le_of_ble_eq_true rfl), (Nat.le_of_ble_eq_true rfl)⟩) hK hZ hT hA hP hD hS hl.1 (va_recv hK hPr (ci := 4) (q0 := 0) rfl rfl) (wp_of fun f => by simp only [List.countP_append, List.countP_cons, List.countP_nil] <;> omega) (fun _ => (wp_of fun f => by simp only [List.countP_append, List.countP_cons, List.countP_nil] <;> omega)) rfl rfl (Nat.le_of_ble_eq_true rfl) ⟨(Nat.le_of_ble_eq_true rfl), (Nat.le_of_ble_eq_true rfl)⟩ dX10_addWinch_23 (fun hd7 H locs ho hP hD hS => ?_)
  refine lv_aload_n hx hb dX10_addWinch_26 rfl (lv_at hl 0 rfl) ?_
  refine va_get (D := gD g) (ci := 9) (v := .ref (ha 1 0)) (C := RX10) (T := TX10) (N := 9) hx hb hts hinX10 hown hK hP 0 rfl rfl 0 (by decide) k0 (fun _ h9 => h9) rfl dX10_addWinch_27 ?_
  refine lv_iload_n hx hb dX10_addWinch_30 rfl (lv_at hl 1 rfl) ?_
  refine lv_iload_n hx hb dX10_addWinch_31 rfl (lv_at hl 2 rfl) ?_
  refine lv_iload_n hx hb dX10_addWinch_32 rfl (lv_at hl 3 rfl) ?_
  refine lv_iload hx hb dX10_addWinch_33 (lv_at hl 4 rfl) ?_
  obtain ⟨o8, g9, hf⟩ := jbB_e hf
  refine cpv_i (As := [.int a0, .int a1, .int a2, .int a3]) (rest := []) (Wr := (wT g ha tv ++ wH g (ha 4) hd7 o5)) (Wn := (wT g ha tv ++ wQ g (ha 1) (o8.2) ++ wH g (ha 4) hd7 o5)) ⟨hx, hb, hml, hown, hts⟩ (c_X7_placeWinch l g (ha 1) qv a0 a1 a2 a3 _ g9) (cwV 4 hts gX10_addWinch_X7_placeWinch rfl rfl rfl hd_X7_placeWinch ⟨Nat.le_of_ble_eq_true rfl, Nat.le_of_ble_eq_true rfl⟩) hK hZ hT hA hP hD hS hl.1 (va_recv hK hP (ci := 7) (q0 := 1) rfl rfl) (wp_of fun f => by simp only [List.countP_append, List.countP_cons, List.countP_nil] <;> omega) (wp_of fun f => by simp only [List.countP_append, List.countP_cons, List.countP_nil] <;> omega) rfl rfl (Nat.le_of_ble_eq_true rfl) ⟨Nat.le_of_ble_eq_true rfl, Nat.le_of_ble_eq_true rfl⟩ dX10_addWinch_35 (fun H locs hP hD hS => ?_)
  cases hf
  subst hQ
  exact ry_i (((o8.1), (o8.2), o5), hd7) rfl rfl hx hb hrt hlk rfl hK hP hD hS (Nat.le_of_ble_eq_true rfl) (Nat.le_of_ble_eq_true rfl) dX10_addWinch_38
def f_X10_lift (tv : TV) (qv : QV) (hv : HV) (a0 : Int32) (a1 : Int32) (a2 : Int32) : Option (Sum (Nat × QV × HV) (Int32 × QV × HV)) :=
  (f_X7_liftFault qv a0 a1 a2).bind fun o1 =>
  (f_X10_refuse o1).bind fun o3 => jbM o3 (fun xo3 => some (.inl (xo3, qv, hv))) (fun _ =>
  (f_X4_record hv qv).bind fun o5 =>
  (f_X7_liftBlock qv a1 a2).bind fun o8 =>
  some (.inr ((o8.1), (o8.2), o5)))
def rm_X10_lift : Room := { frames := 9, cells := 11, slots := 244, locals := 140 }
theorem hd_X10_lift : yX10_lift.cls = RX10 ∧ yX10_lift.cls ≠ "java/lang/invoke/MethodHandle" ∧ yX10_lift.cls ≠ "java/lang/invoke/VarHandle" ∧ (parseMethodDescriptor yX10_lift.desc).map (fun d => d.parameters.length) = some 3 := by decide +kernel
set_option maxHeartbeats 4000000 in
set_option maxRecDepth 100000 in
theorem c_X10_lift (l : Launch) (hlt : l.stackTraces = false) (g : GG) (ha : Nat → Nat → Nat) (hd : Nat → Nat → Nat) (tv : TV) (qv : QV) (hv : HV) (a0 : Int32) (a1 : Int32) (a2 : Int32) (out : Sum (Nat × QV × HV) (Int32 × QV × HV)) (hf : f_X10_lift tv qv hv a0 a1 a2 = some out) : MyI l yX10_lift wsX10_lift rm_X10_lift g (wT g ha tv ++ wQ g (ha 1) qv ++ wH g (ha 4) hd hv) [.ref (ha 0 0), .int a0, .int a1, .int a2] (fun u : (Int32 × QV × HV) × (Nat → Nat → Nat) => out = .inr u.1) (fun u : (Int32 × QV × HV) × (Nat → Nat → Nat) => (u.1.1)) (fun u : (Int32 × QV × HV) × (Nat → Nat → Nat) => (wT g ha tv ++ wQ g (ha 1) (u.1.2.1) ++ wH g (ha 4) u.2 (u.1.2.2))) (fun u : (Nat × QV × HV) × (Nat → Nat → Nat) => out = .inl u.1) (fun u : (Nat × QV × HV) × (Nat → Nat → Nat) => (u.1.1)) (fun u : (Nat × QV × HV) × (Nat → Nat → Nat) => (wT g ha tv ++ wQ g (ha 1) (u.1.2.1) ++ wH g (ha 4) u.2 (u.1.2.2))) 11 244 := by
  refine fun sz => mx_of (cc := cX10_lift) (maxL := 4) (ret := (some .int)) (own := RX10) (Qc := fun A => va_Qi (fun r (u : (Int32 × QV × HV) × (Nat → Nat → Nat)) => out = .inr u.1 ∧ r = (u.1.1)) (fun u t => PosM g A ((wT g ha tv ++ wQ g (ha 1) (u.1.2.1) ++ wH g (ha 4) u.2 (u.1.2.2))) t) A) (XC := fun A => vx_X (fun (u : (Nat × QV × HV) × (Nat → Nat → Nat)) => out = .inl u.1) (fun E u t => E = exn ((u.1.1)) ∧ PosM g A ((wT g ha tv ++ wQ g (ha 1) (u.1.2.1) ++ wH g (ha 4) u.2 (u.1.2.2))) t) A) (by decide +kernel) rfl rfl (Nat.le_of_ble_eq_true rfl) ?_ sz
  intro p e s mi below meth c A ls hB htb hrt hlk hP hD hl
  obtain ⟨hx, hb, hml, hown, hts, hK, hZ, hT, hA, -⟩ := hB
  have hS : va_S A s.heap s.heap [] := va_S.rf
  have hl : lv_has ls 4 [(0, .ref (ha 0 0)), (1, .int a0), (2, .int a1), (3, .int a2)] := hl
  have hinX10 : ∀ w ∈ wsX100, w ∈ wsX10_lift := by decide +kernel
  have k0 := hts (.fieldLink RX10 10 "TerraceQuarry" "quarry" "LTerraceQuarry$Quarry;") (by decide +kernel)
  have k1 := hts (.fieldLink RX10 29 "TerraceQuarry" "history" "LTerraceQuarry$History;") (by decide +kernel)
  generalize hQ : vx_MQ below _ _ _ _ _ _ _ = Q
  unfold f_X10_lift at hf
  refine lv_aload_n hx hb dX10_lift_0 rfl (lv_at hl 0 rfl) ?_
  refine va_get (D := gD g) (ci := 9) (v := .ref (ha 1 0)) (C := RX10) (T := TX10) (N := 9) hx hb hts hinX10 hown hK hP 0 rfl rfl 0 (by decide) k0 (fun _ h9 => h9) rfl dX10_lift_1 ?_
  refine lv_iload_n hx hb dX10_lift_4 rfl (lv_at hl 1 rfl) ?_
  refine lv_iload_n hx hb dX10_lift_5 rfl (lv_at hl 2 rfl) ?_
  refine lv_iload_n hx hb dX10_lift_6 rfl (lv_at hl 3 rfl) ?_
  obtain ⟨o1, g2, hf⟩ := jbB_e hf
  refine cpv_r (rv := some _) (As := [.int a0, .int a1, .int a2]) (rest := []) (Wr := (wT g ha tv ++ wH g (ha 4) hd hv)) (Wn := (wT g ha tv ++ wQ g (ha 1) qv ++ wH g (ha 4) hd hv)) ⟨hx, hb, hml, hown, hts⟩ (c_X7_liftFault l g (ha 1) qv a0 a1 a2 _ g2) (cwV 3 hts gX10_lift_X7_liftFault rfl rfl rfl hd_X7_liftFault ⟨Nat.le_of_ble_eq_true rfl, Nat.le_of_ble_eq_true rfl⟩) hK hZ hT hA hP hD hS hl.1 (va_recv hK hP (ci := 7) (q0 := 1) rfl rfl) (wp_of fun f => by simp only [List.countP_append, List.countP_cons, List.countP_nil] <;> omega) (wp_of fun f => by simp only [List.countP_append, List.countP_cons, List.countP_nil] <;> omega) rfl rfl (Nat.le_of_ble_eq_true rfl) ⟨Nat.le_of_ble_eq_true rfl, Nat.le_of_ble_eq_true rfl⟩ dX10_lift_7 (fun H locs hP hD hS => ?_)
  obtain ⟨o3, g4, hf⟩ := jbB_e hf
  refine cxn_v (As := [.ref (gS g 0 o1)]) (rest := []) ⟨hx, hb, hml, hown, hts⟩ (c_X10_refuse l hlt g o1 _ g4) (va_cwS 1 hts gX10_lift_X10_refuse rfl rfl rfl hd_X10_refuse ⟨Nat.le_of_ble_eq_true rfl, Nat.le_of_ble_eq_true rfl⟩) hK hZ hT hA hP hD hS hl.1 rfl rfl (Nat.le_of_ble_eq_true rfl) ⟨Nat.le_of_ble_eq_true rfl, Nat.le_of_ble_eq_true rfl⟩ dX10_lift_10 (fun xo3 ce q9 H locs ho hP hD hS hce hcv hcl => ?_) (fun _ H locs ho hP hD hS => ?_)
  · subst ho
    have hf := jbM_l hf
    cases hf
    subst hQ
    exact ry_x ((xo3, qv, hv), hd) rfl rfl htb hlk hK hP hD hS hce hcv hcl (Nat.le_of_ble_eq_true rfl) (Nat.le_of_ble_eq_true rfl)
  subst ho
  have hf := jbM_r hf
  refine lv_aload_n hx hb dX10_lift_13 rfl (lv_at hl 0 rfl) ?_
  refine va_get (D := gD g) (ci := 9) (v := .ref (ha 4 0)) (C := RX10) (T := TX10) (N := 9) hx hb hts hinX10 hown hK hP 0 rfl rfl 3 (by decide) k1 (fun _ h9 => h9) rfl dX10_lift_14 ?_
  refine lv_aload_n hx hb dX10_lift_17 rfl (lv_at hl 0 rfl) ?_
  refine va_get (D := gD g) (ci := 9) (v := .ref (ha 1 0)) (C := RX10) (T := TX10) (N := 9) hx hb hts hinX10 hown hK hP 0 rfl rfl 0 (by decide) k0 (fun _ h9 => h9) rfl dX10_lift_18 ?_
  have hPr : va_P (gD g) vwCl (wH g (ha 4) hd hv ++ (wT g ha tv ++ wQ g (ha 1) qv)) _ := wp_P (wp_of fun f => by simp only [List.countP_append, List.countP_cons, List.countP_nil] <;> omega) hP
  obtain ⟨o5, g6, hf⟩ := jbB_e hf
  refine czv_v (As := [.ref (ha 1 0)]) (rest := []) (Wr := (wT g ha tv)) (Wn := fun hd7 => (wT g ha tv ++ wQ g (ha 1) qv ++ wH g (ha 4) hd7 o5)) ⟨hx, hb, hml, hown, hts⟩ (c_X4_recordH l g (ha 4) hd hv (ha 1) qv _ g6) (cwV 1 hts gX10_lift_X4_record rfl rfl rfl hd_X4_record ⟨(Nat.le_of_ble_eq_true rfl), (Nat.le_of_ble_eq_true rfl)⟩) hK hZ hT hA hP hD hS hl.1 (va_recv hK hPr (ci := 4) (q0 := 0) rfl rfl) (wp_of fun f => by simp only [List.countP_append, List.countP_cons, List.countP_nil] <;> omega) (fun _ => (wp_of fun f => by simp only [List.countP_append, List.countP_cons, List.countP_nil] <;> omega)) rfl rfl (Nat.le_of_ble_eq_true rfl) ⟨(Nat.le_of_ble_eq_true rfl), (Nat.le_of_ble_eq_true rfl)⟩ dX10_lift_21 (fun hd7 H locs ho hP hD hS => ?_)
  refine lv_aload_n hx hb dX10_lift_24 rfl (lv_at hl 0 rfl) ?_
  refine va_get (D := gD g) (ci := 9) (v := .ref (ha 1 0)) (C := RX10) (T := TX10) (N := 9) hx hb hts hinX10 hown hK hP 0 rfl rfl 0 (by decide) k0 (fun _ h9 => h9) rfl dX10_lift_25 ?_
  refine lv_iload_n hx hb dX10_lift_28 rfl (lv_at hl 2 rfl) ?_
  refine lv_iload_n hx hb dX10_lift_29 rfl (lv_at hl 3 rfl) ?_
  obtain ⟨o8, g9, hf⟩ := jbB_e hf
  refine cpv_i (As := [.int a1, .int a2]) (rest := []) (Wr := (wT g ha tv ++ wH g (ha 4) hd7 o5)) (Wn := (wT g ha tv ++ wQ g (ha 1) (o8.2) ++ wH g (ha 4) hd7 o5)) ⟨hx, hb, hml, hown, hts⟩ (c_X7_liftBlock l g (ha 1) qv a1 a2 _ g9) (cwV 2 hts gX10_lift_X7_liftBlock rfl rfl rfl hd_X7_liftBlock ⟨Nat.le_of_ble_eq_true rfl, Nat.le_of_ble_eq_true rfl⟩) hK hZ hT hA hP hD hS hl.1 (va_recv hK hP (ci := 7) (q0 := 1) rfl rfl) (wp_of fun f => by simp only [List.countP_append, List.countP_cons, List.countP_nil] <;> omega) (wp_of fun f => by simp only [List.countP_append, List.countP_cons, List.countP_nil] <;> omega) rfl rfl (Nat.le_of_ble_eq_true rfl) ⟨Nat.le_of_ble_eq_true rfl, Nat.le_of_ble_eq_true rfl⟩ dX10_lift_30 (fun H locs hP hD hS => ?_)
  cases hf
  subst hQ
  exact ry_i (((o8.1), (o8.2), o5), hd7) rfl rfl hx hb hrt hlk rfl hK hP hD hS (Nat.le_of_ble_eq_true rfl) (Nat.le_of_ble_eq_true rfl) dX10_lift_33
def f_X10_crush (tv : TV) (qv : QV) (hv : HV) (a0 : Int32) (a1 : Int32) : Option (Sum (Nat × QV × HV) (Int32 × QV × HV)) :=
  (f_X7_crushFault qv a0 a1).bind fun o1 =>
  (f_X10_refuse o1).bind fun o3 => jbM o3 (fun xo3 => some (.inl (xo3, qv, hv))) (fun _ =>
  (f_X4_record hv qv).bind fun o5 =>
  (f_X7_crushBlocks qv a0 a1).bind fun o8 =>
  some (.inr ((o8.1), (o8.2), o5)))
def rm_X10_crush : Room := { frames := 9, cells := 11, slots := 244, locals := 140 }
theorem hd_X10_crush : yX10_crush.cls = RX10 ∧ yX10_crush.cls ≠ "java/lang/invoke/MethodHandle" ∧ yX10_crush.cls ≠ "java/lang/invoke/VarHandle" ∧ (parseMethodDescriptor yX10_crush.desc).map (fun d => d.parameters.length) = some 2 := by decide +kernel
set_option maxHeartbeats 4000000 in
set_option maxRecDepth 100000 in
theorem c_X10_crush (l : Launch) (hlt : l.stackTraces = false) (g : GG) (ha : Nat → Nat → Nat) (hd : Nat → Nat → Nat) (tv : TV) (qv : QV) (hv : HV) (a0 : Int32) (a1 : Int32) (out : Sum (Nat × QV × HV) (Int32 × QV × HV)) (hf : f_X10_crush tv qv hv a0 a1 = some out) : MyI l yX10_crush wsX10_crush rm_X10_crush g (wT g ha tv ++ wQ g (ha 1) qv ++ wH g (ha 4) hd hv) [.ref (ha 0 0), .int a0, .int a1] (fun u : (Int32 × QV × HV) × (Nat → Nat → Nat) => out = .inr u.1) (fun u : (Int32 × QV × HV) × (Nat → Nat → Nat) => (u.1.1)) (fun u : (Int32 × QV × HV) × (Nat → Nat → Nat) => (wT g ha tv ++ wQ g (ha 1) (u.1.2.1) ++ wH g (ha 4) u.2 (u.1.2.2))) (fun u : (Nat × QV × HV) × (Nat → Nat → Nat) => out = .inl u.1) (fun u : (Nat × QV × HV) × (Nat → Nat → Nat) => (u.1.1)) (fun u : (Nat × QV × HV) × (Nat → Nat → Nat) => (wT g ha tv ++ wQ g (ha 1) (u.1.2.1) ++ wH g (ha 4) u.2 (u.1.2.2))) 11 244 := by
  refine fun sz => mx_of (cc := cX10_crush) (maxL := 3) (ret := (some .int)) (own := RX10) (Qc := fun A => va_Qi (fun r (u : (Int32 × QV × HV) × (Nat → Nat → Nat)) => out = .inr u.1 ∧ r = (u.1.1)) (fun u t => PosM g A ((wT g ha tv ++ wQ g (ha 1) (u.1.2.1) ++ wH g (ha 4) u.2 (u.1.2.2))) t) A) (XC := fun A => vx_X (fun (u : (Nat × QV × HV) × (Nat → Nat → Nat)) => out = .inl u.1) (fun E u t => E = exn ((u.1.1)) ∧ PosM g A ((wT g ha tv ++ wQ g (ha 1) (u.1.2.1) ++ wH g (ha 4) u.2 (u.1.2.2))) t) A) (by decide +kernel) rfl rfl (Nat.le_of_ble_eq_true rfl) ?_ sz
  intro p e s mi below meth c A ls hB htb hrt hlk hP hD hl
  obtain ⟨hx, hb, hml, hown, hts, hK, hZ, hT, hA, -⟩ := hB
  have hS : va_S A s.heap s.heap [] := va_S.rf
  have hl : lv_has ls 3 [(0, .ref (ha 0 0)), (1, .int a0), (2, .int a1)] := hl
  have hinX10 : ∀ w ∈ wsX100, w ∈ wsX10_crush := by decide +kernel
  have k0 := hts (.fieldLink RX10 10 "TerraceQuarry" "quarry" "LTerraceQuarry$Quarry;") (by decide +kernel)
  have k1 := hts (.fieldLink RX10 29 "TerraceQuarry" "history" "LTerraceQuarry$History;") (by decide +kernel)
  generalize hQ : vx_MQ below _ _ _ _ _ _ _ = Q
  unfold f_X10_crush at hf
  refine lv_aload_n hx hb dX10_crush_0 rfl (lv_at hl 0 rfl) ?_
  refine va_get (D := gD g) (ci := 9) (v := .ref (ha 1 0)) (C := RX10) (T := TX10) (N := 9) hx hb hts hinX10 hown hK hP 0 rfl rfl 0 (by decide) k0 (fun _ h9 => h9) rfl dX10_crush_1 ?_
  refine lv_iload_n hx hb dX10_crush_4 rfl (lv_at hl 1 rfl) ?_
  refine lv_iload_n hx hb dX10_crush_5 rfl (lv_at hl 2 rfl) ?_
  obtain ⟨o1, g2, hf⟩ := jbB_e hf
  refine cpv_r (rv := some _) (As := [.int a0, .int a1]) (rest := []) (Wr := (wT g ha tv ++ wH g (ha 4) hd hv)) (Wn := (wT g ha tv ++ wQ g (ha 1) qv ++ wH g (ha 4) hd hv)) ⟨hx, hb, hml, hown, hts⟩ (c_X7_crushFault l g (ha 1) qv a0 a1 _ g2) (cwV 2 hts gX10_crush_X7_crushFault rfl rfl rfl hd_X7_crushFault ⟨Nat.le_of_ble_eq_true rfl, Nat.le_of_ble_eq_true rfl⟩) hK hZ hT hA hP hD hS hl.1 (va_recv hK hP (ci := 7) (q0 := 1) rfl rfl) (wp_of fun f => by simp only [List.countP_append, List.countP_cons, List.countP_nil] <;> omega) (wp_of fun f => by simp only [List.countP_append, List.countP_cons, List.countP_nil] <;> omega) rfl rfl (Nat.le_of_ble_eq_true rfl) ⟨Nat.le_of_ble_eq_true rfl, Nat.le_of_ble_eq_true rfl⟩ dX10_crush_6 (fun H locs hP hD hS => ?_)
  obtain ⟨o3, g4, hf⟩ := jbB_e hf
  refine cxn_v (As := [.ref (gS g 0 o1)]) (rest := []) ⟨hx, hb, hml, hown, hts⟩ (c_X10_refuse l hlt g o1 _ g4) (va_cwS 1 hts gX10_crush_X10_refuse rfl rfl rfl hd_X10_refuse ⟨Nat.le_of_ble_eq_true rfl, Nat.le_of_ble_eq_true rfl⟩) hK hZ hT hA hP hD hS hl.1 rfl rfl (Nat.le_of_ble_eq_true rfl) ⟨Nat.le_of_ble_eq_true rfl, Nat.le_of_ble_eq_true rfl⟩ dX10_crush_9 (fun xo3 ce q9 H locs ho hP hD hS hce hcv hcl => ?_) (fun _ H locs ho hP hD hS => ?_)
  · subst ho
    have hf := jbM_l hf
    cases hf
    subst hQ
    exact ry_x ((xo3, qv, hv), hd) rfl rfl htb hlk hK hP hD hS hce hcv hcl (Nat.le_of_ble_eq_true rfl) (Nat.le_of_ble_eq_true rfl)
  subst ho
  have hf := jbM_r hf
  refine lv_aload_n hx hb dX10_crush_12 rfl (lv_at hl 0 rfl) ?_
  refine va_get (D := gD g) (ci := 9) (v := .ref (ha 4 0)) (C := RX10) (T := TX10) (N := 9) hx hb hts hinX10 hown hK hP 0 rfl rfl 3 (by decide) k1 (fun _ h9 => h9) rfl dX10_crush_13 ?_
  refine lv_aload_n hx hb dX10_crush_16 rfl (lv_at hl 0 rfl) ?_
  refine va_get (D := gD g) (ci := 9) (v := .ref (ha 1 0)) (C := RX10) (T := TX10) (N := 9) hx hb hts hinX10 hown hK hP 0 rfl rfl 0 (by decide) k0 (fun _ h9 => h9) rfl dX10_crush_17 ?_
  have hPr : va_P (gD g) vwCl (wH g (ha 4) hd hv ++ (wT g ha tv ++ wQ g (ha 1) qv)) _ := wp_P (wp_of fun f => by simp only [List.countP_append, List.countP_cons, List.countP_nil] <;> omega) hP
  obtain ⟨o5, g6, hf⟩ := jbB_e hf
  refine czv_v (As := [.ref (ha 1 0)]) (rest := []) (Wr := (wT g ha tv)) (Wn := fun hd7 => (wT g ha tv ++ wQ g (ha 1) qv ++ wH g (ha 4) hd7 o5)) ⟨hx, hb, hml, hown, hts⟩ (c_X4_recordH l g (ha 4) hd hv (ha 1) qv _ g6) (cwV 1 hts gX10_crush_X4_record rfl rfl rfl hd_X4_record ⟨(Nat.le_of_ble_eq_true rfl), (Nat.le_of_ble_eq_true rfl)⟩) hK hZ hT hA hP hD hS hl.1 (va_recv hK hPr (ci := 4) (q0 := 0) rfl rfl) (wp_of fun f => by simp only [List.countP_append, List.countP_cons, List.countP_nil] <;> omega) (fun _ => (wp_of fun f => by simp only [List.countP_append, List.countP_cons, List.countP_nil] <;> omega)) rfl rfl (Nat.le_of_ble_eq_true rfl) ⟨(Nat.le_of_ble_eq_true rfl), (Nat.le_of_ble_eq_true rfl)⟩ dX10_crush_20 (fun hd7 H locs ho hP hD hS => ?_)
  refine lv_aload_n hx hb dX10_crush_23 rfl (lv_at hl 0 rfl) ?_
  refine va_get (D := gD g) (ci := 9) (v := .ref (ha 1 0)) (C := RX10) (T := TX10) (N := 9) hx hb hts hinX10 hown hK hP 0 rfl rfl 0 (by decide) k0 (fun _ h9 => h9) rfl dX10_crush_24 ?_
  refine lv_iload_n hx hb dX10_crush_27 rfl (lv_at hl 1 rfl) ?_
  refine lv_iload_n hx hb dX10_crush_28 rfl (lv_at hl 2 rfl) ?_
  obtain ⟨o8, g9, hf⟩ := jbB_e hf
  refine cpv_i (As := [.int a0, .int a1]) (rest := []) (Wr := (wT g ha tv ++ wH g (ha 4) hd7 o5)) (Wn := (wT g ha tv ++ wQ g (ha 1) (o8.2) ++ wH g (ha 4) hd7 o5)) ⟨hx, hb, hml, hown, hts⟩ (c_X7_crushBlocks l g (ha 1) qv a0 a1 _ g9) (cwV 2 hts gX10_crush_X7_crushBlocks rfl rfl rfl hd_X7_crushBlocks ⟨Nat.le_of_ble_eq_true rfl, Nat.le_of_ble_eq_true rfl⟩) hK hZ hT hA hP hD hS hl.1 (va_recv hK hP (ci := 7) (q0 := 1) rfl rfl) (wp_of fun f => by simp only [List.countP_append, List.countP_cons, List.countP_nil] <;> omega) (wp_of fun f => by simp only [List.countP_append, List.countP_cons, List.countP_nil] <;> omega) rfl rfl (Nat.le_of_ble_eq_true rfl) ⟨Nat.le_of_ble_eq_true rfl, Nat.le_of_ble_eq_true rfl⟩ dX10_crush_29 (fun H locs hP hD hS => ?_)
  cases hf
  subst hQ
  exact ry_i (((o8.1), (o8.2), o5), hd7) rfl rfl hx hb hrt hlk rfl hK hP hD hS (Nat.le_of_ble_eq_true rfl) (Nat.le_of_ble_eq_true rfl) dX10_crush_32