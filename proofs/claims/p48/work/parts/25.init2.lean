def f_X7_init_L84 (x1 : Int32) (qv : QV) : Option (Sum (Int32 × QV) (Int32 × QV)) :=
  if 30 ≤ x1 then
  (some (.inr (x1, qv)))
  else
  (if jIn x1 30 then
  jbN (qSHeights (upd (qHeights qv) x1.toNatClampNeg 6) qv) fun w4 =>
  some (.inl ((x1 + 1), w4))
  else none)
def f_X7_init : Option QV :=
  jbN qZero fun w0 =>
  jbN (qSLimit 1 w0) fun w1 =>
  jbN (qSRubble 5 w1) fun w2 =>
  (jbL (fun s => f_X7_init_L84 (s.1) (s.2)) 5000 (0, w2)).bind fun o84 =>
  some (o84.2)
def rm_X7_init : Room := { frames := 1, cells := 9, slots := 223, locals := 12 }
theorem hd_X7_init : yX7_init.cls ≠ "java/lang/invoke/MethodHandle" ∧ yX7_init.cls ≠ "java/lang/invoke/VarHandle" ∧ (parseMethodDescriptor yX7_init.desc).map (fun d => d.parameters.length) = some 0 := by decide +kernel
set_option maxHeartbeats 4000000 in
set_option maxRecDepth 100000 in
theorem c_X7_init (l : Launch) (g : GG) (h0 : Nat) (out : QV) (hf : f_X7_init = some out) : MzV (RT := Nat → Nat) l yX7_init wsX7_init rm_X7_init g [(h0, .inr (7, [.null, .null, .null, .null, .null, .null, .null, .null, .null, .int 0, .int 0, .int 0, .int 0, .int 0, .long 0]))] [.ref h0] (fun h => h 0 = h0) (fun h => wQ g h out) 9 223 := by
  refine fun sz => mt_of (cc := cX7_init) (maxL := 2) (ret := none) (own := RX7) (Qc := fun A => va_Qv (fun h : Nat → Nat => h 0 = h0) (fun h t => PosM g A (wQ g h out) t) A) (by decide +kernel) rfl rfl (Nat.le_of_ble_eq_true rfl) ?_ sz
  intro p e s mi below meth c A ls hB hnm hrt hlk hP hD hl
  obtain ⟨hx, hb, hml, hown, hts, hK, hZ, hT, hA, -⟩ := hB
  have hS : va_S A s.heap s.heap [] := va_S.rf
  have hl : lv_has ls 2 [(0, .ref h0)] := hl
  have hinX7 : ∀ w ∈ wsX70, w ∈ wsX7_init := by decide +kernel
  have kk0 := hts (.methodLink RX7 1 objectInit) (by decide +kernel)
  have kk1 := hts (.instanceMethod objectInit) (by decide +kernel)
  have kk2 := hts (.code objectInit ⟨#[0xb1]⟩ 1 none) (by decide +kernel)
  have kk3 := hts (.arrayClass .int) (by decide +kernel)
  have kk4 := hts (.fieldLink RX7 9 "TerraceQuarry$Quarry" "heights" "[I") (by decide +kernel)
  have kk5 := hts (.fieldLink RX7 15 "TerraceQuarry$Quarry" "stones" "[I") (by decide +kernel)
  have kk6 := hts (.arrayClass .boolean) (by decide +kernel)
  have kk7 := hts (.fieldLink RX7 18 "TerraceQuarry$Quarry" "ledges" "[Z") (by decide +kernel)
  have kk8 := hts (.fieldLink RX7 22 "TerraceQuarry$Quarry" "blockCounts" "[I") (by decide +kernel)
  have kk9 := hts (.fieldLink RX7 25 "TerraceQuarry$Quarry" "blocks" "[I") (by decide +kernel)
  have kk10 := hts (.fieldLink RX7 28 "TerraceQuarry$Quarry" "winchCells" "[I") (by decide +kernel)
  have kk11 := hts (.fieldLink RX7 31 "TerraceQuarry$Quarry" "capacities" "[I") (by decide +kernel)
  have kk12 := hts (.fieldLink RX7 34 "TerraceQuarry$Quarry" "reaches" "[I") (by decide +kernel)
  have kk13 := hts (.fieldLink RX7 37 "TerraceQuarry$Quarry" "yard" "[I") (by decide +kernel)
  have k2 := hts (.fieldLink RX7 9 "TerraceQuarry$Quarry" "heights" "[I") (by decide +kernel)
  have k1 := hts (.fieldLink RX7 44 "TerraceQuarry$Quarry" "rubble" "I") (by decide +kernel)
  have k0 := hts (.fieldLink RX7 40 "TerraceQuarry$Quarry" "limit" "I") (by decide +kernel)
  refine lv_aload_n hx hb dX7_init_0 rfl (lv_at hl 0 rfl) ?_
  refine W.objInit hx hb hown kk0 kk1 kk2 rfl (by rw [hml]; exact hl.1) rfl dX7_init_1 (Nat.le_of_ble_eq_true rfl) (Nat.le_of_ble_eq_true rfl) ?_
  refine W.eq (g2 := F0 mi 4 ls []) rfl ?_
  refine lv_aload_n hx hb dX7_init_4 rfl (lv_at hl 0 rfl) ?_
  refine lv_bipush (v := 30) hx hb dX7_init_5 (by decide) ?_
  refine va_newa (atype := .int) (a0 := (30, .inl (fun _ => 0))) hx hb kk3 rfl hK hP hD hS hA (fun _ => rfl) (by decide) (show (30 : Int32).toNatClampNeg = 30 from by decide) (by decide) (Nat.le_of_ble_eq_true rfl) (Nat.le_of_ble_eq_true rfl) dX7_init_7 (fun q1 cAq1 H hK9 hP hD hS => ?_)
  have ecAq1 := ar_id hK9 0 rfl
  rw [ecAq1] at hP hD
  have hP : va_P (gD g) vwCl [(h0, .inr (7, [.null, .null, .null, .null, .null, .null, .null, .null, .null, .int 0, .int 0, .int 0, .int 0, .int 0, .long 0])), (q1, .inl (gC g 0, 30, .inl (fun _ => 0)))] H := hP
  have hD : va_D A [(h0, .inr (7, [.null, .null, .null, .null, .null, .null, .null, .null, .null, .int 0, .int 0, .int 0, .int 0, .int 0, .long 0])), (q1, .inl (gC g 0, 30, .inl (fun _ => 0)))] := hD
  refine va_putF (D := gD g) (ci := 7) (v := .ref q1) (ty := .array .int) (C := RX7) (T := TX7) (N := 15) hx hb hts hinX7 tyX7 tyX7_ok nmX7 hown hK hP hD hS 0 rfl rfl 0 (by decide) kk4 (fun _ h9 => h9) rfl hnm rfl (tyX7_ok 0 (by decide)) rfl rfl (Nat.le_of_ble_eq_true rfl) dX7_init_9 (fun H locs hP hD hS => ?_)
  have hP : va_P (gD g) vwCl [(h0, .inr (7, [.ref q1, .null, .null, .null, .null, .null, .null, .null, .null, .int 0, .int 0, .int 0, .int 0, .int 0, .long 0])), (q1, .inl (gC g 0, 30, .inl (fun _ => 0)))] H := hP
  have hD : va_D A [(h0, .inr (7, [.ref q1, .null, .null, .null, .null, .null, .null, .null, .null, .int 0, .int 0, .int 0, .int 0, .int 0, .long 0])), (q1, .inl (gC g 0, 30, .inl (fun _ => 0)))] := hD
  refine lv_aload_n hx hb dX7_init_12 rfl (lv_at hl 0 rfl) ?_
  refine lv_bipush (v := 30) hx hb dX7_init_13 (by decide) ?_
  refine va_newa (atype := .int) (a0 := (30, .inl (fun _ => 0))) hx hb kk3 rfl hK hP hD hS hA (fun _ => rfl) (by decide) (show (30 : Int32).toNatClampNeg = 30 from by decide) (by decide) (Nat.le_of_ble_eq_true rfl) (Nat.le_of_ble_eq_true rfl) dX7_init_15 (fun q2 cAq2 H hK9 hP hD hS => ?_)
  have ecAq2 := ar_id hK9 0 rfl
  rw [ecAq2] at hP hD
  have hP : va_P (gD g) vwCl [(h0, .inr (7, [.ref q1, .null, .null, .null, .null, .null, .null, .null, .null, .int 0, .int 0, .int 0, .int 0, .int 0, .long 0])), (q1, .inl (gC g 0, 30, .inl (fun _ => 0))), (q2, .inl (gC g 0, 30, .inl (fun _ => 0)))] H := hP
  have hD : va_D A [(h0, .inr (7, [.ref q1, .null, .null, .null, .null, .null, .null, .null, .null, .int 0, .int 0, .int 0, .int 0, .int 0, .long 0])), (q1, .inl (gC g 0, 30, .inl (fun _ => 0))), (q2, .inl (gC g 0, 30, .inl (fun _ => 0)))] := hD
  refine va_putF (D := gD g) (ci := 7) (v := .ref q2) (ty := .array .int) (C := RX7) (T := TX7) (N := 15) hx hb hts hinX7 tyX7 tyX7_ok nmX7 hown hK hP hD hS 0 rfl rfl 1 (by decide) kk5 (fun _ h9 => h9) rfl hnm rfl (tyX7_ok 1 (by decide)) rfl rfl (Nat.le_of_ble_eq_true rfl) dX7_init_17 (fun H locs hP hD hS => ?_)
  have hP : va_P (gD g) vwCl [(h0, .inr (7, [.ref q1, .ref q2, .null, .null, .null, .null, .null, .null, .null, .int 0, .int 0, .int 0, .int 0, .int 0, .long 0])), (q1, .inl (gC g 0, 30, .inl (fun _ => 0))), (q2, .inl (gC g 0, 30, .inl (fun _ => 0)))] H := hP
  have hD : va_D A [(h0, .inr (7, [.ref q1, .ref q2, .null, .null, .null, .null, .null, .null, .null, .int 0, .int 0, .int 0, .int 0, .int 0, .long 0])), (q1, .inl (gC g 0, 30, .inl (fun _ => 0))), (q2, .inl (gC g 0, 30, .inl (fun _ => 0)))] := hD
  refine lv_aload_n hx hb dX7_init_20 rfl (lv_at hl 0 rfl) ?_
  refine lv_bipush (v := 30) hx hb dX7_init_21 (by decide) ?_
  refine va_newa (atype := .boolean) (a0 := (30, .inl (fun _ => 0))) hx hb kk6 rfl hK hP hD hS hA (fun _ => rfl) (by decide) (show (30 : Int32).toNatClampNeg = 30 from by decide) (by decide) (Nat.le_of_ble_eq_true rfl) (Nat.le_of_ble_eq_true rfl) dX7_init_23 (fun q3 cAq3 H hK9 hP hD hS => ?_)
  have ecAq3 := ar_id hK9 1 rfl
  rw [ecAq3] at hP hD
  have hP : va_P (gD g) vwCl [(h0, .inr (7, [.ref q1, .ref q2, .null, .null, .null, .null, .null, .null, .null, .int 0, .int 0, .int 0, .int 0, .int 0, .long 0])), (q1, .inl (gC g 0, 30, .inl (fun _ => 0))), (q2, .inl (gC g 0, 30, .inl (fun _ => 0))), (q3, .inl (gC g 1, 30, .inl (fun _ => 0)))] H := hP
  have hD : va_D A [(h0, .inr (7, [.ref q1, .ref q2, .null, .null, .null, .null, .null, .null, .null, .int 0, .int 0, .int 0, .int 0, .int 0, .long 0])), (q1, .inl (gC g 0, 30, .inl (fun _ => 0))), (q2, .inl (gC g 0, 30, .inl (fun _ => 0))), (q3, .inl (gC g 1, 30, .inl (fun _ => 0)))] := hD
  refine va_putF (D := gD g) (ci := 7) (v := .ref q3) (ty := .array .boolean) (C := RX7) (T := TX7) (N := 15) hx hb hts hinX7 tyX7 tyX7_ok nmX7 hown hK hP hD hS 0 rfl rfl 2 (by decide) kk7 (fun _ h9 => h9) rfl hnm rfl (tyX7_ok 2 (by decide)) rfl rfl (Nat.le_of_ble_eq_true rfl) dX7_init_25 (fun H locs hP hD hS => ?_)
  have hP : va_P (gD g) vwCl [(h0, .inr (7, [.ref q1, .ref q2, .ref q3, .null, .null, .null, .null, .null, .null, .int 0, .int 0, .int 0, .int 0, .int 0, .long 0])), (q1, .inl (gC g 0, 30, .inl (fun _ => 0))), (q2, .inl (gC g 0, 30, .inl (fun _ => 0))), (q3, .inl (gC g 1, 30, .inl (fun _ => 0)))] H := hP
  have hD : va_D A [(h0, .inr (7, [.ref q1, .ref q2, .ref q3, .null, .null, .null, .null, .null, .null, .int 0, .int 0, .int 0, .int 0, .int 0, .long 0])), (q1, .inl (gC g 0, 30, .inl (fun _ => 0))), (q2, .inl (gC g 0, 30, .inl (fun _ => 0))), (q3, .inl (gC g 1, 30, .inl (fun _ => 0)))] := hD
  refine lv_aload_n hx hb dX7_init_28 rfl (lv_at hl 0 rfl) ?_
  refine lv_bipush (v := 30) hx hb dX7_init_29 (by decide) ?_
  refine va_newa (atype := .int) (a0 := (30, .inl (fun _ => 0))) hx hb kk3 rfl hK hP hD hS hA (fun _ => rfl) (by decide) (show (30 : Int32).toNatClampNeg = 30 from by decide) (by decide) (Nat.le_of_ble_eq_true rfl) (Nat.le_of_ble_eq_true rfl) dX7_init_31 (fun q4 cAq4 H hK9 hP hD hS => ?_)
  have ecAq4 := ar_id hK9 0 rfl
  rw [ecAq4] at hP hD
  have hP : va_P (gD g) vwCl [(h0, .inr (7, [.ref q1, .ref q2, .ref q3, .null, .null, .null, .null, .null, .null, .int 0, .int 0, .int 0, .int 0, .int 0, .long 0])), (q1, .inl (gC g 0, 30, .inl (fun _ => 0))), (q2, .inl (gC g 0, 30, .inl (fun _ => 0))), (q3, .inl (gC g 1, 30, .inl (fun _ => 0))), (q4, .inl (gC g 0, 30, .inl (fun _ => 0)))] H := hP
  have hD : va_D A [(h0, .inr (7, [.ref q1, .ref q2, .ref q3, .null, .null, .null, .null, .null, .null, .int 0, .int 0, .int 0, .int 0, .int 0, .long 0])), (q1, .inl (gC g 0, 30, .inl (fun _ => 0))), (q2, .inl (gC g 0, 30, .inl (fun _ => 0))), (q3, .inl (gC g 1, 30, .inl (fun _ => 0))), (q4, .inl (gC g 0, 30, .inl (fun _ => 0)))] := hD
  refine va_putF (D := gD g) (ci := 7) (v := .ref q4) (ty := .array .int) (C := RX7) (T := TX7) (N := 15) hx hb hts hinX7 tyX7 tyX7_ok nmX7 hown hK hP hD hS 0 rfl rfl 3 (by decide) kk8 (fun _ h9 => h9) rfl hnm rfl (tyX7_ok 3 (by decide)) rfl rfl (Nat.le_of_ble_eq_true rfl) dX7_init_33 (fun H locs hP hD hS => ?_)
  have hP : va_P (gD g) vwCl [(h0, .inr (7, [.ref q1, .ref q2, .ref q3, .ref q4, .null, .null, .null, .null, .null, .int 0, .int 0, .int 0, .int 0, .int 0, .long 0])), (q1, .inl (gC g 0, 30, .inl (fun _ => 0))), (q2, .inl (gC g 0, 30, .inl (fun _ => 0))), (q3, .inl (gC g 1, 30, .inl (fun _ => 0))), (q4, .inl (gC g 0, 30, .inl (fun _ => 0)))] H := hP
  have hD : va_D A [(h0, .inr (7, [.ref q1, .ref q2, .ref q3, .ref q4, .null, .null, .null, .null, .null, .int 0, .int 0, .int 0, .int 0, .int 0, .long 0])), (q1, .inl (gC g 0, 30, .inl (fun _ => 0))), (q2, .inl (gC g 0, 30, .inl (fun _ => 0))), (q3, .inl (gC g 1, 30, .inl (fun _ => 0))), (q4, .inl (gC g 0, 30, .inl (fun _ => 0)))] := hD
  refine lv_aload_n hx hb dX7_init_36 rfl (lv_at hl 0 rfl) ?_
  refine lv_bipush (v := 90) hx hb dX7_init_37 (by decide) ?_
  refine va_newa (atype := .int) (a0 := (90, .inl (fun _ => 0))) hx hb kk3 rfl hK hP hD hS hA (fun _ => rfl) (by decide) (show (90 : Int32).toNatClampNeg = 90 from by decide) (by decide) (Nat.le_of_ble_eq_true rfl) (Nat.le_of_ble_eq_true rfl) dX7_init_39 (fun q5 cAq5 H hK9 hP hD hS => ?_)
  have ecAq5 := ar_id hK9 0 rfl
  rw [ecAq5] at hP hD
  have hP : va_P (gD g) vwCl [(h0, .inr (7, [.ref q1, .ref q2, .ref q3, .ref q4, .null, .null, .null, .null, .null, .int 0, .int 0, .int 0, .int 0, .int 0, .long 0])), (q1, .inl (gC g 0, 30, .inl (fun _ => 0))), (q2, .inl (gC g 0, 30, .inl (fun _ => 0))), (q3, .inl (gC g 1, 30, .inl (fun _ => 0))), (q4, .inl (gC g 0, 30, .inl (fun _ => 0))), (q5, .inl (gC g 0, 90, .inl (fun _ => 0)))] H := hP
  have hD : va_D A [(h0, .inr (7, [.ref q1, .ref q2, .ref q3, .ref q4, .null, .null, .null, .null, .null, .int 0, .int 0, .int 0, .int 0, .int 0, .long 0])), (q1, .inl (gC g 0, 30, .inl (fun _ => 0))), (q2, .inl (gC g 0, 30, .inl (fun _ => 0))), (q3, .inl (gC g 1, 30, .inl (fun _ => 0))), (q4, .inl (gC g 0, 30, .inl (fun _ => 0))), (q5, .inl (gC g 0, 90, .inl (fun _ => 0)))] := hD
  refine va_putF (D := gD g) (ci := 7) (v := .ref q5) (ty := .array .int) (C := RX7) (T := TX7) (N := 15) hx hb hts hinX7 tyX7 tyX7_ok nmX7 hown hK hP hD hS 0 rfl rfl 4 (by decide) kk9 (fun _ h9 => h9) rfl hnm rfl (tyX7_ok 4 (by decide)) rfl rfl (Nat.le_of_ble_eq_true rfl) dX7_init_41 (fun H locs hP hD hS => ?_)
  have hP : va_P (gD g) vwCl [(h0, .inr (7, [.ref q1, .ref q2, .ref q3, .ref q4, .ref q5, .null, .null, .null, .null, .int 0, .int 0, .int 0, .int 0, .int 0, .long 0])), (q1, .inl (gC g 0, 30, .inl (fun _ => 0))), (q2, .inl (gC g 0, 30, .inl (fun _ => 0))), (q3, .inl (gC g 1, 30, .inl (fun _ => 0))), (q4, .inl (gC g 0, 30, .inl (fun _ => 0))), (q5, .inl (gC g 0, 90, .inl (fun _ => 0)))] H := hP
  have hD : va_D A [(h0, .inr (7, [.ref q1, .ref q2, .ref q3, .ref q4, .ref q5, .null, .null, .null, .null, .int 0, .int 0, .int 0, .int 0, .int 0, .long 0])), (q1, .inl (gC g 0, 30, .inl (fun _ => 0))), (q2, .inl (gC g 0, 30, .inl (fun _ => 0))), (q3, .inl (gC g 1, 30, .inl (fun _ => 0))), (q4, .inl (gC g 0, 30, .inl (fun _ => 0))), (q5, .inl (gC g 0, 90, .inl (fun _ => 0)))] := hD
  refine lv_aload_n hx hb dX7_init_44 rfl (lv_at hl 0 rfl) ?_
  refine lv_iconst (v := 3) hx hb dX7_init_45 (by decide) ?_
  refine va_newa (atype := .int) (a0 := (3, .inl (fun _ => 0))) hx hb kk3 rfl hK hP hD hS hA (fun _ => rfl) (by decide) (show (3 : Int32).toNatClampNeg = 3 from by decide) (by decide) (Nat.le_of_ble_eq_true rfl) (Nat.le_of_ble_eq_true rfl) dX7_init_46 (fun q6 cAq6 H hK9 hP hD hS => ?_)
  have ecAq6 := ar_id hK9 0 rfl
  rw [ecAq6] at hP hD
  have hP : va_P (gD g) vwCl [(h0, .inr (7, [.ref q1, .ref q2, .ref q3, .ref q4, .ref q5, .null, .null, .null, .null, .int 0, .int 0, .int 0, .int 0, .int 0, .long 0])), (q1, .inl (gC g 0, 30, .inl (fun _ => 0))), (q2, .inl (gC g 0, 30, .inl (fun _ => 0))), (q3, .inl (gC g 1, 30, .inl (fun _ => 0))), (q4, .inl (gC g 0, 30, .inl (fun _ => 0))), (q5, .inl (gC g 0, 90, .inl (fun _ => 0))), (q6, .inl (gC g 0, 3, .inl (fun _ => 0)))] H := hP
  have hD : va_D A [(h0, .inr (7, [.ref q1, .ref q2, .ref q3, .ref q4, .ref q5, .null, .null, .null, .null, .int 0, .int 0, .int 0, .int 0, .int 0, .long 0])), (q1, .inl (gC g 0, 30, .inl (fun _ => 0))), (q2, .inl (gC g 0, 30, .inl (fun _ => 0))), (q3, .inl (gC g 1, 30, .inl (fun _ => 0))), (q4, .inl (gC g 0, 30, .inl (fun _ => 0))), (q5, .inl (gC g 0, 90, .inl (fun _ => 0))), (q6, .inl (gC g 0, 3, .inl (fun _ => 0)))] := hD
  refine va_putF (D := gD g) (ci := 7) (v := .ref q6) (ty := .array .int) (C := RX7) (T := TX7) (N := 15) hx hb hts hinX7 tyX7 tyX7_ok nmX7 hown hK hP hD hS 0 rfl rfl 5 (by decide) kk10 (fun _ h9 => h9) rfl hnm rfl (tyX7_ok 5 (by decide)) rfl rfl (Nat.le_of_ble_eq_true rfl) dX7_init_48 (fun H locs hP hD hS => ?_)
  have hP : va_P (gD g) vwCl [(h0, .inr (7, [.ref q1, .ref q2, .ref q3, .ref q4, .ref q5, .ref q6, .null, .null, .null, .int 0, .int 0, .int 0, .int 0, .int 0, .long 0])), (q1, .inl (gC g 0, 30, .inl (fun _ => 0))), (q2, .inl (gC g 0, 30, .inl (fun _ => 0))), (q3, .inl (gC g 1, 30, .inl (fun _ => 0))), (q4, .inl (gC g 0, 30, .inl (fun _ => 0))), (q5, .inl (gC g 0, 90, .inl (fun _ => 0))), (q6, .inl (gC g 0, 3, .inl (fun _ => 0)))] H := hP
  have hD : va_D A [(h0, .inr (7, [.ref q1, .ref q2, .ref q3, .ref q4, .ref q5, .ref q6, .null, .null, .null, .int 0, .int 0, .int 0, .int 0, .int 0, .long 0])), (q1, .inl (gC g 0, 30, .inl (fun _ => 0))), (q2, .inl (gC g 0, 30, .inl (fun _ => 0))), (q3, .inl (gC g 1, 30, .inl (fun _ => 0))), (q4, .inl (gC g 0, 30, .inl (fun _ => 0))), (q5, .inl (gC g 0, 90, .inl (fun _ => 0))), (q6, .inl (gC g 0, 3, .inl (fun _ => 0)))] := hD
  refine lv_aload_n hx hb dX7_init_51 rfl (lv_at hl 0 rfl) ?_
  refine lv_iconst (v := 3) hx hb dX7_init_52 (by decide) ?_
  refine va_newa (atype := .int) (a0 := (3, .inl (fun _ => 0))) hx hb kk3 rfl hK hP hD hS hA (fun _ => rfl) (by decide) (show (3 : Int32).toNatClampNeg = 3 from by decide) (by decide) (Nat.le_of_ble_eq_true rfl) (Nat.le_of_ble_eq_true rfl) dX7_init_53 (fun q7 cAq7 H hK9 hP hD hS => ?_)
  have ecAq7 := ar_id hK9 0 rfl
  rw [ecAq7] at hP hD
  have hP : va_P (gD g) vwCl [(h0, .inr (7, [.ref q1, .ref q2, .ref q3, .ref q4, .ref q5, .ref q6, .null, .null, .null, .int 0, .int 0, .int 0, .int 0, .int 0, .long 0])), (q1, .inl (gC g 0, 30, .inl (fun _ => 0))), (q2, .inl (gC g 0, 30, .inl (fun _ => 0))), (q3, .inl (gC g 1, 30, .inl (fun _ => 0))), (q4, .inl (gC g 0, 30, .inl (fun _ => 0))), (q5, .inl (gC g 0, 90, .inl (fun _ => 0))), (q6, .inl (gC g 0, 3, .inl (fun _ => 0))), (q7, .inl (gC g 0, 3, .inl (fun _ => 0)))] H := hP
  have hD : va_D A [(h0, .inr (7, [.ref q1, .ref q2, .ref q3, .ref q4, .ref q5, .ref q6, .null, .null, .null, .int 0, .int 0, .int 0, .int 0, .int 0, .long 0])), (q1, .inl (gC g 0, 30, .inl (fun _ => 0))), (q2, .inl (gC g 0, 30, .inl (fun _ => 0))), (q3, .inl (gC g 1, 30, .inl (fun _ => 0))), (q4, .inl (gC g 0, 30, .inl (fun _ => 0))), (q5, .inl (gC g 0, 90, .inl (fun _ => 0))), (q6, .inl (gC g 0, 3, .inl (fun _ => 0))), (q7, .inl (gC g 0, 3, .inl (fun _ => 0)))] := hD
  refine va_putF (D := gD g) (ci := 7) (v := .ref q7) (ty := .array .int) (C := RX7) (T := TX7) (N := 15) hx hb hts hinX7 tyX7 tyX7_ok nmX7 hown hK hP hD hS 0 rfl rfl 6 (by decide) kk11 (fun _ h9 => h9) rfl hnm rfl (tyX7_ok 6 (by decide)) rfl rfl (Nat.le_of_ble_eq_true rfl) dX7_init_55 (fun H locs hP hD hS => ?_)
  have hP : va_P (gD g) vwCl [(h0, .inr (7, [.ref q1, .ref q2, .ref q3, .ref q4, .ref q5, .ref q6, .ref q7, .null, .null, .int 0, .int 0, .int 0, .int 0, .int 0, .long 0])), (q1, .inl (gC g 0, 30, .inl (fun _ => 0))), (q2, .inl (gC g 0, 30, .inl (fun _ => 0))), (q3, .inl (gC g 1, 30, .inl (fun _ => 0))), (q4, .inl (gC g 0, 30, .inl (fun _ => 0))), (q5, .inl (gC g 0, 90, .inl (fun _ => 0))), (q6, .inl (gC g 0, 3, .inl (fun _ => 0))), (q7, .inl (gC g 0, 3, .inl (fun _ => 0)))] H := hP
  have hD : va_D A [(h0, .inr (7, [.ref q1, .ref q2, .ref q3, .ref q4, .ref q5, .ref q6, .ref q7, .null, .null, .int 0, .int 0, .int 0, .int 0, .int 0, .long 0])), (q1, .inl (gC g 0, 30, .inl (fun _ => 0))), (q2, .inl (gC g 0, 30, .inl (fun _ => 0))), (q3, .inl (gC g 1, 30, .inl (fun _ => 0))), (q4, .inl (gC g 0, 30, .inl (fun _ => 0))), (q5, .inl (gC g 0, 90, .inl (fun _ => 0))), (q6, .inl (gC g 0, 3, .inl (fun _ => 0))), (q7, .inl (gC g 0, 3, .inl (fun _ => 0)))] := hD
  refine lv_aload_n hx hb dX7_init_58 rfl (lv_at hl 0 rfl) ?_
  refine lv_iconst (v := 3) hx hb dX7_init_59 (by decide) ?_
  refine va_newa (atype := .int) (a0 := (3, .inl (fun _ => 0))) hx hb kk3 rfl hK hP hD hS hA (fun _ => rfl) (by decide) (show (3 : Int32).toNatClampNeg = 3 from by decide) (by decide) (Nat.le_of_ble_eq_true rfl) (Nat.le_of_ble_eq_true rfl) dX7_init_60 (fun q8 cAq8 H hK9 hP hD hS => ?_)
  have ecAq8 := ar_id hK9 0 rfl
  rw [ecAq8] at hP hD
  have hP : va_P (gD g) vwCl [(h0, .inr (7, [.ref q1, .ref q2, .ref q3, .ref q4, .ref q5, .ref q6, .ref q7, .null, .null, .int 0, .int 0, .int 0, .int 0, .int 0, .long 0])), (q1, .inl (gC g 0, 30, .inl (fun _ => 0))), (q2, .inl (gC g 0, 30, .inl (fun _ => 0))), (q3, .inl (gC g 1, 30, .inl (fun _ => 0))), (q4, .inl (gC g 0, 30, .inl (fun _ => 0))), (q5, .inl (gC g 0, 90, .inl (fun _ => 0))), (q6, .inl (gC g 0, 3, .inl (fun _ => 0))), (q7, .inl (gC g 0, 3, .inl (fun _ => 0))), (q8, .inl (gC g 0, 3, .inl (fun _ => 0)))] H := hP
  have hD : va_D A [(h0, .inr (7, [.ref q1, .ref q2, .ref q3, .ref q4, .ref q5, .ref q6, .ref q7, .null, .null, .int 0, .int 0, .int 0, .int 0, .int 0, .long 0])), (q1, .inl (gC g 0, 30, .inl (fun _ => 0))), (q2, .inl (gC g 0, 30, .inl (fun _ => 0))), (q3, .inl (gC g 1, 30, .inl (fun _ => 0))), (q4, .inl (gC g 0, 30, .inl (fun _ => 0))), (q5, .inl (gC g 0, 90, .inl (fun _ => 0))), (q6, .inl (gC g 0, 3, .inl (fun _ => 0))), (q7, .inl (gC g 0, 3, .inl (fun _ => 0))), (q8, .inl (gC g 0, 3, .inl (fun _ => 0)))] := hD
  refine va_putF (D := gD g) (ci := 7) (v := .ref q8) (ty := .array .int) (C := RX7) (T := TX7) (N := 15) hx hb hts hinX7 tyX7 tyX7_ok nmX7 hown hK hP hD hS 0 rfl rfl 7 (by decide) kk12 (fun _ h9 => h9) rfl hnm rfl (tyX7_ok 7 (by decide)) rfl rfl (Nat.le_of_ble_eq_true rfl) dX7_init_62 (fun H locs hP hD hS => ?_)
  have hP : va_P (gD g) vwCl [(h0, .inr (7, [.ref q1, .ref q2, .ref q3, .ref q4, .ref q5, .ref q6, .ref q7, .ref q8, .null, .int 0, .int 0, .int 0, .int 0, .int 0, .long 0])), (q1, .inl (gC g 0, 30, .inl (fun _ => 0))), (q2, .inl (gC g 0, 30, .inl (fun _ => 0))), (q3, .inl (gC g 1, 30, .inl (fun _ => 0))), (q4, .inl (gC g 0, 30, .inl (fun _ => 0))), (q5, .inl (gC g 0, 90, .inl (fun _ => 0))), (q6, .inl (gC g 0, 3, .inl (fun _ => 0))), (q7, .inl (gC g 0, 3, .inl (fun _ => 0))), (q8, .inl (gC g 0, 3, .inl (fun _ => 0)))] H := hP
  have hD : va_D A [(h0, .inr (7, [.ref q1, .ref q2, .ref q3, .ref q4, .ref q5, .ref q6, .ref q7, .ref q8, .null, .int 0, .int 0, .int 0, .int 0, .int 0, .long 0])), (q1, .inl (gC g 0, 30, .inl (fun _ => 0))), (q2, .inl (gC g 0, 30, .inl (fun _ => 0))), (q3, .inl (gC g 1, 30, .inl (fun _ => 0))), (q4, .inl (gC g 0, 30, .inl (fun _ => 0))), (q5, .inl (gC g 0, 90, .inl (fun _ => 0))), (q6, .inl (gC g 0, 3, .inl (fun _ => 0))), (q7, .inl (gC g 0, 3, .inl (fun _ => 0))), (q8, .inl (gC g 0, 3, .inl (fun _ => 0)))] := hD
  refine lv_aload_n hx hb dX7_init_65 rfl (lv_at hl 0 rfl) ?_
  refine lv_iconst (v := 4) hx hb dX7_init_66 (by decide) ?_
  refine va_newa (atype := .int) (a0 := (4, .inl (fun _ => 0))) hx hb kk3 rfl hK hP hD hS hA (fun _ => rfl) (by decide) (show (4 : Int32).toNatClampNeg = 4 from by decide) (by decide) (Nat.le_of_ble_eq_true rfl) (Nat.le_of_ble_eq_true rfl) dX7_init_67 (fun q9 cAq9 H hK9 hP hD hS => ?_)
  have ecAq9 := ar_id hK9 0 rfl
  rw [ecAq9] at hP hD
  have hP : va_P (gD g) vwCl [(h0, .inr (7, [.ref q1, .ref q2, .ref q3, .ref q4, .ref q5, .ref q6, .ref q7, .ref q8, .null, .int 0, .int 0, .int 0, .int 0, .int 0, .long 0])), (q1, .inl (gC g 0, 30, .inl (fun _ => 0))), (q2, .inl (gC g 0, 30, .inl (fun _ => 0))), (q3, .inl (gC g 1, 30, .inl (fun _ => 0))), (q4, .inl (gC g 0, 30, .inl (fun _ => 0))), (q5, .inl (gC g 0, 90, .inl (fun _ => 0))), (q6, .inl (gC g 0, 3, .inl (fun _ => 0))), (q7, .inl (gC g 0, 3, .inl (fun _ => 0))), (q8, .inl (gC g 0, 3, .inl (fun _ => 0))), (q9, .inl (gC g 0, 4, .inl (fun _ => 0)))] H := hP
  have hD : va_D A [(h0, .inr (7, [.ref q1, .ref q2, .ref q3, .ref q4, .ref q5, .ref q6, .ref q7, .ref q8, .null, .int 0, .int 0, .int 0, .int 0, .int 0, .long 0])), (q1, .inl (gC g 0, 30, .inl (fun _ => 0))), (q2, .inl (gC g 0, 30, .inl (fun _ => 0))), (q3, .inl (gC g 1, 30, .inl (fun _ => 0))), (q4, .inl (gC g 0, 30, .inl (fun _ => 0))), (q5, .inl (gC g 0, 90, .inl (fun _ => 0))), (q6, .inl (gC g 0, 3, .inl (fun _ => 0))), (q7, .inl (gC g 0, 3, .inl (fun _ => 0))), (q8, .inl (gC g 0, 3, .inl (fun _ => 0))), (q9, .inl (gC g 0, 4, .inl (fun _ => 0)))] := hD
  refine va_putF (D := gD g) (ci := 7) (v := .ref q9) (ty := .array .int) (C := RX7) (T := TX7) (N := 15) hx hb hts hinX7 tyX7 tyX7_ok nmX7 hown hK hP hD hS 0 rfl rfl 8 (by decide) kk13 (fun _ h9 => h9) rfl hnm rfl (tyX7_ok 8 (by decide)) rfl rfl (Nat.le_of_ble_eq_true rfl) dX7_init_69 (fun H locs hP hD hS => ?_)
  have hP : va_P (gD g) vwCl [(h0, .inr (7, [.ref q1, .ref q2, .ref q3, .ref q4, .ref q5, .ref q6, .ref q7, .ref q8, .ref q9, .int 0, .int 0, .int 0, .int 0, .int 0, .long 0])), (q1, .inl (gC g 0, 30, .inl (fun _ => 0))), (q2, .inl (gC g 0, 30, .inl (fun _ => 0))), (q3, .inl (gC g 1, 30, .inl (fun _ => 0))), (q4, .inl (gC g 0, 30, .inl (fun _ => 0))), (q5, .inl (gC g 0, 90, .inl (fun _ => 0))), (q6, .inl (gC g 0, 3, .inl (fun _ => 0))), (q7, .inl (gC g 0, 3, .inl (fun _ => 0))), (q8, .inl (gC g 0, 3, .inl (fun _ => 0))), (q9, .inl (gC g 0, 4, .inl (fun _ => 0)))] H := hP
  have hD : va_D A [(h0, .inr (7, [.ref q1, .ref q2, .ref q3, .ref q4, .ref q5, .ref q6, .ref q7, .ref q8, .ref q9, .int 0, .int 0, .int 0, .int 0, .int 0, .long 0])), (q1, .inl (gC g 0, 30, .inl (fun _ => 0))), (q2, .inl (gC g 0, 30, .inl (fun _ => 0))), (q3, .inl (gC g 1, 30, .inl (fun _ => 0))), (q4, .inl (gC g 0, 30, .inl (fun _ => 0))), (q5, .inl (gC g 0, 90, .inl (fun _ => 0))), (q6, .inl (gC g 0, 3, .inl (fun _ => 0))), (q7, .inl (gC g 0, 3, .inl (fun _ => 0))), (q8, .inl (gC g 0, 3, .inl (fun _ => 0))), (q9, .inl (gC g 0, 4, .inl (fun _ => 0)))] := hD
  have hP : va_P (gD g) vwCl (wQ g (fun k => match k with | 0 => h0 | 1 => q1 | 2 => q2 | 3 => q3 | 4 => q4 | 5 => q5 | 6 => q6 | 7 => q7 | 8 => q8 | _ => q9) qZero) H := hP
  have hD : va_D A (wQ g (fun k => match k with | 0 => h0 | 1 => q1 | 2 => q2 | 3 => q3 | 4 => q4 | 5 => q5 | 6 => q6 | 7 => q7 | 8 => q8 | _ => q9) qZero) := hD
  obtain ⟨hq, e0, hPz, hDz⟩ : ∃ h : Nat → Nat, h 0 = h0 ∧ va_P (gD g) vwCl (wQ g h qZero) H ∧ va_D A (wQ g h qZero) := ⟨_, rfl, hP, hD⟩
  subst e0
  have hP := hPz
  have hD := hDz
  have hl : lv_has ls 2 [(0, .ref (hq 0))] := hl
  generalize hQ : MQ below _ _ _ _ _ _ = Q
  unfold f_X7_init at hf
  obtain ⟨w0, ew0⟩ : ∃ y, y = qZero := ⟨_, rfl⟩
  have hf := jbN_e hf ew0
  rw [← ew0] at hP hD
  have hL84 : ∀ (n : Nat) (x1 : Int32) (qv : QV) (H : Heap) (locs : List Loc) (ls : Array Slot) (o84 : Int32 × QV), jbL (fun s => f_X7_init_L84 (s.1) (s.2)) n (x1, qv) = some o84 → va_P (gD g) vwCl (wQ g hq qv) H → va_D A (wQ g hq qv) → va_S A s.heap H locs → lv_has ls 2 [(0, .ref (hq 0)), (1, .int x1)] → (∀ (H : Heap) (locs : List Loc) (ls : Array Slot), va_P (gD g) vwCl (wQ g hq (o84.2)) H → va_D A (wQ g hq (o84.2)) → va_S A s.heap H locs → lv_has ls 2 [] → W p l e rm_X7_init s mi [.ref (hq 0)].toArray below meth c H locs 9 223 Q (F0 mi 104 ls [])) → W p l e rm_X7_init s mi [.ref (hq 0)].toArray below meth c H locs 9 223 Q (F0 mi 84 ls []) := by
    intro n
    induction n with
    | zero => intro x1 qv H locs ls o84 hf; exact absurd hf (jbL_0 _ _ _)
    | succ n ih =>
      intro x1 qv H locs ls o84 hf hP hD hS hl hk
      obtain ⟨r, hf, hr⟩ := jbL_e hf
      have hf : f_X7_init_L84 x1 qv = some r := hf
      unfold f_X7_init_L84 at hf
      refine lv_iload_n hx hb dX7_init_84 rfl (lv_at hl 1 rfl) ?_
      refine lv_bipush (v := 30) hx hb dX7_init_85 (by decide) ?_
      refine lv_icmp_ge (tgt := 104) hx hb dX7_init_87 (by decide) (fun hc => ?_) (fun hc => ?_)
      · have hf := jbT hf hc
        cases hf
        obtain rfl := jbR_r hr
        exact hk _ _ _ hP hD hS (lv_sub hl [] rfl)
      · have hf := jbF hf hc
        refine lv_aload_n hx hb dX7_init_90 rfl (lv_at hl 0 rfl) ?_
        refine va_get (D := gD g) (ci := 7) (v := .ref (hq 1)) (C := RX7) (T := TX7) (N := 15) hx hb hts hinX7 hown hK hP 0 rfl rfl 0 (by decide) k2 (fun _ h9 => h9) rfl dX7_init_91 ?_
        refine lv_iload_n hx hb dX7_init_94 rfl (lv_at hl 1 rfl) ?_
        refine lv_bipush (v := 6) hx hb dX7_init_95 (by decide) ?_
        obtain ⟨h3, hf⟩ := jbA_e hf
        refine va_iast hx hb hK hP hD hS 1 0 rfl rfl h3 dX7_init_97 (fun H locs hP hD hS => ?_)
        obtain ⟨w4, ew4⟩ : ∃ y, y = (qSHeights (upd (qHeights qv) x1.toNatClampNeg 6) qv) := ⟨_, rfl⟩
        have hf := jbN_e hf ew4
        have hP : va_P (gD g) vwCl (wQ g hq w4) H := by rw [ew4]; exact hP
        have hD : va_D A (wQ g hq w4) := by rw [ew4]; exact hD
        refine lv_iinc (v := (x1 + 1)) (lv' := [(1, .int (x1 + 1)), (0, .ref (hq 0))]) hx hb dX7_init_98 hl (k := 1) rfl rfl (by decide) rfl (fun ls hl => ?_)
        refine lv_goto (tgt := 84) hx hb dX7_init_101 (by decide) ?_
        cases hf
        exact ih (x1 + 1) w4 _ _ _ _ hr hP hD hS (lv_sub hl [1, 0] rfl) hk
  refine lv_aload_n hx hb dX7_init_72 rfl (lv_at hl 0 rfl) ?_
  refine lv_iconst (v := 1) hx hb dX7_init_73 (by decide) ?_
  refine va_put (D := gD g) (ci := 7) (v := .int 1) (ty := .int) (C := RX7) (T := TX7) (N := 15) hx hb hts hinX7 tyX7 tyX7_ok nmX7 hown hK hP hD hS 0 rfl rfl 10 (by decide) k0 (fun _ h9 => h9) rfl (tyX7_ok 10 (by decide)) rfl rfl (Nat.le_of_ble_eq_true rfl) dX7_init_74 (fun H locs hP hD hS => ?_)
  obtain ⟨w1, ew1⟩ : ∃ y, y = (qSLimit 1 w0) := ⟨_, rfl⟩
  have hf := jbN_e hf ew1
  have hP : va_P (gD g) vwCl (wQ g hq w1) H := by rw [ew1]; exact hP
  have hD : va_D A (wQ g hq w1) := by rw [ew1]; exact hD
  refine lv_aload_n hx hb dX7_init_77 rfl (lv_at hl 0 rfl) ?_
  refine lv_iconst (v := 5) hx hb dX7_init_78 (by decide) ?_
  refine va_put (D := gD g) (ci := 7) (v := .int 5) (ty := .int) (C := RX7) (T := TX7) (N := 15) hx hb hts hinX7 tyX7 tyX7_ok nmX7 hown hK hP hD hS 0 rfl rfl 11 (by decide) k1 (fun _ h9 => h9) rfl (tyX7_ok 11 (by decide)) rfl rfl (Nat.le_of_ble_eq_true rfl) dX7_init_79 (fun H locs hP hD hS => ?_)
  obtain ⟨w2, ew2⟩ : ∃ y, y = (qSRubble 5 w1) := ⟨_, rfl⟩
  have hf := jbN_e hf ew2
  have hP : va_P (gD g) vwCl (wQ g hq w2) H := by rw [ew2]; exact hP
  have hD : va_D A (wQ g hq w2) := by rw [ew2]; exact hD
  refine lv_iconst (v := 0) hx hb dX7_init_82 (by decide) ?_
  refine lv_istore_n (lv' := [(1, .int 0), (0, .ref (hq 0))]) hx hb dX7_init_83 rfl hl (by decide) rfl (fun ls hl => ?_)
  obtain ⟨o84, hg, hf⟩ := jbB_e hf
  refine hL84 _ 0 w2 _ _ _ _ hg hP hD hS (lv_sub hl [1, 0] rfl) (fun H locs ls hP hD hS hl => ?_)
  cases hf
  subst hQ
  exact rz_v (RT := Nat → Nat) hq rfl hx hb hrt hlk hK hP hD hS (Nat.le_of_ble_eq_true rfl) (Nat.le_of_ble_eq_true rfl) dX7_init_104
def rm_X10_init : Room := { frames := 5, cells := 33, slots := 999, locals := 92 }
theorem hd_X10_init : yX10_init.cls ≠ "java/lang/invoke/MethodHandle" ∧ yX10_init.cls ≠ "java/lang/invoke/VarHandle" ∧ (parseMethodDescriptor yX10_init.desc).map (fun d => d.parameters.length) = some 0 := by decide +kernel
set_option maxHeartbeats 4000000 in
set_option maxRecDepth 100000 in
theorem c_X10_init (l : Launch) (g : GG) (h0 : Nat) (out : QV) (hf : f_X7_init = some out) : MzV (RT := Nat → Nat → Nat) l yX10_init wsX10_init rm_X10_init g [(h0, .inr (9, [.null, .null, .null, .null, .null, .null, .null, .int 0, .int 0]))] [.ref h0] (fun h => h 0 0 = h0) (fun h => wT g h (none, -1, -1) ++ (wQ g (h 1) out ++ (wQ g (h 2) out ++ (wS g (h 3) sZero ++ (wH g (h 4) (fun _ _ => 0) ([], 0, 0) ++ ((wP g (h 5) (fun _ => 0, 0) ++ wL g (h 5 2) (0, 0, none)) ++ wO g (h 6) (fun _ => 0, 0))))))) 33 999 := by
  refine fun sz => mt_of (cc := cX10_init) (maxL := 1) (ret := none) (own := RX10) (Qc := fun A => va_Qv (fun h : Nat → Nat → Nat => h 0 0 = h0) (fun h t => PosM g A (wT g h (none, -1, -1) ++ (wQ g (h 1) out ++ (wQ g (h 2) out ++ (wS g (h 3) sZero ++ (wH g (h 4) (fun _ _ => 0) ([], 0, 0) ++ ((wP g (h 5) (fun _ => 0, 0) ++ wL g (h 5 2) (0, 0, none)) ++ wO g (h 6) (fun _ => 0, 0))))))) t) A) (by decide +kernel) rfl rfl (Nat.le_of_ble_eq_true rfl) ?_ sz
  intro p e s mi below meth c A ls hB hnm hrt hlk hP hD hl
  obtain ⟨hx, hb, hml, hown, hts, hK, hZ, hT, hA, -⟩ := hB
  have hS : va_S A s.heap s.heap [] := va_S.rf
  have hl : lv_has ls 1 [(0, .ref h0)] := hl
  have hinX10 : ∀ w ∈ wsX100, w ∈ wsX10_init := by decide +kernel
  have hinX4 : ∀ w ∈ wsX40, w ∈ wsX10_init := by decide +kernel
  have hinX5 : ∀ w ∈ wsX50, w ∈ wsX10_init := by decide +kernel
  have hinX6 : ∀ w ∈ wsX60, w ∈ wsX10_init := by decide +kernel
  have hinX7 : ∀ w ∈ wsX70, w ∈ wsX10_init := by decide +kernel
  have hinX8 : ∀ w ∈ wsX80, w ∈ wsX10_init := by decide +kernel
  have kk0 := hts (.methodLink RX10 1 objectInit) (by decide +kernel)
  have kk1 := hts (.instanceMethod objectInit) (by decide +kernel)
  have kk2 := hts (.code objectInit ⟨#[0xb1]⟩ 1 none) (by decide +kernel)
  have kk3 := hts (.classLink RX10 7 RX7) (by decide +kernel)
  have kk4 := hts (.instantiable RX7 15) (by decide +kernel)
  have kk5 := hts (.initialized RX7) (by decide +kernel)
  have kk6 := hts (.methodLink RX10 9 yX7_init) (by decide +kernel)
  have kk7 := hts (.instanceMethod yX7_init) (by decide +kernel)
  have kk8 := hts (.fieldLink RX10 10 "TerraceQuarry" "quarry" "LTerraceQuarry$Quarry;") (by decide +kernel)
  have kk9 := hts (.fieldLink RX10 16 "TerraceQuarry" "beforeRun" "LTerraceQuarry$Quarry;") (by decide +kernel)
  have kk10 := hts (.classLink RX10 19 RX8) (by decide +kernel)
  have kk11 := hts (.instantiable RX8 5) (by decide +kernel)
  have kk12 := hts (.initialized RX8) (by decide +kernel)
  have kk13 := hts (.methodLink RX10 21 yX8_init) (by decide +kernel)
  have kk14 := hts (.instanceMethod yX8_init) (by decide +kernel)
  have kk15 := hts (.fieldLink RX10 22 "TerraceQuarry" "survey" "LTerraceQuarry$Survey;") (by decide +kernel)
  have kk16 := hts (.classLink RX10 26 RX4) (by decide +kernel)
  have kk17 := hts (.instantiable RX4 3) (by decide +kernel)
  have kk18 := hts (.initialized RX4) (by decide +kernel)
  have kk19 := hts (.methodLink RX10 28 yX4_init) (by decide +kernel)
  have kk20 := hts (.instanceMethod yX4_init) (by decide +kernel)
  have kk21 := hts (.fieldLink RX10 29 "TerraceQuarry" "history" "LTerraceQuarry$History;") (by decide +kernel)
  have kk22 := hts (.classLink RX10 33 RX6) (by decide +kernel)
  have kk23 := hts (.instantiable RX6 3) (by decide +kernel)
  have kk24 := hts (.initialized RX6) (by decide +kernel)
  have kk25 := hts (.methodLink RX10 35 yX6_init) (by decide +kernel)
  have kk26 := hts (.instanceMethod yX6_init) (by decide +kernel)
  have kk27 := hts (.fieldLink RX10 36 "TerraceQuarry" "program" "LTerraceQuarry$Program;") (by decide +kernel)
  have kk28 := hts (.classLink RX10 40 RX5) (by decide +kernel)
  have kk29 := hts (.instantiable RX5 2) (by decide +kernel)
  have kk30 := hts (.initialized RX5) (by decide +kernel)
  have kk31 := hts (.methodLink RX10 42 yX5_init) (by decide +kernel)
  have kk32 := hts (.instanceMethod yX5_init) (by decide +kernel)
  have kk33 := hts (.fieldLink RX10 43 "TerraceQuarry" "line" "LTerraceQuarry$OutputLine;") (by decide +kernel)
  have kk34 := hts (.fieldLink RX10 47 "TerraceQuarry" "saved" "LTerraceQuarry$Quarry;") (by decide +kernel)
  have kk35 := hts (.fieldLink RX10 50 "TerraceQuarry" "errorPosition" "I") (by decide +kernel)
  have kk36 := hts (.fieldLink RX10 54 "TerraceQuarry" "failedCommand" "I") (by decide +kernel)
  refine lv_aload_n hx hb dX10_init_0 rfl (lv_at hl 0 rfl) ?_
  refine W.objInit hx hb hown kk0 kk1 kk2 rfl (by rw [hml]; exact hl.1) rfl dX10_init_1 (Nat.le_of_ble_eq_true rfl) (Nat.le_of_ble_eq_true rfl) ?_
  refine W.eq (g2 := F0 mi 4 ls []) rfl ?_
  refine lv_aload_n hx hb dX10_init_4 rfl (lv_at hl 0 rfl) ?_
  refine va_new (ci := 7) (fs := [.null, .null, .null, .null, .null, .null, .null, .null, .null, .int 0, .int 0, .int 0, .int 0, .int 0, .long 0]) (C := RX7) (T := TX7) (N := 15) hx hb hts hinX7 tyX7 tyX7_ok hown kk3 kk4 kk5 hK hP hD hS hA rfl (fun j hj => by rcases (show j = 0 ∨ j = 1 ∨ j = 2 ∨ j = 3 ∨ j = 4 ∨ j = 5 ∨ j = 6 ∨ j = 7 ∨ j = 8 ∨ j = 9 ∨ j = 10 ∨ j = 11 ∨ j = 12 ∨ j = 13 ∨ j = 14 by omega) with rfl | rfl | rfl | rfl | rfl | rfl | rfl | rfl | rfl | rfl | rfl | rfl | rfl | rfl | rfl <;> rfl) (Nat.le_of_ble_eq_true rfl) (Nat.le_of_ble_eq_true rfl) dX10_init_5 (fun q1 H hP hD hS => ?_)
  have hP : va_P (gD g) vwCl [(h0, .inr (9, [.null, .null, .null, .null, .null, .null, .null, .int 0, .int 0])), (q1, .inr (7, [.null, .null, .null, .null, .null, .null, .null, .null, .null, .int 0, .int 0, .int 0, .int 0, .int 0, .long 0]))] H := hP
  have hD : va_D A [(h0, .inr (9, [.null, .null, .null, .null, .null, .null, .null, .int 0, .int 0])), (q1, .inr (7, [.null, .null, .null, .null, .null, .null, .null, .null, .null, .int 0, .int 0, .int 0, .int 0, .int 0, .long 0]))] := hD
  refine lv_dup hx hb dX10_init_8 rfl ?_
  refine czI_v (As := []) (rest := [.ref q1, .ref h0]) (Wr := [(h0, .inr (9, [.null, .null, .null, .null, .null, .null, .null, .int 0, .int 0]))]) (Wn := fun u1 => ([(h0, .inr (9, [.null, .null, .null, .null, .null, .null, .null, .int 0, .int 0]))] ++ wQ g u1 out)) ⟨hx, hb, hml, hown, hts⟩ (c_X7_init l g q1 _ hf) (cwI 0 hts gX10_init_X7_init rfl rfl rfl kk5 kk6 kk7 rfl (by decide +kernel) ⟨(Nat.le_of_ble_eq_true rfl), (Nat.le_of_ble_eq_true rfl)⟩) hK hZ hT hA hP hD hS hl.1 (wp_of fun f => by simp only [List.countP_append, List.countP_cons, List.countP_nil] <;> omega) (fun _ => (wp_of fun f => by simp only [List.countP_append, List.countP_cons, List.countP_nil] <;> omega)) rfl rfl (Nat.le_of_ble_eq_true rfl) ⟨(Nat.le_of_ble_eq_true rfl), (Nat.le_of_ble_eq_true rfl)⟩ dX10_init_9 (fun u1 H locs ho hP hD hS => ?_)
  rw [← ho]
  refine va_putF (D := gD g) (ci := 9) (v := .ref (u1 0)) (ty := .object "TerraceQuarry$Quarry") (C := RX10) (T := TX10) (N := 9) hx hb hts hinX10 tyX10 tyX10_ok nmX10 hown hK hP hD hS 0 rfl rfl 0 (by decide) kk8 (fun _ h9 => h9) rfl hnm rfl (tyX10_ok 0 (by decide)) rfl rfl (Nat.le_of_ble_eq_true rfl) dX10_init_12 (fun H locs hP hD hS => ?_)
  have hP : va_P (gD g) vwCl ([(h0, .inr (9, [.ref (u1 0), .null, .null, .null, .null, .null, .null, .int 0, .int 0]))] ++ wQ g u1 out) H := hP
  have hD : va_D A ([(h0, .inr (9, [.ref (u1 0), .null, .null, .null, .null, .null, .null, .int 0, .int 0]))] ++ wQ g u1 out) := hD
  refine lv_aload_n hx hb dX10_init_15 rfl (lv_at hl 0 rfl) ?_
  refine va_new (ci := 7) (fs := [.null, .null, .null, .null, .null, .null, .null, .null, .null, .int 0, .int 0, .int 0, .int 0, .int 0, .long 0]) (C := RX7) (T := TX7) (N := 15) hx hb hts hinX7 tyX7 tyX7_ok hown kk3 kk4 kk5 hK hP hD hS hA rfl (fun j hj => by rcases (show j = 0 ∨ j = 1 ∨ j = 2 ∨ j = 3 ∨ j = 4 ∨ j = 5 ∨ j = 6 ∨ j = 7 ∨ j = 8 ∨ j = 9 ∨ j = 10 ∨ j = 11 ∨ j = 12 ∨ j = 13 ∨ j = 14 by omega) with rfl | rfl | rfl | rfl | rfl | rfl | rfl | rfl | rfl | rfl | rfl | rfl | rfl | rfl | rfl <;> rfl) (Nat.le_of_ble_eq_true rfl) (Nat.le_of_ble_eq_true rfl) dX10_init_16 (fun q2 H hP hD hS => ?_)
  have hP : va_P (gD g) vwCl ([(h0, .inr (9, [.ref (u1 0), .null, .null, .null, .null, .null, .null, .int 0, .int 0]))] ++ wQ g u1 out ++ [(q2, .inr (7, [.null, .null, .null, .null, .null, .null, .null, .null, .null, .int 0, .int 0, .int 0, .int 0, .int 0, .long 0]))]) H := hP
  have hD : va_D A ([(h0, .inr (9, [.ref (u1 0), .null, .null, .null, .null, .null, .null, .int 0, .int 0]))] ++ wQ g u1 out ++ [(q2, .inr (7, [.null, .null, .null, .null, .null, .null, .null, .null, .null, .int 0, .int 0, .int 0, .int 0, .int 0, .long 0]))]) := hD
  refine lv_dup hx hb dX10_init_19 rfl ?_
  refine czI_v (As := []) (rest := [.ref q2, .ref h0]) (Wr := ([(h0, .inr (9, [.ref (u1 0), .null, .null, .null, .null, .null, .null, .int 0, .int 0]))] ++ wQ g u1 out)) (Wn := fun u2 => ([(h0, .inr (9, [.ref (u1 0), .null, .null, .null, .null, .null, .null, .int 0, .int 0]))] ++ wQ g u1 out ++ wQ g u2 out)) ⟨hx, hb, hml, hown, hts⟩ (c_X7_init l g q2 _ hf) (cwI 0 hts gX10_init_X7_init rfl rfl rfl kk5 kk6 kk7 rfl (by decide +kernel) ⟨(Nat.le_of_ble_eq_true rfl), (Nat.le_of_ble_eq_true rfl)⟩) hK hZ hT hA hP hD hS hl.1 (wp_of fun f => by simp only [List.countP_append, List.countP_cons, List.countP_nil] <;> omega) (fun _ => (wp_of fun f => by simp only [List.countP_append, List.countP_cons, List.countP_nil] <;> omega)) rfl rfl (Nat.le_of_ble_eq_true rfl) ⟨(Nat.le_of_ble_eq_true rfl), (Nat.le_of_ble_eq_true rfl)⟩ dX10_init_20 (fun u2 H locs ho hP hD hS => ?_)
  rw [← ho]
  refine va_putF (D := gD g) (ci := 9) (v := .ref (u2 0)) (ty := .object "TerraceQuarry$Quarry") (C := RX10) (T := TX10) (N := 9) hx hb hts hinX10 tyX10 tyX10_ok nmX10 hown hK hP hD hS 0 rfl rfl 1 (by decide) kk9 (fun _ h9 => h9) rfl hnm rfl (tyX10_ok 1 (by decide)) rfl rfl (Nat.le_of_ble_eq_true rfl) dX10_init_23 (fun H locs hP hD hS => ?_)
  have hP : va_P (gD g) vwCl ([(h0, .inr (9, [.ref (u1 0), .ref (u2 0), .null, .null, .null, .null, .null, .int 0, .int 0]))] ++ wQ g u1 out ++ wQ g u2 out) H := hP
  have hD : va_D A ([(h0, .inr (9, [.ref (u1 0), .ref (u2 0), .null, .null, .null, .null, .null, .int 0, .int 0]))] ++ wQ g u1 out ++ wQ g u2 out) := hD
  refine lv_aload_n hx hb dX10_init_26 rfl (lv_at hl 0 rfl) ?_
  refine va_new (ci := 8) (fs := [.null, .null, .null, .null, .null]) (C := RX8) (T := TX8) (N := 5) hx hb hts hinX8 tyX8 tyX8_ok hown kk10 kk11 kk12 hK hP hD hS hA rfl (fun j hj => by rcases (show j = 0 ∨ j = 1 ∨ j = 2 ∨ j = 3 ∨ j = 4 by omega) with rfl | rfl | rfl | rfl | rfl <;> rfl) (Nat.le_of_ble_eq_true rfl) (Nat.le_of_ble_eq_true rfl) dX10_init_27 (fun q3 H hP hD hS => ?_)
  have hP : va_P (gD g) vwCl ([(h0, .inr (9, [.ref (u1 0), .ref (u2 0), .null, .null, .null, .null, .null, .int 0, .int 0]))] ++ wQ g u1 out ++ wQ g u2 out ++ [(q3, .inr (8, [.null, .null, .null, .null, .null]))]) H := hP
  have hD : va_D A ([(h0, .inr (9, [.ref (u1 0), .ref (u2 0), .null, .null, .null, .null, .null, .int 0, .int 0]))] ++ wQ g u1 out ++ wQ g u2 out ++ [(q3, .inr (8, [.null, .null, .null, .null, .null]))]) := hD
  refine lv_dup hx hb dX10_init_30 rfl ?_
  refine czI_v (As := []) (rest := [.ref q3, .ref h0]) (Wr := ([(h0, .inr (9, [.ref (u1 0), .ref (u2 0), .null, .null, .null, .null, .null, .int 0, .int 0]))] ++ wQ g u1 out ++ wQ g u2 out)) (Wn := fun u3 => ([(h0, .inr (9, [.ref (u1 0), .ref (u2 0), .null, .null, .null, .null, .null, .int 0, .int 0]))] ++ wQ g u1 out ++ wQ g u2 out ++ wS g u3 sZero)) ⟨hx, hb, hml, hown, hts⟩ (c_X8_init l g q3) (cwI 0 hts gX10_init_X8_init rfl rfl rfl kk12 kk13 kk14 rfl (by decide +kernel) ⟨(Nat.le_of_ble_eq_true rfl), (Nat.le_of_ble_eq_true rfl)⟩) hK hZ hT hA hP hD hS hl.1 (wp_of fun f => by simp only [List.countP_append, List.countP_cons, List.countP_nil] <;> omega) (fun _ => (wp_of fun f => by simp only [List.countP_append, List.countP_cons, List.countP_nil] <;> omega)) rfl rfl (Nat.le_of_ble_eq_true rfl) ⟨(Nat.le_of_ble_eq_true rfl), (Nat.le_of_ble_eq_true rfl)⟩ dX10_init_31 (fun u3 H locs ho hP hD hS => ?_)
  rw [← ho]
  refine va_putF (D := gD g) (ci := 9) (v := .ref (u3 0)) (ty := .object "TerraceQuarry$Survey") (C := RX10) (T := TX10) (N := 9) hx hb hts hinX10 tyX10 tyX10_ok nmX10 hown hK hP hD hS 0 rfl rfl 2 (by decide) kk15 (fun _ h9 => h9) rfl hnm rfl (tyX10_ok 2 (by decide)) rfl rfl (Nat.le_of_ble_eq_true rfl) dX10_init_34 (fun H locs hP hD hS => ?_)
  have hP : va_P (gD g) vwCl ([(h0, .inr (9, [.ref (u1 0), .ref (u2 0), .ref (u3 0), .null, .null, .null, .null, .int 0, .int 0]))] ++ wQ g u1 out ++ wQ g u2 out ++ wS g u3 sZero) H := hP
  have hD : va_D A ([(h0, .inr (9, [.ref (u1 0), .ref (u2 0), .ref (u3 0), .null, .null, .null, .null, .int 0, .int 0]))] ++ wQ g u1 out ++ wQ g u2 out ++ wS g u3 sZero) := hD
  refine lv_aload_n hx hb dX10_init_37 rfl (lv_at hl 0 rfl) ?_
  refine va_new (ci := 4) (fs := [.null, .int 0, .int 0]) (C := RX4) (T := TX4) (N := 3) hx hb hts hinX4 tyX4 tyX4_ok hown kk16 kk17 kk18 hK hP hD hS hA rfl (fun j hj => by rcases (show j = 0 ∨ j = 1 ∨ j = 2 by omega) with rfl | rfl | rfl <;> rfl) (Nat.le_of_ble_eq_true rfl) (Nat.le_of_ble_eq_true rfl) dX10_init_38 (fun q4 H hP hD hS => ?_)
  have hP : va_P (gD g) vwCl ([(h0, .inr (9, [.ref (u1 0), .ref (u2 0), .ref (u3 0), .null, .null, .null, .null, .int 0, .int 0]))] ++ wQ g u1 out ++ wQ g u2 out ++ wS g u3 sZero ++ [(q4, .inr (4, [.null, .int 0, .int 0]))]) H := hP
  have hD : va_D A ([(h0, .inr (9, [.ref (u1 0), .ref (u2 0), .ref (u3 0), .null, .null, .null, .null, .int 0, .int 0]))] ++ wQ g u1 out ++ wQ g u2 out ++ wS g u3 sZero ++ [(q4, .inr (4, [.null, .int 0, .int 0]))]) := hD
  refine lv_dup hx hb dX10_init_41 rfl ?_
  refine czI_v (As := []) (rest := [.ref q4, .ref h0]) (Wr := ([(h0, .inr (9, [.ref (u1 0), .ref (u2 0), .ref (u3 0), .null, .null, .null, .null, .int 0, .int 0]))] ++ wQ g u1 out ++ wQ g u2 out ++ wS g u3 sZero)) (Wn := fun u4 => ([(h0, .inr (9, [.ref (u1 0), .ref (u2 0), .ref (u3 0), .null, .null, .null, .null, .int 0, .int 0]))] ++ wQ g u1 out ++ wQ g u2 out ++ wS g u3 sZero ++ wH g u4 (fun _ _ => 0) ([], 0, 0))) ⟨hx, hb, hml, hown, hts⟩ (c_X4_init l g q4) (cwI 0 hts gX10_init_X4_init rfl rfl rfl kk18 kk19 kk20 rfl (by decide +kernel) ⟨(Nat.le_of_ble_eq_true rfl), (Nat.le_of_ble_eq_true rfl)⟩) hK hZ hT hA hP hD hS hl.1 (wp_of fun f => by simp only [List.countP_append, List.countP_cons, List.countP_nil] <;> omega) (fun _ => (wp_of fun f => by simp only [List.countP_append, List.countP_cons, List.countP_nil] <;> omega)) rfl rfl (Nat.le_of_ble_eq_true rfl) ⟨(Nat.le_of_ble_eq_true rfl), (Nat.le_of_ble_eq_true rfl)⟩ dX10_init_42 (fun u4 H locs ho hP hD hS => ?_)
  rw [← ho]
  refine va_putF (D := gD g) (ci := 9) (v := .ref (u4 0)) (ty := .object "TerraceQuarry$History") (C := RX10) (T := TX10) (N := 9) hx hb hts hinX10 tyX10 tyX10_ok nmX10 hown hK hP hD hS 0 rfl rfl 3 (by decide) kk21 (fun _ h9 => h9) rfl hnm rfl (tyX10_ok 3 (by decide)) rfl rfl (Nat.le_of_ble_eq_true rfl) dX10_init_45 (fun H locs hP hD hS => ?_)
  have hP : va_P (gD g) vwCl ([(h0, .inr (9, [.ref (u1 0), .ref (u2 0), .ref (u3 0), .ref (u4 0), .null, .null, .null, .int 0, .int 0]))] ++ wQ g u1 out ++ wQ g u2 out ++ wS g u3 sZero ++ wH g u4 (fun _ _ => 0) ([], 0, 0)) H := hP
  have hD : va_D A ([(h0, .inr (9, [.ref (u1 0), .ref (u2 0), .ref (u3 0), .ref (u4 0), .null, .null, .null, .int 0, .int 0]))] ++ wQ g u1 out ++ wQ g u2 out ++ wS g u3 sZero ++ wH g u4 (fun _ _ => 0) ([], 0, 0)) := hD
  refine lv_aload_n hx hb dX10_init_48 rfl (lv_at hl 0 rfl) ?_
  refine va_new (ci := 6) (fs := [.null, .null, .int 0]) (C := RX6) (T := TX6) (N := 3) hx hb hts hinX6 tyX6 tyX6_ok hown kk22 kk23 kk24 hK hP hD hS hA rfl (fun j hj => by rcases (show j = 0 ∨ j = 1 ∨ j = 2 by omega) with rfl | rfl | rfl <;> rfl) (Nat.le_of_ble_eq_true rfl) (Nat.le_of_ble_eq_true rfl) dX10_init_49 (fun q5 H hP hD hS => ?_)
  have hP : va_P (gD g) vwCl ([(h0, .inr (9, [.ref (u1 0), .ref (u2 0), .ref (u3 0), .ref (u4 0), .null, .null, .null, .int 0, .int 0]))] ++ wQ g u1 out ++ wQ g u2 out ++ wS g u3 sZero ++ wH g u4 (fun _ _ => 0) ([], 0, 0) ++ [(q5, .inr (6, [.null, .null, .int 0]))]) H := hP
  have hD : va_D A ([(h0, .inr (9, [.ref (u1 0), .ref (u2 0), .ref (u3 0), .ref (u4 0), .null, .null, .null, .int 0, .int 0]))] ++ wQ g u1 out ++ wQ g u2 out ++ wS g u3 sZero ++ wH g u4 (fun _ _ => 0) ([], 0, 0) ++ [(q5, .inr (6, [.null, .null, .int 0]))]) := hD
  refine lv_dup hx hb dX10_init_52 rfl ?_
  refine czI_v (As := []) (rest := [.ref q5, .ref h0]) (Wr := ([(h0, .inr (9, [.ref (u1 0), .ref (u2 0), .ref (u3 0), .ref (u4 0), .null, .null, .null, .int 0, .int 0]))] ++ wQ g u1 out ++ wQ g u2 out ++ wS g u3 sZero ++ wH g u4 (fun _ _ => 0) ([], 0, 0))) (Wn := fun u5 => ([(h0, .inr (9, [.ref (u1 0), .ref (u2 0), .ref (u3 0), .ref (u4 0), .null, .null, .null, .int 0, .int 0]))] ++ wQ g u1 out ++ wQ g u2 out ++ wS g u3 sZero ++ wH g u4 (fun _ _ => 0) ([], 0, 0) ++ (wP g u5 (fun _ => 0, 0) ++ wL g (u5 2) (0, 0, none)))) ⟨hx, hb, hml, hown, hts⟩ (c_X6_init l g q5) (cwI 0 hts gX10_init_X6_init rfl rfl rfl kk24 kk25 kk26 rfl (by decide +kernel) ⟨(Nat.le_of_ble_eq_true rfl), (Nat.le_of_ble_eq_true rfl)⟩) hK hZ hT hA hP hD hS hl.1 (wp_of fun f => by simp only [List.countP_append, List.countP_cons, List.countP_nil] <;> omega) (fun _ => (wp_of fun f => by simp only [List.countP_append, List.countP_cons, List.countP_nil] <;> omega)) rfl rfl (Nat.le_of_ble_eq_true rfl) ⟨(Nat.le_of_ble_eq_true rfl), (Nat.le_of_ble_eq_true rfl)⟩ dX10_init_53 (fun u5 H locs ho hP hD hS => ?_)
  rw [← ho]
  refine va_putF (D := gD g) (ci := 9) (v := .ref (u5 0)) (ty := .object "TerraceQuarry$Program") (C := RX10) (T := TX10) (N := 9) hx hb hts hinX10 tyX10 tyX10_ok nmX10 hown hK hP hD hS 0 rfl rfl 4 (by decide) kk27 (fun _ h9 => h9) rfl hnm rfl (tyX10_ok 4 (by decide)) rfl rfl (Nat.le_of_ble_eq_true rfl) dX10_init_56 (fun H locs hP hD hS => ?_)
  have hP : va_P (gD g) vwCl ([(h0, .inr (9, [.ref (u1 0), .ref (u2 0), .ref (u3 0), .ref (u4 0), .ref (u5 0), .null, .null, .int 0, .int 0]))] ++ wQ g u1 out ++ wQ g u2 out ++ wS g u3 sZero ++ wH g u4 (fun _ _ => 0) ([], 0, 0) ++ (wP g u5 (fun _ => 0, 0) ++ wL g (u5 2) (0, 0, none))) H := hP
  have hD : va_D A ([(h0, .inr (9, [.ref (u1 0), .ref (u2 0), .ref (u3 0), .ref (u4 0), .ref (u5 0), .null, .null, .int 0, .int 0]))] ++ wQ g u1 out ++ wQ g u2 out ++ wS g u3 sZero ++ wH g u4 (fun _ _ => 0) ([], 0, 0) ++ (wP g u5 (fun _ => 0, 0) ++ wL g (u5 2) (0, 0, none))) := hD
  refine lv_aload_n hx hb dX10_init_59 rfl (lv_at hl 0 rfl) ?_
  refine va_new (ci := 5) (fs := [.null, .int 0]) (C := RX5) (T := TX5) (N := 2) hx hb hts hinX5 tyX5 tyX5_ok hown kk28 kk29 kk30 hK hP hD hS hA rfl (fun j hj => by rcases (show j = 0 ∨ j = 1 by omega) with rfl | rfl <;> rfl) (Nat.le_of_ble_eq_true rfl) (Nat.le_of_ble_eq_true rfl) dX10_init_60 (fun q6 H hP hD hS => ?_)
  have hP : va_P (gD g) vwCl ([(h0, .inr (9, [.ref (u1 0), .ref (u2 0), .ref (u3 0), .ref (u4 0), .ref (u5 0), .null, .null, .int 0, .int 0]))] ++ wQ g u1 out ++ wQ g u2 out ++ wS g u3 sZero ++ wH g u4 (fun _ _ => 0) ([], 0, 0) ++ (wP g u5 (fun _ => 0, 0) ++ wL g (u5 2) (0, 0, none)) ++ [(q6, .inr (5, [.null, .int 0]))]) H := hP
  have hD : va_D A ([(h0, .inr (9, [.ref (u1 0), .ref (u2 0), .ref (u3 0), .ref (u4 0), .ref (u5 0), .null, .null, .int 0, .int 0]))] ++ wQ g u1 out ++ wQ g u2 out ++ wS g u3 sZero ++ wH g u4 (fun _ _ => 0) ([], 0, 0) ++ (wP g u5 (fun _ => 0, 0) ++ wL g (u5 2) (0, 0, none)) ++ [(q6, .inr (5, [.null, .int 0]))]) := hD
  refine lv_dup hx hb dX10_init_63 rfl ?_
  refine czI_v (As := []) (rest := [.ref q6, .ref h0]) (Wr := ([(h0, .inr (9, [.ref (u1 0), .ref (u2 0), .ref (u3 0), .ref (u4 0), .ref (u5 0), .null, .null, .int 0, .int 0]))] ++ wQ g u1 out ++ wQ g u2 out ++ wS g u3 sZero ++ wH g u4 (fun _ _ => 0) ([], 0, 0) ++ (wP g u5 (fun _ => 0, 0) ++ wL g (u5 2) (0, 0, none)))) (Wn := fun u6 => ([(h0, .inr (9, [.ref (u1 0), .ref (u2 0), .ref (u3 0), .ref (u4 0), .ref (u5 0), .null, .null, .int 0, .int 0]))] ++ wQ g u1 out ++ wQ g u2 out ++ wS g u3 sZero ++ wH g u4 (fun _ _ => 0) ([], 0, 0) ++ (wP g u5 (fun _ => 0, 0) ++ wL g (u5 2) (0, 0, none)) ++ wO g u6 (fun _ => 0, 0))) ⟨hx, hb, hml, hown, hts⟩ (c_X5_init l g q6) (cwI 0 hts gX10_init_X5_init rfl rfl rfl kk30 kk31 kk32 rfl (by decide +kernel) ⟨(Nat.le_of_ble_eq_true rfl), (Nat.le_of_ble_eq_true rfl)⟩) hK hZ hT hA hP hD hS hl.1 (wp_of fun f => by simp only [List.countP_append, List.countP_cons, List.countP_nil] <;> omega) (fun _ => (wp_of fun f => by simp only [List.countP_append, List.countP_cons, List.countP_nil] <;> omega)) rfl rfl (Nat.le_of_ble_eq_true rfl) ⟨(Nat.le_of_ble_eq_true rfl), (Nat.le_of_ble_eq_true rfl)⟩ dX10_init_64 (fun u6 H locs ho hP hD hS => ?_)
  rw [← ho]
  refine va_putF (D := gD g) (ci := 9) (v := .ref (u6 0)) (ty := .object "TerraceQuarry$OutputLine") (C := RX10) (T := TX10) (N := 9) hx hb hts hinX10 tyX10 tyX10_ok nmX10 hown hK hP hD hS 0 rfl rfl 5 (by decide) kk33 (fun _ h9 => h9) rfl hnm rfl (tyX10_ok 5 (by decide)) rfl rfl (Nat.le_of_ble_eq_true rfl) dX10_init_67 (fun H locs hP hD hS => ?_)
  have hP : va_P (gD g) vwCl ([(h0, .inr (9, [.ref (u1 0), .ref (u2 0), .ref (u3 0), .ref (u4 0), .ref (u5 0), .ref (u6 0), .null, .int 0, .int 0]))] ++ wQ g u1 out ++ wQ g u2 out ++ wS g u3 sZero ++ wH g u4 (fun _ _ => 0) ([], 0, 0) ++ (wP g u5 (fun _ => 0, 0) ++ wL g (u5 2) (0, 0, none)) ++ wO g u6 (fun _ => 0, 0)) H := hP
  have hD : va_D A ([(h0, .inr (9, [.ref (u1 0), .ref (u2 0), .ref (u3 0), .ref (u4 0), .ref (u5 0), .ref (u6 0), .null, .int 0, .int 0]))] ++ wQ g u1 out ++ wQ g u2 out ++ wS g u3 sZero ++ wH g u4 (fun _ _ => 0) ([], 0, 0) ++ (wP g u5 (fun _ => 0, 0) ++ wL g (u5 2) (0, 0, none)) ++ wO g u6 (fun _ => 0, 0)) := hD
  refine lv_aload_n hx hb dX10_init_70 rfl (lv_at hl 0 rfl) ?_
  refine lv_null hx hb dX10_init_71 ?_
  refine va_put (D := gD g) (ci := 9) (v := .null) (ty := .object "TerraceQuarry$Quarry") (C := RX10) (T := TX10) (N := 9) hx hb hts hinX10 tyX10 tyX10_ok nmX10 hown hK hP hD hS 0 rfl rfl 6 (by decide) kk34 (fun _ h9 => h9) rfl (tyX10_ok 6 (by decide)) rfl rfl (Nat.le_of_ble_eq_true rfl) dX10_init_72 (fun H locs hP hD hS => ?_)
  have hP : va_P (gD g) vwCl ([(h0, .inr (9, [.ref (u1 0), .ref (u2 0), .ref (u3 0), .ref (u4 0), .ref (u5 0), .ref (u6 0), .null, .int 0, .int 0]))] ++ wQ g u1 out ++ wQ g u2 out ++ wS g u3 sZero ++ wH g u4 (fun _ _ => 0) ([], 0, 0) ++ (wP g u5 (fun _ => 0, 0) ++ wL g (u5 2) (0, 0, none)) ++ wO g u6 (fun _ => 0, 0)) H := hP
  have hD : va_D A ([(h0, .inr (9, [.ref (u1 0), .ref (u2 0), .ref (u3 0), .ref (u4 0), .ref (u5 0), .ref (u6 0), .null, .int 0, .int 0]))] ++ wQ g u1 out ++ wQ g u2 out ++ wS g u3 sZero ++ wH g u4 (fun _ _ => 0) ([], 0, 0) ++ (wP g u5 (fun _ => 0, 0) ++ wL g (u5 2) (0, 0, none)) ++ wO g u6 (fun _ => 0, 0)) := hD
  refine lv_aload_n hx hb dX10_init_75 rfl (lv_at hl 0 rfl) ?_
  refine lv_iconst (v := (-1)) hx hb dX10_init_76 (by decide) ?_
  refine va_put (D := gD g) (ci := 9) (v := .int (-1)) (ty := .int) (C := RX10) (T := TX10) (N := 9) hx hb hts hinX10 tyX10 tyX10_ok nmX10 hown hK hP hD hS 0 rfl rfl 7 (by decide) kk35 (fun _ h9 => h9) rfl (tyX10_ok 7 (by decide)) rfl rfl (Nat.le_of_ble_eq_true rfl) dX10_init_77 (fun H locs hP hD hS => ?_)
  have hP : va_P (gD g) vwCl ([(h0, .inr (9, [.ref (u1 0), .ref (u2 0), .ref (u3 0), .ref (u4 0), .ref (u5 0), .ref (u6 0), .null, .int (-1), .int 0]))] ++ wQ g u1 out ++ wQ g u2 out ++ wS g u3 sZero ++ wH g u4 (fun _ _ => 0) ([], 0, 0) ++ (wP g u5 (fun _ => 0, 0) ++ wL g (u5 2) (0, 0, none)) ++ wO g u6 (fun _ => 0, 0)) H := hP
  have hD : va_D A ([(h0, .inr (9, [.ref (u1 0), .ref (u2 0), .ref (u3 0), .ref (u4 0), .ref (u5 0), .ref (u6 0), .null, .int (-1), .int 0]))] ++ wQ g u1 out ++ wQ g u2 out ++ wS g u3 sZero ++ wH g u4 (fun _ _ => 0) ([], 0, 0) ++ (wP g u5 (fun _ => 0, 0) ++ wL g (u5 2) (0, 0, none)) ++ wO g u6 (fun _ => 0, 0)) := hD
  refine lv_aload_n hx hb dX10_init_80 rfl (lv_at hl 0 rfl) ?_
  refine lv_iconst (v := (-1)) hx hb dX10_init_81 (by decide) ?_
  refine va_put (D := gD g) (ci := 9) (v := .int (-1)) (ty := .int) (C := RX10) (T := TX10) (N := 9) hx hb hts hinX10 tyX10 tyX10_ok nmX10 hown hK hP hD hS 0 rfl rfl 8 (by decide) kk36 (fun _ h9 => h9) rfl (tyX10_ok 8 (by decide)) rfl rfl (Nat.le_of_ble_eq_true rfl) dX10_init_82 (fun H locs hP hD hS => ?_)
  have hP : va_P (gD g) vwCl ([(h0, .inr (9, [.ref (u1 0), .ref (u2 0), .ref (u3 0), .ref (u4 0), .ref (u5 0), .ref (u6 0), .null, .int (-1), .int (-1)]))] ++ wQ g u1 out ++ wQ g u2 out ++ wS g u3 sZero ++ wH g u4 (fun _ _ => 0) ([], 0, 0) ++ (wP g u5 (fun _ => 0, 0) ++ wL g (u5 2) (0, 0, none)) ++ wO g u6 (fun _ => 0, 0)) H := hP
  have hD : va_D A ([(h0, .inr (9, [.ref (u1 0), .ref (u2 0), .ref (u3 0), .ref (u4 0), .ref (u5 0), .ref (u6 0), .null, .int (-1), .int (-1)]))] ++ wQ g u1 out ++ wQ g u2 out ++ wS g u3 sZero ++ wH g u4 (fun _ _ => 0) ([], 0, 0) ++ (wP g u5 (fun _ => 0, 0) ++ wL g (u5 2) (0, 0, none)) ++ wO g u6 (fun _ => 0, 0)) := hD
  exact rz_v (RT := Nat → Nat → Nat) (PR := fun h => h 0 0 = h0) (W1 := fun h => wT g h (none, -1, -1) ++ (wQ g (h 1) out ++ (wQ g (h 2) out ++ (wS g (h 3) sZero ++ (wH g (h 4) (fun _ _ => 0) ([], 0, 0) ++ ((wP g (h 5) (fun _ => 0, 0) ++ wL g (h 5 2) (0, 0, none)) ++ wO g (h 6) (fun _ => 0, 0))))))) (fun k => match k with | 0 => (fun _ => h0) | 1 => u1 | 2 => u2 | 3 => u3 | 4 => u4 | 5 => u5 | _ => u6) rfl hx hb hrt hlk hK hP hD hS (Nat.le_of_ble_eq_true rfl) (Nat.le_of_ble_eq_true rfl) dX10_init_85
