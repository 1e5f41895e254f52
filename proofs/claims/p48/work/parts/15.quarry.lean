def f_X7_copyFrom_L118 (qv1 : QV) (x2 : Int32) (qv : QV) : Option (Sum (Int32 × QV) (Int32 × QV)) :=
  if 30 ≤ x2 then
  (some (.inr (x2, qv)))
  else
  (if jIn x2 30 then
  if jIn x2 30 then
  jbN (qSLedges (upd (qLedges qv) x2.toNatClampNeg (vp_nar .boolean ((qLedges qv1) x2.toNatClampNeg))) qv) fun w17 =>
  some (.inl ((x2 + 1), w17))
  else none
  else none)
def f_X7_copyFrom (qv : QV) (qv1 : QV) : Option QV :=
  jbN (qSHeights (va_cpy (qHeights qv1) (qHeights qv) 0 0 30) qv) fun w1 =>
  jbN (qSStones (va_cpy (qStones qv1) (qStones w1) 0 0 30) w1) fun w2 =>
  jbN (qSBlockCounts (va_cpy (qBlockCounts qv1) (qBlockCounts w2) 0 0 30) w2) fun w3 =>
  jbN (qSBlocks (va_cpy (qBlocks qv1) (qBlocks w3) 0 0 90) w3) fun w4 =>
  jbN (qSWinchCells (va_cpy (qWinchCells qv1) (qWinchCells w4) 0 0 3) w4) fun w5 =>
  jbN (qSCapacities (va_cpy (qCapacities qv1) (qCapacities w5) 0 0 3) w5) fun w6 =>
  jbN (qSReaches (va_cpy (qReaches qv1) (qReaches w6) 0 0 3) w6) fun w7 =>
  jbN (qSYard (va_cpy (qYard qv1) (qYard w7) 0 0 4) w7) fun w8 =>
  (jbL (fun s => f_X7_copyFrom_L118 qv1 (s.1) (s.2)) 5000 (0, w8)).bind fun o118 =>
  jbN (qSWinches (qWinches qv1) (o118.2)) fun w9 =>
  jbN (qSLimit (qLimit qv1) w9) fun w10 =>
  jbN (qSRubble (qRubble qv1) w10) fun w11 =>
  jbN (qSCuts (qCuts qv1) w11) fun w12 =>
  jbN (qSLifts (qLifts qv1) w12) fun w13 =>
  jbN (qSWork (qWork qv1) w13) fun w14 =>
  some w14
def rm_X7_copyFrom : Room := { frames := 1, cells := 0, slots := 0, locals := 40 }
theorem hd_X7_copyFrom : yX7_copyFrom.cls = RX7 ∧ yX7_copyFrom.cls ≠ "java/lang/invoke/MethodHandle" ∧ yX7_copyFrom.cls ≠ "java/lang/invoke/VarHandle" ∧ (parseMethodDescriptor yX7_copyFrom.desc).map (fun d => d.parameters.length) = some 1 := by decide +kernel
set_option maxHeartbeats 4000000 in
set_option maxRecDepth 100000 in
theorem c_X7_copyFrom (l : Launch) (g : GG) (hq : Nat → Nat) (qv : QV) (hq1 : Nat → Nat) (qv1 : QV)   (out : QV) (hf : f_X7_copyFrom qv qv1 = some out) : MtV l yX7_copyFrom wsX7_copyFrom rm_X7_copyFrom g (wQ g hq qv ++ wQ g hq1 qv1) [.ref (hq 0), .ref (hq1 0)]  (wQ g hq out ++ wQ g hq1 qv1) 0 0 := by
  refine fun sz => mt_of (cc := cX7_copyFrom) (maxL := 3) (ret := none) (own := RX7) (Qc := fun A => va_Qv (fun (_ : Unit) => True) (fun _ t => PosM g A (wQ g hq out ++ wQ g hq1 qv1) t) A) (by decide +kernel) rfl rfl (Nat.le_of_ble_eq_true rfl) ?_ sz
  intro p e s mi below meth c A ls hB hnm hrt hlk hP hD hl
  obtain ⟨hx, hb, hml, hown, hts, hK, hZ, hT, hA, -⟩ := hB
  have hS : va_S A s.heap s.heap [] := va_S.rf
  have hl : lv_has ls 3 [(0, .ref (hq 0)), (1, .ref (hq1 0))] := hl
  have hinX7 : ∀ w ∈ wsX70, w ∈ wsX7_copyFrom := by decide +kernel
  have k0 := hts (.fieldLink RX7 9 "TerraceQuarry$Quarry" "heights" "[I") (by decide +kernel)
  have k1 := hts (.methodLink RX7 47 arraycopyName) (by decide +kernel)
  have k2 := hts (.native arraycopyName) (by decide +kernel)
  have k3 := hts (.static arraycopyName) (by decide +kernel)
  have k4 := hts (.initialized "java/lang/System") (by decide +kernel)
  have k5 := hts (.fieldLink RX7 15 "TerraceQuarry$Quarry" "stones" "[I") (by decide +kernel)
  have k6 := hts (.fieldLink RX7 22 "TerraceQuarry$Quarry" "blockCounts" "[I") (by decide +kernel)
  have k7 := hts (.fieldLink RX7 25 "TerraceQuarry$Quarry" "blocks" "[I") (by decide +kernel)
  have k8 := hts (.fieldLink RX7 28 "TerraceQuarry$Quarry" "winchCells" "[I") (by decide +kernel)
  have k9 := hts (.fieldLink RX7 31 "TerraceQuarry$Quarry" "capacities" "[I") (by decide +kernel)
  have k10 := hts (.fieldLink RX7 34 "TerraceQuarry$Quarry" "reaches" "[I") (by decide +kernel)
  have k11 := hts (.fieldLink RX7 37 "TerraceQuarry$Quarry" "yard" "[I") (by decide +kernel)
  have k12 := hts (.fieldLink RX7 53 "TerraceQuarry$Quarry" "winches" "I") (by decide +kernel)
  have k13 := hts (.fieldLink RX7 40 "TerraceQuarry$Quarry" "limit" "I") (by decide +kernel)
  have k14 := hts (.fieldLink RX7 44 "TerraceQuarry$Quarry" "rubble" "I") (by decide +kernel)
  have k15 := hts (.fieldLink RX7 56 "TerraceQuarry$Quarry" "cuts" "I") (by decide +kernel)
  have k16 := hts (.fieldLink RX7 59 "TerraceQuarry$Quarry" "lifts" "I") (by decide +kernel)
  have k17 := hts (.fieldLink RX7 62 "TerraceQuarry$Quarry" "work" "J") (by decide +kernel)
  have k18 := hts (.fieldLink RX7 18 "TerraceQuarry$Quarry" "ledges" "[Z") (by decide +kernel)
  generalize hQ : MQ below _ _ _ _ _ _ = Q
  unfold f_X7_copyFrom at hf
  have hL118 : ∀ (n : Nat) (x2 : Int32) (qv : QV) (H : Heap) (locs : List Loc) (ls : Array Slot) (o118 : Int32 × QV), jbL (fun s => f_X7_copyFrom_L118 qv1 (s.1) (s.2)) n (x2, qv) = some o118 → va_P (gD g) vwCl (wQ g hq qv ++ wQ g hq1 qv1) H → va_D A (wQ g hq qv ++ wQ g hq1 qv1) → va_S A s.heap H locs → lv_has ls 3 [(0, .ref (hq 0)), (1, .ref (hq1 0)), (2, .int x2)] → (∀ (H : Heap) (locs : List Loc) (ls : Array Slot), va_P (gD g) vwCl (wQ g hq (o118.2) ++ wQ g hq1 qv1) H → va_D A (wQ g hq (o118.2) ++ wQ g hq1 qv1) → va_S A s.heap H locs → lv_has ls 3 [(0, .ref (hq 0)), (1, .ref (hq1 0))] → W p l e rm_X7_copyFrom s mi [.ref (hq 0), .ref (hq1 0)].toArray below meth c H locs 0 0 Q (F0 mi 142 ls [])) → W p l e rm_X7_copyFrom s mi [.ref (hq 0), .ref (hq1 0)].toArray below meth c H locs 0 0 Q (F0 mi 118 ls []) := by
    intro n
    induction n with
    | zero => intro x2 qv H locs ls o118 hf; exact absurd hf (jbL_0 _ _ _)
    | succ n ih =>
      intro x2 qv H locs ls o118 hf hP hD hS hl hk
      obtain ⟨r, hf, hr⟩ := jbL_e hf
      have hf : f_X7_copyFrom_L118 qv1 x2 qv = some r := hf
      unfold f_X7_copyFrom_L118 at hf
      refine lv_iload_n hx hb dX7_copyFrom_118 rfl (lv_at hl 2 rfl) ?_
      refine lv_bipush (v := 30) hx hb dX7_copyFrom_119 (by decide) ?_
      refine lv_icmp_ge (tgt := 142) hx hb dX7_copyFrom_121 (by decide) (fun hc => ?_) (fun hc => ?_)
      · have hf := jbT hf hc
        cases hf
        obtain rfl := jbR_r hr
        exact hk _ _ _ hP hD hS (lv_sub hl [0, 1] rfl)
      · have hf := jbF hf hc
        refine lv_aload_n hx hb dX7_copyFrom_124 rfl (lv_at hl 0 rfl) ?_
        refine va_get (D := gD g) (ci := 7) (v := .ref (hq 3)) (C := RX7) (T := TX7) (N := 15) hx hb hts hinX7 hown hK hP 0 rfl rfl 2 (by decide) k18 (fun _ h9 => h9) rfl dX7_copyFrom_125 ?_
        refine lv_iload_n hx hb dX7_copyFrom_128 rfl (lv_at hl 2 rfl) ?_
        refine lv_aload_n hx hb dX7_copyFrom_129 rfl (lv_at hl 1 rfl) ?_
        refine va_get (D := gD g) (ci := 7) (v := .ref (hq1 3)) (C := RX7) (T := TX7) (N := 15) hx hb hts hinX7 hown hK hP 10 rfl rfl 2 (by decide) k18 (fun _ h9 => h9) rfl dX7_copyFrom_130 ?_
        refine lv_iload_n hx hb dX7_copyFrom_133 rfl (lv_at hl 2 rfl) ?_
        obtain ⟨h15, hf⟩ := jbA_e hf
        refine va_zald hx hb hK hP 13 1 rfl rfl h15 dX7_copyFrom_134 ?_
        obtain ⟨h16, hf⟩ := jbA_e hf
        refine va_zast hx hb hK hP hD hS 3 1 rfl rfl h16 dX7_copyFrom_135 (fun H locs hP hD hS => ?_)
        obtain ⟨w17, ew17⟩ : ∃ y, y = (qSLedges (upd (qLedges qv) x2.toNatClampNeg (vp_nar .boolean ((qLedges qv1) x2.toNatClampNeg))) qv) := ⟨_, rfl⟩
        have hf := jbN_e hf ew17
        have hP : va_P (gD g) vwCl (wQ g hq w17 ++ wQ g hq1 qv1) H := by rw [ew17]; exact hP
        have hD : va_D A (wQ g hq w17 ++ wQ g hq1 qv1) := by rw [ew17]; exact hD
        refine lv_iinc (v := (x2 + 1)) (lv' := [(2, .int (x2 + 1)), (0, .ref (hq 0)), (1, .ref (hq1 0))]) hx hb dX7_copyFrom_136 hl (k := 2) rfl rfl (by decide) rfl (fun ls hl => ?_)
        refine lv_goto (tgt := 118) hx hb dX7_copyFrom_139 (by decide) ?_
        cases hf
        exact ih (x2 + 1) w17 _ _ _ _ hr hP hD hS (lv_sub hl [1, 2, 0] rfl) hk
  refine lv_aload_n hx hb dX7_copyFrom_0 rfl (lv_at hl 1 rfl) ?_
  refine va_get (D := gD g) (ci := 7) (v := .ref (hq1 1)) (C := RX7) (T := TX7) (N := 15) hx hb hts hinX7 hown hK hP 10 rfl rfl 0 (by decide) k0 (fun _ h9 => h9) rfl dX7_copyFrom_1 ?_
  refine lv_iconst (v := 0) hx hb dX7_copyFrom_4 (by decide) ?_
  refine lv_aload_n hx hb dX7_copyFrom_5 rfl (lv_at hl 0 rfl) ?_
  refine va_get (D := gD g) (ci := 7) (v := .ref (hq 1)) (C := RX7) (T := TX7) (N := 15) hx hb hts hinX7 hown hK hP 0 rfl rfl 0 (by decide) k0 (fun _ h9 => h9) rfl dX7_copyFrom_6 ?_
  refine lv_iconst (v := 0) hx hb dX7_copyFrom_9 (by decide) ?_
  refine lv_bipush (v := 30) hx hb dX7_copyFrom_10 (by decide) ?_
  refine va_copyi hx hb (hml.trans hl.1.symm) hown k1 k2 k3 k4 hK hP hD hS 11 1 0 0 rfl rfl rfl rfl rfl (by decide) (by decide) (by decide) (by decide) (by decide) (fun _ _ => rfl) (Nat.le_of_ble_eq_true rfl) (by decide) dX7_copyFrom_12 (fun H locs hP hD hS => ?_)
  obtain ⟨w1, ew1⟩ : ∃ y, y = (qSHeights (va_cpy (qHeights qv1) (qHeights qv) 0 0 30) qv) := ⟨_, rfl⟩
  have hf := jbN_e hf ew1
  have hP : va_P (gD g) vwCl (wQ g hq w1 ++ wQ g hq1 qv1) H := by rw [ew1]; exact hP
  have hD : va_D A (wQ g hq w1 ++ wQ g hq1 qv1) := by rw [ew1]; exact hD
  refine lv_aload_n hx hb dX7_copyFrom_15 rfl (lv_at hl 1 rfl) ?_
  refine va_get (D := gD g) (ci := 7) (v := .ref (hq1 2)) (C := RX7) (T := TX7) (N := 15) hx hb hts hinX7 hown hK hP 10 rfl rfl 1 (by decide) k5 (fun _ h9 => h9) rfl dX7_copyFrom_16 ?_
  refine lv_iconst (v := 0) hx hb dX7_copyFrom_19 (by decide) ?_
  refine lv_aload_n hx hb dX7_copyFrom_20 rfl (lv_at hl 0 rfl) ?_
  refine va_get (D := gD g) (ci := 7) (v := .ref (hq 2)) (C := RX7) (T := TX7) (N := 15) hx hb hts hinX7 hown hK hP 0 rfl rfl 1 (by decide) k5 (fun _ h9 => h9) rfl dX7_copyFrom_21 ?_
  refine lv_iconst (v := 0) hx hb dX7_copyFrom_24 (by decide) ?_
  refine lv_bipush (v := 30) hx hb dX7_copyFrom_25 (by decide) ?_
  refine va_copyi hx hb (hml.trans hl.1.symm) hown k1 k2 k3 k4 hK hP hD hS 12 2 0 0 rfl rfl rfl rfl rfl (by decide) (by decide) (by decide) (by decide) (by decide) (fun _ _ => rfl) (Nat.le_of_ble_eq_true rfl) (by decide) dX7_copyFrom_27 (fun H locs hP hD hS => ?_)
  obtain ⟨w2, ew2⟩ : ∃ y, y = (qSStones (va_cpy (qStones qv1) (qStones w1) 0 0 30) w1) := ⟨_, rfl⟩
  have hf := jbN_e hf ew2
  have hP : va_P (gD g) vwCl (wQ g hq w2 ++ wQ g hq1 qv1) H := by rw [ew2]; exact hP
  have hD : va_D A (wQ g hq w2 ++ wQ g hq1 qv1) := by rw [ew2]; exact hD
  refine lv_aload_n hx hb dX7_copyFrom_30 rfl (lv_at hl 1 rfl) ?_
  refine va_get (D := gD g) (ci := 7) (v := .ref (hq1 4)) (C := RX7) (T := TX7) (N := 15) hx hb hts hinX7 hown hK hP 10 rfl rfl 3 (by decide) k6 (fun _ h9 => h9) rfl dX7_copyFrom_31 ?_
  refine lv_iconst (v := 0) hx hb dX7_copyFrom_34 (by decide) ?_
  refine lv_aload_n hx hb dX7_copyFrom_35 rfl (lv_at hl 0 rfl) ?_
  refine va_get (D := gD g) (ci := 7) (v := .ref (hq 4)) (C := RX7) (T := TX7) (N := 15) hx hb hts hinX7 hown hK hP 0 rfl rfl 3 (by decide) k6 (fun _ h9 => h9) rfl dX7_copyFrom_36 ?_
  refine lv_iconst (v := 0) hx hb dX7_copyFrom_39 (by decide) ?_
  refine lv_bipush (v := 30) hx hb dX7_copyFrom_40 (by decide) ?_
  refine va_copyi hx hb (hml.trans hl.1.symm) hown k1 k2 k3 k4 hK hP hD hS 14 4 0 0 rfl rfl rfl rfl rfl (by decide) (by decide) (by decide) (by decide) (by decide) (fun _ _ => rfl) (Nat.le_of_ble_eq_true rfl) (by decide) dX7_copyFrom_42 (fun H locs hP hD hS => ?_)
  obtain ⟨w3, ew3⟩ : ∃ y, y = (qSBlockCounts (va_cpy (qBlockCounts qv1) (qBlockCounts w2) 0 0 30) w2) := ⟨_, rfl⟩
  have hf := jbN_e hf ew3
  have hP : va_P (gD g) vwCl (wQ g hq w3 ++ wQ g hq1 qv1) H := by rw [ew3]; exact hP
  have hD : va_D A (wQ g hq w3 ++ wQ g hq1 qv1) := by rw [ew3]; exact hD
  refine lv_aload_n hx hb dX7_copyFrom_45 rfl (lv_at hl 1 rfl) ?_
  refine va_get (D := gD g) (ci := 7) (v := .ref (hq1 5)) (C := RX7) (T := TX7) (N := 15) hx hb hts hinX7 hown hK hP 10 rfl rfl 4 (by decide) k7 (fun _ h9 => h9) rfl dX7_copyFrom_46 ?_
  refine lv_iconst (v := 0) hx hb dX7_copyFrom_49 (by decide) ?_
  refine lv_aload_n hx hb dX7_copyFrom_50 rfl (lv_at hl 0 rfl) ?_
  refine va_get (D := gD g) (ci := 7) (v := .ref (hq 5)) (C := RX7) (T := TX7) (N := 15) hx hb hts hinX7 hown hK hP 0 rfl rfl 4 (by decide) k7 (fun _ h9 => h9) rfl dX7_copyFrom_51 ?_
  refine lv_iconst (v := 0) hx hb dX7_copyFrom_54 (by decide) ?_
  refine lv_bipush (v := 90) hx hb dX7_copyFrom_55 (by decide) ?_
  refine va_copyi hx hb (hml.trans hl.1.symm) hown k1 k2 k3 k4 hK hP hD hS 15 5 0 0 rfl rfl rfl rfl rfl (by decide) (by decide) (by decide) (by decide) (by decide) (fun _ _ => rfl) (Nat.le_of_ble_eq_true rfl) (by decide) dX7_copyFrom_57 (fun H locs hP hD hS => ?_)
  obtain ⟨w4, ew4⟩ : ∃ y, y = (qSBlocks (va_cpy (qBlocks qv1) (qBlocks w3) 0 0 90) w3) := ⟨_, rfl⟩
  have hf := jbN_e hf ew4
  have hP : va_P (gD g) vwCl (wQ g hq w4 ++ wQ g hq1 qv1) H := by rw [ew4]; exact hP
  have hD : va_D A (wQ g hq w4 ++ wQ g hq1 qv1) := by rw [ew4]; exact hD
  refine lv_aload_n hx hb dX7_copyFrom_60 rfl (lv_at hl 1 rfl) ?_
  refine va_get (D := gD g) (ci := 7) (v := .ref (hq1 6)) (C := RX7) (T := TX7) (N := 15) hx hb hts hinX7 hown hK hP 10 rfl rfl 5 (by decide) k8 (fun _ h9 => h9) rfl dX7_copyFrom_61 ?_
  refine lv_iconst (v := 0) hx hb dX7_copyFrom_64 (by decide) ?_
  refine lv_aload_n hx hb dX7_copyFrom_65 rfl (lv_at hl 0 rfl) ?_
  refine va_get (D := gD g) (ci := 7) (v := .ref (hq 6)) (C := RX7) (T := TX7) (N := 15) hx hb hts hinX7 hown hK hP 0 rfl rfl 5 (by decide) k8 (fun _ h9 => h9) rfl dX7_copyFrom_66 ?_
  refine lv_iconst (v := 0) hx hb dX7_copyFrom_69 (by decide) ?_
  refine lv_iconst (v := 3) hx hb dX7_copyFrom_70 (by decide) ?_
  refine va_copyi hx hb (hml.trans hl.1.symm) hown k1 k2 k3 k4 hK hP hD hS 16 6 0 0 rfl rfl rfl rfl rfl (by decide) (by decide) (by decide) (by decide) (by decide) (fun _ _ => rfl) (Nat.le_of_ble_eq_true rfl) (by decide) dX7_copyFrom_71 (fun H locs hP hD hS => ?_)
  obtain ⟨w5, ew5⟩ : ∃ y, y = (qSWinchCells (va_cpy (qWinchCells qv1) (qWinchCells w4) 0 0 3) w4) := ⟨_, rfl⟩
  have hf := jbN_e hf ew5
  have hP : va_P (gD g) vwCl (wQ g hq w5 ++ wQ g hq1 qv1) H := by rw [ew5]; exact hP
  have hD : va_D A (wQ g hq w5 ++ wQ g hq1 qv1) := by rw [ew5]; exact hD
  refine lv_aload_n hx hb dX7_copyFrom_74 rfl (lv_at hl 1 rfl) ?_
  refine va_get (D := gD g) (ci := 7) (v := .ref (hq1 7)) (C := RX7) (T := TX7) (N := 15) hx hb hts hinX7 hown hK hP 10 rfl rfl 6 (by decide) k9 (fun _ h9 => h9) rfl dX7_copyFrom_75 ?_
  refine lv_iconst (v := 0) hx hb dX7_copyFrom_78 (by decide) ?_
  refine lv_aload_n hx hb dX7_copyFrom_79 rfl (lv_at hl 0 rfl) ?_
  refine va_get (D := gD g) (ci := 7) (v := .ref (hq 7)) (C := RX7) (T := TX7) (N := 15) hx hb hts hinX7 hown hK hP 0 rfl rfl 6 (by decide) k9 (fun _ h9 => h9) rfl dX7_copyFrom_80 ?_
  refine lv_iconst (v := 0) hx hb dX7_copyFrom_83 (by decide) ?_
  refine lv_iconst (v := 3) hx hb dX7_copyFrom_84 (by decide) ?_
  refine va_copyi hx hb (hml.trans hl.1.symm) hown k1 k2 k3 k4 hK hP hD hS 17 7 0 0 rfl rfl rfl rfl rfl (by decide) (by decide) (by decide) (by decide) (by decide) (fun _ _ => rfl) (Nat.le_of_ble_eq_true rfl) (by decide) dX7_copyFrom_85 (fun H locs hP hD hS => ?_)
  obtain ⟨w6, ew6⟩ : ∃ y, y = (qSCapacities (va_cpy (qCapacities qv1) (qCapacities w5) 0 0 3) w5) := ⟨_, rfl⟩
  have hf := jbN_e hf ew6
  have hP : va_P (gD g) vwCl (wQ g hq w6 ++ wQ g hq1 qv1) H := by rw [ew6]; exact hP
  have hD : va_D A (wQ g hq w6 ++ wQ g hq1 qv1) := by rw [ew6]; exact hD
  refine lv_aload_n hx hb dX7_copyFrom_88 rfl (lv_at hl 1 rfl) ?_
  refine va_get (D := gD g) (ci := 7) (v := .ref (hq1 8)) (C := RX7) (T := TX7) (N := 15) hx hb hts hinX7 hown hK hP 10 rfl rfl 7 (by decide) k10 (fun _ h9 => h9) rfl dX7_copyFrom_89 ?_
  refine lv_iconst (v := 0) hx hb dX7_copyFrom_92 (by decide) ?_
  refine lv_aload_n hx hb dX7_copyFrom_93 rfl (lv_at hl 0 rfl) ?_
  refine va_get (D := gD g) (ci := 7) (v := .ref (hq 8)) (C := RX7) (T := TX7) (N := 15) hx hb hts hinX7 hown hK hP 0 rfl rfl 7 (by decide) k10 (fun _ h9 => h9) rfl dX7_copyFrom_94 ?_
  refine lv_iconst (v := 0) hx hb dX7_copyFrom_97 (by decide) ?_
  refine lv_iconst (v := 3) hx hb dX7_copyFrom_98 (by decide) ?_
  refine va_copyi hx hb (hml.trans hl.1.symm) hown k1 k2 k3 k4 hK hP hD hS 18 8 0 0 rfl rfl rfl rfl rfl (by decide) (by decide) (by decide) (by decide) (by decide) (fun _ _ => rfl) (Nat.le_of_ble_eq_true rfl) (by decide) dX7_copyFrom_99 (fun H locs hP hD hS => ?_)
  obtain ⟨w7, ew7⟩ : ∃ y, y = (qSReaches (va_cpy (qReaches qv1) (qReaches w6) 0 0 3) w6) := ⟨_, rfl⟩
  have hf := jbN_e hf ew7
  have hP : va_P (gD g) vwCl (wQ g hq w7 ++ wQ g hq1 qv1) H := by rw [ew7]; exact hP
  have hD : va_D A (wQ g hq w7 ++ wQ g hq1 qv1) := by rw [ew7]; exact hD
  refine lv_aload_n hx hb dX7_copyFrom_102 rfl (lv_at hl 1 rfl) ?_
  refine va_get (D := gD g) (ci := 7) (v := .ref (hq1 9)) (C := RX7) (T := TX7) (N := 15) hx hb hts hinX7 hown hK hP 10 rfl rfl 8 (by decide) k11 (fun _ h9 => h9) rfl dX7_copyFrom_103 ?_
  refine lv_iconst (v := 0) hx hb dX7_copyFrom_106 (by decide) ?_
  refine lv_aload_n hx hb dX7_copyFrom_107 rfl (lv_at hl 0 rfl) ?_
  refine va_get (D := gD g) (ci := 7) (v := .ref (hq 9)) (C := RX7) (T := TX7) (N := 15) hx hb hts hinX7 hown hK hP 0 rfl rfl 8 (by decide) k11 (fun _ h9 => h9) rfl dX7_copyFrom_108 ?_
  refine lv_iconst (v := 0) hx hb dX7_copyFrom_111 (by decide) ?_
  refine lv_iconst (v := 4) hx hb dX7_copyFrom_112 (by decide) ?_
  refine va_copyi hx hb (hml.trans hl.1.symm) hown k1 k2 k3 k4 hK hP hD hS 19 9 0 0 rfl rfl rfl rfl rfl (by decide) (by decide) (by decide) (by decide) (by decide) (fun _ _ => rfl) (Nat.le_of_ble_eq_true rfl) (by decide) dX7_copyFrom_113 (fun H locs hP hD hS => ?_)
  obtain ⟨w8, ew8⟩ : ∃ y, y = (qSYard (va_cpy (qYard qv1) (qYard w7) 0 0 4) w7) := ⟨_, rfl⟩
  have hf := jbN_e hf ew8
  have hP : va_P (gD g) vwCl (wQ g hq w8 ++ wQ g hq1 qv1) H := by rw [ew8]; exact hP
  have hD : va_D A (wQ g hq w8 ++ wQ g hq1 qv1) := by rw [ew8]; exact hD
  refine lv_iconst (v := 0) hx hb dX7_copyFrom_116 (by decide) ?_
  refine lv_istore_n (lv' := [(2, .int 0), (0, .ref (hq 0)), (1, .ref (hq1 0))]) hx hb dX7_copyFrom_117 rfl hl (by decide) rfl (fun ls hl => ?_)
  obtain ⟨o118, hg, hf⟩ := jbB_e hf
  refine hL118 _ 0 w8 _ _ _ _ hg hP hD hS (lv_sub hl [1, 2, 0] rfl) (fun H locs ls hP hD hS hl => ?_)
  refine lv_aload_n hx hb dX7_copyFrom_142 rfl (lv_at hl 0 rfl) ?_
  refine lv_aload_n hx hb dX7_copyFrom_143 rfl (lv_at hl 1 rfl) ?_
  refine va_get (D := gD g) (ci := 7) (v := .int (qWinches qv1)) (C := RX7) (T := TX7) (N := 15) hx hb hts hinX7 hown hK hP 10 rfl rfl 9 (by decide) k12 (fun _ h9 => h9) rfl dX7_copyFrom_144 ?_
  refine va_put (D := gD g) (ci := 7) (v := .int (qWinches qv1)) (ty := .int) (C := RX7) (T := TX7) (N := 15) hx hb hts hinX7 tyX7 tyX7_ok nmX7 hown hK hP hD hS 0 rfl rfl 9 (by decide) k12 (fun _ h9 => h9) rfl (tyX7_ok 9 (by decide)) rfl rfl (Nat.le_of_ble_eq_true rfl) dX7_copyFrom_147 (fun H locs hP hD hS => ?_)
  obtain ⟨w9, ew9⟩ : ∃ y, y = (qSWinches (qWinches qv1) (o118.2)) := ⟨_, rfl⟩
  have hf := jbN_e hf ew9
  have hP : va_P (gD g) vwCl (wQ g hq w9 ++ wQ g hq1 qv1) H := by rw [ew9]; exact hP
  have hD : va_D A (wQ g hq w9 ++ wQ g hq1 qv1) := by rw [ew9]; exact hD
  refine lv_aload_n hx hb dX7_copyFrom_150 rfl (lv_at hl 0 rfl) ?_
  refine lv_aload_n hx hb dX7_copyFrom_151 rfl (lv_at hl 1 rfl) ?_
  refine va_get (D := gD g) (ci := 7) (v := .int (qLimit qv1)) (C := RX7) (T := TX7) (N := 15) hx hb hts hinX7 hown hK hP 10 rfl rfl 10 (by decide) k13 (fun _ h9 => h9) rfl dX7_copyFrom_152 ?_
  refine va_put (D := gD g) (ci := 7) (v := .int (qLimit qv1)) (ty := .int) (C := RX7) (T := TX7) (N := 15) hx hb hts hinX7 tyX7 tyX7_ok nmX7 hown hK hP hD hS 0 rfl rfl 10 (by decide) k13 (fun _ h9 => h9) rfl (tyX7_ok 10 (by decide)) rfl rfl (Nat.le_of_ble_eq_true rfl) dX7_copyFrom_155 (fun H locs hP hD hS => ?_)
  obtain ⟨w10, ew10⟩ : ∃ y, y = (qSLimit (qLimit qv1) w9) := ⟨_, rfl⟩
  have hf := jbN_e hf ew10
  have hP : va_P (gD g) vwCl (wQ g hq w10 ++ wQ g hq1 qv1) H := by rw [ew10]; exact hP
  have hD : va_D A (wQ g hq w10 ++ wQ g hq1 qv1) := by rw [ew10]; exact hD
  refine lv_aload_n hx hb dX7_copyFrom_158 rfl (lv_at hl 0 rfl) ?_
  refine lv_aload_n hx hb dX7_copyFrom_159 rfl (lv_at hl 1 rfl) ?_
  refine va_get (D := gD g) (ci := 7) (v := .int (qRubble qv1)) (C := RX7) (T := TX7) (N := 15) hx hb hts hinX7 hown hK hP 10 rfl rfl 11 (by decide) k14 (fun _ h9 => h9) rfl dX7_copyFrom_160 ?_
  refine va_put (D := gD g) (ci := 7) (v := .int (qRubble qv1)) (ty := .int) (C := RX7) (T := TX7) (N := 15) hx hb hts hinX7 tyX7 tyX7_ok nmX7 hown hK hP hD hS 0 rfl rfl 11 (by decide) k14 (fun _ h9 => h9) rfl (tyX7_ok 11 (by decide)) rfl rfl (Nat.le_of_ble_eq_true rfl) dX7_copyFrom_163 (fun H locs hP hD hS => ?_)
  obtain ⟨w11, ew11⟩ : ∃ y, y = (qSRubble (qRubble qv1) w10) := ⟨_, rfl⟩
  have hf := jbN_e hf ew11
  have hP : va_P (gD g) vwCl (wQ g hq w11 ++ wQ g hq1 qv1) H := by rw [ew11]; exact hP
  have hD : va_D A (wQ g hq w11 ++ wQ g hq1 qv1) := by rw [ew11]; exact hD
  refine lv_aload_n hx hb dX7_copyFrom_166 rfl (lv_at hl 0 rfl) ?_
  refine lv_aload_n hx hb dX7_copyFrom_167 rfl (lv_at hl 1 rfl) ?_
  refine va_get (D := gD g) (ci := 7) (v := .int (qCuts qv1)) (C := RX7) (T := TX7) (N := 15) hx hb hts hinX7 hown hK hP 10 rfl rfl 12 (by decide) k15 (fun _ h9 => h9) rfl dX7_copyFrom_168 ?_
  refine va_put (D := gD g) (ci := 7) (v := .int (qCuts qv1)) (ty := .int) (C := RX7) (T := TX7) (N := 15) hx hb hts hinX7 tyX7 tyX7_ok nmX7 hown hK hP hD hS 0 rfl rfl 12 (by decide) k15 (fun _ h9 => h9) rfl (tyX7_ok 12 (by decide)) rfl rfl (Nat.le_of_ble_eq_true rfl) dX7_copyFrom_171 (fun H locs hP hD hS => ?_)
  obtain ⟨w12, ew12⟩ : ∃ y, y = (qSCuts (qCuts qv1) w11) := ⟨_, rfl⟩
  have hf := jbN_e hf ew12
  have hP : va_P (gD g) vwCl (wQ g hq w12 ++ wQ g hq1 qv1) H := by rw [ew12]; exact hP
  have hD : va_D A (wQ g hq w12 ++ wQ g hq1 qv1) := by rw [ew12]; exact hD
  refine lv_aload_n hx hb dX7_copyFrom_174 rfl (lv_at hl 0 rfl) ?_
  refine lv_aload_n hx hb dX7_copyFrom_175 rfl (lv_at hl 1 rfl) ?_
  refine va_get (D := gD g) (ci := 7) (v := .int (qLifts qv1)) (C := RX7) (T := TX7) (N := 15) hx hb hts hinX7 hown hK hP 10 rfl rfl 13 (by decide) k16 (fun _ h9 => h9) rfl dX7_copyFrom_176 ?_
  refine va_put (D := gD g) (ci := 7) (v := .int (qLifts qv1)) (ty := .int) (C := RX7) (T := TX7) (N := 15) hx hb hts hinX7 tyX7 tyX7_ok nmX7 hown hK hP hD hS 0 rfl rfl 13 (by decide) k16 (fun _ h9 => h9) rfl (tyX7_ok 13 (by decide)) rfl rfl (Nat.le_of_ble_eq_true rfl) dX7_copyFrom_179 (fun H locs hP hD hS => ?_)
  obtain ⟨w13, ew13⟩ : ∃ y, y = (qSLifts (qLifts qv1) w12) := ⟨_, rfl⟩
  have hf := jbN_e hf ew13
  have hP : va_P (gD g) vwCl (wQ g hq w13 ++ wQ g hq1 qv1) H := by rw [ew13]; exact hP
  have hD : va_D A (wQ g hq w13 ++ wQ g hq1 qv1) := by rw [ew13]; exact hD
  refine lv_aload_n hx hb dX7_copyFrom_182 rfl (lv_at hl 0 rfl) ?_
  refine lv_aload_n hx hb dX7_copyFrom_183 rfl (lv_at hl 1 rfl) ?_
  refine va_get (D := gD g) (ci := 7) (v := .long (qWork qv1)) (C := RX7) (T := TX7) (N := 15) hx hb hts hinX7 hown hK hP 10 rfl rfl 14 (by decide) k17 (fun _ h9 => h9) rfl dX7_copyFrom_184 ?_
  refine va_put (D := gD g) (ci := 7) (v := .long (qWork qv1)) (ty := .long) (C := RX7) (T := TX7) (N := 15) hx hb hts hinX7 tyX7 tyX7_ok nmX7 hown hK hP hD hS 0 rfl rfl 14 (by decide) k17 (fun _ h9 => h9) rfl (tyX7_ok 14 (by decide)) rfl rfl (Nat.le_of_ble_eq_true rfl) dX7_copyFrom_187 (fun H locs hP hD hS => ?_)
  obtain ⟨w14, ew14⟩ : ∃ y, y = (qSWork (qWork qv1) w13) := ⟨_, rfl⟩
  have hf := jbN_e hf ew14
  have hP : va_P (gD g) vwCl (wQ g hq w14 ++ wQ g hq1 qv1) H := by rw [ew14]; exact hP
  have hD : va_D A (wQ g hq w14 ++ wQ g hq1 qv1) := by rw [ew14]; exact hD
  cases hf
  subst hQ
  exact rt_v hx hb hrt hlk hK hP hD hS (Nat.le_of_ble_eq_true rfl) (Nat.le_of_ble_eq_true rfl) dX7_copyFrom_190
def f_X7_isStone (a0 : Int32) : Option Int32 :=
  if a0 < 0 then
  (some 0)
  else
  (if 4 ≤ a0 then
  (some 0)
  else
  (some 1))
def rm_X7_isStone : Room := { frames := 0, cells := 0, slots := 0, locals := 0 }
theorem hd_X7_isStone : yX7_isStone.cls ≠ "java/lang/invoke/MethodHandle" ∧ yX7_isStone.cls ≠ "java/lang/invoke/VarHandle" ∧ (parseMethodDescriptor yX7_isStone.desc).map (fun d => d.parameters.length) = some 1 := by decide +kernel
set_option maxHeartbeats 4000000 in
set_option maxRecDepth 100000 in
theorem c_X7_isStone (l : Launch) (g : GG)   (a0 : Int32) (out : Int32) (hf : f_X7_isStone a0 = some out) : MtI l yX7_isStone wsX7_isStone rm_X7_isStone g [] [.int a0] out [] 0 0 := by
  refine fun sz => mt_of (cc := cX7_isStone) (maxL := 1) (ret := (some .boolean)) (own := RX7) (Qc := fun A => va_Qi (fun r (_ : Unit) => r = out) (fun _ t => PosM g A [] t) A) (by decide +kernel) rfl rfl (Nat.le_of_ble_eq_true rfl) ?_ sz
  intro p e s mi below meth c A ls hB hnm hrt hlk hP hD hl
  obtain ⟨hx, hb, hml, hown, hts, hK, hZ, hT, hA, -⟩ := hB
  have hS : va_S A s.heap s.heap [] := va_S.rf
  have hl : lv_has ls 1 [(0, .int a0)] := hl
  generalize hQ : MQ below _ _ _ _ _ _ = Q
  unfold f_X7_isStone at hf
  refine lv_iload_n hx hb dX7_isStone_0 rfl (lv_at hl 0 rfl) ?_
  refine lv_if_lt (tgt := 13) hx hb dX7_isStone_1 (by decide) (fun hc => ?_) (fun hc => ?_)
  · have hf := jbT hf hc
    refine lv_iconst (v := 0) hx hb dX7_isStone_13 (by decide) ?_
    cases hf
    subst hQ
    exact rt_i hx hb hrt hlk nar_0 hK hP hD hS (Nat.le_of_ble_eq_true rfl) (Nat.le_of_ble_eq_true rfl) dX7_isStone_14
  · have hf := jbF hf hc
    refine lv_iload_n hx hb dX7_isStone_4 rfl (lv_at hl 0 rfl) ?_
    refine lv_iconst (v := 4) hx hb dX7_isStone_5 (by decide) ?_
    refine lv_icmp_ge (tgt := 13) hx hb dX7_isStone_6 (by decide) (fun hc => ?_) (fun hc => ?_)
    · have hf := jbT hf hc
      refine lv_iconst (v := 0) hx hb dX7_isStone_13 (by decide) ?_
      cases hf
      subst hQ
      exact rt_i hx hb hrt hlk nar_0 hK hP hD hS (Nat.le_of_ble_eq_true rfl) (Nat.le_of_ble_eq_true rfl) dX7_isStone_14
    · have hf := jbF hf hc
      refine lv_iconst (v := 1) hx hb dX7_isStone_9 (by decide) ?_
      refine lv_goto (tgt := 14) hx hb dX7_isStone_10 (by decide) ?_
      cases hf
      subst hQ
      exact rt_i hx hb hrt hlk nar_1 hK hP hD hS (Nat.le_of_ble_eq_true rfl) (Nat.le_of_ble_eq_true rfl) dX7_isStone_14
def f_X7_heightFault (a0 : Int32) : Option Nat :=
  if a0 < 0 then
  (some 2)
  else
  (if 9 < a0 then
  (some 2)
  else
  (some 0))
def rm_X7_heightFault : Room := { frames := 0, cells := 0, slots := 0, locals := 0 }
theorem hd_X7_heightFault : yX7_heightFault.cls ≠ "java/lang/invoke/MethodHandle" ∧ yX7_heightFault.cls ≠ "java/lang/invoke/VarHandle" ∧ (parseMethodDescriptor yX7_heightFault.desc).map (fun d => d.parameters.length) = some 1 := by decide +kernel
set_option maxHeartbeats 4000000 in
set_option maxRecDepth 100000 in
theorem c_X7_heightFault (l : Launch) (g : GG)   (a0 : Int32) (out : Nat) (hf : f_X7_heightFault a0 = some out) : MtR l yX7_heightFault wsX7_heightFault rm_X7_heightFault g [] [.int a0] (some (gS g 0 out)) [] 0 0 := by
  refine fun sz => mt_of (cc := cX7_heightFault) (maxL := 1) (ret := (some (.object "TerraceQuarry$Fault"))) (own := RX7) (Qc := fun A => va_Qq (fun r (_ : Unit) => r = (some (gS g 0 out))) (fun _ t => PosM g A [] t) A) (by decide +kernel) rfl rfl (Nat.le_of_ble_eq_true rfl) ?_ sz
  intro p e s mi below meth c A ls hB hnm hrt hlk hP hD hl
  obtain ⟨hx, hb, hml, hown, hts, hK, hZ, hT, hA, -⟩ := hB
  have hS : va_S A s.heap s.heap [] := va_S.rf
  have hl : lv_has ls 1 [(0, .int a0)] := hl
  have k0 := hts (.fieldLink RX7 72 "TerraceQuarry$Fault" "ARGUMENT" "LTerraceQuarry$Fault;") (by decide +kernel)
  have k1 := hts (.fieldLink RX7 66 "TerraceQuarry$Fault" "NONE" "LTerraceQuarry$Fault;") (by decide +kernel)
  generalize hQ : MQ below _ _ _ _ _ _ = Q
  unfold f_X7_heightFault at hf
  refine lv_iload_n hx hb dX7_heightFault_0 rfl (lv_at hl 0 rfl) ?_
  refine lv_if_lt (tgt := 16) hx hb dX7_heightFault_1 (by decide) (fun hc => ?_) (fun hc => ?_)
  · have hf := jbT hf hc
    refine va_gets (C := "TerraceQuarry$Fault") (n := "ARGUMENT") (d := "LTerraceQuarry$Fault;") (v := .ref (gS g 0 2)) hx hb (hZ.1.1 2 (by decide)).1 hS hown k0 (fun _ h9 => h9) dX7_heightFault_16 ?_
    cases hf
    subst hQ
    exact rt_r (rv := some _) hx hb hrt (Or.inl ⟨_, rfl⟩) hlk hK hP hD hS (Nat.le_of_ble_eq_true rfl) (Nat.le_of_ble_eq_true rfl) dX7_heightFault_19
  · have hf := jbF hf hc
    refine lv_iload_n hx hb dX7_heightFault_4 rfl (lv_at hl 0 rfl) ?_
    refine lv_bipush (v := 9) hx hb dX7_heightFault_5 (by decide) ?_
    refine lv_icmp_gt (tgt := 16) hx hb dX7_heightFault_7 (by decide) (fun hc => ?_) (fun hc => ?_)
    · have hf := jbT hf hc
      refine va_gets (C := "TerraceQuarry$Fault") (n := "ARGUMENT") (d := "LTerraceQuarry$Fault;") (v := .ref (gS g 0 2)) hx hb (hZ.1.1 2 (by decide)).1 hS hown k0 (fun _ h9 => h9) dX7_heightFault_16 ?_
      cases hf
      subst hQ
      exact rt_r (rv := some _) hx hb hrt (Or.inl ⟨_, rfl⟩) hlk hK hP hD hS (Nat.le_of_ble_eq_true rfl) (Nat.le_of_ble_eq_true rfl) dX7_heightFault_19
    · have hf := jbF hf hc
      refine va_gets (C := "TerraceQuarry$Fault") (n := "NONE") (d := "LTerraceQuarry$Fault;") (v := .ref (gS g 0 0)) hx hb (hZ.1.1 0 (by decide)).1 hS hown k1 (fun _ h9 => h9) dX7_heightFault_10 ?_
      refine lv_goto (tgt := 19) hx hb dX7_heightFault_13 (by decide) ?_
      cases hf
      subst hQ
      exact rt_r (rv := some _) hx hb hrt (Or.inl ⟨_, rfl⟩) hlk hK hP hD hS (Nat.le_of_ble_eq_true rfl) (Nat.le_of_ble_eq_true rfl) dX7_heightFault_19
def f_X7_stoneFault (qv : QV) (a0 : Int32) (a1 : Int32) (a2 : Int32) : Option Nat :=
  (f_X3_cellFault a0 a1).bind fun o1 =>
  if o1 < 6 then
  if o1 = 0 then
  ((f_X7_isStone a2).bind fun o4 =>
  if o4 = 0 then
  (some 2)
  else
  (some 0))
  else
  (some 1)
  else none
def rm_X7_stoneFault : Room := { frames := 2, cells := 0, slots := 0, locals := 42 }
theorem hd_X7_stoneFault : yX7_stoneFault.cls = RX7 ∧ yX7_stoneFault.cls ≠ "java/lang/invoke/MethodHandle" ∧ yX7_stoneFault.cls ≠ "java/lang/invoke/VarHandle" ∧ (parseMethodDescriptor yX7_stoneFault.desc).map (fun d => d.parameters.length) = some 3 := by decide +kernel
set_option maxHeartbeats 4000000 in
set_option maxRecDepth 100000 in
theorem c_X7_stoneFault (l : Launch) (g : GG) (hq : Nat → Nat) (qv : QV)  (a0 : Int32) (a1 : Int32) (a2 : Int32) (out : Nat) (hf : f_X7_stoneFault qv a0 a1 a2 = some out) : MtR l yX7_stoneFault wsX7_stoneFault rm_X7_stoneFault g (wQ g hq qv) [.ref (hq 0), .int a0, .int a1, .int a2] (some (gS g 0 out)) (wQ g hq qv) 0 0 := by
  refine fun sz => mt_of (cc := cX7_stoneFault) (maxL := 4) (ret := (some (.object "TerraceQuarry$Fault"))) (own := RX7) (Qc := fun A => va_Qq (fun r (_ : Unit) => r = (some (gS g 0 out))) (fun _ t => PosM g A (wQ g hq qv) t) A) (by decide +kernel) rfl rfl (Nat.le_of_ble_eq_true rfl) ?_ sz
  intro p e s mi below meth c A ls hB hnm hrt hlk hP hD hl
  obtain ⟨hx, hb, hml, hown, hts, hK, hZ, hT, hA, -⟩ := hB
  have hS : va_S A s.heap s.heap [] := va_S.rf
  have hl : lv_has ls 4 [(0, .ref (hq 0)), (1, .int a0), (2, .int a1), (3, .int a2)] := hl
  have k0 := hts (.fieldLink RX7 66 "TerraceQuarry$Fault" "NONE" "LTerraceQuarry$Fault;") (by decide +kernel)
  have k1 := hts (.fieldLink RX7 72 "TerraceQuarry$Fault" "ARGUMENT" "LTerraceQuarry$Fault;") (by decide +kernel)
  have k2 := hts (.fieldLink RX7 79 "TerraceQuarry$Fault" "INDEX" "LTerraceQuarry$Fault;") (by decide +kernel)
  generalize hQ : MQ below _ _ _ _ _ _ = Q
  unfold f_X7_stoneFault at hf
  refine lv_iload_n hx hb dX7_stoneFault_0 rfl (lv_at hl 1 rfl) ?_
  refine lv_iload_n hx hb dX7_stoneFault_1 rfl (lv_at hl 2 rfl) ?_
  obtain ⟨o1, g2, hf⟩ := jbB_e hf
  refine csn_e (As := [.int a0, .int a1]) (rest := []) ⟨hx, hb, hml, hown, hts⟩ (c_X3_cellFault l g a0 a1 _ g2) (va_cwS 2 hts gX7_stoneFault_X3_cellFault rfl rfl rfl hd_X3_cellFault ⟨Nat.le_of_ble_eq_true rfl, Nat.le_of_ble_eq_true rfl⟩) hK hZ hT hA hP hD hS hl.1 rfl rfl (Nat.le_of_ble_eq_true rfl) ⟨Nat.le_of_ble_eq_true rfl, Nat.le_of_ble_eq_true rfl⟩ dX7_stoneFault_2 (fun H locs hP hD hS => ?_)
  refine va_gets (C := "TerraceQuarry$Fault") (n := "NONE") (d := "LTerraceQuarry$Fault;") (v := .ref (gS g 0 0)) hx hb (hZ.1.1 0 (by decide)).1 hS hown k0 (fun _ h9 => h9) dX7_stoneFault_5 ?_
  obtain ⟨h3, hf⟩ := jbA_e hf
  refine lv_acmp_eq (rx := some (gS g 0 o1)) (ry := some (gS g 0 0)) (tgt := 15) hx hb dX7_stoneFault_8 (by decide) (fun hc => ?_) (fun hc => ?_)
  · have hf := jbT hf (enF hZ h3 (by decide) hc)
    refine lv_iload_n hx hb dX7_stoneFault_15 rfl (lv_at hl 3 rfl) ?_
    obtain ⟨o4, g5, hf⟩ := jbB_e hf
    refine csn_i (As := [.int a2]) (rest := []) ⟨hx, hb, hml, hown, hts⟩ (c_X7_isStone l g a2 _ g5) (va_cwS 1 hts gX7_stoneFault_X7_isStone rfl rfl rfl hd_X7_isStone ⟨Nat.le_of_ble_eq_true rfl, Nat.le_of_ble_eq_true rfl⟩) hK hZ hT hA hP hD hS hl.1 rfl rfl (Nat.le_of_ble_eq_true rfl) ⟨Nat.le_of_ble_eq_true rfl, Nat.le_of_ble_eq_true rfl⟩ dX7_stoneFault_16 (fun H locs hP hD hS => ?_)
    refine lv_if_eq (tgt := 28) hx hb dX7_stoneFault_19 (by decide) (fun hc => ?_) (fun hc => ?_)
    · have hf := jbT hf hc
      refine va_gets (C := "TerraceQuarry$Fault") (n := "ARGUMENT") (d := "LTerraceQuarry$Fault;") (v := .ref (gS g 0 2)) hx hb (hZ.1.1 2 (by decide)).1 hS hown k1 (fun _ h9 => h9) dX7_stoneFault_28 ?_
      cases hf
      subst hQ
      exact rt_r (rv := some _) hx hb hrt (Or.inl ⟨_, rfl⟩) hlk hK hP hD hS (Nat.le_of_ble_eq_true rfl) (Nat.le_of_ble_eq_true rfl) dX7_stoneFault_31
    · have hf := jbF hf hc
      refine va_gets (C := "TerraceQuarry$Fault") (n := "NONE") (d := "LTerraceQuarry$Fault;") (v := .ref (gS g 0 0)) hx hb (hZ.1.1 0 (by decide)).1 hS hown k0 (fun _ h9 => h9) dX7_stoneFault_22 ?_
      refine lv_goto (tgt := 31) hx hb dX7_stoneFault_25 (by decide) ?_
      cases hf
      subst hQ
      exact rt_r (rv := some _) hx hb hrt (Or.inl ⟨_, rfl⟩) hlk hK hP hD hS (Nat.le_of_ble_eq_true rfl) (Nat.le_of_ble_eq_true rfl) dX7_stoneFault_31
  · have hf := jbF hf (enN hc)
    refine va_gets (C := "TerraceQuarry$Fault") (n := "INDEX") (d := "LTerraceQuarry$Fault;") (v := .ref (gS g 0 1)) hx hb (hZ.1.1 1 (by decide)).1 hS hown k2 (fun _ h9 => h9) dX7_stoneFault_11 ?_
    cases hf
    subst hQ
    exact rt_r (rv := some _) hx hb hrt (Or.inl ⟨_, rfl⟩) hlk hK hP hD hS (Nat.le_of_ble_eq_true rfl) (Nat.le_of_ble_eq_true rfl) dX7_stoneFault_14
def f_X7_steepestFrom_J42 (qv : QV) (x1 : Int32) (x2 : Int32) (x3 : Int32) (x4 : Int32) : Option (Sum (Int32 × Int32) (Int32 × Int32)) :=
  some (.inl (x3, (x4 + 1)))
def f_X7_steepestFrom_L5 (qv : QV) (x1 : Int32) (x2 : Int32) (x3 : Int32) (x4 : Int32) : Option (Sum (Int32 × Int32) (Int32 × Int32)) :=
  if 4 ≤ x4 then
  (some (.inr (x3, x4)))
  else
  ((f_X3_neighbour x1 x4).bind fun o1 =>
  if o1 = (-1) then
  (f_X7_steepestFrom_J42 qv x1 x2 x3 x4)
  else
  (if jIn o1 30 then
  jbN (jMax x3 (jAbs (x2 - ((qHeights qv) o1.toNatClampNeg)))) fun z4 =>
  f_X7_steepestFrom_J42 qv x1 x2 z4 x4
  else none))
def f_X7_steepestFrom (qv : QV) (a0 : Int32) (a1 : Int32) : Option Int32 :=
  (jbL (fun s => f_X7_steepestFrom_L5 qv a0 a1 (s.1) (s.2)) 5000 (0, 0)).bind fun o5 =>
  some (o5.1)
def rm_X7_steepestFrom : Room := { frames := 1, cells := 0, slots := 0, locals := 25 }
theorem hd_X7_steepestFrom : yX7_steepestFrom.cls = RX7 ∧ yX7_steepestFrom.cls ≠ "java/lang/invoke/MethodHandle" ∧ yX7_steepestFrom.cls ≠ "java/lang/invoke/VarHandle" ∧ (parseMethodDescriptor yX7_steepestFrom.desc).map (fun d => d.parameters.length) = some 2 := by decide +kernel
set_option maxHeartbeats 4000000 in
set_option maxRecDepth 100000 in
theorem c_X7_steepestFrom (l : Launch) (g : GG) (hq : Nat → Nat) (qv : QV)  (a0 : Int32) (a1 : Int32) (out : Int32) (hf : f_X7_steepestFrom qv a0 a1 = some out) : MtI l yX7_steepestFrom wsX7_steepestFrom rm_X7_steepestFrom g (wQ g hq qv) [.ref (hq 0), .int a0, .int a1] out (wQ g hq qv) 0 0 := by
  refine fun sz => mt_of (cc := cX7_steepestFrom) (maxL := 6) (ret := (some .int)) (own := RX7) (Qc := fun A => va_Qi (fun r (_ : Unit) => r = out) (fun _ t => PosM g A (wQ g hq qv) t) A) (by decide +kernel) rfl rfl (Nat.le_of_ble_eq_true rfl) ?_ sz
  intro p e s mi below meth c A ls hB hnm hrt hlk hP hD hl
  obtain ⟨hx, hb, hml, hown, hts, hK, hZ, hT, hA, -⟩ := hB
  have hS : va_S A s.heap s.heap [] := va_S.rf
  have hl : lv_has ls 6 [(0, .ref (hq 0)), (1, .int a0), (2, .int a1)] := hl
  have hinX7 : ∀ w ∈ wsX70, w ∈ wsX7_steepestFrom := by decide +kernel
  have k0 := hts (.fieldLink RX7 9 "TerraceQuarry$Quarry" "heights" "[I") (by decide +kernel)
  have k1 := hts (.methodLink RX7 127 Lib.Math.abs.name) (by decide +kernel)
  have k2 := hts (.static Lib.Math.abs.name) (by decide +kernel)
  have k3 := hts (.initialized "java/lang/Math") (by decide +kernel)
  have k4 := hts (.code Lib.Math.abs.name Lib.Math.abs.code 1 (some .int)) (by decide +kernel)
  have k5 := hts (.methodLink RX7 132 Lib.Math.max.name) (by decide +kernel)
  have k6 := hts (.static Lib.Math.max.name) (by decide +kernel)
  have k7 := hts (.code Lib.Math.max.name Lib.Math.max.code 2 (some .int)) (by decide +kernel)
  generalize hQ : MQ below _ _ _ _ _ _ = Q
  unfold f_X7_steepestFrom at hf
  have hL5 : ∀ (x1 : Int32) (x2 : Int32) (n : Nat) (x3 : Int32) (x4 : Int32) (H : Heap) (locs : List Loc) (ls : Array Slot) (o5 : Int32 × Int32), jbL (fun s => f_X7_steepestFrom_L5 qv x1 x2 (s.1) (s.2)) n (x3, x4) = some o5 → va_P (gD g) vwCl (wQ g hq qv) H → va_D A (wQ g hq qv) → va_S A s.heap H locs → lv_has ls 6 [(0, .ref (hq 0)), (1, .int x1), (2, .int x2), (3, .int x3), (4, .int x4)] → (∀ (H : Heap) (locs : List Loc) (ls : Array Slot), va_P (gD g) vwCl (wQ g hq qv) H → va_D A (wQ g hq qv) → va_S A s.heap H locs → lv_has ls 6 [(3, .int (o5.1))] → W p l e rm_X7_steepestFrom s mi [.ref (hq 0), .int a0, .int a1].toArray below meth c H locs 0 0 Q (F0 mi 48 ls [])) → W p l e rm_X7_steepestFrom s mi [.ref (hq 0), .int a0, .int a1].toArray below meth c H locs 0 0 Q (F0 mi 5 ls []) := by
    intro x1 x2 n
    induction n with
    | zero => intro x3 x4 H locs ls o5 hf; exact absurd hf (jbL_0 _ _ _)
    | succ n ih =>
      intro x3 x4 H locs ls o5 hf hP hD hS hl hk
      obtain ⟨r, hf, hr⟩ := jbL_e hf
      have hf : f_X7_steepestFrom_L5 qv x1 x2 x3 x4 = some r := hf
      unfold f_X7_steepestFrom_L5 at hf
      have hJ42 : ∀ (x3 : Int32) (x4 : Int32) (H : Heap) (locs : List Loc) (ls : Array Slot) (r : Sum (Int32 × Int32) (Int32 × Int32)), f_X7_steepestFrom_J42 qv x1 x2 x3 x4 = some r → jbR (fun s => f_X7_steepestFrom_L5 qv x1 x2 (s.1) (s.2)) n o5 r → va_P (gD g) vwCl (wQ g hq qv) H → va_D A (wQ g hq qv) → va_S A s.heap H locs → lv_has ls 6 [(0, .ref (hq 0)), (1, .int x1), (2, .int x2), (3, .int x3), (4, .int x4)] → W p l e rm_X7_steepestFrom s mi [.ref (hq 0), .int a0, .int a1].toArray below meth c H locs 0 0 Q (F0 mi 42 ls []) := by
        intro x3 x4 H locs ls r hf hr hP hD hS hl
        unfold f_X7_steepestFrom_J42 at hf
        refine lv_iinc (v := (x4 + 1)) (lv' := [(4, .int (x4 + 1)), (0, .ref (hq 0)), (1, .int x1), (2, .int x2), (3, .int x3)]) hx hb dX7_steepestFrom_42 hl (k := 4) rfl rfl (by decide) rfl (fun ls hl => ?_)
        refine lv_goto (tgt := 5) hx hb dX7_steepestFrom_45 (by decide) ?_
        cases hf
        exact ih x3 (x4 + 1) _ _ _ _ hr hP hD hS (lv_sub hl [1, 2, 3, 4, 0] rfl) hk
      refine lv_iload hx hb dX7_steepestFrom_5 (lv_at hl 4 rfl) ?_
      refine lv_iconst (v := 4) hx hb dX7_steepestFrom_7 (by decide) ?_
      refine lv_icmp_ge (tgt := 48) hx hb dX7_steepestFrom_8 (by decide) (fun hc => ?_) (fun hc => ?_)
      · have hf := jbT hf hc
        cases hf
        obtain rfl := jbR_r hr
        exact hk _ _ _ hP hD hS (lv_sub hl [3] rfl)
      · have hf := jbF hf hc
        refine lv_iload_n hx hb dX7_steepestFrom_11 rfl (lv_at hl 1 rfl) ?_
        refine lv_iload hx hb dX7_steepestFrom_12 (lv_at hl 4 rfl) ?_
        obtain ⟨o1, g2, hf⟩ := jbB_e hf
        refine csn_i (As := [.int x1, .int x4]) (rest := []) ⟨hx, hb, hml, hown, hts⟩ (c_X3_neighbour l g x1 x4 _ g2) (va_cwS 2 hts gX7_steepestFrom_X3_neighbour rfl rfl rfl hd_X3_neighbour ⟨Nat.le_of_ble_eq_true rfl, Nat.le_of_ble_eq_true rfl⟩) hK hZ hT hA hP hD hS hl.1 rfl rfl (Nat.le_of_ble_eq_true rfl) ⟨Nat.le_of_ble_eq_true rfl, Nat.le_of_ble_eq_true rfl⟩ dX7_steepestFrom_14 (fun H locs hP hD hS => ?_)
        refine lv_istore (lv' := [(5, .int o1), (0, .ref (hq 0)), (1, .int x1), (2, .int x2), (3, .int x3), (4, .int x4)]) hx hb dX7_steepestFrom_17 hl (by decide) rfl (fun ls hl => ?_)
        refine lv_iload hx hb dX7_steepestFrom_19 (lv_at hl 0 rfl) ?_
        refine lv_iconst (v := (-1)) hx hb dX7_steepestFrom_21 (by decide) ?_
        refine lv_icmp_eq (tgt := 42) hx hb dX7_steepestFrom_22 (by decide) (fun hc => ?_) (fun hc => ?_)
        · have hf := jbT hf hc
          exact hJ42 x3 x4 _ _ _ _ hf hr hP hD hS (lv_sub hl [1, 2, 3, 4, 5] rfl)
        · have hf := jbF hf hc
          refine lv_iload_n hx hb dX7_steepestFrom_25 rfl (lv_at hl 4 rfl) ?_
          refine lv_iload_n hx hb dX7_steepestFrom_26 rfl (lv_at hl 3 rfl) ?_
          refine lv_aload_n hx hb dX7_steepestFrom_27 rfl (lv_at hl 1 rfl) ?_
          refine va_get (D := gD g) (ci := 7) (v := .ref (hq 1)) (C := RX7) (T := TX7) (N := 15) hx hb hts hinX7 hown hK hP 0 rfl rfl 0 (by decide) k0 (fun _ h9 => h9) rfl dX7_steepestFrom_28 ?_
          refine lv_iload hx hb dX7_steepestFrom_31 (lv_at hl 0 rfl) ?_
          obtain ⟨h3, hf⟩ := jbA_e hf
          refine va_iald hx hb hK hP 1 0 rfl rfl h3 dX7_steepestFrom_33 ?_
          refine lv_isub hx hb dX7_steepestFrom_34 ?_
          refine va_mabs hx hb (hml.trans hl.1.symm) hown k1 k2 k3 k4 (Nat.le_of_ble_eq_true rfl) (Nat.le_of_ble_eq_true rfl) (Nat.le_of_ble_eq_true rfl) (Nat.le_of_ble_eq_true rfl) dX7_steepestFrom_35 ?_
          refine va_mmax hx hb (hml.trans hl.1.symm) hown k5 k6 k3 k7 (Nat.le_of_ble_eq_true rfl) (Nat.le_of_ble_eq_true rfl) (Nat.le_of_ble_eq_true rfl) (Nat.le_of_ble_eq_true rfl) dX7_steepestFrom_38 ?_
          refine lv_topi (fun z4 ez4 => ?_)
          have hf := jbN_e hf ez4
          refine lv_istore_n (lv' := [(3, .int z4), (5, .int o1), (0, .ref (hq 0)), (1, .int x1), (2, .int x2), (4, .int x4)]) hx hb dX7_steepestFrom_41 rfl hl (by decide) rfl (fun ls hl => ?_)
          exact hJ42 z4 x4 _ _ _ _ hf hr hP hD hS (lv_sub hl [2, 3, 4, 0, 5] rfl)
  refine lv_iconst (v := 0) hx hb dX7_steepestFrom_0 (by decide) ?_
  refine lv_istore_n (lv' := [(3, .int 0), (0, .ref (hq 0)), (1, .int a0), (2, .int a1)]) hx hb dX7_steepestFrom_1 rfl hl (by decide) rfl (fun ls hl => ?_)
  refine lv_iconst (v := 0) hx hb dX7_steepestFrom_2 (by decide) ?_
  refine lv_istore (lv' := [(4, .int 0), (3, .int 0), (0, .ref (hq 0)), (1, .int a0), (2, .int a1)]) hx hb dX7_steepestFrom_3 hl (by decide) rfl (fun ls hl => ?_)
  obtain ⟨o5, hg, hf⟩ := jbB_e hf
  refine hL5 a0 a1 _ 0 0 _ _ _ _ hg hP hD hS (lv_sub hl [2, 3, 4, 1, 0] rfl) (fun H locs ls hP hD hS hl => ?_)
  refine lv_iload_n hx hb dX7_steepestFrom_48 rfl (lv_at hl 0 rfl) ?_
  cases hf
  subst hQ
  exact rt_i hx hb hrt hlk rfl hK hP hD hS (Nat.le_of_ble_eq_true rfl) (Nat.le_of_ble_eq_true rfl) dX7_steepestFrom_49
def f_X7_cutFault (qv : QV) (a0 : Int32) (a1 : Int32) : Option Nat :=
  (f_X3_cellFault a0 a1).bind fun o1 =>
  if o1 < 6 then
  if o1 = 0 then
  ((f_X3_cellAt a0 a1).bind fun o4 =>
  if jIn o4 30 then
  if ((qLedges qv) o4.toNatClampNeg) = 0 then
  (if jIn o4 30 then
  if ((qHeights qv) o4.toNatClampNeg) ≤ 0 then
  (some 4)
  else
  (if jIn o4 30 then
  if ((qBlockCounts qv) o4.toNatClampNeg) < 3 then
  (if jIn o4 30 then
  (f_X7_steepestFrom qv o4 (((qHeights qv) o4.toNatClampNeg) - 1)).bind fun o10 =>
  if (qLimit qv) < o10 then
  (some 5)
  else
  (some 0)
  else none)
  else
  (some 4)
  else none)
  else none)
  else
  (some 4)
  else none)
  else
  (some 1)
  else none
def rm_X7_cutFault : Room := { frames := 2, cells := 0, slots := 0, locals := 50 }
theorem hd_X7_cutFault : yX7_cutFault.cls = RX7 ∧ yX7_cutFault.cls ≠ "java/lang/invoke/MethodHandle" ∧ yX7_cutFault.cls ≠ "java/lang/invoke/VarHandle" ∧ (parseMethodDescriptor yX7_cutFault.desc).map (fun d => d.parameters.length) = some 2 := by decide +kernel
set_option maxHeartbeats 4000000 in
set_option maxRecDepth 100000 in
theorem c_X7_cutFault (l : Launch) (g : GG) (hq : Nat → Nat) (qv : QV)  (a0 : Int32) (a1 : Int32) (out : Nat) (hf : f_X7_cutFault qv a0 a1 = some out) : MtR l yX7_cutFault wsX7_cutFault rm_X7_cutFault g (wQ g hq qv) [.ref (hq 0), .int a0, .int a1] (some (gS g 0 out)) (wQ g hq qv) 0 0 := by
  refine fun sz => mt_of (cc := cX7_cutFault) (maxL := 4) (ret := (some (.object "TerraceQuarry$Fault"))) (own := RX7) (Qc := fun A => va_Qq (fun r (_ : Unit) => r = (some (gS g 0 out))) (fun _ t => PosM g A (wQ g hq qv) t) A) (by decide +kernel) rfl rfl (Nat.le_of_ble_eq_true rfl) ?_ sz
  intro p e s mi below meth c A ls hB hnm hrt hlk hP hD hl
  obtain ⟨hx, hb, hml, hown, hts, hK, hZ, hT, hA, -⟩ := hB
  have hS : va_S A s.heap s.heap [] := va_S.rf
  have hl : lv_has ls 4 [(0, .ref (hq 0)), (1, .int a0), (2, .int a1)] := hl
  have hinX7 : ∀ w ∈ wsX70, w ∈ wsX7_cutFault := by decide +kernel
  have k0 := hts (.fieldLink RX7 66 "TerraceQuarry$Fault" "NONE" "LTerraceQuarry$Fault;") (by decide +kernel)
  have k1 := hts (.fieldLink RX7 18 "TerraceQuarry$Quarry" "ledges" "[Z") (by decide +kernel)
  have k2 := hts (.fieldLink RX7 90 "TerraceQuarry$Fault" "STATE" "LTerraceQuarry$Fault;") (by decide +kernel)
  have k3 := hts (.fieldLink RX7 9 "TerraceQuarry$Quarry" "heights" "[I") (by decide +kernel)
  have k4 := hts (.fieldLink RX7 22 "TerraceQuarry$Quarry" "blockCounts" "[I") (by decide +kernel)
  have k5 := hts (.fieldLink RX7 40 "TerraceQuarry$Quarry" "limit" "I") (by decide +kernel)
  have k6 := hts (.fieldLink RX7 96 "TerraceQuarry$Fault" "UNSUPPORTED" "LTerraceQuarry$Fault;") (by decide +kernel)
  have k7 := hts (.fieldLink RX7 79 "TerraceQuarry$Fault" "INDEX" "LTerraceQuarry$Fault;") (by decide +kernel)
  generalize hQ : MQ below _ _ _ _ _ _ = Q
  unfold f_X7_cutFault at hf
  refine lv_iload_n hx hb dX7_cutFault_0 rfl (lv_at hl 1 rfl) ?_
  refine lv_iload_n hx hb dX7_cutFault_1 rfl (lv_at hl 2 rfl) ?_
  obtain ⟨o1, g2, hf⟩ := jbB_e hf
  refine csn_e (As := [.int a0, .int a1]) (rest := []) ⟨hx, hb, hml, hown, hts⟩ (c_X3_cellFault l g a0 a1 _ g2) (va_cwS 2 hts gX7_cutFault_X3_cellFault rfl rfl rfl hd_X3_cellFault ⟨Nat.le_of_ble_eq_true rfl, Nat.le_of_ble_eq_true rfl⟩) hK hZ hT hA hP hD hS hl.1 rfl rfl (Nat.le_of_ble_eq_true rfl) ⟨Nat.le_of_ble_eq_true rfl, Nat.le_of_ble_eq_true rfl⟩ dX7_cutFault_2 (fun H locs hP hD hS => ?_)
  refine va_gets (C := "TerraceQuarry$Fault") (n := "NONE") (d := "LTerraceQuarry$Fault;") (v := .ref (gS g 0 0)) hx hb (hZ.1.1 0 (by decide)).1 hS hown k0 (fun _ h9 => h9) dX7_cutFault_5 ?_
  obtain ⟨h3, hf⟩ := jbA_e hf
  refine lv_acmp_eq (rx := some (gS g 0 o1)) (ry := some (gS g 0 0)) (tgt := 15) hx hb dX7_cutFault_8 (by decide) (fun hc => ?_) (fun hc => ?_)
  · have hf := jbT hf (enF hZ h3 (by decide) hc)
    refine lv_iload_n hx hb dX7_cutFault_15 rfl (lv_at hl 1 rfl) ?_
    refine lv_iload_n hx hb dX7_cutFault_16 rfl (lv_at hl 2 rfl) ?_
    obtain ⟨o4, g5, hf⟩ := jbB_e hf
    refine csn_i (As := [.int a0, .int a1]) (rest := []) ⟨hx, hb, hml, hown, hts⟩ (c_X3_cellAt l g a0 a1 _ g5) (va_cwS 2 hts gX7_cutFault_X3_cellAt rfl rfl rfl hd_X3_cellAt ⟨Nat.le_of_ble_eq_true rfl, Nat.le_of_ble_eq_true rfl⟩) hK hZ hT hA hP hD hS hl.1 rfl rfl (Nat.le_of_ble_eq_true rfl) ⟨Nat.le_of_ble_eq_true rfl, Nat.le_of_ble_eq_true rfl⟩ dX7_cutFault_17 (fun H locs hP hD hS => ?_)
    refine lv_istore_n (lv' := [(3, .int o4), (0, .ref (hq 0)), (1, .int a0), (2, .int a1)]) hx hb dX7_cutFault_20 rfl hl (by decide) rfl (fun ls hl => ?_)
    refine lv_aload_n hx hb dX7_cutFault_21 rfl (lv_at hl 1 rfl) ?_
    refine va_get (D := gD g) (ci := 7) (v := .ref (hq 3)) (C := RX7) (T := TX7) (N := 15) hx hb hts hinX7 hown hK hP 0 rfl rfl 2 (by decide) k1 (fun _ h9 => h9) rfl dX7_cutFault_22 ?_
    refine lv_iload_n hx hb dX7_cutFault_25 rfl (lv_at hl 0 rfl) ?_
    obtain ⟨h6, hf⟩ := jbA_e hf
    refine va_zald hx hb hK hP 3 1 rfl rfl h6 dX7_cutFault_26 ?_
    refine lv_if_ne (tgt := 49) hx hb dX7_cutFault_27 (by decide) (fun hc => ?_) (fun hc => ?_)
    · have hf := jbF hf hc
      refine va_gets (C := "TerraceQuarry$Fault") (n := "STATE") (d := "LTerraceQuarry$Fault;") (v := .ref (gS g 0 4)) hx hb (hZ.1.1 4 (by decide)).1 hS hown k2 (fun _ h9 => h9) dX7_cutFault_49 ?_
      cases hf
      subst hQ
      exact rt_r (rv := some _) hx hb hrt (Or.inl ⟨_, rfl⟩) hlk hK hP hD hS (Nat.le_of_ble_eq_true rfl) (Nat.le_of_ble_eq_true rfl) dX7_cutFault_52
    · have hf := jbT hf hc
      refine lv_aload_n hx hb dX7_cutFault_30 rfl (lv_at hl 1 rfl) ?_
      refine va_get (D := gD g) (ci := 7) (v := .ref (hq 1)) (C := RX7) (T := TX7) (N := 15) hx hb hts hinX7 hown hK hP 0 rfl rfl 0 (by decide) k3 (fun _ h9 => h9) rfl dX7_cutFault_31 ?_
      refine lv_iload_n hx hb dX7_cutFault_34 rfl (lv_at hl 0 rfl) ?_
      obtain ⟨h7, hf⟩ := jbA_e hf
      refine va_iald hx hb hK hP 1 0 rfl rfl h7 dX7_cutFault_35 ?_
      refine lv_if_le (tgt := 49) hx hb dX7_cutFault_36 (by decide) (fun hc => ?_) (fun hc => ?_)
      · have hf := jbT hf hc
        refine va_gets (C := "TerraceQuarry$Fault") (n := "STATE") (d := "LTerraceQuarry$Fault;") (v := .ref (gS g 0 4)) hx hb (hZ.1.1 4 (by decide)).1 hS hown k2 (fun _ h9 => h9) dX7_cutFault_49 ?_
        cases hf
        subst hQ
        exact rt_r (rv := some _) hx hb hrt (Or.inl ⟨_, rfl⟩) hlk hK hP hD hS (Nat.le_of_ble_eq_true rfl) (Nat.le_of_ble_eq_true rfl) dX7_cutFault_52
      · have hf := jbF hf hc
        refine lv_aload_n hx hb dX7_cutFault_39 rfl (lv_at hl 1 rfl) ?_
        refine va_get (D := gD g) (ci := 7) (v := .ref (hq 4)) (C := RX7) (T := TX7) (N := 15) hx hb hts hinX7 hown hK hP 0 rfl rfl 3 (by decide) k4 (fun _ h9 => h9) rfl dX7_cutFault_40 ?_
        refine lv_iload_n hx hb dX7_cutFault_43 rfl (lv_at hl 0 rfl) ?_
        obtain ⟨h8, hf⟩ := jbA_e hf
        refine va_iald hx hb hK hP 4 0 rfl rfl h8 dX7_cutFault_44 ?_
        refine lv_iconst (v := 3) hx hb dX7_cutFault_45 (by decide) ?_
        refine lv_icmp_lt (tgt := 53) hx hb dX7_cutFault_46 (by decide) (fun hc => ?_) (fun hc => ?_)
        · have hf := jbT hf hc
          refine lv_aload_n hx hb dX7_cutFault_53 rfl (lv_at hl 1 rfl) ?_
          refine lv_iload_n hx hb dX7_cutFault_54 rfl (lv_at hl 0 rfl) ?_
          refine lv_aload_n hx hb dX7_cutFault_55 rfl (lv_at hl 1 rfl) ?_
          refine va_get (D := gD g) (ci := 7) (v := .ref (hq 1)) (C := RX7) (T := TX7) (N := 15) hx hb hts hinX7 hown hK hP 0 rfl rfl 0 (by decide) k3 (fun _ h9 => h9) rfl dX7_cutFault_56 ?_
          refine lv_iload_n hx hb dX7_cutFault_59 rfl (lv_at hl 0 rfl) ?_
          obtain ⟨h9, hf⟩ := jbA_e hf
          refine va_iald hx hb hK hP 1 0 rfl rfl h9 dX7_cutFault_60 ?_
          refine lv_iconst (v := 1) hx hb dX7_cutFault_61 (by decide) ?_
          refine lv_isub hx hb dX7_cutFault_62 ?_
          obtain ⟨o10, g11, hf⟩ := jbB_e hf
          refine cva_i (As := [.int o4, .int (((qHeights qv) o4.toNatClampNeg) - 1)]) (rest := []) ⟨hx, hb, hml, hown, hts⟩ (c_X7_steepestFrom l g hq qv o4 (((qHeights qv) o4.toNatClampNeg) - 1) _ g11) (cwV 2 hts gX7_cutFault_X7_steepestFrom rfl rfl rfl hd_X7_steepestFrom ⟨Nat.le_of_ble_eq_true rfl, Nat.le_of_ble_eq_true rfl⟩) hK hZ hT hA hP hD hS hl.1 (va_recv hK hP (ci := 7) (q0 := 0) rfl rfl) rfl rfl (Nat.le_of_ble_eq_true rfl) ⟨Nat.le_of_ble_eq_true rfl, Nat.le_of_ble_eq_true rfl⟩ dX7_cutFault_63 (fun H locs hP hD hS => ?_)
          refine lv_aload_n hx hb dX7_cutFault_66 rfl (lv_at hl 1 rfl) ?_
          refine va_get (D := gD g) (ci := 7) (v := .int (qLimit qv)) (C := RX7) (T := TX7) (N := 15) hx hb hts hinX7 hown hK hP 0 rfl rfl 10 (by decide) k5 (fun _ h9 => h9) rfl dX7_cutFault_67 ?_
          refine lv_icmp_gt (tgt := 79) hx hb dX7_cutFault_70 (by decide) (fun hc => ?_) (fun hc => ?_)
          · have hf := jbT hf hc
            refine va_gets (C := "TerraceQuarry$Fault") (n := "UNSUPPORTED") (d := "LTerraceQuarry$Fault;") (v := .ref (gS g 0 5)) hx hb (hZ.1.1 5 (by decide)).1 hS hown k6 (fun _ h9 => h9) dX7_cutFault_79 ?_
            cases hf
            subst hQ
            exact rt_r (rv := some _) hx hb hrt (Or.inl ⟨_, rfl⟩) hlk hK hP hD hS (Nat.le_of_ble_eq_true rfl) (Nat.le_of_ble_eq_true rfl) dX7_cutFault_82
          · have hf := jbF hf hc
            refine va_gets (C := "TerraceQuarry$Fault") (n := "NONE") (d := "LTerraceQuarry$Fault;") (v := .ref (gS g 0 0)) hx hb (hZ.1.1 0 (by decide)).1 hS hown k0 (fun _ h9 => h9) dX7_cutFault_73 ?_
            refine lv_goto (tgt := 82) hx hb dX7_cutFault_76 (by decide) ?_
            cases hf
            subst hQ
            exact rt_r (rv := some _) hx hb hrt (Or.inl ⟨_, rfl⟩) hlk hK hP hD hS (Nat.le_of_ble_eq_true rfl) (Nat.le_of_ble_eq_true rfl) dX7_cutFault_82
        · have hf := jbF hf hc
          refine va_gets (C := "TerraceQuarry$Fault") (n := "STATE") (d := "LTerraceQuarry$Fault;") (v := .ref (gS g 0 4)) hx hb (hZ.1.1 4 (by decide)).1 hS hown k2 (fun _ h9 => h9) dX7_cutFault_49 ?_
          cases hf
          subst hQ
          exact rt_r (rv := some _) hx hb hrt (Or.inl ⟨_, rfl⟩) hlk hK hP hD hS (Nat.le_of_ble_eq_true rfl) (Nat.le_of_ble_eq_true rfl) dX7_cutFault_52
  · have hf := jbF hf (enN hc)
    refine va_gets (C := "TerraceQuarry$Fault") (n := "INDEX") (d := "LTerraceQuarry$Fault;") (v := .ref (gS g 0 1)) hx hb (hZ.1.1 1 (by decide)).1 hS hown k7 (fun _ h9 => h9) dX7_cutFault_11 ?_
    cases hf
    subst hQ
    exact rt_r (rv := some _) hx hb hrt (Or.inl ⟨_, rfl⟩) hlk hK hP hD hS (Nat.le_of_ble_eq_true rfl) (Nat.le_of_ble_eq_true rfl) dX7_cutFault_14
def f_X7_fillFault (qv : QV) (a0 : Int32) (a1 : Int32) : Option Nat :=
  (f_X3_cellFault a0 a1).bind fun o1 =>
  if o1 < 6 then
  if o1 = 0 then
  ((f_X3_cellAt a0 a1).bind fun o4 =>
  if jIn o4 30 then
  if ((qLedges qv) o4.toNatClampNeg) = 0 then
  (if jIn o4 30 then
  if 9 ≤ ((qHeights qv) o4.toNatClampNeg) then
  (some 4)
  else
  (if jIn o4 30 then
  if 0 < ((qBlockCounts qv) o4.toNatClampNeg) then
  (some 4)
  else
  (if 0 < (qRubble qv) then
  (if jIn o4 30 then
  (f_X7_steepestFrom qv o4 (((qHeights qv) o4.toNatClampNeg) + 1)).bind fun o10 =>
  if (qLimit qv) < o10 then
  (some 5)
  else
  (some 0)
  else none)
  else
  (some 4))
  else none)
  else none)
  else
  (some 4)
  else none)
  else
  (some 1)
  else none
def rm_X7_fillFault : Room := { frames := 2, cells := 0, slots := 0, locals := 50 }
theorem hd_X7_fillFault : yX7_fillFault.cls = RX7 ∧ yX7_fillFault.cls ≠ "java/lang/invoke/MethodHandle" ∧ yX7_fillFault.cls ≠ "java/lang/invoke/VarHandle" ∧ (parseMethodDescriptor yX7_fillFault.desc).map (fun d => d.parameters.length) = some 2 := by decide +kernel
set_option maxHeartbeats 4000000 in
set_option maxRecDepth 100000 in
theorem c_X7_fillFault (l : Launch) (g : GG) (hq : Nat → Nat) (qv : QV)  (a0 : Int32) (a1 : Int32) (out : Nat) (hf : f_X7_fillFault qv a0 a1 = some out) : MtR l yX7_fillFault wsX7_fillFault rm_X7_fillFault g (wQ g hq qv) [.ref (hq 0), .int a0, .int a1] (some (gS g 0 out)) (wQ g hq qv) 0 0 := by
  refine fun sz => mt_of (cc := cX7_fillFault) (maxL := 4) (ret := (some (.object "TerraceQuarry$Fault"))) (own := RX7) (Qc := fun A => va_Qq (fun r (_ : Unit) => r = (some (gS g 0 out))) (fun _ t => PosM g A (wQ g hq qv) t) A) (by decide +kernel) rfl rfl (Nat.le_of_ble_eq_true rfl) ?_ sz
  intro p e s mi below meth c A ls hB hnm hrt hlk hP hD hl
  obtain ⟨hx, hb, hml, hown, hts, hK, hZ, hT, hA, -⟩ := hB
  have hS : va_S A s.heap s.heap [] := va_S.rf
  have hl : lv_has ls 4 [(0, .ref (hq 0)), (1, .int a0), (2, .int a1)] := hl
  have hinX7 : ∀ w ∈ wsX70, w ∈ wsX7_fillFault := by decide +kernel
  have k0 := hts (.fieldLink RX7 66 "TerraceQuarry$Fault" "NONE" "LTerraceQuarry$Fault;") (by decide +kernel)
  have k1 := hts (.fieldLink RX7 18 "TerraceQuarry$Quarry" "ledges" "[Z") (by decide +kernel)
  have k2 := hts (.fieldLink RX7 90 "TerraceQuarry$Fault" "STATE" "LTerraceQuarry$Fault;") (by decide +kernel)
  have k3 := hts (.fieldLink RX7 9 "TerraceQuarry$Quarry" "heights" "[I") (by decide +kernel)
  have k4 := hts (.fieldLink RX7 22 "TerraceQuarry$Quarry" "blockCounts" "[I") (by decide +kernel)
  have k5 := hts (.fieldLink RX7 44 "TerraceQuarry$Quarry" "rubble" "I") (by decide +kernel)
  have k6 := hts (.fieldLink RX7 40 "TerraceQuarry$Quarry" "limit" "I") (by decide +kernel)
  have k7 := hts (.fieldLink RX7 96 "TerraceQuarry$Fault" "UNSUPPORTED" "LTerraceQuarry$Fault;") (by decide +kernel)
  have k8 := hts (.fieldLink RX7 79 "TerraceQuarry$Fault" "INDEX" "LTerraceQuarry$Fault;") (by decide +kernel)
  generalize hQ : MQ below _ _ _ _ _ _ = Q
  unfold f_X7_fillFault at hf
  refine lv_iload_n hx hb dX7_fillFault_0 rfl (lv_at hl 1 rfl) ?_
  refine lv_iload_n hx hb dX7_fillFault_1 rfl (lv_at hl 2 rfl) ?_
  obtain ⟨o1, g2, hf⟩ := jbB_e hf
  refine csn_e (As := [.int a0, .int a1]) (rest := []) ⟨hx, hb, hml, hown, hts⟩ (c_X3_cellFault l g a0 a1 _ g2) (va_cwS 2 hts gX7_fillFault_X3_cellFault rfl rfl rfl hd_X3_cellFault ⟨Nat.le_of_ble_eq_true rfl, Nat.le_of_ble_eq_true rfl⟩) hK hZ hT hA hP hD hS hl.1 rfl rfl (Nat.le_of_ble_eq_true rfl) ⟨Nat.le_of_ble_eq_true rfl, Nat.le_of_ble_eq_true rfl⟩ dX7_fillFault_2 (fun H locs hP hD hS => ?_)
  refine va_gets (C := "TerraceQuarry$Fault") (n := "NONE") (d := "LTerraceQuarry$Fault;") (v := .ref (gS g 0 0)) hx hb (hZ.1.1 0 (by decide)).1 hS hown k0 (fun _ h9 => h9) dX7_fillFault_5 ?_
  obtain ⟨h3, hf⟩ := jbA_e hf
  refine lv_acmp_eq (rx := some (gS g 0 o1)) (ry := some (gS g 0 0)) (tgt := 15) hx hb dX7_fillFault_8 (by decide) (fun hc => ?_) (fun hc => ?_)
  · have hf := jbT hf (enF hZ h3 (by decide) hc)
    refine lv_iload_n hx hb dX7_fillFault_15 rfl (lv_at hl 1 rfl) ?_
    refine lv_iload_n hx hb dX7_fillFault_16 rfl (lv_at hl 2 rfl) ?_
    obtain ⟨o4, g5, hf⟩ := jbB_e hf
    refine csn_i (As := [.int a0, .int a1]) (rest := []) ⟨hx, hb, hml, hown, hts⟩ (c_X3_cellAt l g a0 a1 _ g5) (va_cwS 2 hts gX7_fillFault_X3_cellAt rfl rfl rfl hd_X3_cellAt ⟨Nat.le_of_ble_eq_true rfl, Nat.le_of_ble_eq_true rfl⟩) hK hZ hT hA hP hD hS hl.1 rfl rfl (Nat.le_of_ble_eq_true rfl) ⟨Nat.le_of_ble_eq_true rfl, Nat.le_of_ble_eq_true rfl⟩ dX7_fillFault_17 (fun H locs hP hD hS => ?_)
    refine lv_istore_n (lv' := [(3, .int o4), (0, .ref (hq 0)), (1, .int a0), (2, .int a1)]) hx hb dX7_fillFault_20 rfl hl (by decide) rfl (fun ls hl => ?_)
    refine lv_aload_n hx hb dX7_fillFault_21 rfl (lv_at hl 1 rfl) ?_
    refine va_get (D := gD g) (ci := 7) (v := .ref (hq 3)) (C := RX7) (T := TX7) (N := 15) hx hb hts hinX7 hown hK hP 0 rfl rfl 2 (by decide) k1 (fun _ h9 => h9) rfl dX7_fillFault_22 ?_
    refine lv_iload_n hx hb dX7_fillFault_25 rfl (lv_at hl 0 rfl) ?_
    obtain ⟨h6, hf⟩ := jbA_e hf
    refine va_zald hx hb hK hP 3 1 rfl rfl h6 dX7_fillFault_26 ?_
    refine lv_if_ne (tgt := 57) hx hb dX7_fillFault_27 (by decide) (fun hc => ?_) (fun hc => ?_)
    · have hf := jbF hf hc
      refine va_gets (C := "TerraceQuarry$Fault") (n := "STATE") (d := "LTerraceQuarry$Fault;") (v := .ref (gS g 0 4)) hx hb (hZ.1.1 4 (by decide)).1 hS hown k2 (fun _ h9 => h9) dX7_fillFault_57 ?_
      cases hf
      subst hQ
      exact rt_r (rv := some _) hx hb hrt (Or.inl ⟨_, rfl⟩) hlk hK hP hD hS (Nat.le_of_ble_eq_true rfl) (Nat.le_of_ble_eq_true rfl) dX7_fillFault_60
    · have hf := jbT hf hc
      refine lv_aload_n hx hb dX7_fillFault_30 rfl (lv_at hl 1 rfl) ?_
      refine va_get (D := gD g) (ci := 7) (v := .ref (hq 1)) (C := RX7) (T := TX7) (N := 15) hx hb hts hinX7 hown hK hP 0 rfl rfl 0 (by decide) k3 (fun _ h9 => h9) rfl dX7_fillFault_31 ?_
      refine lv_iload_n hx hb dX7_fillFault_34 rfl (lv_at hl 0 rfl) ?_
      obtain ⟨h7, hf⟩ := jbA_e hf
      refine va_iald hx hb hK hP 1 0 rfl rfl h7 dX7_fillFault_35 ?_
      refine lv_bipush (v := 9) hx hb dX7_fillFault_36 (by decide) ?_
      refine lv_icmp_ge (tgt := 57) hx hb dX7_fillFault_38 (by decide) (fun hc => ?_) (fun hc => ?_)
      · have hf := jbT hf hc
        refine va_gets (C := "TerraceQuarry$Fault") (n := "STATE") (d := "LTerraceQuarry$Fault;") (v := .ref (gS g 0 4)) hx hb (hZ.1.1 4 (by decide)).1 hS hown k2 (fun _ h9 => h9) dX7_fillFault_57 ?_
        cases hf
        subst hQ
        exact rt_r (rv := some _) hx hb hrt (Or.inl ⟨_, rfl⟩) hlk hK hP hD hS (Nat.le_of_ble_eq_true rfl) (Nat.le_of_ble_eq_true rfl) dX7_fillFault_60
      · have hf := jbF hf hc
        refine lv_aload_n hx hb dX7_fillFault_41 rfl (lv_at hl 1 rfl) ?_
        refine va_get (D := gD g) (ci := 7) (v := .ref (hq 4)) (C := RX7) (T := TX7) (N := 15) hx hb hts hinX7 hown hK hP 0 rfl rfl 3 (by decide) k4 (fun _ h9 => h9) rfl dX7_fillFault_42 ?_
        refine lv_iload_n hx hb dX7_fillFault_45 rfl (lv_at hl 0 rfl) ?_
        obtain ⟨h8, hf⟩ := jbA_e hf
        refine va_iald hx hb hK hP 4 0 rfl rfl h8 dX7_fillFault_46 ?_
        refine lv_if_gt (tgt := 57) hx hb dX7_fillFault_47 (by decide) (fun hc => ?_) (fun hc => ?_)
        · have hf := jbT hf hc
          refine va_gets (C := "TerraceQuarry$Fault") (n := "STATE") (d := "LTerraceQuarry$Fault;") (v := .ref (gS g 0 4)) hx hb (hZ.1.1 4 (by decide)).1 hS hown k2 (fun _ h9 => h9) dX7_fillFault_57 ?_
          cases hf
          subst hQ
          exact rt_r (rv := some _) hx hb hrt (Or.inl ⟨_, rfl⟩) hlk hK hP hD hS (Nat.le_of_ble_eq_true rfl) (Nat.le_of_ble_eq_true rfl) dX7_fillFault_60
        · have hf := jbF hf hc
          refine lv_aload_n hx hb dX7_fillFault_50 rfl (lv_at hl 1 rfl) ?_
          refine va_get (D := gD g) (ci := 7) (v := .int (qRubble qv)) (C := RX7) (T := TX7) (N := 15) hx hb hts hinX7 hown hK hP 0 rfl rfl 11 (by decide) k5 (fun _ h9 => h9) rfl dX7_fillFault_51 ?_
          refine lv_if_gt (tgt := 61) hx hb dX7_fillFault_54 (by decide) (fun hc => ?_) (fun hc => ?_)
          · have hf := jbT hf hc
            refine lv_aload_n hx hb dX7_fillFault_61 rfl (lv_at hl 1 rfl) ?_
            refine lv_iload_n hx hb dX7_fillFault_62 rfl (lv_at hl 0 rfl) ?_
            refine lv_aload_n hx hb dX7_fillFault_63 rfl (lv_at hl 1 rfl) ?_
            refine va_get (D := gD g) (ci := 7) (v := .ref (hq 1)) (C := RX7) (T := TX7) (N := 15) hx hb hts hinX7 hown hK hP 0 rfl rfl 0 (by decide) k3 (fun _ h9 => h9) rfl dX7_fillFault_64 ?_
            refine lv_iload_n hx hb dX7_fillFault_67 rfl (lv_at hl 0 rfl) ?_
            obtain ⟨h9, hf⟩ := jbA_e hf
            refine va_iald hx hb hK hP 1 0 rfl rfl h9 dX7_fillFault_68 ?_
            refine lv_iconst (v := 1) hx hb dX7_fillFault_69 (by decide) ?_
            refine lv_iadd hx hb dX7_fillFault_70 ?_
            obtain ⟨o10, g11, hf⟩ := jbB_e hf
            refine cva_i (As := [.int o4, .int (((qHeights qv) o4.toNatClampNeg) + 1)]) (rest := []) ⟨hx, hb, hml, hown, hts⟩ (c_X7_steepestFrom l g hq qv o4 (((qHeights qv) o4.toNatClampNeg) + 1) _ g11) (cwV 2 hts gX7_fillFault_X7_steepestFrom rfl rfl rfl hd_X7_steepestFrom ⟨Nat.le_of_ble_eq_true rfl, Nat.le_of_ble_eq_true rfl⟩) hK hZ hT hA hP hD hS hl.1 (va_recv hK hP (ci := 7) (q0 := 0) rfl rfl) rfl rfl (Nat.le_of_ble_eq_true rfl) ⟨Nat.le_of_ble_eq_true rfl, Nat.le_of_ble_eq_true rfl⟩ dX7_fillFault_71 (fun H locs hP hD hS => ?_)
            refine lv_aload_n hx hb dX7_fillFault_74 rfl (lv_at hl 1 rfl) ?_
            refine va_get (D := gD g) (ci := 7) (v := .int (qLimit qv)) (C := RX7) (T := TX7) (N := 15) hx hb hts hinX7 hown hK hP 0 rfl rfl 10 (by decide) k6 (fun _ h9 => h9) rfl dX7_fillFault_75 ?_
            refine lv_icmp_gt (tgt := 87) hx hb dX7_fillFault_78 (by decide) (fun hc => ?_) (fun hc => ?_)
            · have hf := jbT hf hc
              refine va_gets (C := "TerraceQuarry$Fault") (n := "UNSUPPORTED") (d := "LTerraceQuarry$Fault;") (v := .ref (gS g 0 5)) hx hb (hZ.1.1 5 (by decide)).1 hS hown k7 (fun _ h9 => h9) dX7_fillFault_87 ?_
              cases hf
              subst hQ
              exact rt_r (rv := some _) hx hb hrt (Or.inl ⟨_, rfl⟩) hlk hK hP hD hS (Nat.le_of_ble_eq_true rfl) (Nat.le_of_ble_eq_true rfl) dX7_fillFault_90
            · have hf := jbF hf hc
              refine va_gets (C := "TerraceQuarry$Fault") (n := "NONE") (d := "LTerraceQuarry$Fault;") (v := .ref (gS g 0 0)) hx hb (hZ.1.1 0 (by decide)).1 hS hown k0 (fun _ h9 => h9) dX7_fillFault_81 ?_
              refine lv_goto (tgt := 90) hx hb dX7_fillFault_84 (by decide) ?_
              cases hf
              subst hQ
              exact rt_r (rv := some _) hx hb hrt (Or.inl ⟨_, rfl⟩) hlk hK hP hD hS (Nat.le_of_ble_eq_true rfl) (Nat.le_of_ble_eq_true rfl) dX7_fillFault_90
          · have hf := jbF hf hc
            refine va_gets (C := "TerraceQuarry$Fault") (n := "STATE") (d := "LTerraceQuarry$Fault;") (v := .ref (gS g 0 4)) hx hb (hZ.1.1 4 (by decide)).1 hS hown k2 (fun _ h9 => h9) dX7_fillFault_57 ?_
            cases hf
            subst hQ
            exact rt_r (rv := some _) hx hb hrt (Or.inl ⟨_, rfl⟩) hlk hK hP hD hS (Nat.le_of_ble_eq_true rfl) (Nat.le_of_ble_eq_true rfl) dX7_fillFault_60
  · have hf := jbF hf (enN hc)
    refine va_gets (C := "TerraceQuarry$Fault") (n := "INDEX") (d := "LTerraceQuarry$Fault;") (v := .ref (gS g 0 1)) hx hb (hZ.1.1 1 (by decide)).1 hS hown k8 (fun _ h9 => h9) dX7_fillFault_11 ?_
    cases hf
    subst hQ
    exact rt_r (rv := some _) hx hb hrt (Or.inl ⟨_, rfl⟩) hlk hK hP hD hS (Nat.le_of_ble_eq_true rfl) (Nat.le_of_ble_eq_true rfl) dX7_fillFault_14
def f_X7_stepsWithin_L2 (qv : QV) (x1 : Int32) (x2 : Int32) : Option (Sum Int32 (Sum Int32 Int32)) :=
  if 30 ≤ x2 then
  (some (.inr (.inl x2)))
  else
  (if jIn x2 30 then
  (f_X7_steepestFrom qv x2 ((qHeights qv) x2.toNatClampNeg)).bind fun o2 =>
  if o2 ≤ x1 then
  (some (.inl (x2 + 1)))
  else
  (some (.inr (.inr 0)))
  else none)
def f_X7_stepsWithin (qv : QV) (a0 : Int32) : Option Int32 :=
  (jbL (fun s => f_X7_stepsWithin_L2 qv a0 s) 5000 0).bind fun o2 => jbM o2 (fun oo2 =>
  some 1) (fun v => some v)
def rm_X7_stepsWithin : Room := { frames := 2, cells := 0, slots := 0, locals := 50 }
theorem hd_X7_stepsWithin : yX7_stepsWithin.cls = RX7 ∧ yX7_stepsWithin.cls ≠ "java/lang/invoke/MethodHandle" ∧ yX7_stepsWithin.cls ≠ "java/lang/invoke/VarHandle" ∧ (parseMethodDescriptor yX7_stepsWithin.desc).map (fun d => d.parameters.length) = some 1 := by decide +kernel
set_option maxHeartbeats 4000000 in
set_option maxRecDepth 100000 in
theorem c_X7_stepsWithin (l : Launch) (g : GG) (hq : Nat → Nat) (qv : QV)  (a0 : Int32) (out : Int32) (hf : f_X7_stepsWithin qv a0 = some out) : MtI l yX7_stepsWithin wsX7_stepsWithin rm_X7_stepsWithin g (wQ g hq qv) [.ref (hq 0), .int a0] out (wQ g hq qv) 0 0 := by
  refine fun sz => mt_of (cc := cX7_stepsWithin) (maxL := 3) (ret := (some .boolean)) (own := RX7) (Qc := fun A => va_Qi (fun r (_ : Unit) => r = out) (fun _ t => PosM g A (wQ g hq qv) t) A) (by decide +kernel) rfl rfl (Nat.le_of_ble_eq_true rfl) ?_ sz
  intro p e s mi below meth c A ls hB hnm hrt hlk hP hD hl
  obtain ⟨hx, hb, hml, hown, hts, hK, hZ, hT, hA, -⟩ := hB
  have hS : va_S A s.heap s.heap [] := va_S.rf
  have hl : lv_has ls 3 [(0, .ref (hq 0)), (1, .int a0)] := hl
  have hinX7 : ∀ w ∈ wsX70, w ∈ wsX7_stepsWithin := by decide +kernel
  have k0 := hts (.fieldLink RX7 9 "TerraceQuarry$Quarry" "heights" "[I") (by decide +kernel)
  generalize hQ : MQ below _ _ _ _ _ _ = Q
  unfold f_X7_stepsWithin at hf
  have hL2 : ∀ (x1 : Int32) (n : Nat) (x2 : Int32) (H : Heap) (locs : List Loc) (ls : Array Slot) (o2 : Sum Int32 Int32), jbL (fun s => f_X7_stepsWithin_L2 qv x1 s) n x2 = some o2 → va_P (gD g) vwCl (wQ g hq qv) H → va_D A (wQ g hq qv) → va_S A s.heap H locs → lv_has ls 3 [(0, .ref (hq 0)), (1, .int x1), (2, .int x2)] → (∀ oo : Int32, o2 = .inl oo → ∀ (H : Heap) (locs : List Loc) (ls : Array Slot), va_P (gD g) vwCl (wQ g hq qv) H → va_D A (wQ g hq qv) → va_S A s.heap H locs → lv_has ls 3 [] → W p l e rm_X7_stepsWithin s mi [.ref (hq 0), .int a0].toArray below meth c H locs 0 0 Q (F0 mi 31 ls [])) → (∀ v : Int32, o2 = .inr v → v = out) → W p l e rm_X7_stepsWithin s mi [.ref (hq 0), .int a0].toArray below meth c H locs 0 0 Q (F0 mi 2 ls []) := by
    intro x1 n
    induction n with
    | zero => intro x2 H locs ls o2 hf; exact absurd hf (jbL_0 _ _ _)
    | succ n ih =>
      intro x2 H locs ls o2 hf hP hD hS hl hk hret
      obtain ⟨r, hf, hr⟩ := jbL_e hf
      have hf : f_X7_stepsWithin_L2 qv x1 x2 = some r := hf
      unfold f_X7_stepsWithin_L2 at hf
      refine lv_iload_n hx hb dX7_stepsWithin_2 rfl (lv_at hl 2 rfl) ?_
      refine lv_bipush (v := 30) hx hb dX7_stepsWithin_3 (by decide) ?_
      refine lv_icmp_ge (tgt := 31) hx hb dX7_stepsWithin_5 (by decide) (fun hc => ?_) (fun hc => ?_)
      · have hf := jbT hf hc
        cases hf
        obtain rfl := jbR_r hr
        exact hk _ rfl _ _ _ hP hD hS (lv_sub hl [] rfl)
      · have hf := jbF hf hc
        refine lv_aload_n hx hb dX7_stepsWithin_8 rfl (lv_at hl 0 rfl) ?_
        refine lv_iload_n hx hb dX7_stepsWithin_9 rfl (lv_at hl 2 rfl) ?_
        refine lv_aload_n hx hb dX7_stepsWithin_10 rfl (lv_at hl 0 rfl) ?_
        refine va_get (D := gD g) (ci := 7) (v := .ref (hq 1)) (C := RX7) (T := TX7) (N := 15) hx hb hts hinX7 hown hK hP 0 rfl rfl 0 (by decide) k0 (fun _ h9 => h9) rfl dX7_stepsWithin_11 ?_
        refine lv_iload_n hx hb dX7_stepsWithin_14 rfl (lv_at hl 2 rfl) ?_
        obtain ⟨h1, hf⟩ := jbA_e hf
        refine va_iald hx hb hK hP 1 0 rfl rfl h1 dX7_stepsWithin_15 ?_
        obtain ⟨o2, g3, hf⟩ := jbB_e hf
        refine cva_i (As := [.int x2, .int ((qHeights qv) x2.toNatClampNeg)]) (rest := []) ⟨hx, hb, hml, hown, hts⟩ (c_X7_steepestFrom l g hq qv x2 ((qHeights qv) x2.toNatClampNeg) _ g3) (cwV 2 hts gX7_stepsWithin_X7_steepestFrom rfl rfl rfl hd_X7_steepestFrom ⟨Nat.le_of_ble_eq_true rfl, Nat.le_of_ble_eq_true rfl⟩) hK hZ hT hA hP hD hS hl.1 (va_recv hK hP (ci := 7) (q0 := 0) rfl rfl) rfl rfl (Nat.le_of_ble_eq_true rfl) ⟨Nat.le_of_ble_eq_true rfl, Nat.le_of_ble_eq_true rfl⟩ dX7_stepsWithin_16 (fun H locs hP hD hS => ?_)
        refine lv_iload_n hx hb dX7_stepsWithin_19 rfl (lv_at hl 1 rfl) ?_
        refine lv_icmp_le (tgt := 25) hx hb dX7_stepsWithin_20 (by decide) (fun hc => ?_) (fun hc => ?_)
        · have hf := jbT hf hc
          refine lv_iinc (v := (x2 + 1)) (lv' := [(2, .int (x2 + 1)), (0, .ref (hq 0)), (1, .int x1)]) hx hb dX7_stepsWithin_25 hl (k := 2) rfl rfl (by decide) rfl (fun ls hl => ?_)
          refine lv_goto (tgt := 2) hx hb dX7_stepsWithin_28 (by decide) ?_
          cases hf
          exact ih (x2 + 1) _ _ _ _ hr hP hD hS (lv_sub hl [1, 2, 0] rfl) hk hret
        · have hf := jbF hf hc
          refine lv_iconst (v := 0) hx hb dX7_stepsWithin_23 (by decide) ?_
          cases hf
          obtain rfl := hret _ (jbR_r hr).symm
          subst hQ
          exact rt_i hx hb hrt hlk nar_0 hK hP hD hS (Nat.le_of_ble_eq_true rfl) (Nat.le_of_ble_eq_true rfl) dX7_stepsWithin_24
  refine lv_iconst (v := 0) hx hb dX7_stepsWithin_0 (by decide) ?_
  refine lv_istore_n (lv' := [(2, .int 0), (0, .ref (hq 0)), (1, .int a0)]) hx hb dX7_stepsWithin_1 rfl hl (by decide) rfl (fun ls hl => ?_)
  obtain ⟨o2, hg, hf⟩ := jbB_e hf
  refine hL2 a0 _ 0 _ _ _ _ hg hP hD hS (lv_sub hl [1, 2, 0] rfl) (fun oo2 ho H locs ls hP hD hS hl => ?_) (fun v hv => by subst hv; exact Option.some.inj hf)
  subst ho
  have hf := jbM_l hf
  refine lv_iconst (v := 1) hx hb dX7_stepsWithin_31 (by decide) ?_
  cases hf
  subst hQ
  exact rt_i hx hb hrt hlk nar_1 hK hP hD hS (Nat.le_of_ble_eq_true rfl) (Nat.le_of_ble_eq_true rfl) dX7_stepsWithin_32
def f_X7_limitFault (qv : QV) (a0 : Int32) : Option Nat :=
  if a0 < 1 then
  (some 2)
  else
  (if a0 ≤ 4 then
  ((f_X7_stepsWithin qv a0).bind fun o1 =>
  if o1 = 0 then
  (some 5)
  else
  (some 0))
  else
  (some 2))
def rm_X7_limitFault : Room := { frames := 3, cells := 0, slots := 0, locals := 72 }
theorem hd_X7_limitFault : yX7_limitFault.cls = RX7 ∧ yX7_limitFault.cls ≠ "java/lang/invoke/MethodHandle" ∧ yX7_limitFault.cls ≠ "java/lang/invoke/VarHandle" ∧ (parseMethodDescriptor yX7_limitFault.desc).map (fun d => d.parameters.length) = some 1 := by decide +kernel
set_option maxHeartbeats 4000000 in
set_option maxRecDepth 100000 in
theorem c_X7_limitFault (l : Launch) (g : GG) (hq : Nat → Nat) (qv : QV)  (a0 : Int32) (out : Nat) (hf : f_X7_limitFault qv a0 = some out) : MtR l yX7_limitFault wsX7_limitFault rm_X7_limitFault g (wQ g hq qv) [.ref (hq 0), .int a0] (some (gS g 0 out)) (wQ g hq qv) 0 0 := by
  refine fun sz => mt_of (cc := cX7_limitFault) (maxL := 2) (ret := (some (.object "TerraceQuarry$Fault"))) (own := RX7) (Qc := fun A => va_Qq (fun r (_ : Unit) => r = (some (gS g 0 out))) (fun _ t => PosM g A (wQ g hq qv) t) A) (by decide +kernel) rfl rfl (Nat.le_of_ble_eq_true rfl) ?_ sz
  intro p e s mi below meth c A ls hB hnm hrt hlk hP hD hl
  obtain ⟨hx, hb, hml, hown, hts, hK, hZ, hT, hA, -⟩ := hB
  have hS : va_S A s.heap s.heap [] := va_S.rf
  have hl : lv_has ls 2 [(0, .ref (hq 0)), (1, .int a0)] := hl
  have k0 := hts (.fieldLink RX7 72 "TerraceQuarry$Fault" "ARGUMENT" "LTerraceQuarry$Fault;") (by decide +kernel)
  have k1 := hts (.fieldLink RX7 96 "TerraceQuarry$Fault" "UNSUPPORTED" "LTerraceQuarry$Fault;") (by decide +kernel)
  have k2 := hts (.fieldLink RX7 66 "TerraceQuarry$Fault" "NONE" "LTerraceQuarry$Fault;") (by decide +kernel)
  generalize hQ : MQ below _ _ _ _ _ _ = Q
  unfold f_X7_limitFault at hf
  refine lv_iload_n hx hb dX7_limitFault_0 rfl (lv_at hl 1 rfl) ?_
  refine lv_iconst (v := 1) hx hb dX7_limitFault_1 (by decide) ?_
  refine lv_icmp_lt (tgt := 10) hx hb dX7_limitFault_2 (by decide) (fun hc => ?_) (fun hc => ?_)
  · have hf := jbT hf hc
    refine va_gets (C := "TerraceQuarry$Fault") (n := "ARGUMENT") (d := "LTerraceQuarry$Fault;") (v := .ref (gS g 0 2)) hx hb (hZ.1.1 2 (by decide)).1 hS hown k0 (fun _ h9 => h9) dX7_limitFault_10 ?_
    cases hf
    subst hQ
    exact rt_r (rv := some _) hx hb hrt (Or.inl ⟨_, rfl⟩) hlk hK hP hD hS (Nat.le_of_ble_eq_true rfl) (Nat.le_of_ble_eq_true rfl) dX7_limitFault_13
  · have hf := jbF hf hc
    refine lv_iload_n hx hb dX7_limitFault_5 rfl (lv_at hl 1 rfl) ?_
    refine lv_iconst (v := 4) hx hb dX7_limitFault_6 (by decide) ?_
    refine lv_icmp_le (tgt := 14) hx hb dX7_limitFault_7 (by decide) (fun hc => ?_) (fun hc => ?_)
    · have hf := jbT hf hc
      refine lv_aload_n hx hb dX7_limitFault_14 rfl (lv_at hl 0 rfl) ?_
      refine lv_iload_n hx hb dX7_limitFault_15 rfl (lv_at hl 1 rfl) ?_
      obtain ⟨o1, g2, hf⟩ := jbB_e hf
      refine cva_i (As := [.int a0]) (rest := []) ⟨hx, hb, hml, hown, hts⟩ (c_X7_stepsWithin l g hq qv a0 _ g2) (cwV 1 hts gX7_limitFault_X7_stepsWithin rfl rfl rfl hd_X7_stepsWithin ⟨Nat.le_of_ble_eq_true rfl, Nat.le_of_ble_eq_true rfl⟩) hK hZ hT hA hP hD hS hl.1 (va_recv hK hP (ci := 7) (q0 := 0) rfl rfl) rfl rfl (Nat.le_of_ble_eq_true rfl) ⟨Nat.le_of_ble_eq_true rfl, Nat.le_of_ble_eq_true rfl⟩ dX7_limitFault_16 (fun H locs hP hD hS => ?_)
      refine lv_if_eq (tgt := 28) hx hb dX7_limitFault_19 (by decide) (fun hc => ?_) (fun hc => ?_)
      · have hf := jbT hf hc
        refine va_gets (C := "TerraceQuarry$Fault") (n := "UNSUPPORTED") (d := "LTerraceQuarry$Fault;") (v := .ref (gS g 0 5)) hx hb (hZ.1.1 5 (by decide)).1 hS hown k1 (fun _ h9 => h9) dX7_limitFault_28 ?_
        cases hf
        subst hQ
        exact rt_r (rv := some _) hx hb hrt (Or.inl ⟨_, rfl⟩) hlk hK hP hD hS (Nat.le_of_ble_eq_true rfl) (Nat.le_of_ble_eq_true rfl) dX7_limitFault_31
      · have hf := jbF hf hc
        refine va_gets (C := "TerraceQuarry$Fault") (n := "NONE") (d := "LTerraceQuarry$Fault;") (v := .ref (gS g 0 0)) hx hb (hZ.1.1 0 (by decide)).1 hS hown k2 (fun _ h9 => h9) dX7_limitFault_22 ?_
        refine lv_goto (tgt := 31) hx hb dX7_limitFault_25 (by decide) ?_
        cases hf
        subst hQ
        exact rt_r (rv := some _) hx hb hrt (Or.inl ⟨_, rfl⟩) hlk hK hP hD hS (Nat.le_of_ble_eq_true rfl) (Nat.le_of_ble_eq_true rfl) dX7_limitFault_31
    · have hf := jbF hf hc
      refine va_gets (C := "TerraceQuarry$Fault") (n := "ARGUMENT") (d := "LTerraceQuarry$Fault;") (v := .ref (gS g 0 2)) hx hb (hZ.1.1 2 (by decide)).1 hS hown k0 (fun _ h9 => h9) dX7_limitFault_10 ?_
      cases hf
      subst hQ
      exact rt_r (rv := some _) hx hb hrt (Or.inl ⟨_, rfl⟩) hlk hK hP hD hS (Nat.le_of_ble_eq_true rfl) (Nat.le_of_ble_eq_true rfl) dX7_limitFault_13
def f_X7_hasWinchAt_L2 (qv : QV) (x1 : Int32) (x2 : Int32) : Option (Sum Int32 (Sum Int32 Int32)) :=
  if (qWinches qv) ≤ x2 then
  (some (.inr (.inl x2)))
  else
  (if jIn x2 3 then
  if ((qWinchCells qv) x2.toNatClampNeg) = x1 then
  (some (.inr (.inr 1)))
  else
  (some (.inl (x2 + 1)))
  else none)
def f_X7_hasWinchAt (qv : QV) (a0 : Int32) : Option Int32 :=
  (jbL (fun s => f_X7_hasWinchAt_L2 qv a0 s) 5000 0).bind fun o2 => jbM o2 (fun oo2 =>
  some 0) (fun v => some v)
def rm_X7_hasWinchAt : Room := { frames := 0, cells := 0, slots := 0, locals := 0 }
theorem hd_X7_hasWinchAt : yX7_hasWinchAt.cls = RX7 ∧ yX7_hasWinchAt.cls ≠ "java/lang/invoke/MethodHandle" ∧ yX7_hasWinchAt.cls ≠ "java/lang/invoke/VarHandle" ∧ (parseMethodDescriptor yX7_hasWinchAt.desc).map (fun d => d.parameters.length) = some 1 := by decide +kernel
set_option maxHeartbeats 4000000 in
set_option maxRecDepth 100000 in
theorem c_X7_hasWinchAt (l : Launch) (g : GG) (hq : Nat → Nat) (qv : QV)  (a0 : Int32) (out : Int32) (hf : f_X7_hasWinchAt qv a0 = some out) : MtI l yX7_hasWinchAt wsX7_hasWinchAt rm_X7_hasWinchAt g (wQ g hq qv) [.ref (hq 0), .int a0] out (wQ g hq qv) 0 0 := by
  refine fun sz => mt_of (cc := cX7_hasWinchAt) (maxL := 3) (ret := (some .boolean)) (own := RX7) (Qc := fun A => va_Qi (fun r (_ : Unit) => r = out) (fun _ t => PosM g A (wQ g hq qv) t) A) (by decide +kernel) rfl rfl (Nat.le_of_ble_eq_true rfl) ?_ sz
  intro p e s mi below meth c A ls hB hnm hrt hlk hP hD hl
  obtain ⟨hx, hb, hml, hown, hts, hK, hZ, hT, hA, -⟩ := hB
  have hS : va_S A s.heap s.heap [] := va_S.rf
  have hl : lv_has ls 3 [(0, .ref (hq 0)), (1, .int a0)] := hl
  have hinX7 : ∀ w ∈ wsX70, w ∈ wsX7_hasWinchAt := by decide +kernel
  have k0 := hts (.fieldLink RX7 53 "TerraceQuarry$Quarry" "winches" "I") (by decide +kernel)
  have k1 := hts (.fieldLink RX7 28 "TerraceQuarry$Quarry" "winchCells" "[I") (by decide +kernel)
  generalize hQ : MQ below _ _ _ _ _ _ = Q
  unfold f_X7_hasWinchAt at hf
  have hL2 : ∀ (x1 : Int32) (n : Nat) (x2 : Int32) (H : Heap) (locs : List Loc) (ls : Array Slot) (o2 : Sum Int32 Int32), jbL (fun s => f_X7_hasWinchAt_L2 qv x1 s) n x2 = some o2 → va_P (gD g) vwCl (wQ g hq qv) H → va_D A (wQ g hq qv) → va_S A s.heap H locs → lv_has ls 3 [(0, .ref (hq 0)), (1, .int x1), (2, .int x2)] → (∀ oo : Int32, o2 = .inl oo → ∀ (H : Heap) (locs : List Loc) (ls : Array Slot), va_P (gD g) vwCl (wQ g hq qv) H → va_D A (wQ g hq qv) → va_S A s.heap H locs → lv_has ls 3 [] → W p l e rm_X7_hasWinchAt s mi [.ref (hq 0), .int a0].toArray below meth c H locs 0 0 Q (F0 mi 28 ls [])) → (∀ v : Int32, o2 = .inr v → v = out) → W p l e rm_X7_hasWinchAt s mi [.ref (hq 0), .int a0].toArray below meth c H locs 0 0 Q (F0 mi 2 ls []) := by
    intro x1 n
    induction n with
    | zero => intro x2 H locs ls o2 hf; exact absurd hf (jbL_0 _ _ _)
    | succ n ih =>
      intro x2 H locs ls o2 hf hP hD hS hl hk hret
      obtain ⟨r, hf, hr⟩ := jbL_e hf
      have hf : f_X7_hasWinchAt_L2 qv x1 x2 = some r := hf
      unfold f_X7_hasWinchAt_L2 at hf
      refine lv_iload_n hx hb dX7_hasWinchAt_2 rfl (lv_at hl 2 rfl) ?_
      refine lv_aload_n hx hb dX7_hasWinchAt_3 rfl (lv_at hl 0 rfl) ?_
      refine va_get (D := gD g) (ci := 7) (v := .int (qWinches qv)) (C := RX7) (T := TX7) (N := 15) hx hb hts hinX7 hown hK hP 0 rfl rfl 9 (by decide) k0 (fun _ h9 => h9) rfl dX7_hasWinchAt_4 ?_
      refine lv_icmp_ge (tgt := 28) hx hb dX7_hasWinchAt_7 (by decide) (fun hc => ?_) (fun hc => ?_)
      · have hf := jbT hf hc
        cases hf
        obtain rfl := jbR_r hr
        exact hk _ rfl _ _ _ hP hD hS (lv_sub hl [] rfl)
      · have hf := jbF hf hc
        refine lv_aload_n hx hb dX7_hasWinchAt_10 rfl (lv_at hl 0 rfl) ?_
        refine va_get (D := gD g) (ci := 7) (v := .ref (hq 6)) (C := RX7) (T := TX7) (N := 15) hx hb hts hinX7 hown hK hP 0 rfl rfl 5 (by decide) k1 (fun _ h9 => h9) rfl dX7_hasWinchAt_11 ?_
        refine lv_iload_n hx hb dX7_hasWinchAt_14 rfl (lv_at hl 2 rfl) ?_
        obtain ⟨h1, hf⟩ := jbA_e hf
        refine va_iald hx hb hK hP 6 0 rfl rfl h1 dX7_hasWinchAt_15 ?_
        refine lv_iload_n hx hb dX7_hasWinchAt_16 rfl (lv_at hl 1 rfl) ?_
        refine lv_icmp_ne (tgt := 22) hx hb dX7_hasWinchAt_17 (by decide) (fun hc => ?_) (fun hc => ?_)
        · have hf := jbF hf hc
          refine lv_iinc (v := (x2 + 1)) (lv' := [(2, .int (x2 + 1)), (0, .ref (hq 0)), (1, .int x1)]) hx hb dX7_hasWinchAt_22 hl (k := 2) rfl rfl (by decide) rfl (fun ls hl => ?_)
          refine lv_goto (tgt := 2) hx hb dX7_hasWinchAt_25 (by decide) ?_
          cases hf
          exact ih (x2 + 1) _ _ _ _ hr hP hD hS (lv_sub hl [1, 2, 0] rfl) hk hret
        · have hf := jbT hf hc
          refine lv_iconst (v := 1) hx hb dX7_hasWinchAt_20 (by decide) ?_
          cases hf
          obtain rfl := hret _ (jbR_r hr).symm
          subst hQ
          exact rt_i hx hb hrt hlk nar_1 hK hP hD hS (Nat.le_of_ble_eq_true rfl) (Nat.le_of_ble_eq_true rfl) dX7_hasWinchAt_21
  refine lv_iconst (v := 0) hx hb dX7_hasWinchAt_0 (by decide) ?_
  refine lv_istore_n (lv' := [(2, .int 0), (0, .ref (hq 0)), (1, .int a0)]) hx hb dX7_hasWinchAt_1 rfl hl (by decide) rfl (fun ls hl => ?_)
  obtain ⟨o2, hg, hf⟩ := jbB_e hf
  refine hL2 a0 _ 0 _ _ _ _ hg hP hD hS (lv_sub hl [1, 2, 0] rfl) (fun oo2 ho H locs ls hP hD hS hl => ?_) (fun v hv => by subst hv; exact Option.some.inj hf)
  subst ho
  have hf := jbM_l hf
  refine lv_iconst (v := 0) hx hb dX7_hasWinchAt_28 (by decide) ?_
  cases hf
  subst hQ
  exact rt_i hx hb hrt hlk nar_0 hK hP hD hS (Nat.le_of_ble_eq_true rfl) (Nat.le_of_ble_eq_true rfl) dX7_hasWinchAt_29
def f_X7_winchFault_J68 (qv : QV) (y0 : Int32) : Option Nat :=
  if y0 = 0 then
  (some 0)
  else
  (some 4)
def f_X7_winchFault_J63 (qv : QV) : Option Nat :=
  f_X7_winchFault_J68 qv 1
def f_X7_winchFault (qv : QV) (a0 : Int32) (a1 : Int32) (a2 : Int32) (a3 : Int32) : Option Nat :=
  (f_X3_cellFault a0 a1).bind fun o1 =>
  if o1 < 6 then
  if o1 = 0 then
  (if a2 < 2 then
  (some 2)
  else
  (if 9 < a2 then
  (some 2)
  else
  (if a3 < 1 then
  (some 2)
  else
  (if a3 ≤ 6 then
  (if 3 ≤ (qWinches qv) then
  (f_X7_winchFault_J63 qv)
  else
  ((f_X3_cellAt a0 a1).bind fun o4 =>
  (f_X7_hasWinchAt qv o4).bind fun o6 =>
  if o6 = 0 then
  (f_X7_winchFault_J68 qv 0)
  else
  (f_X7_winchFault_J63 qv)))
  else
  (some 2)))))
  else
  (some 1)
  else none
def rm_X7_winchFault : Room := { frames := 2, cells := 0, slots := 0, locals := 42 }
theorem hd_X7_winchFault : yX7_winchFault.cls = RX7 ∧ yX7_winchFault.cls ≠ "java/lang/invoke/MethodHandle" ∧ yX7_winchFault.cls ≠ "java/lang/invoke/VarHandle" ∧ (parseMethodDescriptor yX7_winchFault.desc).map (fun d => d.parameters.length) = some 4 := by decide +kernel
set_option maxHeartbeats 4000000 in
set_option maxRecDepth 100000 in
theorem c_X7_winchFault (l : Launch) (g : GG) (hq : Nat → Nat) (qv : QV)  (a0 : Int32) (a1 : Int32) (a2 : Int32) (a3 : Int32) (out : Nat) (hf : f_X7_winchFault qv a0 a1 a2 a3 = some out) : MtR l yX7_winchFault wsX7_winchFault rm_X7_winchFault g (wQ g hq qv) [.ref (hq 0), .int a0, .int a1, .int a2, .int a3] (some (gS g 0 out)) (wQ g hq qv) 0 0 := by
  refine fun sz => mt_of (cc := cX7_winchFault) (maxL := 6) (ret := (some (.object "TerraceQuarry$Fault"))) (own := RX7) (Qc := fun A => va_Qq (fun r (_ : Unit) => r = (some (gS g 0 out))) (fun _ t => PosM g A (wQ g hq qv) t) A) (by decide +kernel) rfl rfl (Nat.le_of_ble_eq_true rfl) ?_ sz
  intro p e s mi below meth c A ls hB hnm hrt hlk hP hD hl
  obtain ⟨hx, hb, hml, hown, hts, hK, hZ, hT, hA, -⟩ := hB
  have hS : va_S A s.heap s.heap [] := va_S.rf
  have hl : lv_has ls 6 [(0, .ref (hq 0)), (1, .int a0), (2, .int a1), (3, .int a2), (4, .int a3)] := hl
  have hinX7 : ∀ w ∈ wsX70, w ∈ wsX7_winchFault := by decide +kernel
  have k0 := hts (.fieldLink RX7 66 "TerraceQuarry$Fault" "NONE" "LTerraceQuarry$Fault;") (by decide +kernel)
  have k1 := hts (.fieldLink RX7 72 "TerraceQuarry$Fault" "ARGUMENT" "LTerraceQuarry$Fault;") (by decide +kernel)
  have k2 := hts (.fieldLink RX7 53 "TerraceQuarry$Quarry" "winches" "I") (by decide +kernel)
  have k3 := hts (.fieldLink RX7 79 "TerraceQuarry$Fault" "INDEX" "LTerraceQuarry$Fault;") (by decide +kernel)
  have k4 := hts (.fieldLink RX7 90 "TerraceQuarry$Fault" "STATE" "LTerraceQuarry$Fault;") (by decide +kernel)
  generalize hQ : MQ below _ _ _ _ _ _ = Q
  unfold f_X7_winchFault at hf
  have hJ68 : ∀ (y0 : Int32) (H : Heap) (locs : List Loc) (ls : Array Slot), f_X7_winchFault_J68 qv y0 = some out → va_P (gD g) vwCl (wQ g hq qv) H → va_D A (wQ g hq qv) → va_S A s.heap H locs → lv_has ls 6 [] → W p l e rm_X7_winchFault s mi [.ref (hq 0), .int a0, .int a1, .int a2, .int a3].toArray below meth c H locs 0 0 Q (F0 mi 68 ls [.int y0]) := by
    intro y0 H locs ls hf hP hD hS hl
    unfold f_X7_winchFault_J68 at hf
    refine lv_istore (lv' := [(5, .int y0)]) hx hb dX7_winchFault_68 hl (by decide) rfl (fun ls hl => ?_)
    refine lv_iload hx hb dX7_winchFault_70 (lv_at hl 0 rfl) ?_
    refine lv_if_eq (tgt := 81) hx hb dX7_winchFault_72 (by decide) (fun hc => ?_) (fun hc => ?_)
    · have hf := jbT hf hc
      refine va_gets (C := "TerraceQuarry$Fault") (n := "NONE") (d := "LTerraceQuarry$Fault;") (v := .ref (gS g 0 0)) hx hb (hZ.1.1 0 (by decide)).1 hS hown k0 (fun _ h9 => h9) dX7_winchFault_81 ?_
      cases hf
      subst hQ
      exact rt_r (rv := some _) hx hb hrt (Or.inl ⟨_, rfl⟩) hlk hK hP hD hS (Nat.le_of_ble_eq_true rfl) (Nat.le_of_ble_eq_true rfl) dX7_winchFault_84
    · have hf := jbF hf hc
      refine va_gets (C := "TerraceQuarry$Fault") (n := "STATE") (d := "LTerraceQuarry$Fault;") (v := .ref (gS g 0 4)) hx hb (hZ.1.1 4 (by decide)).1 hS hown k4 (fun _ h9 => h9) dX7_winchFault_75 ?_
      refine lv_goto (tgt := 84) hx hb dX7_winchFault_78 (by decide) ?_
      cases hf
      subst hQ
      exact rt_r (rv := some _) hx hb hrt (Or.inl ⟨_, rfl⟩) hlk hK hP hD hS (Nat.le_of_ble_eq_true rfl) (Nat.le_of_ble_eq_true rfl) dX7_winchFault_84
  have hJ63 : ∀ (H : Heap) (locs : List Loc) (ls : Array Slot), f_X7_winchFault_J63 qv = some out → va_P (gD g) vwCl (wQ g hq qv) H → va_D A (wQ g hq qv) → va_S A s.heap H locs → lv_has ls 6 [] → W p l e rm_X7_winchFault s mi [.ref (hq 0), .int a0, .int a1, .int a2, .int a3].toArray below meth c H locs 0 0 Q (F0 mi 63 ls []) := by
    intro H locs ls hf hP hD hS hl
    unfold f_X7_winchFault_J63 at hf
    refine lv_iconst (v := 1) hx hb dX7_winchFault_63 (by decide) ?_
    refine lv_goto (tgt := 68) hx hb dX7_winchFault_64 (by decide) ?_
    exact hJ68 1 _ _ _ hf hP hD hS (lv_sub hl [] rfl)
  refine lv_iload_n hx hb dX7_winchFault_0 rfl (lv_at hl 1 rfl) ?_
  refine lv_iload_n hx hb dX7_winchFault_1 rfl (lv_at hl 2 rfl) ?_
  obtain ⟨o1, g2, hf⟩ := jbB_e hf
  refine csn_e (As := [.int a0, .int a1]) (rest := []) ⟨hx, hb, hml, hown, hts⟩ (c_X3_cellFault l g a0 a1 _ g2) (va_cwS 2 hts gX7_winchFault_X3_cellFault rfl rfl rfl hd_X3_cellFault ⟨Nat.le_of_ble_eq_true rfl, Nat.le_of_ble_eq_true rfl⟩) hK hZ hT hA hP hD hS hl.1 rfl rfl (Nat.le_of_ble_eq_true rfl) ⟨Nat.le_of_ble_eq_true rfl, Nat.le_of_ble_eq_true rfl⟩ dX7_winchFault_2 (fun H locs hP hD hS => ?_)
  refine va_gets (C := "TerraceQuarry$Fault") (n := "NONE") (d := "LTerraceQuarry$Fault;") (v := .ref (gS g 0 0)) hx hb (hZ.1.1 0 (by decide)).1 hS hown k0 (fun _ h9 => h9) dX7_winchFault_5 ?_
  obtain ⟨h3, hf⟩ := jbA_e hf
  refine lv_acmp_eq (rx := some (gS g 0 o1)) (ry := some (gS g 0 0)) (tgt := 15) hx hb dX7_winchFault_8 (by decide) (fun hc => ?_) (fun hc => ?_)
  · have hf := jbT hf (enF hZ h3 (by decide) hc)
    refine lv_iload_n hx hb dX7_winchFault_15 rfl (lv_at hl 3 rfl) ?_
    refine lv_iconst (v := 2) hx hb dX7_winchFault_16 (by decide) ?_
    refine lv_icmp_lt (tgt := 39) hx hb dX7_winchFault_17 (by decide) (fun hc => ?_) (fun hc => ?_)
    · have hf := jbT hf hc
      refine va_gets (C := "TerraceQuarry$Fault") (n := "ARGUMENT") (d := "LTerraceQuarry$Fault;") (v := .ref (gS g 0 2)) hx hb (hZ.1.1 2 (by decide)).1 hS hown k1 (fun _ h9 => h9) dX7_winchFault_39 ?_
      cases hf
      subst hQ
      exact rt_r (rv := some _) hx hb hrt (Or.inl ⟨_, rfl⟩) hlk hK hP hD hS (Nat.le_of_ble_eq_true rfl) (Nat.le_of_ble_eq_true rfl) dX7_winchFault_42
    · have hf := jbF hf hc
      refine lv_iload_n hx hb dX7_winchFault_20 rfl (lv_at hl 3 rfl) ?_
      refine lv_bipush (v := 9) hx hb dX7_winchFault_21 (by decide) ?_
      refine lv_icmp_gt (tgt := 39) hx hb dX7_winchFault_23 (by decide) (fun hc => ?_) (fun hc => ?_)
      · have hf := jbT hf hc
        refine va_gets (C := "TerraceQuarry$Fault") (n := "ARGUMENT") (d := "LTerraceQuarry$Fault;") (v := .ref (gS g 0 2)) hx hb (hZ.1.1 2 (by decide)).1 hS hown k1 (fun _ h9 => h9) dX7_winchFault_39 ?_
        cases hf
        subst hQ
        exact rt_r (rv := some _) hx hb hrt (Or.inl ⟨_, rfl⟩) hlk hK hP hD hS (Nat.le_of_ble_eq_true rfl) (Nat.le_of_ble_eq_true rfl) dX7_winchFault_42
      · have hf := jbF hf hc
        refine lv_iload hx hb dX7_winchFault_26 (lv_at hl 4 rfl) ?_
        refine lv_iconst (v := 1) hx hb dX7_winchFault_28 (by decide) ?_
        refine lv_icmp_lt (tgt := 39) hx hb dX7_winchFault_29 (by decide) (fun hc => ?_) (fun hc => ?_)
        · have hf := jbT hf hc
          refine va_gets (C := "TerraceQuarry$Fault") (n := "ARGUMENT") (d := "LTerraceQuarry$Fault;") (v := .ref (gS g 0 2)) hx hb (hZ.1.1 2 (by decide)).1 hS hown k1 (fun _ h9 => h9) dX7_winchFault_39 ?_
          cases hf
          subst hQ
          exact rt_r (rv := some _) hx hb hrt (Or.inl ⟨_, rfl⟩) hlk hK hP hD hS (Nat.le_of_ble_eq_true rfl) (Nat.le_of_ble_eq_true rfl) dX7_winchFault_42
        · have hf := jbF hf hc
          refine lv_iload hx hb dX7_winchFault_32 (lv_at hl 4 rfl) ?_
          refine lv_bipush (v := 6) hx hb dX7_winchFault_34 (by decide) ?_
          refine lv_icmp_le (tgt := 43) hx hb dX7_winchFault_36 (by decide) (fun hc => ?_) (fun hc => ?_)
          · have hf := jbT hf hc
            refine lv_aload_n hx hb dX7_winchFault_43 rfl (lv_at hl 0 rfl) ?_
            refine va_get (D := gD g) (ci := 7) (v := .int (qWinches qv)) (C := RX7) (T := TX7) (N := 15) hx hb hts hinX7 hown hK hP 0 rfl rfl 9 (by decide) k2 (fun _ h9 => h9) rfl dX7_winchFault_44 ?_
            refine lv_iconst (v := 3) hx hb dX7_winchFault_47 (by decide) ?_
            refine lv_icmp_ge (tgt := 63) hx hb dX7_winchFault_48 (by decide) (fun hc => ?_) (fun hc => ?_)
            · have hf := jbT hf hc
              exact hJ63 _ _ _ hf hP hD hS (lv_sub hl [] rfl)
            · have hf := jbF hf hc
              refine lv_aload_n hx hb dX7_winchFault_51 rfl (lv_at hl 0 rfl) ?_
              refine lv_iload_n hx hb dX7_winchFault_52 rfl (lv_at hl 1 rfl) ?_
              refine lv_iload_n hx hb dX7_winchFault_53 rfl (lv_at hl 2 rfl) ?_
              obtain ⟨o4, g5, hf⟩ := jbB_e hf
              refine csn_i (As := [.int a0, .int a1]) (rest := [.ref (hq 0)]) ⟨hx, hb, hml, hown, hts⟩ (c_X3_cellAt l g a0 a1 _ g5) (va_cwS 2 hts gX7_winchFault_X3_cellAt rfl rfl rfl hd_X3_cellAt ⟨Nat.le_of_ble_eq_true rfl, Nat.le_of_ble_eq_true rfl⟩) hK hZ hT hA hP hD hS hl.1 rfl rfl (Nat.le_of_ble_eq_true rfl) ⟨Nat.le_of_ble_eq_true rfl, Nat.le_of_ble_eq_true rfl⟩ dX7_winchFault_54 (fun H locs hP hD hS => ?_)
              obtain ⟨o6, g7, hf⟩ := jbB_e hf
              refine cva_i (As := [.int o4]) (rest := []) ⟨hx, hb, hml, hown, hts⟩ (c_X7_hasWinchAt l g hq qv o4 _ g7) (cwV 1 hts gX7_winchFault_X7_hasWinchAt rfl rfl rfl hd_X7_hasWinchAt ⟨Nat.le_of_ble_eq_true rfl, Nat.le_of_ble_eq_true rfl⟩) hK hZ hT hA hP hD hS hl.1 (va_recv hK hP (ci := 7) (q0 := 0) rfl rfl) rfl rfl (Nat.le_of_ble_eq_true rfl) ⟨Nat.le_of_ble_eq_true rfl, Nat.le_of_ble_eq_true rfl⟩ dX7_winchFault_57 (fun H locs hP hD hS => ?_)
              refine lv_if_eq (tgt := 67) hx hb dX7_winchFault_60 (by decide) (fun hc => ?_) (fun hc => ?_)
              · have hf := jbT hf hc
                refine lv_iconst (v := 0) hx hb dX7_winchFault_67 (by decide) ?_
                exact hJ68 0 _ _ _ hf hP hD hS (lv_sub hl [] rfl)
              · have hf := jbF hf hc
                exact hJ63 _ _ _ hf hP hD hS (lv_sub hl [] rfl)
          · have hf := jbF hf hc
            refine va_gets (C := "TerraceQuarry$Fault") (n := "ARGUMENT") (d := "LTerraceQuarry$Fault;") (v := .ref (gS g 0 2)) hx hb (hZ.1.1 2 (by decide)).1 hS hown k1 (fun _ h9 => h9) dX7_winchFault_39 ?_
            cases hf
            subst hQ
            exact rt_r (rv := some _) hx hb hrt (Or.inl ⟨_, rfl⟩) hlk hK hP hD hS (Nat.le_of_ble_eq_true rfl) (Nat.le_of_ble_eq_true rfl) dX7_winchFault_42
  · have hf := jbF hf (enN hc)
    refine va_gets (C := "TerraceQuarry$Fault") (n := "INDEX") (d := "LTerraceQuarry$Fault;") (v := .ref (gS g 0 1)) hx hb (hZ.1.1 1 (by decide)).1 hS hown k3 (fun _ h9 => h9) dX7_winchFault_11 ?_
    cases hf
    subst hQ
    exact rt_r (rv := some _) hx hb hrt (Or.inl ⟨_, rfl⟩) hlk hK hP hD hS (Nat.le_of_ble_eq_true rfl) (Nat.le_of_ble_eq_true rfl) dX7_winchFault_14
def f_X7_topFault (qv : QV) (a0 : Int32) (a1 : Int32) : Option Nat :=
  (f_X3_cellFault a0 a1).bind fun o1 =>
  if o1 < 6 then
  if o1 = 0 then
  ((f_X3_cellAt a0 a1).bind fun o4 =>
  if jIn o4 30 then
  if ((qBlockCounts qv) o4.toNatClampNeg) ≤ 0 then
  (some 3)
  else
  (some 0)
  else none)
  else
  (some 1)
  else none
def rm_X7_topFault : Room := { frames := 2, cells := 0, slots := 0, locals := 42 }
theorem hd_X7_topFault : yX7_topFault.cls = RX7 ∧ yX7_topFault.cls ≠ "java/lang/invoke/MethodHandle" ∧ yX7_topFault.cls ≠ "java/lang/invoke/VarHandle" ∧ (parseMethodDescriptor yX7_topFault.desc).map (fun d => d.parameters.length) = some 2 := by decide +kernel
set_option maxHeartbeats 4000000 in
set_option maxRecDepth 100000 in
theorem c_X7_topFault (l : Launch) (g : GG) (hq : Nat → Nat) (qv : QV)  (a0 : Int32) (a1 : Int32) (out : Nat) (hf : f_X7_topFault qv a0 a1 = some out) : MtR l yX7_topFault wsX7_topFault rm_X7_topFault g (wQ g hq qv) [.ref (hq 0), .int a0, .int a1] (some (gS g 0 out)) (wQ g hq qv) 0 0 := by
  refine fun sz => mt_of (cc := cX7_topFault) (maxL := 3) (ret := (some (.object "TerraceQuarry$Fault"))) (own := RX7) (Qc := fun A => va_Qq (fun r (_ : Unit) => r = (some (gS g 0 out))) (fun _ t => PosM g A (wQ g hq qv) t) A) (by decide +kernel) rfl rfl (Nat.le_of_ble_eq_true rfl) ?_ sz
  intro p e s mi below meth c A ls hB hnm hrt hlk hP hD hl
  obtain ⟨hx, hb, hml, hown, hts, hK, hZ, hT, hA, -⟩ := hB
  have hS : va_S A s.heap s.heap [] := va_S.rf
  have hl : lv_has ls 3 [(0, .ref (hq 0)), (1, .int a0), (2, .int a1)] := hl
  have hinX7 : ∀ w ∈ wsX70, w ∈ wsX7_topFault := by decide +kernel
  have k0 := hts (.fieldLink RX7 66 "TerraceQuarry$Fault" "NONE" "LTerraceQuarry$Fault;") (by decide +kernel)
  have k1 := hts (.fieldLink RX7 22 "TerraceQuarry$Quarry" "blockCounts" "[I") (by decide +kernel)
  have k2 := hts (.fieldLink RX7 105 "TerraceQuarry$Fault" "MISSING" "LTerraceQuarry$Fault;") (by decide +kernel)
  have k3 := hts (.fieldLink RX7 79 "TerraceQuarry$Fault" "INDEX" "LTerraceQuarry$Fault;") (by decide +kernel)
  generalize hQ : MQ below _ _ _ _ _ _ = Q
  unfold f_X7_topFault at hf
  refine lv_iload_n hx hb dX7_topFault_0 rfl (lv_at hl 1 rfl) ?_
  refine lv_iload_n hx hb dX7_topFault_1 rfl (lv_at hl 2 rfl) ?_
  obtain ⟨o1, g2, hf⟩ := jbB_e hf
  refine csn_e (As := [.int a0, .int a1]) (rest := []) ⟨hx, hb, hml, hown, hts⟩ (c_X3_cellFault l g a0 a1 _ g2) (va_cwS 2 hts gX7_topFault_X3_cellFault rfl rfl rfl hd_X3_cellFault ⟨Nat.le_of_ble_eq_true rfl, Nat.le_of_ble_eq_true rfl⟩) hK hZ hT hA hP hD hS hl.1 rfl rfl (Nat.le_of_ble_eq_true rfl) ⟨Nat.le_of_ble_eq_true rfl, Nat.le_of_ble_eq_true rfl⟩ dX7_topFault_2 (fun H locs hP hD hS => ?_)
  refine va_gets (C := "TerraceQuarry$Fault") (n := "NONE") (d := "LTerraceQuarry$Fault;") (v := .ref (gS g 0 0)) hx hb (hZ.1.1 0 (by decide)).1 hS hown k0 (fun _ h9 => h9) dX7_topFault_5 ?_
  obtain ⟨h3, hf⟩ := jbA_e hf
  refine lv_acmp_eq (rx := some (gS g 0 o1)) (ry := some (gS g 0 0)) (tgt := 15) hx hb dX7_topFault_8 (by decide) (fun hc => ?_) (fun hc => ?_)
  · have hf := jbT hf (enF hZ h3 (by decide) hc)
    refine lv_aload_n hx hb dX7_topFault_15 rfl (lv_at hl 0 rfl) ?_
    refine va_get (D := gD g) (ci := 7) (v := .ref (hq 4)) (C := RX7) (T := TX7) (N := 15) hx hb hts hinX7 hown hK hP 0 rfl rfl 3 (by decide) k1 (fun _ h9 => h9) rfl dX7_topFault_16 ?_
    refine lv_iload_n hx hb dX7_topFault_19 rfl (lv_at hl 1 rfl) ?_
    refine lv_iload_n hx hb dX7_topFault_20 rfl (lv_at hl 2 rfl) ?_
    obtain ⟨o4, g5, hf⟩ := jbB_e hf
    refine csn_i (As := [.int a0, .int a1]) (rest := [.ref (hq 4)]) ⟨hx, hb, hml, hown, hts⟩ (c_X3_cellAt l g a0 a1 _ g5) (va_cwS 2 hts gX7_topFault_X3_cellAt rfl rfl rfl hd_X3_cellAt ⟨Nat.le_of_ble_eq_true rfl, Nat.le_of_ble_eq_true rfl⟩) hK hZ hT hA hP hD hS hl.1 rfl rfl (Nat.le_of_ble_eq_true rfl) ⟨Nat.le_of_ble_eq_true rfl, Nat.le_of_ble_eq_true rfl⟩ dX7_topFault_21 (fun H locs hP hD hS => ?_)
    obtain ⟨h6, hf⟩ := jbA_e hf
    refine va_iald hx hb hK hP 4 0 rfl rfl h6 dX7_topFault_24 ?_
    refine lv_if_le (tgt := 34) hx hb dX7_topFault_25 (by decide) (fun hc => ?_) (fun hc => ?_)
    · have hf := jbT hf hc
      refine va_gets (C := "TerraceQuarry$Fault") (n := "MISSING") (d := "LTerraceQuarry$Fault;") (v := .ref (gS g 0 3)) hx hb (hZ.1.1 3 (by decide)).1 hS hown k2 (fun _ h9 => h9) dX7_topFault_34 ?_
      cases hf
      subst hQ
      exact rt_r (rv := some _) hx hb hrt (Or.inl ⟨_, rfl⟩) hlk hK hP hD hS (Nat.le_of_ble_eq_true rfl) (Nat.le_of_ble_eq_true rfl) dX7_topFault_37
    · have hf := jbF hf hc
      refine va_gets (C := "TerraceQuarry$Fault") (n := "NONE") (d := "LTerraceQuarry$Fault;") (v := .ref (gS g 0 0)) hx hb (hZ.1.1 0 (by decide)).1 hS hown k0 (fun _ h9 => h9) dX7_topFault_28 ?_
      refine lv_goto (tgt := 37) hx hb dX7_topFault_31 (by decide) ?_
      cases hf
      subst hQ
      exact rt_r (rv := some _) hx hb hrt (Or.inl ⟨_, rfl⟩) hlk hK hP hD hS (Nat.le_of_ble_eq_true rfl) (Nat.le_of_ble_eq_true rfl) dX7_topFault_37
  · have hf := jbF hf (enN hc)
    refine va_gets (C := "TerraceQuarry$Fault") (n := "INDEX") (d := "LTerraceQuarry$Fault;") (v := .ref (gS g 0 1)) hx hb (hZ.1.1 1 (by decide)).1 hS hown k3 (fun _ h9 => h9) dX7_topFault_11 ?_
    cases hf
    subst hQ
    exact rt_r (rv := some _) hx hb hrt (Or.inl ⟨_, rfl⟩) hlk hK hP hD hS (Nat.le_of_ble_eq_true rfl) (Nat.le_of_ble_eq_true rfl) dX7_topFault_14
def f_X7_hasWinch (qv : QV) (a0 : Int32) : Option Int32 :=
  if a0 < 0 then
  (some 0)
  else
  (if (qWinches qv) ≤ a0 then
  (some 0)
  else
  (some 1))
def rm_X7_hasWinch : Room := { frames := 0, cells := 0, slots := 0, locals := 0 }
theorem hd_X7_hasWinch : yX7_hasWinch.cls = RX7 ∧ yX7_hasWinch.cls ≠ "java/lang/invoke/MethodHandle" ∧ yX7_hasWinch.cls ≠ "java/lang/invoke/VarHandle" ∧ (parseMethodDescriptor yX7_hasWinch.desc).map (fun d => d.parameters.length) = some 1 := by decide +kernel
set_option maxHeartbeats 4000000 in
set_option maxRecDepth 100000 in
theorem c_X7_hasWinch (l : Launch) (g : GG) (hq : Nat → Nat) (qv : QV)  (a0 : Int32) (out : Int32) (hf : f_X7_hasWinch qv a0 = some out) : MtI l yX7_hasWinch wsX7_hasWinch rm_X7_hasWinch g (wQ g hq qv) [.ref (hq 0), .int a0] out (wQ g hq qv) 0 0 := by
  refine fun sz => mt_of (cc := cX7_hasWinch) (maxL := 2) (ret := (some .boolean)) (own := RX7) (Qc := fun A => va_Qi (fun r (_ : Unit) => r = out) (fun _ t => PosM g A (wQ g hq qv) t) A) (by decide +kernel) rfl rfl (Nat.le_of_ble_eq_true rfl) ?_ sz
  intro p e s mi below meth c A ls hB hnm hrt hlk hP hD hl
  obtain ⟨hx, hb, hml, hown, hts, hK, hZ, hT, hA, -⟩ := hB
  have hS : va_S A s.heap s.heap [] := va_S.rf
  have hl : lv_has ls 2 [(0, .ref (hq 0)), (1, .int a0)] := hl
  have hinX7 : ∀ w ∈ wsX70, w ∈ wsX7_hasWinch := by decide +kernel
  have k0 := hts (.fieldLink RX7 53 "TerraceQuarry$Quarry" "winches" "I") (by decide +kernel)
  generalize hQ : MQ below _ _ _ _ _ _ = Q
  unfold f_X7_hasWinch at hf
  refine lv_iload_n hx hb dX7_hasWinch_0 rfl (lv_at hl 1 rfl) ?_
  refine lv_if_lt (tgt := 16) hx hb dX7_hasWinch_1 (by decide) (fun hc => ?_) (fun hc => ?_)
  · have hf := jbT hf hc
    refine lv_iconst (v := 0) hx hb dX7_hasWinch_16 (by decide) ?_
    cases hf
    subst hQ
    exact rt_i hx hb hrt hlk nar_0 hK hP hD hS (Nat.le_of_ble_eq_true rfl) (Nat.le_of_ble_eq_true rfl) dX7_hasWinch_17
  · have hf := jbF hf hc
    refine lv_iload_n hx hb dX7_hasWinch_4 rfl (lv_at hl 1 rfl) ?_
    refine lv_aload_n hx hb dX7_hasWinch_5 rfl (lv_at hl 0 rfl) ?_
    refine va_get (D := gD g) (ci := 7) (v := .int (qWinches qv)) (C := RX7) (T := TX7) (N := 15) hx hb hts hinX7 hown hK hP 0 rfl rfl 9 (by decide) k0 (fun _ h9 => h9) rfl dX7_hasWinch_6 ?_
    refine lv_icmp_ge (tgt := 16) hx hb dX7_hasWinch_9 (by decide) (fun hc => ?_) (fun hc => ?_)
    · have hf := jbT hf hc
      refine lv_iconst (v := 0) hx hb dX7_hasWinch_16 (by decide) ?_
      cases hf
      subst hQ
      exact rt_i hx hb hrt hlk nar_0 hK hP hD hS (Nat.le_of_ble_eq_true rfl) (Nat.le_of_ble_eq_true rfl) dX7_hasWinch_17
    · have hf := jbF hf hc
      refine lv_iconst (v := 1) hx hb dX7_hasWinch_12 (by decide) ?_
      refine lv_goto (tgt := 17) hx hb dX7_hasWinch_13 (by decide) ?_
      cases hf
      subst hQ
      exact rt_i hx hb hrt hlk nar_1 hK hP hD hS (Nat.le_of_ble_eq_true rfl) (Nat.le_of_ble_eq_true rfl) dX7_hasWinch_17
def f_X7_topStoneAt (qv : QV) (a0 : Int32) : Option Int32 :=
  if jIn a0 30 then
  if jIn (((a0 * 3) + ((qBlockCounts qv) a0.toNatClampNeg)) - 1) 90 then
  some ((qBlocks qv) (((a0 * 3) + ((qBlockCounts qv) a0.toNatClampNeg)) - 1).toNatClampNeg)
  else none
  else none
def rm_X7_topStoneAt : Room := { frames := 0, cells := 0, slots := 0, locals := 0 }
theorem hd_X7_topStoneAt : yX7_topStoneAt.cls = RX7 ∧ yX7_topStoneAt.cls ≠ "java/lang/invoke/MethodHandle" ∧ yX7_topStoneAt.cls ≠ "java/lang/invoke/VarHandle" ∧ (parseMethodDescriptor yX7_topStoneAt.desc).map (fun d => d.parameters.length) = some 1 := by decide +kernel
set_option maxHeartbeats 4000000 in
set_option maxRecDepth 100000 in
theorem c_X7_topStoneAt (l : Launch) (g : GG) (hq : Nat → Nat) (qv : QV)  (a0 : Int32) (out : Int32) (hf : f_X7_topStoneAt qv a0 = some out) : MtI l yX7_topStoneAt wsX7_topStoneAt rm_X7_topStoneAt g (wQ g hq qv) [.ref (hq 0), .int a0] out (wQ g hq qv) 0 0 := by
  refine fun sz => mt_of (cc := cX7_topStoneAt) (maxL := 2) (ret := (some .int)) (own := RX7) (Qc := fun A => va_Qi (fun r (_ : Unit) => r = out) (fun _ t => PosM g A (wQ g hq qv) t) A) (by decide +kernel) rfl rfl (Nat.le_of_ble_eq_true rfl) ?_ sz
  intro p e s mi below meth c A ls hB hnm hrt hlk hP hD hl
  obtain ⟨hx, hb, hml, hown, hts, hK, hZ, hT, hA, -⟩ := hB
  have hS : va_S A s.heap s.heap [] := va_S.rf
  have hl : lv_has ls 2 [(0, .ref (hq 0)), (1, .int a0)] := hl
  have hinX7 : ∀ w ∈ wsX70, w ∈ wsX7_topStoneAt := by decide +kernel
  have k0 := hts (.fieldLink RX7 25 "TerraceQuarry$Quarry" "blocks" "[I") (by decide +kernel)
  have k1 := hts (.fieldLink RX7 22 "TerraceQuarry$Quarry" "blockCounts" "[I") (by decide +kernel)
  generalize hQ : MQ below _ _ _ _ _ _ = Q
  unfold f_X7_topStoneAt at hf
  refine lv_aload_n hx hb dX7_topStoneAt_0 rfl (lv_at hl 0 rfl) ?_
  refine va_get (D := gD g) (ci := 7) (v := .ref (hq 5)) (C := RX7) (T := TX7) (N := 15) hx hb hts hinX7 hown hK hP 0 rfl rfl 4 (by decide) k0 (fun _ h9 => h9) rfl dX7_topStoneAt_1 ?_
  refine lv_iload_n hx hb dX7_topStoneAt_4 rfl (lv_at hl 1 rfl) ?_
  refine lv_iconst (v := 3) hx hb dX7_topStoneAt_5 (by decide) ?_
  refine lv_imul hx hb dX7_topStoneAt_6 ?_
  refine lv_aload_n hx hb dX7_topStoneAt_7 rfl (lv_at hl 0 rfl) ?_
  refine va_get (D := gD g) (ci := 7) (v := .ref (hq 4)) (C := RX7) (T := TX7) (N := 15) hx hb hts hinX7 hown hK hP 0 rfl rfl 3 (by decide) k1 (fun _ h9 => h9) rfl dX7_topStoneAt_8 ?_
  refine lv_iload_n hx hb dX7_topStoneAt_11 rfl (lv_at hl 1 rfl) ?_
  obtain ⟨h1, hf⟩ := jbA_e hf
  refine va_iald hx hb hK hP 4 0 rfl rfl h1 dX7_topStoneAt_12 ?_
  refine lv_iadd hx hb dX7_topStoneAt_13 ?_
  refine lv_iconst (v := 1) hx hb dX7_topStoneAt_14 (by decide) ?_
  refine lv_isub hx hb dX7_topStoneAt_15 ?_
  obtain ⟨h2, hf⟩ := jbA_e hf
  refine va_iald hx hb hK hP 5 0 rfl rfl h2 dX7_topStoneAt_16 ?_
  cases hf
  subst hQ
  exact rt_i hx hb hrt hlk rfl hK hP hD hS (Nat.le_of_ble_eq_true rfl) (Nat.le_of_ble_eq_true rfl) dX7_topStoneAt_17
def f_X7_weightOf (a0 : Int32) : Option Int32 :=
  some (2 + a0)
def rm_X7_weightOf : Room := { frames := 0, cells := 0, slots := 0, locals := 0 }
theorem hd_X7_weightOf : yX7_weightOf.cls ≠ "java/lang/invoke/MethodHandle" ∧ yX7_weightOf.cls ≠ "java/lang/invoke/VarHandle" ∧ (parseMethodDescriptor yX7_weightOf.desc).map (fun d => d.parameters.length) = some 1 := by decide +kernel
set_option maxHeartbeats 4000000 in
set_option maxRecDepth 100000 in
theorem c_X7_weightOf (l : Launch) (g : GG)   (a0 : Int32) (out : Int32) (hf : f_X7_weightOf a0 = some out) : MtI l yX7_weightOf wsX7_weightOf rm_X7_weightOf g [] [.int a0] out [] 0 0 := by
  refine fun sz => mt_of (cc := cX7_weightOf) (maxL := 1) (ret := (some .int)) (own := RX7) (Qc := fun A => va_Qi (fun r (_ : Unit) => r = out) (fun _ t => PosM g A [] t) A) (by decide +kernel) rfl rfl (Nat.le_of_ble_eq_true rfl) ?_ sz
  intro p e s mi below meth c A ls hB hnm hrt hlk hP hD hl
  obtain ⟨hx, hb, hml, hown, hts, hK, hZ, hT, hA, -⟩ := hB
  have hS : va_S A s.heap s.heap [] := va_S.rf
  have hl : lv_has ls 1 [(0, .int a0)] := hl
  generalize hQ : MQ below _ _ _ _ _ _ = Q
  unfold f_X7_weightOf at hf
  refine lv_iconst (v := 2) hx hb dX7_weightOf_0 (by decide) ?_
  refine lv_iload_n hx hb dX7_weightOf_1 rfl (lv_at hl 0 rfl) ?_
  refine lv_iadd hx hb dX7_weightOf_2 ?_
  cases hf
  subst hQ
  exact rt_i hx hb hrt hlk rfl hK hP hD hS (Nat.le_of_ble_eq_true rfl) (Nat.le_of_ble_eq_true rfl) dX7_weightOf_3
def f_X7_liftFault_J102 (qv : QV) (x6 : Int32) (y0 : Int32) : Option Nat :=
  if x6 = 0 then
  (some 5)
  else
  (if y0 = 0 then
  (some 5)
  else
  (some 0))
def f_X7_liftFault_J77 (qv : QV) (x1 : Int32) (x5 : Int32) (y0 : Int32) : Option Nat :=
  (f_X7_topStoneAt qv x5).bind fun o13 =>
  (f_X7_weightOf o13).bind fun o15 =>
  if jIn x1 3 then
  if ((qCapacities qv) x1.toNatClampNeg) < o15 then
  (f_X7_liftFault_J102 qv y0 0)
  else
  (f_X7_liftFault_J102 qv y0 1)
  else none
def f_X7_liftFault (qv : QV) (a0 : Int32) (a1 : Int32) (a2 : Int32) : Option Nat :=
  (f_X7_hasWinch qv a0).bind fun o1 =>
  if o1 = 0 then
  (some 1)
  else
  ((f_X7_topFault qv a1 a2).bind fun o3 =>
  if o3 < 6 then
  if o3 = 0 then
  ((f_X3_cellAt a1 a2).bind fun o6 =>
  if jIn o6 30 then
  if ((qLedges qv) o6.toNatClampNeg) = 0 then
  (if jIn a0 3 then
  (f_X3_distance ((qWinchCells qv) a0.toNatClampNeg) o6).bind fun o10 =>
  if jIn a0 3 then
  if ((qReaches qv) a0.toNatClampNeg) < o10 then
  (f_X7_liftFault_J77 qv a0 o6 0)
  else
  (f_X7_liftFault_J77 qv a0 o6 1)
  else none
  else none)
  else
  (some 4)
  else none)
  else
  (some o3)
  else none)
def rm_X7_liftFault : Room := { frames := 3, cells := 0, slots := 0, locals := 64 }
theorem hd_X7_liftFault : yX7_liftFault.cls = RX7 ∧ yX7_liftFault.cls ≠ "java/lang/invoke/MethodHandle" ∧ yX7_liftFault.cls ≠ "java/lang/invoke/VarHandle" ∧ (parseMethodDescriptor yX7_liftFault.desc).map (fun d => d.parameters.length) = some 3 := by decide +kernel
set_option maxHeartbeats 4000000 in
set_option maxRecDepth 100000 in
theorem c_X7_liftFault (l : Launch) (g : GG) (hq : Nat → Nat) (qv : QV)  (a0 : Int32) (a1 : Int32) (a2 : Int32) (out : Nat) (hf : f_X7_liftFault qv a0 a1 a2 = some out) : MtR l yX7_liftFault wsX7_liftFault rm_X7_liftFault g (wQ g hq qv) [.ref (hq 0), .int a0, .int a1, .int a2] (some (gS g 0 out)) (wQ g hq qv) 0 0 := by
  refine fun sz => mt_of (cc := cX7_liftFault) (maxL := 8) (ret := (some (.object "TerraceQuarry$Fault"))) (own := RX7) (Qc := fun A => va_Qq (fun r (_ : Unit) => r = (some (gS g 0 out))) (fun _ t => PosM g A (wQ g hq qv) t) A) (by decide +kernel) rfl rfl (Nat.le_of_ble_eq_true rfl) ?_ sz
  intro p e s mi below meth c A ls hB hnm hrt hlk hP hD hl
  obtain ⟨hx, hb, hml, hown, hts, hK, hZ, hT, hA, -⟩ := hB
  have hS : va_S A s.heap s.heap [] := va_S.rf
  have hl : lv_has ls 8 [(0, .ref (hq 0)), (1, .int a0), (2, .int a1), (3, .int a2)] := hl
  have hinX7 : ∀ w ∈ wsX70, w ∈ wsX7_liftFault := by decide +kernel
  have k0 := hts (.fieldLink RX7 66 "TerraceQuarry$Fault" "NONE" "LTerraceQuarry$Fault;") (by decide +kernel)
  have k1 := hts (.fieldLink RX7 18 "TerraceQuarry$Quarry" "ledges" "[Z") (by decide +kernel)
  have k2 := hts (.fieldLink RX7 28 "TerraceQuarry$Quarry" "winchCells" "[I") (by decide +kernel)
  have k3 := hts (.fieldLink RX7 34 "TerraceQuarry$Quarry" "reaches" "[I") (by decide +kernel)
  have k4 := hts (.fieldLink RX7 90 "TerraceQuarry$Fault" "STATE" "LTerraceQuarry$Fault;") (by decide +kernel)
  have k5 := hts (.fieldLink RX7 79 "TerraceQuarry$Fault" "INDEX" "LTerraceQuarry$Fault;") (by decide +kernel)
  have k6 := hts (.fieldLink RX7 31 "TerraceQuarry$Quarry" "capacities" "[I") (by decide +kernel)
  have k7 := hts (.fieldLink RX7 96 "TerraceQuarry$Fault" "UNSUPPORTED" "LTerraceQuarry$Fault;") (by decide +kernel)
  generalize hQ : MQ below _ _ _ _ _ _ = Q
  unfold f_X7_liftFault at hf
  have hJ102 : ∀ (x6 : Int32) (y0 : Int32) (H : Heap) (locs : List Loc) (ls : Array Slot), f_X7_liftFault_J102 qv x6 y0 = some out → va_P (gD g) vwCl (wQ g hq qv) H → va_D A (wQ g hq qv) → va_S A s.heap H locs → lv_has ls 8 [(6, .int x6)] → W p l e rm_X7_liftFault s mi [.ref (hq 0), .int a0, .int a1, .int a2].toArray below meth c H locs 0 0 Q (F0 mi 102 ls [.int y0]) := by
    intro x6 y0 H locs ls hf hP hD hS hl
    unfold f_X7_liftFault_J102 at hf
    refine lv_istore (lv' := [(7, .int y0), (6, .int x6)]) hx hb dX7_liftFault_102 hl (by decide) rfl (fun ls hl => ?_)
    refine lv_iload hx hb dX7_liftFault_104 (lv_at hl 1 rfl) ?_
    refine lv_if_eq (tgt := 120) hx hb dX7_liftFault_106 (by decide) (fun hc => ?_) (fun hc => ?_)
    · have hf := jbT hf hc
      refine va_gets (C := "TerraceQuarry$Fault") (n := "UNSUPPORTED") (d := "LTerraceQuarry$Fault;") (v := .ref (gS g 0 5)) hx hb (hZ.1.1 5 (by decide)).1 hS hown k7 (fun _ h9 => h9) dX7_liftFault_120 ?_
      cases hf
      subst hQ
      exact rt_r (rv := some _) hx hb hrt (Or.inl ⟨_, rfl⟩) hlk hK hP hD hS (Nat.le_of_ble_eq_true rfl) (Nat.le_of_ble_eq_true rfl) dX7_liftFault_123
    · have hf := jbF hf hc
      refine lv_iload hx hb dX7_liftFault_109 (lv_at hl 0 rfl) ?_
      refine lv_if_eq (tgt := 120) hx hb dX7_liftFault_111 (by decide) (fun hc => ?_) (fun hc => ?_)
      · have hf := jbT hf hc
        refine va_gets (C := "TerraceQuarry$Fault") (n := "UNSUPPORTED") (d := "LTerraceQuarry$Fault;") (v := .ref (gS g 0 5)) hx hb (hZ.1.1 5 (by decide)).1 hS hown k7 (fun _ h9 => h9) dX7_liftFault_120 ?_
        cases hf
        subst hQ
        exact rt_r (rv := some _) hx hb hrt (Or.inl ⟨_, rfl⟩) hlk hK hP hD hS (Nat.le_of_ble_eq_true rfl) (Nat.le_of_ble_eq_true rfl) dX7_liftFault_123
      · have hf := jbF hf hc
        refine va_gets (C := "TerraceQuarry$Fault") (n := "NONE") (d := "LTerraceQuarry$Fault;") (v := .ref (gS g 0 0)) hx hb (hZ.1.1 0 (by decide)).1 hS hown k0 (fun _ h9 => h9) dX7_liftFault_114 ?_
        refine lv_goto (tgt := 123) hx hb dX7_liftFault_117 (by decide) ?_
        cases hf
        subst hQ
        exact rt_r (rv := some _) hx hb hrt (Or.inl ⟨_, rfl⟩) hlk hK hP hD hS (Nat.le_of_ble_eq_true rfl) (Nat.le_of_ble_eq_true rfl) dX7_liftFault_123
  have hJ77 : ∀ (x1 : Int32) (x5 : Int32) (y0 : Int32) (H : Heap) (locs : List Loc) (ls : Array Slot), f_X7_liftFault_J77 qv x1 x5 y0 = some out → va_P (gD g) vwCl (wQ g hq qv) H → va_D A (wQ g hq qv) → va_S A s.heap H locs → lv_has ls 8 [(0, .ref (hq 0)), (1, .int x1), (5, .int x5)] → W p l e rm_X7_liftFault s mi [.ref (hq 0), .int a0, .int a1, .int a2].toArray below meth c H locs 0 0 Q (F0 mi 77 ls [.int y0]) := by
    intro x1 x5 y0 H locs ls hf hP hD hS hl
    unfold f_X7_liftFault_J77 at hf
    refine lv_istore (lv' := [(6, .int y0), (0, .ref (hq 0)), (1, .int x1), (5, .int x5)]) hx hb dX7_liftFault_77 hl (by decide) rfl (fun ls hl => ?_)
    refine lv_aload_n hx hb dX7_liftFault_79 rfl (lv_at hl 1 rfl) ?_
    refine lv_iload hx hb dX7_liftFault_80 (lv_at hl 3 rfl) ?_
    obtain ⟨o13, g14, hf⟩ := jbB_e hf
    refine cva_i (As := [.int x5]) (rest := []) ⟨hx, hb, hml, hown, hts⟩ (c_X7_topStoneAt l g hq qv x5 _ g14) (cwV 1 hts gX7_liftFault_X7_topStoneAt rfl rfl rfl hd_X7_topStoneAt ⟨Nat.le_of_ble_eq_true rfl, Nat.le_of_ble_eq_true rfl⟩) hK hZ hT hA hP hD hS hl.1 (va_recv hK hP (ci := 7) (q0 := 0) rfl rfl) rfl rfl (Nat.le_of_ble_eq_true rfl) ⟨Nat.le_of_ble_eq_true rfl, Nat.le_of_ble_eq_true rfl⟩ dX7_liftFault_82 (fun H locs hP hD hS => ?_)
    obtain ⟨o15, g16, hf⟩ := jbB_e hf
    refine csn_i (As := [.int o13]) (rest := []) ⟨hx, hb, hml, hown, hts⟩ (c_X7_weightOf l g o13 _ g16) (va_cwS 1 hts gX7_liftFault_X7_weightOf rfl rfl rfl hd_X7_weightOf ⟨Nat.le_of_ble_eq_true rfl, Nat.le_of_ble_eq_true rfl⟩) hK hZ hT hA hP hD hS hl.1 rfl rfl (Nat.le_of_ble_eq_true rfl) ⟨Nat.le_of_ble_eq_true rfl, Nat.le_of_ble_eq_true rfl⟩ dX7_liftFault_85 (fun H locs hP hD hS => ?_)
    refine lv_aload_n hx hb dX7_liftFault_88 rfl (lv_at hl 1 rfl) ?_
    refine va_get (D := gD g) (ci := 7) (v := .ref (hq 7)) (C := RX7) (T := TX7) (N := 15) hx hb hts hinX7 hown hK hP 0 rfl rfl 6 (by decide) k6 (fun _ h9 => h9) rfl dX7_liftFault_89 ?_
    refine lv_iload_n hx hb dX7_liftFault_92 rfl (lv_at hl 2 rfl) ?_
    obtain ⟨h17, hf⟩ := jbA_e hf
    refine va_iald hx hb hK hP 7 0 rfl rfl h17 dX7_liftFault_93 ?_
    refine lv_icmp_gt (tgt := 101) hx hb dX7_liftFault_94 (by decide) (fun hc => ?_) (fun hc => ?_)
    · have hf := jbT hf hc
      refine lv_iconst (v := 0) hx hb dX7_liftFault_101 (by decide) ?_
      exact hJ102 y0 0 _ _ _ hf hP hD hS (lv_sub hl [0] rfl)
    · have hf := jbF hf hc
      refine lv_iconst (v := 1) hx hb dX7_liftFault_97 (by decide) ?_
      refine lv_goto (tgt := 102) hx hb dX7_liftFault_98 (by decide) ?_
      exact hJ102 y0 1 _ _ _ hf hP hD hS (lv_sub hl [0] rfl)
  refine lv_aload_n hx hb dX7_liftFault_0 rfl (lv_at hl 0 rfl) ?_
  refine lv_iload_n hx hb dX7_liftFault_1 rfl (lv_at hl 1 rfl) ?_
  obtain ⟨o1, g2, hf⟩ := jbB_e hf
  refine cva_i (As := [.int a0]) (rest := []) ⟨hx, hb, hml, hown, hts⟩ (c_X7_hasWinch l g hq qv a0 _ g2) (cwV 1 hts gX7_liftFault_X7_hasWinch rfl rfl rfl hd_X7_hasWinch ⟨Nat.le_of_ble_eq_true rfl, Nat.le_of_ble_eq_true rfl⟩) hK hZ hT hA hP hD hS hl.1 (va_recv hK hP (ci := 7) (q0 := 0) rfl rfl) rfl rfl (Nat.le_of_ble_eq_true rfl) ⟨Nat.le_of_ble_eq_true rfl, Nat.le_of_ble_eq_true rfl⟩ dX7_liftFault_2 (fun H locs hP hD hS => ?_)
  refine lv_if_ne (tgt := 12) hx hb dX7_liftFault_5 (by decide) (fun hc => ?_) (fun hc => ?_)
  · have hf := jbF hf hc
    refine lv_aload_n hx hb dX7_liftFault_12 rfl (lv_at hl 0 rfl) ?_
    refine lv_iload_n hx hb dX7_liftFault_13 rfl (lv_at hl 2 rfl) ?_
    refine lv_iload_n hx hb dX7_liftFault_14 rfl (lv_at hl 3 rfl) ?_
    obtain ⟨o3, g4, hf⟩ := jbB_e hf
    refine cva_e (As := [.int a1, .int a2]) (rest := []) ⟨hx, hb, hml, hown, hts⟩ (c_X7_topFault l g hq qv a1 a2 _ g4) (cwV 2 hts gX7_liftFault_X7_topFault rfl rfl rfl hd_X7_topFault ⟨Nat.le_of_ble_eq_true rfl, Nat.le_of_ble_eq_true rfl⟩) hK hZ hT hA hP hD hS hl.1 (va_recv hK hP (ci := 7) (q0 := 0) rfl rfl) rfl rfl (Nat.le_of_ble_eq_true rfl) ⟨Nat.le_of_ble_eq_true rfl, Nat.le_of_ble_eq_true rfl⟩ dX7_liftFault_15 (fun H locs hP hD hS => ?_)
    refine lv_astore (lv' := [(4, .ref (gS g 0 o3)), (0, .ref (hq 0)), (1, .int a0), (2, .int a1), (3, .int a2)]) hx hb dX7_liftFault_18 hl (by decide) rfl (fun ls hl => ?_)
    refine lv_aload hx hb dX7_liftFault_20 (lv_at hl 0 rfl) ?_
    refine va_gets (C := "TerraceQuarry$Fault") (n := "NONE") (d := "LTerraceQuarry$Fault;") (v := .ref (gS g 0 0)) hx hb (hZ.1.1 0 (by decide)).1 hS hown k0 (fun _ h9 => h9) dX7_liftFault_22 ?_
    obtain ⟨h5, hf⟩ := jbA_e hf
    refine lv_acmp_eq (rx := some (gS g 0 o3)) (ry := some (gS g 0 0)) (tgt := 31) hx hb dX7_liftFault_25 (by decide) (fun hc => ?_) (fun hc => ?_)
    · have hf := jbT hf (enF hZ h5 (by decide) hc)
      refine lv_iload_n hx hb dX7_liftFault_31 rfl (lv_at hl 3 rfl) ?_
      refine lv_iload_n hx hb dX7_liftFault_32 rfl (lv_at hl 4 rfl) ?_
      obtain ⟨o6, g7, hf⟩ := jbB_e hf
      refine csn_i (As := [.int a1, .int a2]) (rest := []) ⟨hx, hb, hml, hown, hts⟩ (c_X3_cellAt l g a1 a2 _ g7) (va_cwS 2 hts gX7_liftFault_X3_cellAt rfl rfl rfl hd_X3_cellAt ⟨Nat.le_of_ble_eq_true rfl, Nat.le_of_ble_eq_true rfl⟩) hK hZ hT hA hP hD hS hl.1 rfl rfl (Nat.le_of_ble_eq_true rfl) ⟨Nat.le_of_ble_eq_true rfl, Nat.le_of_ble_eq_true rfl⟩ dX7_liftFault_33 (fun H locs hP hD hS => ?_)
      refine lv_istore (lv' := [(5, .int o6), (4, .ref (gS g 0 o3)), (0, .ref (hq 0)), (1, .int a0), (2, .int a1), (3, .int a2)]) hx hb dX7_liftFault_36 hl (by decide) rfl (fun ls hl => ?_)
      refine lv_aload_n hx hb dX7_liftFault_38 rfl (lv_at hl 2 rfl) ?_
      refine va_get (D := gD g) (ci := 7) (v := .ref (hq 3)) (C := RX7) (T := TX7) (N := 15) hx hb hts hinX7 hown hK hP 0 rfl rfl 2 (by decide) k1 (fun _ h9 => h9) rfl dX7_liftFault_39 ?_
      refine lv_iload hx hb dX7_liftFault_42 (lv_at hl 0 rfl) ?_
      obtain ⟨h8, hf⟩ := jbA_e hf
      refine va_zald hx hb hK hP 3 1 rfl rfl h8 dX7_liftFault_44 ?_
      refine lv_if_eq (tgt := 52) hx hb dX7_liftFault_45 (by decide) (fun hc => ?_) (fun hc => ?_)
      · have hf := jbT hf hc
        refine lv_aload_n hx hb dX7_liftFault_52 rfl (lv_at hl 2 rfl) ?_
        refine va_get (D := gD g) (ci := 7) (v := .ref (hq 6)) (C := RX7) (T := TX7) (N := 15) hx hb hts hinX7 hown hK hP 0 rfl rfl 5 (by decide) k2 (fun _ h9 => h9) rfl dX7_liftFault_53 ?_
        refine lv_iload_n hx hb dX7_liftFault_56 rfl (lv_at hl 3 rfl) ?_
        obtain ⟨h9, hf⟩ := jbA_e hf
        refine va_iald hx hb hK hP 6 0 rfl rfl h9 dX7_liftFault_57 ?_
        refine lv_iload hx hb dX7_liftFault_58 (lv_at hl 0 rfl) ?_
        obtain ⟨o10, g11, hf⟩ := jbB_e hf
        refine csn_i (As := [.int ((qWinchCells qv) a0.toNatClampNeg), .int o6]) (rest := []) ⟨hx, hb, hml, hown, hts⟩ (c_X3_distance l g ((qWinchCells qv) a0.toNatClampNeg) o6 _ g11) (va_cwS 2 hts gX7_liftFault_X3_distance rfl rfl rfl hd_X3_distance ⟨Nat.le_of_ble_eq_true rfl, Nat.le_of_ble_eq_true rfl⟩) hK hZ hT hA hP hD hS hl.1 rfl rfl (Nat.le_of_ble_eq_true rfl) ⟨Nat.le_of_ble_eq_true rfl, Nat.le_of_ble_eq_true rfl⟩ dX7_liftFault_60 (fun H locs hP hD hS => ?_)
        refine lv_aload_n hx hb dX7_liftFault_63 rfl (lv_at hl 2 rfl) ?_
        refine va_get (D := gD g) (ci := 7) (v := .ref (hq 8)) (C := RX7) (T := TX7) (N := 15) hx hb hts hinX7 hown hK hP 0 rfl rfl 7 (by decide) k3 (fun _ h9 => h9) rfl dX7_liftFault_64 ?_
        refine lv_iload_n hx hb dX7_liftFault_67 rfl (lv_at hl 3 rfl) ?_
        obtain ⟨h12, hf⟩ := jbA_e hf
        refine va_iald hx hb hK hP 8 0 rfl rfl h12 dX7_liftFault_68 ?_
        refine lv_icmp_gt (tgt := 76) hx hb dX7_liftFault_69 (by decide) (fun hc => ?_) (fun hc => ?_)
        · have hf := jbT hf hc
          refine lv_iconst (v := 0) hx hb dX7_liftFault_76 (by decide) ?_
          exact hJ77 a0 o6 0 _ _ _ hf hP hD hS (lv_sub hl [2, 3, 0] rfl)
        · have hf := jbF hf hc
          refine lv_iconst (v := 1) hx hb dX7_liftFault_72 (by decide) ?_
          refine lv_goto (tgt := 77) hx hb dX7_liftFault_73 (by decide) ?_
          exact hJ77 a0 o6 1 _ _ _ hf hP hD hS (lv_sub hl [2, 3, 0] rfl)
      · have hf := jbF hf hc
        refine va_gets (C := "TerraceQuarry$Fault") (n := "STATE") (d := "LTerraceQuarry$Fault;") (v := .ref (gS g 0 4)) hx hb (hZ.1.1 4 (by decide)).1 hS hown k4 (fun _ h9 => h9) dX7_liftFault_48 ?_
        cases hf
        subst hQ
        exact rt_r (rv := some _) hx hb hrt (Or.inl ⟨_, rfl⟩) hlk hK hP hD hS (Nat.le_of_ble_eq_true rfl) (Nat.le_of_ble_eq_true rfl) dX7_liftFault_51
    · have hf := jbF hf (enN hc)
      refine lv_aload hx hb dX7_liftFault_28 (lv_at hl 0 rfl) ?_
      cases hf
      subst hQ
      exact rt_r (rv := some _) hx hb hrt (Or.inl ⟨_, rfl⟩) hlk hK hP hD hS (Nat.le_of_ble_eq_true rfl) (Nat.le_of_ble_eq_true rfl) dX7_liftFault_30
  · have hf := jbT hf hc
    refine va_gets (C := "TerraceQuarry$Fault") (n := "INDEX") (d := "LTerraceQuarry$Fault;") (v := .ref (gS g 0 1)) hx hb (hZ.1.1 1 (by decide)).1 hS hown k5 (fun _ h9 => h9) dX7_liftFault_8 ?_
    cases hf
    subst hQ
    exact rt_r (rv := some _) hx hb hrt (Or.inl ⟨_, rfl⟩) hlk hK hP hD hS (Nat.le_of_ble_eq_true rfl) (Nat.le_of_ble_eq_true rfl) dX7_liftFault_11
def f_X7_crushFault (qv : QV) (a0 : Int32) (a1 : Int32) : Option Nat :=
  (f_X7_isStone a0).bind fun o1 =>
  if o1 = 0 then
  (some 2)
  else
  (if a1 < 1 then
  (some 2)
  else
  (if a1 ≤ 20 then
  (if jIn a0 4 then
  if ((qYard qv) a0.toNatClampNeg) < a1 then
  (some 4)
  else
  (some 0)
  else none)
  else
  (some 2)))
def rm_X7_crushFault : Room := { frames := 1, cells := 0, slots := 0, locals := 20 }
theorem hd_X7_crushFault : yX7_crushFault.cls = RX7 ∧ yX7_crushFault.cls ≠ "java/lang/invoke/MethodHandle" ∧ yX7_crushFault.cls ≠ "java/lang/invoke/VarHandle" ∧ (parseMethodDescriptor yX7_crushFault.desc).map (fun d => d.parameters.length) = some 2 := by decide +kernel
set_option maxHeartbeats 4000000 in
set_option maxRecDepth 100000 in
theorem c_X7_crushFault (l : Launch) (g : GG) (hq : Nat → Nat) (qv : QV)  (a0 : Int32) (a1 : Int32) (out : Nat) (hf : f_X7_crushFault qv a0 a1 = some out) : MtR l yX7_crushFault wsX7_crushFault rm_X7_crushFault g (wQ g hq qv) [.ref (hq 0), .int a0, .int a1] (some (gS g 0 out)) (wQ g hq qv) 0 0 := by
  refine fun sz => mt_of (cc := cX7_crushFault) (maxL := 3) (ret := (some (.object "TerraceQuarry$Fault"))) (own := RX7) (Qc := fun A => va_Qq (fun r (_ : Unit) => r = (some (gS g 0 out))) (fun _ t => PosM g A (wQ g hq qv) t) A) (by decide +kernel) rfl rfl (Nat.le_of_ble_eq_true rfl) ?_ sz
  intro p e s mi below meth c A ls hB hnm hrt hlk hP hD hl
  obtain ⟨hx, hb, hml, hown, hts, hK, hZ, hT, hA, -⟩ := hB
  have hS : va_S A s.heap s.heap [] := va_S.rf
  have hl : lv_has ls 3 [(0, .ref (hq 0)), (1, .int a0), (2, .int a1)] := hl
  have hinX7 : ∀ w ∈ wsX70, w ∈ wsX7_crushFault := by decide +kernel
  have k0 := hts (.fieldLink RX7 72 "TerraceQuarry$Fault" "ARGUMENT" "LTerraceQuarry$Fault;") (by decide +kernel)
  have k1 := hts (.fieldLink RX7 37 "TerraceQuarry$Quarry" "yard" "[I") (by decide +kernel)
  have k2 := hts (.fieldLink RX7 90 "TerraceQuarry$Fault" "STATE" "LTerraceQuarry$Fault;") (by decide +kernel)
  have k3 := hts (.fieldLink RX7 66 "TerraceQuarry$Fault" "NONE" "LTerraceQuarry$Fault;") (by decide +kernel)
  generalize hQ : MQ below _ _ _ _ _ _ = Q
  unfold f_X7_crushFault at hf
  refine lv_iload_n hx hb dX7_crushFault_0 rfl (lv_at hl 1 rfl) ?_
  obtain ⟨o1, g2, hf⟩ := jbB_e hf
  refine csn_i (As := [.int a0]) (rest := []) ⟨hx, hb, hml, hown, hts⟩ (c_X7_isStone l g a0 _ g2) (va_cwS 1 hts gX7_crushFault_X7_isStone rfl rfl rfl hd_X7_isStone ⟨Nat.le_of_ble_eq_true rfl, Nat.le_of_ble_eq_true rfl⟩) hK hZ hT hA hP hD hS hl.1 rfl rfl (Nat.le_of_ble_eq_true rfl) ⟨Nat.le_of_ble_eq_true rfl, Nat.le_of_ble_eq_true rfl⟩ dX7_crushFault_1 (fun H locs hP hD hS => ?_)
  refine lv_if_eq (tgt := 18) hx hb dX7_crushFault_4 (by decide) (fun hc => ?_) (fun hc => ?_)
  · have hf := jbT hf hc
    refine va_gets (C := "TerraceQuarry$Fault") (n := "ARGUMENT") (d := "LTerraceQuarry$Fault;") (v := .ref (gS g 0 2)) hx hb (hZ.1.1 2 (by decide)).1 hS hown k0 (fun _ h9 => h9) dX7_crushFault_18 ?_
    cases hf
    subst hQ
    exact rt_r (rv := some _) hx hb hrt (Or.inl ⟨_, rfl⟩) hlk hK hP hD hS (Nat.le_of_ble_eq_true rfl) (Nat.le_of_ble_eq_true rfl) dX7_crushFault_21
  · have hf := jbF hf hc
    refine lv_iload_n hx hb dX7_crushFault_7 rfl (lv_at hl 2 rfl) ?_
    refine lv_iconst (v := 1) hx hb dX7_crushFault_8 (by decide) ?_
    refine lv_icmp_lt (tgt := 18) hx hb dX7_crushFault_9 (by decide) (fun hc => ?_) (fun hc => ?_)
    · have hf := jbT hf hc
      refine va_gets (C := "TerraceQuarry$Fault") (n := "ARGUMENT") (d := "LTerraceQuarry$Fault;") (v := .ref (gS g 0 2)) hx hb (hZ.1.1 2 (by decide)).1 hS hown k0 (fun _ h9 => h9) dX7_crushFault_18 ?_
      cases hf
      subst hQ
      exact rt_r (rv := some _) hx hb hrt (Or.inl ⟨_, rfl⟩) hlk hK hP hD hS (Nat.le_of_ble_eq_true rfl) (Nat.le_of_ble_eq_true rfl) dX7_crushFault_21
    · have hf := jbF hf hc
      refine lv_iload_n hx hb dX7_crushFault_12 rfl (lv_at hl 2 rfl) ?_
      refine lv_bipush (v := 20) hx hb dX7_crushFault_13 (by decide) ?_
      refine lv_icmp_le (tgt := 22) hx hb dX7_crushFault_15 (by decide) (fun hc => ?_) (fun hc => ?_)
      · have hf := jbT hf hc
        refine lv_aload_n hx hb dX7_crushFault_22 rfl (lv_at hl 0 rfl) ?_
        refine va_get (D := gD g) (ci := 7) (v := .ref (hq 9)) (C := RX7) (T := TX7) (N := 15) hx hb hts hinX7 hown hK hP 0 rfl rfl 8 (by decide) k1 (fun _ h9 => h9) rfl dX7_crushFault_23 ?_
        refine lv_iload_n hx hb dX7_crushFault_26 rfl (lv_at hl 1 rfl) ?_
        obtain ⟨h3, hf⟩ := jbA_e hf
        refine va_iald hx hb hK hP 9 0 rfl rfl h3 dX7_crushFault_27 ?_
        refine lv_iload_n hx hb dX7_crushFault_28 rfl (lv_at hl 2 rfl) ?_
        refine lv_icmp_lt (tgt := 38) hx hb dX7_crushFault_29 (by decide) (fun hc => ?_) (fun hc => ?_)
        · have hf := jbT hf hc
          refine va_gets (C := "TerraceQuarry$Fault") (n := "STATE") (d := "LTerraceQuarry$Fault;") (v := .ref (gS g 0 4)) hx hb (hZ.1.1 4 (by decide)).1 hS hown k2 (fun _ h9 => h9) dX7_crushFault_38 ?_
          cases hf
          subst hQ
          exact rt_r (rv := some _) hx hb hrt (Or.inl ⟨_, rfl⟩) hlk hK hP hD hS (Nat.le_of_ble_eq_true rfl) (Nat.le_of_ble_eq_true rfl) dX7_crushFault_41
        · have hf := jbF hf hc
          refine va_gets (C := "TerraceQuarry$Fault") (n := "NONE") (d := "LTerraceQuarry$Fault;") (v := .ref (gS g 0 0)) hx hb (hZ.1.1 0 (by decide)).1 hS hown k3 (fun _ h9 => h9) dX7_crushFault_32 ?_
          refine lv_goto (tgt := 41) hx hb dX7_crushFault_35 (by decide) ?_
          cases hf
          subst hQ
          exact rt_r (rv := some _) hx hb hrt (Or.inl ⟨_, rfl⟩) hlk hK hP hD hS (Nat.le_of_ble_eq_true rfl) (Nat.le_of_ble_eq_true rfl) dX7_crushFault_41
      · have hf := jbF hf hc
        refine va_gets (C := "TerraceQuarry$Fault") (n := "ARGUMENT") (d := "LTerraceQuarry$Fault;") (v := .ref (gS g 0 2)) hx hb (hZ.1.1 2 (by decide)).1 hS hown k0 (fun _ h9 => h9) dX7_crushFault_18 ?_
        cases hf
        subst hQ
        exact rt_r (rv := some _) hx hb hrt (Or.inl ⟨_, rfl⟩) hlk hK hP hD hS (Nat.le_of_ble_eq_true rfl) (Nat.le_of_ble_eq_true rfl) dX7_crushFault_21
def f_X7_lowerFault_J38 (qv : QV) (y0 : Int32) : Option Nat :=
  if y0 = 0 then
  (some 2)
  else
  (some 0)
def f_X7_lowerFault_J37 (qv : QV) : Option Nat :=
  f_X7_lowerFault_J38 qv 0
def f_X7_lowerFault (qv : QV) (a0 : Int32) (a1 : Int32) (a2 : Int32) : Option Nat :=
  (f_X3_cellFault a0 a1).bind fun o1 =>
  if o1 < 6 then
  if o1 = 0 then
  (if a2 < 0 then
  (f_X7_lowerFault_J37 qv)
  else
  ((f_X3_cellAt a0 a1).bind fun o4 =>
  if jIn o4 30 then
  if ((qHeights qv) o4.toNatClampNeg) < a2 then
  (f_X7_lowerFault_J37 qv)
  else
  (f_X7_lowerFault_J38 qv 1)
  else none))
  else
  (some 1)
  else none
def rm_X7_lowerFault : Room := { frames := 2, cells := 0, slots := 0, locals := 42 }
theorem hd_X7_lowerFault : yX7_lowerFault.cls = RX7 ∧ yX7_lowerFault.cls ≠ "java/lang/invoke/MethodHandle" ∧ yX7_lowerFault.cls ≠ "java/lang/invoke/VarHandle" ∧ (parseMethodDescriptor yX7_lowerFault.desc).map (fun d => d.parameters.length) = some 3 := by decide +kernel
set_option maxHeartbeats 4000000 in
set_option maxRecDepth 100000 in
theorem c_X7_lowerFault (l : Launch) (g : GG) (hq : Nat → Nat) (qv : QV)  (a0 : Int32) (a1 : Int32) (a2 : Int32) (out : Nat) (hf : f_X7_lowerFault qv a0 a1 a2 = some out) : MtR l yX7_lowerFault wsX7_lowerFault rm_X7_lowerFault g (wQ g hq qv) [.ref (hq 0), .int a0, .int a1, .int a2] (some (gS g 0 out)) (wQ g hq qv) 0 0 := by
  refine fun sz => mt_of (cc := cX7_lowerFault) (maxL := 5) (ret := (some (.object "TerraceQuarry$Fault"))) (own := RX7) (Qc := fun A => va_Qq (fun r (_ : Unit) => r = (some (gS g 0 out))) (fun _ t => PosM g A (wQ g hq qv) t) A) (by decide +kernel) rfl rfl (Nat.le_of_ble_eq_true rfl) ?_ sz
  intro p e s mi below meth c A ls hB hnm hrt hlk hP hD hl
  obtain ⟨hx, hb, hml, hown, hts, hK, hZ, hT, hA, -⟩ := hB
  have hS : va_S A s.heap s.heap [] := va_S.rf
  have hl : lv_has ls 5 [(0, .ref (hq 0)), (1, .int a0), (2, .int a1), (3, .int a2)] := hl
  have hinX7 : ∀ w ∈ wsX70, w ∈ wsX7_lowerFault := by decide +kernel
  have k0 := hts (.fieldLink RX7 66 "TerraceQuarry$Fault" "NONE" "LTerraceQuarry$Fault;") (by decide +kernel)
  have k1 := hts (.fieldLink RX7 9 "TerraceQuarry$Quarry" "heights" "[I") (by decide +kernel)
  have k2 := hts (.fieldLink RX7 79 "TerraceQuarry$Fault" "INDEX" "LTerraceQuarry$Fault;") (by decide +kernel)
  have k3 := hts (.fieldLink RX7 72 "TerraceQuarry$Fault" "ARGUMENT" "LTerraceQuarry$Fault;") (by decide +kernel)
  generalize hQ : MQ below _ _ _ _ _ _ = Q
  unfold f_X7_lowerFault at hf
  have hJ38 : ∀ (y0 : Int32) (H : Heap) (locs : List Loc) (ls : Array Slot), f_X7_lowerFault_J38 qv y0 = some out → va_P (gD g) vwCl (wQ g hq qv) H → va_D A (wQ g hq qv) → va_S A s.heap H locs → lv_has ls 5 [] → W p l e rm_X7_lowerFault s mi [.ref (hq 0), .int a0, .int a1, .int a2].toArray below meth c H locs 0 0 Q (F0 mi 38 ls [.int y0]) := by
    intro y0 H locs ls hf hP hD hS hl
    unfold f_X7_lowerFault_J38 at hf
    refine lv_istore (lv' := [(4, .int y0)]) hx hb dX7_lowerFault_38 hl (by decide) rfl (fun ls hl => ?_)
    refine lv_iload hx hb dX7_lowerFault_40 (lv_at hl 0 rfl) ?_
    refine lv_if_eq (tgt := 51) hx hb dX7_lowerFault_42 (by decide) (fun hc => ?_) (fun hc => ?_)
    · have hf := jbT hf hc
      refine va_gets (C := "TerraceQuarry$Fault") (n := "ARGUMENT") (d := "LTerraceQuarry$Fault;") (v := .ref (gS g 0 2)) hx hb (hZ.1.1 2 (by decide)).1 hS hown k3 (fun _ h9 => h9) dX7_lowerFault_51 ?_
      cases hf
      subst hQ
      exact rt_r (rv := some _) hx hb hrt (Or.inl ⟨_, rfl⟩) hlk hK hP hD hS (Nat.le_of_ble_eq_true rfl) (Nat.le_of_ble_eq_true rfl) dX7_lowerFault_54
    · have hf := jbF hf hc
      refine va_gets (C := "TerraceQuarry$Fault") (n := "NONE") (d := "LTerraceQuarry$Fault;") (v := .ref (gS g 0 0)) hx hb (hZ.1.1 0 (by decide)).1 hS hown k0 (fun _ h9 => h9) dX7_lowerFault_45 ?_
      refine lv_goto (tgt := 54) hx hb dX7_lowerFault_48 (by decide) ?_
      cases hf
      subst hQ
      exact rt_r (rv := some _) hx hb hrt (Or.inl ⟨_, rfl⟩) hlk hK hP hD hS (Nat.le_of_ble_eq_true rfl) (Nat.le_of_ble_eq_true rfl) dX7_lowerFault_54
  have hJ37 : ∀ (H : Heap) (locs : List Loc) (ls : Array Slot), f_X7_lowerFault_J37 qv = some out → va_P (gD g) vwCl (wQ g hq qv) H → va_D A (wQ g hq qv) → va_S A s.heap H locs → lv_has ls 5 [] → W p l e rm_X7_lowerFault s mi [.ref (hq 0), .int a0, .int a1, .int a2].toArray below meth c H locs 0 0 Q (F0 mi 37 ls []) := by
    intro H locs ls hf hP hD hS hl
    unfold f_X7_lowerFault_J37 at hf
    refine lv_iconst (v := 0) hx hb dX7_lowerFault_37 (by decide) ?_
    exact hJ38 0 _ _ _ hf hP hD hS (lv_sub hl [] rfl)
  refine lv_iload_n hx hb dX7_lowerFault_0 rfl (lv_at hl 1 rfl) ?_
  refine lv_iload_n hx hb dX7_lowerFault_1 rfl (lv_at hl 2 rfl) ?_
  obtain ⟨o1, g2, hf⟩ := jbB_e hf
  refine csn_e (As := [.int a0, .int a1]) (rest := []) ⟨hx, hb, hml, hown, hts⟩ (c_X3_cellFault l g a0 a1 _ g2) (va_cwS 2 hts gX7_lowerFault_X3_cellFault rfl rfl rfl hd_X3_cellFault ⟨Nat.le_of_ble_eq_true rfl, Nat.le_of_ble_eq_true rfl⟩) hK hZ hT hA hP hD hS hl.1 rfl rfl (Nat.le_of_ble_eq_true rfl) ⟨Nat.le_of_ble_eq_true rfl, Nat.le_of_ble_eq_true rfl⟩ dX7_lowerFault_2 (fun H locs hP hD hS => ?_)
  refine va_gets (C := "TerraceQuarry$Fault") (n := "NONE") (d := "LTerraceQuarry$Fault;") (v := .ref (gS g 0 0)) hx hb (hZ.1.1 0 (by decide)).1 hS hown k0 (fun _ h9 => h9) dX7_lowerFault_5 ?_
  obtain ⟨h3, hf⟩ := jbA_e hf
  refine lv_acmp_eq (rx := some (gS g 0 o1)) (ry := some (gS g 0 0)) (tgt := 15) hx hb dX7_lowerFault_8 (by decide) (fun hc => ?_) (fun hc => ?_)
  · have hf := jbT hf (enF hZ h3 (by decide) hc)
    refine lv_iload_n hx hb dX7_lowerFault_15 rfl (lv_at hl 3 rfl) ?_
    refine lv_if_lt (tgt := 37) hx hb dX7_lowerFault_16 (by decide) (fun hc => ?_) (fun hc => ?_)
    · have hf := jbT hf hc
      exact hJ37 _ _ _ hf hP hD hS (lv_sub hl [] rfl)
    · have hf := jbF hf hc
      refine lv_iload_n hx hb dX7_lowerFault_19 rfl (lv_at hl 3 rfl) ?_
      refine lv_aload_n hx hb dX7_lowerFault_20 rfl (lv_at hl 0 rfl) ?_
      refine va_get (D := gD g) (ci := 7) (v := .ref (hq 1)) (C := RX7) (T := TX7) (N := 15) hx hb hts hinX7 hown hK hP 0 rfl rfl 0 (by decide) k1 (fun _ h9 => h9) rfl dX7_lowerFault_21 ?_
      refine lv_iload_n hx hb dX7_lowerFault_24 rfl (lv_at hl 1 rfl) ?_
      refine lv_iload_n hx hb dX7_lowerFault_25 rfl (lv_at hl 2 rfl) ?_
      obtain ⟨o4, g5, hf⟩ := jbB_e hf
      refine csn_i (As := [.int a0, .int a1]) (rest := [.ref (hq 1), .int a2]) ⟨hx, hb, hml, hown, hts⟩ (c_X3_cellAt l g a0 a1 _ g5) (va_cwS 2 hts gX7_lowerFault_X3_cellAt rfl rfl rfl hd_X3_cellAt ⟨Nat.le_of_ble_eq_true rfl, Nat.le_of_ble_eq_true rfl⟩) hK hZ hT hA hP hD hS hl.1 rfl rfl (Nat.le_of_ble_eq_true rfl) ⟨Nat.le_of_ble_eq_true rfl, Nat.le_of_ble_eq_true rfl⟩ dX7_lowerFault_26 (fun H locs hP hD hS => ?_)
      obtain ⟨h6, hf⟩ := jbA_e hf
      refine va_iald hx hb hK hP 1 0 rfl rfl h6 dX7_lowerFault_29 ?_
      refine lv_icmp_gt (tgt := 37) hx hb dX7_lowerFault_30 (by decide) (fun hc => ?_) (fun hc => ?_)
      · have hf := jbT hf hc
        exact hJ37 _ _ _ hf hP hD hS (lv_sub hl [] rfl)
      · have hf := jbF hf hc
        refine lv_iconst (v := 1) hx hb dX7_lowerFault_33 (by decide) ?_
        refine lv_goto (tgt := 38) hx hb dX7_lowerFault_34 (by decide) ?_
        exact hJ38 1 _ _ _ hf hP hD hS (lv_sub hl [] rfl)
  · have hf := jbF hf (enN hc)
    refine va_gets (C := "TerraceQuarry$Fault") (n := "INDEX") (d := "LTerraceQuarry$Fault;") (v := .ref (gS g 0 1)) hx hb (hZ.1.1 1 (by decide)).1 hS hown k2 (fun _ h9 => h9) dX7_lowerFault_11 ?_
    cases hf
    subst hQ
    exact rt_r (rv := some _) hx hb hrt (Or.inl ⟨_, rfl⟩) hlk hK hP hD hS (Nat.le_of_ble_eq_true rfl) (Nat.le_of_ble_eq_true rfl) dX7_lowerFault_14
def f_X7_changeStone (qv : QV) (a0 : Int32) (a1 : Int32) (a2 : Int32) : Option (Int32 × QV) :=
  (f_X3_cellAt a0 a1).bind fun o1 =>
  if jIn o1 30 then
  jbN ((qStones qv) o1.toNatClampNeg) fun z4 =>
  if jIn o1 30 then
  jbN (qSStones (upd (qStones qv) o1.toNatClampNeg a2) qv) fun w6 =>
  some (z4, w6)
  else none
  else none
def rm_X7_changeStone : Room := { frames := 1, cells := 0, slots := 0, locals := 21 }
theorem hd_X7_changeStone : yX7_changeStone.cls = RX7 ∧ yX7_changeStone.cls ≠ "java/lang/invoke/MethodHandle" ∧ yX7_changeStone.cls ≠ "java/lang/invoke/VarHandle" ∧ (parseMethodDescriptor yX7_changeStone.desc).map (fun d => d.parameters.length) = some 3 := by decide +kernel
set_option maxHeartbeats 4000000 in
set_option maxRecDepth 100000 in
theorem c_X7_changeStone (l : Launch) (g : GG) (hq : Nat → Nat) (qv : QV)  (a0 : Int32) (a1 : Int32) (a2 : Int32) (out : Int32 × QV) (hf : f_X7_changeStone qv a0 a1 a2 = some out) : MtI l yX7_changeStone wsX7_changeStone rm_X7_changeStone g (wQ g hq qv) [.ref (hq 0), .int a0, .int a1, .int a2] (out.1) (wQ g hq (out.2)) 0 0 := by
  refine fun sz => mt_of (cc := cX7_changeStone) (maxL := 6) (ret := (some .int)) (own := RX7) (Qc := fun A => va_Qi (fun r (_ : Unit) => r = (out.1)) (fun _ t => PosM g A (wQ g hq (out.2)) t) A) (by decide +kernel) rfl rfl (Nat.le_of_ble_eq_true rfl) ?_ sz
  intro p e s mi below meth c A ls hB hnm hrt hlk hP hD hl
  obtain ⟨hx, hb, hml, hown, hts, hK, hZ, hT, hA, -⟩ := hB
  have hS : va_S A s.heap s.heap [] := va_S.rf
  have hl : lv_has ls 6 [(0, .ref (hq 0)), (1, .int a0), (2, .int a1), (3, .int a2)] := hl
  have hinX7 : ∀ w ∈ wsX70, w ∈ wsX7_changeStone := by decide +kernel
  have k0 := hts (.fieldLink RX7 15 "TerraceQuarry$Quarry" "stones" "[I") (by decide +kernel)
  generalize hQ : MQ below _ _ _ _ _ _ = Q
  unfold f_X7_changeStone at hf
  refine lv_iload_n hx hb dX7_changeStone_0 rfl (lv_at hl 1 rfl) ?_
  refine lv_iload_n hx hb dX7_changeStone_1 rfl (lv_at hl 2 rfl) ?_
  obtain ⟨o1, g2, hf⟩ := jbB_e hf
  refine csn_i (As := [.int a0, .int a1]) (rest := []) ⟨hx, hb, hml, hown, hts⟩ (c_X3_cellAt l g a0 a1 _ g2) (va_cwS 2 hts gX7_changeStone_X3_cellAt rfl rfl rfl hd_X3_cellAt ⟨Nat.le_of_ble_eq_true rfl, Nat.le_of_ble_eq_true rfl⟩) hK hZ hT hA hP hD hS hl.1 rfl rfl (Nat.le_of_ble_eq_true rfl) ⟨Nat.le_of_ble_eq_true rfl, Nat.le_of_ble_eq_true rfl⟩ dX7_changeStone_2 (fun H locs hP hD hS => ?_)
  refine lv_istore (lv' := [(4, .int o1), (0, .ref (hq 0)), (1, .int a0), (2, .int a1), (3, .int a2)]) hx hb dX7_changeStone_5 hl (by decide) rfl (fun ls hl => ?_)
  refine lv_aload_n hx hb dX7_changeStone_7 rfl (lv_at hl 1 rfl) ?_
  refine va_get (D := gD g) (ci := 7) (v := .ref (hq 2)) (C := RX7) (T := TX7) (N := 15) hx hb hts hinX7 hown hK hP 0 rfl rfl 1 (by decide) k0 (fun _ h9 => h9) rfl dX7_changeStone_8 ?_
  refine lv_iload hx hb dX7_changeStone_11 (lv_at hl 0 rfl) ?_
  obtain ⟨h3, hf⟩ := jbA_e hf
  refine va_iald hx hb hK hP 2 0 rfl rfl h3 dX7_changeStone_13 ?_
  refine lv_topi (fun z4 ez4 => ?_)
  have hf := jbN_e hf ez4
  refine lv_istore (lv' := [(5, .int z4), (4, .int o1), (0, .ref (hq 0)), (1, .int a0), (2, .int a1), (3, .int a2)]) hx hb dX7_changeStone_14 hl (by decide) rfl (fun ls hl => ?_)
  refine lv_aload_n hx hb dX7_changeStone_16 rfl (lv_at hl 2 rfl) ?_
  refine va_get (D := gD g) (ci := 7) (v := .ref (hq 2)) (C := RX7) (T := TX7) (N := 15) hx hb hts hinX7 hown hK hP 0 rfl rfl 1 (by decide) k0 (fun _ h9 => h9) rfl dX7_changeStone_17 ?_
  refine lv_iload hx hb dX7_changeStone_20 (lv_at hl 1 rfl) ?_
  refine lv_iload_n hx hb dX7_changeStone_22 rfl (lv_at hl 5 rfl) ?_
  obtain ⟨h5, hf⟩ := jbA_e hf
  refine va_iast hx hb hK hP hD hS 2 0 rfl rfl h5 dX7_changeStone_23 (fun H locs hP hD hS => ?_)
  obtain ⟨w6, ew6⟩ : ∃ y, y = (qSStones (upd (qStones qv) o1.toNatClampNeg a2) qv) := ⟨_, rfl⟩
  have hf := jbN_e hf ew6
  have hP : va_P (gD g) vwCl (wQ g hq w6) H := by rw [ew6]; exact hP
  have hD : va_D A (wQ g hq w6) := by rw [ew6]; exact hD
  refine lv_iload hx hb dX7_changeStone_24 (lv_at hl 0 rfl) ?_
  cases hf
  subst hQ
  exact rt_i hx hb hrt hlk rfl hK hP hD hS (Nat.le_of_ble_eq_true rfl) (Nat.le_of_ble_eq_true rfl) dX7_changeStone_26
def f_X7_cutCell (qv : QV) (a0 : Int32) (a1 : Int32) : Option (Int32 × QV) :=
  (f_X3_cellAt a0 a1).bind fun o1 =>
  if jIn o1 30 then
  if jIn o1 30 then
  if jIn ((o1 * 3) + ((qBlockCounts qv) o1.toNatClampNeg)) 90 then
  jbN (qSBlocks (upd (qBlocks qv) ((o1 * 3) + ((qBlockCounts qv) o1.toNatClampNeg)).toNatClampNeg ((qStones qv) o1.toNatClampNeg)) qv) fun w6 =>
  if jIn o1 30 then
  if jIn o1 30 then
  jbN (qSBlockCounts (upd (qBlockCounts w6) o1.toNatClampNeg (((qBlockCounts w6) o1.toNatClampNeg) + 1)) w6) fun w9 =>
  jbN (qSCuts ((qCuts w9) + 1) w9) fun w10 =>
  if jIn o1 30 then
  if jIn o1 30 then
  jbN (qSHeights (upd (qHeights w10) o1.toNatClampNeg (((qHeights w10) o1.toNatClampNeg) - 1)) w10) fun w13 =>
  if jIn o1 30 then
  some (((qHeights w13) o1.toNatClampNeg), w13)
  else none
  else none
  else none
  else none
  else none
  else none
  else none
  else none
def rm_X7_cutCell : Room := { frames := 1, cells := 0, slots := 0, locals := 21 }
theorem hd_X7_cutCell : yX7_cutCell.cls = RX7 ∧ yX7_cutCell.cls ≠ "java/lang/invoke/MethodHandle" ∧ yX7_cutCell.cls ≠ "java/lang/invoke/VarHandle" ∧ (parseMethodDescriptor yX7_cutCell.desc).map (fun d => d.parameters.length) = some 2 := by decide +kernel
set_option maxHeartbeats 4000000 in
set_option maxRecDepth 100000 in
theorem c_X7_cutCell (l : Launch) (g : GG) (hq : Nat → Nat) (qv : QV)  (a0 : Int32) (a1 : Int32) (out : Int32 × QV) (hf : f_X7_cutCell qv a0 a1 = some out) : MtI l yX7_cutCell wsX7_cutCell rm_X7_cutCell g (wQ g hq qv) [.ref (hq 0), .int a0, .int a1] (out.1) (wQ g hq (out.2)) 0 0 := by
  refine fun sz => mt_of (cc := cX7_cutCell) (maxL := 4) (ret := (some .int)) (own := RX7) (Qc := fun A => va_Qi (fun r (_ : Unit) => r = (out.1)) (fun _ t => PosM g A (wQ g hq (out.2)) t) A) (by decide +kernel) rfl rfl (Nat.le_of_ble_eq_true rfl) ?_ sz
  intro p e s mi below meth c A ls hB hnm hrt hlk hP hD hl
  obtain ⟨hx, hb, hml, hown, hts, hK, hZ, hT, hA, -⟩ := hB
  have hS : va_S A s.heap s.heap [] := va_S.rf
  have hl : lv_has ls 4 [(0, .ref (hq 0)), (1, .int a0), (2, .int a1)] := hl
  have hinX7 : ∀ w ∈ wsX70, w ∈ wsX7_cutCell := by decide +kernel
  have k0 := hts (.fieldLink RX7 25 "TerraceQuarry$Quarry" "blocks" "[I") (by decide +kernel)
  have k1 := hts (.fieldLink RX7 22 "TerraceQuarry$Quarry" "blockCounts" "[I") (by decide +kernel)
  have k2 := hts (.fieldLink RX7 15 "TerraceQuarry$Quarry" "stones" "[I") (by decide +kernel)
  have k3 := hts (.fieldLink RX7 56 "TerraceQuarry$Quarry" "cuts" "I") (by decide +kernel)
  have k4 := hts (.fieldLink RX7 9 "TerraceQuarry$Quarry" "heights" "[I") (by decide +kernel)
  generalize hQ : MQ below _ _ _ _ _ _ = Q
  unfold f_X7_cutCell at hf
  refine lv_iload_n hx hb dX7_cutCell_0 rfl (lv_at hl 1 rfl) ?_
  refine lv_iload_n hx hb dX7_cutCell_1 rfl (lv_at hl 2 rfl) ?_
  obtain ⟨o1, g2, hf⟩ := jbB_e hf
  refine csn_i (As := [.int a0, .int a1]) (rest := []) ⟨hx, hb, hml, hown, hts⟩ (c_X3_cellAt l g a0 a1 _ g2) (va_cwS 2 hts gX7_cutCell_X3_cellAt rfl rfl rfl hd_X3_cellAt ⟨Nat.le_of_ble_eq_true rfl, Nat.le_of_ble_eq_true rfl⟩) hK hZ hT hA hP hD hS hl.1 rfl rfl (Nat.le_of_ble_eq_true rfl) ⟨Nat.le_of_ble_eq_true rfl, Nat.le_of_ble_eq_true rfl⟩ dX7_cutCell_2 (fun H locs hP hD hS => ?_)
  refine lv_istore_n (lv' := [(3, .int o1), (0, .ref (hq 0)), (1, .int a0), (2, .int a1)]) hx hb dX7_cutCell_5 rfl hl (by decide) rfl (fun ls hl => ?_)
  refine lv_aload_n hx hb dX7_cutCell_6 rfl (lv_at hl 1 rfl) ?_
  refine va_get (D := gD g) (ci := 7) (v := .ref (hq 5)) (C := RX7) (T := TX7) (N := 15) hx hb hts hinX7 hown hK hP 0 rfl rfl 4 (by decide) k0 (fun _ h9 => h9) rfl dX7_cutCell_7 ?_
  refine lv_iload_n hx hb dX7_cutCell_10 rfl (lv_at hl 0 rfl) ?_
  refine lv_iconst (v := 3) hx hb dX7_cutCell_11 (by decide) ?_
  refine lv_imul hx hb dX7_cutCell_12 ?_
  refine lv_aload_n hx hb dX7_cutCell_13 rfl (lv_at hl 1 rfl) ?_
  refine va_get (D := gD g) (ci := 7) (v := .ref (hq 4)) (C := RX7) (T := TX7) (N := 15) hx hb hts hinX7 hown hK hP 0 rfl rfl 3 (by decide) k1 (fun _ h9 => h9) rfl dX7_cutCell_14 ?_
  refine lv_iload_n hx hb dX7_cutCell_17 rfl (lv_at hl 0 rfl) ?_
  obtain ⟨h3, hf⟩ := jbA_e hf
  refine va_iald hx hb hK hP 4 0 rfl rfl h3 dX7_cutCell_18 ?_
  refine lv_iadd hx hb dX7_cutCell_19 ?_
  refine lv_aload_n hx hb dX7_cutCell_20 rfl (lv_at hl 1 rfl) ?_
  refine va_get (D := gD g) (ci := 7) (v := .ref (hq 2)) (C := RX7) (T := TX7) (N := 15) hx hb hts hinX7 hown hK hP 0 rfl rfl 1 (by decide) k2 (fun _ h9 => h9) rfl dX7_cutCell_21 ?_
  refine lv_iload_n hx hb dX7_cutCell_24 rfl (lv_at hl 0 rfl) ?_
  obtain ⟨h4, hf⟩ := jbA_e hf
  refine va_iald hx hb hK hP 2 0 rfl rfl h4 dX7_cutCell_25 ?_
  obtain ⟨h5, hf⟩ := jbA_e hf
  refine va_iast hx hb hK hP hD hS 5 0 rfl rfl h5 dX7_cutCell_26 (fun H locs hP hD hS => ?_)
  obtain ⟨w6, ew6⟩ : ∃ y, y = (qSBlocks (upd (qBlocks qv) ((o1 * 3) + ((qBlockCounts qv) o1.toNatClampNeg)).toNatClampNeg ((qStones qv) o1.toNatClampNeg)) qv) := ⟨_, rfl⟩
  have hf := jbN_e hf ew6
  have hP : va_P (gD g) vwCl (wQ g hq w6) H := by rw [ew6]; exact hP
  have hD : va_D A (wQ g hq w6) := by rw [ew6]; exact hD
  refine lv_aload_n hx hb dX7_cutCell_27 rfl (lv_at hl 1 rfl) ?_
  refine va_get (D := gD g) (ci := 7) (v := .ref (hq 4)) (C := RX7) (T := TX7) (N := 15) hx hb hts hinX7 hown hK hP 0 rfl rfl 3 (by decide) k1 (fun _ h9 => h9) rfl dX7_cutCell_28 ?_
  refine lv_iload_n hx hb dX7_cutCell_31 rfl (lv_at hl 0 rfl) ?_
  refine lv_dup2_11 hx hb dX7_cutCell_32 rfl rfl ?_
  obtain ⟨h7, hf⟩ := jbA_e hf
  refine va_iald hx hb hK hP 4 0 rfl rfl h7 dX7_cutCell_33 ?_
  refine lv_iconst (v := 1) hx hb dX7_cutCell_34 (by decide) ?_
  refine lv_iadd hx hb dX7_cutCell_35 ?_
  obtain ⟨h8, hf⟩ := jbA_e hf
  refine va_iast hx hb hK hP hD hS 4 0 rfl rfl h8 dX7_cutCell_36 (fun H locs hP hD hS => ?_)
  obtain ⟨w9, ew9⟩ : ∃ y, y = (qSBlockCounts (upd (qBlockCounts w6) o1.toNatClampNeg (((qBlockCounts w6) o1.toNatClampNeg) + 1)) w6) := ⟨_, rfl⟩
  have hf := jbN_e hf ew9
  have hP : va_P (gD g) vwCl (wQ g hq w9) H := by rw [ew9]; exact hP
  have hD : va_D A (wQ g hq w9) := by rw [ew9]; exact hD
  refine lv_aload_n hx hb dX7_cutCell_37 rfl (lv_at hl 1 rfl) ?_
  refine lv_dup hx hb dX7_cutCell_38 rfl ?_
  refine va_get (D := gD g) (ci := 7) (v := .int (qCuts w9)) (C := RX7) (T := TX7) (N := 15) hx hb hts hinX7 hown hK hP 0 rfl rfl 12 (by decide) k3 (fun _ h9 => h9) rfl dX7_cutCell_39 ?_
  refine lv_iconst (v := 1) hx hb dX7_cutCell_42 (by decide) ?_
  refine lv_iadd hx hb dX7_cutCell_43 ?_
  refine va_put (D := gD g) (ci := 7) (v := .int ((qCuts w9) + 1)) (ty := .int) (C := RX7) (T := TX7) (N := 15) hx hb hts hinX7 tyX7 tyX7_ok nmX7 hown hK hP hD hS 0 rfl rfl 12 (by decide) k3 (fun _ h9 => h9) rfl (tyX7_ok 12 (by decide)) rfl rfl (Nat.le_of_ble_eq_true rfl) dX7_cutCell_44 (fun H locs hP hD hS => ?_)
  obtain ⟨w10, ew10⟩ : ∃ y, y = (qSCuts ((qCuts w9) + 1) w9) := ⟨_, rfl⟩
  have hf := jbN_e hf ew10
  have hP : va_P (gD g) vwCl (wQ g hq w10) H := by rw [ew10]; exact hP
  have hD : va_D A (wQ g hq w10) := by rw [ew10]; exact hD
  refine lv_aload_n hx hb dX7_cutCell_47 rfl (lv_at hl 1 rfl) ?_
  refine va_get (D := gD g) (ci := 7) (v := .ref (hq 1)) (C := RX7) (T := TX7) (N := 15) hx hb hts hinX7 hown hK hP 0 rfl rfl 0 (by decide) k4 (fun _ h9 => h9) rfl dX7_cutCell_48 ?_
  refine lv_iload_n hx hb dX7_cutCell_51 rfl (lv_at hl 0 rfl) ?_
  refine lv_dup2_11 hx hb dX7_cutCell_52 rfl rfl ?_
  obtain ⟨h11, hf⟩ := jbA_e hf
  refine va_iald hx hb hK hP 1 0 rfl rfl h11 dX7_cutCell_53 ?_
  refine lv_iconst (v := 1) hx hb dX7_cutCell_54 (by decide) ?_
  refine lv_isub hx hb dX7_cutCell_55 ?_
  obtain ⟨h12, hf⟩ := jbA_e hf
  refine va_iast hx hb hK hP hD hS 1 0 rfl rfl h12 dX7_cutCell_56 (fun H locs hP hD hS => ?_)
  obtain ⟨w13, ew13⟩ : ∃ y, y = (qSHeights (upd (qHeights w10) o1.toNatClampNeg (((qHeights w10) o1.toNatClampNeg) - 1)) w10) := ⟨_, rfl⟩
  have hf := jbN_e hf ew13
  have hP : va_P (gD g) vwCl (wQ g hq w13) H := by rw [ew13]; exact hP
  have hD : va_D A (wQ g hq w13) := by rw [ew13]; exact hD
  refine lv_aload_n hx hb dX7_cutCell_57 rfl (lv_at hl 1 rfl) ?_
  refine va_get (D := gD g) (ci := 7) (v := .ref (hq 1)) (C := RX7) (T := TX7) (N := 15) hx hb hts hinX7 hown hK hP 0 rfl rfl 0 (by decide) k4 (fun _ h9 => h9) rfl dX7_cutCell_58 ?_
  refine lv_iload_n hx hb dX7_cutCell_61 rfl (lv_at hl 0 rfl) ?_
  obtain ⟨h14, hf⟩ := jbA_e hf
  refine va_iald hx hb hK hP 1 0 rfl rfl h14 dX7_cutCell_62 ?_
  cases hf
  subst hQ
  exact rt_i hx hb hrt hlk rfl hK hP hD hS (Nat.le_of_ble_eq_true rfl) (Nat.le_of_ble_eq_true rfl) dX7_cutCell_63
def f_X7_fillCell (qv : QV) (a0 : Int32) (a1 : Int32) : Option (Int32 × QV) :=
  (f_X3_cellAt a0 a1).bind fun o1 =>
  jbN (qSRubble ((qRubble qv) - 1) qv) fun w3 =>
  if jIn o1 30 then
  if jIn o1 30 then
  jbN (qSHeights (upd (qHeights w3) o1.toNatClampNeg (((qHeights w3) o1.toNatClampNeg) + 1)) w3) fun w6 =>
  if jIn o1 30 then
  some (((qHeights w6) o1.toNatClampNeg), w6)
  else none
  else none
  else none
def rm_X7_fillCell : Room := { frames := 1, cells := 0, slots := 0, locals := 21 }
theorem hd_X7_fillCell : yX7_fillCell.cls = RX7 ∧ yX7_fillCell.cls ≠ "java/lang/invoke/MethodHandle" ∧ yX7_fillCell.cls ≠ "java/lang/invoke/VarHandle" ∧ (parseMethodDescriptor yX7_fillCell.desc).map (fun d => d.parameters.length) = some 2 := by decide +kernel
set_option maxHeartbeats 4000000 in
set_option maxRecDepth 100000 in
theorem c_X7_fillCell (l : Launch) (g : GG) (hq : Nat → Nat) (qv : QV)  (a0 : Int32) (a1 : Int32) (out : Int32 × QV) (hf : f_X7_fillCell qv a0 a1 = some out) : MtI l yX7_fillCell wsX7_fillCell rm_X7_fillCell g (wQ g hq qv) [.ref (hq 0), .int a0, .int a1] (out.1) (wQ g hq (out.2)) 0 0 := by
  refine fun sz => mt_of (cc := cX7_fillCell) (maxL := 4) (ret := (some .int)) (own := RX7) (Qc := fun A => va_Qi (fun r (_ : Unit) => r = (out.1)) (fun _ t => PosM g A (wQ g hq (out.2)) t) A) (by decide +kernel) rfl rfl (Nat.le_of_ble_eq_true rfl) ?_ sz
  intro p e s mi below meth c A ls hB hnm hrt hlk hP hD hl
  obtain ⟨hx, hb, hml, hown, hts, hK, hZ, hT, hA, -⟩ := hB
  have hS : va_S A s.heap s.heap [] := va_S.rf
  have hl : lv_has ls 4 [(0, .ref (hq 0)), (1, .int a0), (2, .int a1)] := hl
  have hinX7 : ∀ w ∈ wsX70, w ∈ wsX7_fillCell := by decide +kernel
  have k0 := hts (.fieldLink RX7 44 "TerraceQuarry$Quarry" "rubble" "I") (by decide +kernel)
  have k1 := hts (.fieldLink RX7 9 "TerraceQuarry$Quarry" "heights" "[I") (by decide +kernel)
  generalize hQ : MQ below _ _ _ _ _ _ = Q
  unfold f_X7_fillCell at hf
  refine lv_iload_n hx hb dX7_fillCell_0 rfl (lv_at hl 1 rfl) ?_
  refine lv_iload_n hx hb dX7_fillCell_1 rfl (lv_at hl 2 rfl) ?_
  obtain ⟨o1, g2, hf⟩ := jbB_e hf
  refine csn_i (As := [.int a0, .int a1]) (rest := []) ⟨hx, hb, hml, hown, hts⟩ (c_X3_cellAt l g a0 a1 _ g2) (va_cwS 2 hts gX7_fillCell_X3_cellAt rfl rfl rfl hd_X3_cellAt ⟨Nat.le_of_ble_eq_true rfl, Nat.le_of_ble_eq_true rfl⟩) hK hZ hT hA hP hD hS hl.1 rfl rfl (Nat.le_of_ble_eq_true rfl) ⟨Nat.le_of_ble_eq_true rfl, Nat.le_of_ble_eq_true rfl⟩ dX7_fillCell_2 (fun H locs hP hD hS => ?_)
  refine lv_istore_n (lv' := [(3, .int o1), (0, .ref (hq 0)), (1, .int a0), (2, .int a1)]) hx hb dX7_fillCell_5 rfl hl (by decide) rfl (fun ls hl => ?_)
  refine lv_aload_n hx hb dX7_fillCell_6 rfl (lv_at hl 1 rfl) ?_
  refine lv_dup hx hb dX7_fillCell_7 rfl ?_
  refine va_get (D := gD g) (ci := 7) (v := .int (qRubble qv)) (C := RX7) (T := TX7) (N := 15) hx hb hts hinX7 hown hK hP 0 rfl rfl 11 (by decide) k0 (fun _ h9 => h9) rfl dX7_fillCell_8 ?_
  refine lv_iconst (v := 1) hx hb dX7_fillCell_11 (by decide) ?_
  refine lv_isub hx hb dX7_fillCell_12 ?_
  refine va_put (D := gD g) (ci := 7) (v := .int ((qRubble qv) - 1)) (ty := .int) (C := RX7) (T := TX7) (N := 15) hx hb hts hinX7 tyX7 tyX7_ok nmX7 hown hK hP hD hS 0 rfl rfl 11 (by decide) k0 (fun _ h9 => h9) rfl (tyX7_ok 11 (by decide)) rfl rfl (Nat.le_of_ble_eq_true rfl) dX7_fillCell_13 (fun H locs hP hD hS => ?_)
  obtain ⟨w3, ew3⟩ : ∃ y, y = (qSRubble ((qRubble qv) - 1) qv) := ⟨_, rfl⟩
  have hf := jbN_e hf ew3
  have hP : va_P (gD g) vwCl (wQ g hq w3) H := by rw [ew3]; exact hP
  have hD : va_D A (wQ g hq w3) := by rw [ew3]; exact hD
  refine lv_aload_n hx hb dX7_fillCell_16 rfl (lv_at hl 1 rfl) ?_
  refine va_get (D := gD g) (ci := 7) (v := .ref (hq 1)) (C := RX7) (T := TX7) (N := 15) hx hb hts hinX7 hown hK hP 0 rfl rfl 0 (by decide) k1 (fun _ h9 => h9) rfl dX7_fillCell_17 ?_
  refine lv_iload_n hx hb dX7_fillCell_20 rfl (lv_at hl 0 rfl) ?_
  refine lv_dup2_11 hx hb dX7_fillCell_21 rfl rfl ?_
  obtain ⟨h4, hf⟩ := jbA_e hf
  refine va_iald hx hb hK hP 1 0 rfl rfl h4 dX7_fillCell_22 ?_
  refine lv_iconst (v := 1) hx hb dX7_fillCell_23 (by decide) ?_
  refine lv_iadd hx hb dX7_fillCell_24 ?_
  obtain ⟨h5, hf⟩ := jbA_e hf
  refine va_iast hx hb hK hP hD hS 1 0 rfl rfl h5 dX7_fillCell_25 (fun H locs hP hD hS => ?_)
  obtain ⟨w6, ew6⟩ : ∃ y, y = (qSHeights (upd (qHeights w3) o1.toNatClampNeg (((qHeights w3) o1.toNatClampNeg) + 1)) w3) := ⟨_, rfl⟩
  have hf := jbN_e hf ew6
  have hP : va_P (gD g) vwCl (wQ g hq w6) H := by rw [ew6]; exact hP
  have hD : va_D A (wQ g hq w6) := by rw [ew6]; exact hD
  refine lv_aload_n hx hb dX7_fillCell_26 rfl (lv_at hl 1 rfl) ?_
  refine va_get (D := gD g) (ci := 7) (v := .ref (hq 1)) (C := RX7) (T := TX7) (N := 15) hx hb hts hinX7 hown hK hP 0 rfl rfl 0 (by decide) k1 (fun _ h9 => h9) rfl dX7_fillCell_27 ?_
  refine lv_iload_n hx hb dX7_fillCell_30 rfl (lv_at hl 0 rfl) ?_
  obtain ⟨h7, hf⟩ := jbA_e hf
  refine va_iald hx hb hK hP 1 0 rfl rfl h7 dX7_fillCell_31 ?_
  cases hf
  subst hQ
  exact rt_i hx hb hrt hlk rfl hK hP hD hS (Nat.le_of_ble_eq_true rfl) (Nat.le_of_ble_eq_true rfl) dX7_fillCell_32
def f_X7_switchLedge_J25 (qv : QV) (x3 : Int32) (y0 : Int32) (y1 : Int32) : Option (Int32 × QV) :=
  if jIn y1 30 then
  jbN (qSLedges (upd (qLedges qv) y1.toNatClampNeg (vp_nar .boolean y0)) qv) fun w5 =>
  if jIn x3 30 then
  if vp_nar .boolean ((qLedges w5) x3.toNatClampNeg) = ((qLedges w5) x3.toNatClampNeg) then some (((qLedges w5) x3.toNatClampNeg), w5) else none
  else none
  else none
def f_X7_switchLedge (qv : QV) (a0 : Int32) (a1 : Int32) : Option (Int32 × QV) :=
  (f_X3_cellAt a0 a1).bind fun o1 =>
  if jIn o1 30 then
  if ((qLedges qv) o1.toNatClampNeg) = 0 then
  (f_X7_switchLedge_J25 qv o1 1 o1)
  else
  (f_X7_switchLedge_J25 qv o1 0 o1)
  else none
def rm_X7_switchLedge : Room := { frames := 1, cells := 0, slots := 0, locals := 21 }
theorem hd_X7_switchLedge : yX7_switchLedge.cls = RX7 ∧ yX7_switchLedge.cls ≠ "java/lang/invoke/MethodHandle" ∧ yX7_switchLedge.cls ≠ "java/lang/invoke/VarHandle" ∧ (parseMethodDescriptor yX7_switchLedge.desc).map (fun d => d.parameters.length) = some 2 := by decide +kernel
set_option maxHeartbeats 4000000 in
set_option maxRecDepth 100000 in
theorem c_X7_switchLedge (l : Launch) (g : GG) (hq : Nat → Nat) (qv : QV)  (a0 : Int32) (a1 : Int32) (out : Int32 × QV) (hf : f_X7_switchLedge qv a0 a1 = some out) : MtI l yX7_switchLedge wsX7_switchLedge rm_X7_switchLedge g (wQ g hq qv) [.ref (hq 0), .int a0, .int a1] (out.1) (wQ g hq (out.2)) 0 0 := by
  refine fun sz => mt_of (cc := cX7_switchLedge) (maxL := 4) (ret := (some .boolean)) (own := RX7) (Qc := fun A => va_Qi (fun r (_ : Unit) => r = (out.1)) (fun _ t => PosM g A (wQ g hq (out.2)) t) A) (by decide +kernel) rfl rfl (Nat.le_of_ble_eq_true rfl) ?_ sz
  intro p e s mi below meth c A ls hB hnm hrt hlk hP hD hl
  obtain ⟨hx, hb, hml, hown, hts, hK, hZ, hT, hA, -⟩ := hB
  have hS : va_S A s.heap s.heap [] := va_S.rf
  have hl : lv_has ls 4 [(0, .ref (hq 0)), (1, .int a0), (2, .int a1)] := hl
  have hinX7 : ∀ w ∈ wsX70, w ∈ wsX7_switchLedge := by decide +kernel
  have k0 := hts (.fieldLink RX7 18 "TerraceQuarry$Quarry" "ledges" "[Z") (by decide +kernel)
  generalize hQ : MQ below _ _ _ _ _ _ = Q
  unfold f_X7_switchLedge at hf
  have hJ25 : ∀ (qv : QV) (x3 : Int32) (y0 : Int32) (y1 : Int32) (H : Heap) (locs : List Loc) (ls : Array Slot), f_X7_switchLedge_J25 qv x3 y0 y1 = some out → va_P (gD g) vwCl (wQ g hq qv) H → va_D A (wQ g hq qv) → va_S A s.heap H locs → lv_has ls 4 [(0, .ref (hq 0)), (3, .int x3)] → W p l e rm_X7_switchLedge s mi [.ref (hq 0), .int a0, .int a1].toArray below meth c H locs 0 0 Q (F0 mi 25 ls [.int y0, .int y1, .ref (hq 3)]) := by
    intro qv x3 y0 y1 H locs ls hf hP hD hS hl
    unfold f_X7_switchLedge_J25 at hf
    obtain ⟨h4, hf⟩ := jbA_e hf
    refine va_zast hx hb hK hP hD hS 3 1 rfl rfl h4 dX7_switchLedge_25 (fun H locs hP hD hS => ?_)
    obtain ⟨w5, ew5⟩ : ∃ y, y = (qSLedges (upd (qLedges qv) y1.toNatClampNeg (vp_nar .boolean y0)) qv) := ⟨_, rfl⟩
    have hf := jbN_e hf ew5
    have hP : va_P (gD g) vwCl (wQ g hq w5) H := by rw [ew5]; exact hP
    have hD : va_D A (wQ g hq w5) := by rw [ew5]; exact hD
    refine lv_aload_n hx hb dX7_switchLedge_26 rfl (lv_at hl 0 rfl) ?_
    refine va_get (D := gD g) (ci := 7) (v := .ref (hq 3)) (C := RX7) (T := TX7) (N := 15) hx hb hts hinX7 hown hK hP 0 rfl rfl 2 (by decide) k0 (fun _ h9 => h9) rfl dX7_switchLedge_27 ?_
    refine lv_iload_n hx hb dX7_switchLedge_30 rfl (lv_at hl 1 rfl) ?_
    obtain ⟨h6, hf⟩ := jbA_e hf
    refine va_zald hx hb hK hP 3 1 rfl rfl h6 dX7_switchLedge_31 ?_
    obtain ⟨h7, hf⟩ := jbA_e hf
    cases hf
    subst hQ
    exact rt_i hx hb hrt hlk (nar_z h7) hK hP hD hS (Nat.le_of_ble_eq_true rfl) (Nat.le_of_ble_eq_true rfl) dX7_switchLedge_32
  refine lv_iload_n hx hb dX7_switchLedge_0 rfl (lv_at hl 1 rfl) ?_
  refine lv_iload_n hx hb dX7_switchLedge_1 rfl (lv_at hl 2 rfl) ?_
  obtain ⟨o1, g2, hf⟩ := jbB_e hf
  refine csn_i (As := [.int a0, .int a1]) (rest := []) ⟨hx, hb, hml, hown, hts⟩ (c_X3_cellAt l g a0 a1 _ g2) (va_cwS 2 hts gX7_switchLedge_X3_cellAt rfl rfl rfl hd_X3_cellAt ⟨Nat.le_of_ble_eq_true rfl, Nat.le_of_ble_eq_true rfl⟩) hK hZ hT hA hP hD hS hl.1 rfl rfl (Nat.le_of_ble_eq_true rfl) ⟨Nat.le_of_ble_eq_true rfl, Nat.le_of_ble_eq_true rfl⟩ dX7_switchLedge_2 (fun H locs hP hD hS => ?_)
  refine lv_istore_n (lv' := [(3, .int o1), (0, .ref (hq 0)), (1, .int a0), (2, .int a1)]) hx hb dX7_switchLedge_5 rfl hl (by decide) rfl (fun ls hl => ?_)
  refine lv_aload_n hx hb dX7_switchLedge_6 rfl (lv_at hl 1 rfl) ?_
  refine va_get (D := gD g) (ci := 7) (v := .ref (hq 3)) (C := RX7) (T := TX7) (N := 15) hx hb hts hinX7 hown hK hP 0 rfl rfl 2 (by decide) k0 (fun _ h9 => h9) rfl dX7_switchLedge_7 ?_
  refine lv_iload_n hx hb dX7_switchLedge_10 rfl (lv_at hl 0 rfl) ?_
  refine lv_aload_n hx hb dX7_switchLedge_11 rfl (lv_at hl 1 rfl) ?_
  refine va_get (D := gD g) (ci := 7) (v := .ref (hq 3)) (C := RX7) (T := TX7) (N := 15) hx hb hts hinX7 hown hK hP 0 rfl rfl 2 (by decide) k0 (fun _ h9 => h9) rfl dX7_switchLedge_12 ?_
  refine lv_iload_n hx hb dX7_switchLedge_15 rfl (lv_at hl 0 rfl) ?_
  obtain ⟨h3, hf⟩ := jbA_e hf
  refine va_zald hx hb hK hP 3 1 rfl rfl h3 dX7_switchLedge_16 ?_
  refine lv_if_ne (tgt := 24) hx hb dX7_switchLedge_17 (by decide) (fun hc => ?_) (fun hc => ?_)
  · have hf := jbF hf hc
    refine lv_iconst (v := 0) hx hb dX7_switchLedge_24 (by decide) ?_
    exact hJ25 qv o1 0 o1 _ _ _ hf hP hD hS (lv_sub hl [1, 0] rfl)
  · have hf := jbT hf hc
    refine lv_iconst (v := 1) hx hb dX7_switchLedge_20 (by decide) ?_
    refine lv_goto (tgt := 25) hx hb dX7_switchLedge_21 (by decide) ?_
    exact hJ25 qv o1 1 o1 _ _ _ hf hP hD hS (lv_sub hl [1, 0] rfl)
def f_X7_changeLimit (qv : QV) (a0 : Int32) : Option (Int32 × QV) :=
  jbN (qLimit qv) fun z1 =>
  jbN (qSLimit a0 qv) fun w2 =>
  some (z1, w2)
def rm_X7_changeLimit : Room := { frames := 0, cells := 0, slots := 0, locals := 0 }
theorem hd_X7_changeLimit : yX7_changeLimit.cls = RX7 ∧ yX7_changeLimit.cls ≠ "java/lang/invoke/MethodHandle" ∧ yX7_changeLimit.cls ≠ "java/lang/invoke/VarHandle" ∧ (parseMethodDescriptor yX7_changeLimit.desc).map (fun d => d.parameters.length) = some 1 := by decide +kernel
set_option maxHeartbeats 4000000 in
set_option maxRecDepth 100000 in
theorem c_X7_changeLimit (l : Launch) (g : GG) (hq : Nat → Nat) (qv : QV)  (a0 : Int32) (out : Int32 × QV) (hf : f_X7_changeLimit qv a0 = some out) : MtI l yX7_changeLimit wsX7_changeLimit rm_X7_changeLimit g (wQ g hq qv) [.ref (hq 0), .int a0] (out.1) (wQ g hq (out.2)) 0 0 := by
  refine fun sz => mt_of (cc := cX7_changeLimit) (maxL := 3) (ret := (some .int)) (own := RX7) (Qc := fun A => va_Qi (fun r (_ : Unit) => r = (out.1)) (fun _ t => PosM g A (wQ g hq (out.2)) t) A) (by decide +kernel) rfl rfl (Nat.le_of_ble_eq_true rfl) ?_ sz
  intro p e s mi below meth c A ls hB hnm hrt hlk hP hD hl
  obtain ⟨hx, hb, hml, hown, hts, hK, hZ, hT, hA, -⟩ := hB
  have hS : va_S A s.heap s.heap [] := va_S.rf
  have hl : lv_has ls 3 [(0, .ref (hq 0)), (1, .int a0)] := hl
  have hinX7 : ∀ w ∈ wsX70, w ∈ wsX7_changeLimit := by decide +kernel
  have k0 := hts (.fieldLink RX7 40 "TerraceQuarry$Quarry" "limit" "I") (by decide +kernel)
  generalize hQ : MQ below _ _ _ _ _ _ = Q
  unfold f_X7_changeLimit at hf
  refine lv_aload_n hx hb dX7_changeLimit_0 rfl (lv_at hl 0 rfl) ?_
  refine va_get (D := gD g) (ci := 7) (v := .int (qLimit qv)) (C := RX7) (T := TX7) (N := 15) hx hb hts hinX7 hown hK hP 0 rfl rfl 10 (by decide) k0 (fun _ h9 => h9) rfl dX7_changeLimit_1 ?_
  refine lv_topi (fun z1 ez1 => ?_)
  have hf := jbN_e hf ez1
  refine lv_istore_n (lv' := [(2, .int z1), (0, .ref (hq 0)), (1, .int a0)]) hx hb dX7_changeLimit_4 rfl hl (by decide) rfl (fun ls hl => ?_)
  refine lv_aload_n hx hb dX7_changeLimit_5 rfl (lv_at hl 1 rfl) ?_
  refine lv_iload_n hx hb dX7_changeLimit_6 rfl (lv_at hl 2 rfl) ?_
  refine va_put (D := gD g) (ci := 7) (v := .int a0) (ty := .int) (C := RX7) (T := TX7) (N := 15) hx hb hts hinX7 tyX7 tyX7_ok nmX7 hown hK hP hD hS 0 rfl rfl 10 (by decide) k0 (fun _ h9 => h9) rfl (tyX7_ok 10 (by decide)) rfl rfl (Nat.le_of_ble_eq_true rfl) dX7_changeLimit_7 (fun H locs hP hD hS => ?_)
  obtain ⟨w2, ew2⟩ : ∃ y, y = (qSLimit a0 qv) := ⟨_, rfl⟩
  have hf := jbN_e hf ew2
  have hP : va_P (gD g) vwCl (wQ g hq w2) H := by rw [ew2]; exact hP
  have hD : va_D A (wQ g hq w2) := by rw [ew2]; exact hD
  refine lv_iload_n hx hb dX7_changeLimit_10 rfl (lv_at hl 0 rfl) ?_
  cases hf
  subst hQ
  exact rt_i hx hb hrt hlk rfl hK hP hD hS (Nat.le_of_ble_eq_true rfl) (Nat.le_of_ble_eq_true rfl) dX7_changeLimit_11
def f_X7_placeWinch (qv : QV) (a0 : Int32) (a1 : Int32) (a2 : Int32) (a3 : Int32) : Option (Int32 × QV) :=
  jbN (qWinches qv) fun z1 =>
  (f_X3_cellAt a0 a1).bind fun o2 =>
  if jIn z1 3 then
  jbN (qSWinchCells (upd (qWinchCells qv) z1.toNatClampNeg o2) qv) fun w5 =>
  if jIn z1 3 then
  jbN (qSCapacities (upd (qCapacities w5) z1.toNatClampNeg a2) w5) fun w7 =>
  if jIn z1 3 then
  jbN (qSReaches (upd (qReaches w7) z1.toNatClampNeg a3) w7) fun w9 =>
  jbN (qSWinches ((qWinches w9) + 1) w9) fun w10 =>
  some (z1, w10)
  else none
  else none
  else none
def rm_X7_placeWinch : Room := { frames := 1, cells := 0, slots := 0, locals := 21 }
theorem hd_X7_placeWinch : yX7_placeWinch.cls = RX7 ∧ yX7_placeWinch.cls ≠ "java/lang/invoke/MethodHandle" ∧ yX7_placeWinch.cls ≠ "java/lang/invoke/VarHandle" ∧ (parseMethodDescriptor yX7_placeWinch.desc).map (fun d => d.parameters.length) = some 4 := by decide +kernel
set_option maxHeartbeats 4000000 in
set_option maxRecDepth 100000 in
theorem c_X7_placeWinch (l : Launch) (g : GG) (hq : Nat → Nat) (qv : QV)  (a0 : Int32) (a1 : Int32) (a2 : Int32) (a3 : Int32) (out : Int32 × QV) (hf : f_X7_placeWinch qv a0 a1 a2 a3 = some out) : MtI l yX7_placeWinch wsX7_placeWinch rm_X7_placeWinch g (wQ g hq qv) [.ref (hq 0), .int a0, .int a1, .int a2, .int a3] (out.1) (wQ g hq (out.2)) 0 0 := by
  refine fun sz => mt_of (cc := cX7_placeWinch) (maxL := 6) (ret := (some .int)) (own := RX7) (Qc := fun A => va_Qi (fun r (_ : Unit) => r = (out.1)) (fun _ t => PosM g A (wQ g hq (out.2)) t) A) (by decide +kernel) rfl rfl (Nat.le_of_ble_eq_true rfl) ?_ sz
  intro p e s mi below meth c A ls hB hnm hrt hlk hP hD hl
  obtain ⟨hx, hb, hml, hown, hts, hK, hZ, hT, hA, -⟩ := hB
  have hS : va_S A s.heap s.heap [] := va_S.rf
  have hl : lv_has ls 6 [(0, .ref (hq 0)), (1, .int a0), (2, .int a1), (3, .int a2), (4, .int a3)] := hl
  have hinX7 : ∀ w ∈ wsX70, w ∈ wsX7_placeWinch := by decide +kernel
  have k0 := hts (.fieldLink RX7 53 "TerraceQuarry$Quarry" "winches" "I") (by decide +kernel)
  have k1 := hts (.fieldLink RX7 28 "TerraceQuarry$Quarry" "winchCells" "[I") (by decide +kernel)
  have k2 := hts (.fieldLink RX7 31 "TerraceQuarry$Quarry" "capacities" "[I") (by decide +kernel)
  have k3 := hts (.fieldLink RX7 34 "TerraceQuarry$Quarry" "reaches" "[I") (by decide +kernel)
  generalize hQ : MQ below _ _ _ _ _ _ = Q
  unfold f_X7_placeWinch at hf
  refine lv_aload_n hx hb dX7_placeWinch_0 rfl (lv_at hl 0 rfl) ?_
  refine va_get (D := gD g) (ci := 7) (v := .int (qWinches qv)) (C := RX7) (T := TX7) (N := 15) hx hb hts hinX7 hown hK hP 0 rfl rfl 9 (by decide) k0 (fun _ h9 => h9) rfl dX7_placeWinch_1 ?_
  refine lv_topi (fun z1 ez1 => ?_)
  have hf := jbN_e hf ez1
  refine lv_istore (lv' := [(5, .int z1), (0, .ref (hq 0)), (1, .int a0), (2, .int a1), (3, .int a2), (4, .int a3)]) hx hb dX7_placeWinch_4 hl (by decide) rfl (fun ls hl => ?_)
  refine lv_aload_n hx hb dX7_placeWinch_6 rfl (lv_at hl 1 rfl) ?_
  refine va_get (D := gD g) (ci := 7) (v := .ref (hq 6)) (C := RX7) (T := TX7) (N := 15) hx hb hts hinX7 hown hK hP 0 rfl rfl 5 (by decide) k1 (fun _ h9 => h9) rfl dX7_placeWinch_7 ?_
  refine lv_iload hx hb dX7_placeWinch_10 (lv_at hl 0 rfl) ?_
  refine lv_iload_n hx hb dX7_placeWinch_12 rfl (lv_at hl 2 rfl) ?_
  refine lv_iload_n hx hb dX7_placeWinch_13 rfl (lv_at hl 3 rfl) ?_
  obtain ⟨o2, g3, hf⟩ := jbB_e hf
  refine csn_i (As := [.int a0, .int a1]) (rest := [.int z1, .ref (hq 6)]) ⟨hx, hb, hml, hown, hts⟩ (c_X3_cellAt l g a0 a1 _ g3) (va_cwS 2 hts gX7_placeWinch_X3_cellAt rfl rfl rfl hd_X3_cellAt ⟨Nat.le_of_ble_eq_true rfl, Nat.le_of_ble_eq_true rfl⟩) hK hZ hT hA hP hD hS hl.1 rfl rfl (Nat.le_of_ble_eq_true rfl) ⟨Nat.le_of_ble_eq_true rfl, Nat.le_of_ble_eq_true rfl⟩ dX7_placeWinch_14 (fun H locs hP hD hS => ?_)
  obtain ⟨h4, hf⟩ := jbA_e hf
  refine va_iast hx hb hK hP hD hS 6 0 rfl rfl h4 dX7_placeWinch_17 (fun H locs hP hD hS => ?_)
  obtain ⟨w5, ew5⟩ : ∃ y, y = (qSWinchCells (upd (qWinchCells qv) z1.toNatClampNeg o2) qv) := ⟨_, rfl⟩
  have hf := jbN_e hf ew5
  have hP : va_P (gD g) vwCl (wQ g hq w5) H := by rw [ew5]; exact hP
  have hD : va_D A (wQ g hq w5) := by rw [ew5]; exact hD
  refine lv_aload_n hx hb dX7_placeWinch_18 rfl (lv_at hl 1 rfl) ?_
  refine va_get (D := gD g) (ci := 7) (v := .ref (hq 7)) (C := RX7) (T := TX7) (N := 15) hx hb hts hinX7 hown hK hP 0 rfl rfl 6 (by decide) k2 (fun _ h9 => h9) rfl dX7_placeWinch_19 ?_
  refine lv_iload hx hb dX7_placeWinch_22 (lv_at hl 0 rfl) ?_
  refine lv_iload_n hx hb dX7_placeWinch_24 rfl (lv_at hl 4 rfl) ?_
  obtain ⟨h6, hf⟩ := jbA_e hf
  refine va_iast hx hb hK hP hD hS 7 0 rfl rfl h6 dX7_placeWinch_25 (fun H locs hP hD hS => ?_)
  obtain ⟨w7, ew7⟩ : ∃ y, y = (qSCapacities (upd (qCapacities w5) z1.toNatClampNeg a2) w5) := ⟨_, rfl⟩
  have hf := jbN_e hf ew7
  have hP : va_P (gD g) vwCl (wQ g hq w7) H := by rw [ew7]; exact hP
  have hD : va_D A (wQ g hq w7) := by rw [ew7]; exact hD
  refine lv_aload_n hx hb dX7_placeWinch_26 rfl (lv_at hl 1 rfl) ?_
  refine va_get (D := gD g) (ci := 7) (v := .ref (hq 8)) (C := RX7) (T := TX7) (N := 15) hx hb hts hinX7 hown hK hP 0 rfl rfl 7 (by decide) k3 (fun _ h9 => h9) rfl dX7_placeWinch_27 ?_
  refine lv_iload hx hb dX7_placeWinch_30 (lv_at hl 0 rfl) ?_
  refine lv_iload hx hb dX7_placeWinch_32 (lv_at hl 5 rfl) ?_
  obtain ⟨h8, hf⟩ := jbA_e hf
  refine va_iast hx hb hK hP hD hS 8 0 rfl rfl h8 dX7_placeWinch_34 (fun H locs hP hD hS => ?_)
  obtain ⟨w9, ew9⟩ : ∃ y, y = (qSReaches (upd (qReaches w7) z1.toNatClampNeg a3) w7) := ⟨_, rfl⟩
  have hf := jbN_e hf ew9
  have hP : va_P (gD g) vwCl (wQ g hq w9) H := by rw [ew9]; exact hP
  have hD : va_D A (wQ g hq w9) := by rw [ew9]; exact hD
  refine lv_aload_n hx hb dX7_placeWinch_35 rfl (lv_at hl 1 rfl) ?_
  refine lv_dup hx hb dX7_placeWinch_36 rfl ?_
  refine va_get (D := gD g) (ci := 7) (v := .int (qWinches w9)) (C := RX7) (T := TX7) (N := 15) hx hb hts hinX7 hown hK hP 0 rfl rfl 9 (by decide) k0 (fun _ h9 => h9) rfl dX7_placeWinch_37 ?_
  refine lv_iconst (v := 1) hx hb dX7_placeWinch_40 (by decide) ?_
  refine lv_iadd hx hb dX7_placeWinch_41 ?_
  refine va_put (D := gD g) (ci := 7) (v := .int ((qWinches w9) + 1)) (ty := .int) (C := RX7) (T := TX7) (N := 15) hx hb hts hinX7 tyX7 tyX7_ok nmX7 hown hK hP hD hS 0 rfl rfl 9 (by decide) k0 (fun _ h9 => h9) rfl (tyX7_ok 9 (by decide)) rfl rfl (Nat.le_of_ble_eq_true rfl) dX7_placeWinch_42 (fun H locs hP hD hS => ?_)
  obtain ⟨w10, ew10⟩ : ∃ y, y = (qSWinches ((qWinches w9) + 1) w9) := ⟨_, rfl⟩
  have hf := jbN_e hf ew10
  have hP : va_P (gD g) vwCl (wQ g hq w10) H := by rw [ew10]; exact hP
  have hD : va_D A (wQ g hq w10) := by rw [ew10]; exact hD
  refine lv_iload hx hb dX7_placeWinch_45 (lv_at hl 0 rfl) ?_
  cases hf
  subst hQ
  exact rt_i hx hb hrt hlk rfl hK hP hD hS (Nat.le_of_ble_eq_true rfl) (Nat.le_of_ble_eq_true rfl) dX7_placeWinch_47
def f_X7_liftBlock (qv : QV) (a0 : Int32) (a1 : Int32) : Option (Int32 × QV) :=
  (f_X3_cellAt a0 a1).bind fun o1 =>
  (f_X7_topStoneAt qv o1).bind fun o3 =>
  (f_X7_weightOf o3).bind fun o5 =>
  if jIn o1 30 then
  jbN (o5 * (10 - ((qHeights qv) o1.toNatClampNeg))) fun z8 =>
  if jIn o1 30 then
  if jIn o1 30 then
  jbN (qSBlockCounts (upd (qBlockCounts qv) o1.toNatClampNeg (((qBlockCounts qv) o1.toNatClampNeg) - 1)) qv) fun w11 =>
  if jIn o3 4 then
  if jIn o3 4 then
  jbN (qSYard (upd (qYard w11) o3.toNatClampNeg (((qYard w11) o3.toNatClampNeg) + 1)) w11) fun w14 =>
  jbN (qSLifts ((qLifts w14) + 1) w14) fun w15 =>
  jbN (qSWork ((qWork w15) + (z8.toInt64)) w15) fun w16 =>
  some (z8, w16)
  else none
  else none
  else none
  else none
  else none
def rm_X7_liftBlock : Room := { frames := 1, cells := 0, slots := 0, locals := 21 }
theorem hd_X7_liftBlock : yX7_liftBlock.cls = RX7 ∧ yX7_liftBlock.cls ≠ "java/lang/invoke/MethodHandle" ∧ yX7_liftBlock.cls ≠ "java/lang/invoke/VarHandle" ∧ (parseMethodDescriptor yX7_liftBlock.desc).map (fun d => d.parameters.length) = some 2 := by decide +kernel
set_option maxHeartbeats 4000000 in
set_option maxRecDepth 100000 in
theorem c_X7_liftBlock (l : Launch) (g : GG) (hq : Nat → Nat) (qv : QV)  (a0 : Int32) (a1 : Int32) (out : Int32 × QV) (hf : f_X7_liftBlock qv a0 a1 = some out) : MtI l yX7_liftBlock wsX7_liftBlock rm_X7_liftBlock g (wQ g hq qv) [.ref (hq 0), .int a0, .int a1] (out.1) (wQ g hq (out.2)) 0 0 := by
  refine fun sz => mt_of (cc := cX7_liftBlock) (maxL := 6) (ret := (some .int)) (own := RX7) (Qc := fun A => va_Qi (fun r (_ : Unit) => r = (out.1)) (fun _ t => PosM g A (wQ g hq (out.2)) t) A) (by decide +kernel) rfl rfl (Nat.le_of_ble_eq_true rfl) ?_ sz
  intro p e s mi below meth c A ls hB hnm hrt hlk hP hD hl
  obtain ⟨hx, hb, hml, hown, hts, hK, hZ, hT, hA, -⟩ := hB
  have hS : va_S A s.heap s.heap [] := va_S.rf
  have hl : lv_has ls 6 [(0, .ref (hq 0)), (1, .int a0), (2, .int a1)] := hl
  have hinX7 : ∀ w ∈ wsX70, w ∈ wsX7_liftBlock := by decide +kernel
  have k0 := hts (.fieldLink RX7 9 "TerraceQuarry$Quarry" "heights" "[I") (by decide +kernel)
  have k1 := hts (.fieldLink RX7 22 "TerraceQuarry$Quarry" "blockCounts" "[I") (by decide +kernel)
  have k2 := hts (.fieldLink RX7 37 "TerraceQuarry$Quarry" "yard" "[I") (by decide +kernel)
  have k3 := hts (.fieldLink RX7 59 "TerraceQuarry$Quarry" "lifts" "I") (by decide +kernel)
  have k4 := hts (.fieldLink RX7 62 "TerraceQuarry$Quarry" "work" "J") (by decide +kernel)
  generalize hQ : MQ below _ _ _ _ _ _ = Q
  unfold f_X7_liftBlock at hf
  refine lv_iload_n hx hb dX7_liftBlock_0 rfl (lv_at hl 1 rfl) ?_
  refine lv_iload_n hx hb dX7_liftBlock_1 rfl (lv_at hl 2 rfl) ?_
  obtain ⟨o1, g2, hf⟩ := jbB_e hf
  refine csn_i (As := [.int a0, .int a1]) (rest := []) ⟨hx, hb, hml, hown, hts⟩ (c_X3_cellAt l g a0 a1 _ g2) (va_cwS 2 hts gX7_liftBlock_X3_cellAt rfl rfl rfl hd_X3_cellAt ⟨Nat.le_of_ble_eq_true rfl, Nat.le_of_ble_eq_true rfl⟩) hK hZ hT hA hP hD hS hl.1 rfl rfl (Nat.le_of_ble_eq_true rfl) ⟨Nat.le_of_ble_eq_true rfl, Nat.le_of_ble_eq_true rfl⟩ dX7_liftBlock_2 (fun H locs hP hD hS => ?_)
  refine lv_istore_n (lv' := [(3, .int o1), (0, .ref (hq 0)), (1, .int a0), (2, .int a1)]) hx hb dX7_liftBlock_5 rfl hl (by decide) rfl (fun ls hl => ?_)
  refine lv_aload_n hx hb dX7_liftBlock_6 rfl (lv_at hl 1 rfl) ?_
  refine lv_iload_n hx hb dX7_liftBlock_7 rfl (lv_at hl 0 rfl) ?_
  obtain ⟨o3, g4, hf⟩ := jbB_e hf
  refine cva_i (As := [.int o1]) (rest := []) ⟨hx, hb, hml, hown, hts⟩ (c_X7_topStoneAt l g hq qv o1 _ g4) (cwV 1 hts gX7_liftBlock_X7_topStoneAt rfl rfl rfl hd_X7_topStoneAt ⟨Nat.le_of_ble_eq_true rfl, Nat.le_of_ble_eq_true rfl⟩) hK hZ hT hA hP hD hS hl.1 (va_recv hK hP (ci := 7) (q0 := 0) rfl rfl) rfl rfl (Nat.le_of_ble_eq_true rfl) ⟨Nat.le_of_ble_eq_true rfl, Nat.le_of_ble_eq_true rfl⟩ dX7_liftBlock_8 (fun H locs hP hD hS => ?_)
  refine lv_istore (lv' := [(4, .int o3), (3, .int o1), (0, .ref (hq 0)), (1, .int a0), (2, .int a1)]) hx hb dX7_liftBlock_11 hl (by decide) rfl (fun ls hl => ?_)
  refine lv_iload hx hb dX7_liftBlock_13 (lv_at hl 0 rfl) ?_
  obtain ⟨o5, g6, hf⟩ := jbB_e hf
  refine csn_i (As := [.int o3]) (rest := []) ⟨hx, hb, hml, hown, hts⟩ (c_X7_weightOf l g o3 _ g6) (va_cwS 1 hts gX7_liftBlock_X7_weightOf rfl rfl rfl hd_X7_weightOf ⟨Nat.le_of_ble_eq_true rfl, Nat.le_of_ble_eq_true rfl⟩) hK hZ hT hA hP hD hS hl.1 rfl rfl (Nat.le_of_ble_eq_true rfl) ⟨Nat.le_of_ble_eq_true rfl, Nat.le_of_ble_eq_true rfl⟩ dX7_liftBlock_15 (fun H locs hP hD hS => ?_)
  refine lv_bipush (v := 10) hx hb dX7_liftBlock_18 (by decide) ?_
  refine lv_aload_n hx hb dX7_liftBlock_20 rfl (lv_at hl 2 rfl) ?_
  refine va_get (D := gD g) (ci := 7) (v := .ref (hq 1)) (C := RX7) (T := TX7) (N := 15) hx hb hts hinX7 hown hK hP 0 rfl rfl 0 (by decide) k0 (fun _ h9 => h9) rfl dX7_liftBlock_21 ?_
  refine lv_iload_n hx hb dX7_liftBlock_24 rfl (lv_at hl 1 rfl) ?_
  obtain ⟨h7, hf⟩ := jbA_e hf
  refine va_iald hx hb hK hP 1 0 rfl rfl h7 dX7_liftBlock_25 ?_
  refine lv_isub hx hb dX7_liftBlock_26 ?_
  refine lv_imul hx hb dX7_liftBlock_27 ?_
  refine lv_topi (fun z8 ez8 => ?_)
  have hf := jbN_e hf ez8
  refine lv_istore (lv' := [(5, .int z8), (4, .int o3), (3, .int o1), (0, .ref (hq 0)), (1, .int a0), (2, .int a1)]) hx hb dX7_liftBlock_28 hl (by decide) rfl (fun ls hl => ?_)
  refine lv_aload_n hx hb dX7_liftBlock_30 rfl (lv_at hl 3 rfl) ?_
  refine va_get (D := gD g) (ci := 7) (v := .ref (hq 4)) (C := RX7) (T := TX7) (N := 15) hx hb hts hinX7 hown hK hP 0 rfl rfl 3 (by decide) k1 (fun _ h9 => h9) rfl dX7_liftBlock_31 ?_
  refine lv_iload_n hx hb dX7_liftBlock_34 rfl (lv_at hl 2 rfl) ?_
  refine lv_dup2_11 hx hb dX7_liftBlock_35 rfl rfl ?_
  obtain ⟨h9, hf⟩ := jbA_e hf
  refine va_iald hx hb hK hP 4 0 rfl rfl h9 dX7_liftBlock_36 ?_
  refine lv_iconst (v := 1) hx hb dX7_liftBlock_37 (by decide) ?_
  refine lv_isub hx hb dX7_liftBlock_38 ?_
  obtain ⟨h10, hf⟩ := jbA_e hf
  refine va_iast hx hb hK hP hD hS 4 0 rfl rfl h10 dX7_liftBlock_39 (fun H locs hP hD hS => ?_)
  obtain ⟨w11, ew11⟩ : ∃ y, y = (qSBlockCounts (upd (qBlockCounts qv) o1.toNatClampNeg (((qBlockCounts qv) o1.toNatClampNeg) - 1)) qv) := ⟨_, rfl⟩
  have hf := jbN_e hf ew11
  have hP : va_P (gD g) vwCl (wQ g hq w11) H := by rw [ew11]; exact hP
  have hD : va_D A (wQ g hq w11) := by rw [ew11]; exact hD
  refine lv_aload_n hx hb dX7_liftBlock_40 rfl (lv_at hl 3 rfl) ?_
  refine va_get (D := gD g) (ci := 7) (v := .ref (hq 9)) (C := RX7) (T := TX7) (N := 15) hx hb hts hinX7 hown hK hP 0 rfl rfl 8 (by decide) k2 (fun _ h9 => h9) rfl dX7_liftBlock_41 ?_
  refine lv_iload hx hb dX7_liftBlock_44 (lv_at hl 1 rfl) ?_
  refine lv_dup2_11 hx hb dX7_liftBlock_46 rfl rfl ?_
  obtain ⟨h12, hf⟩ := jbA_e hf
  refine va_iald hx hb hK hP 9 0 rfl rfl h12 dX7_liftBlock_47 ?_
  refine lv_iconst (v := 1) hx hb dX7_liftBlock_48 (by decide) ?_
  refine lv_iadd hx hb dX7_liftBlock_49 ?_
  obtain ⟨h13, hf⟩ := jbA_e hf
  refine va_iast hx hb hK hP hD hS 9 0 rfl rfl h13 dX7_liftBlock_50 (fun H locs hP hD hS => ?_)
  obtain ⟨w14, ew14⟩ : ∃ y, y = (qSYard (upd (qYard w11) o3.toNatClampNeg (((qYard w11) o3.toNatClampNeg) + 1)) w11) := ⟨_, rfl⟩
  have hf := jbN_e hf ew14
  have hP : va_P (gD g) vwCl (wQ g hq w14) H := by rw [ew14]; exact hP
  have hD : va_D A (wQ g hq w14) := by rw [ew14]; exact hD
  refine lv_aload_n hx hb dX7_liftBlock_51 rfl (lv_at hl 3 rfl) ?_
  refine lv_dup hx hb dX7_liftBlock_52 rfl ?_
  refine va_get (D := gD g) (ci := 7) (v := .int (qLifts w14)) (C := RX7) (T := TX7) (N := 15) hx hb hts hinX7 hown hK hP 0 rfl rfl 13 (by decide) k3 (fun _ h9 => h9) rfl dX7_liftBlock_53 ?_
  refine lv_iconst (v := 1) hx hb dX7_liftBlock_56 (by decide) ?_
  refine lv_iadd hx hb dX7_liftBlock_57 ?_
  refine va_put (D := gD g) (ci := 7) (v := .int ((qLifts w14) + 1)) (ty := .int) (C := RX7) (T := TX7) (N := 15) hx hb hts hinX7 tyX7 tyX7_ok nmX7 hown hK hP hD hS 0 rfl rfl 13 (by decide) k3 (fun _ h9 => h9) rfl (tyX7_ok 13 (by decide)) rfl rfl (Nat.le_of_ble_eq_true rfl) dX7_liftBlock_58 (fun H locs hP hD hS => ?_)
  obtain ⟨w15, ew15⟩ : ∃ y, y = (qSLifts ((qLifts w14) + 1) w14) := ⟨_, rfl⟩
  have hf := jbN_e hf ew15
  have hP : va_P (gD g) vwCl (wQ g hq w15) H := by rw [ew15]; exact hP
  have hD : va_D A (wQ g hq w15) := by rw [ew15]; exact hD
  refine lv_aload_n hx hb dX7_liftBlock_61 rfl (lv_at hl 3 rfl) ?_
  refine lv_dup hx hb dX7_liftBlock_62 rfl ?_
  refine va_get (D := gD g) (ci := 7) (v := .long (qWork w15)) (C := RX7) (T := TX7) (N := 15) hx hb hts hinX7 hown hK hP 0 rfl rfl 14 (by decide) k4 (fun _ h9 => h9) rfl dX7_liftBlock_63 ?_
  refine lv_iload hx hb dX7_liftBlock_66 (lv_at hl 0 rfl) ?_
  refine lv_i2l (v := z8.toInt64) hx hb dX7_liftBlock_68 rfl ?_
  refine lv_ladd hx hb dX7_liftBlock_69 ?_
  refine va_put (D := gD g) (ci := 7) (v := .long ((qWork w15) + (z8.toInt64))) (ty := .long) (C := RX7) (T := TX7) (N := 15) hx hb hts hinX7 tyX7 tyX7_ok nmX7 hown hK hP hD hS 0 rfl rfl 14 (by decide) k4 (fun _ h9 => h9) rfl (tyX7_ok 14 (by decide)) rfl rfl (Nat.le_of_ble_eq_true rfl) dX7_liftBlock_70 (fun H locs hP hD hS => ?_)
  obtain ⟨w16, ew16⟩ : ∃ y, y = (qSWork ((qWork w15) + (z8.toInt64)) w15) := ⟨_, rfl⟩
  have hf := jbN_e hf ew16
  have hP : va_P (gD g) vwCl (wQ g hq w16) H := by rw [ew16]; exact hP
  have hD : va_D A (wQ g hq w16) := by rw [ew16]; exact hD
  refine lv_iload hx hb dX7_liftBlock_73 (lv_at hl 0 rfl) ?_
  cases hf
  subst hQ
  exact rt_i hx hb hrt hlk rfl hK hP hD hS (Nat.le_of_ble_eq_true rfl) (Nat.le_of_ble_eq_true rfl) dX7_liftBlock_75
def f_X7_crushBlocks (qv : QV) (a0 : Int32) (a1 : Int32) : Option (Int32 × QV) :=
  if jIn a0 4 then
  if jIn a0 4 then
  jbN (qSYard (upd (qYard qv) a0.toNatClampNeg (((qYard qv) a0.toNatClampNeg) - a1)) qv) fun w3 =>
  jbN (qSRubble ((qRubble w3) + (2 * a1)) w3) fun w4 =>
  some ((qRubble w4), w4)
  else none
  else none
def rm_X7_crushBlocks : Room := { frames := 0, cells := 0, slots := 0, locals := 0 }
theorem hd_X7_crushBlocks : yX7_crushBlocks.cls = RX7 ∧ yX7_crushBlocks.cls ≠ "java/lang/invoke/MethodHandle" ∧ yX7_crushBlocks.cls ≠ "java/lang/invoke/VarHandle" ∧ (parseMethodDescriptor yX7_crushBlocks.desc).map (fun d => d.parameters.length) = some 2 := by decide +kernel
set_option maxHeartbeats 4000000 in
set_option maxRecDepth 100000 in
theorem c_X7_crushBlocks (l : Launch) (g : GG) (hq : Nat → Nat) (qv : QV)  (a0 : Int32) (a1 : Int32) (out : Int32 × QV) (hf : f_X7_crushBlocks qv a0 a1 = some out) : MtI l yX7_crushBlocks wsX7_crushBlocks rm_X7_crushBlocks g (wQ g hq qv) [.ref (hq 0), .int a0, .int a1] (out.1) (wQ g hq (out.2)) 0 0 := by
  refine fun sz => mt_of (cc := cX7_crushBlocks) (maxL := 3) (ret := (some .int)) (own := RX7) (Qc := fun A => va_Qi (fun r (_ : Unit) => r = (out.1)) (fun _ t => PosM g A (wQ g hq (out.2)) t) A) (by decide +kernel) rfl rfl (Nat.le_of_ble_eq_true rfl) ?_ sz
  intro p e s mi below meth c A ls hB hnm hrt hlk hP hD hl
  obtain ⟨hx, hb, hml, hown, hts, hK, hZ, hT, hA, -⟩ := hB
  have hS : va_S A s.heap s.heap [] := va_S.rf
  have hl : lv_has ls 3 [(0, .ref (hq 0)), (1, .int a0), (2, .int a1)] := hl
  have hinX7 : ∀ w ∈ wsX70, w ∈ wsX7_crushBlocks := by decide +kernel
  have k0 := hts (.fieldLink RX7 37 "TerraceQuarry$Quarry" "yard" "[I") (by decide +kernel)
  have k1 := hts (.fieldLink RX7 44 "TerraceQuarry$Quarry" "rubble" "I") (by decide +kernel)
  generalize hQ : MQ below _ _ _ _ _ _ = Q
  unfold f_X7_crushBlocks at hf
  refine lv_aload_n hx hb dX7_crushBlocks_0 rfl (lv_at hl 0 rfl) ?_
  refine va_get (D := gD g) (ci := 7) (v := .ref (hq 9)) (C := RX7) (T := TX7) (N := 15) hx hb hts hinX7 hown hK hP 0 rfl rfl 8 (by decide) k0 (fun _ h9 => h9) rfl dX7_crushBlocks_1 ?_
  refine lv_iload_n hx hb dX7_crushBlocks_4 rfl (lv_at hl 1 rfl) ?_
  refine lv_dup2_11 hx hb dX7_crushBlocks_5 rfl rfl ?_
  obtain ⟨h1, hf⟩ := jbA_e hf
  refine va_iald hx hb hK hP 9 0 rfl rfl h1 dX7_crushBlocks_6 ?_
  refine lv_iload_n hx hb dX7_crushBlocks_7 rfl (lv_at hl 2 rfl) ?_
  refine lv_isub hx hb dX7_crushBlocks_8 ?_
  obtain ⟨h2, hf⟩ := jbA_e hf
  refine va_iast hx hb hK hP hD hS 9 0 rfl rfl h2 dX7_crushBlocks_9 (fun H locs hP hD hS => ?_)
  obtain ⟨w3, ew3⟩ : ∃ y, y = (qSYard (upd (qYard qv) a0.toNatClampNeg (((qYard qv) a0.toNatClampNeg) - a1)) qv) := ⟨_, rfl⟩
  have hf := jbN_e hf ew3
  have hP : va_P (gD g) vwCl (wQ g hq w3) H := by rw [ew3]; exact hP
  have hD : va_D A (wQ g hq w3) := by rw [ew3]; exact hD
  refine lv_aload_n hx hb dX7_crushBlocks_10 rfl (lv_at hl 0 rfl) ?_
  refine lv_dup hx hb dX7_crushBlocks_11 rfl ?_
  refine va_get (D := gD g) (ci := 7) (v := .int (qRubble w3)) (C := RX7) (T := TX7) (N := 15) hx hb hts hinX7 hown hK hP 0 rfl rfl 11 (by decide) k1 (fun _ h9 => h9) rfl dX7_crushBlocks_12 ?_
  refine lv_iconst (v := 2) hx hb dX7_crushBlocks_15 (by decide) ?_
  refine lv_iload_n hx hb dX7_crushBlocks_16 rfl (lv_at hl 2 rfl) ?_
  refine lv_imul hx hb dX7_crushBlocks_17 ?_
  refine lv_iadd hx hb dX7_crushBlocks_18 ?_
  refine va_put (D := gD g) (ci := 7) (v := .int ((qRubble w3) + (2 * a1))) (ty := .int) (C := RX7) (T := TX7) (N := 15) hx hb hts hinX7 tyX7 tyX7_ok nmX7 hown hK hP hD hS 0 rfl rfl 11 (by decide) k1 (fun _ h9 => h9) rfl (tyX7_ok 11 (by decide)) rfl rfl (Nat.le_of_ble_eq_true rfl) dX7_crushBlocks_19 (fun H locs hP hD hS => ?_)
  obtain ⟨w4, ew4⟩ : ∃ y, y = (qSRubble ((qRubble w3) + (2 * a1)) w3) := ⟨_, rfl⟩
  have hf := jbN_e hf ew4
  have hP : va_P (gD g) vwCl (wQ g hq w4) H := by rw [ew4]; exact hP
  have hD : va_D A (wQ g hq w4) := by rw [ew4]; exact hD
  refine lv_aload_n hx hb dX7_crushBlocks_22 rfl (lv_at hl 0 rfl) ?_
  refine va_get (D := gD g) (ci := 7) (v := .int (qRubble w4)) (C := RX7) (T := TX7) (N := 15) hx hb hts hinX7 hown hK hP 0 rfl rfl 11 (by decide) k1 (fun _ h9 => h9) rfl dX7_crushBlocks_23 ?_
  cases hf
  subst hQ
  exact rt_i hx hb hrt hlk rfl hK hP hD hS (Nat.le_of_ble_eq_true rfl) (Nat.le_of_ble_eq_true rfl) dX7_crushBlocks_26
def f_X7_heightAt (qv : QV) (a0 : Int32) : Option Int32 :=
  if jIn a0 30 then
  some ((qHeights qv) a0.toNatClampNeg)
  else none
def rm_X7_heightAt : Room := { frames := 0, cells := 0, slots := 0, locals := 0 }
theorem hd_X7_heightAt : yX7_heightAt.cls = RX7 ∧ yX7_heightAt.cls ≠ "java/lang/invoke/MethodHandle" ∧ yX7_heightAt.cls ≠ "java/lang/invoke/VarHandle" ∧ (parseMethodDescriptor yX7_heightAt.desc).map (fun d => d.parameters.length) = some 1 := by decide +kernel
set_option maxHeartbeats 4000000 in
set_option maxRecDepth 100000 in
theorem c_X7_heightAt (l : Launch) (g : GG) (hq : Nat → Nat) (qv : QV)  (a0 : Int32) (out : Int32) (hf : f_X7_heightAt qv a0 = some out) : MtI l yX7_heightAt wsX7_heightAt rm_X7_heightAt g (wQ g hq qv) [.ref (hq 0), .int a0] out (wQ g hq qv) 0 0 := by
  refine fun sz => mt_of (cc := cX7_heightAt) (maxL := 2) (ret := (some .int)) (own := RX7) (Qc := fun A => va_Qi (fun r (_ : Unit) => r = out) (fun _ t => PosM g A (wQ g hq qv) t) A) (by decide +kernel) rfl rfl (Nat.le_of_ble_eq_true rfl) ?_ sz
  intro p e s mi below meth c A ls hB hnm hrt hlk hP hD hl
  obtain ⟨hx, hb, hml, hown, hts, hK, hZ, hT, hA, -⟩ := hB
  have hS : va_S A s.heap s.heap [] := va_S.rf
  have hl : lv_has ls 2 [(0, .ref (hq 0)), (1, .int a0)] := hl
  have hinX7 : ∀ w ∈ wsX70, w ∈ wsX7_heightAt := by decide +kernel
  have k0 := hts (.fieldLink RX7 9 "TerraceQuarry$Quarry" "heights" "[I") (by decide +kernel)
  generalize hQ : MQ below _ _ _ _ _ _ = Q
  unfold f_X7_heightAt at hf
  refine lv_aload_n hx hb dX7_heightAt_0 rfl (lv_at hl 0 rfl) ?_
  refine va_get (D := gD g) (ci := 7) (v := .ref (hq 1)) (C := RX7) (T := TX7) (N := 15) hx hb hts hinX7 hown hK hP 0 rfl rfl 0 (by decide) k0 (fun _ h9 => h9) rfl dX7_heightAt_1 ?_
  refine lv_iload_n hx hb dX7_heightAt_4 rfl (lv_at hl 1 rfl) ?_
  obtain ⟨h1, hf⟩ := jbA_e hf
  refine va_iald hx hb hK hP 1 0 rfl rfl h1 dX7_heightAt_5 ?_
  cases hf
  subst hQ
  exact rt_i hx hb hrt hlk rfl hK hP hD hS (Nat.le_of_ble_eq_true rfl) (Nat.le_of_ble_eq_true rfl) dX7_heightAt_6
def f_X7_stoneAt (qv : QV) (a0 : Int32) : Option Int32 :=
  if jIn a0 30 then
  some ((qStones qv) a0.toNatClampNeg)
  else none
def rm_X7_stoneAt : Room := { frames := 0, cells := 0, slots := 0, locals := 0 }
theorem hd_X7_stoneAt : yX7_stoneAt.cls = RX7 ∧ yX7_stoneAt.cls ≠ "java/lang/invoke/MethodHandle" ∧ yX7_stoneAt.cls ≠ "java/lang/invoke/VarHandle" ∧ (parseMethodDescriptor yX7_stoneAt.desc).map (fun d => d.parameters.length) = some 1 := by decide +kernel
set_option maxHeartbeats 4000000 in
set_option maxRecDepth 100000 in
theorem c_X7_stoneAt (l : Launch) (g : GG) (hq : Nat → Nat) (qv : QV)  (a0 : Int32) (out : Int32) (hf : f_X7_stoneAt qv a0 = some out) : MtI l yX7_stoneAt wsX7_stoneAt rm_X7_stoneAt g (wQ g hq qv) [.ref (hq 0), .int a0] out (wQ g hq qv) 0 0 := by
  refine fun sz => mt_of (cc := cX7_stoneAt) (maxL := 2) (ret := (some .int)) (own := RX7) (Qc := fun A => va_Qi (fun r (_ : Unit) => r = out) (fun _ t => PosM g A (wQ g hq qv) t) A) (by decide +kernel) rfl rfl (Nat.le_of_ble_eq_true rfl) ?_ sz
  intro p e s mi below meth c A ls hB hnm hrt hlk hP hD hl
  obtain ⟨hx, hb, hml, hown, hts, hK, hZ, hT, hA, -⟩ := hB
  have hS : va_S A s.heap s.heap [] := va_S.rf
  have hl : lv_has ls 2 [(0, .ref (hq 0)), (1, .int a0)] := hl
  have hinX7 : ∀ w ∈ wsX70, w ∈ wsX7_stoneAt := by decide +kernel
  have k0 := hts (.fieldLink RX7 15 "TerraceQuarry$Quarry" "stones" "[I") (by decide +kernel)
  generalize hQ : MQ below _ _ _ _ _ _ = Q
  unfold f_X7_stoneAt at hf
  refine lv_aload_n hx hb dX7_stoneAt_0 rfl (lv_at hl 0 rfl) ?_
  refine va_get (D := gD g) (ci := 7) (v := .ref (hq 2)) (C := RX7) (T := TX7) (N := 15) hx hb hts hinX7 hown hK hP 0 rfl rfl 1 (by decide) k0 (fun _ h9 => h9) rfl dX7_stoneAt_1 ?_
  refine lv_iload_n hx hb dX7_stoneAt_4 rfl (lv_at hl 1 rfl) ?_
  obtain ⟨h1, hf⟩ := jbA_e hf
  refine va_iald hx hb hK hP 2 0 rfl rfl h1 dX7_stoneAt_5 ?_
  cases hf
  subst hQ
  exact rt_i hx hb hrt hlk rfl hK hP hD hS (Nat.le_of_ble_eq_true rfl) (Nat.le_of_ble_eq_true rfl) dX7_stoneAt_6
def f_X7_hasLedgeAt (qv : QV) (a0 : Int32) : Option Int32 :=
  if jIn a0 30 then
  if vp_nar .boolean ((qLedges qv) a0.toNatClampNeg) = ((qLedges qv) a0.toNatClampNeg) then some ((qLedges qv) a0.toNatClampNeg) else none
  else none
def rm_X7_hasLedgeAt : Room := { frames := 0, cells := 0, slots := 0, locals := 0 }
theorem hd_X7_hasLedgeAt : yX7_hasLedgeAt.cls = RX7 ∧ yX7_hasLedgeAt.cls ≠ "java/lang/invoke/MethodHandle" ∧ yX7_hasLedgeAt.cls ≠ "java/lang/invoke/VarHandle" ∧ (parseMethodDescriptor yX7_hasLedgeAt.desc).map (fun d => d.parameters.length) = some 1 := by decide +kernel
set_option maxHeartbeats 4000000 in
set_option maxRecDepth 100000 in
theorem c_X7_hasLedgeAt (l : Launch) (g : GG) (hq : Nat → Nat) (qv : QV)  (a0 : Int32) (out : Int32) (hf : f_X7_hasLedgeAt qv a0 = some out) : MtI l yX7_hasLedgeAt wsX7_hasLedgeAt rm_X7_hasLedgeAt g (wQ g hq qv) [.ref (hq 0), .int a0] out (wQ g hq qv) 0 0 := by
  refine fun sz => mt_of (cc := cX7_hasLedgeAt) (maxL := 2) (ret := (some .boolean)) (own := RX7) (Qc := fun A => va_Qi (fun r (_ : Unit) => r = out) (fun _ t => PosM g A (wQ g hq qv) t) A) (by decide +kernel) rfl rfl (Nat.le_of_ble_eq_true rfl) ?_ sz
  intro p e s mi below meth c A ls hB hnm hrt hlk hP hD hl
  obtain ⟨hx, hb, hml, hown, hts, hK, hZ, hT, hA, -⟩ := hB
  have hS : va_S A s.heap s.heap [] := va_S.rf
  have hl : lv_has ls 2 [(0, .ref (hq 0)), (1, .int a0)] := hl
  have hinX7 : ∀ w ∈ wsX70, w ∈ wsX7_hasLedgeAt := by decide +kernel
  have k0 := hts (.fieldLink RX7 18 "TerraceQuarry$Quarry" "ledges" "[Z") (by decide +kernel)
  generalize hQ : MQ below _ _ _ _ _ _ = Q
  unfold f_X7_hasLedgeAt at hf
  refine lv_aload_n hx hb dX7_hasLedgeAt_0 rfl (lv_at hl 0 rfl) ?_
  refine va_get (D := gD g) (ci := 7) (v := .ref (hq 3)) (C := RX7) (T := TX7) (N := 15) hx hb hts hinX7 hown hK hP 0 rfl rfl 2 (by decide) k0 (fun _ h9 => h9) rfl dX7_hasLedgeAt_1 ?_
  refine lv_iload_n hx hb dX7_hasLedgeAt_4 rfl (lv_at hl 1 rfl) ?_
  obtain ⟨h1, hf⟩ := jbA_e hf
  refine va_zald hx hb hK hP 3 1 rfl rfl h1 dX7_hasLedgeAt_5 ?_
  obtain ⟨h2, hf⟩ := jbA_e hf
  cases hf
  subst hQ
  exact rt_i hx hb hrt hlk (nar_z h2) hK hP hD hS (Nat.le_of_ble_eq_true rfl) (Nat.le_of_ble_eq_true rfl) dX7_hasLedgeAt_6
def f_X7_blocksAt (qv : QV) (a0 : Int32) : Option Int32 :=
  if jIn a0 30 then
  some ((qBlockCounts qv) a0.toNatClampNeg)
  else none
def rm_X7_blocksAt : Room := { frames := 0, cells := 0, slots := 0, locals := 0 }
theorem hd_X7_blocksAt : yX7_blocksAt.cls = RX7 ∧ yX7_blocksAt.cls ≠ "java/lang/invoke/MethodHandle" ∧ yX7_blocksAt.cls ≠ "java/lang/invoke/VarHandle" ∧ (parseMethodDescriptor yX7_blocksAt.desc).map (fun d => d.parameters.length) = some 1 := by decide +kernel
set_option maxHeartbeats 4000000 in
set_option maxRecDepth 100000 in
theorem c_X7_blocksAt (l : Launch) (g : GG) (hq : Nat → Nat) (qv : QV)  (a0 : Int32) (out : Int32) (hf : f_X7_blocksAt qv a0 = some out) : MtI l yX7_blocksAt wsX7_blocksAt rm_X7_blocksAt g (wQ g hq qv) [.ref (hq 0), .int a0] out (wQ g hq qv) 0 0 := by
  refine fun sz => mt_of (cc := cX7_blocksAt) (maxL := 2) (ret := (some .int)) (own := RX7) (Qc := fun A => va_Qi (fun r (_ : Unit) => r = out) (fun _ t => PosM g A (wQ g hq qv) t) A) (by decide +kernel) rfl rfl (Nat.le_of_ble_eq_true rfl) ?_ sz
  intro p e s mi below meth c A ls hB hnm hrt hlk hP hD hl
  obtain ⟨hx, hb, hml, hown, hts, hK, hZ, hT, hA, -⟩ := hB
  have hS : va_S A s.heap s.heap [] := va_S.rf
  have hl : lv_has ls 2 [(0, .ref (hq 0)), (1, .int a0)] := hl
  have hinX7 : ∀ w ∈ wsX70, w ∈ wsX7_blocksAt := by decide +kernel
  have k0 := hts (.fieldLink RX7 22 "TerraceQuarry$Quarry" "blockCounts" "[I") (by decide +kernel)
  generalize hQ : MQ below _ _ _ _ _ _ = Q
  unfold f_X7_blocksAt at hf
  refine lv_aload_n hx hb dX7_blocksAt_0 rfl (lv_at hl 0 rfl) ?_
  refine va_get (D := gD g) (ci := 7) (v := .ref (hq 4)) (C := RX7) (T := TX7) (N := 15) hx hb hts hinX7 hown hK hP 0 rfl rfl 3 (by decide) k0 (fun _ h9 => h9) rfl dX7_blocksAt_1 ?_
  refine lv_iload_n hx hb dX7_blocksAt_4 rfl (lv_at hl 1 rfl) ?_
  obtain ⟨h1, hf⟩ := jbA_e hf
  refine va_iald hx hb hK hP 4 0 rfl rfl h1 dX7_blocksAt_5 ?_
  cases hf
  subst hQ
  exact rt_i hx hb hrt hlk rfl hK hP hD hS (Nat.le_of_ble_eq_true rfl) (Nat.le_of_ble_eq_true rfl) dX7_blocksAt_6
def f_X7_steepestAt (qv : QV) (a0 : Int32) : Option Int32 :=
  if jIn a0 30 then
  (f_X7_steepestFrom qv a0 ((qHeights qv) a0.toNatClampNeg)).bind fun o2 =>
  some o2
  else none
def rm_X7_steepestAt : Room := { frames := 2, cells := 0, slots := 0, locals := 50 }
theorem hd_X7_steepestAt : yX7_steepestAt.cls = RX7 ∧ yX7_steepestAt.cls ≠ "java/lang/invoke/MethodHandle" ∧ yX7_steepestAt.cls ≠ "java/lang/invoke/VarHandle" ∧ (parseMethodDescriptor yX7_steepestAt.desc).map (fun d => d.parameters.length) = some 1 := by decide +kernel
set_option maxHeartbeats 4000000 in
set_option maxRecDepth 100000 in
theorem c_X7_steepestAt (l : Launch) (g : GG) (hq : Nat → Nat) (qv : QV)  (a0 : Int32) (out : Int32) (hf : f_X7_steepestAt qv a0 = some out) : MtI l yX7_steepestAt wsX7_steepestAt rm_X7_steepestAt g (wQ g hq qv) [.ref (hq 0), .int a0] out (wQ g hq qv) 0 0 := by
  refine fun sz => mt_of (cc := cX7_steepestAt) (maxL := 2) (ret := (some .int)) (own := RX7) (Qc := fun A => va_Qi (fun r (_ : Unit) => r = out) (fun _ t => PosM g A (wQ g hq qv) t) A) (by decide +kernel) rfl rfl (Nat.le_of_ble_eq_true rfl) ?_ sz
  intro p e s mi below meth c A ls hB hnm hrt hlk hP hD hl
  obtain ⟨hx, hb, hml, hown, hts, hK, hZ, hT, hA, -⟩ := hB
  have hS : va_S A s.heap s.heap [] := va_S.rf
  have hl : lv_has ls 2 [(0, .ref (hq 0)), (1, .int a0)] := hl
  have hinX7 : ∀ w ∈ wsX70, w ∈ wsX7_steepestAt := by decide +kernel
  have k0 := hts (.fieldLink RX7 9 "TerraceQuarry$Quarry" "heights" "[I") (by decide +kernel)
  generalize hQ : MQ below _ _ _ _ _ _ = Q
  unfold f_X7_steepestAt at hf
  refine lv_aload_n hx hb dX7_steepestAt_0 rfl (lv_at hl 0 rfl) ?_
  refine lv_iload_n hx hb dX7_steepestAt_1 rfl (lv_at hl 1 rfl) ?_
  refine lv_aload_n hx hb dX7_steepestAt_2 rfl (lv_at hl 0 rfl) ?_
  refine va_get (D := gD g) (ci := 7) (v := .ref (hq 1)) (C := RX7) (T := TX7) (N := 15) hx hb hts hinX7 hown hK hP 0 rfl rfl 0 (by decide) k0 (fun _ h9 => h9) rfl dX7_steepestAt_3 ?_
  refine lv_iload_n hx hb dX7_steepestAt_6 rfl (lv_at hl 1 rfl) ?_
  obtain ⟨h1, hf⟩ := jbA_e hf
  refine va_iald hx hb hK hP 1 0 rfl rfl h1 dX7_steepestAt_7 ?_
  obtain ⟨o2, g3, hf⟩ := jbB_e hf
  refine cva_i (As := [.int a0, .int ((qHeights qv) a0.toNatClampNeg)]) (rest := []) ⟨hx, hb, hml, hown, hts⟩ (c_X7_steepestFrom l g hq qv a0 ((qHeights qv) a0.toNatClampNeg) _ g3) (cwV 2 hts gX7_steepestAt_X7_steepestFrom rfl rfl rfl hd_X7_steepestFrom ⟨Nat.le_of_ble_eq_true rfl, Nat.le_of_ble_eq_true rfl⟩) hK hZ hT hA hP hD hS hl.1 (va_recv hK hP (ci := 7) (q0 := 0) rfl rfl) rfl rfl (Nat.le_of_ble_eq_true rfl) ⟨Nat.le_of_ble_eq_true rfl, Nat.le_of_ble_eq_true rfl⟩ dX7_steepestAt_8 (fun H locs hP hD hS => ?_)
  cases hf
  subst hQ
  exact rt_i hx hb hrt hlk rfl hK hP hD hS (Nat.le_of_ble_eq_true rfl) (Nat.le_of_ble_eq_true rfl) dX7_steepestAt_11
def f_X7_countCuttable_J31 (qv : QV) (x1 : Int32) (x2 : Int32) : Option (Sum (Int32 × Int32) (Int32 × Int32)) :=
  some (.inl (x1, (x2 + 1)))
def f_X7_countCuttable_L4 (qv : QV) (x1 : Int32) (x2 : Int32) : Option (Sum (Int32 × Int32) (Int32 × Int32)) :=
  if 30 ≤ x2 then
  (some (.inr (x1, x2)))
  else
  ((f_X3_rowOf x2).bind fun o1 =>
  (f_X3_columnOf x2).bind fun o3 =>
  (f_X7_cutFault qv o1 o3).bind fun o5 =>
  if o5 < 6 then
  if o5 = 0 then
  (f_X7_countCuttable_J31 qv (x1 + 1) x2)
  else
  (f_X7_countCuttable_J31 qv x1 x2)
  else none)
def f_X7_countCuttable (qv : QV) : Option Int32 :=
  (jbL (fun s => f_X7_countCuttable_L4 qv (s.1) (s.2)) 5000 (0, 0)).bind fun o4 =>
  some (o4.1)
def rm_X7_countCuttable : Room := { frames := 3, cells := 0, slots := 0, locals := 73 }
theorem hd_X7_countCuttable : yX7_countCuttable.cls = RX7 ∧ yX7_countCuttable.cls ≠ "java/lang/invoke/MethodHandle" ∧ yX7_countCuttable.cls ≠ "java/lang/invoke/VarHandle" ∧ (parseMethodDescriptor yX7_countCuttable.desc).map (fun d => d.parameters.length) = some 0 := by decide +kernel
set_option maxHeartbeats 4000000 in
set_option maxRecDepth 100000 in
theorem c_X7_countCuttable (l : Launch) (g : GG) (hq : Nat → Nat) (qv : QV)   (out : Int32) (hf : f_X7_countCuttable qv = some out) : MtI l yX7_countCuttable wsX7_countCuttable rm_X7_countCuttable g (wQ g hq qv) [.ref (hq 0)] out (wQ g hq qv) 0 0 := by
  refine fun sz => mt_of (cc := cX7_countCuttable) (maxL := 3) (ret := (some .int)) (own := RX7) (Qc := fun A => va_Qi (fun r (_ : Unit) => r = out) (fun _ t => PosM g A (wQ g hq qv) t) A) (by decide +kernel) rfl rfl (Nat.le_of_ble_eq_true rfl) ?_ sz
  intro p e s mi below meth c A ls hB hnm hrt hlk hP hD hl
  obtain ⟨hx, hb, hml, hown, hts, hK, hZ, hT, hA, -⟩ := hB
  have hS : va_S A s.heap s.heap [] := va_S.rf
  have hl : lv_has ls 3 [(0, .ref (hq 0))] := hl
  have k0 := hts (.fieldLink RX7 66 "TerraceQuarry$Fault" "NONE" "LTerraceQuarry$Fault;") (by decide +kernel)
  generalize hQ : MQ below _ _ _ _ _ _ = Q
  unfold f_X7_countCuttable at hf
  have hL4 : ∀ (n : Nat) (x1 : Int32) (x2 : Int32) (H : Heap) (locs : List Loc) (ls : Array Slot) (o4 : Int32 × Int32), jbL (fun s => f_X7_countCuttable_L4 qv (s.1) (s.2)) n (x1, x2) = some o4 → va_P (gD g) vwCl (wQ g hq qv) H → va_D A (wQ g hq qv) → va_S A s.heap H locs → lv_has ls 3 [(0, .ref (hq 0)), (1, .int x1), (2, .int x2)] → (∀ (H : Heap) (locs : List Loc) (ls : Array Slot), va_P (gD g) vwCl (wQ g hq qv) H → va_D A (wQ g hq qv) → va_S A s.heap H locs → lv_has ls 3 [(1, .int (o4.1))] → W p l e rm_X7_countCuttable s mi [.ref (hq 0)].toArray below meth c H locs 0 0 Q (F0 mi 37 ls [])) → W p l e rm_X7_countCuttable s mi [.ref (hq 0)].toArray below meth c H locs 0 0 Q (F0 mi 4 ls []) := by
    intro n
    induction n with
    | zero => intro x1 x2 H locs ls o4 hf; exact absurd hf (jbL_0 _ _ _)
    | succ n ih =>
      intro x1 x2 H locs ls o4 hf hP hD hS hl hk
      obtain ⟨r, hf, hr⟩ := jbL_e hf
      have hf : f_X7_countCuttable_L4 qv x1 x2 = some r := hf
      unfold f_X7_countCuttable_L4 at hf
      have hJ31 : ∀ (x1 : Int32) (x2 : Int32) (H : Heap) (locs : List Loc) (ls : Array Slot) (r : Sum (Int32 × Int32) (Int32 × Int32)), f_X7_countCuttable_J31 qv x1 x2 = some r → jbR (fun s => f_X7_countCuttable_L4 qv (s.1) (s.2)) n o4 r → va_P (gD g) vwCl (wQ g hq qv) H → va_D A (wQ g hq qv) → va_S A s.heap H locs → lv_has ls 3 [(0, .ref (hq 0)), (1, .int x1), (2, .int x2)] → W p l e rm_X7_countCuttable s mi [.ref (hq 0)].toArray below meth c H locs 0 0 Q (F0 mi 31 ls []) := by
        intro x1 x2 H locs ls r hf hr hP hD hS hl
        unfold f_X7_countCuttable_J31 at hf
        refine lv_iinc (v := (x2 + 1)) (lv' := [(2, .int (x2 + 1)), (0, .ref (hq 0)), (1, .int x1)]) hx hb dX7_countCuttable_31 hl (k := 2) rfl rfl (by decide) rfl (fun ls hl => ?_)
        refine lv_goto (tgt := 4) hx hb dX7_countCuttable_34 (by decide) ?_
        cases hf
        exact ih x1 (x2 + 1) _ _ _ _ hr hP hD hS (lv_sub hl [1, 2, 0] rfl) hk
      refine lv_iload_n hx hb dX7_countCuttable_4 rfl (lv_at hl 2 rfl) ?_
      refine lv_bipush (v := 30) hx hb dX7_countCuttable_5 (by decide) ?_
      refine lv_icmp_ge (tgt := 37) hx hb dX7_countCuttable_7 (by decide) (fun hc => ?_) (fun hc => ?_)
      · have hf := jbT hf hc
        cases hf
        obtain rfl := jbR_r hr
        exact hk _ _ _ hP hD hS (lv_sub hl [1] rfl)
      · have hf := jbF hf hc
        refine lv_aload_n hx hb dX7_countCuttable_10 rfl (lv_at hl 0 rfl) ?_
        refine lv_iload_n hx hb dX7_countCuttable_11 rfl (lv_at hl 2 rfl) ?_
        obtain ⟨o1, g2, hf⟩ := jbB_e hf
        refine csn_i (As := [.int x2]) (rest := [.ref (hq 0)]) ⟨hx, hb, hml, hown, hts⟩ (c_X3_rowOf l g x2 _ g2) (va_cwS 1 hts gX7_countCuttable_X3_rowOf rfl rfl rfl hd_X3_rowOf ⟨Nat.le_of_ble_eq_true rfl, Nat.le_of_ble_eq_true rfl⟩) hK hZ hT hA hP hD hS hl.1 rfl rfl (Nat.le_of_ble_eq_true rfl) ⟨Nat.le_of_ble_eq_true rfl, Nat.le_of_ble_eq_true rfl⟩ dX7_countCuttable_12 (fun H locs hP hD hS => ?_)
        refine lv_iload_n hx hb dX7_countCuttable_15 rfl (lv_at hl 2 rfl) ?_
        obtain ⟨o3, g4, hf⟩ := jbB_e hf
        refine csn_i (As := [.int x2]) (rest := [.int o1, .ref (hq 0)]) ⟨hx, hb, hml, hown, hts⟩ (c_X3_columnOf l g x2 _ g4) (va_cwS 1 hts gX7_countCuttable_X3_columnOf rfl rfl rfl hd_X3_columnOf ⟨Nat.le_of_ble_eq_true rfl, Nat.le_of_ble_eq_true rfl⟩) hK hZ hT hA hP hD hS hl.1 rfl rfl (Nat.le_of_ble_eq_true rfl) ⟨Nat.le_of_ble_eq_true rfl, Nat.le_of_ble_eq_true rfl⟩ dX7_countCuttable_16 (fun H locs hP hD hS => ?_)
        obtain ⟨o5, g6, hf⟩ := jbB_e hf
        refine cva_e (As := [.int o1, .int o3]) (rest := []) ⟨hx, hb, hml, hown, hts⟩ (c_X7_cutFault l g hq qv o1 o3 _ g6) (cwV 2 hts gX7_countCuttable_X7_cutFault rfl rfl rfl hd_X7_cutFault ⟨Nat.le_of_ble_eq_true rfl, Nat.le_of_ble_eq_true rfl⟩) hK hZ hT hA hP hD hS hl.1 (va_recv hK hP (ci := 7) (q0 := 0) rfl rfl) rfl rfl (Nat.le_of_ble_eq_true rfl) ⟨Nat.le_of_ble_eq_true rfl, Nat.le_of_ble_eq_true rfl⟩ dX7_countCuttable_19 (fun H locs hP hD hS => ?_)
        refine va_gets (C := "TerraceQuarry$Fault") (n := "NONE") (d := "LTerraceQuarry$Fault;") (v := .ref (gS g 0 0)) hx hb (hZ.1.1 0 (by decide)).1 hS hown k0 (fun _ h9 => h9) dX7_countCuttable_22 ?_
        obtain ⟨h7, hf⟩ := jbA_e hf
        refine lv_acmp_ne (rx := some (gS g 0 o5)) (ry := some (gS g 0 0)) (tgt := 31) hx hb dX7_countCuttable_25 (by decide) (fun hc => ?_) (fun hc => ?_)
        · have hf := jbF hf (enN hc)
          exact hJ31 x1 x2 _ _ _ _ hf hr hP hD hS (lv_sub hl [0, 1, 2] rfl)
        · have hf := jbT hf (enF hZ h7 (by decide) hc)
          refine lv_iinc (v := (x1 + 1)) (lv' := [(1, .int (x1 + 1)), (0, .ref (hq 0)), (2, .int x2)]) hx hb dX7_countCuttable_28 hl (k := 1) rfl rfl (by decide) rfl (fun ls hl => ?_)
          exact hJ31 (x1 + 1) x2 _ _ _ _ hf hr hP hD hS (lv_sub hl [1, 0, 2] rfl)
  refine lv_iconst (v := 0) hx hb dX7_countCuttable_0 (by decide) ?_
  refine lv_istore_n (lv' := [(1, .int 0), (0, .ref (hq 0))]) hx hb dX7_countCuttable_1 rfl hl (by decide) rfl (fun ls hl => ?_)
  refine lv_iconst (v := 0) hx hb dX7_countCuttable_2 (by decide) ?_
  refine lv_istore_n (lv' := [(2, .int 0), (1, .int 0), (0, .ref (hq 0))]) hx hb dX7_countCuttable_3 rfl hl (by decide) rfl (fun ls hl => ?_)
  obtain ⟨o4, hg, hf⟩ := jbB_e hf
  refine hL4 _ 0 0 _ _ _ _ hg hP hD hS (lv_sub hl [2, 1, 0] rfl) (fun H locs ls hP hD hS hl => ?_)
  refine lv_iload_n hx hb dX7_countCuttable_37 rfl (lv_at hl 0 rfl) ?_
  cases hf
  subst hQ
  exact rt_i hx hb hrt hlk rfl hK hP hD hS (Nat.le_of_ble_eq_true rfl) (Nat.le_of_ble_eq_true rfl) dX7_countCuttable_38
def f_X7_countAt_J23 (qv : QV) (x1 : Int32) (x2 : Int32) (x3 : Int32) : Option (Sum (Int32 × Int32) (Int32 × Int32)) :=
  some (.inl (x2, (x3 + 1)))
def f_X7_countAt_L4 (qv : QV) (x1 : Int32) (x2 : Int32) (x3 : Int32) : Option (Sum (Int32 × Int32) (Int32 × Int32)) :=
  if 30 ≤ x3 then
  (some (.inr (x2, x3)))
  else
  (if jIn x3 30 then
  if ((qHeights qv) x3.toNatClampNeg) = x1 then
  (f_X7_countAt_J23 qv x1 (x2 + 1) x3)
  else
  (f_X7_countAt_J23 qv x1 x2 x3)
  else none)
def f_X7_countAt (qv : QV) (a0 : Int32) : Option Int32 :=
  (jbL (fun s => f_X7_countAt_L4 qv a0 (s.1) (s.2)) 5000 (0, 0)).bind fun o4 =>
  some (o4.1)
def rm_X7_countAt : Room := { frames := 0, cells := 0, slots := 0, locals := 0 }
theorem hd_X7_countAt : yX7_countAt.cls = RX7 ∧ yX7_countAt.cls ≠ "java/lang/invoke/MethodHandle" ∧ yX7_countAt.cls ≠ "java/lang/invoke/VarHandle" ∧ (parseMethodDescriptor yX7_countAt.desc).map (fun d => d.parameters.length) = some 1 := by decide +kernel
set_option maxHeartbeats 4000000 in
set_option maxRecDepth 100000 in
theorem c_X7_countAt (l : Launch) (g : GG) (hq : Nat → Nat) (qv : QV)  (a0 : Int32) (out : Int32) (hf : f_X7_countAt qv a0 = some out) : MtI l yX7_countAt wsX7_countAt rm_X7_countAt g (wQ g hq qv) [.ref (hq 0), .int a0] out (wQ g hq qv) 0 0 := by
  refine fun sz => mt_of (cc := cX7_countAt) (maxL := 4) (ret := (some .int)) (own := RX7) (Qc := fun A => va_Qi (fun r (_ : Unit) => r = out) (fun _ t => PosM g A (wQ g hq qv) t) A) (by decide +kernel) rfl rfl (Nat.le_of_ble_eq_true rfl) ?_ sz
  intro p e s mi below meth c A ls hB hnm hrt hlk hP hD hl
  obtain ⟨hx, hb, hml, hown, hts, hK, hZ, hT, hA, -⟩ := hB
  have hS : va_S A s.heap s.heap [] := va_S.rf
  have hl : lv_has ls 4 [(0, .ref (hq 0)), (1, .int a0)] := hl
  have hinX7 : ∀ w ∈ wsX70, w ∈ wsX7_countAt := by decide +kernel
  have k0 := hts (.fieldLink RX7 9 "TerraceQuarry$Quarry" "heights" "[I") (by decide +kernel)
  generalize hQ : MQ below _ _ _ _ _ _ = Q
  unfold f_X7_countAt at hf
  have hL4 : ∀ (x1 : Int32) (n : Nat) (x2 : Int32) (x3 : Int32) (H : Heap) (locs : List Loc) (ls : Array Slot) (o4 : Int32 × Int32), jbL (fun s => f_X7_countAt_L4 qv x1 (s.1) (s.2)) n (x2, x3) = some o4 → va_P (gD g) vwCl (wQ g hq qv) H → va_D A (wQ g hq qv) → va_S A s.heap H locs → lv_has ls 4 [(0, .ref (hq 0)), (1, .int x1), (2, .int x2), (3, .int x3)] → (∀ (H : Heap) (locs : List Loc) (ls : Array Slot), va_P (gD g) vwCl (wQ g hq qv) H → va_D A (wQ g hq qv) → va_S A s.heap H locs → lv_has ls 4 [(2, .int (o4.1))] → W p l e rm_X7_countAt s mi [.ref (hq 0), .int a0].toArray below meth c H locs 0 0 Q (F0 mi 29 ls [])) → W p l e rm_X7_countAt s mi [.ref (hq 0), .int a0].toArray below meth c H locs 0 0 Q (F0 mi 4 ls []) := by
    intro x1 n
    induction n with
    | zero => intro x2 x3 H locs ls o4 hf; exact absurd hf (jbL_0 _ _ _)
    | succ n ih =>
      intro x2 x3 H locs ls o4 hf hP hD hS hl hk
      obtain ⟨r, hf, hr⟩ := jbL_e hf
      have hf : f_X7_countAt_L4 qv x1 x2 x3 = some r := hf
      unfold f_X7_countAt_L4 at hf
      have hJ23 : ∀ (x2 : Int32) (x3 : Int32) (H : Heap) (locs : List Loc) (ls : Array Slot) (r : Sum (Int32 × Int32) (Int32 × Int32)), f_X7_countAt_J23 qv x1 x2 x3 = some r → jbR (fun s => f_X7_countAt_L4 qv x1 (s.1) (s.2)) n o4 r → va_P (gD g) vwCl (wQ g hq qv) H → va_D A (wQ g hq qv) → va_S A s.heap H locs → lv_has ls 4 [(0, .ref (hq 0)), (1, .int x1), (2, .int x2), (3, .int x3)] → W p l e rm_X7_countAt s mi [.ref (hq 0), .int a0].toArray below meth c H locs 0 0 Q (F0 mi 23 ls []) := by
        intro x2 x3 H locs ls r hf hr hP hD hS hl
        unfold f_X7_countAt_J23 at hf
        refine lv_iinc (v := (x3 + 1)) (lv' := [(3, .int (x3 + 1)), (0, .ref (hq 0)), (1, .int x1), (2, .int x2)]) hx hb dX7_countAt_23 hl (k := 3) rfl rfl (by decide) rfl (fun ls hl => ?_)
        refine lv_goto (tgt := 4) hx hb dX7_countAt_26 (by decide) ?_
        cases hf
        exact ih x2 (x3 + 1) _ _ _ _ hr hP hD hS (lv_sub hl [1, 2, 3, 0] rfl) hk
      refine lv_iload_n hx hb dX7_countAt_4 rfl (lv_at hl 3 rfl) ?_
      refine lv_bipush (v := 30) hx hb dX7_countAt_5 (by decide) ?_
      refine lv_icmp_ge (tgt := 29) hx hb dX7_countAt_7 (by decide) (fun hc => ?_) (fun hc => ?_)
      · have hf := jbT hf hc
        cases hf
        obtain rfl := jbR_r hr
        exact hk _ _ _ hP hD hS (lv_sub hl [2] rfl)
      · have hf := jbF hf hc
        refine lv_aload_n hx hb dX7_countAt_10 rfl (lv_at hl 0 rfl) ?_
        refine va_get (D := gD g) (ci := 7) (v := .ref (hq 1)) (C := RX7) (T := TX7) (N := 15) hx hb hts hinX7 hown hK hP 0 rfl rfl 0 (by decide) k0 (fun _ h9 => h9) rfl dX7_countAt_11 ?_
        refine lv_iload_n hx hb dX7_countAt_14 rfl (lv_at hl 3 rfl) ?_
        obtain ⟨h1, hf⟩ := jbA_e hf
        refine va_iald hx hb hK hP 1 0 rfl rfl h1 dX7_countAt_15 ?_
        refine lv_iload_n hx hb dX7_countAt_16 rfl (lv_at hl 1 rfl) ?_
        refine lv_icmp_ne (tgt := 23) hx hb dX7_countAt_17 (by decide) (fun hc => ?_) (fun hc => ?_)
        · have hf := jbF hf hc
          exact hJ23 x2 x3 _ _ _ _ hf hr hP hD hS (lv_sub hl [0, 1, 2, 3] rfl)
        · have hf := jbT hf hc
          refine lv_iinc (v := (x2 + 1)) (lv' := [(2, .int (x2 + 1)), (0, .ref (hq 0)), (1, .int x1), (3, .int x3)]) hx hb dX7_countAt_20 hl (k := 2) rfl rfl (by decide) rfl (fun ls hl => ?_)
          exact hJ23 (x2 + 1) x3 _ _ _ _ hf hr hP hD hS (lv_sub hl [1, 2, 0, 3] rfl)
  refine lv_iconst (v := 0) hx hb dX7_countAt_0 (by decide) ?_
  refine lv_istore_n (lv' := [(2, .int 0), (0, .ref (hq 0)), (1, .int a0)]) hx hb dX7_countAt_1 rfl hl (by decide) rfl (fun ls hl => ?_)
  refine lv_iconst (v := 0) hx hb dX7_countAt_2 (by decide) ?_
  refine lv_istore_n (lv' := [(3, .int 0), (2, .int 0), (0, .ref (hq 0)), (1, .int a0)]) hx hb dX7_countAt_3 rfl hl (by decide) rfl (fun ls hl => ?_)
  obtain ⟨o4, hg, hf⟩ := jbB_e hf
  refine hL4 a0 _ 0 0 _ _ _ _ hg hP hD hS (lv_sub hl [2, 3, 1, 0] rfl) (fun H locs ls hP hD hS hl => ?_)
  refine lv_iload_n hx hb dX7_countAt_29 rfl (lv_at hl 0 rfl) ?_
  cases hf
  subst hQ
  exact rt_i hx hb hrt hlk rfl hK hP hD hS (Nat.le_of_ble_eq_true rfl) (Nat.le_of_ble_eq_true rfl) dX7_countAt_30
def f_X7_cutsByDistance_L5 (qv : QV) (x1 : Int32) (x2 : Int32) (x3 : Int32) (x4 : Int32) : Option (Sum (Int32 × Int32) (Int32 × Int32)) :=
  if 30 ≤ x4 then
  (some (.inr (x3, x4)))
  else
  ((f_X3_distance x1 x4).bind fun o1 =>
  jbN (x2 + ((qLimit qv) * o1)) fun z3 =>
  if jIn x4 30 then
  jbN (x3 + (jMax 0 (((qHeights qv) x4.toNatClampNeg) - z3))) fun z5 =>
  some (.inl (z5, (x4 + 1)))
  else none)
def f_X7_cutsByDistance (qv : QV) (a0 : Int32) (a1 : Int32) : Option Int32 :=
  (jbL (fun s => f_X7_cutsByDistance_L5 qv a0 a1 (s.1) (s.2)) 5000 (0, 0)).bind fun o5 =>
  some (o5.1)
def rm_X7_cutsByDistance : Room := { frames := 2, cells := 0, slots := 0, locals := 46 }
theorem hd_X7_cutsByDistance : yX7_cutsByDistance.cls = RX7 ∧ yX7_cutsByDistance.cls ≠ "java/lang/invoke/MethodHandle" ∧ yX7_cutsByDistance.cls ≠ "java/lang/invoke/VarHandle" ∧ (parseMethodDescriptor yX7_cutsByDistance.desc).map (fun d => d.parameters.length) = some 2 := by decide +kernel
set_option maxHeartbeats 4000000 in
set_option maxRecDepth 100000 in
theorem c_X7_cutsByDistance (l : Launch) (g : GG) (hq : Nat → Nat) (qv : QV)  (a0 : Int32) (a1 : Int32) (out : Int32) (hf : f_X7_cutsByDistance qv a0 a1 = some out) : MtI l yX7_cutsByDistance wsX7_cutsByDistance rm_X7_cutsByDistance g (wQ g hq qv) [.ref (hq 0), .int a0, .int a1] out (wQ g hq qv) 0 0 := by
  refine fun sz => mt_of (cc := cX7_cutsByDistance) (maxL := 6) (ret := (some .int)) (own := RX7) (Qc := fun A => va_Qi (fun r (_ : Unit) => r = out) (fun _ t => PosM g A (wQ g hq qv) t) A) (by decide +kernel) rfl rfl (Nat.le_of_ble_eq_true rfl) ?_ sz
  intro p e s mi below meth c A ls hB hnm hrt hlk hP hD hl
  obtain ⟨hx, hb, hml, hown, hts, hK, hZ, hT, hA, -⟩ := hB
  have hS : va_S A s.heap s.heap [] := va_S.rf
  have hl : lv_has ls 6 [(0, .ref (hq 0)), (1, .int a0), (2, .int a1)] := hl
  have hinX7 : ∀ w ∈ wsX70, w ∈ wsX7_cutsByDistance := by decide +kernel
  have k0 := hts (.fieldLink RX7 40 "TerraceQuarry$Quarry" "limit" "I") (by decide +kernel)
  have k1 := hts (.fieldLink RX7 9 "TerraceQuarry$Quarry" "heights" "[I") (by decide +kernel)
  have k2 := hts (.methodLink RX7 132 Lib.Math.max.name) (by decide +kernel)
  have k3 := hts (.static Lib.Math.max.name) (by decide +kernel)
  have k4 := hts (.initialized "java/lang/Math") (by decide +kernel)
  have k5 := hts (.code Lib.Math.max.name Lib.Math.max.code 2 (some .int)) (by decide +kernel)
  generalize hQ : MQ below _ _ _ _ _ _ = Q
  unfold f_X7_cutsByDistance at hf
  have hL5 : ∀ (x1 : Int32) (x2 : Int32) (n : Nat) (x3 : Int32) (x4 : Int32) (H : Heap) (locs : List Loc) (ls : Array Slot) (o5 : Int32 × Int32), jbL (fun s => f_X7_cutsByDistance_L5 qv x1 x2 (s.1) (s.2)) n (x3, x4) = some o5 → va_P (gD g) vwCl (wQ g hq qv) H → va_D A (wQ g hq qv) → va_S A s.heap H locs → lv_has ls 6 [(0, .ref (hq 0)), (1, .int x1), (2, .int x2), (3, .int x3), (4, .int x4)] → (∀ (H : Heap) (locs : List Loc) (ls : Array Slot), va_P (gD g) vwCl (wQ g hq qv) H → va_D A (wQ g hq qv) → va_S A s.heap H locs → lv_has ls 6 [(3, .int (o5.1))] → W p l e rm_X7_cutsByDistance s mi [.ref (hq 0), .int a0, .int a1].toArray below meth c H locs 0 0 Q (F0 mi 50 ls [])) → W p l e rm_X7_cutsByDistance s mi [.ref (hq 0), .int a0, .int a1].toArray below meth c H locs 0 0 Q (F0 mi 5 ls []) := by
    intro x1 x2 n
    induction n with
    | zero => intro x3 x4 H locs ls o5 hf; exact absurd hf (jbL_0 _ _ _)
    | succ n ih =>
      intro x3 x4 H locs ls o5 hf hP hD hS hl hk
      obtain ⟨r, hf, hr⟩ := jbL_e hf
      have hf : f_X7_cutsByDistance_L5 qv x1 x2 x3 x4 = some r := hf
      unfold f_X7_cutsByDistance_L5 at hf
      refine lv_iload hx hb dX7_cutsByDistance_5 (lv_at hl 4 rfl) ?_
      refine lv_bipush (v := 30) hx hb dX7_cutsByDistance_7 (by decide) ?_
      refine lv_icmp_ge (tgt := 50) hx hb dX7_cutsByDistance_9 (by decide) (fun hc => ?_) (fun hc => ?_)
      · have hf := jbT hf hc
        cases hf
        obtain rfl := jbR_r hr
        exact hk _ _ _ hP hD hS (lv_sub hl [3] rfl)
      · have hf := jbF hf hc
        refine lv_iload_n hx hb dX7_cutsByDistance_12 rfl (lv_at hl 2 rfl) ?_
        refine lv_aload_n hx hb dX7_cutsByDistance_13 rfl (lv_at hl 0 rfl) ?_
        refine va_get (D := gD g) (ci := 7) (v := .int (qLimit qv)) (C := RX7) (T := TX7) (N := 15) hx hb hts hinX7 hown hK hP 0 rfl rfl 10 (by decide) k0 (fun _ h9 => h9) rfl dX7_cutsByDistance_14 ?_
        refine lv_iload_n hx hb dX7_cutsByDistance_17 rfl (lv_at hl 1 rfl) ?_
        refine lv_iload hx hb dX7_cutsByDistance_18 (lv_at hl 4 rfl) ?_
        obtain ⟨o1, g2, hf⟩ := jbB_e hf
        refine csn_i (As := [.int x1, .int x4]) (rest := [.int (qLimit qv), .int x2]) ⟨hx, hb, hml, hown, hts⟩ (c_X3_distance l g x1 x4 _ g2) (va_cwS 2 hts gX7_cutsByDistance_X3_distance rfl rfl rfl hd_X3_distance ⟨Nat.le_of_ble_eq_true rfl, Nat.le_of_ble_eq_true rfl⟩) hK hZ hT hA hP hD hS hl.1 rfl rfl (Nat.le_of_ble_eq_true rfl) ⟨Nat.le_of_ble_eq_true rfl, Nat.le_of_ble_eq_true rfl⟩ dX7_cutsByDistance_20 (fun H locs hP hD hS => ?_)
        refine lv_imul hx hb dX7_cutsByDistance_23 ?_
        refine lv_iadd hx hb dX7_cutsByDistance_24 ?_
        refine lv_topi (fun z3 ez3 => ?_)
        have hf := jbN_e hf ez3
        refine lv_istore (lv' := [(5, .int z3), (0, .ref (hq 0)), (1, .int x1), (2, .int x2), (3, .int x3), (4, .int x4)]) hx hb dX7_cutsByDistance_25 hl (by decide) rfl (fun ls hl => ?_)
        refine lv_iload_n hx hb dX7_cutsByDistance_27 rfl (lv_at hl 4 rfl) ?_
        refine lv_iconst (v := 0) hx hb dX7_cutsByDistance_28 (by decide) ?_
        refine lv_aload_n hx hb dX7_cutsByDistance_29 rfl (lv_at hl 1 rfl) ?_
        refine va_get (D := gD g) (ci := 7) (v := .ref (hq 1)) (C := RX7) (T := TX7) (N := 15) hx hb hts hinX7 hown hK hP 0 rfl rfl 0 (by decide) k1 (fun _ h9 => h9) rfl dX7_cutsByDistance_30 ?_
        refine lv_iload hx hb dX7_cutsByDistance_33 (lv_at hl 5 rfl) ?_
        obtain ⟨h4, hf⟩ := jbA_e hf
        refine va_iald hx hb hK hP 1 0 rfl rfl h4 dX7_cutsByDistance_35 ?_
        refine lv_iload hx hb dX7_cutsByDistance_36 (lv_at hl 0 rfl) ?_
        refine lv_isub hx hb dX7_cutsByDistance_38 ?_
        refine va_mmax hx hb (hml.trans hl.1.symm) hown k2 k3 k4 k5 (Nat.le_of_ble_eq_true rfl) (Nat.le_of_ble_eq_true rfl) (Nat.le_of_ble_eq_true rfl) (Nat.le_of_ble_eq_true rfl) dX7_cutsByDistance_39 ?_
        refine lv_iadd hx hb dX7_cutsByDistance_42 ?_
        refine lv_topi (fun z5 ez5 => ?_)
        have hf := jbN_e hf ez5
        refine lv_istore_n (lv' := [(3, .int z5), (5, .int z3), (0, .ref (hq 0)), (1, .int x1), (2, .int x2), (4, .int x4)]) hx hb dX7_cutsByDistance_43 rfl hl (by decide) rfl (fun ls hl => ?_)
        refine lv_iinc (v := (x4 + 1)) (lv' := [(4, .int (x4 + 1)), (3, .int z5), (5, .int z3), (0, .ref (hq 0)), (1, .int x1), (2, .int x2)]) hx hb dX7_cutsByDistance_44 hl (k := 5) rfl rfl (by decide) rfl (fun ls hl => ?_)
        refine lv_goto (tgt := 5) hx hb dX7_cutsByDistance_47 (by decide) ?_
        cases hf
        exact ih z5 (x4 + 1) _ _ _ _ hr hP hD hS (lv_sub hl [3, 4, 5, 1, 0] rfl) hk
  refine lv_iconst (v := 0) hx hb dX7_cutsByDistance_0 (by decide) ?_
  refine lv_istore_n (lv' := [(3, .int 0), (0, .ref (hq 0)), (1, .int a0), (2, .int a1)]) hx hb dX7_cutsByDistance_1 rfl hl (by decide) rfl (fun ls hl => ?_)
  refine lv_iconst (v := 0) hx hb dX7_cutsByDistance_2 (by decide) ?_
  refine lv_istore (lv' := [(4, .int 0), (3, .int 0), (0, .ref (hq 0)), (1, .int a0), (2, .int a1)]) hx hb dX7_cutsByDistance_3 hl (by decide) rfl (fun ls hl => ?_)
  obtain ⟨o5, hg, hf⟩ := jbB_e hf
  refine hL5 a0 a1 _ 0 0 _ _ _ _ hg hP hD hS (lv_sub hl [2, 3, 4, 1, 0] rfl) (fun H locs ls hP hD hS hl => ?_)
  refine lv_iload_n hx hb dX7_cutsByDistance_50 rfl (lv_at hl 0 rfl) ?_
  cases hf
  subst hQ
  exact rt_i hx hb hrt hlk rfl hK hP hD hS (Nat.le_of_ble_eq_true rfl) (Nat.le_of_ble_eq_true rfl) dX7_cutsByDistance_51
def f_X7_heightSum_L4 (qv : QV) (x1 : Int32) (x2 : Int32) : Option (Sum (Int32 × Int32) (Int32 × Int32)) :=
  if 30 ≤ x2 then
  (some (.inr (x1, x2)))
  else
  (if jIn x2 30 then
  jbN (x1 + ((qHeights qv) x2.toNatClampNeg)) fun z2 =>
  some (.inl (z2, (x2 + 1)))
  else none)
def f_X7_heightSum (qv : QV) : Option Int32 :=
  (jbL (fun s => f_X7_heightSum_L4 qv (s.1) (s.2)) 5000 (0, 0)).bind fun o4 =>
  some (o4.1)
def rm_X7_heightSum : Room := { frames := 0, cells := 0, slots := 0, locals := 0 }
theorem hd_X7_heightSum : yX7_heightSum.cls = RX7 ∧ yX7_heightSum.cls ≠ "java/lang/invoke/MethodHandle" ∧ yX7_heightSum.cls ≠ "java/lang/invoke/VarHandle" ∧ (parseMethodDescriptor yX7_heightSum.desc).map (fun d => d.parameters.length) = some 0 := by decide +kernel
set_option maxHeartbeats 4000000 in
set_option maxRecDepth 100000 in
theorem c_X7_heightSum (l : Launch) (g : GG) (hq : Nat → Nat) (qv : QV)   (out : Int32) (hf : f_X7_heightSum qv = some out) : MtI l yX7_heightSum wsX7_heightSum rm_X7_heightSum g (wQ g hq qv) [.ref (hq 0)] out (wQ g hq qv) 0 0 := by
  refine fun sz => mt_of (cc := cX7_heightSum) (maxL := 3) (ret := (some .int)) (own := RX7) (Qc := fun A => va_Qi (fun r (_ : Unit) => r = out) (fun _ t => PosM g A (wQ g hq qv) t) A) (by decide +kernel) rfl rfl (Nat.le_of_ble_eq_true rfl) ?_ sz
  intro p e s mi below meth c A ls hB hnm hrt hlk hP hD hl
  obtain ⟨hx, hb, hml, hown, hts, hK, hZ, hT, hA, -⟩ := hB
  have hS : va_S A s.heap s.heap [] := va_S.rf
  have hl : lv_has ls 3 [(0, .ref (hq 0))] := hl
  have hinX7 : ∀ w ∈ wsX70, w ∈ wsX7_heightSum := by decide +kernel
  have k0 := hts (.fieldLink RX7 9 "TerraceQuarry$Quarry" "heights" "[I") (by decide +kernel)
  generalize hQ : MQ below _ _ _ _ _ _ = Q
  unfold f_X7_heightSum at hf
  have hL4 : ∀ (n : Nat) (x1 : Int32) (x2 : Int32) (H : Heap) (locs : List Loc) (ls : Array Slot) (o4 : Int32 × Int32), jbL (fun s => f_X7_heightSum_L4 qv (s.1) (s.2)) n (x1, x2) = some o4 → va_P (gD g) vwCl (wQ g hq qv) H → va_D A (wQ g hq qv) → va_S A s.heap H locs → lv_has ls 3 [(0, .ref (hq 0)), (1, .int x1), (2, .int x2)] → (∀ (H : Heap) (locs : List Loc) (ls : Array Slot), va_P (gD g) vwCl (wQ g hq qv) H → va_D A (wQ g hq qv) → va_S A s.heap H locs → lv_has ls 3 [(1, .int (o4.1))] → W p l e rm_X7_heightSum s mi [.ref (hq 0)].toArray below meth c H locs 0 0 Q (F0 mi 25 ls [])) → W p l e rm_X7_heightSum s mi [.ref (hq 0)].toArray below meth c H locs 0 0 Q (F0 mi 4 ls []) := by
    intro n
    induction n with
    | zero => intro x1 x2 H locs ls o4 hf; exact absurd hf (jbL_0 _ _ _)
    | succ n ih =>
      intro x1 x2 H locs ls o4 hf hP hD hS hl hk
      obtain ⟨r, hf, hr⟩ := jbL_e hf
      have hf : f_X7_heightSum_L4 qv x1 x2 = some r := hf
      unfold f_X7_heightSum_L4 at hf
      refine lv_iload_n hx hb dX7_heightSum_4 rfl (lv_at hl 2 rfl) ?_
      refine lv_bipush (v := 30) hx hb dX7_heightSum_5 (by decide) ?_
      refine lv_icmp_ge (tgt := 25) hx hb dX7_heightSum_7 (by decide) (fun hc => ?_) (fun hc => ?_)
      · have hf := jbT hf hc
        cases hf
        obtain rfl := jbR_r hr
        exact hk _ _ _ hP hD hS (lv_sub hl [1] rfl)
      · have hf := jbF hf hc
        refine lv_iload_n hx hb dX7_heightSum_10 rfl (lv_at hl 1 rfl) ?_
        refine lv_aload_n hx hb dX7_heightSum_11 rfl (lv_at hl 0 rfl) ?_
        refine va_get (D := gD g) (ci := 7) (v := .ref (hq 1)) (C := RX7) (T := TX7) (N := 15) hx hb hts hinX7 hown hK hP 0 rfl rfl 0 (by decide) k0 (fun _ h9 => h9) rfl dX7_heightSum_12 ?_
        refine lv_iload_n hx hb dX7_heightSum_15 rfl (lv_at hl 2 rfl) ?_
        obtain ⟨h1, hf⟩ := jbA_e hf
        refine va_iald hx hb hK hP 1 0 rfl rfl h1 dX7_heightSum_16 ?_
        refine lv_iadd hx hb dX7_heightSum_17 ?_
        refine lv_topi (fun z2 ez2 => ?_)
        have hf := jbN_e hf ez2
        refine lv_istore_n (lv' := [(1, .int z2), (0, .ref (hq 0)), (2, .int x2)]) hx hb dX7_heightSum_18 rfl hl (by decide) rfl (fun ls hl => ?_)
        refine lv_iinc (v := (x2 + 1)) (lv' := [(2, .int (x2 + 1)), (1, .int z2), (0, .ref (hq 0))]) hx hb dX7_heightSum_19 hl (k := 2) rfl rfl (by decide) rfl (fun ls hl => ?_)
        refine lv_goto (tgt := 4) hx hb dX7_heightSum_22 (by decide) ?_
        cases hf
        exact ih z2 (x2 + 1) _ _ _ _ hr hP hD hS (lv_sub hl [2, 1, 0] rfl) hk
  refine lv_iconst (v := 0) hx hb dX7_heightSum_0 (by decide) ?_
  refine lv_istore_n (lv' := [(1, .int 0), (0, .ref (hq 0))]) hx hb dX7_heightSum_1 rfl hl (by decide) rfl (fun ls hl => ?_)
  refine lv_iconst (v := 0) hx hb dX7_heightSum_2 (by decide) ?_
  refine lv_istore_n (lv' := [(2, .int 0), (1, .int 0), (0, .ref (hq 0))]) hx hb dX7_heightSum_3 rfl hl (by decide) rfl (fun ls hl => ?_)
  obtain ⟨o4, hg, hf⟩ := jbB_e hf
  refine hL4 _ 0 0 _ _ _ _ hg hP hD hS (lv_sub hl [2, 1, 0] rfl) (fun H locs ls hP hD hS hl => ?_)
  refine lv_iload_n hx hb dX7_heightSum_25 rfl (lv_at hl 0 rfl) ?_
  cases hf
  subst hQ
  exact rt_i hx hb hrt hlk rfl hK hP hD hS (Nat.le_of_ble_eq_true rfl) (Nat.le_of_ble_eq_true rfl) dX7_heightSum_26
def f_X7_blockSum_L4 (qv : QV) (x1 : Int32) (x2 : Int32) : Option (Sum (Int32 × Int32) (Int32 × Int32)) :=
  if 30 ≤ x2 then
  (some (.inr (x1, x2)))
  else
  (if jIn x2 30 then
  jbN (x1 + ((qBlockCounts qv) x2.toNatClampNeg)) fun z2 =>
  some (.inl (z2, (x2 + 1)))
  else none)
def f_X7_blockSum (qv : QV) : Option Int32 :=
  (jbL (fun s => f_X7_blockSum_L4 qv (s.1) (s.2)) 5000 (0, 0)).bind fun o4 =>
  some (o4.1)
def rm_X7_blockSum : Room := { frames := 0, cells := 0, slots := 0, locals := 0 }
theorem hd_X7_blockSum : yX7_blockSum.cls = RX7 ∧ yX7_blockSum.cls ≠ "java/lang/invoke/MethodHandle" ∧ yX7_blockSum.cls ≠ "java/lang/invoke/VarHandle" ∧ (parseMethodDescriptor yX7_blockSum.desc).map (fun d => d.parameters.length) = some 0 := by decide +kernel
set_option maxHeartbeats 4000000 in
set_option maxRecDepth 100000 in
theorem c_X7_blockSum (l : Launch) (g : GG) (hq : Nat → Nat) (qv : QV)   (out : Int32) (hf : f_X7_blockSum qv = some out) : MtI l yX7_blockSum wsX7_blockSum rm_X7_blockSum g (wQ g hq qv) [.ref (hq 0)] out (wQ g hq qv) 0 0 := by
  refine fun sz => mt_of (cc := cX7_blockSum) (maxL := 3) (ret := (some .int)) (own := RX7) (Qc := fun A => va_Qi (fun r (_ : Unit) => r = out) (fun _ t => PosM g A (wQ g hq qv) t) A) (by decide +kernel) rfl rfl (Nat.le_of_ble_eq_true rfl) ?_ sz
  intro p e s mi below meth c A ls hB hnm hrt hlk hP hD hl
  obtain ⟨hx, hb, hml, hown, hts, hK, hZ, hT, hA, -⟩ := hB
  have hS : va_S A s.heap s.heap [] := va_S.rf
  have hl : lv_has ls 3 [(0, .ref (hq 0))] := hl
  have hinX7 : ∀ w ∈ wsX70, w ∈ wsX7_blockSum := by decide +kernel
  have k0 := hts (.fieldLink RX7 22 "TerraceQuarry$Quarry" "blockCounts" "[I") (by decide +kernel)
  generalize hQ : MQ below _ _ _ _ _ _ = Q
  unfold f_X7_blockSum at hf
  have hL4 : ∀ (n : Nat) (x1 : Int32) (x2 : Int32) (H : Heap) (locs : List Loc) (ls : Array Slot) (o4 : Int32 × Int32), jbL (fun s => f_X7_blockSum_L4 qv (s.1) (s.2)) n (x1, x2) = some o4 → va_P (gD g) vwCl (wQ g hq qv) H → va_D A (wQ g hq qv) → va_S A s.heap H locs → lv_has ls 3 [(0, .ref (hq 0)), (1, .int x1), (2, .int x2)] → (∀ (H : Heap) (locs : List Loc) (ls : Array Slot), va_P (gD g) vwCl (wQ g hq qv) H → va_D A (wQ g hq qv) → va_S A s.heap H locs → lv_has ls 3 [(1, .int (o4.1))] → W p l e rm_X7_blockSum s mi [.ref (hq 0)].toArray below meth c H locs 0 0 Q (F0 mi 25 ls [])) → W p l e rm_X7_blockSum s mi [.ref (hq 0)].toArray below meth c H locs 0 0 Q (F0 mi 4 ls []) := by
    intro n
    induction n with
    | zero => intro x1 x2 H locs ls o4 hf; exact absurd hf (jbL_0 _ _ _)
    | succ n ih =>
      intro x1 x2 H locs ls o4 hf hP hD hS hl hk
      obtain ⟨r, hf, hr⟩ := jbL_e hf
      have hf : f_X7_blockSum_L4 qv x1 x2 = some r := hf
      unfold f_X7_blockSum_L4 at hf
      refine lv_iload_n hx hb dX7_blockSum_4 rfl (lv_at hl 2 rfl) ?_
      refine lv_bipush (v := 30) hx hb dX7_blockSum_5 (by decide) ?_
      refine lv_icmp_ge (tgt := 25) hx hb dX7_blockSum_7 (by decide) (fun hc => ?_) (fun hc => ?_)
      · have hf := jbT hf hc
        cases hf
        obtain rfl := jbR_r hr
        exact hk _ _ _ hP hD hS (lv_sub hl [1] rfl)
      · have hf := jbF hf hc
        refine lv_iload_n hx hb dX7_blockSum_10 rfl (lv_at hl 1 rfl) ?_
        refine lv_aload_n hx hb dX7_blockSum_11 rfl (lv_at hl 0 rfl) ?_
        refine va_get (D := gD g) (ci := 7) (v := .ref (hq 4)) (C := RX7) (T := TX7) (N := 15) hx hb hts hinX7 hown hK hP 0 rfl rfl 3 (by decide) k0 (fun _ h9 => h9) rfl dX7_blockSum_12 ?_
        refine lv_iload_n hx hb dX7_blockSum_15 rfl (lv_at hl 2 rfl) ?_
        obtain ⟨h1, hf⟩ := jbA_e hf
        refine va_iald hx hb hK hP 4 0 rfl rfl h1 dX7_blockSum_16 ?_
        refine lv_iadd hx hb dX7_blockSum_17 ?_
        refine lv_topi (fun z2 ez2 => ?_)
        have hf := jbN_e hf ez2
        refine lv_istore_n (lv' := [(1, .int z2), (0, .ref (hq 0)), (2, .int x2)]) hx hb dX7_blockSum_18 rfl hl (by decide) rfl (fun ls hl => ?_)
        refine lv_iinc (v := (x2 + 1)) (lv' := [(2, .int (x2 + 1)), (1, .int z2), (0, .ref (hq 0))]) hx hb dX7_blockSum_19 hl (k := 2) rfl rfl (by decide) rfl (fun ls hl => ?_)
        refine lv_goto (tgt := 4) hx hb dX7_blockSum_22 (by decide) ?_
        cases hf
        exact ih z2 (x2 + 1) _ _ _ _ hr hP hD hS (lv_sub hl [2, 1, 0] rfl) hk
  refine lv_iconst (v := 0) hx hb dX7_blockSum_0 (by decide) ?_
  refine lv_istore_n (lv' := [(1, .int 0), (0, .ref (hq 0))]) hx hb dX7_blockSum_1 rfl hl (by decide) rfl (fun ls hl => ?_)
  refine lv_iconst (v := 0) hx hb dX7_blockSum_2 (by decide) ?_
  refine lv_istore_n (lv' := [(2, .int 0), (1, .int 0), (0, .ref (hq 0))]) hx hb dX7_blockSum_3 rfl hl (by decide) rfl (fun ls hl => ?_)
  obtain ⟨o4, hg, hf⟩ := jbB_e hf
  refine hL4 _ 0 0 _ _ _ _ hg hP hD hS (lv_sub hl [2, 1, 0] rfl) (fun H locs ls hP hD hS hl => ?_)
  refine lv_iload_n hx hb dX7_blockSum_25 rfl (lv_at hl 0 rfl) ?_
  cases hf
  subst hQ
  exact rt_i hx hb hrt hlk rfl hK hP hD hS (Nat.le_of_ble_eq_true rfl) (Nat.le_of_ble_eq_true rfl) dX7_blockSum_26
def f_X7_countWinches (qv : QV) : Option Int32 :=
  some (qWinches qv)
def rm_X7_countWinches : Room := { frames := 0, cells := 0, slots := 0, locals := 0 }
theorem hd_X7_countWinches : yX7_countWinches.cls = RX7 ∧ yX7_countWinches.cls ≠ "java/lang/invoke/MethodHandle" ∧ yX7_countWinches.cls ≠ "java/lang/invoke/VarHandle" ∧ (parseMethodDescriptor yX7_countWinches.desc).map (fun d => d.parameters.length) = some 0 := by decide +kernel
set_option maxHeartbeats 4000000 in
set_option maxRecDepth 100000 in
theorem c_X7_countWinches (l : Launch) (g : GG) (hq : Nat → Nat) (qv : QV)   (out : Int32) (hf : f_X7_countWinches qv = some out) : MtI l yX7_countWinches wsX7_countWinches rm_X7_countWinches g (wQ g hq qv) [.ref (hq 0)] out (wQ g hq qv) 0 0 := by
  refine fun sz => mt_of (cc := cX7_countWinches) (maxL := 1) (ret := (some .int)) (own := RX7) (Qc := fun A => va_Qi (fun r (_ : Unit) => r = out) (fun _ t => PosM g A (wQ g hq qv) t) A) (by decide +kernel) rfl rfl (Nat.le_of_ble_eq_true rfl) ?_ sz
  intro p e s mi below meth c A ls hB hnm hrt hlk hP hD hl
  obtain ⟨hx, hb, hml, hown, hts, hK, hZ, hT, hA, -⟩ := hB
  have hS : va_S A s.heap s.heap [] := va_S.rf
  have hl : lv_has ls 1 [(0, .ref (hq 0))] := hl
  have hinX7 : ∀ w ∈ wsX70, w ∈ wsX7_countWinches := by decide +kernel
  have k0 := hts (.fieldLink RX7 53 "TerraceQuarry$Quarry" "winches" "I") (by decide +kernel)
  generalize hQ : MQ below _ _ _ _ _ _ = Q
  unfold f_X7_countWinches at hf
  refine lv_aload_n hx hb dX7_countWinches_0 rfl (lv_at hl 0 rfl) ?_
  refine va_get (D := gD g) (ci := 7) (v := .int (qWinches qv)) (C := RX7) (T := TX7) (N := 15) hx hb hts hinX7 hown hK hP 0 rfl rfl 9 (by decide) k0 (fun _ h9 => h9) rfl dX7_countWinches_1 ?_
  cases hf
  subst hQ
  exact rt_i hx hb hrt hlk rfl hK hP hD hS (Nat.le_of_ble_eq_true rfl) (Nat.le_of_ble_eq_true rfl) dX7_countWinches_4
def f_X7_countLiftable_J32 (qv : QV) (x1 : Int32) (x2 : Int32) (x3 : Int32) : Option (Sum (Int32 × Int32) (Int32 × Int32)) :=
  some (.inl (x2, (x3 + 1)))
def f_X7_countLiftable_L4 (qv : QV) (x1 : Int32) (x2 : Int32) (x3 : Int32) : Option (Sum (Int32 × Int32) (Int32 × Int32)) :=
  if 30 ≤ x3 then
  (some (.inr (x2, x3)))
  else
  ((f_X3_rowOf x3).bind fun o1 =>
  (f_X3_columnOf x3).bind fun o3 =>
  (f_X7_liftFault qv x1 o1 o3).bind fun o5 =>
  if o5 < 6 then
  if o5 = 0 then
  (f_X7_countLiftable_J32 qv x1 (x2 + 1) x3)
  else
  (f_X7_countLiftable_J32 qv x1 x2 x3)
  else none)
def f_X7_countLiftable (qv : QV) (a0 : Int32) : Option Int32 :=
  (jbL (fun s => f_X7_countLiftable_L4 qv a0 (s.1) (s.2)) 5000 (0, 0)).bind fun o4 =>
  some (o4.1)
def rm_X7_countLiftable : Room := { frames := 4, cells := 0, slots := 0, locals := 91 }
theorem hd_X7_countLiftable : yX7_countLiftable.cls = RX7 ∧ yX7_countLiftable.cls ≠ "java/lang/invoke/MethodHandle" ∧ yX7_countLiftable.cls ≠ "java/lang/invoke/VarHandle" ∧ (parseMethodDescriptor yX7_countLiftable.desc).map (fun d => d.parameters.length) = some 1 := by decide +kernel
set_option maxHeartbeats 4000000 in
set_option maxRecDepth 100000 in
theorem c_X7_countLiftable (l : Launch) (g : GG) (hq : Nat → Nat) (qv : QV)  (a0 : Int32) (out : Int32) (hf : f_X7_countLiftable qv a0 = some out) : MtI l yX7_countLiftable wsX7_countLiftable rm_X7_countLiftable g (wQ g hq qv) [.ref (hq 0), .int a0] out (wQ g hq qv) 0 0 := by
  refine fun sz => mt_of (cc := cX7_countLiftable) (maxL := 4) (ret := (some .int)) (own := RX7) (Qc := fun A => va_Qi (fun r (_ : Unit) => r = out) (fun _ t => PosM g A (wQ g hq qv) t) A) (by decide +kernel) rfl rfl (Nat.le_of_ble_eq_true rfl) ?_ sz
  intro p e s mi below meth c A ls hB hnm hrt hlk hP hD hl
  obtain ⟨hx, hb, hml, hown, hts, hK, hZ, hT, hA, -⟩ := hB
  have hS : va_S A s.heap s.heap [] := va_S.rf
  have hl : lv_has ls 4 [(0, .ref (hq 0)), (1, .int a0)] := hl
  have k0 := hts (.fieldLink RX7 66 "TerraceQuarry$Fault" "NONE" "LTerraceQuarry$Fault;") (by decide +kernel)
  generalize hQ : MQ below _ _ _ _ _ _ = Q
  unfold f_X7_countLiftable at hf
  have hL4 : ∀ (x1 : Int32) (n : Nat) (x2 : Int32) (x3 : Int32) (H : Heap) (locs : List Loc) (ls : Array Slot) (o4 : Int32 × Int32), jbL (fun s => f_X7_countLiftable_L4 qv x1 (s.1) (s.2)) n (x2, x3) = some o4 → va_P (gD g) vwCl (wQ g hq qv) H → va_D A (wQ g hq qv) → va_S A s.heap H locs → lv_has ls 4 [(0, .ref (hq 0)), (1, .int x1), (2, .int x2), (3, .int x3)] → (∀ (H : Heap) (locs : List Loc) (ls : Array Slot), va_P (gD g) vwCl (wQ g hq qv) H → va_D A (wQ g hq qv) → va_S A s.heap H locs → lv_has ls 4 [(2, .int (o4.1))] → W p l e rm_X7_countLiftable s mi [.ref (hq 0), .int a0].toArray below meth c H locs 0 0 Q (F0 mi 38 ls [])) → W p l e rm_X7_countLiftable s mi [.ref (hq 0), .int a0].toArray below meth c H locs 0 0 Q (F0 mi 4 ls []) := by
    intro x1 n
    induction n with
    | zero => intro x2 x3 H locs ls o4 hf; exact absurd hf (jbL_0 _ _ _)
    | succ n ih =>
      intro x2 x3 H locs ls o4 hf hP hD hS hl hk
      obtain ⟨r, hf, hr⟩ := jbL_e hf
      have hf : f_X7_countLiftable_L4 qv x1 x2 x3 = some r := hf
      unfold f_X7_countLiftable_L4 at hf
      have hJ32 : ∀ (x2 : Int32) (x3 : Int32) (H : Heap) (locs : List Loc) (ls : Array Slot) (r : Sum (Int32 × Int32) (Int32 × Int32)), f_X7_countLiftable_J32 qv x1 x2 x3 = some r → jbR (fun s => f_X7_countLiftable_L4 qv x1 (s.1) (s.2)) n o4 r → va_P (gD g) vwCl (wQ g hq qv) H → va_D A (wQ g hq qv) → va_S A s.heap H locs → lv_has ls 4 [(0, .ref (hq 0)), (1, .int x1), (2, .int x2), (3, .int x3)] → W p l e rm_X7_countLiftable s mi [.ref (hq 0), .int a0].toArray below meth c H locs 0 0 Q (F0 mi 32 ls []) := by
        intro x2 x3 H locs ls r hf hr hP hD hS hl
        unfold f_X7_countLiftable_J32 at hf
        refine lv_iinc (v := (x3 + 1)) (lv' := [(3, .int (x3 + 1)), (0, .ref (hq 0)), (1, .int x1), (2, .int x2)]) hx hb dX7_countLiftable_32 hl (k := 3) rfl rfl (by decide) rfl (fun ls hl => ?_)
        refine lv_goto (tgt := 4) hx hb dX7_countLiftable_35 (by decide) ?_
        cases hf
        exact ih x2 (x3 + 1) _ _ _ _ hr hP hD hS (lv_sub hl [1, 2, 3, 0] rfl) hk
      refine lv_iload_n hx hb dX7_countLiftable_4 rfl (lv_at hl 3 rfl) ?_
      refine lv_bipush (v := 30) hx hb dX7_countLiftable_5 (by decide) ?_
      refine lv_icmp_ge (tgt := 38) hx hb dX7_countLiftable_7 (by decide) (fun hc => ?_) (fun hc => ?_)
      · have hf := jbT hf hc
        cases hf
        obtain rfl := jbR_r hr
        exact hk _ _ _ hP hD hS (lv_sub hl [2] rfl)
      · have hf := jbF hf hc
        refine lv_aload_n hx hb dX7_countLiftable_10 rfl (lv_at hl 0 rfl) ?_
        refine lv_iload_n hx hb dX7_countLiftable_11 rfl (lv_at hl 1 rfl) ?_
        refine lv_iload_n hx hb dX7_countLiftable_12 rfl (lv_at hl 3 rfl) ?_
        obtain ⟨o1, g2, hf⟩ := jbB_e hf
        refine csn_i (As := [.int x3]) (rest := [.int x1, .ref (hq 0)]) ⟨hx, hb, hml, hown, hts⟩ (c_X3_rowOf l g x3 _ g2) (va_cwS 1 hts gX7_countLiftable_X3_rowOf rfl rfl rfl hd_X3_rowOf ⟨Nat.le_of_ble_eq_true rfl, Nat.le_of_ble_eq_true rfl⟩) hK hZ hT hA hP hD hS hl.1 rfl rfl (Nat.le_of_ble_eq_true rfl) ⟨Nat.le_of_ble_eq_true rfl, Nat.le_of_ble_eq_true rfl⟩ dX7_countLiftable_13 (fun H locs hP hD hS => ?_)
        refine lv_iload_n hx hb dX7_countLiftable_16 rfl (lv_at hl 3 rfl) ?_
        obtain ⟨o3, g4, hf⟩ := jbB_e hf
        refine csn_i (As := [.int x3]) (rest := [.int o1, .int x1, .ref (hq 0)]) ⟨hx, hb, hml, hown, hts⟩ (c_X3_columnOf l g x3 _ g4) (va_cwS 1 hts gX7_countLiftable_X3_columnOf rfl rfl rfl hd_X3_columnOf ⟨Nat.le_of_ble_eq_true rfl, Nat.le_of_ble_eq_true rfl⟩) hK hZ hT hA hP hD hS hl.1 rfl rfl (Nat.le_of_ble_eq_true rfl) ⟨Nat.le_of_ble_eq_true rfl, Nat.le_of_ble_eq_true rfl⟩ dX7_countLiftable_17 (fun H locs hP hD hS => ?_)
        obtain ⟨o5, g6, hf⟩ := jbB_e hf
        refine cva_e (As := [.int x1, .int o1, .int o3]) (rest := []) ⟨hx, hb, hml, hown, hts⟩ (c_X7_liftFault l g hq qv x1 o1 o3 _ g6) (cwV 3 hts gX7_countLiftable_X7_liftFault rfl rfl rfl hd_X7_liftFault ⟨Nat.le_of_ble_eq_true rfl, Nat.le_of_ble_eq_true rfl⟩) hK hZ hT hA hP hD hS hl.1 (va_recv hK hP (ci := 7) (q0 := 0) rfl rfl) rfl rfl (Nat.le_of_ble_eq_true rfl) ⟨Nat.le_of_ble_eq_true rfl, Nat.le_of_ble_eq_true rfl⟩ dX7_countLiftable_20 (fun H locs hP hD hS => ?_)
        refine va_gets (C := "TerraceQuarry$Fault") (n := "NONE") (d := "LTerraceQuarry$Fault;") (v := .ref (gS g 0 0)) hx hb (hZ.1.1 0 (by decide)).1 hS hown k0 (fun _ h9 => h9) dX7_countLiftable_23 ?_
        obtain ⟨h7, hf⟩ := jbA_e hf
        refine lv_acmp_ne (rx := some (gS g 0 o5)) (ry := some (gS g 0 0)) (tgt := 32) hx hb dX7_countLiftable_26 (by decide) (fun hc => ?_) (fun hc => ?_)
        · have hf := jbF hf (enN hc)
          exact hJ32 x2 x3 _ _ _ _ hf hr hP hD hS (lv_sub hl [0, 1, 2, 3] rfl)
        · have hf := jbT hf (enF hZ h7 (by decide) hc)
          refine lv_iinc (v := (x2 + 1)) (lv' := [(2, .int (x2 + 1)), (0, .ref (hq 0)), (1, .int x1), (3, .int x3)]) hx hb dX7_countLiftable_29 hl (k := 2) rfl rfl (by decide) rfl (fun ls hl => ?_)
          exact hJ32 (x2 + 1) x3 _ _ _ _ hf hr hP hD hS (lv_sub hl [1, 2, 0, 3] rfl)
  refine lv_iconst (v := 0) hx hb dX7_countLiftable_0 (by decide) ?_
  refine lv_istore_n (lv' := [(2, .int 0), (0, .ref (hq 0)), (1, .int a0)]) hx hb dX7_countLiftable_1 rfl hl (by decide) rfl (fun ls hl => ?_)
  refine lv_iconst (v := 0) hx hb dX7_countLiftable_2 (by decide) ?_
  refine lv_istore_n (lv' := [(3, .int 0), (2, .int 0), (0, .ref (hq 0)), (1, .int a0)]) hx hb dX7_countLiftable_3 rfl hl (by decide) rfl (fun ls hl => ?_)
  obtain ⟨o4, hg, hf⟩ := jbB_e hf
  refine hL4 a0 _ 0 0 _ _ _ _ hg hP hD hS (lv_sub hl [2, 3, 1, 0] rfl) (fun H locs ls hP hD hS hl => ?_)
  refine lv_iload_n hx hb dX7_countLiftable_38 rfl (lv_at hl 0 rfl) ?_
  cases hf
  subst hQ
  exact rt_i hx hb hrt hlk rfl hK hP hD hS (Nat.le_of_ble_eq_true rfl) (Nat.le_of_ble_eq_true rfl) dX7_countLiftable_39
def f_X7_leastAbleWinch_J64 (qv : QV) (x1 : Int32) (x2 : Int32) (x3 : Int32) (x4 : Int32) : Option (Sum (Int32 × Int32) (Int32 × Int32)) :=
  some (.inl (x3, (x4 + 1)))
def f_X7_leastAbleWinch_J61 (qv : QV) (x1 : Int32) (x2 : Int32) (x4 : Int32) : Option (Sum (Int32 × Int32) (Int32 × Int32)) :=
  f_X7_leastAbleWinch_J64 qv x1 x2 x4 x4
def f_X7_leastAbleWinch_J33 (qv : QV) (x1 : Int32) (x2 : Int32) (x3 : Int32) (x4 : Int32) (y0 : Int32) : Option (Sum (Int32 × Int32) (Int32 × Int32)) :=
  if y0 = 0 then
  (f_X7_leastAbleWinch_J64 qv x1 x2 x3 x4)
  else
  (if x3 = (-1) then
  (f_X7_leastAbleWinch_J61 qv x1 x2 x4)
  else
  (if jIn x4 3 then
  if jIn x3 3 then
  if ((qCapacities qv) x3.toNatClampNeg) ≤ ((qCapacities qv) x4.toNatClampNeg) then
  (f_X7_leastAbleWinch_J64 qv x1 x2 x3 x4)
  else
  (f_X7_leastAbleWinch_J61 qv x1 x2 x4)
  else none
  else none))
def f_X7_leastAbleWinch_L5 (qv : QV) (x1 : Int32) (x2 : Int32) (x3 : Int32) (x4 : Int32) : Option (Sum (Int32 × Int32) (Int32 × Int32)) :=
  if (qWinches qv) ≤ x4 then
  (some (.inr (x3, x4)))
  else
  ((f_X7_liftFault qv x4 x1 x2).bind fun o1 =>
  if o1 < 6 then
  if o1 = 0 then
  (f_X7_leastAbleWinch_J33 qv x1 x2 x3 x4 1)
  else
  (f_X7_leastAbleWinch_J33 qv x1 x2 x3 x4 0)
  else none)
def f_X7_leastAbleWinch (qv : QV) (a0 : Int32) (a1 : Int32) : Option Int32 :=
  (jbL (fun s => f_X7_leastAbleWinch_L5 qv a0 a1 (s.1) (s.2)) 5000 ((-1), 0)).bind fun o5 =>
  some (o5.1)
def rm_X7_leastAbleWinch : Room := { frames := 4, cells := 0, slots := 0, locals := 91 }
theorem hd_X7_leastAbleWinch : yX7_leastAbleWinch.cls = RX7 ∧ yX7_leastAbleWinch.cls ≠ "java/lang/invoke/MethodHandle" ∧ yX7_leastAbleWinch.cls ≠ "java/lang/invoke/VarHandle" ∧ (parseMethodDescriptor yX7_leastAbleWinch.desc).map (fun d => d.parameters.length) = some 2 := by decide +kernel
set_option maxHeartbeats 4000000 in
set_option maxRecDepth 100000 in
theorem c_X7_leastAbleWinch (l : Launch) (g : GG) (hq : Nat → Nat) (qv : QV)  (a0 : Int32) (a1 : Int32) (out : Int32) (hf : f_X7_leastAbleWinch qv a0 a1 = some out) : MtI l yX7_leastAbleWinch wsX7_leastAbleWinch rm_X7_leastAbleWinch g (wQ g hq qv) [.ref (hq 0), .int a0, .int a1] out (wQ g hq qv) 0 0 := by
  refine fun sz => mt_of (cc := cX7_leastAbleWinch) (maxL := 6) (ret := (some .int)) (own := RX7) (Qc := fun A => va_Qi (fun r (_ : Unit) => r = out) (fun _ t => PosM g A (wQ g hq qv) t) A) (by decide +kernel) rfl rfl (Nat.le_of_ble_eq_true rfl) ?_ sz
  intro p e s mi below meth c A ls hB hnm hrt hlk hP hD hl
  obtain ⟨hx, hb, hml, hown, hts, hK, hZ, hT, hA, -⟩ := hB
  have hS : va_S A s.heap s.heap [] := va_S.rf
  have hl : lv_has ls 6 [(0, .ref (hq 0)), (1, .int a0), (2, .int a1)] := hl
  have hinX7 : ∀ w ∈ wsX70, w ∈ wsX7_leastAbleWinch := by decide +kernel
  have k0 := hts (.fieldLink RX7 53 "TerraceQuarry$Quarry" "winches" "I") (by decide +kernel)
  have k1 := hts (.fieldLink RX7 66 "TerraceQuarry$Fault" "NONE" "LTerraceQuarry$Fault;") (by decide +kernel)
  have k2 := hts (.fieldLink RX7 31 "TerraceQuarry$Quarry" "capacities" "[I") (by decide +kernel)
  generalize hQ : MQ below _ _ _ _ _ _ = Q
  unfold f_X7_leastAbleWinch at hf
  have hL5 : ∀ (x1 : Int32) (x2 : Int32) (n : Nat) (x3 : Int32) (x4 : Int32) (H : Heap) (locs : List Loc) (ls : Array Slot) (o5 : Int32 × Int32), jbL (fun s => f_X7_leastAbleWinch_L5 qv x1 x2 (s.1) (s.2)) n (x3, x4) = some o5 → va_P (gD g) vwCl (wQ g hq qv) H → va_D A (wQ g hq qv) → va_S A s.heap H locs → lv_has ls 6 [(0, .ref (hq 0)), (1, .int x1), (2, .int x2), (3, .int x3), (4, .int x4)] → (∀ (H : Heap) (locs : List Loc) (ls : Array Slot), va_P (gD g) vwCl (wQ g hq qv) H → va_D A (wQ g hq qv) → va_S A s.heap H locs → lv_has ls 6 [(3, .int (o5.1))] → W p l e rm_X7_leastAbleWinch s mi [.ref (hq 0), .int a0, .int a1].toArray below meth c H locs 0 0 Q (F0 mi 70 ls [])) → W p l e rm_X7_leastAbleWinch s mi [.ref (hq 0), .int a0, .int a1].toArray below meth c H locs 0 0 Q (F0 mi 5 ls []) := by
    intro x1 x2 n
    induction n with
    | zero => intro x3 x4 H locs ls o5 hf; exact absurd hf (jbL_0 _ _ _)
    | succ n ih =>
      intro x3 x4 H locs ls o5 hf hP hD hS hl hk
      obtain ⟨r, hf, hr⟩ := jbL_e hf
      have hf : f_X7_leastAbleWinch_L5 qv x1 x2 x3 x4 = some r := hf
      unfold f_X7_leastAbleWinch_L5 at hf
      have hJ64 : ∀ (x3 : Int32) (x4 : Int32) (H : Heap) (locs : List Loc) (ls : Array Slot) (r : Sum (Int32 × Int32) (Int32 × Int32)), f_X7_leastAbleWinch_J64 qv x1 x2 x3 x4 = some r → jbR (fun s => f_X7_leastAbleWinch_L5 qv x1 x2 (s.1) (s.2)) n o5 r → va_P (gD g) vwCl (wQ g hq qv) H → va_D A (wQ g hq qv) → va_S A s.heap H locs → lv_has ls 6 [(0, .ref (hq 0)), (1, .int x1), (2, .int x2), (3, .int x3), (4, .int x4)] → W p l e rm_X7_leastAbleWinch s mi [.ref (hq 0), .int a0, .int a1].toArray below meth c H locs 0 0 Q (F0 mi 64 ls []) := by
        intro x3 x4 H locs ls r hf hr hP hD hS hl
        unfold f_X7_leastAbleWinch_J64 at hf
        refine lv_iinc (v := (x4 + 1)) (lv' := [(4, .int (x4 + 1)), (0, .ref (hq 0)), (1, .int x1), (2, .int x2), (3, .int x3)]) hx hb dX7_leastAbleWinch_64 hl (k := 4) rfl rfl (by decide) rfl (fun ls hl => ?_)
        refine lv_goto (tgt := 5) hx hb dX7_leastAbleWinch_67 (by decide) ?_
        cases hf
        exact ih x3 (x4 + 1) _ _ _ _ hr hP hD hS (lv_sub hl [1, 2, 3, 4, 0] rfl) hk
      have hJ61 : ∀ (x4 : Int32) (H : Heap) (locs : List Loc) (ls : Array Slot) (r : Sum (Int32 × Int32) (Int32 × Int32)), f_X7_leastAbleWinch_J61 qv x1 x2 x4 = some r → jbR (fun s => f_X7_leastAbleWinch_L5 qv x1 x2 (s.1) (s.2)) n o5 r → va_P (gD g) vwCl (wQ g hq qv) H → va_D A (wQ g hq qv) → va_S A s.heap H locs → lv_has ls 6 [(0, .ref (hq 0)), (1, .int x1), (2, .int x2), (4, .int x4)] → W p l e rm_X7_leastAbleWinch s mi [.ref (hq 0), .int a0, .int a1].toArray below meth c H locs 0 0 Q (F0 mi 61 ls []) := by
        intro x4 H locs ls r hf hr hP hD hS hl
        unfold f_X7_leastAbleWinch_J61 at hf
        refine lv_iload hx hb dX7_leastAbleWinch_61 (lv_at hl 3 rfl) ?_
        refine lv_istore_n (lv' := [(3, .int x4), (0, .ref (hq 0)), (1, .int x1), (2, .int x2), (4, .int x4)]) hx hb dX7_leastAbleWinch_63 rfl hl (by decide) rfl (fun ls hl => ?_)
        exact hJ64 x4 x4 _ _ _ _ hf hr hP hD hS (lv_sub hl [1, 2, 3, 0, 4] rfl)
      have hJ33 : ∀ (x3 : Int32) (x4 : Int32) (y0 : Int32) (H : Heap) (locs : List Loc) (ls : Array Slot) (r : Sum (Int32 × Int32) (Int32 × Int32)), f_X7_leastAbleWinch_J33 qv x1 x2 x3 x4 y0 = some r → jbR (fun s => f_X7_leastAbleWinch_L5 qv x1 x2 (s.1) (s.2)) n o5 r → va_P (gD g) vwCl (wQ g hq qv) H → va_D A (wQ g hq qv) → va_S A s.heap H locs → lv_has ls 6 [(0, .ref (hq 0)), (1, .int x1), (2, .int x2), (3, .int x3), (4, .int x4)] → W p l e rm_X7_leastAbleWinch s mi [.ref (hq 0), .int a0, .int a1].toArray below meth c H locs 0 0 Q (F0 mi 33 ls [.int y0]) := by
        intro x3 x4 y0 H locs ls r hf hr hP hD hS hl
        unfold f_X7_leastAbleWinch_J33 at hf
        refine lv_istore (lv' := [(5, .int y0), (0, .ref (hq 0)), (1, .int x1), (2, .int x2), (3, .int x3), (4, .int x4)]) hx hb dX7_leastAbleWinch_33 hl (by decide) rfl (fun ls hl => ?_)
        refine lv_iload hx hb dX7_leastAbleWinch_35 (lv_at hl 0 rfl) ?_
        refine lv_if_eq (tgt := 64) hx hb dX7_leastAbleWinch_37 (by decide) (fun hc => ?_) (fun hc => ?_)
        · have hf := jbT hf hc
          exact hJ64 x3 x4 _ _ _ _ hf hr hP hD hS (lv_sub hl [1, 2, 3, 4, 5] rfl)
        · have hf := jbF hf hc
          refine lv_iload_n hx hb dX7_leastAbleWinch_40 rfl (lv_at hl 4 rfl) ?_
          refine lv_iconst (v := (-1)) hx hb dX7_leastAbleWinch_41 (by decide) ?_
          refine lv_icmp_eq (tgt := 61) hx hb dX7_leastAbleWinch_42 (by decide) (fun hc => ?_) (fun hc => ?_)
          · have hf := jbT hf hc
            exact hJ61 x4 _ _ _ _ hf hr hP hD hS (lv_sub hl [1, 2, 3, 5] rfl)
          · have hf := jbF hf hc
            refine lv_aload_n hx hb dX7_leastAbleWinch_45 rfl (lv_at hl 1 rfl) ?_
            refine va_get (D := gD g) (ci := 7) (v := .ref (hq 7)) (C := RX7) (T := TX7) (N := 15) hx hb hts hinX7 hown hK hP 0 rfl rfl 6 (by decide) k2 (fun _ h9 => h9) rfl dX7_leastAbleWinch_46 ?_
            refine lv_iload hx hb dX7_leastAbleWinch_49 (lv_at hl 5 rfl) ?_
            obtain ⟨h4, hf⟩ := jbA_e hf
            refine va_iald hx hb hK hP 7 0 rfl rfl h4 dX7_leastAbleWinch_51 ?_
            refine lv_aload_n hx hb dX7_leastAbleWinch_52 rfl (lv_at hl 1 rfl) ?_
            refine va_get (D := gD g) (ci := 7) (v := .ref (hq 7)) (C := RX7) (T := TX7) (N := 15) hx hb hts hinX7 hown hK hP 0 rfl rfl 6 (by decide) k2 (fun _ h9 => h9) rfl dX7_leastAbleWinch_53 ?_
            refine lv_iload_n hx hb dX7_leastAbleWinch_56 rfl (lv_at hl 4 rfl) ?_
            obtain ⟨h5, hf⟩ := jbA_e hf
            refine va_iald hx hb hK hP 7 0 rfl rfl h5 dX7_leastAbleWinch_57 ?_
            refine lv_icmp_ge (tgt := 64) hx hb dX7_leastAbleWinch_58 (by decide) (fun hc => ?_) (fun hc => ?_)
            · have hf := jbT hf hc
              exact hJ64 x3 x4 _ _ _ _ hf hr hP hD hS (lv_sub hl [1, 2, 3, 4, 5] rfl)
            · have hf := jbF hf hc
              exact hJ61 x4 _ _ _ _ hf hr hP hD hS (lv_sub hl [1, 2, 3, 5] rfl)
      refine lv_iload hx hb dX7_leastAbleWinch_5 (lv_at hl 4 rfl) ?_
      refine lv_aload_n hx hb dX7_leastAbleWinch_7 rfl (lv_at hl 0 rfl) ?_
      refine va_get (D := gD g) (ci := 7) (v := .int (qWinches qv)) (C := RX7) (T := TX7) (N := 15) hx hb hts hinX7 hown hK hP 0 rfl rfl 9 (by decide) k0 (fun _ h9 => h9) rfl dX7_leastAbleWinch_8 ?_
      refine lv_icmp_ge (tgt := 70) hx hb dX7_leastAbleWinch_11 (by decide) (fun hc => ?_) (fun hc => ?_)
      · have hf := jbT hf hc
        cases hf
        obtain rfl := jbR_r hr
        exact hk _ _ _ hP hD hS (lv_sub hl [3] rfl)
      · have hf := jbF hf hc
        refine lv_aload_n hx hb dX7_leastAbleWinch_14 rfl (lv_at hl 0 rfl) ?_
        refine lv_iload hx hb dX7_leastAbleWinch_15 (lv_at hl 4 rfl) ?_
        refine lv_iload_n hx hb dX7_leastAbleWinch_17 rfl (lv_at hl 1 rfl) ?_
        refine lv_iload_n hx hb dX7_leastAbleWinch_18 rfl (lv_at hl 2 rfl) ?_
        obtain ⟨o1, g2, hf⟩ := jbB_e hf
        refine cva_e (As := [.int x4, .int x1, .int x2]) (rest := []) ⟨hx, hb, hml, hown, hts⟩ (c_X7_liftFault l g hq qv x4 x1 x2 _ g2) (cwV 3 hts gX7_leastAbleWinch_X7_liftFault rfl rfl rfl hd_X7_liftFault ⟨Nat.le_of_ble_eq_true rfl, Nat.le_of_ble_eq_true rfl⟩) hK hZ hT hA hP hD hS hl.1 (va_recv hK hP (ci := 7) (q0 := 0) rfl rfl) rfl rfl (Nat.le_of_ble_eq_true rfl) ⟨Nat.le_of_ble_eq_true rfl, Nat.le_of_ble_eq_true rfl⟩ dX7_leastAbleWinch_19 (fun H locs hP hD hS => ?_)
        refine va_gets (C := "TerraceQuarry$Fault") (n := "NONE") (d := "LTerraceQuarry$Fault;") (v := .ref (gS g 0 0)) hx hb (hZ.1.1 0 (by decide)).1 hS hown k1 (fun _ h9 => h9) dX7_leastAbleWinch_22 ?_
        obtain ⟨h3, hf⟩ := jbA_e hf
        refine lv_acmp_ne (rx := some (gS g 0 o1)) (ry := some (gS g 0 0)) (tgt := 32) hx hb dX7_leastAbleWinch_25 (by decide) (fun hc => ?_) (fun hc => ?_)
        · have hf := jbF hf (enN hc)
          refine lv_iconst (v := 0) hx hb dX7_leastAbleWinch_32 (by decide) ?_
          exact hJ33 x3 x4 0 _ _ _ _ hf hr hP hD hS (lv_sub hl [0, 1, 2, 3, 4] rfl)
        · have hf := jbT hf (enF hZ h3 (by decide) hc)
          refine lv_iconst (v := 1) hx hb dX7_leastAbleWinch_28 (by decide) ?_
          refine lv_goto (tgt := 33) hx hb dX7_leastAbleWinch_29 (by decide) ?_
          exact hJ33 x3 x4 1 _ _ _ _ hf hr hP hD hS (lv_sub hl [0, 1, 2, 3, 4] rfl)
  refine lv_iconst (v := (-1)) hx hb dX7_leastAbleWinch_0 (by decide) ?_
  refine lv_istore_n (lv' := [(3, .int (-1)), (0, .ref (hq 0)), (1, .int a0), (2, .int a1)]) hx hb dX7_leastAbleWinch_1 rfl hl (by decide) rfl (fun ls hl => ?_)
  refine lv_iconst (v := 0) hx hb dX7_leastAbleWinch_2 (by decide) ?_
  refine lv_istore (lv' := [(4, .int 0), (3, .int (-1)), (0, .ref (hq 0)), (1, .int a0), (2, .int a1)]) hx hb dX7_leastAbleWinch_3 hl (by decide) rfl (fun ls hl => ?_)
  obtain ⟨o5, hg, hf⟩ := jbB_e hf
  refine hL5 a0 a1 _ (-1) 0 _ _ _ _ hg hP hD hS (lv_sub hl [2, 3, 4, 1, 0] rfl) (fun H locs ls hP hD hS hl => ?_)
  refine lv_iload_n hx hb dX7_leastAbleWinch_70 rfl (lv_at hl 0 rfl) ?_
  cases hf
  subst hQ
  exact rt_i hx hb hrt hlk rfl hK hP hD hS (Nat.le_of_ble_eq_true rfl) (Nat.le_of_ble_eq_true rfl) dX7_leastAbleWinch_71
def f_X7_yardBlocks (qv : QV) (a0 : Int32) : Option Int32 :=
  if jIn a0 4 then
  some ((qYard qv) a0.toNatClampNeg)
  else none
def rm_X7_yardBlocks : Room := { frames := 0, cells := 0, slots := 0, locals := 0 }
theorem hd_X7_yardBlocks : yX7_yardBlocks.cls = RX7 ∧ yX7_yardBlocks.cls ≠ "java/lang/invoke/MethodHandle" ∧ yX7_yardBlocks.cls ≠ "java/lang/invoke/VarHandle" ∧ (parseMethodDescriptor yX7_yardBlocks.desc).map (fun d => d.parameters.length) = some 1 := by decide +kernel
set_option maxHeartbeats 4000000 in
set_option maxRecDepth 100000 in
theorem c_X7_yardBlocks (l : Launch) (g : GG) (hq : Nat → Nat) (qv : QV)  (a0 : Int32) (out : Int32) (hf : f_X7_yardBlocks qv a0 = some out) : MtI l yX7_yardBlocks wsX7_yardBlocks rm_X7_yardBlocks g (wQ g hq qv) [.ref (hq 0), .int a0] out (wQ g hq qv) 0 0 := by
  refine fun sz => mt_of (cc := cX7_yardBlocks) (maxL := 2) (ret := (some .int)) (own := RX7) (Qc := fun A => va_Qi (fun r (_ : Unit) => r = out) (fun _ t => PosM g A (wQ g hq qv) t) A) (by decide +kernel) rfl rfl (Nat.le_of_ble_eq_true rfl) ?_ sz
  intro p e s mi below meth c A ls hB hnm hrt hlk hP hD hl
  obtain ⟨hx, hb, hml, hown, hts, hK, hZ, hT, hA, -⟩ := hB
  have hS : va_S A s.heap s.heap [] := va_S.rf
  have hl : lv_has ls 2 [(0, .ref (hq 0)), (1, .int a0)] := hl
  have hinX7 : ∀ w ∈ wsX70, w ∈ wsX7_yardBlocks := by decide +kernel
  have k0 := hts (.fieldLink RX7 37 "TerraceQuarry$Quarry" "yard" "[I") (by decide +kernel)
  generalize hQ : MQ below _ _ _ _ _ _ = Q
  unfold f_X7_yardBlocks at hf
  refine lv_aload_n hx hb dX7_yardBlocks_0 rfl (lv_at hl 0 rfl) ?_
  refine va_get (D := gD g) (ci := 7) (v := .ref (hq 9)) (C := RX7) (T := TX7) (N := 15) hx hb hts hinX7 hown hK hP 0 rfl rfl 8 (by decide) k0 (fun _ h9 => h9) rfl dX7_yardBlocks_1 ?_
  refine lv_iload_n hx hb dX7_yardBlocks_4 rfl (lv_at hl 1 rfl) ?_
  obtain ⟨h1, hf⟩ := jbA_e hf
  refine va_iald hx hb hK hP 9 0 rfl rfl h1 dX7_yardBlocks_5 ?_
  cases hf
  subst hQ
  exact rt_i hx hb hrt hlk rfl hK hP hD hS (Nat.le_of_ble_eq_true rfl) (Nat.le_of_ble_eq_true rfl) dX7_yardBlocks_6
def f_X7_weightOfYard_L4 (qv : QV) (x1 : Int32) (x2 : Int32) : Option (Sum (Int32 × Int32) (Int32 × Int32)) :=
  if 4 ≤ x2 then
  (some (.inr (x1, x2)))
  else
  (if jIn x2 4 then
  (f_X7_weightOf x2).bind fun o2 =>
  jbN (x1 + (((qYard qv) x2.toNatClampNeg) * o2)) fun z4 =>
  some (.inl (z4, (x2 + 1)))
  else none)
def f_X7_weightOfYard (qv : QV) : Option Int32 :=
  (jbL (fun s => f_X7_weightOfYard_L4 qv (s.1) (s.2)) 5000 (0, 0)).bind fun o4 =>
  some (o4.1)
def rm_X7_weightOfYard : Room := { frames := 1, cells := 0, slots := 0, locals := 20 }
theorem hd_X7_weightOfYard : yX7_weightOfYard.cls = RX7 ∧ yX7_weightOfYard.cls ≠ "java/lang/invoke/MethodHandle" ∧ yX7_weightOfYard.cls ≠ "java/lang/invoke/VarHandle" ∧ (parseMethodDescriptor yX7_weightOfYard.desc).map (fun d => d.parameters.length) = some 0 := by decide +kernel
set_option maxHeartbeats 4000000 in
set_option maxRecDepth 100000 in
theorem c_X7_weightOfYard (l : Launch) (g : GG) (hq : Nat → Nat) (qv : QV)   (out : Int32) (hf : f_X7_weightOfYard qv = some out) : MtI l yX7_weightOfYard wsX7_weightOfYard rm_X7_weightOfYard g (wQ g hq qv) [.ref (hq 0)] out (wQ g hq qv) 0 0 := by
  refine fun sz => mt_of (cc := cX7_weightOfYard) (maxL := 3) (ret := (some .int)) (own := RX7) (Qc := fun A => va_Qi (fun r (_ : Unit) => r = out) (fun _ t => PosM g A (wQ g hq qv) t) A) (by decide +kernel) rfl rfl (Nat.le_of_ble_eq_true rfl) ?_ sz
  intro p e s mi below meth c A ls hB hnm hrt hlk hP hD hl
  obtain ⟨hx, hb, hml, hown, hts, hK, hZ, hT, hA, -⟩ := hB
  have hS : va_S A s.heap s.heap [] := va_S.rf
  have hl : lv_has ls 3 [(0, .ref (hq 0))] := hl
  have hinX7 : ∀ w ∈ wsX70, w ∈ wsX7_weightOfYard := by decide +kernel
  have k0 := hts (.fieldLink RX7 37 "TerraceQuarry$Quarry" "yard" "[I") (by decide +kernel)
  generalize hQ : MQ below _ _ _ _ _ _ = Q
  unfold f_X7_weightOfYard at hf
  have hL4 : ∀ (n : Nat) (x1 : Int32) (x2 : Int32) (H : Heap) (locs : List Loc) (ls : Array Slot) (o4 : Int32 × Int32), jbL (fun s => f_X7_weightOfYard_L4 qv (s.1) (s.2)) n (x1, x2) = some o4 → va_P (gD g) vwCl (wQ g hq qv) H → va_D A (wQ g hq qv) → va_S A s.heap H locs → lv_has ls 3 [(0, .ref (hq 0)), (1, .int x1), (2, .int x2)] → (∀ (H : Heap) (locs : List Loc) (ls : Array Slot), va_P (gD g) vwCl (wQ g hq qv) H → va_D A (wQ g hq qv) → va_S A s.heap H locs → lv_has ls 3 [(1, .int (o4.1))] → W p l e rm_X7_weightOfYard s mi [.ref (hq 0)].toArray below meth c H locs 0 0 Q (F0 mi 29 ls [])) → W p l e rm_X7_weightOfYard s mi [.ref (hq 0)].toArray below meth c H locs 0 0 Q (F0 mi 4 ls []) := by
    intro n
    induction n with
    | zero => intro x1 x2 H locs ls o4 hf; exact absurd hf (jbL_0 _ _ _)
    | succ n ih =>
      intro x1 x2 H locs ls o4 hf hP hD hS hl hk
      obtain ⟨r, hf, hr⟩ := jbL_e hf
      have hf : f_X7_weightOfYard_L4 qv x1 x2 = some r := hf
      unfold f_X7_weightOfYard_L4 at hf
      refine lv_iload_n hx hb dX7_weightOfYard_4 rfl (lv_at hl 2 rfl) ?_
      refine lv_iconst (v := 4) hx hb dX7_weightOfYard_5 (by decide) ?_
      refine lv_icmp_ge (tgt := 29) hx hb dX7_weightOfYard_6 (by decide) (fun hc => ?_) (fun hc => ?_)
      · have hf := jbT hf hc
        cases hf
        obtain rfl := jbR_r hr
        exact hk _ _ _ hP hD hS (lv_sub hl [1] rfl)
      · have hf := jbF hf hc
        refine lv_iload_n hx hb dX7_weightOfYard_9 rfl (lv_at hl 1 rfl) ?_
        refine lv_aload_n hx hb dX7_weightOfYard_10 rfl (lv_at hl 0 rfl) ?_
        refine va_get (D := gD g) (ci := 7) (v := .ref (hq 9)) (C := RX7) (T := TX7) (N := 15) hx hb hts hinX7 hown hK hP 0 rfl rfl 8 (by decide) k0 (fun _ h9 => h9) rfl dX7_weightOfYard_11 ?_
        refine lv_iload_n hx hb dX7_weightOfYard_14 rfl (lv_at hl 2 rfl) ?_
        obtain ⟨h1, hf⟩ := jbA_e hf
        refine va_iald hx hb hK hP 9 0 rfl rfl h1 dX7_weightOfYard_15 ?_
        refine lv_iload_n hx hb dX7_weightOfYard_16 rfl (lv_at hl 2 rfl) ?_
        obtain ⟨o2, g3, hf⟩ := jbB_e hf
        refine csn_i (As := [.int x2]) (rest := [.int ((qYard qv) x2.toNatClampNeg), .int x1]) ⟨hx, hb, hml, hown, hts⟩ (c_X7_weightOf l g x2 _ g3) (va_cwS 1 hts gX7_weightOfYard_X7_weightOf rfl rfl rfl hd_X7_weightOf ⟨Nat.le_of_ble_eq_true rfl, Nat.le_of_ble_eq_true rfl⟩) hK hZ hT hA hP hD hS hl.1 rfl rfl (Nat.le_of_ble_eq_true rfl) ⟨Nat.le_of_ble_eq_true rfl, Nat.le_of_ble_eq_true rfl⟩ dX7_weightOfYard_17 (fun H locs hP hD hS => ?_)
        refine lv_imul hx hb dX7_weightOfYard_20 ?_
        refine lv_iadd hx hb dX7_weightOfYard_21 ?_
        refine lv_topi (fun z4 ez4 => ?_)
        have hf := jbN_e hf ez4
        refine lv_istore_n (lv' := [(1, .int z4), (0, .ref (hq 0)), (2, .int x2)]) hx hb dX7_weightOfYard_22 rfl hl (by decide) rfl (fun ls hl => ?_)
        refine lv_iinc (v := (x2 + 1)) (lv' := [(2, .int (x2 + 1)), (1, .int z4), (0, .ref (hq 0))]) hx hb dX7_weightOfYard_23 hl (k := 2) rfl rfl (by decide) rfl (fun ls hl => ?_)
        refine lv_goto (tgt := 4) hx hb dX7_weightOfYard_26 (by decide) ?_
        cases hf
        exact ih z4 (x2 + 1) _ _ _ _ hr hP hD hS (lv_sub hl [2, 1, 0] rfl) hk
  refine lv_iconst (v := 0) hx hb dX7_weightOfYard_0 (by decide) ?_
  refine lv_istore_n (lv' := [(1, .int 0), (0, .ref (hq 0))]) hx hb dX7_weightOfYard_1 rfl hl (by decide) rfl (fun ls hl => ?_)
  refine lv_iconst (v := 0) hx hb dX7_weightOfYard_2 (by decide) ?_
  refine lv_istore_n (lv' := [(2, .int 0), (1, .int 0), (0, .ref (hq 0))]) hx hb dX7_weightOfYard_3 rfl hl (by decide) rfl (fun ls hl => ?_)
  obtain ⟨o4, hg, hf⟩ := jbB_e hf
  refine hL4 _ 0 0 _ _ _ _ hg hP hD hS (lv_sub hl [2, 1, 0] rfl) (fun H locs ls hP hD hS hl => ?_)
  refine lv_iload_n hx hb dX7_weightOfYard_29 rfl (lv_at hl 0 rfl) ?_
  cases hf
  subst hQ
  exact rt_i hx hb hrt hlk rfl hK hP hD hS (Nat.le_of_ble_eq_true rfl) (Nat.le_of_ble_eq_true rfl) dX7_weightOfYard_30
def f_X7_loads (qv : QV) : Option Int32 :=
  some (qRubble qv)
def rm_X7_loads : Room := { frames := 0, cells := 0, slots := 0, locals := 0 }
theorem hd_X7_loads : yX7_loads.cls = RX7 ∧ yX7_loads.cls ≠ "java/lang/invoke/MethodHandle" ∧ yX7_loads.cls ≠ "java/lang/invoke/VarHandle" ∧ (parseMethodDescriptor yX7_loads.desc).map (fun d => d.parameters.length) = some 0 := by decide +kernel
set_option maxHeartbeats 4000000 in
set_option maxRecDepth 100000 in
theorem c_X7_loads (l : Launch) (g : GG) (hq : Nat → Nat) (qv : QV)   (out : Int32) (hf : f_X7_loads qv = some out) : MtI l yX7_loads wsX7_loads rm_X7_loads g (wQ g hq qv) [.ref (hq 0)] out (wQ g hq qv) 0 0 := by
  refine fun sz => mt_of (cc := cX7_loads) (maxL := 1) (ret := (some .int)) (own := RX7) (Qc := fun A => va_Qi (fun r (_ : Unit) => r = out) (fun _ t => PosM g A (wQ g hq qv) t) A) (by decide +kernel) rfl rfl (Nat.le_of_ble_eq_true rfl) ?_ sz
  intro p e s mi below meth c A ls hB hnm hrt hlk hP hD hl
  obtain ⟨hx, hb, hml, hown, hts, hK, hZ, hT, hA, -⟩ := hB
  have hS : va_S A s.heap s.heap [] := va_S.rf
  have hl : lv_has ls 1 [(0, .ref (hq 0))] := hl
  have hinX7 : ∀ w ∈ wsX70, w ∈ wsX7_loads := by decide +kernel
  have k0 := hts (.fieldLink RX7 44 "TerraceQuarry$Quarry" "rubble" "I") (by decide +kernel)
  generalize hQ : MQ below _ _ _ _ _ _ = Q
  unfold f_X7_loads at hf
  refine lv_aload_n hx hb dX7_loads_0 rfl (lv_at hl 0 rfl) ?_
  refine va_get (D := gD g) (ci := 7) (v := .int (qRubble qv)) (C := RX7) (T := TX7) (N := 15) hx hb hts hinX7 hown hK hP 0 rfl rfl 11 (by decide) k0 (fun _ h9 => h9) rfl dX7_loads_1 ?_
  cases hf
  subst hQ
  exact rt_i hx hb hrt hlk rfl hK hP hD hS (Nat.le_of_ble_eq_true rfl) (Nat.le_of_ble_eq_true rfl) dX7_loads_4
def f_X7_limit (qv : QV) : Option Int32 :=
  some (qLimit qv)
def rm_X7_limit : Room := { frames := 0, cells := 0, slots := 0, locals := 0 }
theorem hd_X7_limit : yX7_limit.cls = RX7 ∧ yX7_limit.cls ≠ "java/lang/invoke/MethodHandle" ∧ yX7_limit.cls ≠ "java/lang/invoke/VarHandle" ∧ (parseMethodDescriptor yX7_limit.desc).map (fun d => d.parameters.length) = some 0 := by decide +kernel
set_option maxHeartbeats 4000000 in
set_option maxRecDepth 100000 in
theorem c_X7_limit (l : Launch) (g : GG) (hq : Nat → Nat) (qv : QV)   (out : Int32) (hf : f_X7_limit qv = some out) : MtI l yX7_limit wsX7_limit rm_X7_limit g (wQ g hq qv) [.ref (hq 0)] out (wQ g hq qv) 0 0 := by
  refine fun sz => mt_of (cc := cX7_limit) (maxL := 1) (ret := (some .int)) (own := RX7) (Qc := fun A => va_Qi (fun r (_ : Unit) => r = out) (fun _ t => PosM g A (wQ g hq qv) t) A) (by decide +kernel) rfl rfl (Nat.le_of_ble_eq_true rfl) ?_ sz
  intro p e s mi below meth c A ls hB hnm hrt hlk hP hD hl
  obtain ⟨hx, hb, hml, hown, hts, hK, hZ, hT, hA, -⟩ := hB
  have hS : va_S A s.heap s.heap [] := va_S.rf
  have hl : lv_has ls 1 [(0, .ref (hq 0))] := hl
  have hinX7 : ∀ w ∈ wsX70, w ∈ wsX7_limit := by decide +kernel
  have k0 := hts (.fieldLink RX7 40 "TerraceQuarry$Quarry" "limit" "I") (by decide +kernel)
  generalize hQ : MQ below _ _ _ _ _ _ = Q
  unfold f_X7_limit at hf
  refine lv_aload_n hx hb dX7_limit_0 rfl (lv_at hl 0 rfl) ?_
  refine va_get (D := gD g) (ci := 7) (v := .int (qLimit qv)) (C := RX7) (T := TX7) (N := 15) hx hb hts hinX7 hown hK hP 0 rfl rfl 10 (by decide) k0 (fun _ h9 => h9) rfl dX7_limit_1 ?_
  cases hf
  subst hQ
  exact rt_i hx hb hrt hlk rfl hK hP hD hS (Nat.le_of_ble_eq_true rfl) (Nat.le_of_ble_eq_true rfl) dX7_limit_4
def f_X7_cutsDone (qv : QV) : Option Int32 :=
  some (qCuts qv)
def rm_X7_cutsDone : Room := { frames := 0, cells := 0, slots := 0, locals := 0 }
theorem hd_X7_cutsDone : yX7_cutsDone.cls = RX7 ∧ yX7_cutsDone.cls ≠ "java/lang/invoke/MethodHandle" ∧ yX7_cutsDone.cls ≠ "java/lang/invoke/VarHandle" ∧ (parseMethodDescriptor yX7_cutsDone.desc).map (fun d => d.parameters.length) = some 0 := by decide +kernel
set_option maxHeartbeats 4000000 in
set_option maxRecDepth 100000 in
theorem c_X7_cutsDone (l : Launch) (g : GG) (hq : Nat → Nat) (qv : QV)   (out : Int32) (hf : f_X7_cutsDone qv = some out) : MtI l yX7_cutsDone wsX7_cutsDone rm_X7_cutsDone g (wQ g hq qv) [.ref (hq 0)] out (wQ g hq qv) 0 0 := by
  refine fun sz => mt_of (cc := cX7_cutsDone) (maxL := 1) (ret := (some .int)) (own := RX7) (Qc := fun A => va_Qi (fun r (_ : Unit) => r = out) (fun _ t => PosM g A (wQ g hq qv) t) A) (by decide +kernel) rfl rfl (Nat.le_of_ble_eq_true rfl) ?_ sz
  intro p e s mi below meth c A ls hB hnm hrt hlk hP hD hl
  obtain ⟨hx, hb, hml, hown, hts, hK, hZ, hT, hA, -⟩ := hB
  have hS : va_S A s.heap s.heap [] := va_S.rf
  have hl : lv_has ls 1 [(0, .ref (hq 0))] := hl
  have hinX7 : ∀ w ∈ wsX70, w ∈ wsX7_cutsDone := by decide +kernel
  have k0 := hts (.fieldLink RX7 56 "TerraceQuarry$Quarry" "cuts" "I") (by decide +kernel)
  generalize hQ : MQ below _ _ _ _ _ _ = Q
  unfold f_X7_cutsDone at hf
  refine lv_aload_n hx hb dX7_cutsDone_0 rfl (lv_at hl 0 rfl) ?_
  refine va_get (D := gD g) (ci := 7) (v := .int (qCuts qv)) (C := RX7) (T := TX7) (N := 15) hx hb hts hinX7 hown hK hP 0 rfl rfl 12 (by decide) k0 (fun _ h9 => h9) rfl dX7_cutsDone_1 ?_
  cases hf
  subst hQ
  exact rt_i hx hb hrt hlk rfl hK hP hD hS (Nat.le_of_ble_eq_true rfl) (Nat.le_of_ble_eq_true rfl) dX7_cutsDone_4
def f_X7_liftsDone (qv : QV) : Option Int32 :=
  some (qLifts qv)
def rm_X7_liftsDone : Room := { frames := 0, cells := 0, slots := 0, locals := 0 }
theorem hd_X7_liftsDone : yX7_liftsDone.cls = RX7 ∧ yX7_liftsDone.cls ≠ "java/lang/invoke/MethodHandle" ∧ yX7_liftsDone.cls ≠ "java/lang/invoke/VarHandle" ∧ (parseMethodDescriptor yX7_liftsDone.desc).map (fun d => d.parameters.length) = some 0 := by decide +kernel
set_option maxHeartbeats 4000000 in
set_option maxRecDepth 100000 in
theorem c_X7_liftsDone (l : Launch) (g : GG) (hq : Nat → Nat) (qv : QV)   (out : Int32) (hf : f_X7_liftsDone qv = some out) : MtI l yX7_liftsDone wsX7_liftsDone rm_X7_liftsDone g (wQ g hq qv) [.ref (hq 0)] out (wQ g hq qv) 0 0 := by
  refine fun sz => mt_of (cc := cX7_liftsDone) (maxL := 1) (ret := (some .int)) (own := RX7) (Qc := fun A => va_Qi (fun r (_ : Unit) => r = out) (fun _ t => PosM g A (wQ g hq qv) t) A) (by decide +kernel) rfl rfl (Nat.le_of_ble_eq_true rfl) ?_ sz
  intro p e s mi below meth c A ls hB hnm hrt hlk hP hD hl
  obtain ⟨hx, hb, hml, hown, hts, hK, hZ, hT, hA, -⟩ := hB
  have hS : va_S A s.heap s.heap [] := va_S.rf
  have hl : lv_has ls 1 [(0, .ref (hq 0))] := hl
  have hinX7 : ∀ w ∈ wsX70, w ∈ wsX7_liftsDone := by decide +kernel
  have k0 := hts (.fieldLink RX7 59 "TerraceQuarry$Quarry" "lifts" "I") (by decide +kernel)
  generalize hQ : MQ below _ _ _ _ _ _ = Q
  unfold f_X7_liftsDone at hf
  refine lv_aload_n hx hb dX7_liftsDone_0 rfl (lv_at hl 0 rfl) ?_
  refine va_get (D := gD g) (ci := 7) (v := .int (qLifts qv)) (C := RX7) (T := TX7) (N := 15) hx hb hts hinX7 hown hK hP 0 rfl rfl 13 (by decide) k0 (fun _ h9 => h9) rfl dX7_liftsDone_1 ?_
  cases hf
  subst hQ
  exact rt_i hx hb hrt hlk rfl hK hP hD hS (Nat.le_of_ble_eq_true rfl) (Nat.le_of_ble_eq_true rfl) dX7_liftsDone_4
def f_X7_workDone (qv : QV) : Option Int64 :=
  some (qWork qv)
def rm_X7_workDone : Room := { frames := 0, cells := 0, slots := 0, locals := 0 }
theorem hd_X7_workDone : yX7_workDone.cls = RX7 ∧ yX7_workDone.cls ≠ "java/lang/invoke/MethodHandle" ∧ yX7_workDone.cls ≠ "java/lang/invoke/VarHandle" ∧ (parseMethodDescriptor yX7_workDone.desc).map (fun d => d.parameters.length) = some 0 := by decide +kernel
set_option maxHeartbeats 4000000 in
set_option maxRecDepth 100000 in
theorem c_X7_workDone (l : Launch) (g : GG) (hq : Nat → Nat) (qv : QV)   (out : Int64) (hf : f_X7_workDone qv = some out) : MtL l yX7_workDone wsX7_workDone rm_X7_workDone g (wQ g hq qv) [.ref (hq 0)] out (wQ g hq qv) 0 0 := by
  refine fun sz => mt_of (cc := cX7_workDone) (maxL := 1) (ret := (some .long)) (own := RX7) (Qc := fun A => va_Ql (fun r (_ : Unit) => r = out) (fun _ t => PosM g A (wQ g hq qv) t) A) (by decide +kernel) rfl rfl (Nat.le_of_ble_eq_true rfl) ?_ sz
  intro p e s mi below meth c A ls hB hnm hrt hlk hP hD hl
  obtain ⟨hx, hb, hml, hown, hts, hK, hZ, hT, hA, -⟩ := hB
  have hS : va_S A s.heap s.heap [] := va_S.rf
  have hl : lv_has ls 1 [(0, .ref (hq 0))] := hl
  have hinX7 : ∀ w ∈ wsX70, w ∈ wsX7_workDone := by decide +kernel
  have k0 := hts (.fieldLink RX7 62 "TerraceQuarry$Quarry" "work" "J") (by decide +kernel)
  generalize hQ : MQ below _ _ _ _ _ _ = Q
  unfold f_X7_workDone at hf
  refine lv_aload_n hx hb dX7_workDone_0 rfl (lv_at hl 0 rfl) ?_
  refine va_get (D := gD g) (ci := 7) (v := .long (qWork qv)) (C := RX7) (T := TX7) (N := 15) hx hb hts hinX7 hown hK hP 0 rfl rfl 14 (by decide) k0 (fun _ h9 => h9) rfl dX7_workDone_1 ?_
  cases hf
  subst hQ
  exact rt_l hx hb hrt hlk hK hP hD hS (Nat.le_of_ble_eq_true rfl) (Nat.le_of_ble_eq_true rfl) dX7_workDone_4
