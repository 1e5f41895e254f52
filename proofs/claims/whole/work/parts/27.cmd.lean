def f_X1_addNumber (cv : CV) (a0 : Int32) : Option CV :=
  if 4 ≤ (cCount cv) then
  (some cv)
  else
  (if jIn (cCount cv) 4 then
  jbN (cSNumbers (upd (cNumbers cv) (cCount cv).toNatClampNeg a0) cv) fun w2 =>
  jbN (cSCount ((cCount w2) + 1) w2) fun w3 =>
  some w3
  else none)
def rm_X1_addNumber : Room := { frames := 0, cells := 0, slots := 0, locals := 0 }
theorem hd_X1_addNumber : yX1_addNumber.cls = RX1 ∧ yX1_addNumber.cls ≠ "java/lang/invoke/MethodHandle" ∧ yX1_addNumber.cls ≠ "java/lang/invoke/VarHandle" ∧ (parseMethodDescriptor yX1_addNumber.desc).map (fun d => d.parameters.length) = some 1 := by decide +kernel
set_option maxHeartbeats 4000000 in
set_option maxRecDepth 100000 in
theorem c_X1_addNumber (l : Launch) (g : GG) (hcm : Nat → Nat) (cv : CV)  (a0 : Int32) (out : CV) (hf : f_X1_addNumber cv a0 = some out) : MtV l yX1_addNumber wsX1_addNumber rm_X1_addNumber g (wC g hcm cv) [.ref (hcm 0), .int a0]  (wC g hcm out) 0 0 := by
  refine fun sz => mt_of (cc := cX1_addNumber) (maxL := 2) (ret := none) (own := RX1) (Qc := fun A => va_Qv (fun (_ : Unit) => True) (fun _ t => PosM g A (wC g hcm out) t) A) (by decide +kernel) rfl rfl (Nat.le_of_ble_eq_true rfl) ?_ sz
  intro p e s mi below meth c A ls hB hnm hrt hlk hP hD hl
  obtain ⟨hx, hb, hml, hown, hts, hK, hZ, hT, hA, -⟩ := hB
  have hS : va_S A s.heap s.heap [] := va_S.rf
  have hl : lv_has ls 2 [(0, .ref (hcm 0)), (1, .int a0)] := hl
  have hinX1 : ∀ w ∈ wsX10, w ∈ wsX1_addNumber := by decide +kernel
  have k0 := hts (.fieldLink RX1 17 "TerraceQuarry$Command" "count" "I") (by decide +kernel)
  have k1 := hts (.fieldLink RX1 13 "TerraceQuarry$Command" "numbers" "[I") (by decide +kernel)
  generalize hQ : MQ below _ _ _ _ _ _ = Q
  unfold f_X1_addNumber at hf
  refine lv_aload_n hx hb dX1_addNumber_0 rfl (lv_at hl 0 rfl) ?_
  refine va_get (D := gD g) (ci := 3) (v := .int (cCount cv)) (C := RX1) (T := TX1) (N := 3) hx hb hts hinX1 hown hK hP 0 rfl rfl 2 (by decide) k0 (fun _ h9 => h9) rfl dX1_addNumber_1 ?_
  refine lv_iconst (v := 4) hx hb dX1_addNumber_4 (by decide) ?_
  refine lv_icmp_ge (tgt := 28) hx hb dX1_addNumber_5 (by decide) (fun hc => ?_) (fun hc => ?_)
  · have hf := jbT hf hc
    cases hf
    subst hQ
    exact rt_v hx hb hrt hlk hK hP hD hS (Nat.le_of_ble_eq_true rfl) (Nat.le_of_ble_eq_true rfl) dX1_addNumber_28
  · have hf := jbF hf hc
    refine lv_aload_n hx hb dX1_addNumber_8 rfl (lv_at hl 0 rfl) ?_
    refine va_get (D := gD g) (ci := 3) (v := .ref (hcm 1)) (C := RX1) (T := TX1) (N := 3) hx hb hts hinX1 hown hK hP 0 rfl rfl 1 (by decide) k1 (fun _ h9 => h9) rfl dX1_addNumber_9 ?_
    refine lv_aload_n hx hb dX1_addNumber_12 rfl (lv_at hl 0 rfl) ?_
    refine va_get (D := gD g) (ci := 3) (v := .int (cCount cv)) (C := RX1) (T := TX1) (N := 3) hx hb hts hinX1 hown hK hP 0 rfl rfl 2 (by decide) k0 (fun _ h9 => h9) rfl dX1_addNumber_13 ?_
    refine lv_iload_n hx hb dX1_addNumber_16 rfl (lv_at hl 1 rfl) ?_
    obtain ⟨h1, hf⟩ := jbA_e hf
    refine va_iast hx hb hK hP hD hS 1 0 rfl rfl h1 dX1_addNumber_17 (fun H locs hP hD hS => ?_)
    obtain ⟨w2, ew2⟩ : ∃ y, y = (cSNumbers (upd (cNumbers cv) (cCount cv).toNatClampNeg a0) cv) := ⟨_, rfl⟩
    have hf := jbN_e hf ew2
    have hP : va_P (gD g) vwCl (wC g hcm w2) H := by rw [ew2]; exact hP
    have hD : va_D A (wC g hcm w2) := by rw [ew2]; exact hD
    refine lv_aload_n hx hb dX1_addNumber_18 rfl (lv_at hl 0 rfl) ?_
    refine lv_dup hx hb dX1_addNumber_19 rfl ?_
    refine va_get (D := gD g) (ci := 3) (v := .int (cCount w2)) (C := RX1) (T := TX1) (N := 3) hx hb hts hinX1 hown hK hP 0 rfl rfl 2 (by decide) k0 (fun _ h9 => h9) rfl dX1_addNumber_20 ?_
    refine lv_iconst (v := 1) hx hb dX1_addNumber_23 (by decide) ?_
    refine lv_iadd hx hb dX1_addNumber_24 ?_
    refine va_put (D := gD g) (ci := 3) (v := .int ((cCount w2) + 1)) (ty := .int) (C := RX1) (T := TX1) (N := 3) hx hb hts hinX1 tyX1 tyX1_ok nmX1 hown hK hP hD hS 0 rfl rfl 2 (by decide) k0 (fun _ h9 => h9) rfl (tyX1_ok 2 (by decide)) rfl rfl (Nat.le_of_ble_eq_true rfl) dX1_addNumber_25 (fun H locs hP hD hS => ?_)
    obtain ⟨w3, ew3⟩ : ∃ y, y = (cSCount ((cCount w2) + 1) w2) := ⟨_, rfl⟩
    have hf := jbN_e hf ew3
    have hP : va_P (gD g) vwCl (wC g hcm w3) H := by rw [ew3]; exact hP
    have hD : va_D A (wC g hcm w3) := by rw [ew3]; exact hD
    cases hf
    subst hQ
    exact rt_v hx hb hrt hlk hK hP hD hS (Nat.le_of_ble_eq_true rfl) (Nat.le_of_ble_eq_true rfl) dX1_addNumber_28
def f_X1_addDigitToLast (cv : CV) (a0 : Int32) : Option CV :=
  if (cCount cv) ≤ 0 then
  (some cv)
  else
  (if jIn ((cCount cv) - 1) 4 then
  if jIn ((cCount cv) - 1) 4 then
  jbN (cSNumbers (upd (cNumbers cv) ((cCount cv) - 1).toNatClampNeg ((((cNumbers cv) ((cCount cv) - 1).toNatClampNeg) * 10) + a0)) cv) fun w3 =>
  some w3
  else none
  else none)
def rm_X1_addDigitToLast : Room := { frames := 0, cells := 0, slots := 0, locals := 0 }
theorem hd_X1_addDigitToLast : yX1_addDigitToLast.cls = RX1 ∧ yX1_addDigitToLast.cls ≠ "java/lang/invoke/MethodHandle" ∧ yX1_addDigitToLast.cls ≠ "java/lang/invoke/VarHandle" ∧ (parseMethodDescriptor yX1_addDigitToLast.desc).map (fun d => d.parameters.length) = some 1 := by decide +kernel
set_option maxHeartbeats 4000000 in
set_option maxRecDepth 100000 in
theorem c_X1_addDigitToLast (l : Launch) (g : GG) (hcm : Nat → Nat) (cv : CV)  (a0 : Int32) (out : CV) (hf : f_X1_addDigitToLast cv a0 = some out) : MtV l yX1_addDigitToLast wsX1_addDigitToLast rm_X1_addDigitToLast g (wC g hcm cv) [.ref (hcm 0), .int a0]  (wC g hcm out) 0 0 := by
  refine fun sz => mt_of (cc := cX1_addDigitToLast) (maxL := 2) (ret := none) (own := RX1) (Qc := fun A => va_Qv (fun (_ : Unit) => True) (fun _ t => PosM g A (wC g hcm out) t) A) (by decide +kernel) rfl rfl (Nat.le_of_ble_eq_true rfl) ?_ sz
  intro p e s mi below meth c A ls hB hnm hrt hlk hP hD hl
  obtain ⟨hx, hb, hml, hown, hts, hK, hZ, hT, hA, -⟩ := hB
  have hS : va_S A s.heap s.heap [] := va_S.rf
  have hl : lv_has ls 2 [(0, .ref (hcm 0)), (1, .int a0)] := hl
  have hinX1 : ∀ w ∈ wsX10, w ∈ wsX1_addDigitToLast := by decide +kernel
  have k0 := hts (.fieldLink RX1 17 "TerraceQuarry$Command" "count" "I") (by decide +kernel)
  have k1 := hts (.fieldLink RX1 13 "TerraceQuarry$Command" "numbers" "[I") (by decide +kernel)
  generalize hQ : MQ below _ _ _ _ _ _ = Q
  unfold f_X1_addDigitToLast at hf
  refine lv_aload_n hx hb dX1_addDigitToLast_0 rfl (lv_at hl 0 rfl) ?_
  refine va_get (D := gD g) (ci := 3) (v := .int (cCount cv)) (C := RX1) (T := TX1) (N := 3) hx hb hts hinX1 hown hK hP 0 rfl rfl 2 (by decide) k0 (fun _ h9 => h9) rfl dX1_addDigitToLast_1 ?_
  refine lv_if_le (tgt := 34) hx hb dX1_addDigitToLast_4 (by decide) (fun hc => ?_) (fun hc => ?_)
  · have hf := jbT hf hc
    cases hf
    subst hQ
    exact rt_v hx hb hrt hlk hK hP hD hS (Nat.le_of_ble_eq_true rfl) (Nat.le_of_ble_eq_true rfl) dX1_addDigitToLast_34
  · have hf := jbF hf hc
    refine lv_aload_n hx hb dX1_addDigitToLast_7 rfl (lv_at hl 0 rfl) ?_
    refine va_get (D := gD g) (ci := 3) (v := .ref (hcm 1)) (C := RX1) (T := TX1) (N := 3) hx hb hts hinX1 hown hK hP 0 rfl rfl 1 (by decide) k1 (fun _ h9 => h9) rfl dX1_addDigitToLast_8 ?_
    refine lv_aload_n hx hb dX1_addDigitToLast_11 rfl (lv_at hl 0 rfl) ?_
    refine va_get (D := gD g) (ci := 3) (v := .int (cCount cv)) (C := RX1) (T := TX1) (N := 3) hx hb hts hinX1 hown hK hP 0 rfl rfl 2 (by decide) k0 (fun _ h9 => h9) rfl dX1_addDigitToLast_12 ?_
    refine lv_iconst (v := 1) hx hb dX1_addDigitToLast_15 (by decide) ?_
    refine lv_isub hx hb dX1_addDigitToLast_16 ?_
    refine lv_aload_n hx hb dX1_addDigitToLast_17 rfl (lv_at hl 0 rfl) ?_
    refine va_get (D := gD g) (ci := 3) (v := .ref (hcm 1)) (C := RX1) (T := TX1) (N := 3) hx hb hts hinX1 hown hK hP 0 rfl rfl 1 (by decide) k1 (fun _ h9 => h9) rfl dX1_addDigitToLast_18 ?_
    refine lv_aload_n hx hb dX1_addDigitToLast_21 rfl (lv_at hl 0 rfl) ?_
    refine va_get (D := gD g) (ci := 3) (v := .int (cCount cv)) (C := RX1) (T := TX1) (N := 3) hx hb hts hinX1 hown hK hP 0 rfl rfl 2 (by decide) k0 (fun _ h9 => h9) rfl dX1_addDigitToLast_22 ?_
    refine lv_iconst (v := 1) hx hb dX1_addDigitToLast_25 (by decide) ?_
    refine lv_isub hx hb dX1_addDigitToLast_26 ?_
    obtain ⟨h1, hf⟩ := jbA_e hf
    refine va_iald hx hb hK hP 1 0 rfl rfl h1 dX1_addDigitToLast_27 ?_
    refine lv_bipush (v := 10) hx hb dX1_addDigitToLast_28 (by decide) ?_
    refine lv_imul hx hb dX1_addDigitToLast_30 ?_
    refine lv_iload_n hx hb dX1_addDigitToLast_31 rfl (lv_at hl 1 rfl) ?_
    refine lv_iadd hx hb dX1_addDigitToLast_32 ?_
    obtain ⟨h2, hf⟩ := jbA_e hf
    refine va_iast hx hb hK hP hD hS 1 0 rfl rfl h2 dX1_addDigitToLast_33 (fun H locs hP hD hS => ?_)
    obtain ⟨w3, ew3⟩ : ∃ y, y = (cSNumbers (upd (cNumbers cv) ((cCount cv) - 1).toNatClampNeg ((((cNumbers cv) ((cCount cv) - 1).toNatClampNeg) * 10) + a0)) cv) := ⟨_, rfl⟩
    have hf := jbN_e hf ew3
    have hP : va_P (gD g) vwCl (wC g hcm w3) H := by rw [ew3]; exact hP
    have hD : va_D A (wC g hcm w3) := by rw [ew3]; exact hD
    cases hf
    subst hQ
    exact rt_v hx hb hrt hlk hK hP hD hS (Nat.le_of_ble_eq_true rfl) (Nat.le_of_ble_eq_true rfl) dX1_addDigitToLast_34
def f_X1_faultIn (cv : CV) (qv : QV) : Option Nat :=
  jbN (cVerb cv) fun v9 =>
  if v9 < 8 then
  if v9 = 0 then
  (if jIn 0 4 then
  if jIn 1 4 then
  if jIn 2 4 then
  (f_X7_stoneFault qv ((cNumbers cv) (0 : Int32).toNatClampNeg) ((cNumbers cv) (1 : Int32).toNatClampNeg) ((cNumbers cv) (2 : Int32).toNatClampNeg)).bind fun o4 =>
  some o4
  else none
  else none
  else none)
  else
  if v9 = 1 then
  (if jIn 0 4 then
  if jIn 1 4 then
  (f_X7_cutFault qv ((cNumbers cv) (0 : Int32).toNatClampNeg) ((cNumbers cv) (1 : Int32).toNatClampNeg)).bind fun o8 =>
  some o8
  else none
  else none)
  else
  if v9 = 2 then
  (if jIn 0 4 then
  if jIn 1 4 then
  (f_X7_fillFault qv ((cNumbers cv) (0 : Int32).toNatClampNeg) ((cNumbers cv) (1 : Int32).toNatClampNeg)).bind fun o12 =>
  some o12
  else none
  else none)
  else
  if v9 = 3 then
  (if jIn 0 4 then
  if jIn 1 4 then
  (f_X3_cellFault ((cNumbers cv) (0 : Int32).toNatClampNeg) ((cNumbers cv) (1 : Int32).toNatClampNeg)).bind fun o16 =>
  some o16
  else none
  else none)
  else
  if v9 = 4 then
  (if jIn 0 4 then
  (f_X7_limitFault qv ((cNumbers cv) (0 : Int32).toNatClampNeg)).bind fun o19 =>
  some o19
  else none)
  else
  if v9 = 5 then
  (if jIn 0 4 then
  if jIn 1 4 then
  if jIn 2 4 then
  if jIn 3 4 then
  (f_X7_winchFault qv ((cNumbers cv) (0 : Int32).toNatClampNeg) ((cNumbers cv) (1 : Int32).toNatClampNeg) ((cNumbers cv) (2 : Int32).toNatClampNeg) ((cNumbers cv) (3 : Int32).toNatClampNeg)).bind fun o25 =>
  some o25
  else none
  else none
  else none
  else none)
  else
  if v9 = 6 then
  (if jIn 0 4 then
  if jIn 1 4 then
  if jIn 2 4 then
  (f_X7_liftFault qv ((cNumbers cv) (0 : Int32).toNatClampNeg) ((cNumbers cv) (1 : Int32).toNatClampNeg) ((cNumbers cv) (2 : Int32).toNatClampNeg)).bind fun o30 =>
  some o30
  else none
  else none
  else none)
  else
  (if jIn 0 4 then
  if jIn 1 4 then
  (f_X7_crushFault qv ((cNumbers cv) (0 : Int32).toNatClampNeg) ((cNumbers cv) (1 : Int32).toNatClampNeg)).bind fun o34 =>
  some o34
  else none
  else none)
  else none
def rm_X1_faultIn : Room := { frames := 4, cells := 0, slots := 0, locals := 93 }
theorem hd_X1_faultIn : yX1_faultIn.cls = RX1 ∧ yX1_faultIn.cls ≠ "java/lang/invoke/MethodHandle" ∧ yX1_faultIn.cls ≠ "java/lang/invoke/VarHandle" ∧ (parseMethodDescriptor yX1_faultIn.desc).map (fun d => d.parameters.length) = some 1 := by decide +kernel
set_option maxHeartbeats 4000000 in
set_option maxRecDepth 100000 in
theorem c_X1_faultIn (l : Launch) (g : GG) (hcm : Nat → Nat) (cv : CV) (hq : Nat → Nat) (qv : QV)   (out : Nat) (hf : f_X1_faultIn cv qv = some out) : MtR l yX1_faultIn wsX1_faultIn rm_X1_faultIn g (wC g hcm cv ++ wQ g hq qv) [.ref (hcm 0), .ref (hq 0)] (some (gS g 0 out)) (wC g hcm cv ++ wQ g hq qv) 0 0 := by
  refine fun sz => mt_of (cc := cX1_faultIn) (maxL := 2) (ret := (some (.object "TerraceQuarry$Fault"))) (own := RX1) (Qc := fun A => va_Qq (fun r (_ : Unit) => r = (some (gS g 0 out))) (fun _ t => PosM g A (wC g hcm cv ++ wQ g hq qv) t) A) (by decide +kernel) rfl rfl (Nat.le_of_ble_eq_true rfl) ?_ sz
  intro p e s mi below meth c A ls hB hnm hrt hlk hP hD hl
  obtain ⟨hx, hb, hml, hown, hts, hK, hZ, hT, hA, -⟩ := hB
  have hS : va_S A s.heap s.heap [] := va_S.rf
  have hl : lv_has ls 2 [(0, .ref (hcm 0)), (1, .ref (hq 0))] := hl
  have hinX1 : ∀ w ∈ wsX10, w ∈ wsX1_faultIn := by decide +kernel
  have k0 := hts (.fieldLink RX1 21 "TerraceQuarry$1" "$SwitchMap$TerraceQuarry$Verb" "[I") (by decide +kernel)
  have k1 := hts (.fieldLink RX1 7 "TerraceQuarry$Command" "verb" "LTerraceQuarry$Verb;") (by decide +kernel)
  have k2 := hts (.fieldLink RX1 13 "TerraceQuarry$Command" "numbers" "[I") (by decide +kernel)
  generalize hQ : MQ below _ _ _ _ _ _ = Q
  unfold f_X1_faultIn at hf
  obtain ⟨v9, ev9⟩ : ∃ y, y = cVerb cv := ⟨_, rfl⟩
  have hf := jbN_e hf ev9
  obtain ⟨h8, hf⟩ := jbA_e hf
  have h8c : cVerb cv < 8 := ev9 ▸ h8
  by_cases hv9 : v9 = 0
  · have hf := jbT hf hv9
    refine va_gets (C := "TerraceQuarry$1") (n := "$SwitchMap$TerraceQuarry$Verb") (d := "[I") (v := .ref (gS g 4 2)) hx hb hZ.2.2.2.2.2.2.1.1 hS hown k0 (fun _ h9 => h9) dX1_faultIn_0 ?_
    refine lv_aload_n hx hb dX1_faultIn_3 rfl (lv_at hl 0 rfl) ?_
    refine va_get (D := gD g) (ci := 3) (v := .ref (gS g 1 (cVerb cv))) (C := RX1) (T := TX1) (N := 3) hx hb hts hinX1 hown hK hP 0 rfl rfl 0 (by decide) k1 (fun _ h9 => h9) rfl dX1_faultIn_4 ?_
    refine cun_i (C := "TerraceQuarry$Verb") (As := []) (rest := [.ref (gS g 4 2)]) ⟨hx, hb, hml, hown, hts⟩ (c_ordV l g (cVerb cv) h8c) (va_cwU 0 hts gX1_faultIn_Jx29ce0_ordinal_8abf5_u26X9 rfl rfl rfl rfl (by decide +kernel) ⟨(Nat.le_of_ble_eq_true rfl), (Nat.le_of_ble_eq_true rfl)⟩) hK hZ hT hA hP hD hS hl.1 (va_recvE hZ.2.1 h8c hS) rfl rfl (Nat.le_of_ble_eq_true rfl) ⟨(Nat.le_of_ble_eq_true rfl), (Nat.le_of_ble_eq_true rfl)⟩ dX1_faultIn_7 (fun H locs hP hD hS => ?_)
    rw [show cVerb cv = 0 from ev9.symm.trans hv9]
    refine va_ti (v := .int 1) hx hb hZ.2.2.2.2.2.2.1.2 hS (show jIn _ 8 from by decide) (by decide +kernel) dX1_faultIn_10 ?_
    refine lv_tableIn (tgt := 52) hx hb dX1_faultIn_11 (by decide) (by decide) rfl (by decide) ?_
    refine lv_aload_n hx hb dX1_faultIn_52 rfl (lv_at hl 1 rfl) ?_
    refine lv_aload_n hx hb dX1_faultIn_53 rfl (lv_at hl 0 rfl) ?_
    refine va_get (D := gD g) (ci := 3) (v := .ref (hcm 1)) (C := RX1) (T := TX1) (N := 3) hx hb hts hinX1 hown hK hP 0 rfl rfl 1 (by decide) k2 (fun _ h9 => h9) rfl dX1_faultIn_54 ?_
    refine lv_iconst (v := 0) hx hb dX1_faultIn_57 (by decide) ?_
    obtain ⟨h1, hf⟩ := jbA_e hf
    refine va_iald hx hb hK hP 1 0 rfl rfl h1 dX1_faultIn_58 ?_
    refine lv_aload_n hx hb dX1_faultIn_59 rfl (lv_at hl 0 rfl) ?_
    refine va_get (D := gD g) (ci := 3) (v := .ref (hcm 1)) (C := RX1) (T := TX1) (N := 3) hx hb hts hinX1 hown hK hP 0 rfl rfl 1 (by decide) k2 (fun _ h9 => h9) rfl dX1_faultIn_60 ?_
    refine lv_iconst (v := 1) hx hb dX1_faultIn_63 (by decide) ?_
    obtain ⟨h2, hf⟩ := jbA_e hf
    refine va_iald hx hb hK hP 1 0 rfl rfl h2 dX1_faultIn_64 ?_
    refine lv_aload_n hx hb dX1_faultIn_65 rfl (lv_at hl 0 rfl) ?_
    refine va_get (D := gD g) (ci := 3) (v := .ref (hcm 1)) (C := RX1) (T := TX1) (N := 3) hx hb hts hinX1 hown hK hP 0 rfl rfl 1 (by decide) k2 (fun _ h9 => h9) rfl dX1_faultIn_66 ?_
    refine lv_iconst (v := 2) hx hb dX1_faultIn_69 (by decide) ?_
    obtain ⟨h3, hf⟩ := jbA_e hf
    refine va_iald hx hb hK hP 1 0 rfl rfl h3 dX1_faultIn_70 ?_
    obtain ⟨o4, g5, hf⟩ := jbB_e hf
    refine cv_e (As := [.int ((cNumbers cv) (0 : Int32).toNatClampNeg), .int ((cNumbers cv) (1 : Int32).toNatClampNeg), .int ((cNumbers cv) (2 : Int32).toNatClampNeg)]) (rest := []) (Wr := [0, 1].filterMap (fun i => ((wC g hcm cv ++ wQ g hq qv))[i]?)) ⟨hx, hb, hml, hown, hts⟩ (c_X7_stoneFault l g hq qv ((cNumbers cv) (0 : Int32).toNatClampNeg) ((cNumbers cv) (1 : Int32).toNatClampNeg) ((cNumbers cv) (2 : Int32).toNatClampNeg) _ g5) (cwV 3 hts gX1_faultIn_X7_stoneFault rfl rfl rfl hd_X7_stoneFault ⟨Nat.le_of_ble_eq_true rfl, Nat.le_of_ble_eq_true rfl⟩) hK hZ hT hA hP hD hS hl.1 (va_recv hK hP (ci := 7) (q0 := 2) rfl rfl) [2, 3, 4, 5, 6, 7, 8, 9, 10, 11] [0, 1] rfl rfl rfl rfl rfl rfl rfl (Nat.le_of_ble_eq_true rfl) ⟨Nat.le_of_ble_eq_true rfl, Nat.le_of_ble_eq_true rfl⟩ dX1_faultIn_71 (fun H locs hP hD hS => ?_)
    have hP : va_P (gD g) vwCl (wC g hcm cv ++ wQ g hq qv) H := hP.sub [0, 1, 2, 3, 4, 5, 6, 7, 8, 9, 10, 11] rfl
    have hD : va_D A (wC g hcm cv ++ wQ g hq qv) := hD.sub [0, 1, 2, 3, 4, 5, 6, 7, 8, 9, 10, 11] rfl rfl
    cases hf
    subst hQ
    exact rt_r (rv := some _) hx hb hrt (Or.inl ⟨_, rfl⟩) hlk hK hP hD hS (Nat.le_of_ble_eq_true rfl) (Nat.le_of_ble_eq_true rfl) dX1_faultIn_74
  have hf := jbF hf hv9
  have hn0 := hv9
  clear hv9
  by_cases hv9 : v9 = 1
  · have hf := jbT hf hv9
    refine va_gets (C := "TerraceQuarry$1") (n := "$SwitchMap$TerraceQuarry$Verb") (d := "[I") (v := .ref (gS g 4 2)) hx hb hZ.2.2.2.2.2.2.1.1 hS hown k0 (fun _ h9 => h9) dX1_faultIn_0 ?_
    refine lv_aload_n hx hb dX1_faultIn_3 rfl (lv_at hl 0 rfl) ?_
    refine va_get (D := gD g) (ci := 3) (v := .ref (gS g 1 (cVerb cv))) (C := RX1) (T := TX1) (N := 3) hx hb hts hinX1 hown hK hP 0 rfl rfl 0 (by decide) k1 (fun _ h9 => h9) rfl dX1_faultIn_4 ?_
    refine cun_i (C := "TerraceQuarry$Verb") (As := []) (rest := [.ref (gS g 4 2)]) ⟨hx, hb, hml, hown, hts⟩ (c_ordV l g (cVerb cv) h8c) (va_cwU 0 hts gX1_faultIn_Jx29ce0_ordinal_8abf5_u26X9 rfl rfl rfl rfl (by decide +kernel) ⟨(Nat.le_of_ble_eq_true rfl), (Nat.le_of_ble_eq_true rfl)⟩) hK hZ hT hA hP hD hS hl.1 (va_recvE hZ.2.1 h8c hS) rfl rfl (Nat.le_of_ble_eq_true rfl) ⟨(Nat.le_of_ble_eq_true rfl), (Nat.le_of_ble_eq_true rfl)⟩ dX1_faultIn_7 (fun H locs hP hD hS => ?_)
    rw [show cVerb cv = 1 from ev9.symm.trans hv9]
    refine va_ti (v := .int 2) hx hb hZ.2.2.2.2.2.2.1.2 hS (show jIn _ 8 from by decide) (by decide +kernel) dX1_faultIn_10 ?_
    refine lv_tableIn (tgt := 75) hx hb dX1_faultIn_11 (by decide) (by decide) rfl (by decide) ?_
    refine lv_aload_n hx hb dX1_faultIn_75 rfl (lv_at hl 1 rfl) ?_
    refine lv_aload_n hx hb dX1_faultIn_76 rfl (lv_at hl 0 rfl) ?_
    refine va_get (D := gD g) (ci := 3) (v := .ref (hcm 1)) (C := RX1) (T := TX1) (N := 3) hx hb hts hinX1 hown hK hP 0 rfl rfl 1 (by decide) k2 (fun _ h9 => h9) rfl dX1_faultIn_77 ?_
    refine lv_iconst (v := 0) hx hb dX1_faultIn_80 (by decide) ?_
    obtain ⟨h6, hf⟩ := jbA_e hf
    refine va_iald hx hb hK hP 1 0 rfl rfl h6 dX1_faultIn_81 ?_
    refine lv_aload_n hx hb dX1_faultIn_82 rfl (lv_at hl 0 rfl) ?_
    refine va_get (D := gD g) (ci := 3) (v := .ref (hcm 1)) (C := RX1) (T := TX1) (N := 3) hx hb hts hinX1 hown hK hP 0 rfl rfl 1 (by decide) k2 (fun _ h9 => h9) rfl dX1_faultIn_83 ?_
    refine lv_iconst (v := 1) hx hb dX1_faultIn_86 (by decide) ?_
    obtain ⟨h7, hf⟩ := jbA_e hf
    refine va_iald hx hb hK hP 1 0 rfl rfl h7 dX1_faultIn_87 ?_
    obtain ⟨o8, g9, hf⟩ := jbB_e hf
    refine cv_e (As := [.int ((cNumbers cv) (0 : Int32).toNatClampNeg), .int ((cNumbers cv) (1 : Int32).toNatClampNeg)]) (rest := []) (Wr := [0, 1].filterMap (fun i => ((wC g hcm cv ++ wQ g hq qv))[i]?)) ⟨hx, hb, hml, hown, hts⟩ (c_X7_cutFault l g hq qv ((cNumbers cv) (0 : Int32).toNatClampNeg) ((cNumbers cv) (1 : Int32).toNatClampNeg) _ g9) (cwV 2 hts gX1_faultIn_X7_cutFault rfl rfl rfl hd_X7_cutFault ⟨Nat.le_of_ble_eq_true rfl, Nat.le_of_ble_eq_true rfl⟩) hK hZ hT hA hP hD hS hl.1 (va_recv hK hP (ci := 7) (q0 := 2) rfl rfl) [2, 3, 4, 5, 6, 7, 8, 9, 10, 11] [0, 1] rfl rfl rfl rfl rfl rfl rfl (Nat.le_of_ble_eq_true rfl) ⟨Nat.le_of_ble_eq_true rfl, Nat.le_of_ble_eq_true rfl⟩ dX1_faultIn_88 (fun H locs hP hD hS => ?_)
    have hP : va_P (gD g) vwCl (wC g hcm cv ++ wQ g hq qv) H := hP.sub [0, 1, 2, 3, 4, 5, 6, 7, 8, 9, 10, 11] rfl
    have hD : va_D A (wC g hcm cv ++ wQ g hq qv) := hD.sub [0, 1, 2, 3, 4, 5, 6, 7, 8, 9, 10, 11] rfl rfl
    cases hf
    subst hQ
    exact rt_r (rv := some _) hx hb hrt (Or.inl ⟨_, rfl⟩) hlk hK hP hD hS (Nat.le_of_ble_eq_true rfl) (Nat.le_of_ble_eq_true rfl) dX1_faultIn_91
  have hf := jbF hf hv9
  have hn1 := hv9
  clear hv9
  by_cases hv9 : v9 = 2
  · have hf := jbT hf hv9
    refine va_gets (C := "TerraceQuarry$1") (n := "$SwitchMap$TerraceQuarry$Verb") (d := "[I") (v := .ref (gS g 4 2)) hx hb hZ.2.2.2.2.2.2.1.1 hS hown k0 (fun _ h9 => h9) dX1_faultIn_0 ?_
    refine lv_aload_n hx hb dX1_faultIn_3 rfl (lv_at hl 0 rfl) ?_
    refine va_get (D := gD g) (ci := 3) (v := .ref (gS g 1 (cVerb cv))) (C := RX1) (T := TX1) (N := 3) hx hb hts hinX1 hown hK hP 0 rfl rfl 0 (by decide) k1 (fun _ h9 => h9) rfl dX1_faultIn_4 ?_
    refine cun_i (C := "TerraceQuarry$Verb") (As := []) (rest := [.ref (gS g 4 2)]) ⟨hx, hb, hml, hown, hts⟩ (c_ordV l g (cVerb cv) h8c) (va_cwU 0 hts gX1_faultIn_Jx29ce0_ordinal_8abf5_u26X9 rfl rfl rfl rfl (by decide +kernel) ⟨(Nat.le_of_ble_eq_true rfl), (Nat.le_of_ble_eq_true rfl)⟩) hK hZ hT hA hP hD hS hl.1 (va_recvE hZ.2.1 h8c hS) rfl rfl (Nat.le_of_ble_eq_true rfl) ⟨(Nat.le_of_ble_eq_true rfl), (Nat.le_of_ble_eq_true rfl)⟩ dX1_faultIn_7 (fun H locs hP hD hS => ?_)
    rw [show cVerb cv = 2 from ev9.symm.trans hv9]
    refine va_ti (v := .int 3) hx hb hZ.2.2.2.2.2.2.1.2 hS (show jIn _ 8 from by decide) (by decide +kernel) dX1_faultIn_10 ?_
    refine lv_tableIn (tgt := 92) hx hb dX1_faultIn_11 (by decide) (by decide) rfl (by decide) ?_
    refine lv_aload_n hx hb dX1_faultIn_92 rfl (lv_at hl 1 rfl) ?_
    refine lv_aload_n hx hb dX1_faultIn_93 rfl (lv_at hl 0 rfl) ?_
    refine va_get (D := gD g) (ci := 3) (v := .ref (hcm 1)) (C := RX1) (T := TX1) (N := 3) hx hb hts hinX1 hown hK hP 0 rfl rfl 1 (by decide) k2 (fun _ h9 => h9) rfl dX1_faultIn_94 ?_
    refine lv_iconst (v := 0) hx hb dX1_faultIn_97 (by decide) ?_
    obtain ⟨h10, hf⟩ := jbA_e hf
    refine va_iald hx hb hK hP 1 0 rfl rfl h10 dX1_faultIn_98 ?_
    refine lv_aload_n hx hb dX1_faultIn_99 rfl (lv_at hl 0 rfl) ?_
    refine va_get (D := gD g) (ci := 3) (v := .ref (hcm 1)) (C := RX1) (T := TX1) (N := 3) hx hb hts hinX1 hown hK hP 0 rfl rfl 1 (by decide) k2 (fun _ h9 => h9) rfl dX1_faultIn_100 ?_
    refine lv_iconst (v := 1) hx hb dX1_faultIn_103 (by decide) ?_
    obtain ⟨h11, hf⟩ := jbA_e hf
    refine va_iald hx hb hK hP 1 0 rfl rfl h11 dX1_faultIn_104 ?_
    obtain ⟨o12, g13, hf⟩ := jbB_e hf
    refine cv_e (As := [.int ((cNumbers cv) (0 : Int32).toNatClampNeg), .int ((cNumbers cv) (1 : Int32).toNatClampNeg)]) (rest := []) (Wr := [0, 1].filterMap (fun i => ((wC g hcm cv ++ wQ g hq qv))[i]?)) ⟨hx, hb, hml, hown, hts⟩ (c_X7_fillFault l g hq qv ((cNumbers cv) (0 : Int32).toNatClampNeg) ((cNumbers cv) (1 : Int32).toNatClampNeg) _ g13) (cwV 2 hts gX1_faultIn_X7_fillFault rfl rfl rfl hd_X7_fillFault ⟨Nat.le_of_ble_eq_true rfl, Nat.le_of_ble_eq_true rfl⟩) hK hZ hT hA hP hD hS hl.1 (va_recv hK hP (ci := 7) (q0 := 2) rfl rfl) [2, 3, 4, 5, 6, 7, 8, 9, 10, 11] [0, 1] rfl rfl rfl rfl rfl rfl rfl (Nat.le_of_ble_eq_true rfl) ⟨Nat.le_of_ble_eq_true rfl, Nat.le_of_ble_eq_true rfl⟩ dX1_faultIn_105 (fun H locs hP hD hS => ?_)
    have hP : va_P (gD g) vwCl (wC g hcm cv ++ wQ g hq qv) H := hP.sub [0, 1, 2, 3, 4, 5, 6, 7, 8, 9, 10, 11] rfl
    have hD : va_D A (wC g hcm cv ++ wQ g hq qv) := hD.sub [0, 1, 2, 3, 4, 5, 6, 7, 8, 9, 10, 11] rfl rfl
    cases hf
    subst hQ
    exact rt_r (rv := some _) hx hb hrt (Or.inl ⟨_, rfl⟩) hlk hK hP hD hS (Nat.le_of_ble_eq_true rfl) (Nat.le_of_ble_eq_true rfl) dX1_faultIn_108
  have hf := jbF hf hv9
  have hn2 := hv9
  clear hv9
  by_cases hv9 : v9 = 3
  · have hf := jbT hf hv9
    refine va_gets (C := "TerraceQuarry$1") (n := "$SwitchMap$TerraceQuarry$Verb") (d := "[I") (v := .ref (gS g 4 2)) hx hb hZ.2.2.2.2.2.2.1.1 hS hown k0 (fun _ h9 => h9) dX1_faultIn_0 ?_
    refine lv_aload_n hx hb dX1_faultIn_3 rfl (lv_at hl 0 rfl) ?_
    refine va_get (D := gD g) (ci := 3) (v := .ref (gS g 1 (cVerb cv))) (C := RX1) (T := TX1) (N := 3) hx hb hts hinX1 hown hK hP 0 rfl rfl 0 (by decide) k1 (fun _ h9 => h9) rfl dX1_faultIn_4 ?_
    refine cun_i (C := "TerraceQuarry$Verb") (As := []) (rest := [.ref (gS g 4 2)]) ⟨hx, hb, hml, hown, hts⟩ (c_ordV l g (cVerb cv) h8c) (va_cwU 0 hts gX1_faultIn_Jx29ce0_ordinal_8abf5_u26X9 rfl rfl rfl rfl (by decide +kernel) ⟨(Nat.le_of_ble_eq_true rfl), (Nat.le_of_ble_eq_true rfl)⟩) hK hZ hT hA hP hD hS hl.1 (va_recvE hZ.2.1 h8c hS) rfl rfl (Nat.le_of_ble_eq_true rfl) ⟨(Nat.le_of_ble_eq_true rfl), (Nat.le_of_ble_eq_true rfl)⟩ dX1_faultIn_7 (fun H locs hP hD hS => ?_)
    rw [show cVerb cv = 3 from ev9.symm.trans hv9]
    refine va_ti (v := .int 4) hx hb hZ.2.2.2.2.2.2.1.2 hS (show jIn _ 8 from by decide) (by decide +kernel) dX1_faultIn_10 ?_
    refine lv_tableIn (tgt := 109) hx hb dX1_faultIn_11 (by decide) (by decide) rfl (by decide) ?_
    refine lv_aload_n hx hb dX1_faultIn_109 rfl (lv_at hl 0 rfl) ?_
    refine va_get (D := gD g) (ci := 3) (v := .ref (hcm 1)) (C := RX1) (T := TX1) (N := 3) hx hb hts hinX1 hown hK hP 0 rfl rfl 1 (by decide) k2 (fun _ h9 => h9) rfl dX1_faultIn_110 ?_
    refine lv_iconst (v := 0) hx hb dX1_faultIn_113 (by decide) ?_
    obtain ⟨h14, hf⟩ := jbA_e hf
    refine va_iald hx hb hK hP 1 0 rfl rfl h14 dX1_faultIn_114 ?_
    refine lv_aload_n hx hb dX1_faultIn_115 rfl (lv_at hl 0 rfl) ?_
    refine va_get (D := gD g) (ci := 3) (v := .ref (hcm 1)) (C := RX1) (T := TX1) (N := 3) hx hb hts hinX1 hown hK hP 0 rfl rfl 1 (by decide) k2 (fun _ h9 => h9) rfl dX1_faultIn_116 ?_
    refine lv_iconst (v := 1) hx hb dX1_faultIn_119 (by decide) ?_
    obtain ⟨h15, hf⟩ := jbA_e hf
    refine va_iald hx hb hK hP 1 0 rfl rfl h15 dX1_faultIn_120 ?_
    obtain ⟨o16, g17, hf⟩ := jbB_e hf
    refine csn_e (As := [.int ((cNumbers cv) (0 : Int32).toNatClampNeg), .int ((cNumbers cv) (1 : Int32).toNatClampNeg)]) (rest := []) ⟨hx, hb, hml, hown, hts⟩ (c_X3_cellFault l g ((cNumbers cv) (0 : Int32).toNatClampNeg) ((cNumbers cv) (1 : Int32).toNatClampNeg) _ g17) (va_cwS 2 hts gX1_faultIn_X3_cellFault rfl rfl rfl hd_X3_cellFault ⟨Nat.le_of_ble_eq_true rfl, Nat.le_of_ble_eq_true rfl⟩) hK hZ hT hA hP hD hS hl.1 rfl rfl (Nat.le_of_ble_eq_true rfl) ⟨Nat.le_of_ble_eq_true rfl, Nat.le_of_ble_eq_true rfl⟩ dX1_faultIn_121 (fun H locs hP hD hS => ?_)
    cases hf
    subst hQ
    exact rt_r (rv := some _) hx hb hrt (Or.inl ⟨_, rfl⟩) hlk hK hP hD hS (Nat.le_of_ble_eq_true rfl) (Nat.le_of_ble_eq_true rfl) dX1_faultIn_124
  have hf := jbF hf hv9
  have hn3 := hv9
  clear hv9
  by_cases hv9 : v9 = 4
  · have hf := jbT hf hv9
    refine va_gets (C := "TerraceQuarry$1") (n := "$SwitchMap$TerraceQuarry$Verb") (d := "[I") (v := .ref (gS g 4 2)) hx hb hZ.2.2.2.2.2.2.1.1 hS hown k0 (fun _ h9 => h9) dX1_faultIn_0 ?_
    refine lv_aload_n hx hb dX1_faultIn_3 rfl (lv_at hl 0 rfl) ?_
    refine va_get (D := gD g) (ci := 3) (v := .ref (gS g 1 (cVerb cv))) (C := RX1) (T := TX1) (N := 3) hx hb hts hinX1 hown hK hP 0 rfl rfl 0 (by decide) k1 (fun _ h9 => h9) rfl dX1_faultIn_4 ?_
    refine cun_i (C := "TerraceQuarry$Verb") (As := []) (rest := [.ref (gS g 4 2)]) ⟨hx, hb, hml, hown, hts⟩ (c_ordV l g (cVerb cv) h8c) (va_cwU 0 hts gX1_faultIn_Jx29ce0_ordinal_8abf5_u26X9 rfl rfl rfl rfl (by decide +kernel) ⟨(Nat.le_of_ble_eq_true rfl), (Nat.le_of_ble_eq_true rfl)⟩) hK hZ hT hA hP hD hS hl.1 (va_recvE hZ.2.1 h8c hS) rfl rfl (Nat.le_of_ble_eq_true rfl) ⟨(Nat.le_of_ble_eq_true rfl), (Nat.le_of_ble_eq_true rfl)⟩ dX1_faultIn_7 (fun H locs hP hD hS => ?_)
    rw [show cVerb cv = 4 from ev9.symm.trans hv9]
    refine va_ti (v := .int 5) hx hb hZ.2.2.2.2.2.2.1.2 hS (show jIn _ 8 from by decide) (by decide +kernel) dX1_faultIn_10 ?_
    refine lv_tableIn (tgt := 125) hx hb dX1_faultIn_11 (by decide) (by decide) rfl (by decide) ?_
    refine lv_aload_n hx hb dX1_faultIn_125 rfl (lv_at hl 1 rfl) ?_
    refine lv_aload_n hx hb dX1_faultIn_126 rfl (lv_at hl 0 rfl) ?_
    refine va_get (D := gD g) (ci := 3) (v := .ref (hcm 1)) (C := RX1) (T := TX1) (N := 3) hx hb hts hinX1 hown hK hP 0 rfl rfl 1 (by decide) k2 (fun _ h9 => h9) rfl dX1_faultIn_127 ?_
    refine lv_iconst (v := 0) hx hb dX1_faultIn_130 (by decide) ?_
    obtain ⟨h18, hf⟩ := jbA_e hf
    refine va_iald hx hb hK hP 1 0 rfl rfl h18 dX1_faultIn_131 ?_
    obtain ⟨o19, g20, hf⟩ := jbB_e hf
    refine cv_e (As := [.int ((cNumbers cv) (0 : Int32).toNatClampNeg)]) (rest := []) (Wr := [0, 1].filterMap (fun i => ((wC g hcm cv ++ wQ g hq qv))[i]?)) ⟨hx, hb, hml, hown, hts⟩ (c_X7_limitFault l g hq qv ((cNumbers cv) (0 : Int32).toNatClampNeg) _ g20) (cwV 1 hts gX1_faultIn_X7_limitFault rfl rfl rfl hd_X7_limitFault ⟨Nat.le_of_ble_eq_true rfl, Nat.le_of_ble_eq_true rfl⟩) hK hZ hT hA hP hD hS hl.1 (va_recv hK hP (ci := 7) (q0 := 2) rfl rfl) [2, 3, 4, 5, 6, 7, 8, 9, 10, 11] [0, 1] rfl rfl rfl rfl rfl rfl rfl (Nat.le_of_ble_eq_true rfl) ⟨Nat.le_of_ble_eq_true rfl, Nat.le_of_ble_eq_true rfl⟩ dX1_faultIn_132 (fun H locs hP hD hS => ?_)
    have hP : va_P (gD g) vwCl (wC g hcm cv ++ wQ g hq qv) H := hP.sub [0, 1, 2, 3, 4, 5, 6, 7, 8, 9, 10, 11] rfl
    have hD : va_D A (wC g hcm cv ++ wQ g hq qv) := hD.sub [0, 1, 2, 3, 4, 5, 6, 7, 8, 9, 10, 11] rfl rfl
    cases hf
    subst hQ
    exact rt_r (rv := some _) hx hb hrt (Or.inl ⟨_, rfl⟩) hlk hK hP hD hS (Nat.le_of_ble_eq_true rfl) (Nat.le_of_ble_eq_true rfl) dX1_faultIn_135
  have hf := jbF hf hv9
  have hn4 := hv9
  clear hv9
  by_cases hv9 : v9 = 5
  · have hf := jbT hf hv9
    refine va_gets (C := "TerraceQuarry$1") (n := "$SwitchMap$TerraceQuarry$Verb") (d := "[I") (v := .ref (gS g 4 2)) hx hb hZ.2.2.2.2.2.2.1.1 hS hown k0 (fun _ h9 => h9) dX1_faultIn_0 ?_
    refine lv_aload_n hx hb dX1_faultIn_3 rfl (lv_at hl 0 rfl) ?_
    refine va_get (D := gD g) (ci := 3) (v := .ref (gS g 1 (cVerb cv))) (C := RX1) (T := TX1) (N := 3) hx hb hts hinX1 hown hK hP 0 rfl rfl 0 (by decide) k1 (fun _ h9 => h9) rfl dX1_faultIn_4 ?_
    refine cun_i (C := "TerraceQuarry$Verb") (As := []) (rest := [.ref (gS g 4 2)]) ⟨hx, hb, hml, hown, hts⟩ (c_ordV l g (cVerb cv) h8c) (va_cwU 0 hts gX1_faultIn_Jx29ce0_ordinal_8abf5_u26X9 rfl rfl rfl rfl (by decide +kernel) ⟨(Nat.le_of_ble_eq_true rfl), (Nat.le_of_ble_eq_true rfl)⟩) hK hZ hT hA hP hD hS hl.1 (va_recvE hZ.2.1 h8c hS) rfl rfl (Nat.le_of_ble_eq_true rfl) ⟨(Nat.le_of_ble_eq_true rfl), (Nat.le_of_ble_eq_true rfl)⟩ dX1_faultIn_7 (fun H locs hP hD hS => ?_)
    rw [show cVerb cv = 5 from ev9.symm.trans hv9]
    refine va_ti (v := .int 6) hx hb hZ.2.2.2.2.2.2.1.2 hS (show jIn _ 8 from by decide) (by decide +kernel) dX1_faultIn_10 ?_
    refine lv_tableIn (tgt := 136) hx hb dX1_faultIn_11 (by decide) (by decide) rfl (by decide) ?_
    refine lv_aload_n hx hb dX1_faultIn_136 rfl (lv_at hl 1 rfl) ?_
    refine lv_aload_n hx hb dX1_faultIn_137 rfl (lv_at hl 0 rfl) ?_
    refine va_get (D := gD g) (ci := 3) (v := .ref (hcm 1)) (C := RX1) (T := TX1) (N := 3) hx hb hts hinX1 hown hK hP 0 rfl rfl 1 (by decide) k2 (fun _ h9 => h9) rfl dX1_faultIn_138 ?_
    refine lv_iconst (v := 0) hx hb dX1_faultIn_141 (by decide) ?_
    obtain ⟨h21, hf⟩ := jbA_e hf
    refine va_iald hx hb hK hP 1 0 rfl rfl h21 dX1_faultIn_142 ?_
    refine lv_aload_n hx hb dX1_faultIn_143 rfl (lv_at hl 0 rfl) ?_
    refine va_get (D := gD g) (ci := 3) (v := .ref (hcm 1)) (C := RX1) (T := TX1) (N := 3) hx hb hts hinX1 hown hK hP 0 rfl rfl 1 (by decide) k2 (fun _ h9 => h9) rfl dX1_faultIn_144 ?_
    refine lv_iconst (v := 1) hx hb dX1_faultIn_147 (by decide) ?_
    obtain ⟨h22, hf⟩ := jbA_e hf
    refine va_iald hx hb hK hP 1 0 rfl rfl h22 dX1_faultIn_148 ?_
    refine lv_aload_n hx hb dX1_faultIn_149 rfl (lv_at hl 0 rfl) ?_
    refine va_get (D := gD g) (ci := 3) (v := .ref (hcm 1)) (C := RX1) (T := TX1) (N := 3) hx hb hts hinX1 hown hK hP 0 rfl rfl 1 (by decide) k2 (fun _ h9 => h9) rfl dX1_faultIn_150 ?_
    refine lv_iconst (v := 2) hx hb dX1_faultIn_153 (by decide) ?_
    obtain ⟨h23, hf⟩ := jbA_e hf
    refine va_iald hx hb hK hP 1 0 rfl rfl h23 dX1_faultIn_154 ?_
    refine lv_aload_n hx hb dX1_faultIn_155 rfl (lv_at hl 0 rfl) ?_
    refine va_get (D := gD g) (ci := 3) (v := .ref (hcm 1)) (C := RX1) (T := TX1) (N := 3) hx hb hts hinX1 hown hK hP 0 rfl rfl 1 (by decide) k2 (fun _ h9 => h9) rfl dX1_faultIn_156 ?_
    refine lv_iconst (v := 3) hx hb dX1_faultIn_159 (by decide) ?_
    obtain ⟨h24, hf⟩ := jbA_e hf
    refine va_iald hx hb hK hP 1 0 rfl rfl h24 dX1_faultIn_160 ?_
    obtain ⟨o25, g26, hf⟩ := jbB_e hf
    refine cv_e (As := [.int ((cNumbers cv) (0 : Int32).toNatClampNeg), .int ((cNumbers cv) (1 : Int32).toNatClampNeg), .int ((cNumbers cv) (2 : Int32).toNatClampNeg), .int ((cNumbers cv) (3 : Int32).toNatClampNeg)]) (rest := []) (Wr := [0, 1].filterMap (fun i => ((wC g hcm cv ++ wQ g hq qv))[i]?)) ⟨hx, hb, hml, hown, hts⟩ (c_X7_winchFault l g hq qv ((cNumbers cv) (0 : Int32).toNatClampNeg) ((cNumbers cv) (1 : Int32).toNatClampNeg) ((cNumbers cv) (2 : Int32).toNatClampNeg) ((cNumbers cv) (3 : Int32).toNatClampNeg) _ g26) (cwV 4 hts gX1_faultIn_X7_winchFault rfl rfl rfl hd_X7_winchFault ⟨Nat.le_of_ble_eq_true rfl, Nat.le_of_ble_eq_true rfl⟩) hK hZ hT hA hP hD hS hl.1 (va_recv hK hP (ci := 7) (q0 := 2) rfl rfl) [2, 3, 4, 5, 6, 7, 8, 9, 10, 11] [0, 1] rfl rfl rfl rfl rfl rfl rfl (Nat.le_of_ble_eq_true rfl) ⟨Nat.le_of_ble_eq_true rfl, Nat.le_of_ble_eq_true rfl⟩ dX1_faultIn_161 (fun H locs hP hD hS => ?_)
    have hP : va_P (gD g) vwCl (wC g hcm cv ++ wQ g hq qv) H := hP.sub [0, 1, 2, 3, 4, 5, 6, 7, 8, 9, 10, 11] rfl
    have hD : va_D A (wC g hcm cv ++ wQ g hq qv) := hD.sub [0, 1, 2, 3, 4, 5, 6, 7, 8, 9, 10, 11] rfl rfl
    cases hf
    subst hQ
    exact rt_r (rv := some _) hx hb hrt (Or.inl ⟨_, rfl⟩) hlk hK hP hD hS (Nat.le_of_ble_eq_true rfl) (Nat.le_of_ble_eq_true rfl) dX1_faultIn_164
  have hf := jbF hf hv9
  have hn5 := hv9
  clear hv9
  by_cases hv9 : v9 = 6
  · have hf := jbT hf hv9
    refine va_gets (C := "TerraceQuarry$1") (n := "$SwitchMap$TerraceQuarry$Verb") (d := "[I") (v := .ref (gS g 4 2)) hx hb hZ.2.2.2.2.2.2.1.1 hS hown k0 (fun _ h9 => h9) dX1_faultIn_0 ?_
    refine lv_aload_n hx hb dX1_faultIn_3 rfl (lv_at hl 0 rfl) ?_
    refine va_get (D := gD g) (ci := 3) (v := .ref (gS g 1 (cVerb cv))) (C := RX1) (T := TX1) (N := 3) hx hb hts hinX1 hown hK hP 0 rfl rfl 0 (by decide) k1 (fun _ h9 => h9) rfl dX1_faultIn_4 ?_
    refine cun_i (C := "TerraceQuarry$Verb") (As := []) (rest := [.ref (gS g 4 2)]) ⟨hx, hb, hml, hown, hts⟩ (c_ordV l g (cVerb cv) h8c) (va_cwU 0 hts gX1_faultIn_Jx29ce0_ordinal_8abf5_u26X9 rfl rfl rfl rfl (by decide +kernel) ⟨(Nat.le_of_ble_eq_true rfl), (Nat.le_of_ble_eq_true rfl)⟩) hK hZ hT hA hP hD hS hl.1 (va_recvE hZ.2.1 h8c hS) rfl rfl (Nat.le_of_ble_eq_true rfl) ⟨(Nat.le_of_ble_eq_true rfl), (Nat.le_of_ble_eq_true rfl)⟩ dX1_faultIn_7 (fun H locs hP hD hS => ?_)
    rw [show cVerb cv = 6 from ev9.symm.trans hv9]
    refine va_ti (v := .int 7) hx hb hZ.2.2.2.2.2.2.1.2 hS (show jIn _ 8 from by decide) (by decide +kernel) dX1_faultIn_10 ?_
    refine lv_tableIn (tgt := 165) hx hb dX1_faultIn_11 (by decide) (by decide) rfl (by decide) ?_
    refine lv_aload_n hx hb dX1_faultIn_165 rfl (lv_at hl 1 rfl) ?_
    refine lv_aload_n hx hb dX1_faultIn_166 rfl (lv_at hl 0 rfl) ?_
    refine va_get (D := gD g) (ci := 3) (v := .ref (hcm 1)) (C := RX1) (T := TX1) (N := 3) hx hb hts hinX1 hown hK hP 0 rfl rfl 1 (by decide) k2 (fun _ h9 => h9) rfl dX1_faultIn_167 ?_
    refine lv_iconst (v := 0) hx hb dX1_faultIn_170 (by decide) ?_
    obtain ⟨h27, hf⟩ := jbA_e hf
    refine va_iald hx hb hK hP 1 0 rfl rfl h27 dX1_faultIn_171 ?_
    refine lv_aload_n hx hb dX1_faultIn_172 rfl (lv_at hl 0 rfl) ?_
    refine va_get (D := gD g) (ci := 3) (v := .ref (hcm 1)) (C := RX1) (T := TX1) (N := 3) hx hb hts hinX1 hown hK hP 0 rfl rfl 1 (by decide) k2 (fun _ h9 => h9) rfl dX1_faultIn_173 ?_
    refine lv_iconst (v := 1) hx hb dX1_faultIn_176 (by decide) ?_
    obtain ⟨h28, hf⟩ := jbA_e hf
    refine va_iald hx hb hK hP 1 0 rfl rfl h28 dX1_faultIn_177 ?_
    refine lv_aload_n hx hb dX1_faultIn_178 rfl (lv_at hl 0 rfl) ?_
    refine va_get (D := gD g) (ci := 3) (v := .ref (hcm 1)) (C := RX1) (T := TX1) (N := 3) hx hb hts hinX1 hown hK hP 0 rfl rfl 1 (by decide) k2 (fun _ h9 => h9) rfl dX1_faultIn_179 ?_
    refine lv_iconst (v := 2) hx hb dX1_faultIn_182 (by decide) ?_
    obtain ⟨h29, hf⟩ := jbA_e hf
    refine va_iald hx hb hK hP 1 0 rfl rfl h29 dX1_faultIn_183 ?_
    obtain ⟨o30, g31, hf⟩ := jbB_e hf
    refine cv_e (As := [.int ((cNumbers cv) (0 : Int32).toNatClampNeg), .int ((cNumbers cv) (1 : Int32).toNatClampNeg), .int ((cNumbers cv) (2 : Int32).toNatClampNeg)]) (rest := []) (Wr := [0, 1].filterMap (fun i => ((wC g hcm cv ++ wQ g hq qv))[i]?)) ⟨hx, hb, hml, hown, hts⟩ (c_X7_liftFault l g hq qv ((cNumbers cv) (0 : Int32).toNatClampNeg) ((cNumbers cv) (1 : Int32).toNatClampNeg) ((cNumbers cv) (2 : Int32).toNatClampNeg) _ g31) (cwV 3 hts gX1_faultIn_X7_liftFault rfl rfl rfl hd_X7_liftFault ⟨Nat.le_of_ble_eq_true rfl, Nat.le_of_ble_eq_true rfl⟩) hK hZ hT hA hP hD hS hl.1 (va_recv hK hP (ci := 7) (q0 := 2) rfl rfl) [2, 3, 4, 5, 6, 7, 8, 9, 10, 11] [0, 1] rfl rfl rfl rfl rfl rfl rfl (Nat.le_of_ble_eq_true rfl) ⟨Nat.le_of_ble_eq_true rfl, Nat.le_of_ble_eq_true rfl⟩ dX1_faultIn_184 (fun H locs hP hD hS => ?_)
    have hP : va_P (gD g) vwCl (wC g hcm cv ++ wQ g hq qv) H := hP.sub [0, 1, 2, 3, 4, 5, 6, 7, 8, 9, 10, 11] rfl
    have hD : va_D A (wC g hcm cv ++ wQ g hq qv) := hD.sub [0, 1, 2, 3, 4, 5, 6, 7, 8, 9, 10, 11] rfl rfl
    cases hf
    subst hQ
    exact rt_r (rv := some _) hx hb hrt (Or.inl ⟨_, rfl⟩) hlk hK hP hD hS (Nat.le_of_ble_eq_true rfl) (Nat.le_of_ble_eq_true rfl) dX1_faultIn_187
  have hf := jbF hf hv9
  have hn6 := hv9
  clear hv9
  have hv9 : v9 = 7 := by omega
  refine va_gets (C := "TerraceQuarry$1") (n := "$SwitchMap$TerraceQuarry$Verb") (d := "[I") (v := .ref (gS g 4 2)) hx hb hZ.2.2.2.2.2.2.1.1 hS hown k0 (fun _ h9 => h9) dX1_faultIn_0 ?_
  refine lv_aload_n hx hb dX1_faultIn_3 rfl (lv_at hl 0 rfl) ?_
  refine va_get (D := gD g) (ci := 3) (v := .ref (gS g 1 (cVerb cv))) (C := RX1) (T := TX1) (N := 3) hx hb hts hinX1 hown hK hP 0 rfl rfl 0 (by decide) k1 (fun _ h9 => h9) rfl dX1_faultIn_4 ?_
  refine cun_i (C := "TerraceQuarry$Verb") (As := []) (rest := [.ref (gS g 4 2)]) ⟨hx, hb, hml, hown, hts⟩ (c_ordV l g (cVerb cv) h8c) (va_cwU 0 hts gX1_faultIn_Jx29ce0_ordinal_8abf5_u26X9 rfl rfl rfl rfl (by decide +kernel) ⟨(Nat.le_of_ble_eq_true rfl), (Nat.le_of_ble_eq_true rfl)⟩) hK hZ hT hA hP hD hS hl.1 (va_recvE hZ.2.1 h8c hS) rfl rfl (Nat.le_of_ble_eq_true rfl) ⟨(Nat.le_of_ble_eq_true rfl), (Nat.le_of_ble_eq_true rfl)⟩ dX1_faultIn_7 (fun H locs hP hD hS => ?_)
  rw [show cVerb cv = 7 from ev9.symm.trans hv9]
  refine va_ti (v := .int 0) hx hb hZ.2.2.2.2.2.2.1.2 hS (show jIn _ 8 from by decide) (by decide +kernel) dX1_faultIn_10 ?_
  refine lv_tableOut (tgt := 188) hx hb dX1_faultIn_11 (by decide) (by decide) ?_
  refine lv_aload_n hx hb dX1_faultIn_188 rfl (lv_at hl 1 rfl) ?_
  refine lv_aload_n hx hb dX1_faultIn_189 rfl (lv_at hl 0 rfl) ?_
  refine va_get (D := gD g) (ci := 3) (v := .ref (hcm 1)) (C := RX1) (T := TX1) (N := 3) hx hb hts hinX1 hown hK hP 0 rfl rfl 1 (by decide) k2 (fun _ h9 => h9) rfl dX1_faultIn_190 ?_
  refine lv_iconst (v := 0) hx hb dX1_faultIn_193 (by decide) ?_
  obtain ⟨h32, hf⟩ := jbA_e hf
  refine va_iald hx hb hK hP 1 0 rfl rfl h32 dX1_faultIn_194 ?_
  refine lv_aload_n hx hb dX1_faultIn_195 rfl (lv_at hl 0 rfl) ?_
  refine va_get (D := gD g) (ci := 3) (v := .ref (hcm 1)) (C := RX1) (T := TX1) (N := 3) hx hb hts hinX1 hown hK hP 0 rfl rfl 1 (by decide) k2 (fun _ h9 => h9) rfl dX1_faultIn_196 ?_
  refine lv_iconst (v := 1) hx hb dX1_faultIn_199 (by decide) ?_
  obtain ⟨h33, hf⟩ := jbA_e hf
  refine va_iald hx hb hK hP 1 0 rfl rfl h33 dX1_faultIn_200 ?_
  obtain ⟨o34, g35, hf⟩ := jbB_e hf
  refine cv_e (As := [.int ((cNumbers cv) (0 : Int32).toNatClampNeg), .int ((cNumbers cv) (1 : Int32).toNatClampNeg)]) (rest := []) (Wr := [0, 1].filterMap (fun i => ((wC g hcm cv ++ wQ g hq qv))[i]?)) ⟨hx, hb, hml, hown, hts⟩ (c_X7_crushFault l g hq qv ((cNumbers cv) (0 : Int32).toNatClampNeg) ((cNumbers cv) (1 : Int32).toNatClampNeg) _ g35) (cwV 2 hts gX1_faultIn_X7_crushFault rfl rfl rfl hd_X7_crushFault ⟨Nat.le_of_ble_eq_true rfl, Nat.le_of_ble_eq_true rfl⟩) hK hZ hT hA hP hD hS hl.1 (va_recv hK hP (ci := 7) (q0 := 2) rfl rfl) [2, 3, 4, 5, 6, 7, 8, 9, 10, 11] [0, 1] rfl rfl rfl rfl rfl rfl rfl (Nat.le_of_ble_eq_true rfl) ⟨Nat.le_of_ble_eq_true rfl, Nat.le_of_ble_eq_true rfl⟩ dX1_faultIn_201 (fun H locs hP hD hS => ?_)
  have hP : va_P (gD g) vwCl (wC g hcm cv ++ wQ g hq qv) H := hP.sub [0, 1, 2, 3, 4, 5, 6, 7, 8, 9, 10, 11] rfl
  have hD : va_D A (wC g hcm cv ++ wQ g hq qv) := hD.sub [0, 1, 2, 3, 4, 5, 6, 7, 8, 9, 10, 11] rfl rfl
  cases hf
  subst hQ
  exact rt_r (rv := some _) hx hb hrt (Or.inl ⟨_, rfl⟩) hlk hK hP hD hS (Nat.le_of_ble_eq_true rfl) (Nat.le_of_ble_eq_true rfl) dX1_faultIn_204
def f_X1_change (cv : CV) (qv : QV) : Option QV :=
  jbN (cVerb cv) fun v9 =>
  if v9 < 8 then
  if v9 = 0 then
  (if jIn 0 4 then
  if jIn 1 4 then
  if jIn 2 4 then
  (f_X7_changeStone qv ((cNumbers cv) (0 : Int32).toNatClampNeg) ((cNumbers cv) (1 : Int32).toNatClampNeg) ((cNumbers cv) (2 : Int32).toNatClampNeg)).bind fun o4 =>
  some (o4.2)
  else none
  else none
  else none)
  else
  if v9 = 1 then
  (if jIn 0 4 then
  if jIn 1 4 then
  (f_X7_cutCell qv ((cNumbers cv) (0 : Int32).toNatClampNeg) ((cNumbers cv) (1 : Int32).toNatClampNeg)).bind fun o8 =>
  some (o8.2)
  else none
  else none)
  else
  if v9 = 2 then
  (if jIn 0 4 then
  if jIn 1 4 then
  (f_X7_fillCell qv ((cNumbers cv) (0 : Int32).toNatClampNeg) ((cNumbers cv) (1 : Int32).toNatClampNeg)).bind fun o12 =>
  some (o12.2)
  else none
  else none)
  else
  if v9 = 3 then
  (if jIn 0 4 then
  if jIn 1 4 then
  (f_X7_switchLedge qv ((cNumbers cv) (0 : Int32).toNatClampNeg) ((cNumbers cv) (1 : Int32).toNatClampNeg)).bind fun o16 =>
  some (o16.2)
  else none
  else none)
  else
  if v9 = 4 then
  (if jIn 0 4 then
  (f_X7_changeLimit qv ((cNumbers cv) (0 : Int32).toNatClampNeg)).bind fun o19 =>
  some (o19.2)
  else none)
  else
  if v9 = 5 then
  (if jIn 0 4 then
  if jIn 1 4 then
  if jIn 2 4 then
  if jIn 3 4 then
  (f_X7_placeWinch qv ((cNumbers cv) (0 : Int32).toNatClampNeg) ((cNumbers cv) (1 : Int32).toNatClampNeg) ((cNumbers cv) (2 : Int32).toNatClampNeg) ((cNumbers cv) (3 : Int32).toNatClampNeg)).bind fun o25 =>
  some (o25.2)
  else none
  else none
  else none
  else none)
  else
  if v9 = 6 then
  (if jIn 1 4 then
  if jIn 2 4 then
  (f_X7_liftBlock qv ((cNumbers cv) (1 : Int32).toNatClampNeg) ((cNumbers cv) (2 : Int32).toNatClampNeg)).bind fun o29 =>
  some (o29.2)
  else none
  else none)
  else
  (if jIn 0 4 then
  if jIn 1 4 then
  (f_X7_crushBlocks qv ((cNumbers cv) (0 : Int32).toNatClampNeg) ((cNumbers cv) (1 : Int32).toNatClampNeg)).bind fun o33 =>
  some (o33.2)
  else none
  else none)
  else none
def rm_X1_change : Room := { frames := 2, cells := 0, slots := 0, locals := 46 }
theorem hd_X1_change : yX1_change.cls = RX1 ∧ yX1_change.cls ≠ "java/lang/invoke/MethodHandle" ∧ yX1_change.cls ≠ "java/lang/invoke/VarHandle" ∧ (parseMethodDescriptor yX1_change.desc).map (fun d => d.parameters.length) = some 1 := by decide +kernel
set_option maxHeartbeats 4000000 in
set_option maxRecDepth 100000 in
theorem c_X1_change (l : Launch) (g : GG) (hcm : Nat → Nat) (cv : CV) (hq : Nat → Nat) (qv : QV)   (out : QV) (hf : f_X1_change cv qv = some out) : MtV l yX1_change wsX1_change rm_X1_change g (wC g hcm cv ++ wQ g hq qv) [.ref (hcm 0), .ref (hq 0)]  (wC g hcm cv ++ wQ g hq out) 0 0 := by
  refine fun sz => mt_of (cc := cX1_change) (maxL := 2) (ret := none) (own := RX1) (Qc := fun A => va_Qv (fun (_ : Unit) => True) (fun _ t => PosM g A (wC g hcm cv ++ wQ g hq out) t) A) (by decide +kernel) rfl rfl (Nat.le_of_ble_eq_true rfl) ?_ sz
  intro p e s mi below meth c A ls hB hnm hrt hlk hP hD hl
  obtain ⟨hx, hb, hml, hown, hts, hK, hZ, hT, hA, -⟩ := hB
  have hS : va_S A s.heap s.heap [] := va_S.rf
  have hl : lv_has ls 2 [(0, .ref (hcm 0)), (1, .ref (hq 0))] := hl
  have hinX1 : ∀ w ∈ wsX10, w ∈ wsX1_change := by decide +kernel
  have k0 := hts (.fieldLink RX1 21 "TerraceQuarry$1" "$SwitchMap$TerraceQuarry$Verb" "[I") (by decide +kernel)
  have k1 := hts (.fieldLink RX1 7 "TerraceQuarry$Command" "verb" "LTerraceQuarry$Verb;") (by decide +kernel)
  have k2 := hts (.fieldLink RX1 13 "TerraceQuarry$Command" "numbers" "[I") (by decide +kernel)
  generalize hQ : MQ below _ _ _ _ _ _ = Q
  unfold f_X1_change at hf
  obtain ⟨v9, ev9⟩ : ∃ y, y = cVerb cv := ⟨_, rfl⟩
  have hf := jbN_e hf ev9
  obtain ⟨h8, hf⟩ := jbA_e hf
  have h8c : cVerb cv < 8 := ev9 ▸ h8
  by_cases hv9 : v9 = 0
  · have hf := jbT hf hv9
    refine va_gets (C := "TerraceQuarry$1") (n := "$SwitchMap$TerraceQuarry$Verb") (d := "[I") (v := .ref (gS g 4 2)) hx hb hZ.2.2.2.2.2.2.1.1 hS hown k0 (fun _ h9 => h9) dX1_change_0 ?_
    refine lv_aload_n hx hb dX1_change_3 rfl (lv_at hl 0 rfl) ?_
    refine va_get (D := gD g) (ci := 3) (v := .ref (gS g 1 (cVerb cv))) (C := RX1) (T := TX1) (N := 3) hx hb hts hinX1 hown hK hP 0 rfl rfl 0 (by decide) k1 (fun _ h9 => h9) rfl dX1_change_4 ?_
    refine cun_i (C := "TerraceQuarry$Verb") (As := []) (rest := [.ref (gS g 4 2)]) ⟨hx, hb, hml, hown, hts⟩ (c_ordV l g (cVerb cv) h8c) (va_cwU 0 hts gX1_change_Jx29ce0_ordinal_8abf5_u26X9 rfl rfl rfl rfl (by decide +kernel) ⟨(Nat.le_of_ble_eq_true rfl), (Nat.le_of_ble_eq_true rfl)⟩) hK hZ hT hA hP hD hS hl.1 (va_recvE hZ.2.1 h8c hS) rfl rfl (Nat.le_of_ble_eq_true rfl) ⟨(Nat.le_of_ble_eq_true rfl), (Nat.le_of_ble_eq_true rfl)⟩ dX1_change_7 (fun H locs hP hD hS => ?_)
    rw [show cVerb cv = 0 from ev9.symm.trans hv9]
    refine va_ti (v := .int 1) hx hb hZ.2.2.2.2.2.2.1.2 hS (show jIn _ 8 from by decide) (by decide +kernel) dX1_change_10 ?_
    refine lv_tableIn (tgt := 52) hx hb dX1_change_11 (by decide) (by decide) rfl (by decide) ?_
    refine lv_aload_n hx hb dX1_change_52 rfl (lv_at hl 1 rfl) ?_
    refine lv_aload_n hx hb dX1_change_53 rfl (lv_at hl 0 rfl) ?_
    refine va_get (D := gD g) (ci := 3) (v := .ref (hcm 1)) (C := RX1) (T := TX1) (N := 3) hx hb hts hinX1 hown hK hP 0 rfl rfl 1 (by decide) k2 (fun _ h9 => h9) rfl dX1_change_54 ?_
    refine lv_iconst (v := 0) hx hb dX1_change_57 (by decide) ?_
    obtain ⟨h1, hf⟩ := jbA_e hf
    refine va_iald hx hb hK hP 1 0 rfl rfl h1 dX1_change_58 ?_
    refine lv_aload_n hx hb dX1_change_59 rfl (lv_at hl 0 rfl) ?_
    refine va_get (D := gD g) (ci := 3) (v := .ref (hcm 1)) (C := RX1) (T := TX1) (N := 3) hx hb hts hinX1 hown hK hP 0 rfl rfl 1 (by decide) k2 (fun _ h9 => h9) rfl dX1_change_60 ?_
    refine lv_iconst (v := 1) hx hb dX1_change_63 (by decide) ?_
    obtain ⟨h2, hf⟩ := jbA_e hf
    refine va_iald hx hb hK hP 1 0 rfl rfl h2 dX1_change_64 ?_
    refine lv_aload_n hx hb dX1_change_65 rfl (lv_at hl 0 rfl) ?_
    refine va_get (D := gD g) (ci := 3) (v := .ref (hcm 1)) (C := RX1) (T := TX1) (N := 3) hx hb hts hinX1 hown hK hP 0 rfl rfl 1 (by decide) k2 (fun _ h9 => h9) rfl dX1_change_66 ?_
    refine lv_iconst (v := 2) hx hb dX1_change_69 (by decide) ?_
    obtain ⟨h3, hf⟩ := jbA_e hf
    refine va_iald hx hb hK hP 1 0 rfl rfl h3 dX1_change_70 ?_
    obtain ⟨o4, g5, hf⟩ := jbB_e hf
    refine cv_i (As := [.int ((cNumbers cv) (0 : Int32).toNatClampNeg), .int ((cNumbers cv) (1 : Int32).toNatClampNeg), .int ((cNumbers cv) (2 : Int32).toNatClampNeg)]) (rest := []) (Wr := [0, 1].filterMap (fun i => ((wC g hcm cv ++ wQ g hq qv))[i]?)) ⟨hx, hb, hml, hown, hts⟩ (c_X7_changeStone l g hq qv ((cNumbers cv) (0 : Int32).toNatClampNeg) ((cNumbers cv) (1 : Int32).toNatClampNeg) ((cNumbers cv) (2 : Int32).toNatClampNeg) _ g5) (cwV 3 hts gX1_change_X7_changeStone rfl rfl rfl hd_X7_changeStone ⟨Nat.le_of_ble_eq_true rfl, Nat.le_of_ble_eq_true rfl⟩) hK hZ hT hA hP hD hS hl.1 (va_recv hK hP (ci := 7) (q0 := 2) rfl rfl) [2, 3, 4, 5, 6, 7, 8, 9, 10, 11] [0, 1] rfl rfl rfl rfl rfl rfl rfl (Nat.le_of_ble_eq_true rfl) ⟨Nat.le_of_ble_eq_true rfl, Nat.le_of_ble_eq_true rfl⟩ dX1_change_71 (fun H locs hP hD hS => ?_)
    have hP : va_P (gD g) vwCl (wC g hcm cv ++ wQ g hq (o4.2)) H := hP.sub [0, 1, 2, 3, 4, 5, 6, 7, 8, 9, 10, 11] rfl
    have hD : va_D A (wC g hcm cv ++ wQ g hq (o4.2)) := hD.sub [0, 1, 2, 3, 4, 5, 6, 7, 8, 9, 10, 11] rfl rfl
    refine lv_pop hx hb dX1_change_74 rfl ?_
    refine lv_goto (tgt := 221) hx hb dX1_change_75 (by decide) ?_
    cases hf
    subst hQ
    exact rt_v hx hb hrt hlk hK hP hD hS (Nat.le_of_ble_eq_true rfl) (Nat.le_of_ble_eq_true rfl) dX1_change_221
  have hf := jbF hf hv9
  have hn0 := hv9
  clear hv9
  by_cases hv9 : v9 = 1
  · have hf := jbT hf hv9
    refine va_gets (C := "TerraceQuarry$1") (n := "$SwitchMap$TerraceQuarry$Verb") (d := "[I") (v := .ref (gS g 4 2)) hx hb hZ.2.2.2.2.2.2.1.1 hS hown k0 (fun _ h9 => h9) dX1_change_0 ?_
    refine lv_aload_n hx hb dX1_change_3 rfl (lv_at hl 0 rfl) ?_
    refine va_get (D := gD g) (ci := 3) (v := .ref (gS g 1 (cVerb cv))) (C := RX1) (T := TX1) (N := 3) hx hb hts hinX1 hown hK hP 0 rfl rfl 0 (by decide) k1 (fun _ h9 => h9) rfl dX1_change_4 ?_
    refine cun_i (C := "TerraceQuarry$Verb") (As := []) (rest := [.ref (gS g 4 2)]) ⟨hx, hb, hml, hown, hts⟩ (c_ordV l g (cVerb cv) h8c) (va_cwU 0 hts gX1_change_Jx29ce0_ordinal_8abf5_u26X9 rfl rfl rfl rfl (by decide +kernel) ⟨(Nat.le_of_ble_eq_true rfl), (Nat.le_of_ble_eq_true rfl)⟩) hK hZ hT hA hP hD hS hl.1 (va_recvE hZ.2.1 h8c hS) rfl rfl (Nat.le_of_ble_eq_true rfl) ⟨(Nat.le_of_ble_eq_true rfl), (Nat.le_of_ble_eq_true rfl)⟩ dX1_change_7 (fun H locs hP hD hS => ?_)
    rw [show cVerb cv = 1 from ev9.symm.trans hv9]
    refine va_ti (v := .int 2) hx hb hZ.2.2.2.2.2.2.1.2 hS (show jIn _ 8 from by decide) (by decide +kernel) dX1_change_10 ?_
    refine lv_tableIn (tgt := 78) hx hb dX1_change_11 (by decide) (by decide) rfl (by decide) ?_
    refine lv_aload_n hx hb dX1_change_78 rfl (lv_at hl 1 rfl) ?_
    refine lv_aload_n hx hb dX1_change_79 rfl (lv_at hl 0 rfl) ?_
    refine va_get (D := gD g) (ci := 3) (v := .ref (hcm 1)) (C := RX1) (T := TX1) (N := 3) hx hb hts hinX1 hown hK hP 0 rfl rfl 1 (by decide) k2 (fun _ h9 => h9) rfl dX1_change_80 ?_
    refine lv_iconst (v := 0) hx hb dX1_change_83 (by decide) ?_
    obtain ⟨h6, hf⟩ := jbA_e hf
    refine va_iald hx hb hK hP 1 0 rfl rfl h6 dX1_change_84 ?_
    refine lv_aload_n hx hb dX1_change_85 rfl (lv_at hl 0 rfl) ?_
    refine va_get (D := gD g) (ci := 3) (v := .ref (hcm 1)) (C := RX1) (T := TX1) (N := 3) hx hb hts hinX1 hown hK hP 0 rfl rfl 1 (by decide) k2 (fun _ h9 => h9) rfl dX1_change_86 ?_
    refine lv_iconst (v := 1) hx hb dX1_change_89 (by decide) ?_
    obtain ⟨h7, hf⟩ := jbA_e hf
    refine va_iald hx hb hK hP 1 0 rfl rfl h7 dX1_change_90 ?_
    obtain ⟨o8, g9, hf⟩ := jbB_e hf
    refine cv_i (As := [.int ((cNumbers cv) (0 : Int32).toNatClampNeg), .int ((cNumbers cv) (1 : Int32).toNatClampNeg)]) (rest := []) (Wr := [0, 1].filterMap (fun i => ((wC g hcm cv ++ wQ g hq qv))[i]?)) ⟨hx, hb, hml, hown, hts⟩ (c_X7_cutCell l g hq qv ((cNumbers cv) (0 : Int32).toNatClampNeg) ((cNumbers cv) (1 : Int32).toNatClampNeg) _ g9) (cwV 2 hts gX1_change_X7_cutCell rfl rfl rfl hd_X7_cutCell ⟨Nat.le_of_ble_eq_true rfl, Nat.le_of_ble_eq_true rfl⟩) hK hZ hT hA hP hD hS hl.1 (va_recv hK hP (ci := 7) (q0 := 2) rfl rfl) [2, 3, 4, 5, 6, 7, 8, 9, 10, 11] [0, 1] rfl rfl rfl rfl rfl rfl rfl (Nat.le_of_ble_eq_true rfl) ⟨Nat.le_of_ble_eq_true rfl, Nat.le_of_ble_eq_true rfl⟩ dX1_change_91 (fun H locs hP hD hS => ?_)
    have hP : va_P (gD g) vwCl (wC g hcm cv ++ wQ g hq (o8.2)) H := hP.sub [0, 1, 2, 3, 4, 5, 6, 7, 8, 9, 10, 11] rfl
    have hD : va_D A (wC g hcm cv ++ wQ g hq (o8.2)) := hD.sub [0, 1, 2, 3, 4, 5, 6, 7, 8, 9, 10, 11] rfl rfl
    refine lv_pop hx hb dX1_change_94 rfl ?_
    refine lv_goto (tgt := 221) hx hb dX1_change_95 (by decide) ?_
    cases hf
    subst hQ
    exact rt_v hx hb hrt hlk hK hP hD hS (Nat.le_of_ble_eq_true rfl) (Nat.le_of_ble_eq_true rfl) dX1_change_221
  have hf := jbF hf hv9
  have hn1 := hv9
  clear hv9
  by_cases hv9 : v9 = 2
  · have hf := jbT hf hv9
    refine va_gets (C := "TerraceQuarry$1") (n := "$SwitchMap$TerraceQuarry$Verb") (d := "[I") (v := .ref (gS g 4 2)) hx hb hZ.2.2.2.2.2.2.1.1 hS hown k0 (fun _ h9 => h9) dX1_change_0 ?_
    refine lv_aload_n hx hb dX1_change_3 rfl (lv_at hl 0 rfl) ?_
    refine va_get (D := gD g) (ci := 3) (v := .ref (gS g 1 (cVerb cv))) (C := RX1) (T := TX1) (N := 3) hx hb hts hinX1 hown hK hP 0 rfl rfl 0 (by decide) k1 (fun _ h9 => h9) rfl dX1_change_4 ?_
    refine cun_i (C := "TerraceQuarry$Verb") (As := []) (rest := [.ref (gS g 4 2)]) ⟨hx, hb, hml, hown, hts⟩ (c_ordV l g (cVerb cv) h8c) (va_cwU 0 hts gX1_change_Jx29ce0_ordinal_8abf5_u26X9 rfl rfl rfl rfl (by decide +kernel) ⟨(Nat.le_of_ble_eq_true rfl), (Nat.le_of_ble_eq_true rfl)⟩) hK hZ hT hA hP hD hS hl.1 (va_recvE hZ.2.1 h8c hS) rfl rfl (Nat.le_of_ble_eq_true rfl) ⟨(Nat.le_of_ble_eq_true rfl), (Nat.le_of_ble_eq_true rfl)⟩ dX1_change_7 (fun H locs hP hD hS => ?_)
    rw [show cVerb cv = 2 from ev9.symm.trans hv9]
    refine va_ti (v := .int 3) hx hb hZ.2.2.2.2.2.2.1.2 hS (show jIn _ 8 from by decide) (by decide +kernel) dX1_change_10 ?_
    refine lv_tableIn (tgt := 98) hx hb dX1_change_11 (by decide) (by decide) rfl (by decide) ?_
    refine lv_aload_n hx hb dX1_change_98 rfl (lv_at hl 1 rfl) ?_
    refine lv_aload_n hx hb dX1_change_99 rfl (lv_at hl 0 rfl) ?_
    refine va_get (D := gD g) (ci := 3) (v := .ref (hcm 1)) (C := RX1) (T := TX1) (N := 3) hx hb hts hinX1 hown hK hP 0 rfl rfl 1 (by decide) k2 (fun _ h9 => h9) rfl dX1_change_100 ?_
    refine lv_iconst (v := 0) hx hb dX1_change_103 (by decide) ?_
    obtain ⟨h10, hf⟩ := jbA_e hf
    refine va_iald hx hb hK hP 1 0 rfl rfl h10 dX1_change_104 ?_
    refine lv_aload_n hx hb dX1_change_105 rfl (lv_at hl 0 rfl) ?_
    refine va_get (D := gD g) (ci := 3) (v := .ref (hcm 1)) (C := RX1) (T := TX1) (N := 3) hx hb hts hinX1 hown hK hP 0 rfl rfl 1 (by decide) k2 (fun _ h9 => h9) rfl dX1_change_106 ?_
    refine lv_iconst (v := 1) hx hb dX1_change_109 (by decide) ?_
    obtain ⟨h11, hf⟩ := jbA_e hf
    refine va_iald hx hb hK hP 1 0 rfl rfl h11 dX1_change_110 ?_
    obtain ⟨o12, g13, hf⟩ := jbB_e hf
    refine cv_i (As := [.int ((cNumbers cv) (0 : Int32).toNatClampNeg), .int ((cNumbers cv) (1 : Int32).toNatClampNeg)]) (rest := []) (Wr := [0, 1].filterMap (fun i => ((wC g hcm cv ++ wQ g hq qv))[i]?)) ⟨hx, hb, hml, hown, hts⟩ (c_X7_fillCell l g hq qv ((cNumbers cv) (0 : Int32).toNatClampNeg) ((cNumbers cv) (1 : Int32).toNatClampNeg) _ g13) (cwV 2 hts gX1_change_X7_fillCell rfl rfl rfl hd_X7_fillCell ⟨Nat.le_of_ble_eq_true rfl, Nat.le_of_ble_eq_true rfl⟩) hK hZ hT hA hP hD hS hl.1 (va_recv hK hP (ci := 7) (q0 := 2) rfl rfl) [2, 3, 4, 5, 6, 7, 8, 9, 10, 11] [0, 1] rfl rfl rfl rfl rfl rfl rfl (Nat.le_of_ble_eq_true rfl) ⟨Nat.le_of_ble_eq_true rfl, Nat.le_of_ble_eq_true rfl⟩ dX1_change_111 (fun H locs hP hD hS => ?_)
    have hP : va_P (gD g) vwCl (wC g hcm cv ++ wQ g hq (o12.2)) H := hP.sub [0, 1, 2, 3, 4, 5, 6, 7, 8, 9, 10, 11] rfl
    have hD : va_D A (wC g hcm cv ++ wQ g hq (o12.2)) := hD.sub [0, 1, 2, 3, 4, 5, 6, 7, 8, 9, 10, 11] rfl rfl
    refine lv_pop hx hb dX1_change_114 rfl ?_
    refine lv_goto (tgt := 221) hx hb dX1_change_115 (by decide) ?_
    cases hf
    subst hQ
    exact rt_v hx hb hrt hlk hK hP hD hS (Nat.le_of_ble_eq_true rfl) (Nat.le_of_ble_eq_true rfl) dX1_change_221
  have hf := jbF hf hv9
  have hn2 := hv9
  clear hv9
  by_cases hv9 : v9 = 3
  · have hf := jbT hf hv9
    refine va_gets (C := "TerraceQuarry$1") (n := "$SwitchMap$TerraceQuarry$Verb") (d := "[I") (v := .ref (gS g 4 2)) hx hb hZ.2.2.2.2.2.2.1.1 hS hown k0 (fun _ h9 => h9) dX1_change_0 ?_
    refine lv_aload_n hx hb dX1_change_3 rfl (lv_at hl 0 rfl) ?_
    refine va_get (D := gD g) (ci := 3) (v := .ref (gS g 1 (cVerb cv))) (C := RX1) (T := TX1) (N := 3) hx hb hts hinX1 hown hK hP 0 rfl rfl 0 (by decide) k1 (fun _ h9 => h9) rfl dX1_change_4 ?_
    refine cun_i (C := "TerraceQuarry$Verb") (As := []) (rest := [.ref (gS g 4 2)]) ⟨hx, hb, hml, hown, hts⟩ (c_ordV l g (cVerb cv) h8c) (va_cwU 0 hts gX1_change_Jx29ce0_ordinal_8abf5_u26X9 rfl rfl rfl rfl (by decide +kernel) ⟨(Nat.le_of_ble_eq_true rfl), (Nat.le_of_ble_eq_true rfl)⟩) hK hZ hT hA hP hD hS hl.1 (va_recvE hZ.2.1 h8c hS) rfl rfl (Nat.le_of_ble_eq_true rfl) ⟨(Nat.le_of_ble_eq_true rfl), (Nat.le_of_ble_eq_true rfl)⟩ dX1_change_7 (fun H locs hP hD hS => ?_)
    rw [show cVerb cv = 3 from ev9.symm.trans hv9]
    refine va_ti (v := .int 4) hx hb hZ.2.2.2.2.2.2.1.2 hS (show jIn _ 8 from by decide) (by decide +kernel) dX1_change_10 ?_
    refine lv_tableIn (tgt := 118) hx hb dX1_change_11 (by decide) (by decide) rfl (by decide) ?_
    refine lv_aload_n hx hb dX1_change_118 rfl (lv_at hl 1 rfl) ?_
    refine lv_aload_n hx hb dX1_change_119 rfl (lv_at hl 0 rfl) ?_
    refine va_get (D := gD g) (ci := 3) (v := .ref (hcm 1)) (C := RX1) (T := TX1) (N := 3) hx hb hts hinX1 hown hK hP 0 rfl rfl 1 (by decide) k2 (fun _ h9 => h9) rfl dX1_change_120 ?_
    refine lv_iconst (v := 0) hx hb dX1_change_123 (by decide) ?_
    obtain ⟨h14, hf⟩ := jbA_e hf
    refine va_iald hx hb hK hP 1 0 rfl rfl h14 dX1_change_124 ?_
    refine lv_aload_n hx hb dX1_change_125 rfl (lv_at hl 0 rfl) ?_
    refine va_get (D := gD g) (ci := 3) (v := .ref (hcm 1)) (C := RX1) (T := TX1) (N := 3) hx hb hts hinX1 hown hK hP 0 rfl rfl 1 (by decide) k2 (fun _ h9 => h9) rfl dX1_change_126 ?_
    refine lv_iconst (v := 1) hx hb dX1_change_129 (by decide) ?_
    obtain ⟨h15, hf⟩ := jbA_e hf
    refine va_iald hx hb hK hP 1 0 rfl rfl h15 dX1_change_130 ?_
    obtain ⟨o16, g17, hf⟩ := jbB_e hf
    refine cv_i (As := [.int ((cNumbers cv) (0 : Int32).toNatClampNeg), .int ((cNumbers cv) (1 : Int32).toNatClampNeg)]) (rest := []) (Wr := [0, 1].filterMap (fun i => ((wC g hcm cv ++ wQ g hq qv))[i]?)) ⟨hx, hb, hml, hown, hts⟩ (c_X7_switchLedge l g hq qv ((cNumbers cv) (0 : Int32).toNatClampNeg) ((cNumbers cv) (1 : Int32).toNatClampNeg) _ g17) (cwV 2 hts gX1_change_X7_switchLedge rfl rfl rfl hd_X7_switchLedge ⟨Nat.le_of_ble_eq_true rfl, Nat.le_of_ble_eq_true rfl⟩) hK hZ hT hA hP hD hS hl.1 (va_recv hK hP (ci := 7) (q0 := 2) rfl rfl) [2, 3, 4, 5, 6, 7, 8, 9, 10, 11] [0, 1] rfl rfl rfl rfl rfl rfl rfl (Nat.le_of_ble_eq_true rfl) ⟨Nat.le_of_ble_eq_true rfl, Nat.le_of_ble_eq_true rfl⟩ dX1_change_131 (fun H locs hP hD hS => ?_)
    have hP : va_P (gD g) vwCl (wC g hcm cv ++ wQ g hq (o16.2)) H := hP.sub [0, 1, 2, 3, 4, 5, 6, 7, 8, 9, 10, 11] rfl
    have hD : va_D A (wC g hcm cv ++ wQ g hq (o16.2)) := hD.sub [0, 1, 2, 3, 4, 5, 6, 7, 8, 9, 10, 11] rfl rfl
    refine lv_pop hx hb dX1_change_134 rfl ?_
    refine lv_goto (tgt := 221) hx hb dX1_change_135 (by decide) ?_
    cases hf
    subst hQ
    exact rt_v hx hb hrt hlk hK hP hD hS (Nat.le_of_ble_eq_true rfl) (Nat.le_of_ble_eq_true rfl) dX1_change_221
  have hf := jbF hf hv9
  have hn3 := hv9
  clear hv9
  by_cases hv9 : v9 = 4
  · have hf := jbT hf hv9
    refine va_gets (C := "TerraceQuarry$1") (n := "$SwitchMap$TerraceQuarry$Verb") (d := "[I") (v := .ref (gS g 4 2)) hx hb hZ.2.2.2.2.2.2.1.1 hS hown k0 (fun _ h9 => h9) dX1_change_0 ?_
    refine lv_aload_n hx hb dX1_change_3 rfl (lv_at hl 0 rfl) ?_
    refine va_get (D := gD g) (ci := 3) (v := .ref (gS g 1 (cVerb cv))) (C := RX1) (T := TX1) (N := 3) hx hb hts hinX1 hown hK hP 0 rfl rfl 0 (by decide) k1 (fun _ h9 => h9) rfl dX1_change_4 ?_
    refine cun_i (C := "TerraceQuarry$Verb") (As := []) (rest := [.ref (gS g 4 2)]) ⟨hx, hb, hml, hown, hts⟩ (c_ordV l g (cVerb cv) h8c) (va_cwU 0 hts gX1_change_Jx29ce0_ordinal_8abf5_u26X9 rfl rfl rfl rfl (by decide +kernel) ⟨(Nat.le_of_ble_eq_true rfl), (Nat.le_of_ble_eq_true rfl)⟩) hK hZ hT hA hP hD hS hl.1 (va_recvE hZ.2.1 h8c hS) rfl rfl (Nat.le_of_ble_eq_true rfl) ⟨(Nat.le_of_ble_eq_true rfl), (Nat.le_of_ble_eq_true rfl)⟩ dX1_change_7 (fun H locs hP hD hS => ?_)
    rw [show cVerb cv = 4 from ev9.symm.trans hv9]
    refine va_ti (v := .int 5) hx hb hZ.2.2.2.2.2.2.1.2 hS (show jIn _ 8 from by decide) (by decide +kernel) dX1_change_10 ?_
    refine lv_tableIn (tgt := 138) hx hb dX1_change_11 (by decide) (by decide) rfl (by decide) ?_
    refine lv_aload_n hx hb dX1_change_138 rfl (lv_at hl 1 rfl) ?_
    refine lv_aload_n hx hb dX1_change_139 rfl (lv_at hl 0 rfl) ?_
    refine va_get (D := gD g) (ci := 3) (v := .ref (hcm 1)) (C := RX1) (T := TX1) (N := 3) hx hb hts hinX1 hown hK hP 0 rfl rfl 1 (by decide) k2 (fun _ h9 => h9) rfl dX1_change_140 ?_
    refine lv_iconst (v := 0) hx hb dX1_change_143 (by decide) ?_
    obtain ⟨h18, hf⟩ := jbA_e hf
    refine va_iald hx hb hK hP 1 0 rfl rfl h18 dX1_change_144 ?_
    obtain ⟨o19, g20, hf⟩ := jbB_e hf
    refine cv_i (As := [.int ((cNumbers cv) (0 : Int32).toNatClampNeg)]) (rest := []) (Wr := [0, 1].filterMap (fun i => ((wC g hcm cv ++ wQ g hq qv))[i]?)) ⟨hx, hb, hml, hown, hts⟩ (c_X7_changeLimit l g hq qv ((cNumbers cv) (0 : Int32).toNatClampNeg) _ g20) (cwV 1 hts gX1_change_X7_changeLimit rfl rfl rfl hd_X7_changeLimit ⟨Nat.le_of_ble_eq_true rfl, Nat.le_of_ble_eq_true rfl⟩) hK hZ hT hA hP hD hS hl.1 (va_recv hK hP (ci := 7) (q0 := 2) rfl rfl) [2, 3, 4, 5, 6, 7, 8, 9, 10, 11] [0, 1] rfl rfl rfl rfl rfl rfl rfl (Nat.le_of_ble_eq_true rfl) ⟨Nat.le_of_ble_eq_true rfl, Nat.le_of_ble_eq_true rfl⟩ dX1_change_145 (fun H locs hP hD hS => ?_)
    have hP : va_P (gD g) vwCl (wC g hcm cv ++ wQ g hq (o19.2)) H := hP.sub [0, 1, 2, 3, 4, 5, 6, 7, 8, 9, 10, 11] rfl
    have hD : va_D A (wC g hcm cv ++ wQ g hq (o19.2)) := hD.sub [0, 1, 2, 3, 4, 5, 6, 7, 8, 9, 10, 11] rfl rfl
    refine lv_pop hx hb dX1_change_148 rfl ?_
    refine lv_goto (tgt := 221) hx hb dX1_change_149 (by decide) ?_
    cases hf
    subst hQ
    exact rt_v hx hb hrt hlk hK hP hD hS (Nat.le_of_ble_eq_true rfl) (Nat.le_of_ble_eq_true rfl) dX1_change_221
  have hf := jbF hf hv9
  have hn4 := hv9
  clear hv9
  by_cases hv9 : v9 = 5
  · have hf := jbT hf hv9
    refine va_gets (C := "TerraceQuarry$1") (n := "$SwitchMap$TerraceQuarry$Verb") (d := "[I") (v := .ref (gS g 4 2)) hx hb hZ.2.2.2.2.2.2.1.1 hS hown k0 (fun _ h9 => h9) dX1_change_0 ?_
    refine lv_aload_n hx hb dX1_change_3 rfl (lv_at hl 0 rfl) ?_
    refine va_get (D := gD g) (ci := 3) (v := .ref (gS g 1 (cVerb cv))) (C := RX1) (T := TX1) (N := 3) hx hb hts hinX1 hown hK hP 0 rfl rfl 0 (by decide) k1 (fun _ h9 => h9) rfl dX1_change_4 ?_
    refine cun_i (C := "TerraceQuarry$Verb") (As := []) (rest := [.ref (gS g 4 2)]) ⟨hx, hb, hml, hown, hts⟩ (c_ordV l g (cVerb cv) h8c) (va_cwU 0 hts gX1_change_Jx29ce0_ordinal_8abf5_u26X9 rfl rfl rfl rfl (by decide +kernel) ⟨(Nat.le_of_ble_eq_true rfl), (Nat.le_of_ble_eq_true rfl)⟩) hK hZ hT hA hP hD hS hl.1 (va_recvE hZ.2.1 h8c hS) rfl rfl (Nat.le_of_ble_eq_true rfl) ⟨(Nat.le_of_ble_eq_true rfl), (Nat.le_of_ble_eq_true rfl)⟩ dX1_change_7 (fun H locs hP hD hS => ?_)
    rw [show cVerb cv = 5 from ev9.symm.trans hv9]
    refine va_ti (v := .int 6) hx hb hZ.2.2.2.2.2.2.1.2 hS (show jIn _ 8 from by decide) (by decide +kernel) dX1_change_10 ?_
    refine lv_tableIn (tgt := 152) hx hb dX1_change_11 (by decide) (by decide) rfl (by decide) ?_
    refine lv_aload_n hx hb dX1_change_152 rfl (lv_at hl 1 rfl) ?_
    refine lv_aload_n hx hb dX1_change_153 rfl (lv_at hl 0 rfl) ?_
    refine va_get (D := gD g) (ci := 3) (v := .ref (hcm 1)) (C := RX1) (T := TX1) (N := 3) hx hb hts hinX1 hown hK hP 0 rfl rfl 1 (by decide) k2 (fun _ h9 => h9) rfl dX1_change_154 ?_
    refine lv_iconst (v := 0) hx hb dX1_change_157 (by decide) ?_
    obtain ⟨h21, hf⟩ := jbA_e hf
    refine va_iald hx hb hK hP 1 0 rfl rfl h21 dX1_change_158 ?_
    refine lv_aload_n hx hb dX1_change_159 rfl (lv_at hl 0 rfl) ?_
    refine va_get (D := gD g) (ci := 3) (v := .ref (hcm 1)) (C := RX1) (T := TX1) (N := 3) hx hb hts hinX1 hown hK hP 0 rfl rfl 1 (by decide) k2 (fun _ h9 => h9) rfl dX1_change_160 ?_
    refine lv_iconst (v := 1) hx hb dX1_change_163 (by decide) ?_
    obtain ⟨h22, hf⟩ := jbA_e hf
    refine va_iald hx hb hK hP 1 0 rfl rfl h22 dX1_change_164 ?_
    refine lv_aload_n hx hb dX1_change_165 rfl (lv_at hl 0 rfl) ?_
    refine va_get (D := gD g) (ci := 3) (v := .ref (hcm 1)) (C := RX1) (T := TX1) (N := 3) hx hb hts hinX1 hown hK hP 0 rfl rfl 1 (by decide) k2 (fun _ h9 => h9) rfl dX1_change_166 ?_
    refine lv_iconst (v := 2) hx hb dX1_change_169 (by decide) ?_
    obtain ⟨h23, hf⟩ := jbA_e hf
    refine va_iald hx hb hK hP 1 0 rfl rfl h23 dX1_change_170 ?_
    refine lv_aload_n hx hb dX1_change_171 rfl (lv_at hl 0 rfl) ?_
    refine va_get (D := gD g) (ci := 3) (v := .ref (hcm 1)) (C := RX1) (T := TX1) (N := 3) hx hb hts hinX1 hown hK hP 0 rfl rfl 1 (by decide) k2 (fun _ h9 => h9) rfl dX1_change_172 ?_
    refine lv_iconst (v := 3) hx hb dX1_change_175 (by decide) ?_
    obtain ⟨h24, hf⟩ := jbA_e hf
    refine va_iald hx hb hK hP 1 0 rfl rfl h24 dX1_change_176 ?_
    obtain ⟨o25, g26, hf⟩ := jbB_e hf
    refine cv_i (As := [.int ((cNumbers cv) (0 : Int32).toNatClampNeg), .int ((cNumbers cv) (1 : Int32).toNatClampNeg), .int ((cNumbers cv) (2 : Int32).toNatClampNeg), .int ((cNumbers cv) (3 : Int32).toNatClampNeg)]) (rest := []) (Wr := [0, 1].filterMap (fun i => ((wC g hcm cv ++ wQ g hq qv))[i]?)) ⟨hx, hb, hml, hown, hts⟩ (c_X7_placeWinch l g hq qv ((cNumbers cv) (0 : Int32).toNatClampNeg) ((cNumbers cv) (1 : Int32).toNatClampNeg) ((cNumbers cv) (2 : Int32).toNatClampNeg) ((cNumbers cv) (3 : Int32).toNatClampNeg) _ g26) (cwV 4 hts gX1_change_X7_placeWinch rfl rfl rfl hd_X7_placeWinch ⟨Nat.le_of_ble_eq_true rfl, Nat.le_of_ble_eq_true rfl⟩) hK hZ hT hA hP hD hS hl.1 (va_recv hK hP (ci := 7) (q0 := 2) rfl rfl) [2, 3, 4, 5, 6, 7, 8, 9, 10, 11] [0, 1] rfl rfl rfl rfl rfl rfl rfl (Nat.le_of_ble_eq_true rfl) ⟨Nat.le_of_ble_eq_true rfl, Nat.le_of_ble_eq_true rfl⟩ dX1_change_177 (fun H locs hP hD hS => ?_)
    have hP : va_P (gD g) vwCl (wC g hcm cv ++ wQ g hq (o25.2)) H := hP.sub [0, 1, 2, 3, 4, 5, 6, 7, 8, 9, 10, 11] rfl
    have hD : va_D A (wC g hcm cv ++ wQ g hq (o25.2)) := hD.sub [0, 1, 2, 3, 4, 5, 6, 7, 8, 9, 10, 11] rfl rfl
    refine lv_pop hx hb dX1_change_180 rfl ?_
    refine lv_goto (tgt := 221) hx hb dX1_change_181 (by decide) ?_
    cases hf
    subst hQ
    exact rt_v hx hb hrt hlk hK hP hD hS (Nat.le_of_ble_eq_true rfl) (Nat.le_of_ble_eq_true rfl) dX1_change_221
  have hf := jbF hf hv9
  have hn5 := hv9
  clear hv9
  by_cases hv9 : v9 = 6
  · have hf := jbT hf hv9
    refine va_gets (C := "TerraceQuarry$1") (n := "$SwitchMap$TerraceQuarry$Verb") (d := "[I") (v := .ref (gS g 4 2)) hx hb hZ.2.2.2.2.2.2.1.1 hS hown k0 (fun _ h9 => h9) dX1_change_0 ?_
    refine lv_aload_n hx hb dX1_change_3 rfl (lv_at hl 0 rfl) ?_
    refine va_get (D := gD g) (ci := 3) (v := .ref (gS g 1 (cVerb cv))) (C := RX1) (T := TX1) (N := 3) hx hb hts hinX1 hown hK hP 0 rfl rfl 0 (by decide) k1 (fun _ h9 => h9) rfl dX1_change_4 ?_
    refine cun_i (C := "TerraceQuarry$Verb") (As := []) (rest := [.ref (gS g 4 2)]) ⟨hx, hb, hml, hown, hts⟩ (c_ordV l g (cVerb cv) h8c) (va_cwU 0 hts gX1_change_Jx29ce0_ordinal_8abf5_u26X9 rfl rfl rfl rfl (by decide +kernel) ⟨(Nat.le_of_ble_eq_true rfl), (Nat.le_of_ble_eq_true rfl)⟩) hK hZ hT hA hP hD hS hl.1 (va_recvE hZ.2.1 h8c hS) rfl rfl (Nat.le_of_ble_eq_true rfl) ⟨(Nat.le_of_ble_eq_true rfl), (Nat.le_of_ble_eq_true rfl)⟩ dX1_change_7 (fun H locs hP hD hS => ?_)
    rw [show cVerb cv = 6 from ev9.symm.trans hv9]
    refine va_ti (v := .int 7) hx hb hZ.2.2.2.2.2.2.1.2 hS (show jIn _ 8 from by decide) (by decide +kernel) dX1_change_10 ?_
    refine lv_tableIn (tgt := 184) hx hb dX1_change_11 (by decide) (by decide) rfl (by decide) ?_
    refine lv_aload_n hx hb dX1_change_184 rfl (lv_at hl 1 rfl) ?_
    refine lv_aload_n hx hb dX1_change_185 rfl (lv_at hl 0 rfl) ?_
    refine va_get (D := gD g) (ci := 3) (v := .ref (hcm 1)) (C := RX1) (T := TX1) (N := 3) hx hb hts hinX1 hown hK hP 0 rfl rfl 1 (by decide) k2 (fun _ h9 => h9) rfl dX1_change_186 ?_
    refine lv_iconst (v := 1) hx hb dX1_change_189 (by decide) ?_
    obtain ⟨h27, hf⟩ := jbA_e hf
    refine va_iald hx hb hK hP 1 0 rfl rfl h27 dX1_change_190 ?_
    refine lv_aload_n hx hb dX1_change_191 rfl (lv_at hl 0 rfl) ?_
    refine va_get (D := gD g) (ci := 3) (v := .ref (hcm 1)) (C := RX1) (T := TX1) (N := 3) hx hb hts hinX1 hown hK hP 0 rfl rfl 1 (by decide) k2 (fun _ h9 => h9) rfl dX1_change_192 ?_
    refine lv_iconst (v := 2) hx hb dX1_change_195 (by decide) ?_
    obtain ⟨h28, hf⟩ := jbA_e hf
    refine va_iald hx hb hK hP 1 0 rfl rfl h28 dX1_change_196 ?_
    obtain ⟨o29, g30, hf⟩ := jbB_e hf
    refine cv_i (As := [.int ((cNumbers cv) (1 : Int32).toNatClampNeg), .int ((cNumbers cv) (2 : Int32).toNatClampNeg)]) (rest := []) (Wr := [0, 1].filterMap (fun i => ((wC g hcm cv ++ wQ g hq qv))[i]?)) ⟨hx, hb, hml, hown, hts⟩ (c_X7_liftBlock l g hq qv ((cNumbers cv) (1 : Int32).toNatClampNeg) ((cNumbers cv) (2 : Int32).toNatClampNeg) _ g30) (cwV 2 hts gX1_change_X7_liftBlock rfl rfl rfl hd_X7_liftBlock ⟨Nat.le_of_ble_eq_true rfl, Nat.le_of_ble_eq_true rfl⟩) hK hZ hT hA hP hD hS hl.1 (va_recv hK hP (ci := 7) (q0 := 2) rfl rfl) [2, 3, 4, 5, 6, 7, 8, 9, 10, 11] [0, 1] rfl rfl rfl rfl rfl rfl rfl (Nat.le_of_ble_eq_true rfl) ⟨Nat.le_of_ble_eq_true rfl, Nat.le_of_ble_eq_true rfl⟩ dX1_change_197 (fun H locs hP hD hS => ?_)
    have hP : va_P (gD g) vwCl (wC g hcm cv ++ wQ g hq (o29.2)) H := hP.sub [0, 1, 2, 3, 4, 5, 6, 7, 8, 9, 10, 11] rfl
    have hD : va_D A (wC g hcm cv ++ wQ g hq (o29.2)) := hD.sub [0, 1, 2, 3, 4, 5, 6, 7, 8, 9, 10, 11] rfl rfl
    refine lv_pop hx hb dX1_change_200 rfl ?_
    refine lv_goto (tgt := 221) hx hb dX1_change_201 (by decide) ?_
    cases hf
    subst hQ
    exact rt_v hx hb hrt hlk hK hP hD hS (Nat.le_of_ble_eq_true rfl) (Nat.le_of_ble_eq_true rfl) dX1_change_221
  have hf := jbF hf hv9
  have hn6 := hv9
  clear hv9
  have hv9 : v9 = 7 := by omega
  refine va_gets (C := "TerraceQuarry$1") (n := "$SwitchMap$TerraceQuarry$Verb") (d := "[I") (v := .ref (gS g 4 2)) hx hb hZ.2.2.2.2.2.2.1.1 hS hown k0 (fun _ h9 => h9) dX1_change_0 ?_
  refine lv_aload_n hx hb dX1_change_3 rfl (lv_at hl 0 rfl) ?_
  refine va_get (D := gD g) (ci := 3) (v := .ref (gS g 1 (cVerb cv))) (C := RX1) (T := TX1) (N := 3) hx hb hts hinX1 hown hK hP 0 rfl rfl 0 (by decide) k1 (fun _ h9 => h9) rfl dX1_change_4 ?_
  refine cun_i (C := "TerraceQuarry$Verb") (As := []) (rest := [.ref (gS g 4 2)]) ⟨hx, hb, hml, hown, hts⟩ (c_ordV l g (cVerb cv) h8c) (va_cwU 0 hts gX1_change_Jx29ce0_ordinal_8abf5_u26X9 rfl rfl rfl rfl (by decide +kernel) ⟨(Nat.le_of_ble_eq_true rfl), (Nat.le_of_ble_eq_true rfl)⟩) hK hZ hT hA hP hD hS hl.1 (va_recvE hZ.2.1 h8c hS) rfl rfl (Nat.le_of_ble_eq_true rfl) ⟨(Nat.le_of_ble_eq_true rfl), (Nat.le_of_ble_eq_true rfl)⟩ dX1_change_7 (fun H locs hP hD hS => ?_)
  rw [show cVerb cv = 7 from ev9.symm.trans hv9]
  refine va_ti (v := .int 0) hx hb hZ.2.2.2.2.2.2.1.2 hS (show jIn _ 8 from by decide) (by decide +kernel) dX1_change_10 ?_
  refine lv_tableOut (tgt := 204) hx hb dX1_change_11 (by decide) (by decide) ?_
  refine lv_aload_n hx hb dX1_change_204 rfl (lv_at hl 1 rfl) ?_
  refine lv_aload_n hx hb dX1_change_205 rfl (lv_at hl 0 rfl) ?_
  refine va_get (D := gD g) (ci := 3) (v := .ref (hcm 1)) (C := RX1) (T := TX1) (N := 3) hx hb hts hinX1 hown hK hP 0 rfl rfl 1 (by decide) k2 (fun _ h9 => h9) rfl dX1_change_206 ?_
  refine lv_iconst (v := 0) hx hb dX1_change_209 (by decide) ?_
  obtain ⟨h31, hf⟩ := jbA_e hf
  refine va_iald hx hb hK hP 1 0 rfl rfl h31 dX1_change_210 ?_
  refine lv_aload_n hx hb dX1_change_211 rfl (lv_at hl 0 rfl) ?_
  refine va_get (D := gD g) (ci := 3) (v := .ref (hcm 1)) (C := RX1) (T := TX1) (N := 3) hx hb hts hinX1 hown hK hP 0 rfl rfl 1 (by decide) k2 (fun _ h9 => h9) rfl dX1_change_212 ?_
  refine lv_iconst (v := 1) hx hb dX1_change_215 (by decide) ?_
  obtain ⟨h32, hf⟩ := jbA_e hf
  refine va_iald hx hb hK hP 1 0 rfl rfl h32 dX1_change_216 ?_
  obtain ⟨o33, g34, hf⟩ := jbB_e hf
  refine cv_i (As := [.int ((cNumbers cv) (0 : Int32).toNatClampNeg), .int ((cNumbers cv) (1 : Int32).toNatClampNeg)]) (rest := []) (Wr := [0, 1].filterMap (fun i => ((wC g hcm cv ++ wQ g hq qv))[i]?)) ⟨hx, hb, hml, hown, hts⟩ (c_X7_crushBlocks l g hq qv ((cNumbers cv) (0 : Int32).toNatClampNeg) ((cNumbers cv) (1 : Int32).toNatClampNeg) _ g34) (cwV 2 hts gX1_change_X7_crushBlocks rfl rfl rfl hd_X7_crushBlocks ⟨Nat.le_of_ble_eq_true rfl, Nat.le_of_ble_eq_true rfl⟩) hK hZ hT hA hP hD hS hl.1 (va_recv hK hP (ci := 7) (q0 := 2) rfl rfl) [2, 3, 4, 5, 6, 7, 8, 9, 10, 11] [0, 1] rfl rfl rfl rfl rfl rfl rfl (Nat.le_of_ble_eq_true rfl) ⟨Nat.le_of_ble_eq_true rfl, Nat.le_of_ble_eq_true rfl⟩ dX1_change_217 (fun H locs hP hD hS => ?_)
  have hP : va_P (gD g) vwCl (wC g hcm cv ++ wQ g hq (o33.2)) H := hP.sub [0, 1, 2, 3, 4, 5, 6, 7, 8, 9, 10, 11] rfl
  have hD : va_D A (wC g hcm cv ++ wQ g hq (o33.2)) := hD.sub [0, 1, 2, 3, 4, 5, 6, 7, 8, 9, 10, 11] rfl rfl
  refine lv_pop hx hb dX1_change_220 rfl ?_
  cases hf
  subst hQ
  exact rt_v hx hb hrt hlk hK hP hD hS (Nat.le_of_ble_eq_true rfl) (Nat.le_of_ble_eq_true rfl) dX1_change_221
def f_X6_isFull (pv : PV) : Option Int32 :=
  if (pLength pv) < 60 then
  (some 0)
  else
  (some 1)
def rm_X6_isFull : Room := { frames := 0, cells := 0, slots := 0, locals := 0 }
theorem hd_X6_isFull : yX6_isFull.cls = RX6 ∧ yX6_isFull.cls ≠ "java/lang/invoke/MethodHandle" ∧ yX6_isFull.cls ≠ "java/lang/invoke/VarHandle" ∧ (parseMethodDescriptor yX6_isFull.desc).map (fun d => d.parameters.length) = some 0 := by decide +kernel
set_option maxHeartbeats 4000000 in
set_option maxRecDepth 100000 in
theorem c_X6_isFull (l : Launch) (g : GG) (hp : Nat → Nat) (pv : PV)   (out : Int32) (hf : f_X6_isFull pv = some out) : MtI l yX6_isFull wsX6_isFull rm_X6_isFull g (wP g hp pv) [.ref (hp 0)] out (wP g hp pv) 0 0 := by
  refine fun sz => mt_of (cc := cX6_isFull) (maxL := 1) (ret := (some .boolean)) (own := RX6) (Qc := fun A => va_Qi (fun r (_ : Unit) => r = out) (fun _ t => PosM g A (wP g hp pv) t) A) (by decide +kernel) rfl rfl (Nat.le_of_ble_eq_true rfl) ?_ sz
  intro p e s mi below meth c A ls hB hnm hrt hlk hP hD hl
  obtain ⟨hx, hb, hml, hown, hts, hK, hZ, hT, hA, -⟩ := hB
  have hS : va_S A s.heap s.heap [] := va_S.rf
  have hl : lv_has ls 1 [(0, .ref (hp 0))] := hl
  have hinX6 : ∀ w ∈ wsX60, w ∈ wsX6_isFull := by decide +kernel
  have k0 := hts (.fieldLink RX6 20 "TerraceQuarry$Program" "length" "I") (by decide +kernel)
  generalize hQ : MQ below _ _ _ _ _ _ = Q
  unfold f_X6_isFull at hf
  refine lv_aload_n hx hb dX6_isFull_0 rfl (lv_at hl 0 rfl) ?_
  refine va_get (D := gD g) (ci := 6) (v := .int (pLength pv)) (C := RX6) (T := TX6) (N := 3) hx hb hts hinX6 hown hK hP 0 rfl rfl 2 (by decide) k0 (fun _ h9 => h9) rfl dX6_isFull_1 ?_
  refine lv_bipush (v := 60) hx hb dX6_isFull_4 (by decide) ?_
  refine lv_icmp_lt (tgt := 13) hx hb dX6_isFull_6 (by decide) (fun hc => ?_) (fun hc => ?_)
  · have hf := jbT hf hc
    refine lv_iconst (v := 0) hx hb dX6_isFull_13 (by decide) ?_
    cases hf
    subst hQ
    exact rt_i hx hb hrt hlk nar_0 hK hP hD hS (Nat.le_of_ble_eq_true rfl) (Nat.le_of_ble_eq_true rfl) dX6_isFull_14
  · have hf := jbF hf hc
    refine lv_iconst (v := 1) hx hb dX6_isFull_9 (by decide) ?_
    refine lv_goto (tgt := 14) hx hb dX6_isFull_10 (by decide) ?_
    cases hf
    subst hQ
    exact rt_i hx hb hrt hlk nar_1 hK hP hD hS (Nat.le_of_ble_eq_true rfl) (Nat.le_of_ble_eq_true rfl) dX6_isFull_14
def f_X6_add (pv : PV) (a0 : Int32) : Option (Int32 × PV) :=
  if jIn (pLength pv) 60 then
  jbN (pSText (upd (pText pv) (pLength pv).toNatClampNeg (vp_nar .char a0)) pv) fun w2 =>
  jbN (pSLength ((pLength w2) + 1) w2) fun w3 =>
  some ((pLength w3), w3)
  else none
def rm_X6_add : Room := { frames := 0, cells := 0, slots := 0, locals := 0 }
theorem hd_X6_add : yX6_add.cls = RX6 ∧ yX6_add.cls ≠ "java/lang/invoke/MethodHandle" ∧ yX6_add.cls ≠ "java/lang/invoke/VarHandle" ∧ (parseMethodDescriptor yX6_add.desc).map (fun d => d.parameters.length) = some 1 := by decide +kernel
set_option maxHeartbeats 4000000 in
set_option maxRecDepth 100000 in
theorem c_X6_add (l : Launch) (g : GG) (hp : Nat → Nat) (pv : PV)  (a0 : Int32) (out : Int32 × PV) (hf : f_X6_add pv a0 = some out) : MtI l yX6_add wsX6_add rm_X6_add g (wP g hp pv) [.ref (hp 0), .int a0] (out.1) (wP g hp (out.2)) 0 0 := by
  refine fun sz => mt_of (cc := cX6_add) (maxL := 2) (ret := (some .int)) (own := RX6) (Qc := fun A => va_Qi (fun r (_ : Unit) => r = (out.1)) (fun _ t => PosM g A (wP g hp (out.2)) t) A) (by decide +kernel) rfl rfl (Nat.le_of_ble_eq_true rfl) ?_ sz
  intro p e s mi below meth c A ls hB hnm hrt hlk hP hD hl
  obtain ⟨hx, hb, hml, hown, hts, hK, hZ, hT, hA, -⟩ := hB
  have hS : va_S A s.heap s.heap [] := va_S.rf
  have hl : lv_has ls 2 [(0, .ref (hp 0)), (1, .int a0)] := hl
  have hinX6 : ∀ w ∈ wsX60, w ∈ wsX6_add := by decide +kernel
  have k0 := hts (.fieldLink RX6 9 "TerraceQuarry$Program" "text" "[C") (by decide +kernel)
  have k1 := hts (.fieldLink RX6 20 "TerraceQuarry$Program" "length" "I") (by decide +kernel)
  generalize hQ : MQ below _ _ _ _ _ _ = Q
  unfold f_X6_add at hf
  refine lv_aload_n hx hb dX6_add_0 rfl (lv_at hl 0 rfl) ?_
  refine va_get (D := gD g) (ci := 6) (v := .ref (hp 1)) (C := RX6) (T := TX6) (N := 3) hx hb hts hinX6 hown hK hP 0 rfl rfl 0 (by decide) k0 (fun _ h9 => h9) rfl dX6_add_1 ?_
  refine lv_aload_n hx hb dX6_add_4 rfl (lv_at hl 0 rfl) ?_
  refine va_get (D := gD g) (ci := 6) (v := .int (pLength pv)) (C := RX6) (T := TX6) (N := 3) hx hb hts hinX6 hown hK hP 0 rfl rfl 2 (by decide) k1 (fun _ h9 => h9) rfl dX6_add_5 ?_
  refine lv_iload_n hx hb dX6_add_8 rfl (lv_at hl 1 rfl) ?_
  obtain ⟨h1, hf⟩ := jbA_e hf
  refine va_cast hx hb hK hP hD hS 1 2 rfl rfl h1 dX6_add_9 (fun H locs hP hD hS => ?_)
  obtain ⟨w2, ew2⟩ : ∃ y, y = (pSText (upd (pText pv) (pLength pv).toNatClampNeg (vp_nar .char a0)) pv) := ⟨_, rfl⟩
  have hf := jbN_e hf ew2
  have hP : va_P (gD g) vwCl (wP g hp w2) H := by rw [ew2]; exact hP
  have hD : va_D A (wP g hp w2) := by rw [ew2]; exact hD
  refine lv_aload_n hx hb dX6_add_10 rfl (lv_at hl 0 rfl) ?_
  refine lv_dup hx hb dX6_add_11 rfl ?_
  refine va_get (D := gD g) (ci := 6) (v := .int (pLength w2)) (C := RX6) (T := TX6) (N := 3) hx hb hts hinX6 hown hK hP 0 rfl rfl 2 (by decide) k1 (fun _ h9 => h9) rfl dX6_add_12 ?_
  refine lv_iconst (v := 1) hx hb dX6_add_15 (by decide) ?_
  refine lv_iadd hx hb dX6_add_16 ?_
  refine va_put (D := gD g) (ci := 6) (v := .int ((pLength w2) + 1)) (ty := .int) (C := RX6) (T := TX6) (N := 3) hx hb hts hinX6 tyX6 tyX6_ok nmX6 hown hK hP hD hS 0 rfl rfl 2 (by decide) k1 (fun _ h9 => h9) rfl (tyX6_ok 2 (by decide)) rfl rfl (Nat.le_of_ble_eq_true rfl) dX6_add_17 (fun H locs hP hD hS => ?_)
  obtain ⟨w3, ew3⟩ : ∃ y, y = (pSLength ((pLength w2) + 1) w2) := ⟨_, rfl⟩
  have hf := jbN_e hf ew3
  have hP : va_P (gD g) vwCl (wP g hp w3) H := by rw [ew3]; exact hP
  have hD : va_D A (wP g hp w3) := by rw [ew3]; exact hD
  refine lv_aload_n hx hb dX6_add_20 rfl (lv_at hl 0 rfl) ?_
  refine va_get (D := gD g) (ci := 6) (v := .int (pLength w3)) (C := RX6) (T := TX6) (N := 3) hx hb hts hinX6 hown hK hP 0 rfl rfl 2 (by decide) k1 (fun _ h9 => h9) rfl dX6_add_21 ?_
  cases hf
  subst hQ
  exact rt_i hx hb hrt hlk rfl hK hP hD hS (Nat.le_of_ble_eq_true rfl) (Nat.le_of_ble_eq_true rfl) dX6_add_24
def f_X6_empty (pv : PV) : Option PV :=
  jbN (pSLength 0 pv) fun w1 =>
  some w1
def rm_X6_empty : Room := { frames := 0, cells := 0, slots := 0, locals := 0 }
theorem hd_X6_empty : yX6_empty.cls = RX6 ∧ yX6_empty.cls ≠ "java/lang/invoke/MethodHandle" ∧ yX6_empty.cls ≠ "java/lang/invoke/VarHandle" ∧ (parseMethodDescriptor yX6_empty.desc).map (fun d => d.parameters.length) = some 0 := by decide +kernel
set_option maxHeartbeats 4000000 in
set_option maxRecDepth 100000 in
theorem c_X6_empty (l : Launch) (g : GG) (hp : Nat → Nat) (pv : PV)   (out : PV) (hf : f_X6_empty pv = some out) : MtV l yX6_empty wsX6_empty rm_X6_empty g (wP g hp pv) [.ref (hp 0)]  (wP g hp out) 0 0 := by
  refine fun sz => mt_of (cc := cX6_empty) (maxL := 1) (ret := none) (own := RX6) (Qc := fun A => va_Qv (fun (_ : Unit) => True) (fun _ t => PosM g A (wP g hp out) t) A) (by decide +kernel) rfl rfl (Nat.le_of_ble_eq_true rfl) ?_ sz
  intro p e s mi below meth c A ls hB hnm hrt hlk hP hD hl
  obtain ⟨hx, hb, hml, hown, hts, hK, hZ, hT, hA, -⟩ := hB
  have hS : va_S A s.heap s.heap [] := va_S.rf
  have hl : lv_has ls 1 [(0, .ref (hp 0))] := hl
  have hinX6 : ∀ w ∈ wsX60, w ∈ wsX6_empty := by decide +kernel
  have k0 := hts (.fieldLink RX6 20 "TerraceQuarry$Program" "length" "I") (by decide +kernel)
  generalize hQ : MQ below _ _ _ _ _ _ = Q
  unfold f_X6_empty at hf
  refine lv_aload_n hx hb dX6_empty_0 rfl (lv_at hl 0 rfl) ?_
  refine lv_iconst (v := 0) hx hb dX6_empty_1 (by decide) ?_
  refine va_put (D := gD g) (ci := 6) (v := .int 0) (ty := .int) (C := RX6) (T := TX6) (N := 3) hx hb hts hinX6 tyX6 tyX6_ok nmX6 hown hK hP hD hS 0 rfl rfl 2 (by decide) k0 (fun _ h9 => h9) rfl (tyX6_ok 2 (by decide)) rfl rfl (Nat.le_of_ble_eq_true rfl) dX6_empty_2 (fun H locs hP hD hS => ?_)
  obtain ⟨w1, ew1⟩ : ∃ y, y = (pSLength 0 pv) := ⟨_, rfl⟩
  have hf := jbN_e hf ew1
  have hP : va_P (gD g) vwCl (wP g hp w1) H := by rw [ew1]; exact hP
  have hD : va_D A (wP g hp w1) := by rw [ew1]; exact hD
  cases hf
  subst hQ
  exact rt_v hx hb hrt hlk hK hP hD hS (Nat.le_of_ble_eq_true rfl) (Nat.le_of_ble_eq_true rfl) dX6_empty_5
def f_X6_matchLength_L2 (pv : PV) (x1 : Nat) (x2 : Int32) (x3 : Int32) : Option (Sum Int32 Int32) :=
  if x1 < 8 then
  (f_X9_length x1).bind fun o1 =>
  if o1 ≤ x3 then
  (some (.inr x3))
  else
  (if (pLength pv) ≤ (x2 + x3) then
  (some (.inr x3))
  else
  (if jIn (x2 + x3) 60 then
  if x1 < 8 then
  (f_X9_allows x1 x3 ((pText pv) (x2 + x3).toNatClampNeg)).bind fun o5 =>
  if o5 = 0 then
  (some (.inr x3))
  else
  (some (.inl (x3 + 1)))
  else none
  else none))
  else none
def f_X6_matchLength (pv : PV) (a0 : Nat) (a1 : Int32) : Option Int32 :=
  (jbL (fun s => f_X6_matchLength_L2 pv a0 a1 s) 5000 0).bind fun o2 =>
  some o2
def rm_X6_matchLength : Room := { frames := 6, cells := 0, slots := 0, locals := 128 }
theorem hd_X6_matchLength : yX6_matchLength.cls = RX6 ∧ yX6_matchLength.cls ≠ "java/lang/invoke/MethodHandle" ∧ yX6_matchLength.cls ≠ "java/lang/invoke/VarHandle" ∧ (parseMethodDescriptor yX6_matchLength.desc).map (fun d => d.parameters.length) = some 2 := by decide +kernel
set_option maxHeartbeats 4000000 in
set_option maxRecDepth 100000 in
theorem c_X6_matchLength (l : Launch) (g : GG) (hp : Nat → Nat) (pv : PV)  (a0 : Nat) (a1 : Int32) (out : Int32) (hf : f_X6_matchLength pv a0 a1 = some out) : MtI l yX6_matchLength wsX6_matchLength rm_X6_matchLength g (wP g hp pv) [.ref (hp 0), .ref (gS g 1 a0), .int a1] out (wP g hp pv) 0 0 := by
  refine fun sz => mt_of (cc := cX6_matchLength) (maxL := 4) (ret := (some .int)) (own := RX6) (Qc := fun A => va_Qi (fun r (_ : Unit) => r = out) (fun _ t => PosM g A (wP g hp pv) t) A) (by decide +kernel) rfl rfl (Nat.le_of_ble_eq_true rfl) ?_ sz
  intro p e s mi below meth c A ls hB hnm hrt hlk hP hD hl
  obtain ⟨hx, hb, hml, hown, hts, hK, hZ, hT, hA, -⟩ := hB
  have hS : va_S A s.heap s.heap [] := va_S.rf
  have hl : lv_has ls 4 [(0, .ref (hp 0)), (1, .ref (gS g 1 a0)), (2, .int a1)] := hl
  have hinX6 : ∀ w ∈ wsX60, w ∈ wsX6_matchLength := by decide +kernel
  have k0 := hts (.fieldLink RX6 20 "TerraceQuarry$Program" "length" "I") (by decide +kernel)
  have k1 := hts (.fieldLink RX6 9 "TerraceQuarry$Program" "text" "[C") (by decide +kernel)
  generalize hQ : MQ below _ _ _ _ _ _ = Q
  unfold f_X6_matchLength at hf
  have hL2 : ∀ (x1 : Nat) (x2 : Int32) (n : Nat) (x3 : Int32) (H : Heap) (locs : List Loc) (ls : Array Slot) (o2 : Int32), jbL (fun s => f_X6_matchLength_L2 pv x1 x2 s) n x3 = some o2 → va_P (gD g) vwCl (wP g hp pv) H → va_D A (wP g hp pv) → va_S A s.heap H locs → lv_has ls 4 [(0, .ref (hp 0)), (1, .ref (gS g 1 x1)), (2, .int x2), (3, .int x3)] → (∀ (H : Heap) (locs : List Loc) (ls : Array Slot), va_P (gD g) vwCl (wP g hp pv) H → va_D A (wP g hp pv) → va_S A s.heap H locs → lv_has ls 4 [(3, .int o2)] → W p l e rm_X6_matchLength s mi [.ref (hp 0), .ref (gS g 1 a0), .int a1].toArray below meth c H locs 0 0 Q (F0 mi 42 ls [])) → W p l e rm_X6_matchLength s mi [.ref (hp 0), .ref (gS g 1 a0), .int a1].toArray below meth c H locs 0 0 Q (F0 mi 2 ls []) := by
    intro x1 x2 n
    induction n with
    | zero => intro x3 H locs ls o2 hf; exact absurd hf (jbL_0 _ _ _)
    | succ n ih =>
      intro x3 H locs ls o2 hf hP hD hS hl hk
      obtain ⟨r, hf, hr⟩ := jbL_e hf
      have hf : f_X6_matchLength_L2 pv x1 x2 x3 = some r := hf
      unfold f_X6_matchLength_L2 at hf
      refine lv_iload_n hx hb dX6_matchLength_2 rfl (lv_at hl 3 rfl) ?_
      refine lv_aload_n hx hb dX6_matchLength_3 rfl (lv_at hl 1 rfl) ?_
      obtain ⟨h3, hf⟩ := jbA_e hf
      obtain ⟨o1, g2, hf⟩ := jbB_e hf
      refine cvn_i (As := []) (rest := [.int x3]) ⟨hx, hb, hml, hown, hts⟩ (c_X9_length l g x1 _ g2) (cwV 0 hts gX6_matchLength_X9_length rfl rfl rfl hd_X9_length ⟨Nat.le_of_ble_eq_true rfl, Nat.le_of_ble_eq_true rfl⟩) hK hZ hT hA hP hD hS hl.1 (va_recvE hZ.2.1 h3 hS) rfl rfl (Nat.le_of_ble_eq_true rfl) ⟨Nat.le_of_ble_eq_true rfl, Nat.le_of_ble_eq_true rfl⟩ dX6_matchLength_4 (fun H locs hP hD hS => ?_)
      refine lv_icmp_ge (tgt := 42) hx hb dX6_matchLength_7 (by decide) (fun hc => ?_) (fun hc => ?_)
      · have hf := jbT hf hc
        cases hf
        obtain rfl := jbR_r hr
        exact hk _ _ _ hP hD hS (lv_sub hl [3] rfl)
      · have hf := jbF hf hc
        refine lv_iload_n hx hb dX6_matchLength_10 rfl (lv_at hl 2 rfl) ?_
        refine lv_iload_n hx hb dX6_matchLength_11 rfl (lv_at hl 3 rfl) ?_
        refine lv_iadd hx hb dX6_matchLength_12 ?_
        refine lv_aload_n hx hb dX6_matchLength_13 rfl (lv_at hl 0 rfl) ?_
        refine va_get (D := gD g) (ci := 6) (v := .int (pLength pv)) (C := RX6) (T := TX6) (N := 3) hx hb hts hinX6 hown hK hP 0 rfl rfl 2 (by decide) k0 (fun _ h9 => h9) rfl dX6_matchLength_14 ?_
        refine lv_icmp_ge (tgt := 42) hx hb dX6_matchLength_17 (by decide) (fun hc => ?_) (fun hc => ?_)
        · have hf := jbT hf hc
          cases hf
          obtain rfl := jbR_r hr
          exact hk _ _ _ hP hD hS (lv_sub hl [3] rfl)
        · have hf := jbF hf hc
          refine lv_aload_n hx hb dX6_matchLength_20 rfl (lv_at hl 1 rfl) ?_
          refine lv_iload_n hx hb dX6_matchLength_21 rfl (lv_at hl 3 rfl) ?_
          refine lv_aload_n hx hb dX6_matchLength_22 rfl (lv_at hl 0 rfl) ?_
          refine va_get (D := gD g) (ci := 6) (v := .ref (hp 1)) (C := RX6) (T := TX6) (N := 3) hx hb hts hinX6 hown hK hP 0 rfl rfl 0 (by decide) k1 (fun _ h9 => h9) rfl dX6_matchLength_23 ?_
          refine lv_iload_n hx hb dX6_matchLength_26 rfl (lv_at hl 2 rfl) ?_
          refine lv_iload_n hx hb dX6_matchLength_27 rfl (lv_at hl 3 rfl) ?_
          refine lv_iadd hx hb dX6_matchLength_28 ?_
          obtain ⟨h4, hf⟩ := jbA_e hf
          refine va_cald hx hb hK hP 1 2 rfl rfl h4 dX6_matchLength_29 ?_
          obtain ⟨h7, hf⟩ := jbA_e hf
          obtain ⟨o5, g6, hf⟩ := jbB_e hf
          refine cvn_i (As := [.int x3, .int ((pText pv) (x2 + x3).toNatClampNeg)]) (rest := []) ⟨hx, hb, hml, hown, hts⟩ (c_X9_allows l g x1 x3 ((pText pv) (x2 + x3).toNatClampNeg) _ g6) (cwV 2 hts gX6_matchLength_X9_allows rfl rfl rfl hd_X9_allows ⟨Nat.le_of_ble_eq_true rfl, Nat.le_of_ble_eq_true rfl⟩) hK hZ hT hA hP hD hS hl.1 (va_recvE hZ.2.1 h7 hS) rfl rfl (Nat.le_of_ble_eq_true rfl) ⟨Nat.le_of_ble_eq_true rfl, Nat.le_of_ble_eq_true rfl⟩ dX6_matchLength_30 (fun H locs hP hD hS => ?_)
          refine lv_if_eq (tgt := 42) hx hb dX6_matchLength_33 (by decide) (fun hc => ?_) (fun hc => ?_)
          · have hf := jbT hf hc
            cases hf
            obtain rfl := jbR_r hr
            exact hk _ _ _ hP hD hS (lv_sub hl [3] rfl)
          · have hf := jbF hf hc
            refine lv_iinc (v := (x3 + 1)) (lv' := [(3, .int (x3 + 1)), (0, .ref (hp 0)), (1, .ref (gS g 1 x1)), (2, .int x2)]) hx hb dX6_matchLength_36 hl (k := 3) rfl rfl (by decide) rfl (fun ls hl => ?_)
            refine lv_goto (tgt := 2) hx hb dX6_matchLength_39 (by decide) ?_
            cases hf
            exact ih (x3 + 1) _ _ _ _ hr hP hD hS (lv_sub hl [1, 2, 3, 0] rfl) hk
  refine lv_iconst (v := 0) hx hb dX6_matchLength_0 (by decide) ?_
  refine lv_istore_n (lv' := [(3, .int 0), (0, .ref (hp 0)), (1, .ref (gS g 1 a0)), (2, .int a1)]) hx hb dX6_matchLength_1 rfl hl (by decide) rfl (fun ls hl => ?_)
  obtain ⟨o2, hg, hf⟩ := jbB_e hf
  refine hL2 a0 a1 _ 0 _ _ _ _ hg hP hD hS (lv_sub hl [1, 2, 3, 0] rfl) (fun H locs ls hP hD hS hl => ?_)
  refine lv_iload_n hx hb dX6_matchLength_42 rfl (lv_at hl 0 rfl) ?_
  cases hf
  subst hQ
  exact rt_i hx hb hrt hlk rfl hK hP hD hS (Nat.le_of_ble_eq_true rfl) (Nat.le_of_ble_eq_true rfl) dX6_matchLength_43
def f_X6_verbAt_L2 (pv : PV) (x1 : Int32) (x2 : Int32) : Option (Sum Int32 (Sum Int32 (Option Nat))) :=
  (f_X9_total).bind fun o1 =>
  if o1 ≤ x2 then
  (some (.inr (.inl x2)))
  else
  ((f_X9_at x2).bind fun o3 =>
  (f_X6_matchLength pv o3 x1).bind fun o5 =>
  if o3 < 8 then
  (f_X9_length o3).bind fun o7 =>
  if o5 = o7 then
  (some (.inr (.inr (some o3))))
  else
  (some (.inl (x2 + 1)))
  else none)
def f_X6_verbAt (pv : PV) (a0 : Int32) : Option (Option Nat) :=
  (jbL (fun s => f_X6_verbAt_L2 pv a0 s) 5000 0).bind fun o2 => jbM o2 (fun oo2 =>
  some none) (fun v => some v)
def rm_X6_verbAt : Room := { frames := 7, cells := 0, slots := 0, locals := 151 }
theorem hd_X6_verbAt : yX6_verbAt.cls = RX6 ∧ yX6_verbAt.cls ≠ "java/lang/invoke/MethodHandle" ∧ yX6_verbAt.cls ≠ "java/lang/invoke/VarHandle" ∧ (parseMethodDescriptor yX6_verbAt.desc).map (fun d => d.parameters.length) = some 1 := by decide +kernel
set_option maxHeartbeats 4000000 in
set_option maxRecDepth 100000 in
theorem c_X6_verbAt (l : Launch) (g : GG) (hp : Nat → Nat) (pv : PV)  (a0 : Int32) (out : (Option Nat)) (hf : f_X6_verbAt pv a0 = some out) : MtR l yX6_verbAt wsX6_verbAt rm_X6_verbAt g (wP g hp pv) [.ref (hp 0), .int a0] (out.map (gS g 1)) (wP g hp pv) 0 0 := by
  refine fun sz => mt_of (cc := cX6_verbAt) (maxL := 4) (ret := (some (.object "TerraceQuarry$Verb"))) (own := RX6) (Qc := fun A => va_Qq (fun r (_ : Unit) => r = (out.map (gS g 1))) (fun _ t => PosM g A (wP g hp pv) t) A) (by decide +kernel) rfl rfl (Nat.le_of_ble_eq_true rfl) ?_ sz
  intro p e s mi below meth c A ls hB hnm hrt hlk hP hD hl
  obtain ⟨hx, hb, hml, hown, hts, hK, hZ, hT, hA, -⟩ := hB
  have hS : va_S A s.heap s.heap [] := va_S.rf
  have hl : lv_has ls 4 [(0, .ref (hp 0)), (1, .int a0)] := hl
  generalize hQ : MQ below _ _ _ _ _ _ = Q
  unfold f_X6_verbAt at hf
  have hL2 : ∀ (x1 : Int32) (n : Nat) (x2 : Int32) (H : Heap) (locs : List Loc) (ls : Array Slot) (o2 : Sum Int32 (Option Nat)), jbL (fun s => f_X6_verbAt_L2 pv x1 s) n x2 = some o2 → va_P (gD g) vwCl (wP g hp pv) H → va_D A (wP g hp pv) → va_S A s.heap H locs → lv_has ls 4 [(0, .ref (hp 0)), (1, .int x1), (2, .int x2)] → (∀ oo : Int32, o2 = .inl oo → ∀ (H : Heap) (locs : List Loc) (ls : Array Slot), va_P (gD g) vwCl (wP g hp pv) H → va_D A (wP g hp pv) → va_S A s.heap H locs → lv_has ls 4 [] → W p l e rm_X6_verbAt s mi [.ref (hp 0), .int a0].toArray below meth c H locs 0 0 Q (F0 mi 35 ls [])) → (∀ v : (Option Nat), o2 = .inr v → v = out) → W p l e rm_X6_verbAt s mi [.ref (hp 0), .int a0].toArray below meth c H locs 0 0 Q (F0 mi 2 ls []) := by
    intro x1 n
    induction n with
    | zero => intro x2 H locs ls o2 hf; exact absurd hf (jbL_0 _ _ _)
    | succ n ih =>
      intro x2 H locs ls o2 hf hP hD hS hl hk hret
      obtain ⟨r, hf, hr⟩ := jbL_e hf
      have hf : f_X6_verbAt_L2 pv x1 x2 = some r := hf
      unfold f_X6_verbAt_L2 at hf
      refine lv_iload_n hx hb dX6_verbAt_2 rfl (lv_at hl 2 rfl) ?_
      obtain ⟨o1, g2, hf⟩ := jbB_e hf
      refine csn_i (As := []) (rest := [.int x2]) ⟨hx, hb, hml, hown, hts⟩ (c_X9_total l g  _ g2) (va_cwS 0 hts gX6_verbAt_X9_total rfl rfl rfl hd_X9_total ⟨Nat.le_of_ble_eq_true rfl, Nat.le_of_ble_eq_true rfl⟩) hK hZ hT hA hP hD hS hl.1 rfl rfl (Nat.le_of_ble_eq_true rfl) ⟨Nat.le_of_ble_eq_true rfl, Nat.le_of_ble_eq_true rfl⟩ dX6_verbAt_3 (fun H locs hP hD hS => ?_)
      refine lv_icmp_ge (tgt := 35) hx hb dX6_verbAt_6 (by decide) (fun hc => ?_) (fun hc => ?_)
      · have hf := jbT hf hc
        cases hf
        obtain rfl := jbR_r hr
        exact hk _ rfl _ _ _ hP hD hS (lv_sub hl [] rfl)
      · have hf := jbF hf hc
        refine lv_iload_n hx hb dX6_verbAt_9 rfl (lv_at hl 2 rfl) ?_
        obtain ⟨o3, g4, hf⟩ := jbB_e hf
        refine csn_e (As := [.int x2]) (rest := []) ⟨hx, hb, hml, hown, hts⟩ (c_X9_at l g x2 _ g4) (va_cwS 1 hts gX6_verbAt_X9_at rfl rfl rfl hd_X9_at ⟨Nat.le_of_ble_eq_true rfl, Nat.le_of_ble_eq_true rfl⟩) hK hZ hT hA hP hD hS hl.1 rfl rfl (Nat.le_of_ble_eq_true rfl) ⟨Nat.le_of_ble_eq_true rfl, Nat.le_of_ble_eq_true rfl⟩ dX6_verbAt_10 (fun H locs hP hD hS => ?_)
        refine lv_astore_n (lv' := [(3, .ref (gS g 1 o3)), (0, .ref (hp 0)), (1, .int x1), (2, .int x2)]) hx hb dX6_verbAt_13 rfl hl (by decide) rfl (fun ls hl => ?_)
        refine lv_aload_n hx hb dX6_verbAt_14 rfl (lv_at hl 1 rfl) ?_
        refine lv_aload_n hx hb dX6_verbAt_15 rfl (lv_at hl 0 rfl) ?_
        refine lv_iload_n hx hb dX6_verbAt_16 rfl (lv_at hl 2 rfl) ?_
        obtain ⟨o5, g6, hf⟩ := jbB_e hf
        refine cva_i (As := [.ref (gS g 1 o3), .int x1]) (rest := []) ⟨hx, hb, hml, hown, hts⟩ (c_X6_matchLength l g hp pv o3 x1 _ g6) (cwV 2 hts gX6_verbAt_X6_matchLength rfl rfl rfl hd_X6_matchLength ⟨Nat.le_of_ble_eq_true rfl, Nat.le_of_ble_eq_true rfl⟩) hK hZ hT hA hP hD hS hl.1 (va_recv hK hP (ci := 6) (q0 := 0) rfl rfl) rfl rfl (Nat.le_of_ble_eq_true rfl) ⟨Nat.le_of_ble_eq_true rfl, Nat.le_of_ble_eq_true rfl⟩ dX6_verbAt_17 (fun H locs hP hD hS => ?_)
        refine lv_aload_n hx hb dX6_verbAt_20 rfl (lv_at hl 0 rfl) ?_
        obtain ⟨h9, hf⟩ := jbA_e hf
        obtain ⟨o7, g8, hf⟩ := jbB_e hf
        refine cvn_i (As := []) (rest := [.int o5]) ⟨hx, hb, hml, hown, hts⟩ (c_X9_length l g o3 _ g8) (cwV 0 hts gX6_verbAt_X9_length rfl rfl rfl hd_X9_length ⟨Nat.le_of_ble_eq_true rfl, Nat.le_of_ble_eq_true rfl⟩) hK hZ hT hA hP hD hS hl.1 (va_recvE hZ.2.1 h9 hS) rfl rfl (Nat.le_of_ble_eq_true rfl) ⟨Nat.le_of_ble_eq_true rfl, Nat.le_of_ble_eq_true rfl⟩ dX6_verbAt_21 (fun H locs hP hD hS => ?_)
        refine lv_icmp_ne (tgt := 29) hx hb dX6_verbAt_24 (by decide) (fun hc => ?_) (fun hc => ?_)
        · have hf := jbF hf hc
          refine lv_iinc (v := (x2 + 1)) (lv' := [(2, .int (x2 + 1)), (3, .ref (gS g 1 o3)), (0, .ref (hp 0)), (1, .int x1)]) hx hb dX6_verbAt_29 hl (k := 3) rfl rfl (by decide) rfl (fun ls hl => ?_)
          refine lv_goto (tgt := 2) hx hb dX6_verbAt_32 (by decide) ?_
          cases hf
          exact ih (x2 + 1) _ _ _ _ hr hP hD hS (lv_sub hl [2, 3, 0] rfl) hk hret
        · have hf := jbT hf hc
          refine lv_aload_n hx hb dX6_verbAt_27 rfl (lv_at hl 0 rfl) ?_
          cases hf
          obtain rfl := hret _ (jbR_r hr).symm
          subst hQ
          exact rt_r (rv := some _) hx hb hrt (Or.inl ⟨_, rfl⟩) hlk hK hP hD hS (Nat.le_of_ble_eq_true rfl) (Nat.le_of_ble_eq_true rfl) dX6_verbAt_28
  refine lv_iconst (v := 0) hx hb dX6_verbAt_0 (by decide) ?_
  refine lv_istore_n (lv' := [(2, .int 0), (0, .ref (hp 0)), (1, .int a0)]) hx hb dX6_verbAt_1 rfl hl (by decide) rfl (fun ls hl => ?_)
  obtain ⟨o2, hg, hf⟩ := jbB_e hf
  refine hL2 a0 _ 0 _ _ _ _ hg hP hD hS (lv_sub hl [1, 2, 0] rfl) (fun oo2 ho H locs ls hP hD hS hl => ?_) (fun v hv => by subst hv; exact Option.some.inj hf)
  subst ho
  have hf := jbM_l hf
  refine lv_null hx hb dX6_verbAt_35 ?_
  cases hf
  subst hQ
  exact rt_r (rv := none) hx hb hrt (Or.inl ⟨_, rfl⟩) hlk hK hP hD hS (Nat.le_of_ble_eq_true rfl) (Nat.le_of_ble_eq_true rfl) dX6_verbAt_36
def f_X6_longestMatch_L4 (pv : PV) (x1 : Int32) (x2 : Int32) (x3 : Int32) : Option (Sum (Int32 × Int32) (Int32 × Int32)) :=
  (f_X9_total).bind fun o1 =>
  if o1 ≤ x3 then
  (some (.inr (x2, x3)))
  else
  ((f_X9_at x3).bind fun o3 =>
  (f_X6_matchLength pv o3 x1).bind fun o5 =>
  jbN (jMax x2 o5) fun z7 =>
  some (.inl (z7, (x3 + 1))))
def f_X6_longestMatch (pv : PV) (a0 : Int32) : Option Int32 :=
  (jbL (fun s => f_X6_longestMatch_L4 pv a0 (s.1) (s.2)) 5000 (0, 0)).bind fun o4 =>
  some (o4.1)
def rm_X6_longestMatch : Room := { frames := 7, cells := 0, slots := 0, locals := 151 }
theorem hd_X6_longestMatch : yX6_longestMatch.cls = RX6 ∧ yX6_longestMatch.cls ≠ "java/lang/invoke/MethodHandle" ∧ yX6_longestMatch.cls ≠ "java/lang/invoke/VarHandle" ∧ (parseMethodDescriptor yX6_longestMatch.desc).map (fun d => d.parameters.length) = some 1 := by decide +kernel
set_option maxHeartbeats 4000000 in
set_option maxRecDepth 100000 in
theorem c_X6_longestMatch (l : Launch) (g : GG) (hp : Nat → Nat) (pv : PV)  (a0 : Int32) (out : Int32) (hf : f_X6_longestMatch pv a0 = some out) : MtI l yX6_longestMatch wsX6_longestMatch rm_X6_longestMatch g (wP g hp pv) [.ref (hp 0), .int a0] out (wP g hp pv) 0 0 := by
  refine fun sz => mt_of (cc := cX6_longestMatch) (maxL := 4) (ret := (some .int)) (own := RX6) (Qc := fun A => va_Qi (fun r (_ : Unit) => r = out) (fun _ t => PosM g A (wP g hp pv) t) A) (by decide +kernel) rfl rfl (Nat.le_of_ble_eq_true rfl) ?_ sz
  intro p e s mi below meth c A ls hB hnm hrt hlk hP hD hl
  obtain ⟨hx, hb, hml, hown, hts, hK, hZ, hT, hA, -⟩ := hB
  have hS : va_S A s.heap s.heap [] := va_S.rf
  have hl : lv_has ls 4 [(0, .ref (hp 0)), (1, .int a0)] := hl
  have k0 := hts (.methodLink RX6 56 Lib.Math.max.name) (by decide +kernel)
  have k1 := hts (.static Lib.Math.max.name) (by decide +kernel)
  have k2 := hts (.initialized "java/lang/Math") (by decide +kernel)
  have k3 := hts (.code Lib.Math.max.name Lib.Math.max.code 2 (some .int)) (by decide +kernel)
  generalize hQ : MQ below _ _ _ _ _ _ = Q
  unfold f_X6_longestMatch at hf
  have hL4 : ∀ (x1 : Int32) (n : Nat) (x2 : Int32) (x3 : Int32) (H : Heap) (locs : List Loc) (ls : Array Slot) (o4 : Int32 × Int32), jbL (fun s => f_X6_longestMatch_L4 pv x1 (s.1) (s.2)) n (x2, x3) = some o4 → va_P (gD g) vwCl (wP g hp pv) H → va_D A (wP g hp pv) → va_S A s.heap H locs → lv_has ls 4 [(0, .ref (hp 0)), (1, .int x1), (2, .int x2), (3, .int x3)] → (∀ (H : Heap) (locs : List Loc) (ls : Array Slot), va_P (gD g) vwCl (wP g hp pv) H → va_D A (wP g hp pv) → va_S A s.heap H locs → lv_has ls 4 [(2, .int (o4.1))] → W p l e rm_X6_longestMatch s mi [.ref (hp 0), .int a0].toArray below meth c H locs 0 0 Q (F0 mi 31 ls [])) → W p l e rm_X6_longestMatch s mi [.ref (hp 0), .int a0].toArray below meth c H locs 0 0 Q (F0 mi 4 ls []) := by
    intro x1 n
    induction n with
    | zero => intro x2 x3 H locs ls o4 hf; exact absurd hf (jbL_0 _ _ _)
    | succ n ih =>
      intro x2 x3 H locs ls o4 hf hP hD hS hl hk
      obtain ⟨r, hf, hr⟩ := jbL_e hf
      have hf : f_X6_longestMatch_L4 pv x1 x2 x3 = some r := hf
      unfold f_X6_longestMatch_L4 at hf
      refine lv_iload_n hx hb dX6_longestMatch_4 rfl (lv_at hl 3 rfl) ?_
      obtain ⟨o1, g2, hf⟩ := jbB_e hf
      refine csn_i (As := []) (rest := [.int x3]) ⟨hx, hb, hml, hown, hts⟩ (c_X9_total l g  _ g2) (va_cwS 0 hts gX6_longestMatch_X9_total rfl rfl rfl hd_X9_total ⟨Nat.le_of_ble_eq_true rfl, Nat.le_of_ble_eq_true rfl⟩) hK hZ hT hA hP hD hS hl.1 rfl rfl (Nat.le_of_ble_eq_true rfl) ⟨Nat.le_of_ble_eq_true rfl, Nat.le_of_ble_eq_true rfl⟩ dX6_longestMatch_5 (fun H locs hP hD hS => ?_)
      refine lv_icmp_ge (tgt := 31) hx hb dX6_longestMatch_8 (by decide) (fun hc => ?_) (fun hc => ?_)
      · have hf := jbT hf hc
        cases hf
        obtain rfl := jbR_r hr
        exact hk _ _ _ hP hD hS (lv_sub hl [2] rfl)
      · have hf := jbF hf hc
        refine lv_iload_n hx hb dX6_longestMatch_11 rfl (lv_at hl 2 rfl) ?_
        refine lv_aload_n hx hb dX6_longestMatch_12 rfl (lv_at hl 0 rfl) ?_
        refine lv_iload_n hx hb dX6_longestMatch_13 rfl (lv_at hl 3 rfl) ?_
        obtain ⟨o3, g4, hf⟩ := jbB_e hf
        refine csn_e (As := [.int x3]) (rest := [.ref (hp 0), .int x2]) ⟨hx, hb, hml, hown, hts⟩ (c_X9_at l g x3 _ g4) (va_cwS 1 hts gX6_longestMatch_X9_at rfl rfl rfl hd_X9_at ⟨Nat.le_of_ble_eq_true rfl, Nat.le_of_ble_eq_true rfl⟩) hK hZ hT hA hP hD hS hl.1 rfl rfl (Nat.le_of_ble_eq_true rfl) ⟨Nat.le_of_ble_eq_true rfl, Nat.le_of_ble_eq_true rfl⟩ dX6_longestMatch_14 (fun H locs hP hD hS => ?_)
        refine lv_iload_n hx hb dX6_longestMatch_17 rfl (lv_at hl 1 rfl) ?_
        obtain ⟨o5, g6, hf⟩ := jbB_e hf
        refine cva_i (As := [.ref (gS g 1 o3), .int x1]) (rest := [.int x2]) ⟨hx, hb, hml, hown, hts⟩ (c_X6_matchLength l g hp pv o3 x1 _ g6) (cwV 2 hts gX6_longestMatch_X6_matchLength rfl rfl rfl hd_X6_matchLength ⟨Nat.le_of_ble_eq_true rfl, Nat.le_of_ble_eq_true rfl⟩) hK hZ hT hA hP hD hS hl.1 (va_recv hK hP (ci := 6) (q0 := 0) rfl rfl) rfl rfl (Nat.le_of_ble_eq_true rfl) ⟨Nat.le_of_ble_eq_true rfl, Nat.le_of_ble_eq_true rfl⟩ dX6_longestMatch_18 (fun H locs hP hD hS => ?_)
        refine va_mmax hx hb (hml.trans hl.1.symm) hown k0 k1 k2 k3 (Nat.le_of_ble_eq_true rfl) (Nat.le_of_ble_eq_true rfl) (Nat.le_of_ble_eq_true rfl) (Nat.le_of_ble_eq_true rfl) dX6_longestMatch_21 ?_
        refine lv_topi (fun z7 ez7 => ?_)
        have hf := jbN_e hf ez7
        refine lv_istore_n (lv' := [(2, .int z7), (0, .ref (hp 0)), (1, .int x1), (3, .int x3)]) hx hb dX6_longestMatch_24 rfl hl (by decide) rfl (fun ls hl => ?_)
        refine lv_iinc (v := (x3 + 1)) (lv' := [(3, .int (x3 + 1)), (2, .int z7), (0, .ref (hp 0)), (1, .int x1)]) hx hb dX6_longestMatch_25 hl (k := 3) rfl rfl (by decide) rfl (fun ls hl => ?_)
        refine lv_goto (tgt := 4) hx hb dX6_longestMatch_28 (by decide) ?_
        cases hf
        exact ih z7 (x3 + 1) _ _ _ _ hr hP hD hS (lv_sub hl [2, 3, 1, 0] rfl) hk
  refine lv_iconst (v := 0) hx hb dX6_longestMatch_0 (by decide) ?_
  refine lv_istore_n (lv' := [(2, .int 0), (0, .ref (hp 0)), (1, .int a0)]) hx hb dX6_longestMatch_1 rfl hl (by decide) rfl (fun ls hl => ?_)
  refine lv_iconst (v := 0) hx hb dX6_longestMatch_2 (by decide) ?_
  refine lv_istore_n (lv' := [(3, .int 0), (2, .int 0), (0, .ref (hp 0)), (1, .int a0)]) hx hb dX6_longestMatch_3 rfl hl (by decide) rfl (fun ls hl => ?_)
  obtain ⟨o4, hg, hf⟩ := jbB_e hf
  refine hL4 a0 _ 0 0 _ _ _ _ hg hP hD hS (lv_sub hl [2, 3, 1, 0] rfl) (fun H locs ls hP hD hS hl => ?_)
  refine lv_iload_n hx hb dX6_longestMatch_31 rfl (lv_at hl 0 rfl) ?_
  cases hf
  subst hQ
  exact rt_i hx hb hrt hlk rfl hK hP hD hS (Nat.le_of_ble_eq_true rfl) (Nat.le_of_ble_eq_true rfl) dX6_longestMatch_32
