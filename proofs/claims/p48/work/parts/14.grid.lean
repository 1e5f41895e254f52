def f_X3_hasRow (a0 : Int32) : Option Int32 :=
  if a0 < 0 then
  (some 0)
  else
  (if 5 ≤ a0 then
  (some 0)
  else
  (some 1))
def rm_X3_hasRow : Room := { frames := 0, cells := 0, slots := 0, locals := 0 }
theorem hd_X3_hasRow : yX3_hasRow.cls ≠ "java/lang/invoke/MethodHandle" ∧ yX3_hasRow.cls ≠ "java/lang/invoke/VarHandle" ∧ (parseMethodDescriptor yX3_hasRow.desc).map (fun d => d.parameters.length) = some 1 := by decide +kernel
set_option maxHeartbeats 4000000 in
set_option maxRecDepth 100000 in
theorem c_X3_hasRow (l : Launch) (g : GG)   (a0 : Int32) (out : Int32) (hf : f_X3_hasRow a0 = some out) : MtI l yX3_hasRow wsX3_hasRow rm_X3_hasRow g [] [.int a0] out [] 0 0 := by
  refine fun sz => mt_of (cc := cX3_hasRow) (maxL := 1) (ret := (some .boolean)) (own := RX3) (Qc := fun A => va_Qi (fun r (_ : Unit) => r = out) (fun _ t => PosM g A [] t) A) (by decide +kernel) rfl rfl (Nat.le_of_ble_eq_true rfl) ?_ sz
  intro p e s mi below meth c A ls hB hnm hrt hlk hP hD hl
  obtain ⟨hx, hb, hml, hown, hts, hK, hZ, hT, hA, -⟩ := hB
  have hS : va_S A s.heap s.heap [] := va_S.rf
  have hl : lv_has ls 1 [(0, .int a0)] := hl
  generalize hQ : MQ below _ _ _ _ _ _ = Q
  unfold f_X3_hasRow at hf
  refine lv_iload_n hx hb dX3_hasRow_0 rfl (lv_at hl 0 rfl) ?_
  refine lv_if_lt (tgt := 13) hx hb dX3_hasRow_1 (by decide) (fun hc => ?_) (fun hc => ?_)
  · have hf := jbT hf hc
    refine lv_iconst (v := 0) hx hb dX3_hasRow_13 (by decide) ?_
    cases hf
    subst hQ
    exact rt_i hx hb hrt hlk nar_0 hK hP hD hS (Nat.le_of_ble_eq_true rfl) (Nat.le_of_ble_eq_true rfl) dX3_hasRow_14
  · have hf := jbF hf hc
    refine lv_iload_n hx hb dX3_hasRow_4 rfl (lv_at hl 0 rfl) ?_
    refine lv_iconst (v := 5) hx hb dX3_hasRow_5 (by decide) ?_
    refine lv_icmp_ge (tgt := 13) hx hb dX3_hasRow_6 (by decide) (fun hc => ?_) (fun hc => ?_)
    · have hf := jbT hf hc
      refine lv_iconst (v := 0) hx hb dX3_hasRow_13 (by decide) ?_
      cases hf
      subst hQ
      exact rt_i hx hb hrt hlk nar_0 hK hP hD hS (Nat.le_of_ble_eq_true rfl) (Nat.le_of_ble_eq_true rfl) dX3_hasRow_14
    · have hf := jbF hf hc
      refine lv_iconst (v := 1) hx hb dX3_hasRow_9 (by decide) ?_
      refine lv_goto (tgt := 14) hx hb dX3_hasRow_10 (by decide) ?_
      cases hf
      subst hQ
      exact rt_i hx hb hrt hlk nar_1 hK hP hD hS (Nat.le_of_ble_eq_true rfl) (Nat.le_of_ble_eq_true rfl) dX3_hasRow_14
def f_X3_cellFault_J22 (y0 : Int32) : Option Nat :=
  if y0 = 0 then
  (some 1)
  else
  (some 0)
def f_X3_cellFault_J21  : Option Nat :=
  f_X3_cellFault_J22 0
def f_X3_cellFault (a0 : Int32) (a1 : Int32) : Option Nat :=
  (f_X3_hasRow a0).bind fun o1 =>
  if o1 = 0 then
  (f_X3_cellFault_J21)
  else
  (if a1 < 0 then
  (f_X3_cellFault_J21)
  else
  (if 6 ≤ a1 then
  (f_X3_cellFault_J21)
  else
  (f_X3_cellFault_J22 1)))
def rm_X3_cellFault : Room := { frames := 1, cells := 0, slots := 0, locals := 20 }
theorem hd_X3_cellFault : yX3_cellFault.cls ≠ "java/lang/invoke/MethodHandle" ∧ yX3_cellFault.cls ≠ "java/lang/invoke/VarHandle" ∧ (parseMethodDescriptor yX3_cellFault.desc).map (fun d => d.parameters.length) = some 2 := by decide +kernel
set_option maxHeartbeats 4000000 in
set_option maxRecDepth 100000 in
theorem c_X3_cellFault (l : Launch) (g : GG)   (a0 : Int32) (a1 : Int32) (out : Nat) (hf : f_X3_cellFault a0 a1 = some out) : MtR l yX3_cellFault wsX3_cellFault rm_X3_cellFault g [] [.int a0, .int a1] (some (gS g 0 out)) [] 0 0 := by
  refine fun sz => mt_of (cc := cX3_cellFault) (maxL := 3) (ret := (some (.object "TerraceQuarry$Fault"))) (own := RX3) (Qc := fun A => va_Qq (fun r (_ : Unit) => r = (some (gS g 0 out))) (fun _ t => PosM g A [] t) A) (by decide +kernel) rfl rfl (Nat.le_of_ble_eq_true rfl) ?_ sz
  intro p e s mi below meth c A ls hB hnm hrt hlk hP hD hl
  obtain ⟨hx, hb, hml, hown, hts, hK, hZ, hT, hA, -⟩ := hB
  have hS : va_S A s.heap s.heap [] := va_S.rf
  have hl : lv_has ls 3 [(0, .int a0), (1, .int a1)] := hl
  have k0 := hts (.fieldLink RX3 19 "TerraceQuarry$Fault" "INDEX" "LTerraceQuarry$Fault;") (by decide +kernel)
  have k1 := hts (.fieldLink RX3 13 "TerraceQuarry$Fault" "NONE" "LTerraceQuarry$Fault;") (by decide +kernel)
  generalize hQ : MQ below _ _ _ _ _ _ = Q
  unfold f_X3_cellFault at hf
  have hJ22 : ∀ (y0 : Int32) (H : Heap) (locs : List Loc) (ls : Array Slot), f_X3_cellFault_J22 y0 = some out → va_P (gD g) vwCl [] H → va_D A [] → va_S A s.heap H locs → lv_has ls 3 [] → W p l e rm_X3_cellFault s mi [.int a0, .int a1].toArray below meth c H locs 0 0 Q (F0 mi 22 ls [.int y0]) := by
    intro y0 H locs ls hf hP hD hS hl
    unfold f_X3_cellFault_J22 at hf
    refine lv_istore_n (lv' := [(2, .int y0)]) hx hb dX3_cellFault_22 rfl hl (by decide) rfl (fun ls hl => ?_)
    refine lv_iload_n hx hb dX3_cellFault_23 rfl (lv_at hl 0 rfl) ?_
    refine lv_if_eq (tgt := 33) hx hb dX3_cellFault_24 (by decide) (fun hc => ?_) (fun hc => ?_)
    · have hf := jbT hf hc
      refine va_gets (C := "TerraceQuarry$Fault") (n := "INDEX") (d := "LTerraceQuarry$Fault;") (v := .ref (gS g 0 1)) hx hb (hZ.1.1 1 (by decide)).1 hS hown k0 (fun _ h9 => h9) dX3_cellFault_33 ?_
      cases hf
      subst hQ
      exact rt_r (rv := some _) hx hb hrt (Or.inl ⟨_, rfl⟩) hlk hK hP hD hS (Nat.le_of_ble_eq_true rfl) (Nat.le_of_ble_eq_true rfl) dX3_cellFault_36
    · have hf := jbF hf hc
      refine va_gets (C := "TerraceQuarry$Fault") (n := "NONE") (d := "LTerraceQuarry$Fault;") (v := .ref (gS g 0 0)) hx hb (hZ.1.1 0 (by decide)).1 hS hown k1 (fun _ h9 => h9) dX3_cellFault_27 ?_
      refine lv_goto (tgt := 36) hx hb dX3_cellFault_30 (by decide) ?_
      cases hf
      subst hQ
      exact rt_r (rv := some _) hx hb hrt (Or.inl ⟨_, rfl⟩) hlk hK hP hD hS (Nat.le_of_ble_eq_true rfl) (Nat.le_of_ble_eq_true rfl) dX3_cellFault_36
  have hJ21 : ∀ (H : Heap) (locs : List Loc) (ls : Array Slot), f_X3_cellFault_J21 = some out → va_P (gD g) vwCl [] H → va_D A [] → va_S A s.heap H locs → lv_has ls 3 [] → W p l e rm_X3_cellFault s mi [.int a0, .int a1].toArray below meth c H locs 0 0 Q (F0 mi 21 ls []) := by
    intro H locs ls hf hP hD hS hl
    unfold f_X3_cellFault_J21 at hf
    refine lv_iconst (v := 0) hx hb dX3_cellFault_21 (by decide) ?_
    exact hJ22 0 _ _ _ hf hP hD hS (lv_sub hl [] rfl)
  refine lv_iload_n hx hb dX3_cellFault_0 rfl (lv_at hl 0 rfl) ?_
  obtain ⟨o1, g2, hf⟩ := jbB_e hf
  refine csa_i (As := [.int a0]) (rest := []) ⟨hx, hb, hml, hown, hts⟩ (c_X3_hasRow l g a0 _ g2) (va_cwS 1 hts gX3_cellFault_X3_hasRow rfl rfl rfl hd_X3_hasRow ⟨Nat.le_of_ble_eq_true rfl, Nat.le_of_ble_eq_true rfl⟩) hK hZ hT hA hP hD hS hl.1 rfl rfl (Nat.le_of_ble_eq_true rfl) ⟨Nat.le_of_ble_eq_true rfl, Nat.le_of_ble_eq_true rfl⟩ dX3_cellFault_1 (fun H locs hP hD hS => ?_)
  refine lv_if_eq (tgt := 21) hx hb dX3_cellFault_4 (by decide) (fun hc => ?_) (fun hc => ?_)
  · have hf := jbT hf hc
    exact hJ21 _ _ _ hf hP hD hS (lv_sub hl [] rfl)
  · have hf := jbF hf hc
    refine lv_iload_n hx hb dX3_cellFault_7 rfl (lv_at hl 1 rfl) ?_
    refine lv_if_lt (tgt := 21) hx hb dX3_cellFault_8 (by decide) (fun hc => ?_) (fun hc => ?_)
    · have hf := jbT hf hc
      exact hJ21 _ _ _ hf hP hD hS (lv_sub hl [] rfl)
    · have hf := jbF hf hc
      refine lv_iload_n hx hb dX3_cellFault_11 rfl (lv_at hl 1 rfl) ?_
      refine lv_bipush (v := 6) hx hb dX3_cellFault_12 (by decide) ?_
      refine lv_icmp_ge (tgt := 21) hx hb dX3_cellFault_14 (by decide) (fun hc => ?_) (fun hc => ?_)
      · have hf := jbT hf hc
        exact hJ21 _ _ _ hf hP hD hS (lv_sub hl [] rfl)
      · have hf := jbF hf hc
        refine lv_iconst (v := 1) hx hb dX3_cellFault_17 (by decide) ?_
        refine lv_goto (tgt := 22) hx hb dX3_cellFault_18 (by decide) ?_
        exact hJ22 1 _ _ _ hf hP hD hS (lv_sub hl [] rfl)
def f_X3_cellAt (a0 : Int32) (a1 : Int32) : Option Int32 :=
  some ((a0 * 6) + a1)
def rm_X3_cellAt : Room := { frames := 0, cells := 0, slots := 0, locals := 0 }
theorem hd_X3_cellAt : yX3_cellAt.cls ≠ "java/lang/invoke/MethodHandle" ∧ yX3_cellAt.cls ≠ "java/lang/invoke/VarHandle" ∧ (parseMethodDescriptor yX3_cellAt.desc).map (fun d => d.parameters.length) = some 2 := by decide +kernel
set_option maxHeartbeats 4000000 in
set_option maxRecDepth 100000 in
theorem c_X3_cellAt (l : Launch) (g : GG)   (a0 : Int32) (a1 : Int32) (out : Int32) (hf : f_X3_cellAt a0 a1 = some out) : MtI l yX3_cellAt wsX3_cellAt rm_X3_cellAt g [] [.int a0, .int a1] out [] 0 0 := by
  refine fun sz => mt_of (cc := cX3_cellAt) (maxL := 2) (ret := (some .int)) (own := RX3) (Qc := fun A => va_Qi (fun r (_ : Unit) => r = out) (fun _ t => PosM g A [] t) A) (by decide +kernel) rfl rfl (Nat.le_of_ble_eq_true rfl) ?_ sz
  intro p e s mi below meth c A ls hB hnm hrt hlk hP hD hl
  obtain ⟨hx, hb, hml, hown, hts, hK, hZ, hT, hA, -⟩ := hB
  have hS : va_S A s.heap s.heap [] := va_S.rf
  have hl : lv_has ls 2 [(0, .int a0), (1, .int a1)] := hl
  generalize hQ : MQ below _ _ _ _ _ _ = Q
  unfold f_X3_cellAt at hf
  refine lv_iload_n hx hb dX3_cellAt_0 rfl (lv_at hl 0 rfl) ?_
  refine lv_bipush (v := 6) hx hb dX3_cellAt_1 (by decide) ?_
  refine lv_imul hx hb dX3_cellAt_3 ?_
  refine lv_iload_n hx hb dX3_cellAt_4 rfl (lv_at hl 1 rfl) ?_
  refine lv_iadd hx hb dX3_cellAt_5 ?_
  cases hf
  subst hQ
  exact rt_i hx hb hrt hlk rfl hK hP hD hS (Nat.le_of_ble_eq_true rfl) (Nat.le_of_ble_eq_true rfl) dX3_cellAt_6
def f_X3_rowOf (a0 : Int32) : Option Int32 :=
  some (a0 / 6)
def rm_X3_rowOf : Room := { frames := 0, cells := 0, slots := 0, locals := 0 }
theorem hd_X3_rowOf : yX3_rowOf.cls ≠ "java/lang/invoke/MethodHandle" ∧ yX3_rowOf.cls ≠ "java/lang/invoke/VarHandle" ∧ (parseMethodDescriptor yX3_rowOf.desc).map (fun d => d.parameters.length) = some 1 := by decide +kernel
set_option maxHeartbeats 4000000 in
set_option maxRecDepth 100000 in
theorem c_X3_rowOf (l : Launch) (g : GG)   (a0 : Int32) (out : Int32) (hf : f_X3_rowOf a0 = some out) : MtI l yX3_rowOf wsX3_rowOf rm_X3_rowOf g [] [.int a0] out [] 0 0 := by
  refine fun sz => mt_of (cc := cX3_rowOf) (maxL := 1) (ret := (some .int)) (own := RX3) (Qc := fun A => va_Qi (fun r (_ : Unit) => r = out) (fun _ t => PosM g A [] t) A) (by decide +kernel) rfl rfl (Nat.le_of_ble_eq_true rfl) ?_ sz
  intro p e s mi below meth c A ls hB hnm hrt hlk hP hD hl
  obtain ⟨hx, hb, hml, hown, hts, hK, hZ, hT, hA, -⟩ := hB
  have hS : va_S A s.heap s.heap [] := va_S.rf
  have hl : lv_has ls 1 [(0, .int a0)] := hl
  generalize hQ : MQ below _ _ _ _ _ _ = Q
  unfold f_X3_rowOf at hf
  refine lv_iload_n hx hb dX3_rowOf_0 rfl (lv_at hl 0 rfl) ?_
  refine lv_bipush (v := 6) hx hb dX3_rowOf_1 (by decide) ?_
  refine lv_idiv hx hb dX3_rowOf_3 (by decide) ?_
  cases hf
  subst hQ
  exact rt_i hx hb hrt hlk rfl hK hP hD hS (Nat.le_of_ble_eq_true rfl) (Nat.le_of_ble_eq_true rfl) dX3_rowOf_4
def f_X3_columnOf (a0 : Int32) : Option Int32 :=
  some (a0 - a0 / 6 * 6)
def rm_X3_columnOf : Room := { frames := 0, cells := 0, slots := 0, locals := 0 }
theorem hd_X3_columnOf : yX3_columnOf.cls ≠ "java/lang/invoke/MethodHandle" ∧ yX3_columnOf.cls ≠ "java/lang/invoke/VarHandle" ∧ (parseMethodDescriptor yX3_columnOf.desc).map (fun d => d.parameters.length) = some 1 := by decide +kernel
set_option maxHeartbeats 4000000 in
set_option maxRecDepth 100000 in
theorem c_X3_columnOf (l : Launch) (g : GG)   (a0 : Int32) (out : Int32) (hf : f_X3_columnOf a0 = some out) : MtI l yX3_columnOf wsX3_columnOf rm_X3_columnOf g [] [.int a0] out [] 0 0 := by
  refine fun sz => mt_of (cc := cX3_columnOf) (maxL := 1) (ret := (some .int)) (own := RX3) (Qc := fun A => va_Qi (fun r (_ : Unit) => r = out) (fun _ t => PosM g A [] t) A) (by decide +kernel) rfl rfl (Nat.le_of_ble_eq_true rfl) ?_ sz
  intro p e s mi below meth c A ls hB hnm hrt hlk hP hD hl
  obtain ⟨hx, hb, hml, hown, hts, hK, hZ, hT, hA, -⟩ := hB
  have hS : va_S A s.heap s.heap [] := va_S.rf
  have hl : lv_has ls 1 [(0, .int a0)] := hl
  generalize hQ : MQ below _ _ _ _ _ _ = Q
  unfold f_X3_columnOf at hf
  refine lv_iload_n hx hb dX3_columnOf_0 rfl (lv_at hl 0 rfl) ?_
  refine lv_bipush (v := 6) hx hb dX3_columnOf_1 (by decide) ?_
  refine lv_irem hx hb dX3_columnOf_3 (by decide) ?_
  cases hf
  subst hQ
  exact rt_i hx hb hrt hlk rfl hK hP hD hS (Nat.le_of_ble_eq_true rfl) (Nat.le_of_ble_eq_true rfl) dX3_columnOf_4
def f_X3_distance (a0 : Int32) (a1 : Int32) : Option Int32 :=
  (f_X3_rowOf a0).bind fun o1 =>
  (f_X3_rowOf a1).bind fun o3 =>
  (f_X3_columnOf a0).bind fun o5 =>
  (f_X3_columnOf a1).bind fun o7 =>
  some ((jAbs (o1 - o3)) + (jAbs (o5 - o7)))
def rm_X3_distance : Room := { frames := 1, cells := 0, slots := 0, locals := 25 }
theorem hd_X3_distance : yX3_distance.cls ≠ "java/lang/invoke/MethodHandle" ∧ yX3_distance.cls ≠ "java/lang/invoke/VarHandle" ∧ (parseMethodDescriptor yX3_distance.desc).map (fun d => d.parameters.length) = some 2 := by decide +kernel
set_option maxHeartbeats 4000000 in
set_option maxRecDepth 100000 in
theorem c_X3_distance (l : Launch) (g : GG)   (a0 : Int32) (a1 : Int32) (out : Int32) (hf : f_X3_distance a0 a1 = some out) : MtI l yX3_distance wsX3_distance rm_X3_distance g [] [.int a0, .int a1] out [] 0 0 := by
  refine fun sz => mt_of (cc := cX3_distance) (maxL := 2) (ret := (some .int)) (own := RX3) (Qc := fun A => va_Qi (fun r (_ : Unit) => r = out) (fun _ t => PosM g A [] t) A) (by decide +kernel) rfl rfl (Nat.le_of_ble_eq_true rfl) ?_ sz
  intro p e s mi below meth c A ls hB hnm hrt hlk hP hD hl
  obtain ⟨hx, hb, hml, hown, hts, hK, hZ, hT, hA, -⟩ := hB
  have hS : va_S A s.heap s.heap [] := va_S.rf
  have hl : lv_has ls 2 [(0, .int a0), (1, .int a1)] := hl
  have k0 := hts (.methodLink RX3 26 Lib.Math.abs.name) (by decide +kernel)
  have k1 := hts (.static Lib.Math.abs.name) (by decide +kernel)
  have k2 := hts (.initialized "java/lang/Math") (by decide +kernel)
  have k3 := hts (.code Lib.Math.abs.name Lib.Math.abs.code 1 (some .int)) (by decide +kernel)
  generalize hQ : MQ below _ _ _ _ _ _ = Q
  unfold f_X3_distance at hf
  refine lv_iload_n hx hb dX3_distance_0 rfl (lv_at hl 0 rfl) ?_
  obtain ⟨o1, g2, hf⟩ := jbB_e hf
  refine csa_i (As := [.int a0]) (rest := []) ⟨hx, hb, hml, hown, hts⟩ (c_X3_rowOf l g a0 _ g2) (va_cwS 1 hts gX3_distance_X3_rowOf rfl rfl rfl hd_X3_rowOf ⟨Nat.le_of_ble_eq_true rfl, Nat.le_of_ble_eq_true rfl⟩) hK hZ hT hA hP hD hS hl.1 rfl rfl (Nat.le_of_ble_eq_true rfl) ⟨Nat.le_of_ble_eq_true rfl, Nat.le_of_ble_eq_true rfl⟩ dX3_distance_1 (fun H locs hP hD hS => ?_)
  refine lv_iload_n hx hb dX3_distance_4 rfl (lv_at hl 1 rfl) ?_
  obtain ⟨o3, g4, hf⟩ := jbB_e hf
  refine csa_i (As := [.int a1]) (rest := [.int o1]) ⟨hx, hb, hml, hown, hts⟩ (c_X3_rowOf l g a1 _ g4) (va_cwS 1 hts gX3_distance_X3_rowOf rfl rfl rfl hd_X3_rowOf ⟨Nat.le_of_ble_eq_true rfl, Nat.le_of_ble_eq_true rfl⟩) hK hZ hT hA hP hD hS hl.1 rfl rfl (Nat.le_of_ble_eq_true rfl) ⟨Nat.le_of_ble_eq_true rfl, Nat.le_of_ble_eq_true rfl⟩ dX3_distance_5 (fun H locs hP hD hS => ?_)
  refine lv_isub hx hb dX3_distance_8 ?_
  refine va_mabs hx hb (hml.trans hl.1.symm) hown k0 k1 k2 k3 (Nat.le_of_ble_eq_true rfl) (Nat.le_of_ble_eq_true rfl) (Nat.le_of_ble_eq_true rfl) (Nat.le_of_ble_eq_true rfl) dX3_distance_9 ?_
  refine lv_iload_n hx hb dX3_distance_12 rfl (lv_at hl 0 rfl) ?_
  obtain ⟨o5, g6, hf⟩ := jbB_e hf
  refine csa_i (As := [.int a0]) (rest := [.int (jAbs (o1 - o3))]) ⟨hx, hb, hml, hown, hts⟩ (c_X3_columnOf l g a0 _ g6) (va_cwS 1 hts gX3_distance_X3_columnOf rfl rfl rfl hd_X3_columnOf ⟨Nat.le_of_ble_eq_true rfl, Nat.le_of_ble_eq_true rfl⟩) hK hZ hT hA hP hD hS hl.1 rfl rfl (Nat.le_of_ble_eq_true rfl) ⟨Nat.le_of_ble_eq_true rfl, Nat.le_of_ble_eq_true rfl⟩ dX3_distance_13 (fun H locs hP hD hS => ?_)
  refine lv_iload_n hx hb dX3_distance_16 rfl (lv_at hl 1 rfl) ?_
  obtain ⟨o7, g8, hf⟩ := jbB_e hf
  refine csa_i (As := [.int a1]) (rest := [.int o5, .int (jAbs (o1 - o3))]) ⟨hx, hb, hml, hown, hts⟩ (c_X3_columnOf l g a1 _ g8) (va_cwS 1 hts gX3_distance_X3_columnOf rfl rfl rfl hd_X3_columnOf ⟨Nat.le_of_ble_eq_true rfl, Nat.le_of_ble_eq_true rfl⟩) hK hZ hT hA hP hD hS hl.1 rfl rfl (Nat.le_of_ble_eq_true rfl) ⟨Nat.le_of_ble_eq_true rfl, Nat.le_of_ble_eq_true rfl⟩ dX3_distance_17 (fun H locs hP hD hS => ?_)
  refine lv_isub hx hb dX3_distance_20 ?_
  refine va_mabs hx hb (hml.trans hl.1.symm) hown k0 k1 k2 k3 (Nat.le_of_ble_eq_true rfl) (Nat.le_of_ble_eq_true rfl) (Nat.le_of_ble_eq_true rfl) (Nat.le_of_ble_eq_true rfl) dX3_distance_21 ?_
  refine lv_iadd hx hb dX3_distance_24 ?_
  cases hf
  subst hQ
  exact rt_i hx hb hrt hlk rfl hK hP hD hS (Nat.le_of_ble_eq_true rfl) (Nat.le_of_ble_eq_true rfl) dX3_distance_25
def f_X3_neighbour (a0 : Int32) (a1 : Int32) : Option Int32 :=
  jbN (a0 - a0 / 6 * 6) fun z1 =>
  if a1 = 0 then
  (if a0 < 6 then
  (some (-1))
  else
  (some (a0 - 6)))
  else
  if a1 = 1 then
  (if z1 ≤ 0 then
  (some (-1))
  else
  (some (a0 - 1)))
  else
  if a1 = 2 then
  (if 5 ≤ z1 then
  (some (-1))
  else
  (some (a0 + 1)))
  else
  if a1 = 3 then
  (if 24 ≤ a0 then
  (some (-1))
  else
  (some (a0 + 6)))
  else
  (some (-1))
def rm_X3_neighbour : Room := { frames := 0, cells := 0, slots := 0, locals := 0 }
theorem hd_X3_neighbour : yX3_neighbour.cls ≠ "java/lang/invoke/MethodHandle" ∧ yX3_neighbour.cls ≠ "java/lang/invoke/VarHandle" ∧ (parseMethodDescriptor yX3_neighbour.desc).map (fun d => d.parameters.length) = some 2 := by decide +kernel
set_option maxHeartbeats 4000000 in
set_option maxRecDepth 100000 in
theorem c_X3_neighbour (l : Launch) (g : GG)   (a0 : Int32) (a1 : Int32) (out : Int32) (hf : f_X3_neighbour a0 a1 = some out) : MtI l yX3_neighbour wsX3_neighbour rm_X3_neighbour g [] [.int a0, .int a1] out [] 0 0 := by
  refine fun sz => mt_of (cc := cX3_neighbour) (maxL := 3) (ret := (some .int)) (own := RX3) (Qc := fun A => va_Qi (fun r (_ : Unit) => r = out) (fun _ t => PosM g A [] t) A) (by decide +kernel) rfl rfl (Nat.le_of_ble_eq_true rfl) ?_ sz
  intro p e s mi below meth c A ls hB hnm hrt hlk hP hD hl
  obtain ⟨hx, hb, hml, hown, hts, hK, hZ, hT, hA, -⟩ := hB
  have hS : va_S A s.heap s.heap [] := va_S.rf
  have hl : lv_has ls 3 [(0, .int a0), (1, .int a1)] := hl
  generalize hQ : MQ below _ _ _ _ _ _ = Q
  unfold f_X3_neighbour at hf
  refine lv_iload_n hx hb dX3_neighbour_0 rfl (lv_at hl 0 rfl) ?_
  refine lv_bipush (v := 6) hx hb dX3_neighbour_1 (by decide) ?_
  refine lv_irem hx hb dX3_neighbour_3 (by decide) ?_
  refine lv_topi (fun z1 ez1 => ?_)
  have hf := jbN_e hf ez1
  refine lv_istore_n (lv' := [(2, .int z1), (0, .int a0), (1, .int a1)]) hx hb dX3_neighbour_4 rfl hl (by decide) rfl (fun ls hl => ?_)
  refine lv_iload_n hx hb dX3_neighbour_5 rfl (lv_at hl 2 rfl) ?_
  by_cases hc2 : a1 = 0
  · have hf := jbT hf hc2
    refine lv_tableIn (tgt := 36) hx hb dX3_neighbour_6 (by rw [hc2]; decide) (by rw [hc2]; decide) (by rw [hc2]; rfl) (by decide) ?_
    refine lv_iload_n hx hb dX3_neighbour_36 rfl (lv_at hl 1 rfl) ?_
    refine lv_bipush (v := 6) hx hb dX3_neighbour_37 (by decide) ?_
    refine lv_icmp_lt (tgt := 49) hx hb dX3_neighbour_39 (by decide) (fun hc => ?_) (fun hc => ?_)
    · have hf := jbT hf hc
      refine lv_iconst (v := (-1)) hx hb dX3_neighbour_49 (by decide) ?_
      cases hf
      subst hQ
      exact rt_i hx hb hrt hlk rfl hK hP hD hS (Nat.le_of_ble_eq_true rfl) (Nat.le_of_ble_eq_true rfl) dX3_neighbour_50
    · have hf := jbF hf hc
      refine lv_iload_n hx hb dX3_neighbour_42 rfl (lv_at hl 1 rfl) ?_
      refine lv_bipush (v := 6) hx hb dX3_neighbour_43 (by decide) ?_
      refine lv_isub hx hb dX3_neighbour_45 ?_
      refine lv_goto (tgt := 50) hx hb dX3_neighbour_46 (by decide) ?_
      cases hf
      subst hQ
      exact rt_i hx hb hrt hlk rfl hK hP hD hS (Nat.le_of_ble_eq_true rfl) (Nat.le_of_ble_eq_true rfl) dX3_neighbour_50
  have hf := jbF hf hc2
  by_cases hc3 : a1 = 1
  · have hf := jbT hf hc3
    refine lv_tableIn (tgt := 51) hx hb dX3_neighbour_6 (by rw [hc3]; decide) (by rw [hc3]; decide) (by rw [hc3]; rfl) (by decide) ?_
    refine lv_iload_n hx hb dX3_neighbour_51 rfl (lv_at hl 0 rfl) ?_
    refine lv_if_le (tgt := 61) hx hb dX3_neighbour_52 (by decide) (fun hc => ?_) (fun hc => ?_)
    · have hf := jbT hf hc
      refine lv_iconst (v := (-1)) hx hb dX3_neighbour_61 (by decide) ?_
      cases hf
      subst hQ
      exact rt_i hx hb hrt hlk rfl hK hP hD hS (Nat.le_of_ble_eq_true rfl) (Nat.le_of_ble_eq_true rfl) dX3_neighbour_62
    · have hf := jbF hf hc
      refine lv_iload_n hx hb dX3_neighbour_55 rfl (lv_at hl 1 rfl) ?_
      refine lv_iconst (v := 1) hx hb dX3_neighbour_56 (by decide) ?_
      refine lv_isub hx hb dX3_neighbour_57 ?_
      refine lv_goto (tgt := 62) hx hb dX3_neighbour_58 (by decide) ?_
      cases hf
      subst hQ
      exact rt_i hx hb hrt hlk rfl hK hP hD hS (Nat.le_of_ble_eq_true rfl) (Nat.le_of_ble_eq_true rfl) dX3_neighbour_62
  have hf := jbF hf hc3
  by_cases hc4 : a1 = 2
  · have hf := jbT hf hc4
    refine lv_tableIn (tgt := 63) hx hb dX3_neighbour_6 (by rw [hc4]; decide) (by rw [hc4]; decide) (by rw [hc4]; rfl) (by decide) ?_
    refine lv_iload_n hx hb dX3_neighbour_63 rfl (lv_at hl 0 rfl) ?_
    refine lv_iconst (v := 5) hx hb dX3_neighbour_64 (by decide) ?_
    refine lv_icmp_ge (tgt := 74) hx hb dX3_neighbour_65 (by decide) (fun hc => ?_) (fun hc => ?_)
    · have hf := jbT hf hc
      refine lv_iconst (v := (-1)) hx hb dX3_neighbour_74 (by decide) ?_
      cases hf
      subst hQ
      exact rt_i hx hb hrt hlk rfl hK hP hD hS (Nat.le_of_ble_eq_true rfl) (Nat.le_of_ble_eq_true rfl) dX3_neighbour_75
    · have hf := jbF hf hc
      refine lv_iload_n hx hb dX3_neighbour_68 rfl (lv_at hl 1 rfl) ?_
      refine lv_iconst (v := 1) hx hb dX3_neighbour_69 (by decide) ?_
      refine lv_iadd hx hb dX3_neighbour_70 ?_
      refine lv_goto (tgt := 75) hx hb dX3_neighbour_71 (by decide) ?_
      cases hf
      subst hQ
      exact rt_i hx hb hrt hlk rfl hK hP hD hS (Nat.le_of_ble_eq_true rfl) (Nat.le_of_ble_eq_true rfl) dX3_neighbour_75
  have hf := jbF hf hc4
  by_cases hc5 : a1 = 3
  · have hf := jbT hf hc5
    refine lv_tableIn (tgt := 76) hx hb dX3_neighbour_6 (by rw [hc5]; decide) (by rw [hc5]; decide) (by rw [hc5]; rfl) (by decide) ?_
    refine lv_iload_n hx hb dX3_neighbour_76 rfl (lv_at hl 1 rfl) ?_
    refine lv_bipush (v := 24) hx hb dX3_neighbour_77 (by decide) ?_
    refine lv_icmp_ge (tgt := 89) hx hb dX3_neighbour_79 (by decide) (fun hc => ?_) (fun hc => ?_)
    · have hf := jbT hf hc
      refine lv_iconst (v := (-1)) hx hb dX3_neighbour_89 (by decide) ?_
      cases hf
      subst hQ
      exact rt_i hx hb hrt hlk rfl hK hP hD hS (Nat.le_of_ble_eq_true rfl) (Nat.le_of_ble_eq_true rfl) dX3_neighbour_90
    · have hf := jbF hf hc
      refine lv_iload_n hx hb dX3_neighbour_82 rfl (lv_at hl 1 rfl) ?_
      refine lv_bipush (v := 6) hx hb dX3_neighbour_83 (by decide) ?_
      refine lv_iadd hx hb dX3_neighbour_85 ?_
      refine lv_goto (tgt := 90) hx hb dX3_neighbour_86 (by decide) ?_
      cases hf
      subst hQ
      exact rt_i hx hb hrt hlk rfl hK hP hD hS (Nat.le_of_ble_eq_true rfl) (Nat.le_of_ble_eq_true rfl) dX3_neighbour_90
  have hf := jbF hf hc5
  refine lv_tableOut (tgt := 91) hx hb dX3_neighbour_6 (by have := lv_neT hc2 (show (0 : Int32).toInt = 0 from by decide); have := lv_neT hc3 (show (1 : Int32).toInt = 1 from by decide); have := lv_neT hc4 (show (2 : Int32).toInt = 2 from by decide); have := lv_neT hc5 (show (3 : Int32).toInt = 3 from by decide); omega) (by decide) ?_
  refine lv_iconst (v := (-1)) hx hb dX3_neighbour_91 (by decide) ?_
  cases hf
  subst hQ
  exact rt_i hx hb hrt hlk rfl hK hP hD hS (Nat.le_of_ble_eq_true rfl) (Nat.le_of_ble_eq_true rfl) dX3_neighbour_92
