def rm_L_told : Room := { frames := 0, cells := 0, slots := 0, locals := 0 }
theorem hd_L_told : yL_told.cls ≠ "java/lang/invoke/MethodHandle" ∧ yL_told.cls ≠ "java/lang/invoke/VarHandle" ∧ (parseMethodDescriptor yL_told.desc).map (fun d => d.parameters.length) = some 1 := by decide +kernel
set_option maxHeartbeats 4000000 in
set_option maxRecDepth 100000 in
theorem c_L_told (l : Launch) (g : GG)  (a0 : Int32) (out : Int32) (hf : f_L_told a0 = some out) : MtI l yL_told wsL_told rm_L_told g [] [.int a0] out [] 0 0 := by
  refine fun sz => mt_of (cc := cL_told) (maxL := 1) (ret := (some .int)) (own := RL) (Qc := fun A => va_Qi (fun r (_ : Unit) => r = out) (fun _ t => PosM g A [] t) A) (by decide +kernel) rfl rfl (Nat.le_of_ble_eq_true rfl) ?_ sz
  intro p e s mi below meth c A ls hB hnm hrt hlk hP hD hl
  obtain ⟨hx, hb, hml, hown, hts, hK, hZ, hT, hA, -⟩ := hB
  have hS : va_S A s.heap s.heap [] := va_S.rf
  have hl : lv_has ls 1 [(0, .int a0)] := hl
  generalize hQ : MQ below _ _ _ _ _ _ = Q
  unfold f_L_told at hf
  refine lv_iload_n hx hb dL_told_0 rfl (lv_at hl 0 rfl) ?_
  refine lv_if_eq (tgt := 8) hx hb dL_told_1 (by decide) (fun hc => ?_) (fun hc => ?_)
  · have hf := jbT hf hc
    refine lv_iconst (v := 0) hx hb dL_told_8 (by decide) ?_
    cases hf
    subst hQ
    exact rt_i hx hb hrt hlk rfl hK hP hD hS (Nat.le_of_ble_eq_true rfl) (Nat.le_of_ble_eq_true rfl) dL_told_9
  · have hf := jbF hf hc
    refine lv_iconst (v := 1) hx hb dL_told_4 (by decide) ?_
    refine lv_goto (tgt := 9) hx hb dL_told_5 (by decide) ?_
    cases hf
    subst hQ
    exact rt_i hx hb hrt hlk rfl hK hP hD hS (Nat.le_of_ble_eq_true rfl) (Nat.le_of_ble_eq_true rfl) dL_told_9
def rm_L_far : Room := { frames := 1, cells := 0, slots := 0, locals := 25 }
theorem hd_L_far : yL_far.cls ≠ "java/lang/invoke/MethodHandle" ∧ yL_far.cls ≠ "java/lang/invoke/VarHandle" ∧ (parseMethodDescriptor yL_far.desc).map (fun d => d.parameters.length) = some 2 := by decide +kernel
set_option maxHeartbeats 4000000 in
set_option maxRecDepth 100000 in
theorem c_L_far (l : Launch) (g : GG)  (a0 : Int32) (a1 : Int32) (out : Int32) (hf : f_L_far a0 a1 = some out) : MtI l yL_far wsL_far rm_L_far g [] [.int a0, .int a1] out [] 0 0 := by
  refine fun sz => mt_of (cc := cL_far) (maxL := 2) (ret := (some .int)) (own := RL) (Qc := fun A => va_Qi (fun r (_ : Unit) => r = out) (fun _ t => PosM g A [] t) A) (by decide +kernel) rfl rfl (Nat.le_of_ble_eq_true rfl) ?_ sz
  intro p e s mi below meth c A ls hB hnm hrt hlk hP hD hl
  obtain ⟨hx, hb, hml, hown, hts, hK, hZ, hT, hA, -⟩ := hB
  have hS : va_S A s.heap s.heap [] := va_S.rf
  have hl : lv_has ls 2 [(0, .int a0), (1, .int a1)] := hl
  have k0 := hts (.methodLink RL 151 Lib.Math.abs.name) (by decide +kernel)
  have k1 := hts (.static Lib.Math.abs.name) (by decide +kernel)
  have k2 := hts (.initialized "java/lang/Math") (by decide +kernel)
  have k3 := hts (.code Lib.Math.abs.name Lib.Math.abs.code 1 (some .int)) (by decide +kernel)
  generalize hQ : MQ below _ _ _ _ _ _ = Q
  unfold f_L_far at hf
  refine lv_iload_n hx hb dL_far_0 rfl (lv_at hl 0 rfl) ?_
  refine lv_bipush (v := 6) hx hb dL_far_1 (by decide) ?_
  refine lv_idiv hx hb dL_far_3 (by decide) ?_
  refine lv_iload_n hx hb dL_far_4 rfl (lv_at hl 1 rfl) ?_
  refine lv_bipush (v := 6) hx hb dL_far_5 (by decide) ?_
  refine lv_idiv hx hb dL_far_7 (by decide) ?_
  refine lv_isub hx hb dL_far_8 ?_
  refine va_mabs hx hb (hml.trans hl.1.symm) hown k0 k1 k2 k3 (Nat.le_of_ble_eq_true rfl) (Nat.le_of_ble_eq_true rfl) (Nat.le_of_ble_eq_true rfl) (Nat.le_of_ble_eq_true rfl) dL_far_9 ?_
  refine lv_iload_n hx hb dL_far_12 rfl (lv_at hl 0 rfl) ?_
  refine lv_bipush (v := 6) hx hb dL_far_13 (by decide) ?_
  refine lv_irem hx hb dL_far_15 (by decide) ?_
  refine lv_iload_n hx hb dL_far_16 rfl (lv_at hl 1 rfl) ?_
  refine lv_bipush (v := 6) hx hb dL_far_17 (by decide) ?_
  refine lv_irem hx hb dL_far_19 (by decide) ?_
  refine lv_isub hx hb dL_far_20 ?_
  refine va_mabs hx hb (hml.trans hl.1.symm) hown k0 k1 k2 k3 (Nat.le_of_ble_eq_true rfl) (Nat.le_of_ble_eq_true rfl) (Nat.le_of_ble_eq_true rfl) (Nat.le_of_ble_eq_true rfl) dL_far_21 ?_
  refine lv_iadd hx hb dL_far_24 ?_
  cases hf
  subst hQ
  exact rt_i hx hb hrt hlk rfl hK hP hD hS (Nat.le_of_ble_eq_true rfl) (Nat.le_of_ble_eq_true rfl) dL_far_25
def rm_L_cell : Room := { frames := 0, cells := 0, slots := 0, locals := 0 }
theorem hd_L_cell : yL_cell.cls ≠ "java/lang/invoke/MethodHandle" ∧ yL_cell.cls ≠ "java/lang/invoke/VarHandle" ∧ (parseMethodDescriptor yL_cell.desc).map (fun d => d.parameters.length) = some 2 := by decide +kernel
set_option maxHeartbeats 4000000 in
set_option maxRecDepth 100000 in
theorem c_L_cell (l : Launch) (g : GG)  (a1 : Int32) (out : Int32) (hf : f_L_cell g a1 = some out) : MtI l yL_cell wsL_cell rm_L_cell g [] [.ref (gS g 5 0), .int a1] out [] 0 0 := by
  refine fun sz => mt_of (cc := cL_cell) (maxL := 3) (ret := (some .int)) (own := RL) (Qc := fun A => va_Qi (fun r (_ : Unit) => r = out) (fun _ t => PosM g A [] t) A) (by decide +kernel) rfl rfl (Nat.le_of_ble_eq_true rfl) ?_ sz
  intro p e s mi below meth c A ls hB hnm hrt hlk hP hD hl
  obtain ⟨hx, hb, hml, hown, hts, hK, hZ, hT, hA, -⟩ := hB
  have hS : va_S A s.heap s.heap [] := va_S.rf
  have hl : lv_has ls 3 [(0, .ref (gS g 5 0)), (1, .int a1)] := hl
  have k0 := hts (.constant RL 7 (69069)) (by decide +kernel)
  have k1 := hts (.constant RL 8 (1103515245)) (by decide +kernel)
  generalize hQ : MQ below _ _ _ _ _ _ = Q
  unfold f_L_cell at hf
  have hJ15 : ∀ (x1 : Int32) (y0 : Int32) (y1 : Int32) (H : Heap) (locs : List Loc) (ls : Array Slot), f_L_cell_J15 g x1 y0 y1 = some out → va_P (gD g) vwCl [] H → va_D A [] → va_S A s.heap H locs → lv_has ls 3 [(1, .int x1)] → W p l e rm_L_cell s mi [.ref (gS g 5 0), .int a1].toArray below meth c H locs (0) (0) Q (F0 mi 15 ls [.int y0, .int y1]) := by
    intro x1 y0 y1 H locs ls hf hP hD hS hl
    unfold f_L_cell_J15 at hf
    refine lv_sipush (v := 1009) hx hb dL_cell_15 (by decide) ?_
    refine lv_iload_n hx hb dL_cell_18 rfl (lv_at hl 0 rfl) ?_
    refine lv_imul hx hb dL_cell_19 ?_
    refine lv_iadd hx hb dL_cell_20 ?_
    refine lv_imul hx hb dL_cell_21 ?_
    refine lv_sipush (v := 12345) hx hb dL_cell_22 (by decide) ?_
    refine lv_iadd hx hb dL_cell_25 ?_
    refine lv_topi (fun z2 ez2 => ?_)
    have hf := jbN_e hf ez2
    refine lv_istore_n (lv' := [(2, .int z2), (1, .int x1)]) hx hb dL_cell_26 rfl hl (by decide) rfl (fun ls hl => ?_)
    refine lv_iload_n hx hb dL_cell_27 rfl (lv_at hl 0 rfl) ?_
    refine lv_iload_n hx hb dL_cell_28 rfl (lv_at hl 0 rfl) ?_
    refine lv_bipush (v := 13) hx hb dL_cell_29 (by decide) ?_
    refine lv_iushr (v := (z2.toUInt32 >>> ((13 : Int32).toUInt32 &&& Int32.toUInt32 31)).toInt32) hx hb dL_cell_31 rfl ?_
    refine lv_ixor hx hb dL_cell_32 ?_
    refine lv_ldc (v := 1103515245) hx hb hown k1 dL_cell_33 ?_
    refine lv_imul hx hb dL_cell_35 ?_
    refine lv_topi (fun z3 ez3 => ?_)
    have hf := jbN_e hf ez3
    refine lv_istore_n (lv' := [(2, .int z3), (1, .int x1)]) hx hb dL_cell_36 rfl hl (by decide) rfl (fun ls hl => ?_)
    refine lv_iload_n hx hb dL_cell_37 rfl (lv_at hl 0 rfl) ?_
    refine lv_iload_n hx hb dL_cell_38 rfl (lv_at hl 0 rfl) ?_
    refine lv_bipush (v := 16) hx hb dL_cell_39 (by decide) ?_
    refine lv_iushr (v := (z3.toUInt32 >>> ((16 : Int32).toUInt32 &&& Int32.toUInt32 31)).toInt32) hx hb dL_cell_41 rfl ?_
    refine lv_ixor hx hb dL_cell_42 ?_
    cases hf
    subst hQ
    exact rt_i hx hb hrt hlk rfl hK hP hD hS (Nat.le_of_ble_eq_true rfl) (Nat.le_of_ble_eq_true rfl) dL_cell_43
  refine lv_ldc (v := 69069) hx hb hown k0 dL_cell_0 ?_
  refine lv_iload_n hx hb dL_cell_2 rfl (lv_at hl 1 rfl) ?_
  refine lv_aload_n hx hb dL_cell_3 rfl (lv_at hl 0 rfl) ?_
  refine va_tlen (v := Int32.ofNat (gS g 5 1)) hx hb hZ.2.2.2.2.2.2.2.1.2.2 hS rfl dL_cell_4 ?_
  refine lv_icmp_ge (tgt := 14) hx hb dL_cell_5 (by decide) (fun hc => ?_) (fun hc => ?_)
  · have hf := jbT hf hc
    refine lv_iconst (v := 0) hx hb dL_cell_14 (by decide) ?_
    exact hJ15 a1 0 (69069 : Int32) _ _ _ hf hP hD hS (lv_sub hl [1] rfl)
  · have hf := jbF hf hc
    refine lv_aload_n hx hb dL_cell_8 rfl (lv_at hl 0 rfl) ?_
    refine lv_iload_n hx hb dL_cell_9 rfl (lv_at hl 1 rfl) ?_
    obtain ⟨h1, hf⟩ := jbA_e hf
    refine va_ti (v := .int (nI (gS g 6 a1.toNatClampNeg))) hx hb hZ.2.2.2.2.2.2.2.1.2.2 hS h1 rfl dL_cell_10 ?_
    refine lv_goto (tgt := 15) hx hb dL_cell_11 (by decide) ?_
    exact hJ15 a1 (nI (gS g 6 a1.toNatClampNeg)) (69069 : Int32) _ _ _ hf hP hD hS (lv_sub hl [1] rfl)
def rm_L_pick : Room := { frames := 1, cells := 0, slots := 0, locals := 22 }
theorem hd_L_pick : yL_pick.cls ≠ "java/lang/invoke/MethodHandle" ∧ yL_pick.cls ≠ "java/lang/invoke/VarHandle" ∧ (parseMethodDescriptor yL_pick.desc).map (fun d => d.parameters.length) = some 3 := by decide +kernel
set_option maxHeartbeats 4000000 in
set_option maxRecDepth 100000 in
theorem c_L_pick (l : Launch) (g : GG)  (a1 : Int32) (a2 : Int32) (out : Int32) (hf : f_L_pick g a1 a2 = some out) : MtI l yL_pick wsL_pick rm_L_pick g [] [.ref (gS g 5 0), .int a1, .int a2] out [] 0 0 := by
  refine fun sz => mt_of (cc := cL_pick) (maxL := 3) (ret := (some .int)) (own := RL) (Qc := fun A => va_Qi (fun r (_ : Unit) => r = out) (fun _ t => PosM g A [] t) A) (by decide +kernel) rfl rfl (Nat.le_of_ble_eq_true rfl) ?_ sz
  intro p e s mi below meth c A ls hB hnm hrt hlk hP hD hl
  obtain ⟨hx, hb, hml, hown, hts, hK, hZ, hT, hA, -⟩ := hB
  have hS : va_S A s.heap s.heap [] := va_S.rf
  have hl : lv_has ls 3 [(0, .ref (gS g 5 0)), (1, .int a1), (2, .int a2)] := hl
  generalize hQ : MQ below _ _ _ _ _ _ = Q
  unfold f_L_pick at hf
  refine lv_aload_n hx hb dL_pick_0 rfl (lv_at hl 0 rfl) ?_
  refine lv_iload_n hx hb dL_pick_1 rfl (lv_at hl 1 rfl) ?_
  obtain ⟨o1, g2, hf⟩ := jbB_e hf
  refine csn_i (As := [.ref (gS g 5 0), .int a1]) (rest := []) ⟨hx, hb, hml, hown, hts⟩ (c_L_cell l g a1 _ g2) (va_cwS 2 hts gL_pick_L_cell rfl rfl rfl hd_L_cell ⟨(Nat.le_of_ble_eq_true rfl), (Nat.le_of_ble_eq_true rfl)⟩) hK hZ hT hA hP hD hS hl.1 rfl rfl (Nat.le_of_ble_eq_true rfl) ⟨(Nat.le_of_ble_eq_true rfl), (Nat.le_of_ble_eq_true rfl)⟩ dL_pick_2 (fun H locs hP hD hS => ?_)
  refine lv_bipush (v := 8) hx hb dL_pick_5 (by decide) ?_
  refine lv_iushr (v := (o1.toUInt32 >>> ((8 : Int32).toUInt32 &&& Int32.toUInt32 31)).toInt32) hx hb dL_pick_7 rfl ?_
  refine lv_iload_n hx hb dL_pick_8 rfl (lv_at hl 2 rfl) ?_
  obtain ⟨h3, hf⟩ := jbA_e hf
  refine lv_irem hx hb dL_pick_9 h3 ?_
  cases hf
  subst hQ
  exact rt_i hx hb hrt hlk rfl hK hP hD hS (Nat.le_of_ble_eq_true rfl) (Nat.le_of_ble_eq_true rfl) dL_pick_10
