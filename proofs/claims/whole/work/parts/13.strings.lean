def f_J3_checkIndex_8e157_J9 (x0 : Int32) (x1 : Int32) : Option Int32 :=
  none
def f_J3_checkIndex_8e157 (a0 : Int32) (a1 : Int32) : Option Int32 :=
  if a0 < 0 then
  (f_J3_checkIndex_8e157_J9 a0 a1)
  else
  (if a0 < a1 then
  (some a0)
  else
  (f_J3_checkIndex_8e157_J9 a0 a1))
def rm_J3_checkIndex_8e157 : Room := { frames := 0, cells := 0, slots := 0, locals := 0 }
theorem hd_J3_checkIndex_8e157 : yJ3_checkIndex_8e157.cls ≠ "java/lang/invoke/MethodHandle" ∧ yJ3_checkIndex_8e157.cls ≠ "java/lang/invoke/VarHandle" ∧ (parseMethodDescriptor yJ3_checkIndex_8e157.desc).map (fun d => d.parameters.length) = some 3 := by decide +kernel
set_option maxHeartbeats 4000000 in
set_option maxRecDepth 100000 in
theorem c_J3_checkIndex_8e157_n (l : Launch) (g : GG)   (a0 : Int32) (a1 : Int32) (out : Int32) (hf : f_J3_checkIndex_8e157 a0 a1 = some out) : MtI l yJ3_checkIndex_8e157 wsJ3_checkIndex_8e157 rm_J3_checkIndex_8e157 g [] [.int a0, .int a1, .null] out [] 0 0 := by
  refine fun sz => mt_of (cc := cJ3_checkIndex_8e157) (maxL := 3) (ret := (some .int)) (own := RJ3) (Qc := fun A => va_Qi (fun r (_ : Unit) => r = out) (fun _ t => PosM g A [] t) A) (by decide +kernel) rfl rfl (Nat.le_of_ble_eq_true rfl) ?_ sz
  intro p e s mi below meth c A ls hB hnm hrt hlk hP hD hl
  obtain ⟨hx, hb, hml, hown, hts, hK, hZ, hT, hA, -⟩ := hB
  have hS : va_S A s.heap s.heap [] := va_S.rf
  have hl : lv_has ls 3 [(0, .int a0), (1, .int a1), (2, .null)] := hl
  generalize hQ : MQ below _ _ _ _ _ _ = Q
  unfold f_J3_checkIndex_8e157 at hf
  have hJ9 : ∀ (x0 : Int32) (x1 : Int32) (H : Heap) (locs : List Loc) (ls : Array Slot), f_J3_checkIndex_8e157_J9 x0 x1 = some out → va_P (gD g) vwCl [] H → va_D A [] → va_S A s.heap H locs → lv_has ls 3 [(0, .int x0), (1, .int x1), (2, .null)] → W p l e rm_J3_checkIndex_8e157 s mi [.int a0, .int a1, .null].toArray below meth c H locs 0 0 Q (F0 mi 9 ls []) := by
    intro x0 x1 H locs ls hf hP hD hS hl
    unfold f_J3_checkIndex_8e157_J9 at hf
    refine lv_aload_nN hx hb dJ3_checkIndex_8e157_9 rfl (lv_at hl 2 rfl) ?_
    refine lv_iload_n hx hb dJ3_checkIndex_8e157_10 rfl (lv_at hl 0 rfl) ?_
    refine lv_iload_n hx hb dJ3_checkIndex_8e157_11 rfl (lv_at hl 1 rfl) ?_
    cases hf
  refine lv_iload_n hx hb dJ3_checkIndex_8e157_0 rfl (lv_at hl 0 rfl) ?_
  refine lv_if_lt (tgt := 9) hx hb dJ3_checkIndex_8e157_1 (by decide) (fun hc => ?_) (fun hc => ?_)
  · have hf := jbT hf hc
    exact hJ9 a0 a1 _ _ _ hf hP hD hS (lv_sub hl [0, 1, 2] rfl)
  · have hf := jbF hf hc
    refine lv_iload_n hx hb dJ3_checkIndex_8e157_4 rfl (lv_at hl 0 rfl) ?_
    refine lv_iload_n hx hb dJ3_checkIndex_8e157_5 rfl (lv_at hl 1 rfl) ?_
    refine lv_icmp_lt (tgt := 16) hx hb dJ3_checkIndex_8e157_6 (by decide) (fun hc => ?_) (fun hc => ?_)
    · have hf := jbT hf hc
      refine lv_iload_n hx hb dJ3_checkIndex_8e157_16 rfl (lv_at hl 0 rfl) ?_
      cases hf
      subst hQ
      exact rt_i hx hb hrt hlk rfl hK hP hD hS (Nat.le_of_ble_eq_true rfl) (Nat.le_of_ble_eq_true rfl) dJ3_checkIndex_8e157_17
    · have hf := jbF hf hc
      exact hJ9 a0 a1 _ _ _ hf hP hD hS (lv_sub hl [0, 1, 2] rfl)
set_option maxHeartbeats 4000000 in
set_option maxRecDepth 100000 in
theorem c_J3_checkIndex_8e157_a (l : Launch) (g : GG)   (a0 : Int32) (a1 : Int32) (b2 : Nat) (out : Int32) (hf : f_J3_checkIndex_8e157 a0 a1 = some out) : MtI l yJ3_checkIndex_8e157 wsJ3_checkIndex_8e157 rm_J3_checkIndex_8e157 g [] [.int a0, .int a1, .ref b2] out [] 0 0 := by
  refine fun sz => mt_of (cc := cJ3_checkIndex_8e157) (maxL := 3) (ret := (some .int)) (own := RJ3) (Qc := fun A => va_Qi (fun r (_ : Unit) => r = out) (fun _ t => PosM g A [] t) A) (by decide +kernel) rfl rfl (Nat.le_of_ble_eq_true rfl) ?_ sz
  intro p e s mi below meth c A ls hB hnm hrt hlk hP hD hl
  obtain ⟨hx, hb, hml, hown, hts, hK, hZ, hT, hA, -⟩ := hB
  have hS : va_S A s.heap s.heap [] := va_S.rf
  have hl : lv_has ls 3 [(0, .int a0), (1, .int a1), (2, .ref b2)] := hl
  generalize hQ : MQ below _ _ _ _ _ _ = Q
  unfold f_J3_checkIndex_8e157 at hf
  have hJ9 : ∀ (x0 : Int32) (x1 : Int32) (H : Heap) (locs : List Loc) (ls : Array Slot), f_J3_checkIndex_8e157_J9 x0 x1 = some out → va_P (gD g) vwCl [] H → va_D A [] → va_S A s.heap H locs → lv_has ls 3 [(0, .int x0), (1, .int x1), (2, .ref b2)] → W p l e rm_J3_checkIndex_8e157 s mi [.int a0, .int a1, .ref b2].toArray below meth c H locs 0 0 Q (F0 mi 9 ls []) := by
    intro x0 x1 H locs ls hf hP hD hS hl
    unfold f_J3_checkIndex_8e157_J9 at hf
    refine lv_aload_n hx hb dJ3_checkIndex_8e157_9 rfl (lv_at hl 2 rfl) ?_
    refine lv_iload_n hx hb dJ3_checkIndex_8e157_10 rfl (lv_at hl 0 rfl) ?_
    refine lv_iload_n hx hb dJ3_checkIndex_8e157_11 rfl (lv_at hl 1 rfl) ?_
    cases hf
  refine lv_iload_n hx hb dJ3_checkIndex_8e157_0 rfl (lv_at hl 0 rfl) ?_
  refine lv_if_lt (tgt := 9) hx hb dJ3_checkIndex_8e157_1 (by decide) (fun hc => ?_) (fun hc => ?_)
  · have hf := jbT hf hc
    exact hJ9 a0 a1 _ _ _ hf hP hD hS (lv_sub hl [0, 1, 2] rfl)
  · have hf := jbF hf hc
    refine lv_iload_n hx hb dJ3_checkIndex_8e157_4 rfl (lv_at hl 0 rfl) ?_
    refine lv_iload_n hx hb dJ3_checkIndex_8e157_5 rfl (lv_at hl 1 rfl) ?_
    refine lv_icmp_lt (tgt := 16) hx hb dJ3_checkIndex_8e157_6 (by decide) (fun hc => ?_) (fun hc => ?_)
    · have hf := jbT hf hc
      refine lv_iload_n hx hb dJ3_checkIndex_8e157_16 rfl (lv_at hl 0 rfl) ?_
      cases hf
      subst hQ
      exact rt_i hx hb hrt hlk rfl hK hP hD hS (Nat.le_of_ble_eq_true rfl) (Nat.le_of_ble_eq_true rfl) dJ3_checkIndex_8e157_17
    · have hf := jbF hf hc
      exact hJ9 a0 a1 _ _ _ hf hP hD hS (lv_sub hl [0, 1, 2] rfl)
def f_J0_checkIndex_df160 (a0 : Int32) (a1 : Int32) : Option Unit :=
  (f_J3_checkIndex_8e157 a0 a1).bind fun o1 =>
  some ()
def rm_J0_checkIndex_df160 : Room := { frames := 1, cells := 0, slots := 0, locals := 22 }
theorem hd_J0_checkIndex_df160 : yJ0_checkIndex_df160.cls ≠ "java/lang/invoke/MethodHandle" ∧ yJ0_checkIndex_df160.cls ≠ "java/lang/invoke/VarHandle" ∧ (parseMethodDescriptor yJ0_checkIndex_df160.desc).map (fun d => d.parameters.length) = some 2 := by decide +kernel
set_option maxHeartbeats 4000000 in
set_option maxRecDepth 100000 in
theorem c_J0_checkIndex_df160 (l : Launch) (g : GG)   (a0 : Int32) (a1 : Int32) (out : Unit) (hf : f_J0_checkIndex_df160 a0 a1 = some out) : MtV l yJ0_checkIndex_df160 wsJ0_checkIndex_df160 rm_J0_checkIndex_df160 g [] [.int a0, .int a1]  [] 0 0 := by
  refine fun sz => mt_of (cc := cJ0_checkIndex_df160) (maxL := 2) (ret := none) (own := RJ0) (Qc := fun A => va_Qv (fun (_ : Unit) => True) (fun _ t => PosM g A [] t) A) (by decide +kernel) rfl rfl (Nat.le_of_ble_eq_true rfl) ?_ sz
  intro p e s mi below meth c A ls hB hnm hrt hlk hP hD hl
  obtain ⟨hx, hb, hml, hown, hts, hK, hZ, hT, hA, -⟩ := hB
  have hS : va_S A s.heap s.heap [] := va_S.rf
  have hl : lv_has ls 2 [(0, .int a0), (1, .int a1)] := hl
  have k0 := hts (.fieldLink RJ0 1053 "jdk/internal/util/Preconditions" "SIOOBE_FORMATTER" "Ljava/util/function/BiFunction;") (by decide +kernel)
  generalize hQ : MQ below _ _ _ _ _ _ = Q
  unfold f_J0_checkIndex_df160 at hf
  refine lv_iload_n hx hb dJ0_checkIndex_df160_0 rfl (lv_at hl 0 rfl) ?_
  refine lv_iload_n hx hb dJ0_checkIndex_df160_1 rfl (lv_at hl 1 rfl) ?_
  rcases hZ.2.2.2.2.2.2.2.2.1.2 with hz | ⟨tq, hz⟩
  · refine va_gets (C := "jdk/internal/util/Preconditions") (n := "SIOOBE_FORMATTER") (d := "Ljava/util/function/BiFunction;") (v := .null) hx hb hz hS hown k0 (fun _ h9 => h9) dJ0_checkIndex_df160_2 ?_
    obtain ⟨o1, g2, hf⟩ := jbB_e hf
    refine csa_i (As := [.int a0, .int a1, .null]) (rest := []) ⟨hx, hb, hml, hown, hts⟩ (c_J3_checkIndex_8e157_n l g a0 a1 _ g2) (va_cwS 3 hts gJ0_checkIndex_df160_J3_checkIndex_8e157 rfl rfl rfl hd_J3_checkIndex_8e157 ⟨Nat.le_of_ble_eq_true rfl, Nat.le_of_ble_eq_true rfl⟩) hK hZ hT hA hP hD hS hl.1 rfl rfl (Nat.le_of_ble_eq_true rfl) ⟨Nat.le_of_ble_eq_true rfl, Nat.le_of_ble_eq_true rfl⟩ dJ0_checkIndex_df160_5 (fun H locs hP hD hS => ?_)
    refine lv_pop hx hb dJ0_checkIndex_df160_8 rfl ?_
    cases hf
    subst hQ
    exact rt_v hx hb hrt hlk hK hP hD hS (Nat.le_of_ble_eq_true rfl) (Nat.le_of_ble_eq_true rfl) dJ0_checkIndex_df160_9
  · refine va_gets (C := "jdk/internal/util/Preconditions") (n := "SIOOBE_FORMATTER") (d := "Ljava/util/function/BiFunction;") (v := .ref tq) hx hb hz hS hown k0 (fun _ h9 => h9) dJ0_checkIndex_df160_2 ?_
    obtain ⟨o3, g4, hf⟩ := jbB_e hf
    refine csa_i (As := [.int a0, .int a1, .ref tq]) (rest := []) ⟨hx, hb, hml, hown, hts⟩ (c_J3_checkIndex_8e157_a l g a0 a1 tq _ g4) (va_cwS 3 hts gJ0_checkIndex_df160_J3_checkIndex_8e157 rfl rfl rfl hd_J3_checkIndex_8e157 ⟨Nat.le_of_ble_eq_true rfl, Nat.le_of_ble_eq_true rfl⟩) hK hZ hT hA hP hD hS hl.1 rfl rfl (Nat.le_of_ble_eq_true rfl) ⟨Nat.le_of_ble_eq_true rfl, Nat.le_of_ble_eq_true rfl⟩ dJ0_checkIndex_df160_5 (fun H locs hP hD hS => ?_)
    refine lv_pop hx hb dJ0_checkIndex_df160_8 rfl ?_
    cases hf
    subst hQ
    exact rt_v hx hb hrt hlk hK hP hD hS (Nat.le_of_ble_eq_true rfl) (Nat.le_of_ble_eq_true rfl) dJ0_checkIndex_df160_9
def f_J0_isLatin1_aae02 (i0 : Nat) : Option Int32 :=
  if (1 : Int32) = 0 then
  (some 0)
  else
  (if i0 < 28 then
  if (0 : Int32) = 0 then
  (some 1)
  else
  (some 0)
  else none)
def rm_J0_isLatin1_aae02 : Room := { frames := 0, cells := 0, slots := 0, locals := 0 }
theorem hd_J0_isLatin1_aae02 : yJ0_isLatin1_aae02.cls = RJ0 ∧ yJ0_isLatin1_aae02.cls ≠ "java/lang/invoke/MethodHandle" ∧ yJ0_isLatin1_aae02.cls ≠ "java/lang/invoke/VarHandle" ∧ (parseMethodDescriptor yJ0_isLatin1_aae02.desc).map (fun d => d.parameters.length) = some 0 := by decide +kernel
set_option maxHeartbeats 4000000 in
set_option maxRecDepth 100000 in
theorem c_J0_isLatin1_aae02 (l : Launch) (g : GG)   (i0 : Nat) (out : Int32) (hf : f_J0_isLatin1_aae02 i0 = some out) : MtI l yJ0_isLatin1_aae02 wsJ0_isLatin1_aae02 rm_J0_isLatin1_aae02 g [] [.ref (gS g 2 i0)] out [] 0 0 := by
  refine fun sz => mt_of (cc := cJ0_isLatin1_aae02) (maxL := 1) (ret := (some .boolean)) (own := RJ0) (Qc := fun A => va_Qi (fun r (_ : Unit) => r = out) (fun _ t => PosM g A [] t) A) (by decide +kernel) rfl rfl (Nat.le_of_ble_eq_true rfl) ?_ sz
  intro p e s mi below meth c A ls hB hnm hrt hlk hP hD hl
  obtain ⟨hx, hb, hml, hown, hts, hK, hZ, hT, hA, -⟩ := hB
  have hS : va_S A s.heap s.heap [] := va_S.rf
  have hl : lv_has ls 1 [(0, .ref (gS g 2 i0))] := hl
  have k0 := hts (.fieldLink RJ0 38 "java/lang/String" "COMPACT_STRINGS" "Z") (by decide +kernel)
  have k1 := hts (.fieldLink RJ0 15 "java/lang/String" "coder" "B") (by decide +kernel)
  generalize hQ : MQ below _ _ _ _ _ _ = Q
  unfold f_J0_isLatin1_aae02 at hf
  refine va_gets (C := "java/lang/String") (n := "COMPACT_STRINGS") (d := "Z") (v := .int 1) hx hb hZ.2.2.2.2.2.2.2.2.1.1 hS hown k0 (fun _ h9 => h9) dJ0_isLatin1_aae02_0 ?_
  refine lv_if_eq (tgt := 17) hx hb dJ0_isLatin1_aae02_3 (by decide) (fun hc => ?_) (fun hc => ?_)
  · have hf := jbT hf hc
    refine lv_iconst (v := 0) hx hb dJ0_isLatin1_aae02_17 (by decide) ?_
    cases hf
    subst hQ
    exact rt_i hx hb hrt hlk nar_0 hK hP hD hS (Nat.le_of_ble_eq_true rfl) (Nat.le_of_ble_eq_true rfl) dJ0_isLatin1_aae02_18
  · have hf := jbF hf hc
    refine lv_aload_n hx hb dJ0_isLatin1_aae02_6 rfl (lv_at hl 0 rfl) ?_
    obtain ⟨h1, hf⟩ := jbA_e hf
    refine vk_getf hx hb (hZ.2.2.2.1.1 i0 h1).2.1 hS hown k1 (fun _ h9 => h9) dJ0_isLatin1_aae02_7 ?_
    refine lv_if_ne (tgt := 17) hx hb dJ0_isLatin1_aae02_10 (by decide) (fun hc => ?_) (fun hc => ?_)
    · have hf := jbF hf hc
      refine lv_iconst (v := 0) hx hb dJ0_isLatin1_aae02_17 (by decide) ?_
      cases hf
      subst hQ
      exact rt_i hx hb hrt hlk nar_0 hK hP hD hS (Nat.le_of_ble_eq_true rfl) (Nat.le_of_ble_eq_true rfl) dJ0_isLatin1_aae02_18
    · have hf := jbT hf hc
      refine lv_iconst (v := 1) hx hb dJ0_isLatin1_aae02_13 (by decide) ?_
      refine lv_goto (tgt := 18) hx hb dJ0_isLatin1_aae02_14 (by decide) ?_
      cases hf
      subst hQ
      exact rt_i hx hb hrt hlk nar_1 hK hP hD hS (Nat.le_of_ble_eq_true rfl) (Nat.le_of_ble_eq_true rfl) dJ0_isLatin1_aae02_18
def f_J0_coder_7d493 (i0 : Nat) : Option Int32 :=
  if (1 : Int32) = 0 then
  (some 1)
  else
  (if i0 < 28 then
  some 0
  else none)
def rm_J0_coder_7d493 : Room := { frames := 0, cells := 0, slots := 0, locals := 0 }
theorem hd_J0_coder_7d493 : yJ0_coder_7d493.cls = RJ0 ∧ yJ0_coder_7d493.cls ≠ "java/lang/invoke/MethodHandle" ∧ yJ0_coder_7d493.cls ≠ "java/lang/invoke/VarHandle" ∧ (parseMethodDescriptor yJ0_coder_7d493.desc).map (fun d => d.parameters.length) = some 0 := by decide +kernel
set_option maxHeartbeats 4000000 in
set_option maxRecDepth 100000 in
theorem c_J0_coder_7d493 (l : Launch) (g : GG)   (i0 : Nat) (out : Int32) (hf : f_J0_coder_7d493 i0 = some out) : MtI l yJ0_coder_7d493 wsJ0_coder_7d493 rm_J0_coder_7d493 g [] [.ref (gS g 2 i0)] out [] 0 0 := by
  refine fun sz => mt_of (cc := cJ0_coder_7d493) (maxL := 1) (ret := (some .byte)) (own := RJ0) (Qc := fun A => va_Qi (fun r (_ : Unit) => r = out) (fun _ t => PosM g A [] t) A) (by decide +kernel) rfl rfl (Nat.le_of_ble_eq_true rfl) ?_ sz
  intro p e s mi below meth c A ls hB hnm hrt hlk hP hD hl
  obtain ⟨hx, hb, hml, hown, hts, hK, hZ, hT, hA, -⟩ := hB
  have hS : va_S A s.heap s.heap [] := va_S.rf
  have hl : lv_has ls 1 [(0, .ref (gS g 2 i0))] := hl
  have k0 := hts (.fieldLink RJ0 38 "java/lang/String" "COMPACT_STRINGS" "Z") (by decide +kernel)
  have k1 := hts (.fieldLink RJ0 15 "java/lang/String" "coder" "B") (by decide +kernel)
  generalize hQ : MQ below _ _ _ _ _ _ = Q
  unfold f_J0_coder_7d493 at hf
  refine va_gets (C := "java/lang/String") (n := "COMPACT_STRINGS") (d := "Z") (v := .int 1) hx hb hZ.2.2.2.2.2.2.2.2.1.1 hS hown k0 (fun _ h9 => h9) dJ0_coder_7d493_0 ?_
  refine lv_if_eq (tgt := 13) hx hb dJ0_coder_7d493_3 (by decide) (fun hc => ?_) (fun hc => ?_)
  · have hf := jbT hf hc
    refine lv_iconst (v := 1) hx hb dJ0_coder_7d493_13 (by decide) ?_
    cases hf
    subst hQ
    exact rt_i hx hb hrt hlk (by decide +kernel) hK hP hD hS (Nat.le_of_ble_eq_true rfl) (Nat.le_of_ble_eq_true rfl) dJ0_coder_7d493_14
  · have hf := jbF hf hc
    refine lv_aload_n hx hb dJ0_coder_7d493_6 rfl (lv_at hl 0 rfl) ?_
    obtain ⟨h1, hf⟩ := jbA_e hf
    refine vk_getf hx hb (hZ.2.2.2.1.1 i0 h1).2.1 hS hown k1 (fun _ h9 => h9) dJ0_coder_7d493_7 ?_
    refine lv_goto (tgt := 14) hx hb dJ0_coder_7d493_10 (by decide) ?_
    cases hf
    subst hQ
    exact rt_i hx hb hrt hlk (by decide +kernel) hK hP hD hS (Nat.le_of_ble_eq_true rfl) (Nat.le_of_ble_eq_true rfl) dJ0_coder_7d493_14
def f_J0_length_8abf5 (i0 : Nat) : Option Int32 :=
  if i0 < 28 then
  if i0 < 28 then
  if i0 < 28 then
  (f_J0_coder_7d493 i0).bind fun o3 =>
  some ((Int32.ofNat (stLen.getD i0 0)) >>> (o3 &&& 31))
  else none
  else none
  else none
def rm_J0_length_8abf5 : Room := { frames := 1, cells := 0, slots := 0, locals := 20 }
theorem hd_J0_length_8abf5 : yJ0_length_8abf5.cls = RJ0 ∧ yJ0_length_8abf5.cls ≠ "java/lang/invoke/MethodHandle" ∧ yJ0_length_8abf5.cls ≠ "java/lang/invoke/VarHandle" ∧ (parseMethodDescriptor yJ0_length_8abf5.desc).map (fun d => d.parameters.length) = some 0 := by decide +kernel
set_option maxHeartbeats 4000000 in
set_option maxRecDepth 100000 in
theorem c_J0_length_8abf5 (l : Launch) (g : GG)   (i0 : Nat) (out : Int32) (hf : f_J0_length_8abf5 i0 = some out) : MtI l yJ0_length_8abf5 wsJ0_length_8abf5 rm_J0_length_8abf5 g [] [.ref (gS g 2 i0)] out [] 0 0 := by
  refine fun sz => mt_of (cc := cJ0_length_8abf5) (maxL := 1) (ret := (some .int)) (own := RJ0) (Qc := fun A => va_Qi (fun r (_ : Unit) => r = out) (fun _ t => PosM g A [] t) A) (by decide +kernel) rfl rfl (Nat.le_of_ble_eq_true rfl) ?_ sz
  intro p e s mi below meth c A ls hB hnm hrt hlk hP hD hl
  obtain ⟨hx, hb, hml, hown, hts, hK, hZ, hT, hA, -⟩ := hB
  have hS : va_S A s.heap s.heap [] := va_S.rf
  have hl : lv_has ls 1 [(0, .ref (gS g 2 i0))] := hl
  have k0 := hts (.fieldLink RJ0 9 "java/lang/String" "value" "[B") (by decide +kernel)
  generalize hQ : MQ below _ _ _ _ _ _ = Q
  unfold f_J0_length_8abf5 at hf
  refine lv_aload_n hx hb dJ0_length_8abf5_0 rfl (lv_at hl 0 rfl) ?_
  obtain ⟨h1, hf⟩ := jbA_e hf
  refine vk_getf hx hb (hZ.2.2.2.1.1 i0 h1).2.2.1 hS hown k0 (fun _ h9 => h9) dJ0_length_8abf5_1 ?_
  obtain ⟨h2, hf⟩ := jbA_e hf
  refine va_tlen (v := (Int32.ofNat (stLen.getD i0 0))) hx hb (hZ.2.2.2.1.1 i0 h2).2.2.2 hS rfl dJ0_length_8abf5_4 ?_
  refine lv_aload_n hx hb dJ0_length_8abf5_5 rfl (lv_at hl 0 rfl) ?_
  obtain ⟨h5, hf⟩ := jbA_e hf
  obtain ⟨o3, g4, hf⟩ := jbB_e hf
  refine cva_i (As := []) (rest := [.int (Int32.ofNat (stLen.getD i0 0))]) ⟨hx, hb, hml, hown, hts⟩ (c_J0_coder_7d493 l g i0 _ g4) (cwV 0 hts gJ0_length_8abf5_J0_coder_7d493 rfl rfl rfl hd_J0_coder_7d493 ⟨Nat.le_of_ble_eq_true rfl, Nat.le_of_ble_eq_true rfl⟩) hK hZ hT hA hP hD hS hl.1 (vk_recv hZ.2.2.2.1 h5 hS) rfl rfl (Nat.le_of_ble_eq_true rfl) ⟨Nat.le_of_ble_eq_true rfl, Nat.le_of_ble_eq_true rfl⟩ dJ0_length_8abf5_6 (fun H locs hP hD hS => ?_)
  refine lv_ishr hx hb dJ0_length_8abf5_9 ?_
  cases hf
  subst hQ
  exact rt_i hx hb hrt hlk rfl hK hP hD hS (Nat.le_of_ble_eq_true rfl) (Nat.le_of_ble_eq_true rfl) dJ0_length_8abf5_10
def f_J1_charAt_3b067 (a0 : Nat) (a1 : Int32) : Option Int32 :=
  if a0 < 28 then
  (f_J0_checkIndex_df160 a1 (Int32.ofNat (stLen.getD a0 0))).bind fun o2 =>
  if a0 < 28 then
  if jIn a1 (stLen.getD a0 0) then
  if vp_nar .char (((((stByt.getD a0 []).getD a1.toNatClampNeg 0) &&& 255).toUInt32 % 65536).toInt32) = (((((stByt.getD a0 []).getD a1.toNatClampNeg 0) &&& 255).toUInt32 % 65536).toInt32) then some (((((stByt.getD a0 []).getD a1.toNatClampNeg 0) &&& 255).toUInt32 % 65536).toInt32) else none
  else none
  else none
  else none
def rm_J1_charAt_3b067 : Room := { frames := 2, cells := 0, slots := 0, locals := 43 }
theorem hd_J1_charAt_3b067 : yJ1_charAt_3b067.cls ≠ "java/lang/invoke/MethodHandle" ∧ yJ1_charAt_3b067.cls ≠ "java/lang/invoke/VarHandle" ∧ (parseMethodDescriptor yJ1_charAt_3b067.desc).map (fun d => d.parameters.length) = some 2 := by decide +kernel
set_option maxHeartbeats 4000000 in
set_option maxRecDepth 100000 in
theorem c_J1_charAt_3b067 (l : Launch) (g : GG)   (a0 : Nat) (a1 : Int32) (out : Int32) (hf : f_J1_charAt_3b067 a0 a1 = some out) : MtI l yJ1_charAt_3b067 wsJ1_charAt_3b067 rm_J1_charAt_3b067 g [] [.ref (gS g 3 a0), .int a1] out [] 0 0 := by
  refine fun sz => mt_of (cc := cJ1_charAt_3b067) (maxL := 2) (ret := (some .char)) (own := RJ1) (Qc := fun A => va_Qi (fun r (_ : Unit) => r = out) (fun _ t => PosM g A [] t) A) (by decide +kernel) rfl rfl (Nat.le_of_ble_eq_true rfl) ?_ sz
  intro p e s mi below meth c A ls hB hnm hrt hlk hP hD hl
  obtain ⟨hx, hb, hml, hown, hts, hK, hZ, hT, hA, -⟩ := hB
  have hS : va_S A s.heap s.heap [] := va_S.rf
  have hl : lv_has ls 2 [(0, .ref (gS g 3 a0)), (1, .int a1)] := hl
  generalize hQ : MQ below _ _ _ _ _ _ = Q
  unfold f_J1_charAt_3b067 at hf
  refine lv_iload_n hx hb dJ1_charAt_3b067_0 rfl (lv_at hl 1 rfl) ?_
  refine lv_aload_n hx hb dJ1_charAt_3b067_1 rfl (lv_at hl 0 rfl) ?_
  obtain ⟨h1, hf⟩ := jbA_e hf
  refine va_tlen (v := (Int32.ofNat (stLen.getD a0 0))) hx hb (hZ.2.2.2.1.1 a0 h1).2.2.2 hS rfl dJ1_charAt_3b067_2 ?_
  obtain ⟨o2, g3, hf⟩ := jbB_e hf
  refine csa_v (As := [.int a1, .int (Int32.ofNat (stLen.getD a0 0))]) (rest := []) ⟨hx, hb, hml, hown, hts⟩ (c_J0_checkIndex_df160 l g a1 (Int32.ofNat (stLen.getD a0 0)) _ g3) (va_cwS 2 hts gJ1_charAt_3b067_J0_checkIndex_df160 rfl rfl rfl hd_J0_checkIndex_df160 ⟨Nat.le_of_ble_eq_true rfl, Nat.le_of_ble_eq_true rfl⟩) hK hZ hT hA hP hD hS hl.1 rfl rfl (Nat.le_of_ble_eq_true rfl) ⟨Nat.le_of_ble_eq_true rfl, Nat.le_of_ble_eq_true rfl⟩ dJ1_charAt_3b067_3 (fun H locs hP hD hS => ?_)
  refine lv_aload_n hx hb dJ1_charAt_3b067_6 rfl (lv_at hl 0 rfl) ?_
  refine lv_iload_n hx hb dJ1_charAt_3b067_7 rfl (lv_at hl 1 rfl) ?_
  obtain ⟨h4, hf⟩ := jbA_e hf
  obtain ⟨h5, hf⟩ := jbA_e hf
  refine va_tb (v := .int ((stByt.getD a0 []).getD a1.toNatClampNeg 0)) hx hb (hZ.2.2.2.1.1 a0 h4).2.2.2 hS h5 rfl dJ1_charAt_3b067_8 ?_
  refine lv_sipush (v := 255) hx hb dJ1_charAt_3b067_9 (by decide) ?_
  refine lv_iand hx hb dJ1_charAt_3b067_12 ?_
  refine lv_i2c (v := ((((stByt.getD a0 []).getD a1.toNatClampNeg 0) &&& 255).toUInt32 % 65536).toInt32) hx hb dJ1_charAt_3b067_13 rfl ?_
  obtain ⟨h6, hf⟩ := jbA_e hf
  cases hf
  subst hQ
  exact rt_i hx hb hrt hlk (nar_c h6) hK hP hD hS (Nat.le_of_ble_eq_true rfl) (Nat.le_of_ble_eq_true rfl) dJ1_charAt_3b067_14
def f_J0_charAt_5068e (i0 : Nat) (a0 : Int32) : Option Int32 :=
  if i0 < 28 then
  (f_J0_isLatin1_aae02 i0).bind fun o1 =>
  if o1 = 0 then
  (if i0 < 28 then
  none
  else none)
  else
  (if i0 < 28 then
  (f_J1_charAt_3b067 i0 a0).bind fun o6 =>
  if vp_nar .char o6 = o6 then some o6 else none
  else none)
  else none
def rm_J0_charAt_5068e : Room := { frames := 3, cells := 0, slots := 0, locals := 64 }
theorem hd_J0_charAt_5068e : yJ0_charAt_5068e.cls = RJ0 ∧ yJ0_charAt_5068e.cls ≠ "java/lang/invoke/MethodHandle" ∧ yJ0_charAt_5068e.cls ≠ "java/lang/invoke/VarHandle" ∧ (parseMethodDescriptor yJ0_charAt_5068e.desc).map (fun d => d.parameters.length) = some 1 := by decide +kernel
set_option maxHeartbeats 4000000 in
set_option maxRecDepth 100000 in
theorem c_J0_charAt_5068e (l : Launch) (g : GG)   (i0 : Nat) (a0 : Int32) (out : Int32) (hf : f_J0_charAt_5068e i0 a0 = some out) : MtI l yJ0_charAt_5068e wsJ0_charAt_5068e rm_J0_charAt_5068e g [] [.ref (gS g 2 i0), .int a0] out [] 0 0 := by
  refine fun sz => mt_of (cc := cJ0_charAt_5068e) (maxL := 2) (ret := (some .char)) (own := RJ0) (Qc := fun A => va_Qi (fun r (_ : Unit) => r = out) (fun _ t => PosM g A [] t) A) (by decide +kernel) rfl rfl (Nat.le_of_ble_eq_true rfl) ?_ sz
  intro p e s mi below meth c A ls hB hnm hrt hlk hP hD hl
  obtain ⟨hx, hb, hml, hown, hts, hK, hZ, hT, hA, -⟩ := hB
  have hS : va_S A s.heap s.heap [] := va_S.rf
  have hl : lv_has ls 2 [(0, .ref (gS g 2 i0)), (1, .int a0)] := hl
  have k0 := hts (.fieldLink RJ0 9 "java/lang/String" "value" "[B") (by decide +kernel)
  generalize hQ : MQ below _ _ _ _ _ _ = Q
  unfold f_J0_charAt_5068e at hf
  refine lv_aload_n hx hb dJ0_charAt_5068e_0 rfl (lv_at hl 0 rfl) ?_
  obtain ⟨h3, hf⟩ := jbA_e hf
  obtain ⟨o1, g2, hf⟩ := jbB_e hf
  refine cva_i (As := []) (rest := []) ⟨hx, hb, hml, hown, hts⟩ (c_J0_isLatin1_aae02 l g i0 _ g2) (cwV 0 hts gJ0_charAt_5068e_J0_isLatin1_aae02 rfl rfl rfl hd_J0_isLatin1_aae02 ⟨Nat.le_of_ble_eq_true rfl, Nat.le_of_ble_eq_true rfl⟩) hK hZ hT hA hP hD hS hl.1 (vk_recv hZ.2.2.2.1 h3 hS) rfl rfl (Nat.le_of_ble_eq_true rfl) ⟨Nat.le_of_ble_eq_true rfl, Nat.le_of_ble_eq_true rfl⟩ dJ0_charAt_5068e_1 (fun H locs hP hD hS => ?_)
  refine lv_if_eq (tgt := 16) hx hb dJ0_charAt_5068e_4 (by decide) (fun hc => ?_) (fun hc => ?_)
  · have hf := jbT hf hc
    refine lv_aload_n hx hb dJ0_charAt_5068e_16 rfl (lv_at hl 0 rfl) ?_
    obtain ⟨h4, hf⟩ := jbA_e hf
    refine vk_getf hx hb (hZ.2.2.2.1.1 i0 h4).2.2.1 hS hown k0 (fun _ h9 => h9) dJ0_charAt_5068e_17 ?_
    refine lv_iload_n hx hb dJ0_charAt_5068e_20 rfl (lv_at hl 1 rfl) ?_
    cases hf
  · have hf := jbF hf hc
    refine lv_aload_n hx hb dJ0_charAt_5068e_7 rfl (lv_at hl 0 rfl) ?_
    obtain ⟨h5, hf⟩ := jbA_e hf
    refine vk_getf hx hb (hZ.2.2.2.1.1 i0 h5).2.2.1 hS hown k0 (fun _ h9 => h9) dJ0_charAt_5068e_8 ?_
    refine lv_iload_n hx hb dJ0_charAt_5068e_11 rfl (lv_at hl 1 rfl) ?_
    obtain ⟨o6, g7, hf⟩ := jbB_e hf
    refine csa_i (As := [.ref (gS g 3 i0), .int a0]) (rest := []) ⟨hx, hb, hml, hown, hts⟩ (c_J1_charAt_3b067 l g i0 a0 _ g7) (va_cwS 2 hts gJ0_charAt_5068e_J1_charAt_3b067 rfl rfl rfl hd_J1_charAt_3b067 ⟨Nat.le_of_ble_eq_true rfl, Nat.le_of_ble_eq_true rfl⟩) hK hZ hT hA hP hD hS hl.1 rfl rfl (Nat.le_of_ble_eq_true rfl) ⟨Nat.le_of_ble_eq_true rfl, Nat.le_of_ble_eq_true rfl⟩ dJ0_charAt_5068e_12 (fun H locs hP hD hS => ?_)
    obtain ⟨h8, hf⟩ := jbA_e hf
    cases hf
    subst hQ
    exact rt_i hx hb hrt hlk (nar_c h8) hK hP hD hS (Nat.le_of_ble_eq_true rfl) (Nat.le_of_ble_eq_true rfl) dJ0_charAt_5068e_15
def f_J15_checkIndex_7cf53 (a0 : Int32) (a1 : Int32) : Option Int32 :=
  (f_J3_checkIndex_8e157 a0 a1).bind fun o1 =>
  some o1
def rm_J15_checkIndex_7cf53 : Room := { frames := 1, cells := 0, slots := 0, locals := 22 }
theorem hd_J15_checkIndex_7cf53 : yJ15_checkIndex_7cf53.cls ≠ "java/lang/invoke/MethodHandle" ∧ yJ15_checkIndex_7cf53.cls ≠ "java/lang/invoke/VarHandle" ∧ (parseMethodDescriptor yJ15_checkIndex_7cf53.desc).map (fun d => d.parameters.length) = some 2 := by decide +kernel
set_option maxHeartbeats 4000000 in
set_option maxRecDepth 100000 in
theorem c_J15_checkIndex_7cf53 (l : Launch) (g : GG)   (a0 : Int32) (a1 : Int32) (out : Int32) (hf : f_J15_checkIndex_7cf53 a0 a1 = some out) : MtI l yJ15_checkIndex_7cf53 wsJ15_checkIndex_7cf53 rm_J15_checkIndex_7cf53 g [] [.int a0, .int a1] out [] 0 0 := by
  refine fun sz => mt_of (cc := cJ15_checkIndex_7cf53) (maxL := 2) (ret := (some .int)) (own := RJ15) (Qc := fun A => va_Qi (fun r (_ : Unit) => r = out) (fun _ t => PosM g A [] t) A) (by decide +kernel) rfl rfl (Nat.le_of_ble_eq_true rfl) ?_ sz
  intro p e s mi below meth c A ls hB hnm hrt hlk hP hD hl
  obtain ⟨hx, hb, hml, hown, hts, hK, hZ, hT, hA, -⟩ := hB
  have hS : va_S A s.heap s.heap [] := va_S.rf
  have hl : lv_has ls 2 [(0, .int a0), (1, .int a1)] := hl
  generalize hQ : MQ below _ _ _ _ _ _ = Q
  unfold f_J15_checkIndex_7cf53 at hf
  refine lv_iload_n hx hb dJ15_checkIndex_7cf53_0 rfl (lv_at hl 0 rfl) ?_
  refine lv_iload_n hx hb dJ15_checkIndex_7cf53_1 rfl (lv_at hl 1 rfl) ?_
  refine lv_null hx hb dJ15_checkIndex_7cf53_2 ?_
  obtain ⟨o1, g2, hf⟩ := jbB_e hf
  refine csa_i (As := [.int a0, .int a1, .null]) (rest := []) ⟨hx, hb, hml, hown, hts⟩ (c_J3_checkIndex_8e157_n l g a0 a1 _ g2) (va_cwS 3 hts gJ15_checkIndex_7cf53_J3_checkIndex_8e157 rfl rfl rfl hd_J3_checkIndex_8e157 ⟨Nat.le_of_ble_eq_true rfl, Nat.le_of_ble_eq_true rfl⟩) hK hZ hT hA hP hD hS hl.1 rfl rfl (Nat.le_of_ble_eq_true rfl) ⟨Nat.le_of_ble_eq_true rfl, Nat.le_of_ble_eq_true rfl⟩ dJ15_checkIndex_7cf53_3 (fun H locs hP hD hS => ?_)
  cases hf
  subst hQ
  exact rt_i hx hb hrt hlk rfl hK hP hD hS (Nat.le_of_ble_eq_true rfl) (Nat.le_of_ble_eq_true rfl) dJ15_checkIndex_7cf53_6
def f_X9_total  : Option Int32 :=
  some 8
def rm_X9_total : Room := { frames := 0, cells := 0, slots := 0, locals := 0 }
theorem hd_X9_total : yX9_total.cls ≠ "java/lang/invoke/MethodHandle" ∧ yX9_total.cls ≠ "java/lang/invoke/VarHandle" ∧ (parseMethodDescriptor yX9_total.desc).map (fun d => d.parameters.length) = some 0 := by decide +kernel
set_option maxHeartbeats 4000000 in
set_option maxRecDepth 100000 in
theorem c_X9_total (l : Launch) (g : GG)    (out : Int32) (hf : f_X9_total = some out) : MtI l yX9_total wsX9_total rm_X9_total g [] [] out [] 0 0 := by
  refine fun sz => mt_of (cc := cX9_total) (maxL := 0) (ret := (some .int)) (own := RX9) (Qc := fun A => va_Qi (fun r (_ : Unit) => r = out) (fun _ t => PosM g A [] t) A) (by decide +kernel) rfl rfl (Nat.le_of_ble_eq_true rfl) ?_ sz
  intro p e s mi below meth c A ls hB hnm hrt hlk hP hD hl
  obtain ⟨hx, hb, hml, hown, hts, hK, hZ, hT, hA, -⟩ := hB
  have hS : va_S A s.heap s.heap [] := va_S.rf
  have hl : lv_has ls 0 [] := hl
  have k0 := hts (.fieldLink RX9 51 "TerraceQuarry$Verb" "ALL" "[LTerraceQuarry$Verb;") (by decide +kernel)
  generalize hQ : MQ below _ _ _ _ _ _ = Q
  unfold f_X9_total at hf
  refine va_gets (C := "TerraceQuarry$Verb") (n := "ALL") (d := "[LTerraceQuarry$Verb;") (v := .ref (gS g 4 0)) hx hb hZ.2.2.2.2.1.1 hS hown k0 (fun _ h9 => h9) dX9_total_0 ?_
  refine va_tlen (v := 8) hx hb hZ.2.2.2.2.1.2 hS rfl dX9_total_3 ?_
  cases hf
  subst hQ
  exact rt_i hx hb hrt hlk rfl hK hP hD hS (Nat.le_of_ble_eq_true rfl) (Nat.le_of_ble_eq_true rfl) dX9_total_4
def f_X9_at (a0 : Int32) : Option Nat :=
  if jIn a0 8 then
  some a0.toNatClampNeg
  else none
def rm_X9_at : Room := { frames := 0, cells := 0, slots := 0, locals := 0 }
theorem hd_X9_at : yX9_at.cls ≠ "java/lang/invoke/MethodHandle" ∧ yX9_at.cls ≠ "java/lang/invoke/VarHandle" ∧ (parseMethodDescriptor yX9_at.desc).map (fun d => d.parameters.length) = some 1 := by decide +kernel
set_option maxHeartbeats 4000000 in
set_option maxRecDepth 100000 in
theorem c_X9_at (l : Launch) (g : GG)   (a0 : Int32) (out : Nat) (hf : f_X9_at a0 = some out) : MtR l yX9_at wsX9_at rm_X9_at g [] [.int a0] (some (gS g 1 out)) [] 0 0 := by
  refine fun sz => mt_of (cc := cX9_at) (maxL := 1) (ret := (some (.object "TerraceQuarry$Verb"))) (own := RX9) (Qc := fun A => va_Qq (fun r (_ : Unit) => r = (some (gS g 1 out))) (fun _ t => PosM g A [] t) A) (by decide +kernel) rfl rfl (Nat.le_of_ble_eq_true rfl) ?_ sz
  intro p e s mi below meth c A ls hB hnm hrt hlk hP hD hl
  obtain ⟨hx, hb, hml, hown, hts, hK, hZ, hT, hA, -⟩ := hB
  have hS : va_S A s.heap s.heap [] := va_S.rf
  have hl : lv_has ls 1 [(0, .int a0)] := hl
  have k0 := hts (.fieldLink RX9 51 "TerraceQuarry$Verb" "ALL" "[LTerraceQuarry$Verb;") (by decide +kernel)
  generalize hQ : MQ below _ _ _ _ _ _ = Q
  unfold f_X9_at at hf
  refine va_gets (C := "TerraceQuarry$Verb") (n := "ALL") (d := "[LTerraceQuarry$Verb;") (v := .ref (gS g 4 0)) hx hb hZ.2.2.2.2.1.1 hS hown k0 (fun _ h9 => h9) dX9_at_0 ?_
  refine lv_iload_n hx hb dX9_at_3 rfl (lv_at hl 0 rfl) ?_
  obtain ⟨h1, hf⟩ := jbA_e hf
  refine vb_tq (v := .ref (gS g 1 a0.toNatClampNeg)) hx hb hZ.2.2.2.2.1.2 hS h1 rfl dX9_at_4 ?_
  cases hf
  subst hQ
  exact rt_r (rv := some _) hx hb hrt (Or.inl ⟨_, rfl⟩) hlk hK hP hD hS (Nat.le_of_ble_eq_true rfl) (Nat.le_of_ble_eq_true rfl) dX9_at_5
def f_X9_length (i0 : Nat) : Option Int32 :=
  if i0 < 8 then
  if i0 < 28 then
  (f_J0_length_8abf5 i0).bind fun o2 =>
  some o2
  else none
  else none
def rm_X9_length : Room := { frames := 2, cells := 0, slots := 0, locals := 40 }
theorem hd_X9_length : yX9_length.cls = RX9 ∧ yX9_length.cls ≠ "java/lang/invoke/MethodHandle" ∧ yX9_length.cls ≠ "java/lang/invoke/VarHandle" ∧ (parseMethodDescriptor yX9_length.desc).map (fun d => d.parameters.length) = some 0 := by decide +kernel
set_option maxHeartbeats 4000000 in
set_option maxRecDepth 100000 in
theorem c_X9_length (l : Launch) (g : GG)   (i0 : Nat) (out : Int32) (hf : f_X9_length i0 = some out) : MtI l yX9_length wsX9_length rm_X9_length g [] [.ref (gS g 1 i0)] out [] 0 0 := by
  refine fun sz => mt_of (cc := cX9_length) (maxL := 1) (ret := (some .int)) (own := RX9) (Qc := fun A => va_Qi (fun r (_ : Unit) => r = out) (fun _ t => PosM g A [] t) A) (by decide +kernel) rfl rfl (Nat.le_of_ble_eq_true rfl) ?_ sz
  intro p e s mi below meth c A ls hB hnm hrt hlk hP hD hl
  obtain ⟨hx, hb, hml, hown, hts, hK, hZ, hT, hA, -⟩ := hB
  have hS : va_S A s.heap s.heap [] := va_S.rf
  have hl : lv_has ls 1 [(0, .ref (gS g 1 i0))] := hl
  have k0 := hts (.fieldLink RX9 47 "TerraceQuarry$Verb" "form" "Ljava/lang/String;") (by decide +kernel)
  generalize hQ : MQ below _ _ _ _ _ _ = Q
  unfold f_X9_length at hf
  refine lv_aload_n hx hb dX9_length_0 rfl (lv_at hl 0 rfl) ?_
  obtain ⟨h1, hf⟩ := jbA_e hf
  refine va_getX hx hb hZ.2.2.1 h1 hS hown k0 (fun _ h9 => h9) dX9_length_1 ?_
  obtain ⟨h4, hf⟩ := jbA_e hf
  obtain ⟨o2, g3, hf⟩ := jbB_e hf
  refine cva_i (As := []) (rest := []) ⟨hx, hb, hml, hown, hts⟩ (c_J0_length_8abf5 l g i0 _ g3) (cwV 0 hts gX9_length_J0_length_8abf5 rfl rfl rfl hd_J0_length_8abf5 ⟨Nat.le_of_ble_eq_true rfl, Nat.le_of_ble_eq_true rfl⟩) hK hZ hT hA hP hD hS hl.1 (vk_recv hZ.2.2.2.1 h4 hS) rfl rfl (Nat.le_of_ble_eq_true rfl) ⟨Nat.le_of_ble_eq_true rfl, Nat.le_of_ble_eq_true rfl⟩ dX9_length_4 (fun H locs hP hD hS => ?_)
  cases hf
  subst hQ
  exact rt_i hx hb hrt hlk rfl hK hP hD hS (Nat.le_of_ble_eq_true rfl) (Nat.le_of_ble_eq_true rfl) dX9_length_7
def f_X9_takesDigitAt (i0 : Nat) (a0 : Int32) : Option Int32 :=
  if i0 < 8 then
  if i0 < 28 then
  (f_J0_charAt_5068e i0 a0).bind fun o2 =>
  if o2 = 35 then
  (some 1)
  else
  (some 0)
  else none
  else none
def rm_X9_takesDigitAt : Room := { frames := 4, cells := 0, slots := 0, locals := 85 }
theorem hd_X9_takesDigitAt : yX9_takesDigitAt.cls = RX9 ∧ yX9_takesDigitAt.cls ≠ "java/lang/invoke/MethodHandle" ∧ yX9_takesDigitAt.cls ≠ "java/lang/invoke/VarHandle" ∧ (parseMethodDescriptor yX9_takesDigitAt.desc).map (fun d => d.parameters.length) = some 1 := by decide +kernel
set_option maxHeartbeats 4000000 in
set_option maxRecDepth 100000 in
theorem c_X9_takesDigitAt (l : Launch) (g : GG)   (i0 : Nat) (a0 : Int32) (out : Int32) (hf : f_X9_takesDigitAt i0 a0 = some out) : MtI l yX9_takesDigitAt wsX9_takesDigitAt rm_X9_takesDigitAt g [] [.ref (gS g 1 i0), .int a0] out [] 0 0 := by
  refine fun sz => mt_of (cc := cX9_takesDigitAt) (maxL := 2) (ret := (some .boolean)) (own := RX9) (Qc := fun A => va_Qi (fun r (_ : Unit) => r = out) (fun _ t => PosM g A [] t) A) (by decide +kernel) rfl rfl (Nat.le_of_ble_eq_true rfl) ?_ sz
  intro p e s mi below meth c A ls hB hnm hrt hlk hP hD hl
  obtain ⟨hx, hb, hml, hown, hts, hK, hZ, hT, hA, -⟩ := hB
  have hS : va_S A s.heap s.heap [] := va_S.rf
  have hl : lv_has ls 2 [(0, .ref (gS g 1 i0)), (1, .int a0)] := hl
  have k0 := hts (.fieldLink RX9 47 "TerraceQuarry$Verb" "form" "Ljava/lang/String;") (by decide +kernel)
  generalize hQ : MQ below _ _ _ _ _ _ = Q
  unfold f_X9_takesDigitAt at hf
  refine lv_aload_n hx hb dX9_takesDigitAt_0 rfl (lv_at hl 0 rfl) ?_
  obtain ⟨h1, hf⟩ := jbA_e hf
  refine va_getX hx hb hZ.2.2.1 h1 hS hown k0 (fun _ h9 => h9) dX9_takesDigitAt_1 ?_
  refine lv_iload_n hx hb dX9_takesDigitAt_4 rfl (lv_at hl 1 rfl) ?_
  obtain ⟨h4, hf⟩ := jbA_e hf
  obtain ⟨o2, g3, hf⟩ := jbB_e hf
  refine cva_i (As := [.int a0]) (rest := []) ⟨hx, hb, hml, hown, hts⟩ (c_J0_charAt_5068e l g i0 a0 _ g3) (cwV 1 hts gX9_takesDigitAt_J0_charAt_5068e rfl rfl rfl hd_J0_charAt_5068e ⟨Nat.le_of_ble_eq_true rfl, Nat.le_of_ble_eq_true rfl⟩) hK hZ hT hA hP hD hS hl.1 (vk_recv hZ.2.2.2.1 h4 hS) rfl rfl (Nat.le_of_ble_eq_true rfl) ⟨Nat.le_of_ble_eq_true rfl, Nat.le_of_ble_eq_true rfl⟩ dX9_takesDigitAt_5 (fun H locs hP hD hS => ?_)
  refine lv_bipush (v := 35) hx hb dX9_takesDigitAt_8 (by decide) ?_
  refine lv_icmp_ne (tgt := 17) hx hb dX9_takesDigitAt_10 (by decide) (fun hc => ?_) (fun hc => ?_)
  · have hf := jbF hf hc
    refine lv_iconst (v := 0) hx hb dX9_takesDigitAt_17 (by decide) ?_
    cases hf
    subst hQ
    exact rt_i hx hb hrt hlk nar_0 hK hP hD hS (Nat.le_of_ble_eq_true rfl) (Nat.le_of_ble_eq_true rfl) dX9_takesDigitAt_18
  · have hf := jbT hf hc
    refine lv_iconst (v := 1) hx hb dX9_takesDigitAt_13 (by decide) ?_
    refine lv_goto (tgt := 18) hx hb dX9_takesDigitAt_14 (by decide) ?_
    cases hf
    subst hQ
    exact rt_i hx hb hrt hlk nar_1 hK hP hD hS (Nat.le_of_ble_eq_true rfl) (Nat.le_of_ble_eq_true rfl) dX9_takesDigitAt_18
def f_X9_isDigit (a0 : Int32) : Option Int32 :=
  if a0 < 48 then
  (some 0)
  else
  (if 57 < a0 then
  (some 0)
  else
  (some 1))
def rm_X9_isDigit : Room := { frames := 0, cells := 0, slots := 0, locals := 0 }
theorem hd_X9_isDigit : yX9_isDigit.cls ≠ "java/lang/invoke/MethodHandle" ∧ yX9_isDigit.cls ≠ "java/lang/invoke/VarHandle" ∧ (parseMethodDescriptor yX9_isDigit.desc).map (fun d => d.parameters.length) = some 1 := by decide +kernel
set_option maxHeartbeats 4000000 in
set_option maxRecDepth 100000 in
theorem c_X9_isDigit (l : Launch) (g : GG)   (a0 : Int32) (out : Int32) (hf : f_X9_isDigit a0 = some out) : MtI l yX9_isDigit wsX9_isDigit rm_X9_isDigit g [] [.int a0] out [] 0 0 := by
  refine fun sz => mt_of (cc := cX9_isDigit) (maxL := 1) (ret := (some .boolean)) (own := RX9) (Qc := fun A => va_Qi (fun r (_ : Unit) => r = out) (fun _ t => PosM g A [] t) A) (by decide +kernel) rfl rfl (Nat.le_of_ble_eq_true rfl) ?_ sz
  intro p e s mi below meth c A ls hB hnm hrt hlk hP hD hl
  obtain ⟨hx, hb, hml, hown, hts, hK, hZ, hT, hA, -⟩ := hB
  have hS : va_S A s.heap s.heap [] := va_S.rf
  have hl : lv_has ls 1 [(0, .int a0)] := hl
  generalize hQ : MQ below _ _ _ _ _ _ = Q
  unfold f_X9_isDigit at hf
  refine lv_iload_n hx hb dX9_isDigit_0 rfl (lv_at hl 0 rfl) ?_
  refine lv_bipush (v := 48) hx hb dX9_isDigit_1 (by decide) ?_
  refine lv_icmp_lt (tgt := 16) hx hb dX9_isDigit_3 (by decide) (fun hc => ?_) (fun hc => ?_)
  · have hf := jbT hf hc
    refine lv_iconst (v := 0) hx hb dX9_isDigit_16 (by decide) ?_
    cases hf
    subst hQ
    exact rt_i hx hb hrt hlk nar_0 hK hP hD hS (Nat.le_of_ble_eq_true rfl) (Nat.le_of_ble_eq_true rfl) dX9_isDigit_17
  · have hf := jbF hf hc
    refine lv_iload_n hx hb dX9_isDigit_6 rfl (lv_at hl 0 rfl) ?_
    refine lv_bipush (v := 57) hx hb dX9_isDigit_7 (by decide) ?_
    refine lv_icmp_gt (tgt := 16) hx hb dX9_isDigit_9 (by decide) (fun hc => ?_) (fun hc => ?_)
    · have hf := jbT hf hc
      refine lv_iconst (v := 0) hx hb dX9_isDigit_16 (by decide) ?_
      cases hf
      subst hQ
      exact rt_i hx hb hrt hlk nar_0 hK hP hD hS (Nat.le_of_ble_eq_true rfl) (Nat.le_of_ble_eq_true rfl) dX9_isDigit_17
    · have hf := jbF hf hc
      refine lv_iconst (v := 1) hx hb dX9_isDigit_12 (by decide) ?_
      refine lv_goto (tgt := 17) hx hb dX9_isDigit_13 (by decide) ?_
      cases hf
      subst hQ
      exact rt_i hx hb hrt hlk nar_1 hK hP hD hS (Nat.le_of_ble_eq_true rfl) (Nat.le_of_ble_eq_true rfl) dX9_isDigit_17
def f_X9_allows (i0 : Nat) (a0 : Int32) (a1 : Int32) : Option Int32 :=
  if i0 < 8 then
  (f_X9_takesDigitAt i0 a0).bind fun o1 =>
  if o1 = 0 then
  (if i0 < 8 then
  if i0 < 28 then
  (f_J0_charAt_5068e i0 a0).bind fun o5 =>
  if o5 = a1 then
  (some 1)
  else
  (some 0)
  else none
  else none)
  else
  ((f_X9_isDigit a1).bind fun o8 =>
  if vp_nar .boolean o8 = o8 then some o8 else none)
  else none
def rm_X9_allows : Room := { frames := 5, cells := 0, slots := 0, locals := 106 }
theorem hd_X9_allows : yX9_allows.cls = RX9 ∧ yX9_allows.cls ≠ "java/lang/invoke/MethodHandle" ∧ yX9_allows.cls ≠ "java/lang/invoke/VarHandle" ∧ (parseMethodDescriptor yX9_allows.desc).map (fun d => d.parameters.length) = some 2 := by decide +kernel
set_option maxHeartbeats 4000000 in
set_option maxRecDepth 100000 in
theorem c_X9_allows (l : Launch) (g : GG)   (i0 : Nat) (a0 : Int32) (a1 : Int32) (out : Int32) (hf : f_X9_allows i0 a0 a1 = some out) : MtI l yX9_allows wsX9_allows rm_X9_allows g [] [.ref (gS g 1 i0), .int a0, .int a1] out [] 0 0 := by
  refine fun sz => mt_of (cc := cX9_allows) (maxL := 3) (ret := (some .boolean)) (own := RX9) (Qc := fun A => va_Qi (fun r (_ : Unit) => r = out) (fun _ t => PosM g A [] t) A) (by decide +kernel) rfl rfl (Nat.le_of_ble_eq_true rfl) ?_ sz
  intro p e s mi below meth c A ls hB hnm hrt hlk hP hD hl
  obtain ⟨hx, hb, hml, hown, hts, hK, hZ, hT, hA, -⟩ := hB
  have hS : va_S A s.heap s.heap [] := va_S.rf
  have hl : lv_has ls 3 [(0, .ref (gS g 1 i0)), (1, .int a0), (2, .int a1)] := hl
  have k0 := hts (.fieldLink RX9 47 "TerraceQuarry$Verb" "form" "Ljava/lang/String;") (by decide +kernel)
  generalize hQ : MQ below _ _ _ _ _ _ = Q
  unfold f_X9_allows at hf
  refine lv_aload_n hx hb dX9_allows_0 rfl (lv_at hl 0 rfl) ?_
  refine lv_iload_n hx hb dX9_allows_1 rfl (lv_at hl 1 rfl) ?_
  obtain ⟨h3, hf⟩ := jbA_e hf
  obtain ⟨o1, g2, hf⟩ := jbB_e hf
  refine cva_i (As := [.int a0]) (rest := []) ⟨hx, hb, hml, hown, hts⟩ (c_X9_takesDigitAt l g i0 a0 _ g2) (cwV 1 hts gX9_allows_X9_takesDigitAt rfl rfl rfl hd_X9_takesDigitAt ⟨Nat.le_of_ble_eq_true rfl, Nat.le_of_ble_eq_true rfl⟩) hK hZ hT hA hP hD hS hl.1 (va_recvE hZ.2.1 h3 hS) rfl rfl (Nat.le_of_ble_eq_true rfl) ⟨Nat.le_of_ble_eq_true rfl, Nat.le_of_ble_eq_true rfl⟩ dX9_allows_2 (fun H locs hP hD hS => ?_)
  refine lv_if_eq (tgt := 15) hx hb dX9_allows_5 (by decide) (fun hc => ?_) (fun hc => ?_)
  · have hf := jbT hf hc
    refine lv_aload_n hx hb dX9_allows_15 rfl (lv_at hl 0 rfl) ?_
    obtain ⟨h4, hf⟩ := jbA_e hf
    refine va_getX hx hb hZ.2.2.1 h4 hS hown k0 (fun _ h9 => h9) dX9_allows_16 ?_
    refine lv_iload_n hx hb dX9_allows_19 rfl (lv_at hl 1 rfl) ?_
    obtain ⟨h7, hf⟩ := jbA_e hf
    obtain ⟨o5, g6, hf⟩ := jbB_e hf
    refine cva_i (As := [.int a0]) (rest := []) ⟨hx, hb, hml, hown, hts⟩ (c_J0_charAt_5068e l g i0 a0 _ g6) (cwV 1 hts gX9_allows_J0_charAt_5068e rfl rfl rfl hd_J0_charAt_5068e ⟨Nat.le_of_ble_eq_true rfl, Nat.le_of_ble_eq_true rfl⟩) hK hZ hT hA hP hD hS hl.1 (vk_recv hZ.2.2.2.1 h7 hS) rfl rfl (Nat.le_of_ble_eq_true rfl) ⟨Nat.le_of_ble_eq_true rfl, Nat.le_of_ble_eq_true rfl⟩ dX9_allows_20 (fun H locs hP hD hS => ?_)
    refine lv_iload_n hx hb dX9_allows_23 rfl (lv_at hl 2 rfl) ?_
    refine lv_icmp_ne (tgt := 31) hx hb dX9_allows_24 (by decide) (fun hc => ?_) (fun hc => ?_)
    · have hf := jbF hf hc
      refine lv_iconst (v := 0) hx hb dX9_allows_31 (by decide) ?_
      cases hf
      subst hQ
      exact rt_i hx hb hrt hlk nar_0 hK hP hD hS (Nat.le_of_ble_eq_true rfl) (Nat.le_of_ble_eq_true rfl) dX9_allows_32
    · have hf := jbT hf hc
      refine lv_iconst (v := 1) hx hb dX9_allows_27 (by decide) ?_
      refine lv_goto (tgt := 32) hx hb dX9_allows_28 (by decide) ?_
      cases hf
      subst hQ
      exact rt_i hx hb hrt hlk nar_1 hK hP hD hS (Nat.le_of_ble_eq_true rfl) (Nat.le_of_ble_eq_true rfl) dX9_allows_32
  · have hf := jbF hf hc
    refine lv_iload_n hx hb dX9_allows_8 rfl (lv_at hl 2 rfl) ?_
    obtain ⟨o8, g9, hf⟩ := jbB_e hf
    refine csa_i (As := [.int a1]) (rest := []) ⟨hx, hb, hml, hown, hts⟩ (c_X9_isDigit l g a1 _ g9) (va_cwS 1 hts gX9_allows_X9_isDigit rfl rfl rfl hd_X9_isDigit ⟨Nat.le_of_ble_eq_true rfl, Nat.le_of_ble_eq_true rfl⟩) hK hZ hT hA hP hD hS hl.1 rfl rfl (Nat.le_of_ble_eq_true rfl) ⟨Nat.le_of_ble_eq_true rfl, Nat.le_of_ble_eq_true rfl⟩ dX9_allows_9 (fun H locs hP hD hS => ?_)
    refine lv_goto (tgt := 32) hx hb dX9_allows_12 (by decide) ?_
    obtain ⟨h10, hf⟩ := jbA_e hf
    cases hf
    subst hQ
    exact rt_i hx hb hrt hlk (nar_z h10) hK hP hD hS (Nat.le_of_ble_eq_true rfl) (Nat.le_of_ble_eq_true rfl) dX9_allows_32
