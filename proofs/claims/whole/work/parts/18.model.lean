def f_X11_placeOf (a0 : Int32) : Option Int32 :=
  some (19 + (7 * a0))
def rm_X11_placeOf : Room := { frames := 0, cells := 0, slots := 0, locals := 0 }
theorem hd_X11_placeOf : yX11_placeOf.cls ≠ "java/lang/invoke/MethodHandle" ∧ yX11_placeOf.cls ≠ "java/lang/invoke/VarHandle" ∧ (parseMethodDescriptor yX11_placeOf.desc).map (fun d => d.parameters.length) = some 1 := by decide +kernel
set_option maxHeartbeats 4000000 in
set_option maxRecDepth 100000 in
theorem c_X11_placeOf (l : Launch) (g : GG)   (a0 : Int32) (out : Int32) (hf : f_X11_placeOf a0 = some out) : MtI l yX11_placeOf wsX11_placeOf rm_X11_placeOf g [] [.int a0] out [] 0 0 := by
  refine fun sz => mt_of (cc := cX11_placeOf) (maxL := 1) (ret := (some .int)) (own := RX11) (Qc := fun A => va_Qi (fun r (_ : Unit) => r = out) (fun _ t => PosM g A [] t) A) (by decide +kernel) rfl rfl (Nat.le_of_ble_eq_true rfl) ?_ sz
  intro p e s mi below meth c A ls hB hnm hrt hlk hP hD hl
  obtain ⟨hx, hb, hml, hown, hts, hK, hZ, hT, hA, -⟩ := hB
  have hS : va_S A s.heap s.heap [] := va_S.rf
  have hl : lv_has ls 1 [(0, .int a0)] := hl
  generalize hQ : MQ below _ _ _ _ _ _ = Q
  unfold f_X11_placeOf at hf
  refine lv_bipush (v := 19) hx hb dX11_placeOf_0 (by decide) ?_
  refine lv_bipush (v := 7) hx hb dX11_placeOf_2 (by decide) ?_
  refine lv_iload_n hx hb dX11_placeOf_4 rfl (lv_at hl 0 rfl) ?_
  refine lv_imul hx hb dX11_placeOf_5 ?_
  refine lv_iadd hx hb dX11_placeOf_6 ?_
  cases hf
  subst hQ
  exact rt_i hx hb hrt hlk rfl hK hP hD hS (Nat.le_of_ble_eq_true rfl) (Nat.le_of_ble_eq_true rfl) dX11_placeOf_7
def f_X11_thrown (mv : MV) : Option Int32 :=
  some (mThrown mv)
def rm_X11_thrown : Room := { frames := 0, cells := 0, slots := 0, locals := 0 }
theorem hd_X11_thrown : yX11_thrown.cls = RX11 ∧ yX11_thrown.cls ≠ "java/lang/invoke/MethodHandle" ∧ yX11_thrown.cls ≠ "java/lang/invoke/VarHandle" ∧ (parseMethodDescriptor yX11_thrown.desc).map (fun d => d.parameters.length) = some 0 := by decide +kernel
set_option maxHeartbeats 4000000 in
set_option maxRecDepth 100000 in
theorem c_X11_thrown (l : Launch) (g : GG) (hm : Nat → Nat) (mv : MV)   (out : Int32) (hf : f_X11_thrown mv = some out) : MtI l yX11_thrown wsX11_thrown rm_X11_thrown g (wM g hm mv) [.ref (hm 0)] out (wM g hm mv) 0 0 := by
  refine fun sz => mt_of (cc := cX11_thrown) (maxL := 1) (ret := (some .int)) (own := RX11) (Qc := fun A => va_Qi (fun r (_ : Unit) => r = out) (fun _ t => PosM g A (wM g hm mv) t) A) (by decide +kernel) rfl rfl (Nat.le_of_ble_eq_true rfl) ?_ sz
  intro p e s mi below meth c A ls hB hnm hrt hlk hP hD hl
  obtain ⟨hx, hb, hml, hown, hts, hK, hZ, hT, hA, -⟩ := hB
  have hS : va_S A s.heap s.heap [] := va_S.rf
  have hl : lv_has ls 1 [(0, .ref (hm 0))] := hl
  have hinX11 : ∀ w ∈ wsX110, w ∈ wsX11_thrown := by decide +kernel
  have k0 := hts (.fieldLink RX11 45 "TerraceQuarryModel" "thrown" "I") (by decide +kernel)
  generalize hQ : MQ below _ _ _ _ _ _ = Q
  unfold f_X11_thrown at hf
  refine lv_aload_n hx hb dX11_thrown_0 rfl (lv_at hl 0 rfl) ?_
  refine va_get (D := gD g) (ci := 10) (v := .int (mThrown mv)) (C := RX11) (T := TX11) (N := 19) hx hb hts hinX11 hown hK hP 0 rfl rfl 13 (by decide) k0 (fun _ h9 => h9) rfl dX11_thrown_1 ?_
  cases hf
  subst hQ
  exact rt_i hx hb hrt hlk rfl hK hP hD hS (Nat.le_of_ble_eq_true rfl) (Nat.le_of_ble_eq_true rfl) dX11_thrown_4
def f_X11_isIn (a0 : Int32) (a1 : Int32) (a2 : Int32) : Option Int32 :=
  if a0 < a1 then
  (some 0)
  else
  (if a2 < a0 then
  (some 0)
  else
  (some 1))
def rm_X11_isIn : Room := { frames := 0, cells := 0, slots := 0, locals := 0 }
theorem hd_X11_isIn : yX11_isIn.cls ≠ "java/lang/invoke/MethodHandle" ∧ yX11_isIn.cls ≠ "java/lang/invoke/VarHandle" ∧ (parseMethodDescriptor yX11_isIn.desc).map (fun d => d.parameters.length) = some 3 := by decide +kernel
set_option maxHeartbeats 4000000 in
set_option maxRecDepth 100000 in
theorem c_X11_isIn (l : Launch) (g : GG)   (a0 : Int32) (a1 : Int32) (a2 : Int32) (out : Int32) (hf : f_X11_isIn a0 a1 a2 = some out) : MtI l yX11_isIn wsX11_isIn rm_X11_isIn g [] [.int a0, .int a1, .int a2] out [] 0 0 := by
  refine fun sz => mt_of (cc := cX11_isIn) (maxL := 3) (ret := (some .boolean)) (own := RX11) (Qc := fun A => va_Qi (fun r (_ : Unit) => r = out) (fun _ t => PosM g A [] t) A) (by decide +kernel) rfl rfl (Nat.le_of_ble_eq_true rfl) ?_ sz
  intro p e s mi below meth c A ls hB hnm hrt hlk hP hD hl
  obtain ⟨hx, hb, hml, hown, hts, hK, hZ, hT, hA, -⟩ := hB
  have hS : va_S A s.heap s.heap [] := va_S.rf
  have hl : lv_has ls 3 [(0, .int a0), (1, .int a1), (2, .int a2)] := hl
  generalize hQ : MQ below _ _ _ _ _ _ = Q
  unfold f_X11_isIn at hf
  refine lv_iload_n hx hb dX11_isIn_0 rfl (lv_at hl 0 rfl) ?_
  refine lv_iload_n hx hb dX11_isIn_1 rfl (lv_at hl 1 rfl) ?_
  refine lv_icmp_lt (tgt := 14) hx hb dX11_isIn_2 (by decide) (fun hc => ?_) (fun hc => ?_)
  · have hf := jbT hf hc
    refine lv_iconst (v := 0) hx hb dX11_isIn_14 (by decide) ?_
    cases hf
    subst hQ
    exact rt_i hx hb hrt hlk nar_0 hK hP hD hS (Nat.le_of_ble_eq_true rfl) (Nat.le_of_ble_eq_true rfl) dX11_isIn_15
  · have hf := jbF hf hc
    refine lv_iload_n hx hb dX11_isIn_5 rfl (lv_at hl 0 rfl) ?_
    refine lv_iload_n hx hb dX11_isIn_6 rfl (lv_at hl 2 rfl) ?_
    refine lv_icmp_gt (tgt := 14) hx hb dX11_isIn_7 (by decide) (fun hc => ?_) (fun hc => ?_)
    · have hf := jbT hf hc
      refine lv_iconst (v := 0) hx hb dX11_isIn_14 (by decide) ?_
      cases hf
      subst hQ
      exact rt_i hx hb hrt hlk nar_0 hK hP hD hS (Nat.le_of_ble_eq_true rfl) (Nat.le_of_ble_eq_true rfl) dX11_isIn_15
    · have hf := jbF hf hc
      refine lv_iconst (v := 1) hx hb dX11_isIn_10 (by decide) ?_
      refine lv_goto (tgt := 15) hx hb dX11_isIn_11 (by decide) ?_
      cases hf
      subst hQ
      exact rt_i hx hb hrt hlk nar_1 hK hP hD hS (Nat.le_of_ble_eq_true rfl) (Nat.le_of_ble_eq_true rfl) dX11_isIn_15
def f_X11_copies_L3 (u0 : (Nat → Int32)) (n0 : Nat) (n1 : Nat) (x1 : Int32) (x3 : Int32) (x4 : Int32) (u1 : (Nat → Int32)) : Option (Sum (Int32 × (Nat → Int32)) (Int32 × (Nat → Int32))) :=
  if 229 ≤ x4 then
  (some (.inr (x4, u1)))
  else
  (if jIn (x1 + x4) n0 then
  if jIn (x3 + x4) n1 then
  jbN (upd u1 (x3 + x4).toNatClampNeg (u0 (x1 + x4).toNatClampNeg)) fun w3 =>
  some (.inl ((x4 + 1), w3))
  else none
  else none)
def f_X11_copies (u0 : (Nat → Int32)) (u1 : (Nat → Int32)) (n0 : Nat) (n1 : Nat) (a1 : Int32) (a3 : Int32) : Option (Nat → Int32) :=
  (jbL (fun s => f_X11_copies_L3 u0 n0 n1 a1 a3 (s.1) (s.2)) 5000 (0, u1)).bind fun o3 =>
  some (o3.2)
def rm_X11_copies : Room := { frames := 0, cells := 0, slots := 0, locals := 0 }
theorem hd_X11_copies : yX11_copies.cls ≠ "java/lang/invoke/MethodHandle" ∧ yX11_copies.cls ≠ "java/lang/invoke/VarHandle" ∧ (parseMethodDescriptor yX11_copies.desc).map (fun d => d.parameters.length) = some 4 := by decide +kernel
set_option maxHeartbeats 4000000 in
set_option maxRecDepth 100000 in
theorem c_X11_copies (l : Launch) (g : GG) (b0 : Nat) (u0 : (Nat → Int32)) (b1 : Nat) (u1 : (Nat → Int32)) (n0 : Nat) (n1 : Nat) (a1 : Int32) (a3 : Int32) (out : (Nat → Int32)) (hf : f_X11_copies u0 u1 n0 n1 a1 a3 = some out) : MtV l yX11_copies wsX11_copies rm_X11_copies g ([(b0, .inl (gC g 0, n0, .inl u0))] ++ [(b1, .inl (gC g 0, n1, .inl u1))]) [.ref b0, .int a1, .ref b1, .int a3]  ([(b0, .inl (gC g 0, n0, .inl u0))] ++ [(b1, .inl (gC g 0, n1, .inl out))]) 0 0 := by
  refine fun sz => mt_of (cc := cX11_copies) (maxL := 5) (ret := none) (own := RX11) (Qc := fun A => va_Qv (fun (_ : Unit) => True) (fun _ t => PosM g A ([(b0, .inl (gC g 0, n0, .inl u0))] ++ [(b1, .inl (gC g 0, n1, .inl out))]) t) A) (by decide +kernel) rfl rfl (Nat.le_of_ble_eq_true rfl) ?_ sz
  intro p e s mi below meth c A ls hB hnm hrt hlk hP hD hl
  obtain ⟨hx, hb, hml, hown, hts, hK, hZ, hT, hA, -⟩ := hB
  have hS : va_S A s.heap s.heap [] := va_S.rf
  have hl : lv_has ls 5 [(0, .ref b0), (1, .int a1), (2, .ref b1), (3, .int a3)] := hl
  generalize hQ : MQ below _ _ _ _ _ _ = Q
  unfold f_X11_copies at hf
  have hL3 : ∀ (x1 : Int32) (x3 : Int32) (n : Nat) (x4 : Int32) (u1 : (Nat → Int32)) (H : Heap) (locs : List Loc) (ls : Array Slot) (o3 : Int32 × (Nat → Int32)), jbL (fun s => f_X11_copies_L3 u0 n0 n1 x1 x3 (s.1) (s.2)) n (x4, u1) = some o3 → va_P (gD g) vwCl ([(b0, .inl (gC g 0, n0, .inl u0))] ++ [(b1, .inl (gC g 0, n1, .inl u1))]) H → va_D A ([(b0, .inl (gC g 0, n0, .inl u0))] ++ [(b1, .inl (gC g 0, n1, .inl u1))]) → va_S A s.heap H locs → lv_has ls 5 [(0, .ref b0), (1, .int x1), (2, .ref b1), (3, .int x3), (4, .int x4)] → (∀ (H : Heap) (locs : List Loc) (ls : Array Slot), va_P (gD g) vwCl ([(b0, .inl (gC g 0, n0, .inl u0))] ++ [(b1, .inl (gC g 0, n1, .inl (o3.2)))]) H → va_D A ([(b0, .inl (gC g 0, n0, .inl u0))] ++ [(b1, .inl (gC g 0, n1, .inl (o3.2)))]) → va_S A s.heap H locs → lv_has ls 5 [] → W p l e rm_X11_copies s mi [.ref b0, .int a1, .ref b1, .int a3].toArray below meth c H locs 0 0 Q (F0 mi 29 ls [])) → W p l e rm_X11_copies s mi [.ref b0, .int a1, .ref b1, .int a3].toArray below meth c H locs 0 0 Q (F0 mi 3 ls []) := by
    intro x1 x3 n
    induction n with
    | zero => intro x4 u1 H locs ls o3 hf; exact absurd hf (jbL_0 _ _ _)
    | succ n ih =>
      intro x4 u1 H locs ls o3 hf hP hD hS hl hk
      obtain ⟨r, hf, hr⟩ := jbL_e hf
      have hf : f_X11_copies_L3 u0 n0 n1 x1 x3 x4 u1 = some r := hf
      unfold f_X11_copies_L3 at hf
      refine lv_iload hx hb dX11_copies_3 (lv_at hl 4 rfl) ?_
      refine lv_sipush (v := 229) hx hb dX11_copies_5 (by decide) ?_
      refine lv_icmp_ge (tgt := 29) hx hb dX11_copies_8 (by decide) (fun hc => ?_) (fun hc => ?_)
      · have hf := jbT hf hc
        cases hf
        obtain rfl := jbR_r hr
        exact hk _ _ _ hP hD hS (lv_sub hl [] rfl)
      · have hf := jbF hf hc
        refine lv_aload_n hx hb dX11_copies_11 rfl (lv_at hl 2 rfl) ?_
        refine lv_iload_n hx hb dX11_copies_12 rfl (lv_at hl 3 rfl) ?_
        refine lv_iload hx hb dX11_copies_13 (lv_at hl 4 rfl) ?_
        refine lv_iadd hx hb dX11_copies_15 ?_
        refine lv_aload_n hx hb dX11_copies_16 rfl (lv_at hl 0 rfl) ?_
        refine lv_iload_n hx hb dX11_copies_17 rfl (lv_at hl 1 rfl) ?_
        refine lv_iload hx hb dX11_copies_18 (lv_at hl 4 rfl) ?_
        refine lv_iadd hx hb dX11_copies_20 ?_
        obtain ⟨h1, hf⟩ := jbA_e hf
        refine va_iald hx hb hK hP 0 0 rfl rfl h1 dX11_copies_21 ?_
        obtain ⟨h2, hf⟩ := jbA_e hf
        refine va_iast hx hb hK hP hD hS 1 0 rfl rfl h2 dX11_copies_22 (fun H locs hP hD hS => ?_)
        obtain ⟨w3, ew3⟩ : ∃ y, y = (upd u1 (x3 + x4).toNatClampNeg (u0 (x1 + x4).toNatClampNeg)) := ⟨_, rfl⟩
        have hf := jbN_e hf ew3
        have hP : va_P (gD g) vwCl ([(b0, .inl (gC g 0, n0, .inl u0))] ++ [(b1, .inl (gC g 0, n1, .inl w3))]) H := by rw [ew3]; exact hP
        have hD : va_D A ([(b0, .inl (gC g 0, n0, .inl u0))] ++ [(b1, .inl (gC g 0, n1, .inl w3))]) := by rw [ew3]; exact hD
        refine lv_iinc (v := (x4 + 1)) (lv' := [(4, .int (x4 + 1)), (0, .ref b0), (1, .int x1), (2, .ref b1), (3, .int x3)]) hx hb dX11_copies_23 hl (k := 4) rfl rfl (by decide) rfl (fun ls hl => ?_)
        refine lv_goto (tgt := 3) hx hb dX11_copies_26 (by decide) ?_
        cases hf
        exact ih (x4 + 1) w3 _ _ _ _ hr hP hD hS (lv_sub hl [1, 2, 3, 4, 0] rfl) hk
  refine lv_iconst (v := 0) hx hb dX11_copies_0 (by decide) ?_
  refine lv_istore (lv' := [(4, .int 0), (0, .ref b0), (1, .int a1), (2, .ref b1), (3, .int a3)]) hx hb dX11_copies_1 hl (by decide) rfl (fun ls hl => ?_)
  obtain ⟨o3, hg, hf⟩ := jbB_e hf
  refine hL3 a1 a3 _ 0 u1 _ _ _ _ hg hP hD hS (lv_sub hl [1, 2, 3, 4, 0] rfl) (fun H locs ls hP hD hS hl => ?_)
  cases hf
  subst hQ
  exact rt_v hx hb hrt hlk hK hP hD hS (Nat.le_of_ble_eq_true rfl) (Nat.le_of_ble_eq_true rfl) dX11_copies_29
def f_X11_holds_J35 (mv : MV) (y0 : Int32) : Option (Int32 × MV) :=
  jbN (mSThrown y0 mv) fun w1 =>
  if (mThrown w1) = 0 then
  (some (1, w1))
  else
  (some (0, w1))
def f_X11_holds (mv : MV) (a0 : Int32) (a1 : Int32) (a2 : Int32) (a3 : Int32) : Option (Int32 × MV) :=
  if a0 = 0 then
  (f_X11_holds_J35 mv 1)
  else
  (if a1 = 0 then
  (f_X11_holds_J35 mv 2)
  else
  (if a2 = 0 then
  (f_X11_holds_J35 mv 3)
  else
  (if a3 = 0 then
  (f_X11_holds_J35 mv 4)
  else
  (f_X11_holds_J35 mv 0))))
def rm_X11_holds : Room := { frames := 0, cells := 0, slots := 0, locals := 0 }
theorem hd_X11_holds : yX11_holds.cls = RX11 ∧ yX11_holds.cls ≠ "java/lang/invoke/MethodHandle" ∧ yX11_holds.cls ≠ "java/lang/invoke/VarHandle" ∧ (parseMethodDescriptor yX11_holds.desc).map (fun d => d.parameters.length) = some 4 := by decide +kernel
set_option maxHeartbeats 4000000 in
set_option maxRecDepth 100000 in
theorem c_X11_holds (l : Launch) (g : GG) (hm : Nat → Nat) (mv : MV)  (a0 : Int32) (a1 : Int32) (a2 : Int32) (a3 : Int32) (out : Int32 × MV) (hf : f_X11_holds mv a0 a1 a2 a3 = some out) : MtI l yX11_holds wsX11_holds rm_X11_holds g (wM g hm mv) [.ref (hm 0), .int a0, .int a1, .int a2, .int a3] (out.1) (wM g hm (out.2)) 0 0 := by
  refine fun sz => mt_of (cc := cX11_holds) (maxL := 5) (ret := (some .boolean)) (own := RX11) (Qc := fun A => va_Qi (fun r (_ : Unit) => r = (out.1)) (fun _ t => PosM g A (wM g hm (out.2)) t) A) (by decide +kernel) rfl rfl (Nat.le_of_ble_eq_true rfl) ?_ sz
  intro p e s mi below meth c A ls hB hnm hrt hlk hP hD hl
  obtain ⟨hx, hb, hml, hown, hts, hK, hZ, hT, hA, -⟩ := hB
  have hS : va_S A s.heap s.heap [] := va_S.rf
  have hl : lv_has ls 5 [(0, .ref (hm 0)), (1, .int a0), (2, .int a1), (3, .int a2), (4, .int a3)] := hl
  have hinX11 : ∀ w ∈ wsX110, w ∈ wsX11_holds := by decide +kernel
  have k0 := hts (.fieldLink RX11 45 "TerraceQuarryModel" "thrown" "I") (by decide +kernel)
  generalize hQ : MQ below _ _ _ _ _ _ = Q
  unfold f_X11_holds at hf
  have hJ35 : ∀ (mv : MV) (y0 : Int32) (H : Heap) (locs : List Loc) (ls : Array Slot), f_X11_holds_J35 mv y0 = some out → va_P (gD g) vwCl (wM g hm mv) H → va_D A (wM g hm mv) → va_S A s.heap H locs → lv_has ls 5 [(0, .ref (hm 0))] → W p l e rm_X11_holds s mi [.ref (hm 0), .int a0, .int a1, .int a2, .int a3].toArray below meth c H locs 0 0 Q (F0 mi 35 ls [.int y0, .ref (hm 0)]) := by
    intro mv y0 H locs ls hf hP hD hS hl
    unfold f_X11_holds_J35 at hf
    refine va_put (D := gD g) (ci := 10) (v := .int y0) (ty := .int) (C := RX11) (T := TX11) (N := 19) hx hb hts hinX11 tyX11 tyX11_ok nmX11 hown hK hP hD hS 0 rfl rfl 13 (by decide) k0 (fun _ h9 => h9) rfl (tyX11_ok 13 (by decide)) rfl rfl (Nat.le_of_ble_eq_true rfl) dX11_holds_35 (fun H locs hP hD hS => ?_)
    obtain ⟨w1, ew1⟩ : ∃ y, y = (mSThrown y0 mv) := ⟨_, rfl⟩
    have hf := jbN_e hf ew1
    have hP : va_P (gD g) vwCl (wM g hm w1) H := by rw [ew1]; exact hP
    have hD : va_D A (wM g hm w1) := by rw [ew1]; exact hD
    refine lv_aload_n hx hb dX11_holds_38 rfl (lv_at hl 0 rfl) ?_
    refine va_get (D := gD g) (ci := 10) (v := .int (mThrown w1)) (C := RX11) (T := TX11) (N := 19) hx hb hts hinX11 hown hK hP 0 rfl rfl 13 (by decide) k0 (fun _ h9 => h9) rfl dX11_holds_39 ?_
    refine lv_if_ne (tgt := 49) hx hb dX11_holds_42 (by decide) (fun hc => ?_) (fun hc => ?_)
    · have hf := jbF hf hc
      refine lv_iconst (v := 0) hx hb dX11_holds_49 (by decide) ?_
      cases hf
      subst hQ
      exact rt_i hx hb hrt hlk nar_0 hK hP hD hS (Nat.le_of_ble_eq_true rfl) (Nat.le_of_ble_eq_true rfl) dX11_holds_50
    · have hf := jbT hf hc
      refine lv_iconst (v := 1) hx hb dX11_holds_45 (by decide) ?_
      refine lv_goto (tgt := 50) hx hb dX11_holds_46 (by decide) ?_
      cases hf
      subst hQ
      exact rt_i hx hb hrt hlk nar_1 hK hP hD hS (Nat.le_of_ble_eq_true rfl) (Nat.le_of_ble_eq_true rfl) dX11_holds_50
  refine lv_aload_n hx hb dX11_holds_0 rfl (lv_at hl 0 rfl) ?_
  refine lv_iload_n hx hb dX11_holds_1 rfl (lv_at hl 1 rfl) ?_
  refine lv_if_ne (tgt := 9) hx hb dX11_holds_2 (by decide) (fun hc => ?_) (fun hc => ?_)
  · have hf := jbF hf hc
    refine lv_iload_n hx hb dX11_holds_9 rfl (lv_at hl 2 rfl) ?_
    refine lv_if_ne (tgt := 17) hx hb dX11_holds_10 (by decide) (fun hc => ?_) (fun hc => ?_)
    · have hf := jbF hf hc
      refine lv_iload_n hx hb dX11_holds_17 rfl (lv_at hl 3 rfl) ?_
      refine lv_if_ne (tgt := 25) hx hb dX11_holds_18 (by decide) (fun hc => ?_) (fun hc => ?_)
      · have hf := jbF hf hc
        refine lv_iload hx hb dX11_holds_25 (lv_at hl 4 rfl) ?_
        refine lv_if_ne (tgt := 34) hx hb dX11_holds_27 (by decide) (fun hc => ?_) (fun hc => ?_)
        · have hf := jbF hf hc
          refine lv_iconst (v := 0) hx hb dX11_holds_34 (by decide) ?_
          exact hJ35 mv 0 _ _ _ hf hP hD hS (lv_sub hl [0] rfl)
        · have hf := jbT hf hc
          refine lv_iconst (v := 4) hx hb dX11_holds_30 (by decide) ?_
          refine lv_goto (tgt := 35) hx hb dX11_holds_31 (by decide) ?_
          exact hJ35 mv 4 _ _ _ hf hP hD hS (lv_sub hl [0] rfl)
      · have hf := jbT hf hc
        refine lv_iconst (v := 3) hx hb dX11_holds_21 (by decide) ?_
        refine lv_goto (tgt := 35) hx hb dX11_holds_22 (by decide) ?_
        exact hJ35 mv 3 _ _ _ hf hP hD hS (lv_sub hl [0] rfl)
    · have hf := jbT hf hc
      refine lv_iconst (v := 2) hx hb dX11_holds_13 (by decide) ?_
      refine lv_goto (tgt := 35) hx hb dX11_holds_14 (by decide) ?_
      exact hJ35 mv 2 _ _ _ hf hP hD hS (lv_sub hl [0] rfl)
  · have hf := jbT hf hc
    refine lv_iconst (v := 1) hx hb dX11_holds_5 (by decide) ?_
    refine lv_goto (tgt := 35) hx hb dX11_holds_6 (by decide) ?_
    exact hJ35 mv 1 _ _ _ hf hP hD hS (lv_sub hl [0] rfl)
def f_X11_goes (mv : MV) (a0 : Int32) : Option (Int32 × MV) :=
  (f_X11_holds mv a0 1 1 1).bind fun o1 =>
  if vp_nar .boolean (o1.1) = (o1.1) then some ((o1.1), (o1.2)) else none
def rm_X11_goes : Room := { frames := 1, cells := 0, slots := 0, locals := 24 }
theorem hd_X11_goes : yX11_goes.cls = RX11 ∧ yX11_goes.cls ≠ "java/lang/invoke/MethodHandle" ∧ yX11_goes.cls ≠ "java/lang/invoke/VarHandle" ∧ (parseMethodDescriptor yX11_goes.desc).map (fun d => d.parameters.length) = some 1 := by decide +kernel
set_option maxHeartbeats 4000000 in
set_option maxRecDepth 100000 in
theorem c_X11_goes (l : Launch) (g : GG) (hm : Nat → Nat) (mv : MV)  (a0 : Int32) (out : Int32 × MV) (hf : f_X11_goes mv a0 = some out) : MtI l yX11_goes wsX11_goes rm_X11_goes g (wM g hm mv) [.ref (hm 0), .int a0] (out.1) (wM g hm (out.2)) 0 0 := by
  refine fun sz => mt_of (cc := cX11_goes) (maxL := 2) (ret := (some .boolean)) (own := RX11) (Qc := fun A => va_Qi (fun r (_ : Unit) => r = (out.1)) (fun _ t => PosM g A (wM g hm (out.2)) t) A) (by decide +kernel) rfl rfl (Nat.le_of_ble_eq_true rfl) ?_ sz
  intro p e s mi below meth c A ls hB hnm hrt hlk hP hD hl
  obtain ⟨hx, hb, hml, hown, hts, hK, hZ, hT, hA, -⟩ := hB
  have hS : va_S A s.heap s.heap [] := va_S.rf
  have hl : lv_has ls 2 [(0, .ref (hm 0)), (1, .int a0)] := hl
  generalize hQ : MQ below _ _ _ _ _ _ = Q
  unfold f_X11_goes at hf
  refine lv_aload_n hx hb dX11_goes_0 rfl (lv_at hl 0 rfl) ?_
  refine lv_iload_n hx hb dX11_goes_1 rfl (lv_at hl 1 rfl) ?_
  refine lv_iconst (v := 1) hx hb dX11_goes_2 (by decide) ?_
  refine lv_iconst (v := 1) hx hb dX11_goes_3 (by decide) ?_
  refine lv_iconst (v := 1) hx hb dX11_goes_4 (by decide) ?_
  obtain ⟨o1, g2, hf⟩ := jbB_e hf
  refine cva_i (As := [.int a0, .int 1, .int 1, .int 1]) (rest := []) ⟨hx, hb, hml, hown, hts⟩ (c_X11_holds l g hm mv a0 1 1 1 _ g2) (cwV 4 hts gX11_goes_X11_holds rfl rfl rfl hd_X11_holds ⟨Nat.le_of_ble_eq_true rfl, Nat.le_of_ble_eq_true rfl⟩) hK hZ hT hA hP hD hS hl.1 (va_recv hK hP (ci := 10) (q0 := 0) rfl rfl) rfl rfl (Nat.le_of_ble_eq_true rfl) ⟨Nat.le_of_ble_eq_true rfl, Nat.le_of_ble_eq_true rfl⟩ dX11_goes_5 (fun H locs hP hD hS => ?_)
  obtain ⟨h3, hf⟩ := jbA_e hf
  cases hf
  subst hQ
  exact rt_i hx hb hrt hlk (nar_z h3) hK hP hD hS (Nat.le_of_ble_eq_true rfl) (Nat.le_of_ble_eq_true rfl) dX11_goes_8
def f_X11_begins (mv : MV) : Option MV :=
  (f_X11_copies (mNow mv) (mBefore mv) 229 229 0 0).bind fun o1 =>
  jbN (mSBefore o1 mv) fun w3 =>
  some w3
def rm_X11_begins : Room := { frames := 1, cells := 0, slots := 0, locals := 24 }
theorem hd_X11_begins : yX11_begins.cls = RX11 ∧ yX11_begins.cls ≠ "java/lang/invoke/MethodHandle" ∧ yX11_begins.cls ≠ "java/lang/invoke/VarHandle" ∧ (parseMethodDescriptor yX11_begins.desc).map (fun d => d.parameters.length) = some 0 := by decide +kernel
set_option maxHeartbeats 4000000 in
set_option maxRecDepth 100000 in
theorem c_X11_begins (l : Launch) (g : GG) (hm : Nat → Nat) (mv : MV)   (out : MV) (hf : f_X11_begins mv = some out) : MtV l yX11_begins wsX11_begins rm_X11_begins g (wM g hm mv) [.ref (hm 0)]  (wM g hm out) 0 0 := by
  refine fun sz => mt_of (cc := cX11_begins) (maxL := 1) (ret := none) (own := RX11) (Qc := fun A => va_Qv (fun (_ : Unit) => True) (fun _ t => PosM g A (wM g hm out) t) A) (by decide +kernel) rfl rfl (Nat.le_of_ble_eq_true rfl) ?_ sz
  intro p e s mi below meth c A ls hB hnm hrt hlk hP hD hl
  obtain ⟨hx, hb, hml, hown, hts, hK, hZ, hT, hA, -⟩ := hB
  have hS : va_S A s.heap s.heap [] := va_S.rf
  have hl : lv_has ls 1 [(0, .ref (hm 0))] := hl
  have hinX11 : ∀ w ∈ wsX110, w ∈ wsX11_begins := by decide +kernel
  have k0 := hts (.fieldLink RX11 9 "TerraceQuarryModel" "now" "[I") (by decide +kernel)
  have k1 := hts (.fieldLink RX11 13 "TerraceQuarryModel" "before" "[I") (by decide +kernel)
  generalize hQ : MQ below _ _ _ _ _ _ = Q
  unfold f_X11_begins at hf
  refine lv_aload_n hx hb dX11_begins_0 rfl (lv_at hl 0 rfl) ?_
  refine va_get (D := gD g) (ci := 10) (v := .ref (hm 1)) (C := RX11) (T := TX11) (N := 19) hx hb hts hinX11 hown hK hP 0 rfl rfl 0 (by decide) k0 (fun _ h9 => h9) rfl dX11_begins_1 ?_
  refine lv_iconst (v := 0) hx hb dX11_begins_4 (by decide) ?_
  refine lv_aload_n hx hb dX11_begins_5 rfl (lv_at hl 0 rfl) ?_
  refine va_get (D := gD g) (ci := 10) (v := .ref (hm 2)) (C := RX11) (T := TX11) (N := 19) hx hb hts hinX11 hown hK hP 0 rfl rfl 1 (by decide) k1 (fun _ h9 => h9) rfl dX11_begins_6 ?_
  refine lv_iconst (v := 0) hx hb dX11_begins_9 (by decide) ?_
  obtain ⟨o1, g2, hf⟩ := jbB_e hf
  refine cs_v (As := [.ref (hm 1), .int 0, .ref (hm 2), .int 0]) (rest := []) (Wr := [0, 3, 4, 5, 6, 7, 8].filterMap (fun i => ((wM g hm mv))[i]?)) ⟨hx, hb, hml, hown, hts⟩ (c_X11_copies l g (hm 1) (mNow mv) (hm 2) (mBefore mv) 229 229 0 0 _ g2) (va_cwS 4 hts gX11_begins_X11_copies rfl rfl rfl hd_X11_copies ⟨Nat.le_of_ble_eq_true rfl, Nat.le_of_ble_eq_true rfl⟩) hK hZ hT hA hP hD hS hl.1 [1, 2] [0, 3, 4, 5, 6, 7, 8] rfl rfl rfl rfl rfl rfl rfl (Nat.le_of_ble_eq_true rfl) ⟨Nat.le_of_ble_eq_true rfl, Nat.le_of_ble_eq_true rfl⟩ dX11_begins_10 (fun H locs hP hD hS => ?_)
  have hP : va_P (gD g) vwCl (wM g hm (mSBefore o1 mv)) H := hP.sub [0, 7, 8, 1, 2, 3, 4, 5, 6] rfl
  have hD : va_D A (wM g hm (mSBefore o1 mv)) := hD.sub [0, 7, 8, 1, 2, 3, 4, 5, 6] rfl rfl
  obtain ⟨w3, ew3⟩ : ∃ y, y = (mSBefore o1 mv) := ⟨_, rfl⟩
  have hf := jbN_e hf ew3
  have hP : va_P (gD g) vwCl (wM g hm w3) H := by rw [ew3]; exact hP
  have hD : va_D A (wM g hm w3) := by rw [ew3]; exact hD
  cases hf
  subst hQ
  exact rt_v hx hb hrt hlk hK hP hD hS (Nat.le_of_ble_eq_true rfl) (Nat.le_of_ble_eq_true rfl) dX11_begins_13
def f_X11_remembers_J50 (mv : MV) : Option MV :=
  (f_X11_copies (mBefore mv) (mHistory mv) 229 1832 0 ((mRemembered mv) * 229)).bind fun o2 =>
  jbN (mSHistory o2 mv) fun w4 =>
  jbN (mSRemembered ((mRemembered w4) + 1) w4) fun w5 =>
  some w5
def f_X11_remembers_L11 (x1 : Int32) (mv : MV) : Option (Sum (Int32 × MV) (Int32 × MV)) :=
  if 1603 ≤ x1 then
  (some (.inr (x1, mv)))
  else
  (if jIn (x1 + 229) 1832 then
  if jIn x1 1832 then
  jbN (mSHistory (upd (mHistory mv) x1.toNatClampNeg ((mHistory mv) (x1 + 229).toNatClampNeg)) mv) fun w8 =>
  some (.inl ((x1 + 1), w8))
  else none
  else none)
def f_X11_remembers (mv : MV) : Option MV :=
  if (mRemembered mv) = 8 then
  ((jbL (fun s => f_X11_remembers_L11 (s.1) (s.2)) 5000 (0, mv)).bind fun o11 =>
  jbN (mSRemembered ((mRemembered (o11.2)) - 1) (o11.2)) fun w1 =>
  f_X11_remembers_J50 w1)
  else
  (f_X11_remembers_J50 mv)
def rm_X11_remembers : Room := { frames := 1, cells := 0, slots := 0, locals := 24 }
theorem hd_X11_remembers : yX11_remembers.cls = RX11 ∧ yX11_remembers.cls ≠ "java/lang/invoke/MethodHandle" ∧ yX11_remembers.cls ≠ "java/lang/invoke/VarHandle" ∧ (parseMethodDescriptor yX11_remembers.desc).map (fun d => d.parameters.length) = some 0 := by decide +kernel
set_option maxHeartbeats 4000000 in
set_option maxRecDepth 100000 in
theorem c_X11_remembers (l : Launch) (g : GG) (hm : Nat → Nat) (mv : MV)   (out : MV) (hf : f_X11_remembers mv = some out) : MtV l yX11_remembers wsX11_remembers rm_X11_remembers g (wM g hm mv) [.ref (hm 0)]  (wM g hm out) 0 0 := by
  refine fun sz => mt_of (cc := cX11_remembers) (maxL := 2) (ret := none) (own := RX11) (Qc := fun A => va_Qv (fun (_ : Unit) => True) (fun _ t => PosM g A (wM g hm out) t) A) (by decide +kernel) rfl rfl (Nat.le_of_ble_eq_true rfl) ?_ sz
  intro p e s mi below meth c A ls hB hnm hrt hlk hP hD hl
  obtain ⟨hx, hb, hml, hown, hts, hK, hZ, hT, hA, -⟩ := hB
  have hS : va_S A s.heap s.heap [] := va_S.rf
  have hl : lv_has ls 2 [(0, .ref (hm 0))] := hl
  have hinX11 : ∀ w ∈ wsX110, w ∈ wsX11_remembers := by decide +kernel
  have k0 := hts (.fieldLink RX11 56 "TerraceQuarryModel" "remembered" "I") (by decide +kernel)
  have k1 := hts (.fieldLink RX11 13 "TerraceQuarryModel" "before" "[I") (by decide +kernel)
  have k2 := hts (.fieldLink RX11 19 "TerraceQuarryModel" "history" "[I") (by decide +kernel)
  generalize hQ : MQ below _ _ _ _ _ _ = Q
  unfold f_X11_remembers at hf
  have hJ50 : ∀ (mv : MV) (H : Heap) (locs : List Loc) (ls : Array Slot), f_X11_remembers_J50 mv = some out → va_P (gD g) vwCl (wM g hm mv) H → va_D A (wM g hm mv) → va_S A s.heap H locs → lv_has ls 2 [(0, .ref (hm 0))] → W p l e rm_X11_remembers s mi [.ref (hm 0)].toArray below meth c H locs 0 0 Q (F0 mi 50 ls []) := by
    intro mv H locs ls hf hP hD hS hl
    unfold f_X11_remembers_J50 at hf
    refine lv_aload_n hx hb dX11_remembers_50 rfl (lv_at hl 0 rfl) ?_
    refine va_get (D := gD g) (ci := 10) (v := .ref (hm 2)) (C := RX11) (T := TX11) (N := 19) hx hb hts hinX11 hown hK hP 0 rfl rfl 1 (by decide) k1 (fun _ h9 => h9) rfl dX11_remembers_51 ?_
    refine lv_iconst (v := 0) hx hb dX11_remembers_54 (by decide) ?_
    refine lv_aload_n hx hb dX11_remembers_55 rfl (lv_at hl 0 rfl) ?_
    refine va_get (D := gD g) (ci := 10) (v := .ref (hm 4)) (C := RX11) (T := TX11) (N := 19) hx hb hts hinX11 hown hK hP 0 rfl rfl 3 (by decide) k2 (fun _ h9 => h9) rfl dX11_remembers_56 ?_
    refine lv_aload_n hx hb dX11_remembers_59 rfl (lv_at hl 0 rfl) ?_
    refine va_get (D := gD g) (ci := 10) (v := .int (mRemembered mv)) (C := RX11) (T := TX11) (N := 19) hx hb hts hinX11 hown hK hP 0 rfl rfl 5 (by decide) k0 (fun _ h9 => h9) rfl dX11_remembers_60 ?_
    refine lv_sipush (v := 229) hx hb dX11_remembers_63 (by decide) ?_
    refine lv_imul hx hb dX11_remembers_66 ?_
    obtain ⟨o2, g3, hf⟩ := jbB_e hf
    refine cs_v (As := [.ref (hm 2), .int 0, .ref (hm 4), .int ((mRemembered mv) * 229)]) (rest := []) (Wr := [0, 1, 3, 5, 6, 7, 8].filterMap (fun i => ((wM g hm mv))[i]?)) ⟨hx, hb, hml, hown, hts⟩ (c_X11_copies l g (hm 2) (mBefore mv) (hm 4) (mHistory mv) 229 1832 0 ((mRemembered mv) * 229) _ g3) (va_cwS 4 hts gX11_remembers_X11_copies rfl rfl rfl hd_X11_copies ⟨Nat.le_of_ble_eq_true rfl, Nat.le_of_ble_eq_true rfl⟩) hK hZ hT hA hP hD hS hl.1 [2, 4] [0, 1, 3, 5, 6, 7, 8] rfl rfl rfl rfl rfl rfl rfl (Nat.le_of_ble_eq_true rfl) ⟨Nat.le_of_ble_eq_true rfl, Nat.le_of_ble_eq_true rfl⟩ dX11_remembers_67 (fun H locs hP hD hS => ?_)
    have hP : va_P (gD g) vwCl (wM g hm (mSHistory o2 mv)) H := hP.sub [0, 1, 7, 2, 8, 3, 4, 5, 6] rfl
    have hD : va_D A (wM g hm (mSHistory o2 mv)) := hD.sub [0, 1, 7, 2, 8, 3, 4, 5, 6] rfl rfl
    obtain ⟨w4, ew4⟩ : ∃ y, y = (mSHistory o2 mv) := ⟨_, rfl⟩
    have hf := jbN_e hf ew4
    have hP : va_P (gD g) vwCl (wM g hm w4) H := by rw [ew4]; exact hP
    have hD : va_D A (wM g hm w4) := by rw [ew4]; exact hD
    refine lv_aload_n hx hb dX11_remembers_70 rfl (lv_at hl 0 rfl) ?_
    refine lv_dup hx hb dX11_remembers_71 rfl ?_
    refine va_get (D := gD g) (ci := 10) (v := .int (mRemembered w4)) (C := RX11) (T := TX11) (N := 19) hx hb hts hinX11 hown hK hP 0 rfl rfl 5 (by decide) k0 (fun _ h9 => h9) rfl dX11_remembers_72 ?_
    refine lv_iconst (v := 1) hx hb dX11_remembers_75 (by decide) ?_
    refine lv_iadd hx hb dX11_remembers_76 ?_
    refine va_put (D := gD g) (ci := 10) (v := .int ((mRemembered w4) + 1)) (ty := .int) (C := RX11) (T := TX11) (N := 19) hx hb hts hinX11 tyX11 tyX11_ok nmX11 hown hK hP hD hS 0 rfl rfl 5 (by decide) k0 (fun _ h9 => h9) rfl (tyX11_ok 5 (by decide)) rfl rfl (Nat.le_of_ble_eq_true rfl) dX11_remembers_77 (fun H locs hP hD hS => ?_)
    obtain ⟨w5, ew5⟩ : ∃ y, y = (mSRemembered ((mRemembered w4) + 1) w4) := ⟨_, rfl⟩
    have hf := jbN_e hf ew5
    have hP : va_P (gD g) vwCl (wM g hm w5) H := by rw [ew5]; exact hP
    have hD : va_D A (wM g hm w5) := by rw [ew5]; exact hD
    cases hf
    subst hQ
    exact rt_v hx hb hrt hlk hK hP hD hS (Nat.le_of_ble_eq_true rfl) (Nat.le_of_ble_eq_true rfl) dX11_remembers_80
  have hL11 : ∀ (n : Nat) (x1 : Int32) (mv : MV) (H : Heap) (locs : List Loc) (ls : Array Slot) (o11 : Int32 × MV), jbL (fun s => f_X11_remembers_L11 (s.1) (s.2)) n (x1, mv) = some o11 → va_P (gD g) vwCl (wM g hm mv) H → va_D A (wM g hm mv) → va_S A s.heap H locs → lv_has ls 2 [(0, .ref (hm 0)), (1, .int x1)] → (∀ (H : Heap) (locs : List Loc) (ls : Array Slot), va_P (gD g) vwCl (wM g hm (o11.2)) H → va_D A (wM g hm (o11.2)) → va_S A s.heap H locs → lv_has ls 2 [(0, .ref (hm 0))] → W p l e rm_X11_remembers s mi [.ref (hm 0)].toArray below meth c H locs 0 0 Q (F0 mi 40 ls [])) → W p l e rm_X11_remembers s mi [.ref (hm 0)].toArray below meth c H locs 0 0 Q (F0 mi 11 ls []) := by
    intro n
    induction n with
    | zero => intro x1 mv H locs ls o11 hf; exact absurd hf (jbL_0 _ _ _)
    | succ n ih =>
      intro x1 mv H locs ls o11 hf hP hD hS hl hk
      obtain ⟨r, hf, hr⟩ := jbL_e hf
      have hf : f_X11_remembers_L11 x1 mv = some r := hf
      unfold f_X11_remembers_L11 at hf
      refine lv_iload_n hx hb dX11_remembers_11 rfl (lv_at hl 1 rfl) ?_
      refine lv_sipush (v := 1603) hx hb dX11_remembers_12 (by decide) ?_
      refine lv_icmp_ge (tgt := 40) hx hb dX11_remembers_15 (by decide) (fun hc => ?_) (fun hc => ?_)
      · have hf := jbT hf hc
        cases hf
        obtain rfl := jbR_r hr
        exact hk _ _ _ hP hD hS (lv_sub hl [0] rfl)
      · have hf := jbF hf hc
        refine lv_aload_n hx hb dX11_remembers_18 rfl (lv_at hl 0 rfl) ?_
        refine va_get (D := gD g) (ci := 10) (v := .ref (hm 4)) (C := RX11) (T := TX11) (N := 19) hx hb hts hinX11 hown hK hP 0 rfl rfl 3 (by decide) k2 (fun _ h9 => h9) rfl dX11_remembers_19 ?_
        refine lv_iload_n hx hb dX11_remembers_22 rfl (lv_at hl 1 rfl) ?_
        refine lv_aload_n hx hb dX11_remembers_23 rfl (lv_at hl 0 rfl) ?_
        refine va_get (D := gD g) (ci := 10) (v := .ref (hm 4)) (C := RX11) (T := TX11) (N := 19) hx hb hts hinX11 hown hK hP 0 rfl rfl 3 (by decide) k2 (fun _ h9 => h9) rfl dX11_remembers_24 ?_
        refine lv_iload_n hx hb dX11_remembers_27 rfl (lv_at hl 1 rfl) ?_
        refine lv_sipush (v := 229) hx hb dX11_remembers_28 (by decide) ?_
        refine lv_iadd hx hb dX11_remembers_31 ?_
        obtain ⟨h6, hf⟩ := jbA_e hf
        refine va_iald hx hb hK hP 4 0 rfl rfl h6 dX11_remembers_32 ?_
        obtain ⟨h7, hf⟩ := jbA_e hf
        refine va_iast hx hb hK hP hD hS 4 0 rfl rfl h7 dX11_remembers_33 (fun H locs hP hD hS => ?_)
        obtain ⟨w8, ew8⟩ : ∃ y, y = (mSHistory (upd (mHistory mv) x1.toNatClampNeg ((mHistory mv) (x1 + 229).toNatClampNeg)) mv) := ⟨_, rfl⟩
        have hf := jbN_e hf ew8
        have hP : va_P (gD g) vwCl (wM g hm w8) H := by rw [ew8]; exact hP
        have hD : va_D A (wM g hm w8) := by rw [ew8]; exact hD
        refine lv_iinc (v := (x1 + 1)) (lv' := [(1, .int (x1 + 1)), (0, .ref (hm 0))]) hx hb dX11_remembers_34 hl (k := 1) rfl rfl (by decide) rfl (fun ls hl => ?_)
        refine lv_goto (tgt := 11) hx hb dX11_remembers_37 (by decide) ?_
        cases hf
        exact ih (x1 + 1) w8 _ _ _ _ hr hP hD hS (lv_sub hl [1, 0] rfl) hk
  refine lv_aload_n hx hb dX11_remembers_0 rfl (lv_at hl 0 rfl) ?_
  refine va_get (D := gD g) (ci := 10) (v := .int (mRemembered mv)) (C := RX11) (T := TX11) (N := 19) hx hb hts hinX11 hown hK hP 0 rfl rfl 5 (by decide) k0 (fun _ h9 => h9) rfl dX11_remembers_1 ?_
  refine lv_bipush (v := 8) hx hb dX11_remembers_4 (by decide) ?_
  refine lv_icmp_ne (tgt := 50) hx hb dX11_remembers_6 (by decide) (fun hc => ?_) (fun hc => ?_)
  · have hf := jbF hf hc
    exact hJ50 mv _ _ _ hf hP hD hS (lv_sub hl [0] rfl)
  · have hf := jbT hf hc
    refine lv_iconst (v := 0) hx hb dX11_remembers_9 (by decide) ?_
    refine lv_istore_n (lv' := [(1, .int 0), (0, .ref (hm 0))]) hx hb dX11_remembers_10 rfl hl (by decide) rfl (fun ls hl => ?_)
    obtain ⟨o11, hg, hf⟩ := jbB_e hf
    refine hL11 _ 0 mv _ _ _ _ hg hP hD hS (lv_sub hl [1, 0] rfl) (fun H locs ls hP hD hS hl => ?_)
    refine lv_aload_n hx hb dX11_remembers_40 rfl (lv_at hl 0 rfl) ?_
    refine lv_dup hx hb dX11_remembers_41 rfl ?_
    refine va_get (D := gD g) (ci := 10) (v := .int (mRemembered (o11.2))) (C := RX11) (T := TX11) (N := 19) hx hb hts hinX11 hown hK hP 0 rfl rfl 5 (by decide) k0 (fun _ h9 => h9) rfl dX11_remembers_42 ?_
    refine lv_iconst (v := 1) hx hb dX11_remembers_45 (by decide) ?_
    refine lv_isub hx hb dX11_remembers_46 ?_
    refine va_put (D := gD g) (ci := 10) (v := .int ((mRemembered (o11.2)) - 1)) (ty := .int) (C := RX11) (T := TX11) (N := 19) hx hb hts hinX11 tyX11 tyX11_ok nmX11 hown hK hP hD hS 0 rfl rfl 5 (by decide) k0 (fun _ h9 => h9) rfl (tyX11_ok 5 (by decide)) rfl rfl (Nat.le_of_ble_eq_true rfl) dX11_remembers_47 (fun H locs hP hD hS => ?_)
    obtain ⟨w1, ew1⟩ : ∃ y, y = (mSRemembered ((mRemembered (o11.2)) - 1) (o11.2)) := ⟨_, rfl⟩
    have hf := jbN_e hf ew1
    have hP : va_P (gD g) vwCl (wM g hm w1) H := by rw [ew1]; exact hP
    have hD : va_D A (wM g hm w1) := by rw [ew1]; exact hD
    exact hJ50 w1 _ _ _ hf hP hD hS (lv_sub hl [0] rfl)
def f_X11_ends (mv : MV) (a0 : Int32) : Option (Int32 × MV) :=
  if (mThrown mv) = 0 then
  ((f_X11_remembers mv).bind fun o1 =>
  some (a0, o1))
  else
  ((f_X11_copies (mBefore mv) (mNow mv) 229 229 0 0).bind fun o3 =>
  jbN (mSNow o3 mv) fun w5 =>
  some (0, w5))
def rm_X11_ends : Room := { frames := 2, cells := 0, slots := 0, locals := 45 }
theorem hd_X11_ends : yX11_ends.cls = RX11 ∧ yX11_ends.cls ≠ "java/lang/invoke/MethodHandle" ∧ yX11_ends.cls ≠ "java/lang/invoke/VarHandle" ∧ (parseMethodDescriptor yX11_ends.desc).map (fun d => d.parameters.length) = some 1 := by decide +kernel
set_option maxHeartbeats 4000000 in
set_option maxRecDepth 100000 in
theorem c_X11_ends (l : Launch) (g : GG) (hm : Nat → Nat) (mv : MV)  (a0 : Int32) (out : Int32 × MV) (hf : f_X11_ends mv a0 = some out) : MtI l yX11_ends wsX11_ends rm_X11_ends g (wM g hm mv) [.ref (hm 0), .int a0] (out.1) (wM g hm (out.2)) 0 0 := by
  refine fun sz => mt_of (cc := cX11_ends) (maxL := 2) (ret := (some .int)) (own := RX11) (Qc := fun A => va_Qi (fun r (_ : Unit) => r = (out.1)) (fun _ t => PosM g A (wM g hm (out.2)) t) A) (by decide +kernel) rfl rfl (Nat.le_of_ble_eq_true rfl) ?_ sz
  intro p e s mi below meth c A ls hB hnm hrt hlk hP hD hl
  obtain ⟨hx, hb, hml, hown, hts, hK, hZ, hT, hA, -⟩ := hB
  have hS : va_S A s.heap s.heap [] := va_S.rf
  have hl : lv_has ls 2 [(0, .ref (hm 0)), (1, .int a0)] := hl
  have hinX11 : ∀ w ∈ wsX110, w ∈ wsX11_ends := by decide +kernel
  have k0 := hts (.fieldLink RX11 45 "TerraceQuarryModel" "thrown" "I") (by decide +kernel)
  have k1 := hts (.fieldLink RX11 13 "TerraceQuarryModel" "before" "[I") (by decide +kernel)
  have k2 := hts (.fieldLink RX11 9 "TerraceQuarryModel" "now" "[I") (by decide +kernel)
  generalize hQ : MQ below _ _ _ _ _ _ = Q
  unfold f_X11_ends at hf
  refine lv_aload_n hx hb dX11_ends_0 rfl (lv_at hl 0 rfl) ?_
  refine va_get (D := gD g) (ci := 10) (v := .int (mThrown mv)) (C := RX11) (T := TX11) (N := 19) hx hb hts hinX11 hown hK hP 0 rfl rfl 13 (by decide) k0 (fun _ h9 => h9) rfl dX11_ends_1 ?_
  refine lv_if_eq (tgt := 22) hx hb dX11_ends_4 (by decide) (fun hc => ?_) (fun hc => ?_)
  · have hf := jbT hf hc
    refine lv_aload_n hx hb dX11_ends_22 rfl (lv_at hl 0 rfl) ?_
    obtain ⟨o1, g2, hf⟩ := jbB_e hf
    refine cva_v (As := []) (rest := []) ⟨hx, hb, hml, hown, hts⟩ (c_X11_remembers l g hm mv _ g2) (cwV 0 hts gX11_ends_X11_remembers rfl rfl rfl hd_X11_remembers ⟨Nat.le_of_ble_eq_true rfl, Nat.le_of_ble_eq_true rfl⟩) hK hZ hT hA hP hD hS hl.1 (va_recv hK hP (ci := 10) (q0 := 0) rfl rfl) rfl rfl (Nat.le_of_ble_eq_true rfl) ⟨Nat.le_of_ble_eq_true rfl, Nat.le_of_ble_eq_true rfl⟩ dX11_ends_23 (fun H locs hP hD hS => ?_)
    refine lv_iload_n hx hb dX11_ends_26 rfl (lv_at hl 1 rfl) ?_
    cases hf
    subst hQ
    exact rt_i hx hb hrt hlk rfl hK hP hD hS (Nat.le_of_ble_eq_true rfl) (Nat.le_of_ble_eq_true rfl) dX11_ends_27
  · have hf := jbF hf hc
    refine lv_aload_n hx hb dX11_ends_7 rfl (lv_at hl 0 rfl) ?_
    refine va_get (D := gD g) (ci := 10) (v := .ref (hm 2)) (C := RX11) (T := TX11) (N := 19) hx hb hts hinX11 hown hK hP 0 rfl rfl 1 (by decide) k1 (fun _ h9 => h9) rfl dX11_ends_8 ?_
    refine lv_iconst (v := 0) hx hb dX11_ends_11 (by decide) ?_
    refine lv_aload_n hx hb dX11_ends_12 rfl (lv_at hl 0 rfl) ?_
    refine va_get (D := gD g) (ci := 10) (v := .ref (hm 1)) (C := RX11) (T := TX11) (N := 19) hx hb hts hinX11 hown hK hP 0 rfl rfl 0 (by decide) k2 (fun _ h9 => h9) rfl dX11_ends_13 ?_
    refine lv_iconst (v := 0) hx hb dX11_ends_16 (by decide) ?_
    obtain ⟨o3, g4, hf⟩ := jbB_e hf
    refine cs_v (As := [.ref (hm 2), .int 0, .ref (hm 1), .int 0]) (rest := []) (Wr := [0, 3, 4, 5, 6, 7, 8].filterMap (fun i => ((wM g hm mv))[i]?)) ⟨hx, hb, hml, hown, hts⟩ (c_X11_copies l g (hm 2) (mBefore mv) (hm 1) (mNow mv) 229 229 0 0 _ g4) (va_cwS 4 hts gX11_ends_X11_copies rfl rfl rfl hd_X11_copies ⟨Nat.le_of_ble_eq_true rfl, Nat.le_of_ble_eq_true rfl⟩) hK hZ hT hA hP hD hS hl.1 [2, 1] [0, 3, 4, 5, 6, 7, 8] rfl rfl rfl rfl rfl rfl rfl (Nat.le_of_ble_eq_true rfl) ⟨Nat.le_of_ble_eq_true rfl, Nat.le_of_ble_eq_true rfl⟩ dX11_ends_17 (fun H locs hP hD hS => ?_)
    have hP : va_P (gD g) vwCl (wM g hm (mSNow o3 mv)) H := hP.sub [0, 8, 7, 1, 2, 3, 4, 5, 6] rfl
    have hD : va_D A (wM g hm (mSNow o3 mv)) := hD.sub [0, 8, 7, 1, 2, 3, 4, 5, 6] rfl rfl
    obtain ⟨w5, ew5⟩ : ∃ y, y = (mSNow o3 mv) := ⟨_, rfl⟩
    have hf := jbN_e hf ew5
    have hP : va_P (gD g) vwCl (wM g hm w5) H := by rw [ew5]; exact hP
    have hD : va_D A (wM g hm w5) := by rw [ew5]; exact hD
    refine lv_iconst (v := 0) hx hb dX11_ends_20 (by decide) ?_
    cases hf
    subst hQ
    exact rt_i hx hb hrt hlk rfl hK hP hD hS (Nat.le_of_ble_eq_true rfl) (Nat.le_of_ble_eq_true rfl) dX11_ends_21
def f_X11_undo_J13 (mv : MV) (y0 : Int32) : Option (Int32 × MV) :=
  (f_X11_goes mv y0).bind fun o1 =>
  if (o1.1) = 0 then
  (some (0, (o1.2)))
  else
  (jbN (mSRemembered ((mRemembered (o1.2)) - 1) (o1.2)) fun w3 =>
  (f_X11_copies (mHistory w3) (mNow w3) 1832 229 ((mRemembered w3) * 229) 0).bind fun o4 =>
  jbN (mSNow o4 w3) fun w6 =>
  some ((mRemembered w6), w6))
def f_X11_undo (mv : MV) : Option (Int32 × MV) :=
  if (mRemembered mv) ≤ 0 then
  (f_X11_undo_J13 mv 0)
  else
  (f_X11_undo_J13 mv 1)
def rm_X11_undo : Room := { frames := 2, cells := 0, slots := 0, locals := 45 }
theorem hd_X11_undo : yX11_undo.cls = RX11 ∧ yX11_undo.cls ≠ "java/lang/invoke/MethodHandle" ∧ yX11_undo.cls ≠ "java/lang/invoke/VarHandle" ∧ (parseMethodDescriptor yX11_undo.desc).map (fun d => d.parameters.length) = some 0 := by decide +kernel
set_option maxHeartbeats 4000000 in
set_option maxRecDepth 100000 in
theorem c_X11_undo (l : Launch) (g : GG) (hm : Nat → Nat) (mv : MV)   (out : Int32 × MV) (hf : f_X11_undo mv = some out) : MtI l yX11_undo wsX11_undo rm_X11_undo g (wM g hm mv) [.ref (hm 0)] (out.1) (wM g hm (out.2)) 0 0 := by
  refine fun sz => mt_of (cc := cX11_undo) (maxL := 1) (ret := (some .int)) (own := RX11) (Qc := fun A => va_Qi (fun r (_ : Unit) => r = (out.1)) (fun _ t => PosM g A (wM g hm (out.2)) t) A) (by decide +kernel) rfl rfl (Nat.le_of_ble_eq_true rfl) ?_ sz
  intro p e s mi below meth c A ls hB hnm hrt hlk hP hD hl
  obtain ⟨hx, hb, hml, hown, hts, hK, hZ, hT, hA, -⟩ := hB
  have hS : va_S A s.heap s.heap [] := va_S.rf
  have hl : lv_has ls 1 [(0, .ref (hm 0))] := hl
  have hinX11 : ∀ w ∈ wsX110, w ∈ wsX11_undo := by decide +kernel
  have k0 := hts (.fieldLink RX11 56 "TerraceQuarryModel" "remembered" "I") (by decide +kernel)
  have k1 := hts (.fieldLink RX11 19 "TerraceQuarryModel" "history" "[I") (by decide +kernel)
  have k2 := hts (.fieldLink RX11 9 "TerraceQuarryModel" "now" "[I") (by decide +kernel)
  generalize hQ : MQ below _ _ _ _ _ _ = Q
  unfold f_X11_undo at hf
  have hJ13 : ∀ (mv : MV) (y0 : Int32) (H : Heap) (locs : List Loc) (ls : Array Slot), f_X11_undo_J13 mv y0 = some out → va_P (gD g) vwCl (wM g hm mv) H → va_D A (wM g hm mv) → va_S A s.heap H locs → lv_has ls 1 [(0, .ref (hm 0))] → W p l e rm_X11_undo s mi [.ref (hm 0)].toArray below meth c H locs 0 0 Q (F0 mi 13 ls [.int y0, .ref (hm 0)]) := by
    intro mv y0 H locs ls hf hP hD hS hl
    unfold f_X11_undo_J13 at hf
    obtain ⟨o1, g2, hf⟩ := jbB_e hf
    refine cva_i (As := [.int y0]) (rest := []) ⟨hx, hb, hml, hown, hts⟩ (c_X11_goes l g hm mv y0 _ g2) (cwV 1 hts gX11_undo_X11_goes rfl rfl rfl hd_X11_goes ⟨Nat.le_of_ble_eq_true rfl, Nat.le_of_ble_eq_true rfl⟩) hK hZ hT hA hP hD hS hl.1 (va_recv hK hP (ci := 10) (q0 := 0) rfl rfl) rfl rfl (Nat.le_of_ble_eq_true rfl) ⟨Nat.le_of_ble_eq_true rfl, Nat.le_of_ble_eq_true rfl⟩ dX11_undo_13 (fun H locs hP hD hS => ?_)
    refine lv_if_ne (tgt := 21) hx hb dX11_undo_16 (by decide) (fun hc => ?_) (fun hc => ?_)
    · have hf := jbF hf hc
      refine lv_aload_n hx hb dX11_undo_21 rfl (lv_at hl 0 rfl) ?_
      refine lv_dup hx hb dX11_undo_22 rfl ?_
      refine va_get (D := gD g) (ci := 10) (v := .int (mRemembered (o1.2))) (C := RX11) (T := TX11) (N := 19) hx hb hts hinX11 hown hK hP 0 rfl rfl 5 (by decide) k0 (fun _ h9 => h9) rfl dX11_undo_23 ?_
      refine lv_iconst (v := 1) hx hb dX11_undo_26 (by decide) ?_
      refine lv_isub hx hb dX11_undo_27 ?_
      refine va_put (D := gD g) (ci := 10) (v := .int ((mRemembered (o1.2)) - 1)) (ty := .int) (C := RX11) (T := TX11) (N := 19) hx hb hts hinX11 tyX11 tyX11_ok nmX11 hown hK hP hD hS 0 rfl rfl 5 (by decide) k0 (fun _ h9 => h9) rfl (tyX11_ok 5 (by decide)) rfl rfl (Nat.le_of_ble_eq_true rfl) dX11_undo_28 (fun H locs hP hD hS => ?_)
      obtain ⟨w3, ew3⟩ : ∃ y, y = (mSRemembered ((mRemembered (o1.2)) - 1) (o1.2)) := ⟨_, rfl⟩
      have hf := jbN_e hf ew3
      have hP : va_P (gD g) vwCl (wM g hm w3) H := by rw [ew3]; exact hP
      have hD : va_D A (wM g hm w3) := by rw [ew3]; exact hD
      refine lv_aload_n hx hb dX11_undo_31 rfl (lv_at hl 0 rfl) ?_
      refine va_get (D := gD g) (ci := 10) (v := .ref (hm 4)) (C := RX11) (T := TX11) (N := 19) hx hb hts hinX11 hown hK hP 0 rfl rfl 3 (by decide) k1 (fun _ h9 => h9) rfl dX11_undo_32 ?_
      refine lv_aload_n hx hb dX11_undo_35 rfl (lv_at hl 0 rfl) ?_
      refine va_get (D := gD g) (ci := 10) (v := .int (mRemembered w3)) (C := RX11) (T := TX11) (N := 19) hx hb hts hinX11 hown hK hP 0 rfl rfl 5 (by decide) k0 (fun _ h9 => h9) rfl dX11_undo_36 ?_
      refine lv_sipush (v := 229) hx hb dX11_undo_39 (by decide) ?_
      refine lv_imul hx hb dX11_undo_42 ?_
      refine lv_aload_n hx hb dX11_undo_43 rfl (lv_at hl 0 rfl) ?_
      refine va_get (D := gD g) (ci := 10) (v := .ref (hm 1)) (C := RX11) (T := TX11) (N := 19) hx hb hts hinX11 hown hK hP 0 rfl rfl 0 (by decide) k2 (fun _ h9 => h9) rfl dX11_undo_44 ?_
      refine lv_iconst (v := 0) hx hb dX11_undo_47 (by decide) ?_
      obtain ⟨o4, g5, hf⟩ := jbB_e hf
      refine cs_v (As := [.ref (hm 4), .int ((mRemembered w3) * 229), .ref (hm 1), .int 0]) (rest := []) (Wr := [0, 2, 3, 5, 6, 7, 8].filterMap (fun i => ((wM g hm w3))[i]?)) ⟨hx, hb, hml, hown, hts⟩ (c_X11_copies l g (hm 4) (mHistory w3) (hm 1) (mNow w3) 1832 229 ((mRemembered w3) * 229) 0 _ g5) (va_cwS 4 hts gX11_undo_X11_copies rfl rfl rfl hd_X11_copies ⟨Nat.le_of_ble_eq_true rfl, Nat.le_of_ble_eq_true rfl⟩) hK hZ hT hA hP hD hS hl.1 [4, 1] [0, 2, 3, 5, 6, 7, 8] rfl rfl rfl rfl rfl rfl rfl (Nat.le_of_ble_eq_true rfl) ⟨Nat.le_of_ble_eq_true rfl, Nat.le_of_ble_eq_true rfl⟩ dX11_undo_48 (fun H locs hP hD hS => ?_)
      have hP : va_P (gD g) vwCl (wM g hm (mSNow o4 w3)) H := hP.sub [0, 8, 1, 2, 7, 3, 4, 5, 6] rfl
      have hD : va_D A (wM g hm (mSNow o4 w3)) := hD.sub [0, 8, 1, 2, 7, 3, 4, 5, 6] rfl rfl
      obtain ⟨w6, ew6⟩ : ∃ y, y = (mSNow o4 w3) := ⟨_, rfl⟩
      have hf := jbN_e hf ew6
      have hP : va_P (gD g) vwCl (wM g hm w6) H := by rw [ew6]; exact hP
      have hD : va_D A (wM g hm w6) := by rw [ew6]; exact hD
      refine lv_aload_n hx hb dX11_undo_51 rfl (lv_at hl 0 rfl) ?_
      refine va_get (D := gD g) (ci := 10) (v := .int (mRemembered w6)) (C := RX11) (T := TX11) (N := 19) hx hb hts hinX11 hown hK hP 0 rfl rfl 5 (by decide) k0 (fun _ h9 => h9) rfl dX11_undo_52 ?_
      cases hf
      subst hQ
      exact rt_i hx hb hrt hlk rfl hK hP hD hS (Nat.le_of_ble_eq_true rfl) (Nat.le_of_ble_eq_true rfl) dX11_undo_55
    · have hf := jbT hf hc
      refine lv_iconst (v := 0) hx hb dX11_undo_19 (by decide) ?_
      cases hf
      subst hQ
      exact rt_i hx hb hrt hlk rfl hK hP hD hS (Nat.le_of_ble_eq_true rfl) (Nat.le_of_ble_eq_true rfl) dX11_undo_20
  refine lv_aload_n hx hb dX11_undo_0 rfl (lv_at hl 0 rfl) ?_
  refine lv_aload_n hx hb dX11_undo_1 rfl (lv_at hl 0 rfl) ?_
  refine va_get (D := gD g) (ci := 10) (v := .int (mRemembered mv)) (C := RX11) (T := TX11) (N := 19) hx hb hts hinX11 hown hK hP 0 rfl rfl 5 (by decide) k0 (fun _ h9 => h9) rfl dX11_undo_2 ?_
  refine lv_if_le (tgt := 12) hx hb dX11_undo_5 (by decide) (fun hc => ?_) (fun hc => ?_)
  · have hf := jbT hf hc
    refine lv_iconst (v := 0) hx hb dX11_undo_12 (by decide) ?_
    exact hJ13 mv 0 _ _ _ hf hP hD hS (lv_sub hl [0] rfl)
  · have hf := jbF hf hc
    refine lv_iconst (v := 1) hx hb dX11_undo_8 (by decide) ?_
    refine lv_goto (tgt := 13) hx hb dX11_undo_9 (by decide) ?_
    exact hJ13 mv 1 _ _ _ hf hP hD hS (lv_sub hl [0] rfl)
def f_X11_save (mv : MV) : Option MV :=
  jbN (mSThrown 0 mv) fun w1 =>
  (f_X11_copies (mNow w1) (mSaved w1) 229 229 0 0).bind fun o2 =>
  jbN (mSSaved o2 w1) fun w4 =>
  jbN (mSIsSaved 1 w4) fun w5 =>
  some w5
def rm_X11_save : Room := { frames := 1, cells := 0, slots := 0, locals := 24 }
theorem hd_X11_save : yX11_save.cls = RX11 ∧ yX11_save.cls ≠ "java/lang/invoke/MethodHandle" ∧ yX11_save.cls ≠ "java/lang/invoke/VarHandle" ∧ (parseMethodDescriptor yX11_save.desc).map (fun d => d.parameters.length) = some 0 := by decide +kernel
set_option maxHeartbeats 4000000 in
set_option maxRecDepth 100000 in
theorem c_X11_save (l : Launch) (g : GG) (hm : Nat → Nat) (mv : MV)   (out : MV) (hf : f_X11_save mv = some out) : MtV l yX11_save wsX11_save rm_X11_save g (wM g hm mv) [.ref (hm 0)]  (wM g hm out) 0 0 := by
  refine fun sz => mt_of (cc := cX11_save) (maxL := 1) (ret := none) (own := RX11) (Qc := fun A => va_Qv (fun (_ : Unit) => True) (fun _ t => PosM g A (wM g hm out) t) A) (by decide +kernel) rfl rfl (Nat.le_of_ble_eq_true rfl) ?_ sz
  intro p e s mi below meth c A ls hB hnm hrt hlk hP hD hl
  obtain ⟨hx, hb, hml, hown, hts, hK, hZ, hT, hA, -⟩ := hB
  have hS : va_S A s.heap s.heap [] := va_S.rf
  have hl : lv_has ls 1 [(0, .ref (hm 0))] := hl
  have hinX11 : ∀ w ∈ wsX110, w ∈ wsX11_save := by decide +kernel
  have k0 := hts (.fieldLink RX11 45 "TerraceQuarryModel" "thrown" "I") (by decide +kernel)
  have k1 := hts (.fieldLink RX11 9 "TerraceQuarryModel" "now" "[I") (by decide +kernel)
  have k2 := hts (.fieldLink RX11 16 "TerraceQuarryModel" "saved" "[I") (by decide +kernel)
  have k3 := hts (.fieldLink RX11 66 "TerraceQuarryModel" "isSaved" "Z") (by decide +kernel)
  generalize hQ : MQ below _ _ _ _ _ _ = Q
  unfold f_X11_save at hf
  refine lv_aload_n hx hb dX11_save_0 rfl (lv_at hl 0 rfl) ?_
  refine lv_iconst (v := 0) hx hb dX11_save_1 (by decide) ?_
  refine va_put (D := gD g) (ci := 10) (v := .int 0) (ty := .int) (C := RX11) (T := TX11) (N := 19) hx hb hts hinX11 tyX11 tyX11_ok nmX11 hown hK hP hD hS 0 rfl rfl 13 (by decide) k0 (fun _ h9 => h9) rfl (tyX11_ok 13 (by decide)) rfl rfl (Nat.le_of_ble_eq_true rfl) dX11_save_2 (fun H locs hP hD hS => ?_)
  obtain ⟨w1, ew1⟩ : ∃ y, y = (mSThrown 0 mv) := ⟨_, rfl⟩
  have hf := jbN_e hf ew1
  have hP : va_P (gD g) vwCl (wM g hm w1) H := by rw [ew1]; exact hP
  have hD : va_D A (wM g hm w1) := by rw [ew1]; exact hD
  refine lv_aload_n hx hb dX11_save_5 rfl (lv_at hl 0 rfl) ?_
  refine va_get (D := gD g) (ci := 10) (v := .ref (hm 1)) (C := RX11) (T := TX11) (N := 19) hx hb hts hinX11 hown hK hP 0 rfl rfl 0 (by decide) k1 (fun _ h9 => h9) rfl dX11_save_6 ?_
  refine lv_iconst (v := 0) hx hb dX11_save_9 (by decide) ?_
  refine lv_aload_n hx hb dX11_save_10 rfl (lv_at hl 0 rfl) ?_
  refine va_get (D := gD g) (ci := 10) (v := .ref (hm 3)) (C := RX11) (T := TX11) (N := 19) hx hb hts hinX11 hown hK hP 0 rfl rfl 2 (by decide) k2 (fun _ h9 => h9) rfl dX11_save_11 ?_
  refine lv_iconst (v := 0) hx hb dX11_save_14 (by decide) ?_
  obtain ⟨o2, g3, hf⟩ := jbB_e hf
  refine cs_v (As := [.ref (hm 1), .int 0, .ref (hm 3), .int 0]) (rest := []) (Wr := [0, 2, 4, 5, 6, 7, 8].filterMap (fun i => ((wM g hm w1))[i]?)) ⟨hx, hb, hml, hown, hts⟩ (c_X11_copies l g (hm 1) (mNow w1) (hm 3) (mSaved w1) 229 229 0 0 _ g3) (va_cwS 4 hts gX11_save_X11_copies rfl rfl rfl hd_X11_copies ⟨Nat.le_of_ble_eq_true rfl, Nat.le_of_ble_eq_true rfl⟩) hK hZ hT hA hP hD hS hl.1 [1, 3] [0, 2, 4, 5, 6, 7, 8] rfl rfl rfl rfl rfl rfl rfl (Nat.le_of_ble_eq_true rfl) ⟨Nat.le_of_ble_eq_true rfl, Nat.le_of_ble_eq_true rfl⟩ dX11_save_15 (fun H locs hP hD hS => ?_)
  have hP : va_P (gD g) vwCl (wM g hm (mSSaved o2 w1)) H := hP.sub [0, 7, 1, 8, 2, 3, 4, 5, 6] rfl
  have hD : va_D A (wM g hm (mSSaved o2 w1)) := hD.sub [0, 7, 1, 8, 2, 3, 4, 5, 6] rfl rfl
  obtain ⟨w4, ew4⟩ : ∃ y, y = (mSSaved o2 w1) := ⟨_, rfl⟩
  have hf := jbN_e hf ew4
  have hP : va_P (gD g) vwCl (wM g hm w4) H := by rw [ew4]; exact hP
  have hD : va_D A (wM g hm w4) := by rw [ew4]; exact hD
  refine lv_aload_n hx hb dX11_save_18 rfl (lv_at hl 0 rfl) ?_
  refine lv_iconst (v := 1) hx hb dX11_save_19 (by decide) ?_
  refine va_put (D := gD g) (ci := 10) (v := .int 1) (ty := .boolean) (C := RX11) (T := TX11) (N := 19) hx hb hts hinX11 tyX11 tyX11_ok nmX11 hown hK hP hD hS 0 rfl rfl 4 (by decide) k3 (fun _ h9 => h9) rfl (tyX11_ok 4 (by decide)) nar_1 rfl (Nat.le_of_ble_eq_true rfl) dX11_save_20 (fun H locs hP hD hS => ?_)
  obtain ⟨w5, ew5⟩ : ∃ y, y = (mSIsSaved 1 w4) := ⟨_, rfl⟩
  have hf := jbN_e hf ew5
  have hP : va_P (gD g) vwCl (wM g hm w5) H := by rw [ew5]; exact hP
  have hD : va_D A (wM g hm w5) := by rw [ew5]; exact hD
  cases hf
  subst hQ
  exact rt_v hx hb hrt hlk hK hP hD hS (Nat.le_of_ble_eq_true rfl) (Nat.le_of_ble_eq_true rfl) dX11_save_23
def f_X11_restore (mv : MV) : Option MV :=
  (f_X11_goes mv (mIsSaved mv)).bind fun o1 =>
  if (o1.1) = 0 then
  (some (o1.2))
  else
  ((f_X11_copies (mSaved (o1.2)) (mNow (o1.2)) 229 229 0 0).bind fun o3 =>
  jbN (mSNow o3 (o1.2)) fun w5 =>
  jbN (mSRemembered 0 w5) fun w6 =>
  some w6)
def rm_X11_restore : Room := { frames := 2, cells := 0, slots := 0, locals := 45 }
theorem hd_X11_restore : yX11_restore.cls = RX11 ∧ yX11_restore.cls ≠ "java/lang/invoke/MethodHandle" ∧ yX11_restore.cls ≠ "java/lang/invoke/VarHandle" ∧ (parseMethodDescriptor yX11_restore.desc).map (fun d => d.parameters.length) = some 0 := by decide +kernel
set_option maxHeartbeats 4000000 in
set_option maxRecDepth 100000 in
theorem c_X11_restore (l : Launch) (g : GG) (hm : Nat → Nat) (mv : MV)   (out : MV) (hf : f_X11_restore mv = some out) : MtV l yX11_restore wsX11_restore rm_X11_restore g (wM g hm mv) [.ref (hm 0)]  (wM g hm out) 0 0 := by
  refine fun sz => mt_of (cc := cX11_restore) (maxL := 1) (ret := none) (own := RX11) (Qc := fun A => va_Qv (fun (_ : Unit) => True) (fun _ t => PosM g A (wM g hm out) t) A) (by decide +kernel) rfl rfl (Nat.le_of_ble_eq_true rfl) ?_ sz
  intro p e s mi below meth c A ls hB hnm hrt hlk hP hD hl
  obtain ⟨hx, hb, hml, hown, hts, hK, hZ, hT, hA, -⟩ := hB
  have hS : va_S A s.heap s.heap [] := va_S.rf
  have hl : lv_has ls 1 [(0, .ref (hm 0))] := hl
  have hinX11 : ∀ w ∈ wsX110, w ∈ wsX11_restore := by decide +kernel
  have k0 := hts (.fieldLink RX11 66 "TerraceQuarryModel" "isSaved" "Z") (by decide +kernel)
  have k1 := hts (.fieldLink RX11 16 "TerraceQuarryModel" "saved" "[I") (by decide +kernel)
  have k2 := hts (.fieldLink RX11 9 "TerraceQuarryModel" "now" "[I") (by decide +kernel)
  have k3 := hts (.fieldLink RX11 56 "TerraceQuarryModel" "remembered" "I") (by decide +kernel)
  generalize hQ : MQ below _ _ _ _ _ _ = Q
  unfold f_X11_restore at hf
  refine lv_aload_n hx hb dX11_restore_0 rfl (lv_at hl 0 rfl) ?_
  refine lv_aload_n hx hb dX11_restore_1 rfl (lv_at hl 0 rfl) ?_
  refine va_get (D := gD g) (ci := 10) (v := .int (mIsSaved mv)) (C := RX11) (T := TX11) (N := 19) hx hb hts hinX11 hown hK hP 0 rfl rfl 4 (by decide) k0 (fun _ h9 => h9) rfl dX11_restore_2 ?_
  obtain ⟨o1, g2, hf⟩ := jbB_e hf
  refine cva_i (As := [.int (mIsSaved mv)]) (rest := []) ⟨hx, hb, hml, hown, hts⟩ (c_X11_goes l g hm mv (mIsSaved mv) _ g2) (cwV 1 hts gX11_restore_X11_goes rfl rfl rfl hd_X11_goes ⟨Nat.le_of_ble_eq_true rfl, Nat.le_of_ble_eq_true rfl⟩) hK hZ hT hA hP hD hS hl.1 (va_recv hK hP (ci := 10) (q0 := 0) rfl rfl) rfl rfl (Nat.le_of_ble_eq_true rfl) ⟨Nat.le_of_ble_eq_true rfl, Nat.le_of_ble_eq_true rfl⟩ dX11_restore_5 (fun H locs hP hD hS => ?_)
  refine lv_if_eq (tgt := 29) hx hb dX11_restore_8 (by decide) (fun hc => ?_) (fun hc => ?_)
  · have hf := jbT hf hc
    cases hf
    subst hQ
    exact rt_v hx hb hrt hlk hK hP hD hS (Nat.le_of_ble_eq_true rfl) (Nat.le_of_ble_eq_true rfl) dX11_restore_29
  · have hf := jbF hf hc
    refine lv_aload_n hx hb dX11_restore_11 rfl (lv_at hl 0 rfl) ?_
    refine va_get (D := gD g) (ci := 10) (v := .ref (hm 3)) (C := RX11) (T := TX11) (N := 19) hx hb hts hinX11 hown hK hP 0 rfl rfl 2 (by decide) k1 (fun _ h9 => h9) rfl dX11_restore_12 ?_
    refine lv_iconst (v := 0) hx hb dX11_restore_15 (by decide) ?_
    refine lv_aload_n hx hb dX11_restore_16 rfl (lv_at hl 0 rfl) ?_
    refine va_get (D := gD g) (ci := 10) (v := .ref (hm 1)) (C := RX11) (T := TX11) (N := 19) hx hb hts hinX11 hown hK hP 0 rfl rfl 0 (by decide) k2 (fun _ h9 => h9) rfl dX11_restore_17 ?_
    refine lv_iconst (v := 0) hx hb dX11_restore_20 (by decide) ?_
    obtain ⟨o3, g4, hf⟩ := jbB_e hf
    refine cs_v (As := [.ref (hm 3), .int 0, .ref (hm 1), .int 0]) (rest := []) (Wr := [0, 2, 4, 5, 6, 7, 8].filterMap (fun i => ((wM g hm (o1.2)))[i]?)) ⟨hx, hb, hml, hown, hts⟩ (c_X11_copies l g (hm 3) (mSaved (o1.2)) (hm 1) (mNow (o1.2)) 229 229 0 0 _ g4) (va_cwS 4 hts gX11_restore_X11_copies rfl rfl rfl hd_X11_copies ⟨Nat.le_of_ble_eq_true rfl, Nat.le_of_ble_eq_true rfl⟩) hK hZ hT hA hP hD hS hl.1 [3, 1] [0, 2, 4, 5, 6, 7, 8] rfl rfl rfl rfl rfl rfl rfl (Nat.le_of_ble_eq_true rfl) ⟨Nat.le_of_ble_eq_true rfl, Nat.le_of_ble_eq_true rfl⟩ dX11_restore_21 (fun H locs hP hD hS => ?_)
    have hP : va_P (gD g) vwCl (wM g hm (mSNow o3 (o1.2))) H := hP.sub [0, 8, 1, 7, 2, 3, 4, 5, 6] rfl
    have hD : va_D A (wM g hm (mSNow o3 (o1.2))) := hD.sub [0, 8, 1, 7, 2, 3, 4, 5, 6] rfl rfl
    obtain ⟨w5, ew5⟩ : ∃ y, y = (mSNow o3 (o1.2)) := ⟨_, rfl⟩
    have hf := jbN_e hf ew5
    have hP : va_P (gD g) vwCl (wM g hm w5) H := by rw [ew5]; exact hP
    have hD : va_D A (wM g hm w5) := by rw [ew5]; exact hD
    refine lv_aload_n hx hb dX11_restore_24 rfl (lv_at hl 0 rfl) ?_
    refine lv_iconst (v := 0) hx hb dX11_restore_25 (by decide) ?_
    refine va_put (D := gD g) (ci := 10) (v := .int 0) (ty := .int) (C := RX11) (T := TX11) (N := 19) hx hb hts hinX11 tyX11 tyX11_ok nmX11 hown hK hP hD hS 0 rfl rfl 5 (by decide) k3 (fun _ h9 => h9) rfl (tyX11_ok 5 (by decide)) rfl rfl (Nat.le_of_ble_eq_true rfl) dX11_restore_26 (fun H locs hP hD hS => ?_)
    obtain ⟨w6, ew6⟩ : ∃ y, y = (mSRemembered 0 w5) := ⟨_, rfl⟩
    have hf := jbN_e hf ew6
    have hP : va_P (gD g) vwCl (wM g hm w6) H := by rw [ew6]; exact hP
    have hD : va_D A (wM g hm w6) := by rw [ew6]; exact hD
    cases hf
    subst hQ
    exact rt_v hx hb hrt hlk hK hP hD hS (Nat.le_of_ble_eq_true rfl) (Nat.le_of_ble_eq_true rfl) dX11_restore_29
def f_X11_isCell (a0 : Int32) (a1 : Int32) : Option Int32 :=
  (f_X11_isIn a0 0 4).bind fun o1 =>
  if o1 = 0 then
  (some 0)
  else
  ((f_X11_isIn a1 0 5).bind fun o3 =>
  if o3 = 0 then
  (some 0)
  else
  (some 1))
def rm_X11_isCell : Room := { frames := 1, cells := 0, slots := 0, locals := 22 }
theorem hd_X11_isCell : yX11_isCell.cls ≠ "java/lang/invoke/MethodHandle" ∧ yX11_isCell.cls ≠ "java/lang/invoke/VarHandle" ∧ (parseMethodDescriptor yX11_isCell.desc).map (fun d => d.parameters.length) = some 2 := by decide +kernel
set_option maxHeartbeats 4000000 in
set_option maxRecDepth 100000 in
theorem c_X11_isCell (l : Launch) (g : GG)   (a0 : Int32) (a1 : Int32) (out : Int32) (hf : f_X11_isCell a0 a1 = some out) : MtI l yX11_isCell wsX11_isCell rm_X11_isCell g [] [.int a0, .int a1] out [] 0 0 := by
  refine fun sz => mt_of (cc := cX11_isCell) (maxL := 2) (ret := (some .boolean)) (own := RX11) (Qc := fun A => va_Qi (fun r (_ : Unit) => r = out) (fun _ t => PosM g A [] t) A) (by decide +kernel) rfl rfl (Nat.le_of_ble_eq_true rfl) ?_ sz
  intro p e s mi below meth c A ls hB hnm hrt hlk hP hD hl
  obtain ⟨hx, hb, hml, hown, hts, hK, hZ, hT, hA, -⟩ := hB
  have hS : va_S A s.heap s.heap [] := va_S.rf
  have hl : lv_has ls 2 [(0, .int a0), (1, .int a1)] := hl
  generalize hQ : MQ below _ _ _ _ _ _ = Q
  unfold f_X11_isCell at hf
  refine lv_iload_n hx hb dX11_isCell_0 rfl (lv_at hl 0 rfl) ?_
  refine lv_iconst (v := 0) hx hb dX11_isCell_1 (by decide) ?_
  refine lv_iconst (v := 4) hx hb dX11_isCell_2 (by decide) ?_
  obtain ⟨o1, g2, hf⟩ := jbB_e hf
  refine csa_i (As := [.int a0, .int 0, .int 4]) (rest := []) ⟨hx, hb, hml, hown, hts⟩ (c_X11_isIn l g a0 0 4 _ g2) (va_cwS 3 hts gX11_isCell_X11_isIn rfl rfl rfl hd_X11_isIn ⟨Nat.le_of_ble_eq_true rfl, Nat.le_of_ble_eq_true rfl⟩) hK hZ hT hA hP hD hS hl.1 rfl rfl (Nat.le_of_ble_eq_true rfl) ⟨Nat.le_of_ble_eq_true rfl, Nat.le_of_ble_eq_true rfl⟩ dX11_isCell_3 (fun H locs hP hD hS => ?_)
  refine lv_if_eq (tgt := 22) hx hb dX11_isCell_6 (by decide) (fun hc => ?_) (fun hc => ?_)
  · have hf := jbT hf hc
    refine lv_iconst (v := 0) hx hb dX11_isCell_22 (by decide) ?_
    cases hf
    subst hQ
    exact rt_i hx hb hrt hlk nar_0 hK hP hD hS (Nat.le_of_ble_eq_true rfl) (Nat.le_of_ble_eq_true rfl) dX11_isCell_23
  · have hf := jbF hf hc
    refine lv_iload_n hx hb dX11_isCell_9 rfl (lv_at hl 1 rfl) ?_
    refine lv_iconst (v := 0) hx hb dX11_isCell_10 (by decide) ?_
    refine lv_iconst (v := 5) hx hb dX11_isCell_11 (by decide) ?_
    obtain ⟨o3, g4, hf⟩ := jbB_e hf
    refine csa_i (As := [.int a1, .int 0, .int 5]) (rest := []) ⟨hx, hb, hml, hown, hts⟩ (c_X11_isIn l g a1 0 5 _ g4) (va_cwS 3 hts gX11_isCell_X11_isIn rfl rfl rfl hd_X11_isIn ⟨Nat.le_of_ble_eq_true rfl, Nat.le_of_ble_eq_true rfl⟩) hK hZ hT hA hP hD hS hl.1 rfl rfl (Nat.le_of_ble_eq_true rfl) ⟨Nat.le_of_ble_eq_true rfl, Nat.le_of_ble_eq_true rfl⟩ dX11_isCell_12 (fun H locs hP hD hS => ?_)
    refine lv_if_eq (tgt := 22) hx hb dX11_isCell_15 (by decide) (fun hc => ?_) (fun hc => ?_)
    · have hf := jbT hf hc
      refine lv_iconst (v := 0) hx hb dX11_isCell_22 (by decide) ?_
      cases hf
      subst hQ
      exact rt_i hx hb hrt hlk nar_0 hK hP hD hS (Nat.le_of_ble_eq_true rfl) (Nat.le_of_ble_eq_true rfl) dX11_isCell_23
    · have hf := jbF hf hc
      refine lv_iconst (v := 1) hx hb dX11_isCell_18 (by decide) ?_
      refine lv_goto (tgt := 23) hx hb dX11_isCell_19 (by decide) ?_
      cases hf
      subst hQ
      exact rt_i hx hb hrt hlk nar_1 hK hP hD hS (Nat.le_of_ble_eq_true rfl) (Nat.le_of_ble_eq_true rfl) dX11_isCell_23
def f_X11_cellAt (a0 : Int32) (a1 : Int32) : Option Int32 :=
  (f_X11_isCell a0 a1).bind fun o1 =>
  if o1 = 0 then
  (some 0)
  else
  (some ((6 * a0) + a1))
def rm_X11_cellAt : Room := { frames := 2, cells := 0, slots := 0, locals := 43 }
theorem hd_X11_cellAt : yX11_cellAt.cls ≠ "java/lang/invoke/MethodHandle" ∧ yX11_cellAt.cls ≠ "java/lang/invoke/VarHandle" ∧ (parseMethodDescriptor yX11_cellAt.desc).map (fun d => d.parameters.length) = some 2 := by decide +kernel
set_option maxHeartbeats 4000000 in
set_option maxRecDepth 100000 in
theorem c_X11_cellAt (l : Launch) (g : GG)   (a0 : Int32) (a1 : Int32) (out : Int32) (hf : f_X11_cellAt a0 a1 = some out) : MtI l yX11_cellAt wsX11_cellAt rm_X11_cellAt g [] [.int a0, .int a1] out [] 0 0 := by
  refine fun sz => mt_of (cc := cX11_cellAt) (maxL := 2) (ret := (some .int)) (own := RX11) (Qc := fun A => va_Qi (fun r (_ : Unit) => r = out) (fun _ t => PosM g A [] t) A) (by decide +kernel) rfl rfl (Nat.le_of_ble_eq_true rfl) ?_ sz
  intro p e s mi below meth c A ls hB hnm hrt hlk hP hD hl
  obtain ⟨hx, hb, hml, hown, hts, hK, hZ, hT, hA, -⟩ := hB
  have hS : va_S A s.heap s.heap [] := va_S.rf
  have hl : lv_has ls 2 [(0, .int a0), (1, .int a1)] := hl
  generalize hQ : MQ below _ _ _ _ _ _ = Q
  unfold f_X11_cellAt at hf
  refine lv_iload_n hx hb dX11_cellAt_0 rfl (lv_at hl 0 rfl) ?_
  refine lv_iload_n hx hb dX11_cellAt_1 rfl (lv_at hl 1 rfl) ?_
  obtain ⟨o1, g2, hf⟩ := jbB_e hf
  refine csa_i (As := [.int a0, .int a1]) (rest := []) ⟨hx, hb, hml, hown, hts⟩ (c_X11_isCell l g a0 a1 _ g2) (va_cwS 2 hts gX11_cellAt_X11_isCell rfl rfl rfl hd_X11_isCell ⟨Nat.le_of_ble_eq_true rfl, Nat.le_of_ble_eq_true rfl⟩) hK hZ hT hA hP hD hS hl.1 rfl rfl (Nat.le_of_ble_eq_true rfl) ⟨Nat.le_of_ble_eq_true rfl, Nat.le_of_ble_eq_true rfl⟩ dX11_cellAt_2 (fun H locs hP hD hS => ?_)
  refine lv_if_eq (tgt := 17) hx hb dX11_cellAt_5 (by decide) (fun hc => ?_) (fun hc => ?_)
  · have hf := jbT hf hc
    refine lv_iconst (v := 0) hx hb dX11_cellAt_17 (by decide) ?_
    cases hf
    subst hQ
    exact rt_i hx hb hrt hlk rfl hK hP hD hS (Nat.le_of_ble_eq_true rfl) (Nat.le_of_ble_eq_true rfl) dX11_cellAt_18
  · have hf := jbF hf hc
    refine lv_bipush (v := 6) hx hb dX11_cellAt_8 (by decide) ?_
    refine lv_iload_n hx hb dX11_cellAt_10 rfl (lv_at hl 0 rfl) ?_
    refine lv_imul hx hb dX11_cellAt_11 ?_
    refine lv_iload_n hx hb dX11_cellAt_12 rfl (lv_at hl 1 rfl) ?_
    refine lv_iadd hx hb dX11_cellAt_13 ?_
    refine lv_goto (tgt := 18) hx hb dX11_cellAt_14 (by decide) ?_
    cases hf
    subst hQ
    exact rt_i hx hb hrt hlk rfl hK hP hD hS (Nat.le_of_ble_eq_true rfl) (Nat.le_of_ble_eq_true rfl) dX11_cellAt_18
def f_X11_of (mv : MV) (a0 : Int32) (a1 : Int32) : Option Int32 :=
  (f_X11_placeOf a0).bind fun o1 =>
  if jIn (o1 + a1) 229 then
  some ((mNow mv) (o1 + a1).toNatClampNeg)
  else none
def rm_X11_of : Room := { frames := 1, cells := 0, slots := 0, locals := 20 }
theorem hd_X11_of : yX11_of.cls = RX11 ∧ yX11_of.cls ≠ "java/lang/invoke/MethodHandle" ∧ yX11_of.cls ≠ "java/lang/invoke/VarHandle" ∧ (parseMethodDescriptor yX11_of.desc).map (fun d => d.parameters.length) = some 2 := by decide +kernel
set_option maxHeartbeats 4000000 in
set_option maxRecDepth 100000 in
theorem c_X11_of (l : Launch) (g : GG) (hm : Nat → Nat) (mv : MV)  (a0 : Int32) (a1 : Int32) (out : Int32) (hf : f_X11_of mv a0 a1 = some out) : MtI l yX11_of wsX11_of rm_X11_of g (wM g hm mv) [.ref (hm 0), .int a0, .int a1] out (wM g hm mv) 0 0 := by
  refine fun sz => mt_of (cc := cX11_of) (maxL := 3) (ret := (some .int)) (own := RX11) (Qc := fun A => va_Qi (fun r (_ : Unit) => r = out) (fun _ t => PosM g A (wM g hm mv) t) A) (by decide +kernel) rfl rfl (Nat.le_of_ble_eq_true rfl) ?_ sz
  intro p e s mi below meth c A ls hB hnm hrt hlk hP hD hl
  obtain ⟨hx, hb, hml, hown, hts, hK, hZ, hT, hA, -⟩ := hB
  have hS : va_S A s.heap s.heap [] := va_S.rf
  have hl : lv_has ls 3 [(0, .ref (hm 0)), (1, .int a0), (2, .int a1)] := hl
  have hinX11 : ∀ w ∈ wsX110, w ∈ wsX11_of := by decide +kernel
  have k0 := hts (.fieldLink RX11 9 "TerraceQuarryModel" "now" "[I") (by decide +kernel)
  generalize hQ : MQ below _ _ _ _ _ _ = Q
  unfold f_X11_of at hf
  refine lv_aload_n hx hb dX11_of_0 rfl (lv_at hl 0 rfl) ?_
  refine va_get (D := gD g) (ci := 10) (v := .ref (hm 1)) (C := RX11) (T := TX11) (N := 19) hx hb hts hinX11 hown hK hP 0 rfl rfl 0 (by decide) k0 (fun _ h9 => h9) rfl dX11_of_1 ?_
  refine lv_iload_n hx hb dX11_of_4 rfl (lv_at hl 1 rfl) ?_
  obtain ⟨o1, g2, hf⟩ := jbB_e hf
  refine csn_i (As := [.int a0]) (rest := [.ref (hm 1)]) ⟨hx, hb, hml, hown, hts⟩ (c_X11_placeOf l g a0 _ g2) (va_cwS 1 hts gX11_of_X11_placeOf rfl rfl rfl hd_X11_placeOf ⟨Nat.le_of_ble_eq_true rfl, Nat.le_of_ble_eq_true rfl⟩) hK hZ hT hA hP hD hS hl.1 rfl rfl (Nat.le_of_ble_eq_true rfl) ⟨Nat.le_of_ble_eq_true rfl, Nat.le_of_ble_eq_true rfl⟩ dX11_of_5 (fun H locs hP hD hS => ?_)
  refine lv_iload_n hx hb dX11_of_8 rfl (lv_at hl 2 rfl) ?_
  refine lv_iadd hx hb dX11_of_9 ?_
  obtain ⟨h3, hf⟩ := jbA_e hf
  refine va_iald hx hb hK hP 1 0 rfl rfl h3 dX11_of_10 ?_
  cases hf
  subst hQ
  exact rt_i hx hb hrt hlk rfl hK hP hD hS (Nat.le_of_ble_eq_true rfl) (Nat.le_of_ble_eq_true rfl) dX11_of_11
def f_X11_beside_J47 (x2 : Int32) (y0 : Int32) (y1 : Int32) : Option Int32 :=
  jbN (y1 + y0) fun z2 =>
  (f_X11_isCell x2 z2).bind fun o3 =>
  if o3 = 0 then
  (some (-1))
  else
  (some ((6 * x2) + z2))
def f_X11_beside_J22 (x0 : Int32) (x1 : Int32) (y0 : Int32) (y1 : Int32) : Option Int32 :=
  jbN (y1 + y0) fun z1 =>
  if x1 = 1 then
  (f_X11_beside_J47 z1 1 (x0 - x0 / 6 * 6))
  else
  (if x1 = 3 then
  (f_X11_beside_J47 z1 (-1) (x0 - x0 / 6 * 6))
  else
  (f_X11_beside_J47 z1 0 (x0 - x0 / 6 * 6)))
def f_X11_beside (a0 : Int32) (a1 : Int32) : Option Int32 :=
  if a1 = 0 then
  (f_X11_beside_J22 a0 a1 (-1) (a0 / 6))
  else
  (if a1 = 2 then
  (f_X11_beside_J22 a0 a1 1 (a0 / 6))
  else
  (f_X11_beside_J22 a0 a1 0 (a0 / 6)))
def rm_X11_beside : Room := { frames := 2, cells := 0, slots := 0, locals := 43 }
theorem hd_X11_beside : yX11_beside.cls ≠ "java/lang/invoke/MethodHandle" ∧ yX11_beside.cls ≠ "java/lang/invoke/VarHandle" ∧ (parseMethodDescriptor yX11_beside.desc).map (fun d => d.parameters.length) = some 2 := by decide +kernel
set_option maxHeartbeats 4000000 in
set_option maxRecDepth 100000 in
theorem c_X11_beside (l : Launch) (g : GG)   (a0 : Int32) (a1 : Int32) (out : Int32) (hf : f_X11_beside a0 a1 = some out) : MtI l yX11_beside wsX11_beside rm_X11_beside g [] [.int a0, .int a1] out [] 0 0 := by
  refine fun sz => mt_of (cc := cX11_beside) (maxL := 4) (ret := (some .int)) (own := RX11) (Qc := fun A => va_Qi (fun r (_ : Unit) => r = out) (fun _ t => PosM g A [] t) A) (by decide +kernel) rfl rfl (Nat.le_of_ble_eq_true rfl) ?_ sz
  intro p e s mi below meth c A ls hB hnm hrt hlk hP hD hl
  obtain ⟨hx, hb, hml, hown, hts, hK, hZ, hT, hA, -⟩ := hB
  have hS : va_S A s.heap s.heap [] := va_S.rf
  have hl : lv_has ls 4 [(0, .int a0), (1, .int a1)] := hl
  generalize hQ : MQ below _ _ _ _ _ _ = Q
  unfold f_X11_beside at hf
  have hJ47 : ∀ (x2 : Int32) (y0 : Int32) (y1 : Int32) (H : Heap) (locs : List Loc) (ls : Array Slot), f_X11_beside_J47 x2 y0 y1 = some out → va_P (gD g) vwCl [] H → va_D A [] → va_S A s.heap H locs → lv_has ls 4 [(2, .int x2)] → W p l e rm_X11_beside s mi [.int a0, .int a1].toArray below meth c H locs 0 0 Q (F0 mi 47 ls [.int y0, .int y1]) := by
    intro x2 y0 y1 H locs ls hf hP hD hS hl
    unfold f_X11_beside_J47 at hf
    refine lv_iadd hx hb dX11_beside_47 ?_
    refine lv_topi (fun z2 ez2 => ?_)
    have hf := jbN_e hf ez2
    refine lv_istore_n (lv' := [(3, .int z2), (2, .int x2)]) hx hb dX11_beside_48 rfl hl (by decide) rfl (fun ls hl => ?_)
    refine lv_iload_n hx hb dX11_beside_49 rfl (lv_at hl 1 rfl) ?_
    refine lv_iload_n hx hb dX11_beside_50 rfl (lv_at hl 0 rfl) ?_
    obtain ⟨o3, g4, hf⟩ := jbB_e hf
    refine csa_i (As := [.int x2, .int z2]) (rest := []) ⟨hx, hb, hml, hown, hts⟩ (c_X11_isCell l g x2 z2 _ g4) (va_cwS 2 hts gX11_beside_X11_isCell rfl rfl rfl hd_X11_isCell ⟨Nat.le_of_ble_eq_true rfl, Nat.le_of_ble_eq_true rfl⟩) hK hZ hT hA hP hD hS hl.1 rfl rfl (Nat.le_of_ble_eq_true rfl) ⟨Nat.le_of_ble_eq_true rfl, Nat.le_of_ble_eq_true rfl⟩ dX11_beside_51 (fun H locs hP hD hS => ?_)
    refine lv_if_eq (tgt := 66) hx hb dX11_beside_54 (by decide) (fun hc => ?_) (fun hc => ?_)
    · have hf := jbT hf hc
      refine lv_iconst (v := (-1)) hx hb dX11_beside_66 (by decide) ?_
      cases hf
      subst hQ
      exact rt_i hx hb hrt hlk rfl hK hP hD hS (Nat.le_of_ble_eq_true rfl) (Nat.le_of_ble_eq_true rfl) dX11_beside_67
    · have hf := jbF hf hc
      refine lv_bipush (v := 6) hx hb dX11_beside_57 (by decide) ?_
      refine lv_iload_n hx hb dX11_beside_59 rfl (lv_at hl 1 rfl) ?_
      refine lv_imul hx hb dX11_beside_60 ?_
      refine lv_iload_n hx hb dX11_beside_61 rfl (lv_at hl 0 rfl) ?_
      refine lv_iadd hx hb dX11_beside_62 ?_
      refine lv_goto (tgt := 67) hx hb dX11_beside_63 (by decide) ?_
      cases hf
      subst hQ
      exact rt_i hx hb hrt hlk rfl hK hP hD hS (Nat.le_of_ble_eq_true rfl) (Nat.le_of_ble_eq_true rfl) dX11_beside_67
  have hJ22 : ∀ (x0 : Int32) (x1 : Int32) (y0 : Int32) (y1 : Int32) (H : Heap) (locs : List Loc) (ls : Array Slot), f_X11_beside_J22 x0 x1 y0 y1 = some out → va_P (gD g) vwCl [] H → va_D A [] → va_S A s.heap H locs → lv_has ls 4 [(0, .int x0), (1, .int x1)] → W p l e rm_X11_beside s mi [.int a0, .int a1].toArray below meth c H locs 0 0 Q (F0 mi 22 ls [.int y0, .int y1]) := by
    intro x0 x1 y0 y1 H locs ls hf hP hD hS hl
    unfold f_X11_beside_J22 at hf
    refine lv_iadd hx hb dX11_beside_22 ?_
    refine lv_topi (fun z1 ez1 => ?_)
    have hf := jbN_e hf ez1
    refine lv_istore_n (lv' := [(2, .int z1), (0, .int x0), (1, .int x1)]) hx hb dX11_beside_23 rfl hl (by decide) rfl (fun ls hl => ?_)
    refine lv_iload_n hx hb dX11_beside_24 rfl (lv_at hl 1 rfl) ?_
    refine lv_bipush (v := 6) hx hb dX11_beside_25 (by decide) ?_
    refine lv_irem hx hb dX11_beside_27 (by decide) ?_
    refine lv_iload_n hx hb dX11_beside_28 rfl (lv_at hl 2 rfl) ?_
    refine lv_iconst (v := 1) hx hb dX11_beside_29 (by decide) ?_
    refine lv_icmp_ne (tgt := 37) hx hb dX11_beside_30 (by decide) (fun hc => ?_) (fun hc => ?_)
    · have hf := jbF hf hc
      refine lv_iload_n hx hb dX11_beside_37 rfl (lv_at hl 2 rfl) ?_
      refine lv_iconst (v := 3) hx hb dX11_beside_38 (by decide) ?_
      refine lv_icmp_ne (tgt := 46) hx hb dX11_beside_39 (by decide) (fun hc => ?_) (fun hc => ?_)
      · have hf := jbF hf hc
        refine lv_iconst (v := 0) hx hb dX11_beside_46 (by decide) ?_
        exact hJ47 z1 0 (x0 - x0 / 6 * 6) _ _ _ hf hP hD hS (lv_sub hl [0] rfl)
      · have hf := jbT hf hc
        refine lv_iconst (v := (-1)) hx hb dX11_beside_42 (by decide) ?_
        refine lv_goto (tgt := 47) hx hb dX11_beside_43 (by decide) ?_
        exact hJ47 z1 (-1) (x0 - x0 / 6 * 6) _ _ _ hf hP hD hS (lv_sub hl [0] rfl)
    · have hf := jbT hf hc
      refine lv_iconst (v := 1) hx hb dX11_beside_33 (by decide) ?_
      refine lv_goto (tgt := 47) hx hb dX11_beside_34 (by decide) ?_
      exact hJ47 z1 1 (x0 - x0 / 6 * 6) _ _ _ hf hP hD hS (lv_sub hl [0] rfl)
  refine lv_iload_n hx hb dX11_beside_0 rfl (lv_at hl 0 rfl) ?_
  refine lv_bipush (v := 6) hx hb dX11_beside_1 (by decide) ?_
  refine lv_idiv hx hb dX11_beside_3 (by decide) ?_
  refine lv_iload_n hx hb dX11_beside_4 rfl (lv_at hl 1 rfl) ?_
  refine lv_if_ne (tgt := 12) hx hb dX11_beside_5 (by decide) (fun hc => ?_) (fun hc => ?_)
  · have hf := jbF hf hc
    refine lv_iload_n hx hb dX11_beside_12 rfl (lv_at hl 1 rfl) ?_
    refine lv_iconst (v := 2) hx hb dX11_beside_13 (by decide) ?_
    refine lv_icmp_ne (tgt := 21) hx hb dX11_beside_14 (by decide) (fun hc => ?_) (fun hc => ?_)
    · have hf := jbF hf hc
      refine lv_iconst (v := 0) hx hb dX11_beside_21 (by decide) ?_
      exact hJ22 a0 a1 0 (a0 / 6) _ _ _ hf hP hD hS (lv_sub hl [0, 1] rfl)
    · have hf := jbT hf hc
      refine lv_iconst (v := 1) hx hb dX11_beside_17 (by decide) ?_
      refine lv_goto (tgt := 22) hx hb dX11_beside_18 (by decide) ?_
      exact hJ22 a0 a1 1 (a0 / 6) _ _ _ hf hP hD hS (lv_sub hl [0, 1] rfl)
  · have hf := jbT hf hc
    refine lv_iconst (v := (-1)) hx hb dX11_beside_8 (by decide) ?_
    refine lv_goto (tgt := 22) hx hb dX11_beside_9 (by decide) ?_
    exact hJ22 a0 a1 (-1) (a0 / 6) _ _ _ hf hP hD hS (lv_sub hl [0, 1] rfl)
def f_X11_farFrom (a0 : Int32) (a1 : Int32) : Option Int32 :=
  some ((jAbs ((a0 / 6) - (a1 / 6))) + (jAbs ((a0 - a0 / 6 * 6) - (a1 - a1 / 6 * 6))))
def rm_X11_farFrom : Room := { frames := 1, cells := 0, slots := 0, locals := 25 }
theorem hd_X11_farFrom : yX11_farFrom.cls ≠ "java/lang/invoke/MethodHandle" ∧ yX11_farFrom.cls ≠ "java/lang/invoke/VarHandle" ∧ (parseMethodDescriptor yX11_farFrom.desc).map (fun d => d.parameters.length) = some 2 := by decide +kernel
set_option maxHeartbeats 4000000 in
set_option maxRecDepth 100000 in
theorem c_X11_farFrom (l : Launch) (g : GG)   (a0 : Int32) (a1 : Int32) (out : Int32) (hf : f_X11_farFrom a0 a1 = some out) : MtI l yX11_farFrom wsX11_farFrom rm_X11_farFrom g [] [.int a0, .int a1] out [] 0 0 := by
  refine fun sz => mt_of (cc := cX11_farFrom) (maxL := 2) (ret := (some .int)) (own := RX11) (Qc := fun A => va_Qi (fun r (_ : Unit) => r = out) (fun _ t => PosM g A [] t) A) (by decide +kernel) rfl rfl (Nat.le_of_ble_eq_true rfl) ?_ sz
  intro p e s mi below meth c A ls hB hnm hrt hlk hP hD hl
  obtain ⟨hx, hb, hml, hown, hts, hK, hZ, hT, hA, -⟩ := hB
  have hS : va_S A s.heap s.heap [] := va_S.rf
  have hl : lv_has ls 2 [(0, .int a0), (1, .int a1)] := hl
  have k0 := hts (.methodLink RX11 78 Lib.Math.abs.name) (by decide +kernel)
  have k1 := hts (.static Lib.Math.abs.name) (by decide +kernel)
  have k2 := hts (.initialized "java/lang/Math") (by decide +kernel)
  have k3 := hts (.code Lib.Math.abs.name Lib.Math.abs.code 1 (some .int)) (by decide +kernel)
  generalize hQ : MQ below _ _ _ _ _ _ = Q
  unfold f_X11_farFrom at hf
  refine lv_iload_n hx hb dX11_farFrom_0 rfl (lv_at hl 0 rfl) ?_
  refine lv_bipush (v := 6) hx hb dX11_farFrom_1 (by decide) ?_
  refine lv_idiv hx hb dX11_farFrom_3 (by decide) ?_
  refine lv_iload_n hx hb dX11_farFrom_4 rfl (lv_at hl 1 rfl) ?_
  refine lv_bipush (v := 6) hx hb dX11_farFrom_5 (by decide) ?_
  refine lv_idiv hx hb dX11_farFrom_7 (by decide) ?_
  refine lv_isub hx hb dX11_farFrom_8 ?_
  refine va_mabs hx hb (hml.trans hl.1.symm) hown k0 k1 k2 k3 (Nat.le_of_ble_eq_true rfl) (Nat.le_of_ble_eq_true rfl) (Nat.le_of_ble_eq_true rfl) (Nat.le_of_ble_eq_true rfl) dX11_farFrom_9 ?_
  refine lv_iload_n hx hb dX11_farFrom_12 rfl (lv_at hl 0 rfl) ?_
  refine lv_bipush (v := 6) hx hb dX11_farFrom_13 (by decide) ?_
  refine lv_irem hx hb dX11_farFrom_15 (by decide) ?_
  refine lv_iload_n hx hb dX11_farFrom_16 rfl (lv_at hl 1 rfl) ?_
  refine lv_bipush (v := 6) hx hb dX11_farFrom_17 (by decide) ?_
  refine lv_irem hx hb dX11_farFrom_19 (by decide) ?_
  refine lv_isub hx hb dX11_farFrom_20 ?_
  refine va_mabs hx hb (hml.trans hl.1.symm) hown k0 k1 k2 k3 (Nat.le_of_ble_eq_true rfl) (Nat.le_of_ble_eq_true rfl) (Nat.le_of_ble_eq_true rfl) (Nat.le_of_ble_eq_true rfl) dX11_farFrom_21 ?_
  refine lv_iadd hx hb dX11_farFrom_24 ?_
  cases hf
  subst hQ
  exact rt_i hx hb hrt hlk rfl hK hP hD hS (Nat.le_of_ble_eq_true rfl) (Nat.le_of_ble_eq_true rfl) dX11_farFrom_25
def f_X11_steepest_J45 (mv : MV) (x1 : Int32) (x2 : Int32) (x4 : Int32) (y0 : Int32) : Option (Sum (Int32 × Int32) (Int32 × Int32)) :=
  some (.inl (y0, (x4 + 1)))
def f_X11_steepest_L5 (mv : MV) (x1 : Int32) (x2 : Int32) (x3 : Int32) (x4 : Int32) : Option (Sum (Int32 × Int32) (Int32 × Int32)) :=
  if 4 ≤ x4 then
  (some (.inr (x3, x4)))
  else
  ((f_X11_beside x1 x4).bind fun o1 =>
  if o1 = (-1) then
  (f_X11_steepest_J45 mv x1 x2 x4 x3)
  else
  ((f_X11_of mv o1 0).bind fun o3 =>
  f_X11_steepest_J45 mv x1 x2 x4 (jMax x3 (jAbs (x2 - o3)))))
def f_X11_steepest (mv : MV) (a0 : Int32) (a1 : Int32) : Option Int32 :=
  (jbL (fun s => f_X11_steepest_L5 mv a0 a1 (s.1) (s.2)) 5000 (0, 0)).bind fun o5 =>
  some (o5.1)
def rm_X11_steepest : Room := { frames := 3, cells := 0, slots := 0, locals := 66 }
theorem hd_X11_steepest : yX11_steepest.cls = RX11 ∧ yX11_steepest.cls ≠ "java/lang/invoke/MethodHandle" ∧ yX11_steepest.cls ≠ "java/lang/invoke/VarHandle" ∧ (parseMethodDescriptor yX11_steepest.desc).map (fun d => d.parameters.length) = some 2 := by decide +kernel
set_option maxHeartbeats 4000000 in
set_option maxRecDepth 100000 in
theorem c_X11_steepest (l : Launch) (g : GG) (hm : Nat → Nat) (mv : MV)  (a0 : Int32) (a1 : Int32) (out : Int32) (hf : f_X11_steepest mv a0 a1 = some out) : MtI l yX11_steepest wsX11_steepest rm_X11_steepest g (wM g hm mv) [.ref (hm 0), .int a0, .int a1] out (wM g hm mv) 0 0 := by
  refine fun sz => mt_of (cc := cX11_steepest) (maxL := 6) (ret := (some .int)) (own := RX11) (Qc := fun A => va_Qi (fun r (_ : Unit) => r = out) (fun _ t => PosM g A (wM g hm mv) t) A) (by decide +kernel) rfl rfl (Nat.le_of_ble_eq_true rfl) ?_ sz
  intro p e s mi below meth c A ls hB hnm hrt hlk hP hD hl
  obtain ⟨hx, hb, hml, hown, hts, hK, hZ, hT, hA, -⟩ := hB
  have hS : va_S A s.heap s.heap [] := va_S.rf
  have hl : lv_has ls 6 [(0, .ref (hm 0)), (1, .int a0), (2, .int a1)] := hl
  have k0 := hts (.methodLink RX11 78 Lib.Math.abs.name) (by decide +kernel)
  have k1 := hts (.static Lib.Math.abs.name) (by decide +kernel)
  have k2 := hts (.initialized "java/lang/Math") (by decide +kernel)
  have k3 := hts (.code Lib.Math.abs.name Lib.Math.abs.code 1 (some .int)) (by decide +kernel)
  have k4 := hts (.methodLink RX11 90 Lib.Math.max.name) (by decide +kernel)
  have k5 := hts (.static Lib.Math.max.name) (by decide +kernel)
  have k6 := hts (.code Lib.Math.max.name Lib.Math.max.code 2 (some .int)) (by decide +kernel)
  generalize hQ : MQ below _ _ _ _ _ _ = Q
  unfold f_X11_steepest at hf
  have hL5 : ∀ (x1 : Int32) (x2 : Int32) (n : Nat) (x3 : Int32) (x4 : Int32) (H : Heap) (locs : List Loc) (ls : Array Slot) (o5 : Int32 × Int32), jbL (fun s => f_X11_steepest_L5 mv x1 x2 (s.1) (s.2)) n (x3, x4) = some o5 → va_P (gD g) vwCl (wM g hm mv) H → va_D A (wM g hm mv) → va_S A s.heap H locs → lv_has ls 6 [(0, .ref (hm 0)), (1, .int x1), (2, .int x2), (3, .int x3), (4, .int x4)] → (∀ (H : Heap) (locs : List Loc) (ls : Array Slot), va_P (gD g) vwCl (wM g hm mv) H → va_D A (wM g hm mv) → va_S A s.heap H locs → lv_has ls 6 [(3, .int (o5.1))] → W p l e rm_X11_steepest s mi [.ref (hm 0), .int a0, .int a1].toArray below meth c H locs 0 0 Q (F0 mi 52 ls [])) → W p l e rm_X11_steepest s mi [.ref (hm 0), .int a0, .int a1].toArray below meth c H locs 0 0 Q (F0 mi 5 ls []) := by
    intro x1 x2 n
    induction n with
    | zero => intro x3 x4 H locs ls o5 hf; exact absurd hf (jbL_0 _ _ _)
    | succ n ih =>
      intro x3 x4 H locs ls o5 hf hP hD hS hl hk
      obtain ⟨r, hf, hr⟩ := jbL_e hf
      have hf : f_X11_steepest_L5 mv x1 x2 x3 x4 = some r := hf
      unfold f_X11_steepest_L5 at hf
      have hJ45 : ∀ (x4 : Int32) (y0 : Int32) (H : Heap) (locs : List Loc) (ls : Array Slot) (r : Sum (Int32 × Int32) (Int32 × Int32)), f_X11_steepest_J45 mv x1 x2 x4 y0 = some r → jbR (fun s => f_X11_steepest_L5 mv x1 x2 (s.1) (s.2)) n o5 r → va_P (gD g) vwCl (wM g hm mv) H → va_D A (wM g hm mv) → va_S A s.heap H locs → lv_has ls 6 [(0, .ref (hm 0)), (1, .int x1), (2, .int x2), (4, .int x4)] → W p l e rm_X11_steepest s mi [.ref (hm 0), .int a0, .int a1].toArray below meth c H locs 0 0 Q (F0 mi 45 ls [.int y0]) := by
        intro x4 y0 H locs ls r hf hr hP hD hS hl
        unfold f_X11_steepest_J45 at hf
        refine lv_istore_n (lv' := [(3, .int y0), (0, .ref (hm 0)), (1, .int x1), (2, .int x2), (4, .int x4)]) hx hb dX11_steepest_45 rfl hl (by decide) rfl (fun ls hl => ?_)
        refine lv_iinc (v := (x4 + 1)) (lv' := [(4, .int (x4 + 1)), (3, .int y0), (0, .ref (hm 0)), (1, .int x1), (2, .int x2)]) hx hb dX11_steepest_46 hl (k := 4) rfl rfl (by decide) rfl (fun ls hl => ?_)
        refine lv_goto (tgt := 5) hx hb dX11_steepest_49 (by decide) ?_
        cases hf
        exact ih y0 (x4 + 1) _ _ _ _ hr hP hD hS (lv_sub hl [2, 3, 4, 1, 0] rfl) hk
      refine lv_iload hx hb dX11_steepest_5 (lv_at hl 4 rfl) ?_
      refine lv_iconst (v := 4) hx hb dX11_steepest_7 (by decide) ?_
      refine lv_icmp_ge (tgt := 52) hx hb dX11_steepest_8 (by decide) (fun hc => ?_) (fun hc => ?_)
      · have hf := jbT hf hc
        cases hf
        obtain rfl := jbR_r hr
        exact hk _ _ _ hP hD hS (lv_sub hl [3] rfl)
      · have hf := jbF hf hc
        refine lv_iload_n hx hb dX11_steepest_11 rfl (lv_at hl 1 rfl) ?_
        refine lv_iload hx hb dX11_steepest_12 (lv_at hl 4 rfl) ?_
        obtain ⟨o1, g2, hf⟩ := jbB_e hf
        refine csn_i (As := [.int x1, .int x4]) (rest := []) ⟨hx, hb, hml, hown, hts⟩ (c_X11_beside l g x1 x4 _ g2) (va_cwS 2 hts gX11_steepest_X11_beside rfl rfl rfl hd_X11_beside ⟨Nat.le_of_ble_eq_true rfl, Nat.le_of_ble_eq_true rfl⟩) hK hZ hT hA hP hD hS hl.1 rfl rfl (Nat.le_of_ble_eq_true rfl) ⟨Nat.le_of_ble_eq_true rfl, Nat.le_of_ble_eq_true rfl⟩ dX11_steepest_14 (fun H locs hP hD hS => ?_)
        refine lv_istore (lv' := [(5, .int o1), (0, .ref (hm 0)), (1, .int x1), (2, .int x2), (3, .int x3), (4, .int x4)]) hx hb dX11_steepest_17 hl (by decide) rfl (fun ls hl => ?_)
        refine lv_iload hx hb dX11_steepest_19 (lv_at hl 0 rfl) ?_
        refine lv_iconst (v := (-1)) hx hb dX11_steepest_21 (by decide) ?_
        refine lv_icmp_ne (tgt := 29) hx hb dX11_steepest_22 (by decide) (fun hc => ?_) (fun hc => ?_)
        · have hf := jbF hf hc
          refine lv_iload_n hx hb dX11_steepest_29 rfl (lv_at hl 4 rfl) ?_
          refine lv_iload_n hx hb dX11_steepest_30 rfl (lv_at hl 3 rfl) ?_
          refine lv_aload_n hx hb dX11_steepest_31 rfl (lv_at hl 1 rfl) ?_
          refine lv_iload hx hb dX11_steepest_32 (lv_at hl 0 rfl) ?_
          refine lv_iconst (v := 0) hx hb dX11_steepest_34 (by decide) ?_
          obtain ⟨o3, g4, hf⟩ := jbB_e hf
          refine cva_i (As := [.int o1, .int 0]) (rest := [.int x2, .int x3]) ⟨hx, hb, hml, hown, hts⟩ (c_X11_of l g hm mv o1 0 _ g4) (cwV 2 hts gX11_steepest_X11_of rfl rfl rfl hd_X11_of ⟨Nat.le_of_ble_eq_true rfl, Nat.le_of_ble_eq_true rfl⟩) hK hZ hT hA hP hD hS hl.1 (va_recv hK hP (ci := 10) (q0 := 0) rfl rfl) rfl rfl (Nat.le_of_ble_eq_true rfl) ⟨Nat.le_of_ble_eq_true rfl, Nat.le_of_ble_eq_true rfl⟩ dX11_steepest_35 (fun H locs hP hD hS => ?_)
          refine lv_isub hx hb dX11_steepest_38 ?_
          refine va_mabs hx hb (hml.trans hl.1.symm) hown k0 k1 k2 k3 (Nat.le_of_ble_eq_true rfl) (Nat.le_of_ble_eq_true rfl) (Nat.le_of_ble_eq_true rfl) (Nat.le_of_ble_eq_true rfl) dX11_steepest_39 ?_
          refine va_mmax hx hb (hml.trans hl.1.symm) hown k4 k5 k2 k6 (Nat.le_of_ble_eq_true rfl) (Nat.le_of_ble_eq_true rfl) (Nat.le_of_ble_eq_true rfl) (Nat.le_of_ble_eq_true rfl) dX11_steepest_42 ?_
          exact hJ45 x4 (jMax x3 (jAbs (x2 - o3))) _ _ _ _ hf hr hP hD hS (lv_sub hl [1, 2, 3, 5] rfl)
        · have hf := jbT hf hc
          refine lv_iload_n hx hb dX11_steepest_25 rfl (lv_at hl 4 rfl) ?_
          refine lv_goto (tgt := 45) hx hb dX11_steepest_26 (by decide) ?_
          exact hJ45 x4 x3 _ _ _ _ hf hr hP hD hS (lv_sub hl [1, 2, 3, 5] rfl)
  refine lv_iconst (v := 0) hx hb dX11_steepest_0 (by decide) ?_
  refine lv_istore_n (lv' := [(3, .int 0), (0, .ref (hm 0)), (1, .int a0), (2, .int a1)]) hx hb dX11_steepest_1 rfl hl (by decide) rfl (fun ls hl => ?_)
  refine lv_iconst (v := 0) hx hb dX11_steepest_2 (by decide) ?_
  refine lv_istore (lv' := [(4, .int 0), (3, .int 0), (0, .ref (hm 0)), (1, .int a0), (2, .int a1)]) hx hb dX11_steepest_3 hl (by decide) rfl (fun ls hl => ?_)
  obtain ⟨o5, hg, hf⟩ := jbB_e hf
  refine hL5 a0 a1 _ 0 0 _ _ _ _ hg hP hD hS (lv_sub hl [2, 3, 4, 1, 0] rfl) (fun H locs ls hP hD hS hl => ?_)
  refine lv_iload_n hx hb dX11_steepest_52 rfl (lv_at hl 0 rfl) ?_
  cases hf
  subst hQ
  exact rt_i hx hb hrt hlk rfl hK hP hD hS (Nat.le_of_ble_eq_true rfl) (Nat.le_of_ble_eq_true rfl) dX11_steepest_53
def f_X11_isStone (a0 : Int32) : Option Int32 :=
  (f_X11_isIn a0 0 3).bind fun o1 =>
  if vp_nar .boolean o1 = o1 then some o1 else none
def rm_X11_isStone : Room := { frames := 1, cells := 0, slots := 0, locals := 22 }
theorem hd_X11_isStone : yX11_isStone.cls ≠ "java/lang/invoke/MethodHandle" ∧ yX11_isStone.cls ≠ "java/lang/invoke/VarHandle" ∧ (parseMethodDescriptor yX11_isStone.desc).map (fun d => d.parameters.length) = some 1 := by decide +kernel
set_option maxHeartbeats 4000000 in
set_option maxRecDepth 100000 in
theorem c_X11_isStone (l : Launch) (g : GG)   (a0 : Int32) (out : Int32) (hf : f_X11_isStone a0 = some out) : MtI l yX11_isStone wsX11_isStone rm_X11_isStone g [] [.int a0] out [] 0 0 := by
  refine fun sz => mt_of (cc := cX11_isStone) (maxL := 1) (ret := (some .boolean)) (own := RX11) (Qc := fun A => va_Qi (fun r (_ : Unit) => r = out) (fun _ t => PosM g A [] t) A) (by decide +kernel) rfl rfl (Nat.le_of_ble_eq_true rfl) ?_ sz
  intro p e s mi below meth c A ls hB hnm hrt hlk hP hD hl
  obtain ⟨hx, hb, hml, hown, hts, hK, hZ, hT, hA, -⟩ := hB
  have hS : va_S A s.heap s.heap [] := va_S.rf
  have hl : lv_has ls 1 [(0, .int a0)] := hl
  generalize hQ : MQ below _ _ _ _ _ _ = Q
  unfold f_X11_isStone at hf
  refine lv_iload_n hx hb dX11_isStone_0 rfl (lv_at hl 0 rfl) ?_
  refine lv_iconst (v := 0) hx hb dX11_isStone_1 (by decide) ?_
  refine lv_iconst (v := 3) hx hb dX11_isStone_2 (by decide) ?_
  obtain ⟨o1, g2, hf⟩ := jbB_e hf
  refine csa_i (As := [.int a0, .int 0, .int 3]) (rest := []) ⟨hx, hb, hml, hown, hts⟩ (c_X11_isIn l g a0 0 3 _ g2) (va_cwS 3 hts gX11_isStone_X11_isIn rfl rfl rfl hd_X11_isIn ⟨Nat.le_of_ble_eq_true rfl, Nat.le_of_ble_eq_true rfl⟩) hK hZ hT hA hP hD hS hl.1 rfl rfl (Nat.le_of_ble_eq_true rfl) ⟨Nat.le_of_ble_eq_true rfl, Nat.le_of_ble_eq_true rfl⟩ dX11_isStone_3 (fun H locs hP hD hS => ?_)
  obtain ⟨h3, hf⟩ := jbA_e hf
  cases hf
  subst hQ
  exact rt_i hx hb hrt hlk (nar_z h3) hK hP hD hS (Nat.le_of_ble_eq_true rfl) (Nat.le_of_ble_eq_true rfl) dX11_isStone_6
def f_X11_weightOf (a0 : Int32) : Option Int32 :=
  some (2 + a0)
def rm_X11_weightOf : Room := { frames := 0, cells := 0, slots := 0, locals := 0 }
theorem hd_X11_weightOf : yX11_weightOf.cls ≠ "java/lang/invoke/MethodHandle" ∧ yX11_weightOf.cls ≠ "java/lang/invoke/VarHandle" ∧ (parseMethodDescriptor yX11_weightOf.desc).map (fun d => d.parameters.length) = some 1 := by decide +kernel
set_option maxHeartbeats 4000000 in
set_option maxRecDepth 100000 in
theorem c_X11_weightOf (l : Launch) (g : GG)   (a0 : Int32) (out : Int32) (hf : f_X11_weightOf a0 = some out) : MtI l yX11_weightOf wsX11_weightOf rm_X11_weightOf g [] [.int a0] out [] 0 0 := by
  refine fun sz => mt_of (cc := cX11_weightOf) (maxL := 1) (ret := (some .int)) (own := RX11) (Qc := fun A => va_Qi (fun r (_ : Unit) => r = out) (fun _ t => PosM g A [] t) A) (by decide +kernel) rfl rfl (Nat.le_of_ble_eq_true rfl) ?_ sz
  intro p e s mi below meth c A ls hB hnm hrt hlk hP hD hl
  obtain ⟨hx, hb, hml, hown, hts, hK, hZ, hT, hA, -⟩ := hB
  have hS : va_S A s.heap s.heap [] := va_S.rf
  have hl : lv_has ls 1 [(0, .int a0)] := hl
  generalize hQ : MQ below _ _ _ _ _ _ = Q
  unfold f_X11_weightOf at hf
  refine lv_iconst (v := 2) hx hb dX11_weightOf_0 (by decide) ?_
  refine lv_iload_n hx hb dX11_weightOf_1 rfl (lv_at hl 0 rfl) ?_
  refine lv_iadd hx hb dX11_weightOf_2 ?_
  cases hf
  subst hQ
  exact rt_i hx hb hrt hlk rfl hK hP hD hS (Nat.le_of_ble_eq_true rfl) (Nat.le_of_ble_eq_true rfl) dX11_weightOf_3
def f_X11_sets (mv : MV) (a0 : Int32) (a1 : Int32) (a2 : Int32) : Option (Int32 × MV) :=
  (f_X11_cellAt a0 a1).bind fun o1 =>
  (f_X11_of mv o1 1).bind fun o3 =>
  (f_X11_isCell a0 a1).bind fun o5 =>
  (f_X11_isStone a2).bind fun o7 =>
  (f_X11_holds mv o5 o7 1 1).bind fun o9 =>
  if (o9.1) = 0 then
  (some (o3, (o9.2)))
  else
  ((f_X11_placeOf o1).bind fun o11 =>
  if jIn (o11 + 1) 229 then
  jbN (mSNow (upd (mNow (o9.2)) (o11 + 1).toNatClampNeg a2) (o9.2)) fun w14 =>
  some (o3, w14)
  else none)
def rm_X11_sets : Room := { frames := 3, cells := 0, slots := 0, locals := 64 }
theorem hd_X11_sets : yX11_sets.cls = RX11 ∧ yX11_sets.cls ≠ "java/lang/invoke/MethodHandle" ∧ yX11_sets.cls ≠ "java/lang/invoke/VarHandle" ∧ (parseMethodDescriptor yX11_sets.desc).map (fun d => d.parameters.length) = some 3 := by decide +kernel
set_option maxHeartbeats 4000000 in
set_option maxRecDepth 100000 in
theorem c_X11_sets (l : Launch) (g : GG) (hm : Nat → Nat) (mv : MV)  (a0 : Int32) (a1 : Int32) (a2 : Int32) (out : Int32 × MV) (hf : f_X11_sets mv a0 a1 a2 = some out) : MtI l yX11_sets wsX11_sets rm_X11_sets g (wM g hm mv) [.ref (hm 0), .int a0, .int a1, .int a2] (out.1) (wM g hm (out.2)) 0 0 := by
  refine fun sz => mt_of (cc := cX11_sets) (maxL := 6) (ret := (some .int)) (own := RX11) (Qc := fun A => va_Qi (fun r (_ : Unit) => r = (out.1)) (fun _ t => PosM g A (wM g hm (out.2)) t) A) (by decide +kernel) rfl rfl (Nat.le_of_ble_eq_true rfl) ?_ sz
  intro p e s mi below meth c A ls hB hnm hrt hlk hP hD hl
  obtain ⟨hx, hb, hml, hown, hts, hK, hZ, hT, hA, -⟩ := hB
  have hS : va_S A s.heap s.heap [] := va_S.rf
  have hl : lv_has ls 6 [(0, .ref (hm 0)), (1, .int a0), (2, .int a1), (3, .int a2)] := hl
  have hinX11 : ∀ w ∈ wsX110, w ∈ wsX11_sets := by decide +kernel
  have k0 := hts (.fieldLink RX11 9 "TerraceQuarryModel" "now" "[I") (by decide +kernel)
  generalize hQ : MQ below _ _ _ _ _ _ = Q
  unfold f_X11_sets at hf
  refine lv_iload_n hx hb dX11_sets_0 rfl (lv_at hl 1 rfl) ?_
  refine lv_iload_n hx hb dX11_sets_1 rfl (lv_at hl 2 rfl) ?_
  obtain ⟨o1, g2, hf⟩ := jbB_e hf
  refine csn_i (As := [.int a0, .int a1]) (rest := []) ⟨hx, hb, hml, hown, hts⟩ (c_X11_cellAt l g a0 a1 _ g2) (va_cwS 2 hts gX11_sets_X11_cellAt rfl rfl rfl hd_X11_cellAt ⟨Nat.le_of_ble_eq_true rfl, Nat.le_of_ble_eq_true rfl⟩) hK hZ hT hA hP hD hS hl.1 rfl rfl (Nat.le_of_ble_eq_true rfl) ⟨Nat.le_of_ble_eq_true rfl, Nat.le_of_ble_eq_true rfl⟩ dX11_sets_2 (fun H locs hP hD hS => ?_)
  refine lv_istore (lv' := [(4, .int o1), (0, .ref (hm 0)), (1, .int a0), (2, .int a1), (3, .int a2)]) hx hb dX11_sets_5 hl (by decide) rfl (fun ls hl => ?_)
  refine lv_aload_n hx hb dX11_sets_7 rfl (lv_at hl 1 rfl) ?_
  refine lv_iload hx hb dX11_sets_8 (lv_at hl 0 rfl) ?_
  refine lv_iconst (v := 1) hx hb dX11_sets_10 (by decide) ?_
  obtain ⟨o3, g4, hf⟩ := jbB_e hf
  refine cva_i (As := [.int o1, .int 1]) (rest := []) ⟨hx, hb, hml, hown, hts⟩ (c_X11_of l g hm mv o1 1 _ g4) (cwV 2 hts gX11_sets_X11_of rfl rfl rfl hd_X11_of ⟨Nat.le_of_ble_eq_true rfl, Nat.le_of_ble_eq_true rfl⟩) hK hZ hT hA hP hD hS hl.1 (va_recv hK hP (ci := 10) (q0 := 0) rfl rfl) rfl rfl (Nat.le_of_ble_eq_true rfl) ⟨Nat.le_of_ble_eq_true rfl, Nat.le_of_ble_eq_true rfl⟩ dX11_sets_11 (fun H locs hP hD hS => ?_)
  refine lv_istore (lv' := [(5, .int o3), (4, .int o1), (0, .ref (hm 0)), (1, .int a0), (2, .int a1), (3, .int a2)]) hx hb dX11_sets_14 hl (by decide) rfl (fun ls hl => ?_)
  refine lv_aload_n hx hb dX11_sets_16 rfl (lv_at hl 2 rfl) ?_
  refine lv_iload_n hx hb dX11_sets_17 rfl (lv_at hl 3 rfl) ?_
  refine lv_iload_n hx hb dX11_sets_18 rfl (lv_at hl 4 rfl) ?_
  obtain ⟨o5, g6, hf⟩ := jbB_e hf
  refine csn_i (As := [.int a0, .int a1]) (rest := [.ref (hm 0)]) ⟨hx, hb, hml, hown, hts⟩ (c_X11_isCell l g a0 a1 _ g6) (va_cwS 2 hts gX11_sets_X11_isCell rfl rfl rfl hd_X11_isCell ⟨Nat.le_of_ble_eq_true rfl, Nat.le_of_ble_eq_true rfl⟩) hK hZ hT hA hP hD hS hl.1 rfl rfl (Nat.le_of_ble_eq_true rfl) ⟨Nat.le_of_ble_eq_true rfl, Nat.le_of_ble_eq_true rfl⟩ dX11_sets_19 (fun H locs hP hD hS => ?_)
  refine lv_iload_n hx hb dX11_sets_22 rfl (lv_at hl 5 rfl) ?_
  obtain ⟨o7, g8, hf⟩ := jbB_e hf
  refine csn_i (As := [.int a2]) (rest := [.int o5, .ref (hm 0)]) ⟨hx, hb, hml, hown, hts⟩ (c_X11_isStone l g a2 _ g8) (va_cwS 1 hts gX11_sets_X11_isStone rfl rfl rfl hd_X11_isStone ⟨Nat.le_of_ble_eq_true rfl, Nat.le_of_ble_eq_true rfl⟩) hK hZ hT hA hP hD hS hl.1 rfl rfl (Nat.le_of_ble_eq_true rfl) ⟨Nat.le_of_ble_eq_true rfl, Nat.le_of_ble_eq_true rfl⟩ dX11_sets_23 (fun H locs hP hD hS => ?_)
  refine lv_iconst (v := 1) hx hb dX11_sets_26 (by decide) ?_
  refine lv_iconst (v := 1) hx hb dX11_sets_27 (by decide) ?_
  obtain ⟨o9, g10, hf⟩ := jbB_e hf
  refine cva_i (As := [.int o5, .int o7, .int 1, .int 1]) (rest := []) ⟨hx, hb, hml, hown, hts⟩ (c_X11_holds l g hm mv o5 o7 1 1 _ g10) (cwV 4 hts gX11_sets_X11_holds rfl rfl rfl hd_X11_holds ⟨Nat.le_of_ble_eq_true rfl, Nat.le_of_ble_eq_true rfl⟩) hK hZ hT hA hP hD hS hl.1 (va_recv hK hP (ci := 10) (q0 := 0) rfl rfl) rfl rfl (Nat.le_of_ble_eq_true rfl) ⟨Nat.le_of_ble_eq_true rfl, Nat.le_of_ble_eq_true rfl⟩ dX11_sets_28 (fun H locs hP hD hS => ?_)
  refine lv_if_eq (tgt := 47) hx hb dX11_sets_31 (by decide) (fun hc => ?_) (fun hc => ?_)
  · have hf := jbT hf hc
    refine lv_iload hx hb dX11_sets_47 (lv_at hl 0 rfl) ?_
    cases hf
    subst hQ
    exact rt_i hx hb hrt hlk rfl hK hP hD hS (Nat.le_of_ble_eq_true rfl) (Nat.le_of_ble_eq_true rfl) dX11_sets_49
  · have hf := jbF hf hc
    refine lv_aload_n hx hb dX11_sets_34 rfl (lv_at hl 2 rfl) ?_
    refine va_get (D := gD g) (ci := 10) (v := .ref (hm 1)) (C := RX11) (T := TX11) (N := 19) hx hb hts hinX11 hown hK hP 0 rfl rfl 0 (by decide) k0 (fun _ h9 => h9) rfl dX11_sets_35 ?_
    refine lv_iload hx hb dX11_sets_38 (lv_at hl 1 rfl) ?_
    obtain ⟨o11, g12, hf⟩ := jbB_e hf
    refine csn_i (As := [.int o1]) (rest := [.ref (hm 1)]) ⟨hx, hb, hml, hown, hts⟩ (c_X11_placeOf l g o1 _ g12) (va_cwS 1 hts gX11_sets_X11_placeOf rfl rfl rfl hd_X11_placeOf ⟨Nat.le_of_ble_eq_true rfl, Nat.le_of_ble_eq_true rfl⟩) hK hZ hT hA hP hD hS hl.1 rfl rfl (Nat.le_of_ble_eq_true rfl) ⟨Nat.le_of_ble_eq_true rfl, Nat.le_of_ble_eq_true rfl⟩ dX11_sets_40 (fun H locs hP hD hS => ?_)
    refine lv_iconst (v := 1) hx hb dX11_sets_43 (by decide) ?_
    refine lv_iadd hx hb dX11_sets_44 ?_
    refine lv_iload_n hx hb dX11_sets_45 rfl (lv_at hl 5 rfl) ?_
    obtain ⟨h13, hf⟩ := jbA_e hf
    refine va_iast hx hb hK hP hD hS 1 0 rfl rfl h13 dX11_sets_46 (fun H locs hP hD hS => ?_)
    obtain ⟨w14, ew14⟩ : ∃ y, y = (mSNow (upd (mNow (o9.2)) (o11 + 1).toNatClampNeg a2) (o9.2)) := ⟨_, rfl⟩
    have hf := jbN_e hf ew14
    have hP : va_P (gD g) vwCl (wM g hm w14) H := by rw [ew14]; exact hP
    have hD : va_D A (wM g hm w14) := by rw [ew14]; exact hD
    refine lv_iload hx hb dX11_sets_47 (lv_at hl 0 rfl) ?_
    cases hf
    subst hQ
    exact rt_i hx hb hrt hlk rfl hK hP hD hS (Nat.le_of_ble_eq_true rfl) (Nat.le_of_ble_eq_true rfl) dX11_sets_49
def f_X11_setStone (mv : MV) (a0 : Int32) (a1 : Int32) (a2 : Int32) : Option (Int32 × MV) :=
  (f_X11_begins mv).bind fun o1 =>
  (f_X11_sets o1 a0 a1 a2).bind fun o3 =>
  (f_X11_ends (o3.2) (o3.1)).bind fun o5 =>
  some ((o5.1), (o5.2))
def rm_X11_setStone : Room := { frames := 4, cells := 0, slots := 0, locals := 89 }
theorem hd_X11_setStone : yX11_setStone.cls = RX11 ∧ yX11_setStone.cls ≠ "java/lang/invoke/MethodHandle" ∧ yX11_setStone.cls ≠ "java/lang/invoke/VarHandle" ∧ (parseMethodDescriptor yX11_setStone.desc).map (fun d => d.parameters.length) = some 3 := by decide +kernel
set_option maxHeartbeats 4000000 in
set_option maxRecDepth 100000 in
theorem c_X11_setStone (l : Launch) (g : GG) (hm : Nat → Nat) (mv : MV)  (a0 : Int32) (a1 : Int32) (a2 : Int32) (out : Int32 × MV) (hf : f_X11_setStone mv a0 a1 a2 = some out) : MtI l yX11_setStone wsX11_setStone rm_X11_setStone g (wM g hm mv) [.ref (hm 0), .int a0, .int a1, .int a2] (out.1) (wM g hm (out.2)) 0 0 := by
  refine fun sz => mt_of (cc := cX11_setStone) (maxL := 4) (ret := (some .int)) (own := RX11) (Qc := fun A => va_Qi (fun r (_ : Unit) => r = (out.1)) (fun _ t => PosM g A (wM g hm (out.2)) t) A) (by decide +kernel) rfl rfl (Nat.le_of_ble_eq_true rfl) ?_ sz
  intro p e s mi below meth c A ls hB hnm hrt hlk hP hD hl
  obtain ⟨hx, hb, hml, hown, hts, hK, hZ, hT, hA, -⟩ := hB
  have hS : va_S A s.heap s.heap [] := va_S.rf
  have hl : lv_has ls 4 [(0, .ref (hm 0)), (1, .int a0), (2, .int a1), (3, .int a2)] := hl
  generalize hQ : MQ below _ _ _ _ _ _ = Q
  unfold f_X11_setStone at hf
  refine lv_aload_n hx hb dX11_setStone_0 rfl (lv_at hl 0 rfl) ?_
  obtain ⟨o1, g2, hf⟩ := jbB_e hf
  refine cva_v (As := []) (rest := []) ⟨hx, hb, hml, hown, hts⟩ (c_X11_begins l g hm mv _ g2) (cwV 0 hts gX11_setStone_X11_begins rfl rfl rfl hd_X11_begins ⟨Nat.le_of_ble_eq_true rfl, Nat.le_of_ble_eq_true rfl⟩) hK hZ hT hA hP hD hS hl.1 (va_recv hK hP (ci := 10) (q0 := 0) rfl rfl) rfl rfl (Nat.le_of_ble_eq_true rfl) ⟨Nat.le_of_ble_eq_true rfl, Nat.le_of_ble_eq_true rfl⟩ dX11_setStone_1 (fun H locs hP hD hS => ?_)
  refine lv_aload_n hx hb dX11_setStone_4 rfl (lv_at hl 0 rfl) ?_
  refine lv_aload_n hx hb dX11_setStone_5 rfl (lv_at hl 0 rfl) ?_
  refine lv_iload_n hx hb dX11_setStone_6 rfl (lv_at hl 1 rfl) ?_
  refine lv_iload_n hx hb dX11_setStone_7 rfl (lv_at hl 2 rfl) ?_
  refine lv_iload_n hx hb dX11_setStone_8 rfl (lv_at hl 3 rfl) ?_
  obtain ⟨o3, g4, hf⟩ := jbB_e hf
  refine cva_i (As := [.int a0, .int a1, .int a2]) (rest := [.ref (hm 0)]) ⟨hx, hb, hml, hown, hts⟩ (c_X11_sets l g hm o1 a0 a1 a2 _ g4) (cwV 3 hts gX11_setStone_X11_sets rfl rfl rfl hd_X11_sets ⟨Nat.le_of_ble_eq_true rfl, Nat.le_of_ble_eq_true rfl⟩) hK hZ hT hA hP hD hS hl.1 (va_recv hK hP (ci := 10) (q0 := 0) rfl rfl) rfl rfl (Nat.le_of_ble_eq_true rfl) ⟨Nat.le_of_ble_eq_true rfl, Nat.le_of_ble_eq_true rfl⟩ dX11_setStone_9 (fun H locs hP hD hS => ?_)
  obtain ⟨o5, g6, hf⟩ := jbB_e hf
  refine cva_i (As := [.int (o3.1)]) (rest := []) ⟨hx, hb, hml, hown, hts⟩ (c_X11_ends l g hm (o3.2) (o3.1) _ g6) (cwV 1 hts gX11_setStone_X11_ends rfl rfl rfl hd_X11_ends ⟨Nat.le_of_ble_eq_true rfl, Nat.le_of_ble_eq_true rfl⟩) hK hZ hT hA hP hD hS hl.1 (va_recv hK hP (ci := 10) (q0 := 0) rfl rfl) rfl rfl (Nat.le_of_ble_eq_true rfl) ⟨Nat.le_of_ble_eq_true rfl, Nat.le_of_ble_eq_true rfl⟩ dX11_setStone_12 (fun H locs hP hD hS => ?_)
  cases hf
  subst hQ
  exact rt_i hx hb hrt hlk rfl hK hP hD hS (Nat.le_of_ble_eq_true rfl) (Nat.le_of_ble_eq_true rfl) dX11_setStone_15
def f_X11_mayCut_J76 (mv : MV) (y0 : Int32) (y1 : Int32) (y2 : Int32) : Option (Int32 × MV) :=
  (f_X11_holds mv y2 y1 y0 1).bind fun o16 =>
  if vp_nar .boolean (o16.1) = (o16.1) then some ((o16.1), (o16.2)) else none
def f_X11_mayCut_J39 (mv : MV) (x1 : Int32) (x2 : Int32) (x3 : Int32) (y0 : Int32) : Option (Int32 × MV) :=
  (f_X11_isCell x1 x2).bind fun o9 =>
  (f_X11_of mv x3 0).bind fun o11 =>
  (f_X11_steepest mv x3 (o11 - 1)).bind fun o13 =>
  if jIn 0 229 then
  if ((mNow mv) (0 : Int32).toNatClampNeg) < o13 then
  (f_X11_mayCut_J76 mv 0 y0 o9)
  else
  (f_X11_mayCut_J76 mv 1 y0 o9)
  else none
def f_X11_mayCut_J38 (mv : MV) (x1 : Int32) (x2 : Int32) (x3 : Int32) : Option (Int32 × MV) :=
  f_X11_mayCut_J39 mv x1 x2 x3 0
def f_X11_mayCut (mv : MV) (a0 : Int32) (a1 : Int32) : Option (Int32 × MV) :=
  (f_X11_cellAt a0 a1).bind fun o1 =>
  (f_X11_of mv o1 2).bind fun o3 =>
  if o3 = 0 then
  ((f_X11_of mv o1 0).bind fun o5 =>
  if o5 ≤ 0 then
  (f_X11_mayCut_J38 mv a0 a1 o1)
  else
  ((f_X11_of mv o1 3).bind fun o7 =>
  if 3 ≤ o7 then
  (f_X11_mayCut_J38 mv a0 a1 o1)
  else
  (f_X11_mayCut_J39 mv a0 a1 o1 1)))
  else
  (f_X11_mayCut_J38 mv a0 a1 o1)
def rm_X11_mayCut : Room := { frames := 4, cells := 0, slots := 0, locals := 91 }
theorem hd_X11_mayCut : yX11_mayCut.cls = RX11 ∧ yX11_mayCut.cls ≠ "java/lang/invoke/MethodHandle" ∧ yX11_mayCut.cls ≠ "java/lang/invoke/VarHandle" ∧ (parseMethodDescriptor yX11_mayCut.desc).map (fun d => d.parameters.length) = some 2 := by decide +kernel
set_option maxHeartbeats 4000000 in
set_option maxRecDepth 100000 in
theorem c_X11_mayCut (l : Launch) (g : GG) (hm : Nat → Nat) (mv : MV)  (a0 : Int32) (a1 : Int32) (out : Int32 × MV) (hf : f_X11_mayCut mv a0 a1 = some out) : MtI l yX11_mayCut wsX11_mayCut rm_X11_mayCut g (wM g hm mv) [.ref (hm 0), .int a0, .int a1] (out.1) (wM g hm (out.2)) 0 0 := by
  refine fun sz => mt_of (cc := cX11_mayCut) (maxL := 5) (ret := (some .boolean)) (own := RX11) (Qc := fun A => va_Qi (fun r (_ : Unit) => r = (out.1)) (fun _ t => PosM g A (wM g hm (out.2)) t) A) (by decide +kernel) rfl rfl (Nat.le_of_ble_eq_true rfl) ?_ sz
  intro p e s mi below meth c A ls hB hnm hrt hlk hP hD hl
  obtain ⟨hx, hb, hml, hown, hts, hK, hZ, hT, hA, -⟩ := hB
  have hS : va_S A s.heap s.heap [] := va_S.rf
  have hl : lv_has ls 5 [(0, .ref (hm 0)), (1, .int a0), (2, .int a1)] := hl
  have hinX11 : ∀ w ∈ wsX110, w ∈ wsX11_mayCut := by decide +kernel
  have k0 := hts (.fieldLink RX11 9 "TerraceQuarryModel" "now" "[I") (by decide +kernel)
  generalize hQ : MQ below _ _ _ _ _ _ = Q
  unfold f_X11_mayCut at hf
  have hJ76 : ∀ (mv : MV) (y0 : Int32) (y1 : Int32) (y2 : Int32) (H : Heap) (locs : List Loc) (ls : Array Slot), f_X11_mayCut_J76 mv y0 y1 y2 = some out → va_P (gD g) vwCl (wM g hm mv) H → va_D A (wM g hm mv) → va_S A s.heap H locs → lv_has ls 5 [] → W p l e rm_X11_mayCut s mi [.ref (hm 0), .int a0, .int a1].toArray below meth c H locs 0 0 Q (F0 mi 76 ls [.int y0, .int y1, .int y2, .ref (hm 0)]) := by
    intro mv y0 y1 y2 H locs ls hf hP hD hS hl
    unfold f_X11_mayCut_J76 at hf
    refine lv_iconst (v := 1) hx hb dX11_mayCut_76 (by decide) ?_
    obtain ⟨o16, g17, hf⟩ := jbB_e hf
    refine cva_i (As := [.int y2, .int y1, .int y0, .int 1]) (rest := []) ⟨hx, hb, hml, hown, hts⟩ (c_X11_holds l g hm mv y2 y1 y0 1 _ g17) (cwV 4 hts gX11_mayCut_X11_holds rfl rfl rfl hd_X11_holds ⟨Nat.le_of_ble_eq_true rfl, Nat.le_of_ble_eq_true rfl⟩) hK hZ hT hA hP hD hS hl.1 (va_recv hK hP (ci := 10) (q0 := 0) rfl rfl) rfl rfl (Nat.le_of_ble_eq_true rfl) ⟨Nat.le_of_ble_eq_true rfl, Nat.le_of_ble_eq_true rfl⟩ dX11_mayCut_77 (fun H locs hP hD hS => ?_)
    obtain ⟨h18, hf⟩ := jbA_e hf
    cases hf
    subst hQ
    exact rt_i hx hb hrt hlk (nar_z h18) hK hP hD hS (Nat.le_of_ble_eq_true rfl) (Nat.le_of_ble_eq_true rfl) dX11_mayCut_80
  have hJ39 : ∀ (mv : MV) (x1 : Int32) (x2 : Int32) (x3 : Int32) (y0 : Int32) (H : Heap) (locs : List Loc) (ls : Array Slot), f_X11_mayCut_J39 mv x1 x2 x3 y0 = some out → va_P (gD g) vwCl (wM g hm mv) H → va_D A (wM g hm mv) → va_S A s.heap H locs → lv_has ls 5 [(0, .ref (hm 0)), (1, .int x1), (2, .int x2), (3, .int x3)] → W p l e rm_X11_mayCut s mi [.ref (hm 0), .int a0, .int a1].toArray below meth c H locs 0 0 Q (F0 mi 39 ls [.int y0]) := by
    intro mv x1 x2 x3 y0 H locs ls hf hP hD hS hl
    unfold f_X11_mayCut_J39 at hf
    refine lv_istore (lv' := [(4, .int y0), (0, .ref (hm 0)), (1, .int x1), (2, .int x2), (3, .int x3)]) hx hb dX11_mayCut_39 hl (by decide) rfl (fun ls hl => ?_)
    refine lv_aload_n hx hb dX11_mayCut_41 rfl (lv_at hl 1 rfl) ?_
    refine lv_iload_n hx hb dX11_mayCut_42 rfl (lv_at hl 2 rfl) ?_
    refine lv_iload_n hx hb dX11_mayCut_43 rfl (lv_at hl 3 rfl) ?_
    obtain ⟨o9, g10, hf⟩ := jbB_e hf
    refine csn_i (As := [.int x1, .int x2]) (rest := [.ref (hm 0)]) ⟨hx, hb, hml, hown, hts⟩ (c_X11_isCell l g x1 x2 _ g10) (va_cwS 2 hts gX11_mayCut_X11_isCell rfl rfl rfl hd_X11_isCell ⟨Nat.le_of_ble_eq_true rfl, Nat.le_of_ble_eq_true rfl⟩) hK hZ hT hA hP hD hS hl.1 rfl rfl (Nat.le_of_ble_eq_true rfl) ⟨Nat.le_of_ble_eq_true rfl, Nat.le_of_ble_eq_true rfl⟩ dX11_mayCut_44 (fun H locs hP hD hS => ?_)
    refine lv_iload hx hb dX11_mayCut_47 (lv_at hl 0 rfl) ?_
    refine lv_aload_n hx hb dX11_mayCut_49 rfl (lv_at hl 1 rfl) ?_
    refine lv_iload_n hx hb dX11_mayCut_50 rfl (lv_at hl 4 rfl) ?_
    refine lv_aload_n hx hb dX11_mayCut_51 rfl (lv_at hl 1 rfl) ?_
    refine lv_iload_n hx hb dX11_mayCut_52 rfl (lv_at hl 4 rfl) ?_
    refine lv_iconst (v := 0) hx hb dX11_mayCut_53 (by decide) ?_
    obtain ⟨o11, g12, hf⟩ := jbB_e hf
    refine cva_i (As := [.int x3, .int 0]) (rest := [.int x3, .ref (hm 0), .int y0, .int o9, .ref (hm 0)]) ⟨hx, hb, hml, hown, hts⟩ (c_X11_of l g hm mv x3 0 _ g12) (cwV 2 hts gX11_mayCut_X11_of rfl rfl rfl hd_X11_of ⟨Nat.le_of_ble_eq_true rfl, Nat.le_of_ble_eq_true rfl⟩) hK hZ hT hA hP hD hS hl.1 (va_recv hK hP (ci := 10) (q0 := 0) rfl rfl) rfl rfl (Nat.le_of_ble_eq_true rfl) ⟨Nat.le_of_ble_eq_true rfl, Nat.le_of_ble_eq_true rfl⟩ dX11_mayCut_54 (fun H locs hP hD hS => ?_)
    refine lv_iconst (v := 1) hx hb dX11_mayCut_57 (by decide) ?_
    refine lv_isub hx hb dX11_mayCut_58 ?_
    obtain ⟨o13, g14, hf⟩ := jbB_e hf
    refine cva_i (As := [.int x3, .int (o11 - 1)]) (rest := [.int y0, .int o9, .ref (hm 0)]) ⟨hx, hb, hml, hown, hts⟩ (c_X11_steepest l g hm mv x3 (o11 - 1) _ g14) (cwV 2 hts gX11_mayCut_X11_steepest rfl rfl rfl hd_X11_steepest ⟨Nat.le_of_ble_eq_true rfl, Nat.le_of_ble_eq_true rfl⟩) hK hZ hT hA hP hD hS hl.1 (va_recv hK hP (ci := 10) (q0 := 0) rfl rfl) rfl rfl (Nat.le_of_ble_eq_true rfl) ⟨Nat.le_of_ble_eq_true rfl, Nat.le_of_ble_eq_true rfl⟩ dX11_mayCut_59 (fun H locs hP hD hS => ?_)
    refine lv_aload_n hx hb dX11_mayCut_62 rfl (lv_at hl 1 rfl) ?_
    refine va_get (D := gD g) (ci := 10) (v := .ref (hm 1)) (C := RX11) (T := TX11) (N := 19) hx hb hts hinX11 hown hK hP 0 rfl rfl 0 (by decide) k0 (fun _ h9 => h9) rfl dX11_mayCut_63 ?_
    refine lv_iconst (v := 0) hx hb dX11_mayCut_66 (by decide) ?_
    obtain ⟨h15, hf⟩ := jbA_e hf
    refine va_iald hx hb hK hP 1 0 rfl rfl h15 dX11_mayCut_67 ?_
    refine lv_icmp_gt (tgt := 75) hx hb dX11_mayCut_68 (by decide) (fun hc => ?_) (fun hc => ?_)
    · have hf := jbT hf hc
      refine lv_iconst (v := 0) hx hb dX11_mayCut_75 (by decide) ?_
      exact hJ76 mv 0 y0 o9 _ _ _ hf hP hD hS (lv_sub hl [] rfl)
    · have hf := jbF hf hc
      refine lv_iconst (v := 1) hx hb dX11_mayCut_71 (by decide) ?_
      refine lv_goto (tgt := 76) hx hb dX11_mayCut_72 (by decide) ?_
      exact hJ76 mv 1 y0 o9 _ _ _ hf hP hD hS (lv_sub hl [] rfl)
  have hJ38 : ∀ (mv : MV) (x1 : Int32) (x2 : Int32) (x3 : Int32) (H : Heap) (locs : List Loc) (ls : Array Slot), f_X11_mayCut_J38 mv x1 x2 x3 = some out → va_P (gD g) vwCl (wM g hm mv) H → va_D A (wM g hm mv) → va_S A s.heap H locs → lv_has ls 5 [(0, .ref (hm 0)), (1, .int x1), (2, .int x2), (3, .int x3)] → W p l e rm_X11_mayCut s mi [.ref (hm 0), .int a0, .int a1].toArray below meth c H locs 0 0 Q (F0 mi 38 ls []) := by
    intro mv x1 x2 x3 H locs ls hf hP hD hS hl
    unfold f_X11_mayCut_J38 at hf
    refine lv_iconst (v := 0) hx hb dX11_mayCut_38 (by decide) ?_
    exact hJ39 mv x1 x2 x3 0 _ _ _ hf hP hD hS (lv_sub hl [0, 1, 2, 3] rfl)
  refine lv_iload_n hx hb dX11_mayCut_0 rfl (lv_at hl 1 rfl) ?_
  refine lv_iload_n hx hb dX11_mayCut_1 rfl (lv_at hl 2 rfl) ?_
  obtain ⟨o1, g2, hf⟩ := jbB_e hf
  refine csn_i (As := [.int a0, .int a1]) (rest := []) ⟨hx, hb, hml, hown, hts⟩ (c_X11_cellAt l g a0 a1 _ g2) (va_cwS 2 hts gX11_mayCut_X11_cellAt rfl rfl rfl hd_X11_cellAt ⟨Nat.le_of_ble_eq_true rfl, Nat.le_of_ble_eq_true rfl⟩) hK hZ hT hA hP hD hS hl.1 rfl rfl (Nat.le_of_ble_eq_true rfl) ⟨Nat.le_of_ble_eq_true rfl, Nat.le_of_ble_eq_true rfl⟩ dX11_mayCut_2 (fun H locs hP hD hS => ?_)
  refine lv_istore_n (lv' := [(3, .int o1), (0, .ref (hm 0)), (1, .int a0), (2, .int a1)]) hx hb dX11_mayCut_5 rfl hl (by decide) rfl (fun ls hl => ?_)
  refine lv_aload_n hx hb dX11_mayCut_6 rfl (lv_at hl 1 rfl) ?_
  refine lv_iload_n hx hb dX11_mayCut_7 rfl (lv_at hl 0 rfl) ?_
  refine lv_iconst (v := 2) hx hb dX11_mayCut_8 (by decide) ?_
  obtain ⟨o3, g4, hf⟩ := jbB_e hf
  refine cva_i (As := [.int o1, .int 2]) (rest := []) ⟨hx, hb, hml, hown, hts⟩ (c_X11_of l g hm mv o1 2 _ g4) (cwV 2 hts gX11_mayCut_X11_of rfl rfl rfl hd_X11_of ⟨Nat.le_of_ble_eq_true rfl, Nat.le_of_ble_eq_true rfl⟩) hK hZ hT hA hP hD hS hl.1 (va_recv hK hP (ci := 10) (q0 := 0) rfl rfl) rfl rfl (Nat.le_of_ble_eq_true rfl) ⟨Nat.le_of_ble_eq_true rfl, Nat.le_of_ble_eq_true rfl⟩ dX11_mayCut_9 (fun H locs hP hD hS => ?_)
  refine lv_if_ne (tgt := 38) hx hb dX11_mayCut_12 (by decide) (fun hc => ?_) (fun hc => ?_)
  · have hf := jbF hf hc
    exact hJ38 mv a0 a1 o1 _ _ _ hf hP hD hS (lv_sub hl [1, 2, 3, 0] rfl)
  · have hf := jbT hf hc
    refine lv_aload_n hx hb dX11_mayCut_15 rfl (lv_at hl 1 rfl) ?_
    refine lv_iload_n hx hb dX11_mayCut_16 rfl (lv_at hl 0 rfl) ?_
    refine lv_iconst (v := 0) hx hb dX11_mayCut_17 (by decide) ?_
    obtain ⟨o5, g6, hf⟩ := jbB_e hf
    refine cva_i (As := [.int o1, .int 0]) (rest := []) ⟨hx, hb, hml, hown, hts⟩ (c_X11_of l g hm mv o1 0 _ g6) (cwV 2 hts gX11_mayCut_X11_of rfl rfl rfl hd_X11_of ⟨Nat.le_of_ble_eq_true rfl, Nat.le_of_ble_eq_true rfl⟩) hK hZ hT hA hP hD hS hl.1 (va_recv hK hP (ci := 10) (q0 := 0) rfl rfl) rfl rfl (Nat.le_of_ble_eq_true rfl) ⟨Nat.le_of_ble_eq_true rfl, Nat.le_of_ble_eq_true rfl⟩ dX11_mayCut_18 (fun H locs hP hD hS => ?_)
    refine lv_if_le (tgt := 38) hx hb dX11_mayCut_21 (by decide) (fun hc => ?_) (fun hc => ?_)
    · have hf := jbT hf hc
      exact hJ38 mv a0 a1 o1 _ _ _ hf hP hD hS (lv_sub hl [1, 2, 3, 0] rfl)
    · have hf := jbF hf hc
      refine lv_aload_n hx hb dX11_mayCut_24 rfl (lv_at hl 1 rfl) ?_
      refine lv_iload_n hx hb dX11_mayCut_25 rfl (lv_at hl 0 rfl) ?_
      refine lv_iconst (v := 3) hx hb dX11_mayCut_26 (by decide) ?_
      obtain ⟨o7, g8, hf⟩ := jbB_e hf
      refine cva_i (As := [.int o1, .int 3]) (rest := []) ⟨hx, hb, hml, hown, hts⟩ (c_X11_of l g hm mv o1 3 _ g8) (cwV 2 hts gX11_mayCut_X11_of rfl rfl rfl hd_X11_of ⟨Nat.le_of_ble_eq_true rfl, Nat.le_of_ble_eq_true rfl⟩) hK hZ hT hA hP hD hS hl.1 (va_recv hK hP (ci := 10) (q0 := 0) rfl rfl) rfl rfl (Nat.le_of_ble_eq_true rfl) ⟨Nat.le_of_ble_eq_true rfl, Nat.le_of_ble_eq_true rfl⟩ dX11_mayCut_27 (fun H locs hP hD hS => ?_)
      refine lv_iconst (v := 3) hx hb dX11_mayCut_30 (by decide) ?_
      refine lv_icmp_ge (tgt := 38) hx hb dX11_mayCut_31 (by decide) (fun hc => ?_) (fun hc => ?_)
      · have hf := jbT hf hc
        exact hJ38 mv a0 a1 o1 _ _ _ hf hP hD hS (lv_sub hl [1, 2, 3, 0] rfl)
      · have hf := jbF hf hc
        refine lv_iconst (v := 1) hx hb dX11_mayCut_34 (by decide) ?_
        refine lv_goto (tgt := 39) hx hb dX11_mayCut_35 (by decide) ?_
        exact hJ39 mv a0 a1 o1 1 _ _ _ hf hP hD hS (lv_sub hl [1, 2, 3, 0] rfl)
def f_X11_cuts (mv : MV) (a0 : Int32) (a1 : Int32) : Option (Int32 × MV) :=
  (f_X11_mayCut mv a0 a1).bind fun o1 =>
  if (o1.1) = 0 then
  (some (0, (o1.2)))
  else
  ((f_X11_cellAt a0 a1).bind fun o3 =>
  (f_X11_placeOf o3).bind fun o5 =>
  if jIn (o5 + 0) 229 then
  if jIn (o5 + 0) 229 then
  jbN (mSNow (upd (mNow (o1.2)) (o5 + 0).toNatClampNeg (((mNow (o1.2)) (o5 + 0).toNatClampNeg) - 1)) (o1.2)) fun w9 =>
  if jIn (o5 + 3) 229 then
  if jIn (o5 + 1) 229 then
  if jIn ((o5 + 4) + ((mNow w9) (o5 + 3).toNatClampNeg)) 229 then
  jbN (mSNow (upd (mNow w9) ((o5 + 4) + ((mNow w9) (o5 + 3).toNatClampNeg)).toNatClampNeg ((mNow w9) (o5 + 1).toNatClampNeg)) w9) fun w13 =>
  if jIn (o5 + 3) 229 then
  if jIn (o5 + 3) 229 then
  jbN (mSNow (upd (mNow w13) (o5 + 3).toNatClampNeg (((mNow w13) (o5 + 3).toNatClampNeg) + 1)) w13) fun w16 =>
  if jIn 2 229 then
  if jIn 2 229 then
  jbN (mSNow (upd (mNow w16) (2 : Int32).toNatClampNeg (((mNow w16) (2 : Int32).toNatClampNeg) + 1)) w16) fun w19 =>
  if jIn (o5 + 0) 229 then
  some (((mNow w19) (o5 + 0).toNatClampNeg), w19)
  else none
  else none
  else none
  else none
  else none
  else none
  else none
  else none
  else none
  else none)
def rm_X11_cuts : Room := { frames := 5, cells := 0, slots := 0, locals := 115 }
theorem hd_X11_cuts : yX11_cuts.cls = RX11 ∧ yX11_cuts.cls ≠ "java/lang/invoke/MethodHandle" ∧ yX11_cuts.cls ≠ "java/lang/invoke/VarHandle" ∧ (parseMethodDescriptor yX11_cuts.desc).map (fun d => d.parameters.length) = some 2 := by decide +kernel
set_option maxHeartbeats 4000000 in
set_option maxRecDepth 100000 in
theorem c_X11_cuts (l : Launch) (g : GG) (hm : Nat → Nat) (mv : MV)  (a0 : Int32) (a1 : Int32) (out : Int32 × MV) (hf : f_X11_cuts mv a0 a1 = some out) : MtI l yX11_cuts wsX11_cuts rm_X11_cuts g (wM g hm mv) [.ref (hm 0), .int a0, .int a1] (out.1) (wM g hm (out.2)) 0 0 := by
  refine fun sz => mt_of (cc := cX11_cuts) (maxL := 4) (ret := (some .int)) (own := RX11) (Qc := fun A => va_Qi (fun r (_ : Unit) => r = (out.1)) (fun _ t => PosM g A (wM g hm (out.2)) t) A) (by decide +kernel) rfl rfl (Nat.le_of_ble_eq_true rfl) ?_ sz
  intro p e s mi below meth c A ls hB hnm hrt hlk hP hD hl
  obtain ⟨hx, hb, hml, hown, hts, hK, hZ, hT, hA, -⟩ := hB
  have hS : va_S A s.heap s.heap [] := va_S.rf
  have hl : lv_has ls 4 [(0, .ref (hm 0)), (1, .int a0), (2, .int a1)] := hl
  have hinX11 : ∀ w ∈ wsX110, w ∈ wsX11_cuts := by decide +kernel
  have k0 := hts (.fieldLink RX11 9 "TerraceQuarryModel" "now" "[I") (by decide +kernel)
  generalize hQ : MQ below _ _ _ _ _ _ = Q
  unfold f_X11_cuts at hf
  refine lv_aload_n hx hb dX11_cuts_0 rfl (lv_at hl 0 rfl) ?_
  refine lv_iload_n hx hb dX11_cuts_1 rfl (lv_at hl 1 rfl) ?_
  refine lv_iload_n hx hb dX11_cuts_2 rfl (lv_at hl 2 rfl) ?_
  obtain ⟨o1, g2, hf⟩ := jbB_e hf
  refine cva_i (As := [.int a0, .int a1]) (rest := []) ⟨hx, hb, hml, hown, hts⟩ (c_X11_mayCut l g hm mv a0 a1 _ g2) (cwV 2 hts gX11_cuts_X11_mayCut rfl rfl rfl hd_X11_mayCut ⟨Nat.le_of_ble_eq_true rfl, Nat.le_of_ble_eq_true rfl⟩) hK hZ hT hA hP hD hS hl.1 (va_recv hK hP (ci := 10) (q0 := 0) rfl rfl) rfl rfl (Nat.le_of_ble_eq_true rfl) ⟨Nat.le_of_ble_eq_true rfl, Nat.le_of_ble_eq_true rfl⟩ dX11_cuts_3 (fun H locs hP hD hS => ?_)
  refine lv_if_ne (tgt := 11) hx hb dX11_cuts_6 (by decide) (fun hc => ?_) (fun hc => ?_)
  · have hf := jbF hf hc
    refine lv_iload_n hx hb dX11_cuts_11 rfl (lv_at hl 1 rfl) ?_
    refine lv_iload_n hx hb dX11_cuts_12 rfl (lv_at hl 2 rfl) ?_
    obtain ⟨o3, g4, hf⟩ := jbB_e hf
    refine csn_i (As := [.int a0, .int a1]) (rest := []) ⟨hx, hb, hml, hown, hts⟩ (c_X11_cellAt l g a0 a1 _ g4) (va_cwS 2 hts gX11_cuts_X11_cellAt rfl rfl rfl hd_X11_cellAt ⟨Nat.le_of_ble_eq_true rfl, Nat.le_of_ble_eq_true rfl⟩) hK hZ hT hA hP hD hS hl.1 rfl rfl (Nat.le_of_ble_eq_true rfl) ⟨Nat.le_of_ble_eq_true rfl, Nat.le_of_ble_eq_true rfl⟩ dX11_cuts_13 (fun H locs hP hD hS => ?_)
    obtain ⟨o5, g6, hf⟩ := jbB_e hf
    refine csn_i (As := [.int o3]) (rest := []) ⟨hx, hb, hml, hown, hts⟩ (c_X11_placeOf l g o3 _ g6) (va_cwS 1 hts gX11_cuts_X11_placeOf rfl rfl rfl hd_X11_placeOf ⟨Nat.le_of_ble_eq_true rfl, Nat.le_of_ble_eq_true rfl⟩) hK hZ hT hA hP hD hS hl.1 rfl rfl (Nat.le_of_ble_eq_true rfl) ⟨Nat.le_of_ble_eq_true rfl, Nat.le_of_ble_eq_true rfl⟩ dX11_cuts_16 (fun H locs hP hD hS => ?_)
    refine lv_istore_n (lv' := [(3, .int o5), (0, .ref (hm 0)), (1, .int a0), (2, .int a1)]) hx hb dX11_cuts_19 rfl hl (by decide) rfl (fun ls hl => ?_)
    refine lv_aload_n hx hb dX11_cuts_20 rfl (lv_at hl 1 rfl) ?_
    refine va_get (D := gD g) (ci := 10) (v := .ref (hm 1)) (C := RX11) (T := TX11) (N := 19) hx hb hts hinX11 hown hK hP 0 rfl rfl 0 (by decide) k0 (fun _ h9 => h9) rfl dX11_cuts_21 ?_
    refine lv_iload_n hx hb dX11_cuts_24 rfl (lv_at hl 0 rfl) ?_
    refine lv_iconst (v := 0) hx hb dX11_cuts_25 (by decide) ?_
    refine lv_iadd hx hb dX11_cuts_26 ?_
    refine lv_dup2_11 hx hb dX11_cuts_27 rfl rfl ?_
    obtain ⟨h7, hf⟩ := jbA_e hf
    refine va_iald hx hb hK hP 1 0 rfl rfl h7 dX11_cuts_28 ?_
    refine lv_iconst (v := 1) hx hb dX11_cuts_29 (by decide) ?_
    refine lv_isub hx hb dX11_cuts_30 ?_
    obtain ⟨h8, hf⟩ := jbA_e hf
    refine va_iast hx hb hK hP hD hS 1 0 rfl rfl h8 dX11_cuts_31 (fun H locs hP hD hS => ?_)
    obtain ⟨w9, ew9⟩ : ∃ y, y = (mSNow (upd (mNow (o1.2)) (o5 + 0).toNatClampNeg (((mNow (o1.2)) (o5 + 0).toNatClampNeg) - 1)) (o1.2)) := ⟨_, rfl⟩
    have hf := jbN_e hf ew9
    have hP : va_P (gD g) vwCl (wM g hm w9) H := by rw [ew9]; exact hP
    have hD : va_D A (wM g hm w9) := by rw [ew9]; exact hD
    refine lv_aload_n hx hb dX11_cuts_32 rfl (lv_at hl 1 rfl) ?_
    refine va_get (D := gD g) (ci := 10) (v := .ref (hm 1)) (C := RX11) (T := TX11) (N := 19) hx hb hts hinX11 hown hK hP 0 rfl rfl 0 (by decide) k0 (fun _ h9 => h9) rfl dX11_cuts_33 ?_
    refine lv_iload_n hx hb dX11_cuts_36 rfl (lv_at hl 0 rfl) ?_
    refine lv_iconst (v := 4) hx hb dX11_cuts_37 (by decide) ?_
    refine lv_iadd hx hb dX11_cuts_38 ?_
    refine lv_aload_n hx hb dX11_cuts_39 rfl (lv_at hl 1 rfl) ?_
    refine va_get (D := gD g) (ci := 10) (v := .ref (hm 1)) (C := RX11) (T := TX11) (N := 19) hx hb hts hinX11 hown hK hP 0 rfl rfl 0 (by decide) k0 (fun _ h9 => h9) rfl dX11_cuts_40 ?_
    refine lv_iload_n hx hb dX11_cuts_43 rfl (lv_at hl 0 rfl) ?_
    refine lv_iconst (v := 3) hx hb dX11_cuts_44 (by decide) ?_
    refine lv_iadd hx hb dX11_cuts_45 ?_
    obtain ⟨h10, hf⟩ := jbA_e hf
    refine va_iald hx hb hK hP 1 0 rfl rfl h10 dX11_cuts_46 ?_
    refine lv_iadd hx hb dX11_cuts_47 ?_
    refine lv_aload_n hx hb dX11_cuts_48 rfl (lv_at hl 1 rfl) ?_
    refine va_get (D := gD g) (ci := 10) (v := .ref (hm 1)) (C := RX11) (T := TX11) (N := 19) hx hb hts hinX11 hown hK hP 0 rfl rfl 0 (by decide) k0 (fun _ h9 => h9) rfl dX11_cuts_49 ?_
    refine lv_iload_n hx hb dX11_cuts_52 rfl (lv_at hl 0 rfl) ?_
    refine lv_iconst (v := 1) hx hb dX11_cuts_53 (by decide) ?_
    refine lv_iadd hx hb dX11_cuts_54 ?_
    obtain ⟨h11, hf⟩ := jbA_e hf
    refine va_iald hx hb hK hP 1 0 rfl rfl h11 dX11_cuts_55 ?_
    obtain ⟨h12, hf⟩ := jbA_e hf
    refine va_iast hx hb hK hP hD hS 1 0 rfl rfl h12 dX11_cuts_56 (fun H locs hP hD hS => ?_)
    obtain ⟨w13, ew13⟩ : ∃ y, y = (mSNow (upd (mNow w9) ((o5 + 4) + ((mNow w9) (o5 + 3).toNatClampNeg)).toNatClampNeg ((mNow w9) (o5 + 1).toNatClampNeg)) w9) := ⟨_, rfl⟩
    have hf := jbN_e hf ew13
    have hP : va_P (gD g) vwCl (wM g hm w13) H := by rw [ew13]; exact hP
    have hD : va_D A (wM g hm w13) := by rw [ew13]; exact hD
    refine lv_aload_n hx hb dX11_cuts_57 rfl (lv_at hl 1 rfl) ?_
    refine va_get (D := gD g) (ci := 10) (v := .ref (hm 1)) (C := RX11) (T := TX11) (N := 19) hx hb hts hinX11 hown hK hP 0 rfl rfl 0 (by decide) k0 (fun _ h9 => h9) rfl dX11_cuts_58 ?_
    refine lv_iload_n hx hb dX11_cuts_61 rfl (lv_at hl 0 rfl) ?_
    refine lv_iconst (v := 3) hx hb dX11_cuts_62 (by decide) ?_
    refine lv_iadd hx hb dX11_cuts_63 ?_
    refine lv_dup2_11 hx hb dX11_cuts_64 rfl rfl ?_
    obtain ⟨h14, hf⟩ := jbA_e hf
    refine va_iald hx hb hK hP 1 0 rfl rfl h14 dX11_cuts_65 ?_
    refine lv_iconst (v := 1) hx hb dX11_cuts_66 (by decide) ?_
    refine lv_iadd hx hb dX11_cuts_67 ?_
    obtain ⟨h15, hf⟩ := jbA_e hf
    refine va_iast hx hb hK hP hD hS 1 0 rfl rfl h15 dX11_cuts_68 (fun H locs hP hD hS => ?_)
    obtain ⟨w16, ew16⟩ : ∃ y, y = (mSNow (upd (mNow w13) (o5 + 3).toNatClampNeg (((mNow w13) (o5 + 3).toNatClampNeg) + 1)) w13) := ⟨_, rfl⟩
    have hf := jbN_e hf ew16
    have hP : va_P (gD g) vwCl (wM g hm w16) H := by rw [ew16]; exact hP
    have hD : va_D A (wM g hm w16) := by rw [ew16]; exact hD
    refine lv_aload_n hx hb dX11_cuts_69 rfl (lv_at hl 1 rfl) ?_
    refine va_get (D := gD g) (ci := 10) (v := .ref (hm 1)) (C := RX11) (T := TX11) (N := 19) hx hb hts hinX11 hown hK hP 0 rfl rfl 0 (by decide) k0 (fun _ h9 => h9) rfl dX11_cuts_70 ?_
    refine lv_iconst (v := 2) hx hb dX11_cuts_73 (by decide) ?_
    refine lv_dup2_11 hx hb dX11_cuts_74 rfl rfl ?_
    obtain ⟨h17, hf⟩ := jbA_e hf
    refine va_iald hx hb hK hP 1 0 rfl rfl h17 dX11_cuts_75 ?_
    refine lv_iconst (v := 1) hx hb dX11_cuts_76 (by decide) ?_
    refine lv_iadd hx hb dX11_cuts_77 ?_
    obtain ⟨h18, hf⟩ := jbA_e hf
    refine va_iast hx hb hK hP hD hS 1 0 rfl rfl h18 dX11_cuts_78 (fun H locs hP hD hS => ?_)
    obtain ⟨w19, ew19⟩ : ∃ y, y = (mSNow (upd (mNow w16) (2 : Int32).toNatClampNeg (((mNow w16) (2 : Int32).toNatClampNeg) + 1)) w16) := ⟨_, rfl⟩
    have hf := jbN_e hf ew19
    have hP : va_P (gD g) vwCl (wM g hm w19) H := by rw [ew19]; exact hP
    have hD : va_D A (wM g hm w19) := by rw [ew19]; exact hD
    refine lv_aload_n hx hb dX11_cuts_79 rfl (lv_at hl 1 rfl) ?_
    refine va_get (D := gD g) (ci := 10) (v := .ref (hm 1)) (C := RX11) (T := TX11) (N := 19) hx hb hts hinX11 hown hK hP 0 rfl rfl 0 (by decide) k0 (fun _ h9 => h9) rfl dX11_cuts_80 ?_
    refine lv_iload_n hx hb dX11_cuts_83 rfl (lv_at hl 0 rfl) ?_
    refine lv_iconst (v := 0) hx hb dX11_cuts_84 (by decide) ?_
    refine lv_iadd hx hb dX11_cuts_85 ?_
    obtain ⟨h20, hf⟩ := jbA_e hf
    refine va_iald hx hb hK hP 1 0 rfl rfl h20 dX11_cuts_86 ?_
    cases hf
    subst hQ
    exact rt_i hx hb hrt hlk rfl hK hP hD hS (Nat.le_of_ble_eq_true rfl) (Nat.le_of_ble_eq_true rfl) dX11_cuts_87
  · have hf := jbT hf hc
    refine lv_iconst (v := 0) hx hb dX11_cuts_9 (by decide) ?_
    cases hf
    subst hQ
    exact rt_i hx hb hrt hlk rfl hK hP hD hS (Nat.le_of_ble_eq_true rfl) (Nat.le_of_ble_eq_true rfl) dX11_cuts_10
def f_X11_cut (mv : MV) (a0 : Int32) (a1 : Int32) : Option (Int32 × MV) :=
  (f_X11_begins mv).bind fun o1 =>
  (f_X11_cuts o1 a0 a1).bind fun o3 =>
  (f_X11_ends (o3.2) (o3.1)).bind fun o5 =>
  some ((o5.1), (o5.2))
def rm_X11_cut : Room := { frames := 6, cells := 0, slots := 0, locals := 138 }
theorem hd_X11_cut : yX11_cut.cls = RX11 ∧ yX11_cut.cls ≠ "java/lang/invoke/MethodHandle" ∧ yX11_cut.cls ≠ "java/lang/invoke/VarHandle" ∧ (parseMethodDescriptor yX11_cut.desc).map (fun d => d.parameters.length) = some 2 := by decide +kernel
set_option maxHeartbeats 4000000 in
set_option maxRecDepth 100000 in
theorem c_X11_cut (l : Launch) (g : GG) (hm : Nat → Nat) (mv : MV)  (a0 : Int32) (a1 : Int32) (out : Int32 × MV) (hf : f_X11_cut mv a0 a1 = some out) : MtI l yX11_cut wsX11_cut rm_X11_cut g (wM g hm mv) [.ref (hm 0), .int a0, .int a1] (out.1) (wM g hm (out.2)) 0 0 := by
  refine fun sz => mt_of (cc := cX11_cut) (maxL := 3) (ret := (some .int)) (own := RX11) (Qc := fun A => va_Qi (fun r (_ : Unit) => r = (out.1)) (fun _ t => PosM g A (wM g hm (out.2)) t) A) (by decide +kernel) rfl rfl (Nat.le_of_ble_eq_true rfl) ?_ sz
  intro p e s mi below meth c A ls hB hnm hrt hlk hP hD hl
  obtain ⟨hx, hb, hml, hown, hts, hK, hZ, hT, hA, -⟩ := hB
  have hS : va_S A s.heap s.heap [] := va_S.rf
  have hl : lv_has ls 3 [(0, .ref (hm 0)), (1, .int a0), (2, .int a1)] := hl
  generalize hQ : MQ below _ _ _ _ _ _ = Q
  unfold f_X11_cut at hf
  refine lv_aload_n hx hb dX11_cut_0 rfl (lv_at hl 0 rfl) ?_
  obtain ⟨o1, g2, hf⟩ := jbB_e hf
  refine cva_v (As := []) (rest := []) ⟨hx, hb, hml, hown, hts⟩ (c_X11_begins l g hm mv _ g2) (cwV 0 hts gX11_cut_X11_begins rfl rfl rfl hd_X11_begins ⟨Nat.le_of_ble_eq_true rfl, Nat.le_of_ble_eq_true rfl⟩) hK hZ hT hA hP hD hS hl.1 (va_recv hK hP (ci := 10) (q0 := 0) rfl rfl) rfl rfl (Nat.le_of_ble_eq_true rfl) ⟨Nat.le_of_ble_eq_true rfl, Nat.le_of_ble_eq_true rfl⟩ dX11_cut_1 (fun H locs hP hD hS => ?_)
  refine lv_aload_n hx hb dX11_cut_4 rfl (lv_at hl 0 rfl) ?_
  refine lv_aload_n hx hb dX11_cut_5 rfl (lv_at hl 0 rfl) ?_
  refine lv_iload_n hx hb dX11_cut_6 rfl (lv_at hl 1 rfl) ?_
  refine lv_iload_n hx hb dX11_cut_7 rfl (lv_at hl 2 rfl) ?_
  obtain ⟨o3, g4, hf⟩ := jbB_e hf
  refine cva_i (As := [.int a0, .int a1]) (rest := [.ref (hm 0)]) ⟨hx, hb, hml, hown, hts⟩ (c_X11_cuts l g hm o1 a0 a1 _ g4) (cwV 2 hts gX11_cut_X11_cuts rfl rfl rfl hd_X11_cuts ⟨Nat.le_of_ble_eq_true rfl, Nat.le_of_ble_eq_true rfl⟩) hK hZ hT hA hP hD hS hl.1 (va_recv hK hP (ci := 10) (q0 := 0) rfl rfl) rfl rfl (Nat.le_of_ble_eq_true rfl) ⟨Nat.le_of_ble_eq_true rfl, Nat.le_of_ble_eq_true rfl⟩ dX11_cut_8 (fun H locs hP hD hS => ?_)
  obtain ⟨o5, g6, hf⟩ := jbB_e hf
  refine cva_i (As := [.int (o3.1)]) (rest := []) ⟨hx, hb, hml, hown, hts⟩ (c_X11_ends l g hm (o3.2) (o3.1) _ g6) (cwV 1 hts gX11_cut_X11_ends rfl rfl rfl hd_X11_ends ⟨Nat.le_of_ble_eq_true rfl, Nat.le_of_ble_eq_true rfl⟩) hK hZ hT hA hP hD hS hl.1 (va_recv hK hP (ci := 10) (q0 := 0) rfl rfl) rfl rfl (Nat.le_of_ble_eq_true rfl) ⟨Nat.le_of_ble_eq_true rfl, Nat.le_of_ble_eq_true rfl⟩ dX11_cut_11 (fun H locs hP hD hS => ?_)
  cases hf
  subst hQ
  exact rt_i hx hb hrt hlk rfl hK hP hD hS (Nat.le_of_ble_eq_true rfl) (Nat.le_of_ble_eq_true rfl) dX11_cut_14
def f_X11_fills_J86 (mv : MV) (x3 : Int32) (y0 : Int32) (y1 : Int32) (y2 : Int32) : Option (Int32 × MV) :=
  (f_X11_holds mv y2 y1 y0 1).bind fun o17 =>
  if (o17.1) = 0 then
  (some (0, (o17.2)))
  else
  (if jIn 1 229 then
  if jIn 1 229 then
  jbN (mSNow (upd (mNow (o17.2)) (1 : Int32).toNatClampNeg (((mNow (o17.2)) (1 : Int32).toNatClampNeg) - 1)) (o17.2)) fun w21 =>
  (f_X11_placeOf x3).bind fun o22 =>
  if jIn (o22 + 0) 229 then
  if jIn (o22 + 0) 229 then
  jbN (mSNow (upd (mNow w21) (o22 + 0).toNatClampNeg (((mNow w21) (o22 + 0).toNatClampNeg) + 1)) w21) fun w26 =>
  (f_X11_of w26 x3 0).bind fun o27 =>
  some (o27, w26)
  else none
  else none
  else none
  else none)
def f_X11_fills_J49 (mv : MV) (x1 : Int32) (x2 : Int32) (x3 : Int32) (y0 : Int32) : Option (Int32 × MV) :=
  (f_X11_isCell x1 x2).bind fun o10 =>
  (f_X11_of mv x3 0).bind fun o12 =>
  (f_X11_steepest mv x3 (o12 + 1)).bind fun o14 =>
  if jIn 0 229 then
  if ((mNow mv) (0 : Int32).toNatClampNeg) < o14 then
  (f_X11_fills_J86 mv x3 0 y0 o10)
  else
  (f_X11_fills_J86 mv x3 1 y0 o10)
  else none
def f_X11_fills_J48 (mv : MV) (x1 : Int32) (x2 : Int32) (x3 : Int32) : Option (Int32 × MV) :=
  f_X11_fills_J49 mv x1 x2 x3 0
def f_X11_fills (mv : MV) (a0 : Int32) (a1 : Int32) : Option (Int32 × MV) :=
  (f_X11_cellAt a0 a1).bind fun o1 =>
  (f_X11_of mv o1 2).bind fun o3 =>
  if o3 = 0 then
  ((f_X11_of mv o1 0).bind fun o5 =>
  if 9 ≤ o5 then
  (f_X11_fills_J48 mv a0 a1 o1)
  else
  ((f_X11_of mv o1 3).bind fun o7 =>
  if o7 = 0 then
  (if jIn 1 229 then
  if ((mNow mv) (1 : Int32).toNatClampNeg) ≤ 0 then
  (f_X11_fills_J48 mv a0 a1 o1)
  else
  (f_X11_fills_J49 mv a0 a1 o1 1)
  else none)
  else
  (f_X11_fills_J48 mv a0 a1 o1)))
  else
  (f_X11_fills_J48 mv a0 a1 o1)
def rm_X11_fills : Room := { frames := 4, cells := 0, slots := 0, locals := 91 }
theorem hd_X11_fills : yX11_fills.cls = RX11 ∧ yX11_fills.cls ≠ "java/lang/invoke/MethodHandle" ∧ yX11_fills.cls ≠ "java/lang/invoke/VarHandle" ∧ (parseMethodDescriptor yX11_fills.desc).map (fun d => d.parameters.length) = some 2 := by decide +kernel
set_option maxHeartbeats 4000000 in
set_option maxRecDepth 100000 in
theorem c_X11_fills (l : Launch) (g : GG) (hm : Nat → Nat) (mv : MV)  (a0 : Int32) (a1 : Int32) (out : Int32 × MV) (hf : f_X11_fills mv a0 a1 = some out) : MtI l yX11_fills wsX11_fills rm_X11_fills g (wM g hm mv) [.ref (hm 0), .int a0, .int a1] (out.1) (wM g hm (out.2)) 0 0 := by
  refine fun sz => mt_of (cc := cX11_fills) (maxL := 5) (ret := (some .int)) (own := RX11) (Qc := fun A => va_Qi (fun r (_ : Unit) => r = (out.1)) (fun _ t => PosM g A (wM g hm (out.2)) t) A) (by decide +kernel) rfl rfl (Nat.le_of_ble_eq_true rfl) ?_ sz
  intro p e s mi below meth c A ls hB hnm hrt hlk hP hD hl
  obtain ⟨hx, hb, hml, hown, hts, hK, hZ, hT, hA, -⟩ := hB
  have hS : va_S A s.heap s.heap [] := va_S.rf
  have hl : lv_has ls 5 [(0, .ref (hm 0)), (1, .int a0), (2, .int a1)] := hl
  have hinX11 : ∀ w ∈ wsX110, w ∈ wsX11_fills := by decide +kernel
  have k0 := hts (.fieldLink RX11 9 "TerraceQuarryModel" "now" "[I") (by decide +kernel)
  generalize hQ : MQ below _ _ _ _ _ _ = Q
  unfold f_X11_fills at hf
  have hJ86 : ∀ (mv : MV) (x3 : Int32) (y0 : Int32) (y1 : Int32) (y2 : Int32) (H : Heap) (locs : List Loc) (ls : Array Slot), f_X11_fills_J86 mv x3 y0 y1 y2 = some out → va_P (gD g) vwCl (wM g hm mv) H → va_D A (wM g hm mv) → va_S A s.heap H locs → lv_has ls 5 [(0, .ref (hm 0)), (3, .int x3)] → W p l e rm_X11_fills s mi [.ref (hm 0), .int a0, .int a1].toArray below meth c H locs 0 0 Q (F0 mi 86 ls [.int y0, .int y1, .int y2, .ref (hm 0)]) := by
    intro mv x3 y0 y1 y2 H locs ls hf hP hD hS hl
    unfold f_X11_fills_J86 at hf
    refine lv_iconst (v := 1) hx hb dX11_fills_86 (by decide) ?_
    obtain ⟨o17, g18, hf⟩ := jbB_e hf
    refine cva_i (As := [.int y2, .int y1, .int y0, .int 1]) (rest := []) ⟨hx, hb, hml, hown, hts⟩ (c_X11_holds l g hm mv y2 y1 y0 1 _ g18) (cwV 4 hts gX11_fills_X11_holds rfl rfl rfl hd_X11_holds ⟨Nat.le_of_ble_eq_true rfl, Nat.le_of_ble_eq_true rfl⟩) hK hZ hT hA hP hD hS hl.1 (va_recv hK hP (ci := 10) (q0 := 0) rfl rfl) rfl rfl (Nat.le_of_ble_eq_true rfl) ⟨Nat.le_of_ble_eq_true rfl, Nat.le_of_ble_eq_true rfl⟩ dX11_fills_87 (fun H locs hP hD hS => ?_)
    refine lv_if_ne (tgt := 95) hx hb dX11_fills_90 (by decide) (fun hc => ?_) (fun hc => ?_)
    · have hf := jbF hf hc
      refine lv_aload_n hx hb dX11_fills_95 rfl (lv_at hl 0 rfl) ?_
      refine va_get (D := gD g) (ci := 10) (v := .ref (hm 1)) (C := RX11) (T := TX11) (N := 19) hx hb hts hinX11 hown hK hP 0 rfl rfl 0 (by decide) k0 (fun _ h9 => h9) rfl dX11_fills_96 ?_
      refine lv_iconst (v := 1) hx hb dX11_fills_99 (by decide) ?_
      refine lv_dup2_11 hx hb dX11_fills_100 rfl rfl ?_
      obtain ⟨h19, hf⟩ := jbA_e hf
      refine va_iald hx hb hK hP 1 0 rfl rfl h19 dX11_fills_101 ?_
      refine lv_iconst (v := 1) hx hb dX11_fills_102 (by decide) ?_
      refine lv_isub hx hb dX11_fills_103 ?_
      obtain ⟨h20, hf⟩ := jbA_e hf
      refine va_iast hx hb hK hP hD hS 1 0 rfl rfl h20 dX11_fills_104 (fun H locs hP hD hS => ?_)
      obtain ⟨w21, ew21⟩ : ∃ y, y = (mSNow (upd (mNow (o17.2)) (1 : Int32).toNatClampNeg (((mNow (o17.2)) (1 : Int32).toNatClampNeg) - 1)) (o17.2)) := ⟨_, rfl⟩
      have hf := jbN_e hf ew21
      have hP : va_P (gD g) vwCl (wM g hm w21) H := by rw [ew21]; exact hP
      have hD : va_D A (wM g hm w21) := by rw [ew21]; exact hD
      refine lv_aload_n hx hb dX11_fills_105 rfl (lv_at hl 0 rfl) ?_
      refine va_get (D := gD g) (ci := 10) (v := .ref (hm 1)) (C := RX11) (T := TX11) (N := 19) hx hb hts hinX11 hown hK hP 0 rfl rfl 0 (by decide) k0 (fun _ h9 => h9) rfl dX11_fills_106 ?_
      refine lv_iload_n hx hb dX11_fills_109 rfl (lv_at hl 1 rfl) ?_
      obtain ⟨o22, g23, hf⟩ := jbB_e hf
      refine csn_i (As := [.int x3]) (rest := [.ref (hm 1)]) ⟨hx, hb, hml, hown, hts⟩ (c_X11_placeOf l g x3 _ g23) (va_cwS 1 hts gX11_fills_X11_placeOf rfl rfl rfl hd_X11_placeOf ⟨Nat.le_of_ble_eq_true rfl, Nat.le_of_ble_eq_true rfl⟩) hK hZ hT hA hP hD hS hl.1 rfl rfl (Nat.le_of_ble_eq_true rfl) ⟨Nat.le_of_ble_eq_true rfl, Nat.le_of_ble_eq_true rfl⟩ dX11_fills_110 (fun H locs hP hD hS => ?_)
      refine lv_iconst (v := 0) hx hb dX11_fills_113 (by decide) ?_
      refine lv_iadd hx hb dX11_fills_114 ?_
      refine lv_dup2_11 hx hb dX11_fills_115 rfl rfl ?_
      obtain ⟨h24, hf⟩ := jbA_e hf
      refine va_iald hx hb hK hP 1 0 rfl rfl h24 dX11_fills_116 ?_
      refine lv_iconst (v := 1) hx hb dX11_fills_117 (by decide) ?_
      refine lv_iadd hx hb dX11_fills_118 ?_
      obtain ⟨h25, hf⟩ := jbA_e hf
      refine va_iast hx hb hK hP hD hS 1 0 rfl rfl h25 dX11_fills_119 (fun H locs hP hD hS => ?_)
      obtain ⟨w26, ew26⟩ : ∃ y, y = (mSNow (upd (mNow w21) (o22 + 0).toNatClampNeg (((mNow w21) (o22 + 0).toNatClampNeg) + 1)) w21) := ⟨_, rfl⟩
      have hf := jbN_e hf ew26
      have hP : va_P (gD g) vwCl (wM g hm w26) H := by rw [ew26]; exact hP
      have hD : va_D A (wM g hm w26) := by rw [ew26]; exact hD
      refine lv_aload_n hx hb dX11_fills_120 rfl (lv_at hl 0 rfl) ?_
      refine lv_iload_n hx hb dX11_fills_121 rfl (lv_at hl 1 rfl) ?_
      refine lv_iconst (v := 0) hx hb dX11_fills_122 (by decide) ?_
      obtain ⟨o27, g28, hf⟩ := jbB_e hf
      refine cva_i (As := [.int x3, .int 0]) (rest := []) ⟨hx, hb, hml, hown, hts⟩ (c_X11_of l g hm w26 x3 0 _ g28) (cwV 2 hts gX11_fills_X11_of rfl rfl rfl hd_X11_of ⟨Nat.le_of_ble_eq_true rfl, Nat.le_of_ble_eq_true rfl⟩) hK hZ hT hA hP hD hS hl.1 (va_recv hK hP (ci := 10) (q0 := 0) rfl rfl) rfl rfl (Nat.le_of_ble_eq_true rfl) ⟨Nat.le_of_ble_eq_true rfl, Nat.le_of_ble_eq_true rfl⟩ dX11_fills_123 (fun H locs hP hD hS => ?_)
      cases hf
      subst hQ
      exact rt_i hx hb hrt hlk rfl hK hP hD hS (Nat.le_of_ble_eq_true rfl) (Nat.le_of_ble_eq_true rfl) dX11_fills_126
    · have hf := jbT hf hc
      refine lv_iconst (v := 0) hx hb dX11_fills_93 (by decide) ?_
      cases hf
      subst hQ
      exact rt_i hx hb hrt hlk rfl hK hP hD hS (Nat.le_of_ble_eq_true rfl) (Nat.le_of_ble_eq_true rfl) dX11_fills_94
  have hJ49 : ∀ (mv : MV) (x1 : Int32) (x2 : Int32) (x3 : Int32) (y0 : Int32) (H : Heap) (locs : List Loc) (ls : Array Slot), f_X11_fills_J49 mv x1 x2 x3 y0 = some out → va_P (gD g) vwCl (wM g hm mv) H → va_D A (wM g hm mv) → va_S A s.heap H locs → lv_has ls 5 [(0, .ref (hm 0)), (1, .int x1), (2, .int x2), (3, .int x3)] → W p l e rm_X11_fills s mi [.ref (hm 0), .int a0, .int a1].toArray below meth c H locs 0 0 Q (F0 mi 49 ls [.int y0]) := by
    intro mv x1 x2 x3 y0 H locs ls hf hP hD hS hl
    unfold f_X11_fills_J49 at hf
    refine lv_istore (lv' := [(4, .int y0), (0, .ref (hm 0)), (1, .int x1), (2, .int x2), (3, .int x3)]) hx hb dX11_fills_49 hl (by decide) rfl (fun ls hl => ?_)
    refine lv_aload_n hx hb dX11_fills_51 rfl (lv_at hl 1 rfl) ?_
    refine lv_iload_n hx hb dX11_fills_52 rfl (lv_at hl 2 rfl) ?_
    refine lv_iload_n hx hb dX11_fills_53 rfl (lv_at hl 3 rfl) ?_
    obtain ⟨o10, g11, hf⟩ := jbB_e hf
    refine csn_i (As := [.int x1, .int x2]) (rest := [.ref (hm 0)]) ⟨hx, hb, hml, hown, hts⟩ (c_X11_isCell l g x1 x2 _ g11) (va_cwS 2 hts gX11_fills_X11_isCell rfl rfl rfl hd_X11_isCell ⟨Nat.le_of_ble_eq_true rfl, Nat.le_of_ble_eq_true rfl⟩) hK hZ hT hA hP hD hS hl.1 rfl rfl (Nat.le_of_ble_eq_true rfl) ⟨Nat.le_of_ble_eq_true rfl, Nat.le_of_ble_eq_true rfl⟩ dX11_fills_54 (fun H locs hP hD hS => ?_)
    refine lv_iload hx hb dX11_fills_57 (lv_at hl 0 rfl) ?_
    refine lv_aload_n hx hb dX11_fills_59 rfl (lv_at hl 1 rfl) ?_
    refine lv_iload_n hx hb dX11_fills_60 rfl (lv_at hl 4 rfl) ?_
    refine lv_aload_n hx hb dX11_fills_61 rfl (lv_at hl 1 rfl) ?_
    refine lv_iload_n hx hb dX11_fills_62 rfl (lv_at hl 4 rfl) ?_
    refine lv_iconst (v := 0) hx hb dX11_fills_63 (by decide) ?_
    obtain ⟨o12, g13, hf⟩ := jbB_e hf
    refine cva_i (As := [.int x3, .int 0]) (rest := [.int x3, .ref (hm 0), .int y0, .int o10, .ref (hm 0)]) ⟨hx, hb, hml, hown, hts⟩ (c_X11_of l g hm mv x3 0 _ g13) (cwV 2 hts gX11_fills_X11_of rfl rfl rfl hd_X11_of ⟨Nat.le_of_ble_eq_true rfl, Nat.le_of_ble_eq_true rfl⟩) hK hZ hT hA hP hD hS hl.1 (va_recv hK hP (ci := 10) (q0 := 0) rfl rfl) rfl rfl (Nat.le_of_ble_eq_true rfl) ⟨Nat.le_of_ble_eq_true rfl, Nat.le_of_ble_eq_true rfl⟩ dX11_fills_64 (fun H locs hP hD hS => ?_)
    refine lv_iconst (v := 1) hx hb dX11_fills_67 (by decide) ?_
    refine lv_iadd hx hb dX11_fills_68 ?_
    obtain ⟨o14, g15, hf⟩ := jbB_e hf
    refine cva_i (As := [.int x3, .int (o12 + 1)]) (rest := [.int y0, .int o10, .ref (hm 0)]) ⟨hx, hb, hml, hown, hts⟩ (c_X11_steepest l g hm mv x3 (o12 + 1) _ g15) (cwV 2 hts gX11_fills_X11_steepest rfl rfl rfl hd_X11_steepest ⟨Nat.le_of_ble_eq_true rfl, Nat.le_of_ble_eq_true rfl⟩) hK hZ hT hA hP hD hS hl.1 (va_recv hK hP (ci := 10) (q0 := 0) rfl rfl) rfl rfl (Nat.le_of_ble_eq_true rfl) ⟨Nat.le_of_ble_eq_true rfl, Nat.le_of_ble_eq_true rfl⟩ dX11_fills_69 (fun H locs hP hD hS => ?_)
    refine lv_aload_n hx hb dX11_fills_72 rfl (lv_at hl 1 rfl) ?_
    refine va_get (D := gD g) (ci := 10) (v := .ref (hm 1)) (C := RX11) (T := TX11) (N := 19) hx hb hts hinX11 hown hK hP 0 rfl rfl 0 (by decide) k0 (fun _ h9 => h9) rfl dX11_fills_73 ?_
    refine lv_iconst (v := 0) hx hb dX11_fills_76 (by decide) ?_
    obtain ⟨h16, hf⟩ := jbA_e hf
    refine va_iald hx hb hK hP 1 0 rfl rfl h16 dX11_fills_77 ?_
    refine lv_icmp_gt (tgt := 85) hx hb dX11_fills_78 (by decide) (fun hc => ?_) (fun hc => ?_)
    · have hf := jbT hf hc
      refine lv_iconst (v := 0) hx hb dX11_fills_85 (by decide) ?_
      exact hJ86 mv x3 0 y0 o10 _ _ _ hf hP hD hS (lv_sub hl [1, 4] rfl)
    · have hf := jbF hf hc
      refine lv_iconst (v := 1) hx hb dX11_fills_81 (by decide) ?_
      refine lv_goto (tgt := 86) hx hb dX11_fills_82 (by decide) ?_
      exact hJ86 mv x3 1 y0 o10 _ _ _ hf hP hD hS (lv_sub hl [1, 4] rfl)
  have hJ48 : ∀ (mv : MV) (x1 : Int32) (x2 : Int32) (x3 : Int32) (H : Heap) (locs : List Loc) (ls : Array Slot), f_X11_fills_J48 mv x1 x2 x3 = some out → va_P (gD g) vwCl (wM g hm mv) H → va_D A (wM g hm mv) → va_S A s.heap H locs → lv_has ls 5 [(0, .ref (hm 0)), (1, .int x1), (2, .int x2), (3, .int x3)] → W p l e rm_X11_fills s mi [.ref (hm 0), .int a0, .int a1].toArray below meth c H locs 0 0 Q (F0 mi 48 ls []) := by
    intro mv x1 x2 x3 H locs ls hf hP hD hS hl
    unfold f_X11_fills_J48 at hf
    refine lv_iconst (v := 0) hx hb dX11_fills_48 (by decide) ?_
    exact hJ49 mv x1 x2 x3 0 _ _ _ hf hP hD hS (lv_sub hl [0, 1, 2, 3] rfl)
  refine lv_iload_n hx hb dX11_fills_0 rfl (lv_at hl 1 rfl) ?_
  refine lv_iload_n hx hb dX11_fills_1 rfl (lv_at hl 2 rfl) ?_
  obtain ⟨o1, g2, hf⟩ := jbB_e hf
  refine csn_i (As := [.int a0, .int a1]) (rest := []) ⟨hx, hb, hml, hown, hts⟩ (c_X11_cellAt l g a0 a1 _ g2) (va_cwS 2 hts gX11_fills_X11_cellAt rfl rfl rfl hd_X11_cellAt ⟨Nat.le_of_ble_eq_true rfl, Nat.le_of_ble_eq_true rfl⟩) hK hZ hT hA hP hD hS hl.1 rfl rfl (Nat.le_of_ble_eq_true rfl) ⟨Nat.le_of_ble_eq_true rfl, Nat.le_of_ble_eq_true rfl⟩ dX11_fills_2 (fun H locs hP hD hS => ?_)
  refine lv_istore_n (lv' := [(3, .int o1), (0, .ref (hm 0)), (1, .int a0), (2, .int a1)]) hx hb dX11_fills_5 rfl hl (by decide) rfl (fun ls hl => ?_)
  refine lv_aload_n hx hb dX11_fills_6 rfl (lv_at hl 1 rfl) ?_
  refine lv_iload_n hx hb dX11_fills_7 rfl (lv_at hl 0 rfl) ?_
  refine lv_iconst (v := 2) hx hb dX11_fills_8 (by decide) ?_
  obtain ⟨o3, g4, hf⟩ := jbB_e hf
  refine cva_i (As := [.int o1, .int 2]) (rest := []) ⟨hx, hb, hml, hown, hts⟩ (c_X11_of l g hm mv o1 2 _ g4) (cwV 2 hts gX11_fills_X11_of rfl rfl rfl hd_X11_of ⟨Nat.le_of_ble_eq_true rfl, Nat.le_of_ble_eq_true rfl⟩) hK hZ hT hA hP hD hS hl.1 (va_recv hK hP (ci := 10) (q0 := 0) rfl rfl) rfl rfl (Nat.le_of_ble_eq_true rfl) ⟨Nat.le_of_ble_eq_true rfl, Nat.le_of_ble_eq_true rfl⟩ dX11_fills_9 (fun H locs hP hD hS => ?_)
  refine lv_if_ne (tgt := 48) hx hb dX11_fills_12 (by decide) (fun hc => ?_) (fun hc => ?_)
  · have hf := jbF hf hc
    exact hJ48 mv a0 a1 o1 _ _ _ hf hP hD hS (lv_sub hl [1, 2, 3, 0] rfl)
  · have hf := jbT hf hc
    refine lv_aload_n hx hb dX11_fills_15 rfl (lv_at hl 1 rfl) ?_
    refine lv_iload_n hx hb dX11_fills_16 rfl (lv_at hl 0 rfl) ?_
    refine lv_iconst (v := 0) hx hb dX11_fills_17 (by decide) ?_
    obtain ⟨o5, g6, hf⟩ := jbB_e hf
    refine cva_i (As := [.int o1, .int 0]) (rest := []) ⟨hx, hb, hml, hown, hts⟩ (c_X11_of l g hm mv o1 0 _ g6) (cwV 2 hts gX11_fills_X11_of rfl rfl rfl hd_X11_of ⟨Nat.le_of_ble_eq_true rfl, Nat.le_of_ble_eq_true rfl⟩) hK hZ hT hA hP hD hS hl.1 (va_recv hK hP (ci := 10) (q0 := 0) rfl rfl) rfl rfl (Nat.le_of_ble_eq_true rfl) ⟨Nat.le_of_ble_eq_true rfl, Nat.le_of_ble_eq_true rfl⟩ dX11_fills_18 (fun H locs hP hD hS => ?_)
    refine lv_bipush (v := 9) hx hb dX11_fills_21 (by decide) ?_
    refine lv_icmp_ge (tgt := 48) hx hb dX11_fills_23 (by decide) (fun hc => ?_) (fun hc => ?_)
    · have hf := jbT hf hc
      exact hJ48 mv a0 a1 o1 _ _ _ hf hP hD hS (lv_sub hl [1, 2, 3, 0] rfl)
    · have hf := jbF hf hc
      refine lv_aload_n hx hb dX11_fills_26 rfl (lv_at hl 1 rfl) ?_
      refine lv_iload_n hx hb dX11_fills_27 rfl (lv_at hl 0 rfl) ?_
      refine lv_iconst (v := 3) hx hb dX11_fills_28 (by decide) ?_
      obtain ⟨o7, g8, hf⟩ := jbB_e hf
      refine cva_i (As := [.int o1, .int 3]) (rest := []) ⟨hx, hb, hml, hown, hts⟩ (c_X11_of l g hm mv o1 3 _ g8) (cwV 2 hts gX11_fills_X11_of rfl rfl rfl hd_X11_of ⟨Nat.le_of_ble_eq_true rfl, Nat.le_of_ble_eq_true rfl⟩) hK hZ hT hA hP hD hS hl.1 (va_recv hK hP (ci := 10) (q0 := 0) rfl rfl) rfl rfl (Nat.le_of_ble_eq_true rfl) ⟨Nat.le_of_ble_eq_true rfl, Nat.le_of_ble_eq_true rfl⟩ dX11_fills_29 (fun H locs hP hD hS => ?_)
      refine lv_if_ne (tgt := 48) hx hb dX11_fills_32 (by decide) (fun hc => ?_) (fun hc => ?_)
      · have hf := jbF hf hc
        exact hJ48 mv a0 a1 o1 _ _ _ hf hP hD hS (lv_sub hl [1, 2, 3, 0] rfl)
      · have hf := jbT hf hc
        refine lv_aload_n hx hb dX11_fills_35 rfl (lv_at hl 1 rfl) ?_
        refine va_get (D := gD g) (ci := 10) (v := .ref (hm 1)) (C := RX11) (T := TX11) (N := 19) hx hb hts hinX11 hown hK hP 0 rfl rfl 0 (by decide) k0 (fun _ h9 => h9) rfl dX11_fills_36 ?_
        refine lv_iconst (v := 1) hx hb dX11_fills_39 (by decide) ?_
        obtain ⟨h9, hf⟩ := jbA_e hf
        refine va_iald hx hb hK hP 1 0 rfl rfl h9 dX11_fills_40 ?_
        refine lv_if_le (tgt := 48) hx hb dX11_fills_41 (by decide) (fun hc => ?_) (fun hc => ?_)
        · have hf := jbT hf hc
          exact hJ48 mv a0 a1 o1 _ _ _ hf hP hD hS (lv_sub hl [1, 2, 3, 0] rfl)
        · have hf := jbF hf hc
          refine lv_iconst (v := 1) hx hb dX11_fills_44 (by decide) ?_
          refine lv_goto (tgt := 49) hx hb dX11_fills_45 (by decide) ?_
          exact hJ49 mv a0 a1 o1 1 _ _ _ hf hP hD hS (lv_sub hl [1, 2, 3, 0] rfl)
def f_X11_fill (mv : MV) (a0 : Int32) (a1 : Int32) : Option (Int32 × MV) :=
  (f_X11_begins mv).bind fun o1 =>
  (f_X11_fills o1 a0 a1).bind fun o3 =>
  (f_X11_ends (o3.2) (o3.1)).bind fun o5 =>
  some ((o5.1), (o5.2))
def rm_X11_fill : Room := { frames := 5, cells := 0, slots := 0, locals := 115 }
theorem hd_X11_fill : yX11_fill.cls = RX11 ∧ yX11_fill.cls ≠ "java/lang/invoke/MethodHandle" ∧ yX11_fill.cls ≠ "java/lang/invoke/VarHandle" ∧ (parseMethodDescriptor yX11_fill.desc).map (fun d => d.parameters.length) = some 2 := by decide +kernel
set_option maxHeartbeats 4000000 in
set_option maxRecDepth 100000 in
theorem c_X11_fill (l : Launch) (g : GG) (hm : Nat → Nat) (mv : MV)  (a0 : Int32) (a1 : Int32) (out : Int32 × MV) (hf : f_X11_fill mv a0 a1 = some out) : MtI l yX11_fill wsX11_fill rm_X11_fill g (wM g hm mv) [.ref (hm 0), .int a0, .int a1] (out.1) (wM g hm (out.2)) 0 0 := by
  refine fun sz => mt_of (cc := cX11_fill) (maxL := 3) (ret := (some .int)) (own := RX11) (Qc := fun A => va_Qi (fun r (_ : Unit) => r = (out.1)) (fun _ t => PosM g A (wM g hm (out.2)) t) A) (by decide +kernel) rfl rfl (Nat.le_of_ble_eq_true rfl) ?_ sz
  intro p e s mi below meth c A ls hB hnm hrt hlk hP hD hl
  obtain ⟨hx, hb, hml, hown, hts, hK, hZ, hT, hA, -⟩ := hB
  have hS : va_S A s.heap s.heap [] := va_S.rf
  have hl : lv_has ls 3 [(0, .ref (hm 0)), (1, .int a0), (2, .int a1)] := hl
  generalize hQ : MQ below _ _ _ _ _ _ = Q
  unfold f_X11_fill at hf
  refine lv_aload_n hx hb dX11_fill_0 rfl (lv_at hl 0 rfl) ?_
  obtain ⟨o1, g2, hf⟩ := jbB_e hf
  refine cva_v (As := []) (rest := []) ⟨hx, hb, hml, hown, hts⟩ (c_X11_begins l g hm mv _ g2) (cwV 0 hts gX11_fill_X11_begins rfl rfl rfl hd_X11_begins ⟨Nat.le_of_ble_eq_true rfl, Nat.le_of_ble_eq_true rfl⟩) hK hZ hT hA hP hD hS hl.1 (va_recv hK hP (ci := 10) (q0 := 0) rfl rfl) rfl rfl (Nat.le_of_ble_eq_true rfl) ⟨Nat.le_of_ble_eq_true rfl, Nat.le_of_ble_eq_true rfl⟩ dX11_fill_1 (fun H locs hP hD hS => ?_)
  refine lv_aload_n hx hb dX11_fill_4 rfl (lv_at hl 0 rfl) ?_
  refine lv_aload_n hx hb dX11_fill_5 rfl (lv_at hl 0 rfl) ?_
  refine lv_iload_n hx hb dX11_fill_6 rfl (lv_at hl 1 rfl) ?_
  refine lv_iload_n hx hb dX11_fill_7 rfl (lv_at hl 2 rfl) ?_
  obtain ⟨o3, g4, hf⟩ := jbB_e hf
  refine cva_i (As := [.int a0, .int a1]) (rest := [.ref (hm 0)]) ⟨hx, hb, hml, hown, hts⟩ (c_X11_fills l g hm o1 a0 a1 _ g4) (cwV 2 hts gX11_fill_X11_fills rfl rfl rfl hd_X11_fills ⟨Nat.le_of_ble_eq_true rfl, Nat.le_of_ble_eq_true rfl⟩) hK hZ hT hA hP hD hS hl.1 (va_recv hK hP (ci := 10) (q0 := 0) rfl rfl) rfl rfl (Nat.le_of_ble_eq_true rfl) ⟨Nat.le_of_ble_eq_true rfl, Nat.le_of_ble_eq_true rfl⟩ dX11_fill_8 (fun H locs hP hD hS => ?_)
  obtain ⟨o5, g6, hf⟩ := jbB_e hf
  refine cva_i (As := [.int (o3.1)]) (rest := []) ⟨hx, hb, hml, hown, hts⟩ (c_X11_ends l g hm (o3.2) (o3.1) _ g6) (cwV 1 hts gX11_fill_X11_ends rfl rfl rfl hd_X11_ends ⟨Nat.le_of_ble_eq_true rfl, Nat.le_of_ble_eq_true rfl⟩) hK hZ hT hA hP hD hS hl.1 (va_recv hK hP (ci := 10) (q0 := 0) rfl rfl) rfl rfl (Nat.le_of_ble_eq_true rfl) ⟨Nat.le_of_ble_eq_true rfl, Nat.le_of_ble_eq_true rfl⟩ dX11_fill_11 (fun H locs hP hD hS => ?_)
  cases hf
  subst hQ
  exact rt_i hx hb hrt hlk rfl hK hP hD hS (Nat.le_of_ble_eq_true rfl) (Nat.le_of_ble_eq_true rfl) dX11_fill_14
def f_X11_toggles (mv : MV) (a0 : Int32) (a1 : Int32) : Option (Int32 × MV) :=
  (f_X11_isCell a0 a1).bind fun o1 =>
  (f_X11_goes mv o1).bind fun o3 =>
  if (o3.1) = 0 then
  (some (0, (o3.2)))
  else
  ((f_X11_cellAt a0 a1).bind fun o5 =>
  (f_X11_placeOf o5).bind fun o7 =>
  jbN (o7 + 2) fun z9 =>
  if jIn z9 229 then
  if jIn z9 229 then
  jbN (mSNow (upd (mNow (o3.2)) z9.toNatClampNeg (1 - ((mNow (o3.2)) z9.toNatClampNeg))) (o3.2)) fun w12 =>
  if jIn z9 229 then
  some (((mNow w12) z9.toNatClampNeg), w12)
  else none
  else none
  else none)
def rm_X11_toggles : Room := { frames := 3, cells := 0, slots := 0, locals := 64 }
theorem hd_X11_toggles : yX11_toggles.cls = RX11 ∧ yX11_toggles.cls ≠ "java/lang/invoke/MethodHandle" ∧ yX11_toggles.cls ≠ "java/lang/invoke/VarHandle" ∧ (parseMethodDescriptor yX11_toggles.desc).map (fun d => d.parameters.length) = some 2 := by decide +kernel
set_option maxHeartbeats 4000000 in
set_option maxRecDepth 100000 in
theorem c_X11_toggles (l : Launch) (g : GG) (hm : Nat → Nat) (mv : MV)  (a0 : Int32) (a1 : Int32) (out : Int32 × MV) (hf : f_X11_toggles mv a0 a1 = some out) : MtI l yX11_toggles wsX11_toggles rm_X11_toggles g (wM g hm mv) [.ref (hm 0), .int a0, .int a1] (out.1) (wM g hm (out.2)) 0 0 := by
  refine fun sz => mt_of (cc := cX11_toggles) (maxL := 4) (ret := (some .int)) (own := RX11) (Qc := fun A => va_Qi (fun r (_ : Unit) => r = (out.1)) (fun _ t => PosM g A (wM g hm (out.2)) t) A) (by decide +kernel) rfl rfl (Nat.le_of_ble_eq_true rfl) ?_ sz
  intro p e s mi below meth c A ls hB hnm hrt hlk hP hD hl
  obtain ⟨hx, hb, hml, hown, hts, hK, hZ, hT, hA, -⟩ := hB
  have hS : va_S A s.heap s.heap [] := va_S.rf
  have hl : lv_has ls 4 [(0, .ref (hm 0)), (1, .int a0), (2, .int a1)] := hl
  have hinX11 : ∀ w ∈ wsX110, w ∈ wsX11_toggles := by decide +kernel
  have k0 := hts (.fieldLink RX11 9 "TerraceQuarryModel" "now" "[I") (by decide +kernel)
  generalize hQ : MQ below _ _ _ _ _ _ = Q
  unfold f_X11_toggles at hf
  refine lv_aload_n hx hb dX11_toggles_0 rfl (lv_at hl 0 rfl) ?_
  refine lv_iload_n hx hb dX11_toggles_1 rfl (lv_at hl 1 rfl) ?_
  refine lv_iload_n hx hb dX11_toggles_2 rfl (lv_at hl 2 rfl) ?_
  obtain ⟨o1, g2, hf⟩ := jbB_e hf
  refine csn_i (As := [.int a0, .int a1]) (rest := [.ref (hm 0)]) ⟨hx, hb, hml, hown, hts⟩ (c_X11_isCell l g a0 a1 _ g2) (va_cwS 2 hts gX11_toggles_X11_isCell rfl rfl rfl hd_X11_isCell ⟨Nat.le_of_ble_eq_true rfl, Nat.le_of_ble_eq_true rfl⟩) hK hZ hT hA hP hD hS hl.1 rfl rfl (Nat.le_of_ble_eq_true rfl) ⟨Nat.le_of_ble_eq_true rfl, Nat.le_of_ble_eq_true rfl⟩ dX11_toggles_3 (fun H locs hP hD hS => ?_)
  obtain ⟨o3, g4, hf⟩ := jbB_e hf
  refine cva_i (As := [.int o1]) (rest := []) ⟨hx, hb, hml, hown, hts⟩ (c_X11_goes l g hm mv o1 _ g4) (cwV 1 hts gX11_toggles_X11_goes rfl rfl rfl hd_X11_goes ⟨Nat.le_of_ble_eq_true rfl, Nat.le_of_ble_eq_true rfl⟩) hK hZ hT hA hP hD hS hl.1 (va_recv hK hP (ci := 10) (q0 := 0) rfl rfl) rfl rfl (Nat.le_of_ble_eq_true rfl) ⟨Nat.le_of_ble_eq_true rfl, Nat.le_of_ble_eq_true rfl⟩ dX11_toggles_6 (fun H locs hP hD hS => ?_)
  refine lv_if_ne (tgt := 14) hx hb dX11_toggles_9 (by decide) (fun hc => ?_) (fun hc => ?_)
  · have hf := jbF hf hc
    refine lv_iload_n hx hb dX11_toggles_14 rfl (lv_at hl 1 rfl) ?_
    refine lv_iload_n hx hb dX11_toggles_15 rfl (lv_at hl 2 rfl) ?_
    obtain ⟨o5, g6, hf⟩ := jbB_e hf
    refine csn_i (As := [.int a0, .int a1]) (rest := []) ⟨hx, hb, hml, hown, hts⟩ (c_X11_cellAt l g a0 a1 _ g6) (va_cwS 2 hts gX11_toggles_X11_cellAt rfl rfl rfl hd_X11_cellAt ⟨Nat.le_of_ble_eq_true rfl, Nat.le_of_ble_eq_true rfl⟩) hK hZ hT hA hP hD hS hl.1 rfl rfl (Nat.le_of_ble_eq_true rfl) ⟨Nat.le_of_ble_eq_true rfl, Nat.le_of_ble_eq_true rfl⟩ dX11_toggles_16 (fun H locs hP hD hS => ?_)
    obtain ⟨o7, g8, hf⟩ := jbB_e hf
    refine csn_i (As := [.int o5]) (rest := []) ⟨hx, hb, hml, hown, hts⟩ (c_X11_placeOf l g o5 _ g8) (va_cwS 1 hts gX11_toggles_X11_placeOf rfl rfl rfl hd_X11_placeOf ⟨Nat.le_of_ble_eq_true rfl, Nat.le_of_ble_eq_true rfl⟩) hK hZ hT hA hP hD hS hl.1 rfl rfl (Nat.le_of_ble_eq_true rfl) ⟨Nat.le_of_ble_eq_true rfl, Nat.le_of_ble_eq_true rfl⟩ dX11_toggles_19 (fun H locs hP hD hS => ?_)
    refine lv_iconst (v := 2) hx hb dX11_toggles_22 (by decide) ?_
    refine lv_iadd hx hb dX11_toggles_23 ?_
    refine lv_topi (fun z9 ez9 => ?_)
    have hf := jbN_e hf ez9
    refine lv_istore_n (lv' := [(3, .int z9), (0, .ref (hm 0)), (1, .int a0), (2, .int a1)]) hx hb dX11_toggles_24 rfl hl (by decide) rfl (fun ls hl => ?_)
    refine lv_aload_n hx hb dX11_toggles_25 rfl (lv_at hl 1 rfl) ?_
    refine va_get (D := gD g) (ci := 10) (v := .ref (hm 1)) (C := RX11) (T := TX11) (N := 19) hx hb hts hinX11 hown hK hP 0 rfl rfl 0 (by decide) k0 (fun _ h9 => h9) rfl dX11_toggles_26 ?_
    refine lv_iload_n hx hb dX11_toggles_29 rfl (lv_at hl 0 rfl) ?_
    refine lv_iconst (v := 1) hx hb dX11_toggles_30 (by decide) ?_
    refine lv_aload_n hx hb dX11_toggles_31 rfl (lv_at hl 1 rfl) ?_
    refine va_get (D := gD g) (ci := 10) (v := .ref (hm 1)) (C := RX11) (T := TX11) (N := 19) hx hb hts hinX11 hown hK hP 0 rfl rfl 0 (by decide) k0 (fun _ h9 => h9) rfl dX11_toggles_32 ?_
    refine lv_iload_n hx hb dX11_toggles_35 rfl (lv_at hl 0 rfl) ?_
    obtain ⟨h10, hf⟩ := jbA_e hf
    refine va_iald hx hb hK hP 1 0 rfl rfl h10 dX11_toggles_36 ?_
    refine lv_isub hx hb dX11_toggles_37 ?_
    obtain ⟨h11, hf⟩ := jbA_e hf
    refine va_iast hx hb hK hP hD hS 1 0 rfl rfl h11 dX11_toggles_38 (fun H locs hP hD hS => ?_)
    obtain ⟨w12, ew12⟩ : ∃ y, y = (mSNow (upd (mNow (o3.2)) z9.toNatClampNeg (1 - ((mNow (o3.2)) z9.toNatClampNeg))) (o3.2)) := ⟨_, rfl⟩
    have hf := jbN_e hf ew12
    have hP : va_P (gD g) vwCl (wM g hm w12) H := by rw [ew12]; exact hP
    have hD : va_D A (wM g hm w12) := by rw [ew12]; exact hD
    refine lv_aload_n hx hb dX11_toggles_39 rfl (lv_at hl 1 rfl) ?_
    refine va_get (D := gD g) (ci := 10) (v := .ref (hm 1)) (C := RX11) (T := TX11) (N := 19) hx hb hts hinX11 hown hK hP 0 rfl rfl 0 (by decide) k0 (fun _ h9 => h9) rfl dX11_toggles_40 ?_
    refine lv_iload_n hx hb dX11_toggles_43 rfl (lv_at hl 0 rfl) ?_
    obtain ⟨h13, hf⟩ := jbA_e hf
    refine va_iald hx hb hK hP 1 0 rfl rfl h13 dX11_toggles_44 ?_
    cases hf
    subst hQ
    exact rt_i hx hb hrt hlk rfl hK hP hD hS (Nat.le_of_ble_eq_true rfl) (Nat.le_of_ble_eq_true rfl) dX11_toggles_45
  · have hf := jbT hf hc
    refine lv_iconst (v := 0) hx hb dX11_toggles_12 (by decide) ?_
    cases hf
    subst hQ
    exact rt_i hx hb hrt hlk rfl hK hP hD hS (Nat.le_of_ble_eq_true rfl) (Nat.le_of_ble_eq_true rfl) dX11_toggles_13
def f_X11_toggleLedge (mv : MV) (a0 : Int32) (a1 : Int32) : Option (Int32 × MV) :=
  (f_X11_begins mv).bind fun o1 =>
  (f_X11_toggles o1 a0 a1).bind fun o3 =>
  (f_X11_ends (o3.2) (o3.1)).bind fun o5 =>
  if (o5.1) = 1 then
  (some (1, (o5.2)))
  else
  (some (0, (o5.2)))
def rm_X11_toggleLedge : Room := { frames := 4, cells := 0, slots := 0, locals := 87 }
theorem hd_X11_toggleLedge : yX11_toggleLedge.cls = RX11 ∧ yX11_toggleLedge.cls ≠ "java/lang/invoke/MethodHandle" ∧ yX11_toggleLedge.cls ≠ "java/lang/invoke/VarHandle" ∧ (parseMethodDescriptor yX11_toggleLedge.desc).map (fun d => d.parameters.length) = some 2 := by decide +kernel
set_option maxHeartbeats 4000000 in
set_option maxRecDepth 100000 in
theorem c_X11_toggleLedge (l : Launch) (g : GG) (hm : Nat → Nat) (mv : MV)  (a0 : Int32) (a1 : Int32) (out : Int32 × MV) (hf : f_X11_toggleLedge mv a0 a1 = some out) : MtI l yX11_toggleLedge wsX11_toggleLedge rm_X11_toggleLedge g (wM g hm mv) [.ref (hm 0), .int a0, .int a1] (out.1) (wM g hm (out.2)) 0 0 := by
  refine fun sz => mt_of (cc := cX11_toggleLedge) (maxL := 3) (ret := (some .boolean)) (own := RX11) (Qc := fun A => va_Qi (fun r (_ : Unit) => r = (out.1)) (fun _ t => PosM g A (wM g hm (out.2)) t) A) (by decide +kernel) rfl rfl (Nat.le_of_ble_eq_true rfl) ?_ sz
  intro p e s mi below meth c A ls hB hnm hrt hlk hP hD hl
  obtain ⟨hx, hb, hml, hown, hts, hK, hZ, hT, hA, -⟩ := hB
  have hS : va_S A s.heap s.heap [] := va_S.rf
  have hl : lv_has ls 3 [(0, .ref (hm 0)), (1, .int a0), (2, .int a1)] := hl
  generalize hQ : MQ below _ _ _ _ _ _ = Q
  unfold f_X11_toggleLedge at hf
  refine lv_aload_n hx hb dX11_toggleLedge_0 rfl (lv_at hl 0 rfl) ?_
  obtain ⟨o1, g2, hf⟩ := jbB_e hf
  refine cva_v (As := []) (rest := []) ⟨hx, hb, hml, hown, hts⟩ (c_X11_begins l g hm mv _ g2) (cwV 0 hts gX11_toggleLedge_X11_begins rfl rfl rfl hd_X11_begins ⟨Nat.le_of_ble_eq_true rfl, Nat.le_of_ble_eq_true rfl⟩) hK hZ hT hA hP hD hS hl.1 (va_recv hK hP (ci := 10) (q0 := 0) rfl rfl) rfl rfl (Nat.le_of_ble_eq_true rfl) ⟨Nat.le_of_ble_eq_true rfl, Nat.le_of_ble_eq_true rfl⟩ dX11_toggleLedge_1 (fun H locs hP hD hS => ?_)
  refine lv_aload_n hx hb dX11_toggleLedge_4 rfl (lv_at hl 0 rfl) ?_
  refine lv_aload_n hx hb dX11_toggleLedge_5 rfl (lv_at hl 0 rfl) ?_
  refine lv_iload_n hx hb dX11_toggleLedge_6 rfl (lv_at hl 1 rfl) ?_
  refine lv_iload_n hx hb dX11_toggleLedge_7 rfl (lv_at hl 2 rfl) ?_
  obtain ⟨o3, g4, hf⟩ := jbB_e hf
  refine cva_i (As := [.int a0, .int a1]) (rest := [.ref (hm 0)]) ⟨hx, hb, hml, hown, hts⟩ (c_X11_toggles l g hm o1 a0 a1 _ g4) (cwV 2 hts gX11_toggleLedge_X11_toggles rfl rfl rfl hd_X11_toggles ⟨Nat.le_of_ble_eq_true rfl, Nat.le_of_ble_eq_true rfl⟩) hK hZ hT hA hP hD hS hl.1 (va_recv hK hP (ci := 10) (q0 := 0) rfl rfl) rfl rfl (Nat.le_of_ble_eq_true rfl) ⟨Nat.le_of_ble_eq_true rfl, Nat.le_of_ble_eq_true rfl⟩ dX11_toggleLedge_8 (fun H locs hP hD hS => ?_)
  obtain ⟨o5, g6, hf⟩ := jbB_e hf
  refine cva_i (As := [.int (o3.1)]) (rest := []) ⟨hx, hb, hml, hown, hts⟩ (c_X11_ends l g hm (o3.2) (o3.1) _ g6) (cwV 1 hts gX11_toggleLedge_X11_ends rfl rfl rfl hd_X11_ends ⟨Nat.le_of_ble_eq_true rfl, Nat.le_of_ble_eq_true rfl⟩) hK hZ hT hA hP hD hS hl.1 (va_recv hK hP (ci := 10) (q0 := 0) rfl rfl) rfl rfl (Nat.le_of_ble_eq_true rfl) ⟨Nat.le_of_ble_eq_true rfl, Nat.le_of_ble_eq_true rfl⟩ dX11_toggleLedge_11 (fun H locs hP hD hS => ?_)
  refine lv_iconst (v := 1) hx hb dX11_toggleLedge_14 (by decide) ?_
  refine lv_icmp_ne (tgt := 22) hx hb dX11_toggleLedge_15 (by decide) (fun hc => ?_) (fun hc => ?_)
  · have hf := jbF hf hc
    refine lv_iconst (v := 0) hx hb dX11_toggleLedge_22 (by decide) ?_
    cases hf
    subst hQ
    exact rt_i hx hb hrt hlk nar_0 hK hP hD hS (Nat.le_of_ble_eq_true rfl) (Nat.le_of_ble_eq_true rfl) dX11_toggleLedge_23
  · have hf := jbT hf hc
    refine lv_iconst (v := 1) hx hb dX11_toggleLedge_18 (by decide) ?_
    refine lv_goto (tgt := 23) hx hb dX11_toggleLedge_19 (by decide) ?_
    cases hf
    subst hQ
    exact rt_i hx hb hrt hlk nar_1 hK hP hD hS (Nat.le_of_ble_eq_true rfl) (Nat.le_of_ble_eq_true rfl) dX11_toggleLedge_23
def f_X11_limits_J56 (mv : MV) (x1 : Int32) (x3 : Int32) (y0 : Int32) (y1 : Int32) : Option (Int32 × MV) :=
  (f_X11_holds mv y1 y0 1 1).bind fun o10 =>
  if (o10.1) = 0 then
  (some (x3, (o10.2)))
  else
  (if jIn 0 229 then
  jbN (mSNow (upd (mNow (o10.2)) (0 : Int32).toNatClampNeg x1) (o10.2)) fun w13 =>
  some (x3, w13)
  else none)
def f_X11_limits_L4 (mv : MV) (x1 : Int32) (x2 : Int32) (x3 : Int32) : Option (Sum (Int32 × Int32) (Int32 × Int32)) :=
  if 30 ≤ x3 then
  (some (.inr (x2, x3)))
  else
  ((f_X11_of mv x3 0).bind fun o5 =>
  (f_X11_steepest mv x3 o5).bind fun o7 =>
  jbN (jMax x2 o7) fun z9 =>
  some (.inl (z9, (x3 + 1))))
def f_X11_limits (mv : MV) (a0 : Int32) : Option (Int32 × MV) :=
  (jbL (fun s => f_X11_limits_L4 mv a0 (s.1) (s.2)) 5000 (0, 0)).bind fun o4 =>
  if jIn 0 229 then
  jbN ((mNow mv) (0 : Int32).toNatClampNeg) fun z2 =>
  (f_X11_isIn a0 1 4).bind fun o3 =>
  if a0 < (o4.1) then
  (f_X11_limits_J56 mv a0 z2 0 o3)
  else
  (f_X11_limits_J56 mv a0 z2 1 o3)
  else none
def rm_X11_limits : Room := { frames := 4, cells := 0, slots := 0, locals := 91 }
theorem hd_X11_limits : yX11_limits.cls = RX11 ∧ yX11_limits.cls ≠ "java/lang/invoke/MethodHandle" ∧ yX11_limits.cls ≠ "java/lang/invoke/VarHandle" ∧ (parseMethodDescriptor yX11_limits.desc).map (fun d => d.parameters.length) = some 1 := by decide +kernel
set_option maxHeartbeats 4000000 in
set_option maxRecDepth 100000 in
theorem c_X11_limits (l : Launch) (g : GG) (hm : Nat → Nat) (mv : MV)  (a0 : Int32) (out : Int32 × MV) (hf : f_X11_limits mv a0 = some out) : MtI l yX11_limits wsX11_limits rm_X11_limits g (wM g hm mv) [.ref (hm 0), .int a0] (out.1) (wM g hm (out.2)) 0 0 := by
  refine fun sz => mt_of (cc := cX11_limits) (maxL := 4) (ret := (some .int)) (own := RX11) (Qc := fun A => va_Qi (fun r (_ : Unit) => r = (out.1)) (fun _ t => PosM g A (wM g hm (out.2)) t) A) (by decide +kernel) rfl rfl (Nat.le_of_ble_eq_true rfl) ?_ sz
  intro p e s mi below meth c A ls hB hnm hrt hlk hP hD hl
  obtain ⟨hx, hb, hml, hown, hts, hK, hZ, hT, hA, -⟩ := hB
  have hS : va_S A s.heap s.heap [] := va_S.rf
  have hl : lv_has ls 4 [(0, .ref (hm 0)), (1, .int a0)] := hl
  have hinX11 : ∀ w ∈ wsX110, w ∈ wsX11_limits := by decide +kernel
  have k0 := hts (.fieldLink RX11 9 "TerraceQuarryModel" "now" "[I") (by decide +kernel)
  have k1 := hts (.methodLink RX11 90 Lib.Math.max.name) (by decide +kernel)
  have k2 := hts (.static Lib.Math.max.name) (by decide +kernel)
  have k3 := hts (.initialized "java/lang/Math") (by decide +kernel)
  have k4 := hts (.code Lib.Math.max.name Lib.Math.max.code 2 (some .int)) (by decide +kernel)
  generalize hQ : MQ below _ _ _ _ _ _ = Q
  unfold f_X11_limits at hf
  have hJ56 : ∀ (mv : MV) (x1 : Int32) (x3 : Int32) (y0 : Int32) (y1 : Int32) (H : Heap) (locs : List Loc) (ls : Array Slot), f_X11_limits_J56 mv x1 x3 y0 y1 = some out → va_P (gD g) vwCl (wM g hm mv) H → va_D A (wM g hm mv) → va_S A s.heap H locs → lv_has ls 4 [(0, .ref (hm 0)), (1, .int x1), (3, .int x3)] → W p l e rm_X11_limits s mi [.ref (hm 0), .int a0].toArray below meth c H locs 0 0 Q (F0 mi 56 ls [.int y0, .int y1, .ref (hm 0)]) := by
    intro mv x1 x3 y0 y1 H locs ls hf hP hD hS hl
    unfold f_X11_limits_J56 at hf
    refine lv_iconst (v := 1) hx hb dX11_limits_56 (by decide) ?_
    refine lv_iconst (v := 1) hx hb dX11_limits_57 (by decide) ?_
    obtain ⟨o10, g11, hf⟩ := jbB_e hf
    refine cva_i (As := [.int y1, .int y0, .int 1, .int 1]) (rest := []) ⟨hx, hb, hml, hown, hts⟩ (c_X11_holds l g hm mv y1 y0 1 1 _ g11) (cwV 4 hts gX11_limits_X11_holds rfl rfl rfl hd_X11_holds ⟨Nat.le_of_ble_eq_true rfl, Nat.le_of_ble_eq_true rfl⟩) hK hZ hT hA hP hD hS hl.1 (va_recv hK hP (ci := 10) (q0 := 0) rfl rfl) rfl rfl (Nat.le_of_ble_eq_true rfl) ⟨Nat.le_of_ble_eq_true rfl, Nat.le_of_ble_eq_true rfl⟩ dX11_limits_58 (fun H locs hP hD hS => ?_)
    refine lv_if_eq (tgt := 71) hx hb dX11_limits_61 (by decide) (fun hc => ?_) (fun hc => ?_)
    · have hf := jbT hf hc
      refine lv_iload_n hx hb dX11_limits_71 rfl (lv_at hl 2 rfl) ?_
      cases hf
      subst hQ
      exact rt_i hx hb hrt hlk rfl hK hP hD hS (Nat.le_of_ble_eq_true rfl) (Nat.le_of_ble_eq_true rfl) dX11_limits_72
    · have hf := jbF hf hc
      refine lv_aload_n hx hb dX11_limits_64 rfl (lv_at hl 0 rfl) ?_
      refine va_get (D := gD g) (ci := 10) (v := .ref (hm 1)) (C := RX11) (T := TX11) (N := 19) hx hb hts hinX11 hown hK hP 0 rfl rfl 0 (by decide) k0 (fun _ h9 => h9) rfl dX11_limits_65 ?_
      refine lv_iconst (v := 0) hx hb dX11_limits_68 (by decide) ?_
      refine lv_iload_n hx hb dX11_limits_69 rfl (lv_at hl 1 rfl) ?_
      obtain ⟨h12, hf⟩ := jbA_e hf
      refine va_iast hx hb hK hP hD hS 1 0 rfl rfl h12 dX11_limits_70 (fun H locs hP hD hS => ?_)
      obtain ⟨w13, ew13⟩ : ∃ y, y = (mSNow (upd (mNow (o10.2)) (0 : Int32).toNatClampNeg x1) (o10.2)) := ⟨_, rfl⟩
      have hf := jbN_e hf ew13
      have hP : va_P (gD g) vwCl (wM g hm w13) H := by rw [ew13]; exact hP
      have hD : va_D A (wM g hm w13) := by rw [ew13]; exact hD
      refine lv_iload_n hx hb dX11_limits_71 rfl (lv_at hl 2 rfl) ?_
      cases hf
      subst hQ
      exact rt_i hx hb hrt hlk rfl hK hP hD hS (Nat.le_of_ble_eq_true rfl) (Nat.le_of_ble_eq_true rfl) dX11_limits_72
  have hL4 : ∀ (mv : MV) (x1 : Int32) (n : Nat) (x2 : Int32) (x3 : Int32) (H : Heap) (locs : List Loc) (ls : Array Slot) (o4 : Int32 × Int32), jbL (fun s => f_X11_limits_L4 mv x1 (s.1) (s.2)) n (x2, x3) = some o4 → va_P (gD g) vwCl (wM g hm mv) H → va_D A (wM g hm mv) → va_S A s.heap H locs → lv_has ls 4 [(0, .ref (hm 0)), (1, .int x1), (2, .int x2), (3, .int x3)] → (∀ (H : Heap) (locs : List Loc) (ls : Array Slot), va_P (gD g) vwCl (wM g hm mv) H → va_D A (wM g hm mv) → va_S A s.heap H locs → lv_has ls 4 [(0, .ref (hm 0)), (1, .int x1), (2, .int (o4.1))] → W p l e rm_X11_limits s mi [.ref (hm 0), .int a0].toArray below meth c H locs 0 0 Q (F0 mi 32 ls [])) → W p l e rm_X11_limits s mi [.ref (hm 0), .int a0].toArray below meth c H locs 0 0 Q (F0 mi 4 ls []) := by
    intro mv x1 n
    induction n with
    | zero => intro x2 x3 H locs ls o4 hf; exact absurd hf (jbL_0 _ _ _)
    | succ n ih =>
      intro x2 x3 H locs ls o4 hf hP hD hS hl hk
      obtain ⟨r, hf, hr⟩ := jbL_e hf
      have hf : f_X11_limits_L4 mv x1 x2 x3 = some r := hf
      unfold f_X11_limits_L4 at hf
      refine lv_iload_n hx hb dX11_limits_4 rfl (lv_at hl 3 rfl) ?_
      refine lv_bipush (v := 30) hx hb dX11_limits_5 (by decide) ?_
      refine lv_icmp_ge (tgt := 32) hx hb dX11_limits_7 (by decide) (fun hc => ?_) (fun hc => ?_)
      · have hf := jbT hf hc
        cases hf
        obtain rfl := jbR_r hr
        exact hk _ _ _ hP hD hS (lv_sub hl [0, 1, 2] rfl)
      · have hf := jbF hf hc
        refine lv_iload_n hx hb dX11_limits_10 rfl (lv_at hl 2 rfl) ?_
        refine lv_aload_n hx hb dX11_limits_11 rfl (lv_at hl 0 rfl) ?_
        refine lv_iload_n hx hb dX11_limits_12 rfl (lv_at hl 3 rfl) ?_
        refine lv_aload_n hx hb dX11_limits_13 rfl (lv_at hl 0 rfl) ?_
        refine lv_iload_n hx hb dX11_limits_14 rfl (lv_at hl 3 rfl) ?_
        refine lv_iconst (v := 0) hx hb dX11_limits_15 (by decide) ?_
        obtain ⟨o5, g6, hf⟩ := jbB_e hf
        refine cva_i (As := [.int x3, .int 0]) (rest := [.int x3, .ref (hm 0), .int x2]) ⟨hx, hb, hml, hown, hts⟩ (c_X11_of l g hm mv x3 0 _ g6) (cwV 2 hts gX11_limits_X11_of rfl rfl rfl hd_X11_of ⟨Nat.le_of_ble_eq_true rfl, Nat.le_of_ble_eq_true rfl⟩) hK hZ hT hA hP hD hS hl.1 (va_recv hK hP (ci := 10) (q0 := 0) rfl rfl) rfl rfl (Nat.le_of_ble_eq_true rfl) ⟨Nat.le_of_ble_eq_true rfl, Nat.le_of_ble_eq_true rfl⟩ dX11_limits_16 (fun H locs hP hD hS => ?_)
        obtain ⟨o7, g8, hf⟩ := jbB_e hf
        refine cva_i (As := [.int x3, .int o5]) (rest := [.int x2]) ⟨hx, hb, hml, hown, hts⟩ (c_X11_steepest l g hm mv x3 o5 _ g8) (cwV 2 hts gX11_limits_X11_steepest rfl rfl rfl hd_X11_steepest ⟨Nat.le_of_ble_eq_true rfl, Nat.le_of_ble_eq_true rfl⟩) hK hZ hT hA hP hD hS hl.1 (va_recv hK hP (ci := 10) (q0 := 0) rfl rfl) rfl rfl (Nat.le_of_ble_eq_true rfl) ⟨Nat.le_of_ble_eq_true rfl, Nat.le_of_ble_eq_true rfl⟩ dX11_limits_19 (fun H locs hP hD hS => ?_)
        refine va_mmax hx hb (hml.trans hl.1.symm) hown k1 k2 k3 k4 (Nat.le_of_ble_eq_true rfl) (Nat.le_of_ble_eq_true rfl) (Nat.le_of_ble_eq_true rfl) (Nat.le_of_ble_eq_true rfl) dX11_limits_22 ?_
        refine lv_topi (fun z9 ez9 => ?_)
        have hf := jbN_e hf ez9
        refine lv_istore_n (lv' := [(2, .int z9), (0, .ref (hm 0)), (1, .int x1), (3, .int x3)]) hx hb dX11_limits_25 rfl hl (by decide) rfl (fun ls hl => ?_)
        refine lv_iinc (v := (x3 + 1)) (lv' := [(3, .int (x3 + 1)), (2, .int z9), (0, .ref (hm 0)), (1, .int x1)]) hx hb dX11_limits_26 hl (k := 3) rfl rfl (by decide) rfl (fun ls hl => ?_)
        refine lv_goto (tgt := 4) hx hb dX11_limits_29 (by decide) ?_
        cases hf
        exact ih z9 (x3 + 1) _ _ _ _ hr hP hD hS (lv_sub hl [2, 3, 1, 0] rfl) hk
  refine lv_iconst (v := 0) hx hb dX11_limits_0 (by decide) ?_
  refine lv_istore_n (lv' := [(2, .int 0), (0, .ref (hm 0)), (1, .int a0)]) hx hb dX11_limits_1 rfl hl (by decide) rfl (fun ls hl => ?_)
  refine lv_iconst (v := 0) hx hb dX11_limits_2 (by decide) ?_
  refine lv_istore_n (lv' := [(3, .int 0), (2, .int 0), (0, .ref (hm 0)), (1, .int a0)]) hx hb dX11_limits_3 rfl hl (by decide) rfl (fun ls hl => ?_)
  obtain ⟨o4, hg, hf⟩ := jbB_e hf
  refine hL4 mv a0 _ 0 0 _ _ _ _ hg hP hD hS (lv_sub hl [2, 3, 1, 0] rfl) (fun H locs ls hP hD hS hl => ?_)
  refine lv_aload_n hx hb dX11_limits_32 rfl (lv_at hl 0 rfl) ?_
  refine va_get (D := gD g) (ci := 10) (v := .ref (hm 1)) (C := RX11) (T := TX11) (N := 19) hx hb hts hinX11 hown hK hP 0 rfl rfl 0 (by decide) k0 (fun _ h9 => h9) rfl dX11_limits_33 ?_
  refine lv_iconst (v := 0) hx hb dX11_limits_36 (by decide) ?_
  obtain ⟨h1, hf⟩ := jbA_e hf
  refine va_iald hx hb hK hP 1 0 rfl rfl h1 dX11_limits_37 ?_
  refine lv_topi (fun z2 ez2 => ?_)
  have hf := jbN_e hf ez2
  refine lv_istore_n (lv' := [(3, .int z2), (0, .ref (hm 0)), (1, .int a0), (2, .int (o4.1))]) hx hb dX11_limits_38 rfl hl (by decide) rfl (fun ls hl => ?_)
  refine lv_aload_n hx hb dX11_limits_39 rfl (lv_at hl 1 rfl) ?_
  refine lv_iload_n hx hb dX11_limits_40 rfl (lv_at hl 2 rfl) ?_
  refine lv_iconst (v := 1) hx hb dX11_limits_41 (by decide) ?_
  refine lv_iconst (v := 4) hx hb dX11_limits_42 (by decide) ?_
  obtain ⟨o3, g4, hf⟩ := jbB_e hf
  refine csn_i (As := [.int a0, .int 1, .int 4]) (rest := [.ref (hm 0)]) ⟨hx, hb, hml, hown, hts⟩ (c_X11_isIn l g a0 1 4 _ g4) (va_cwS 3 hts gX11_limits_X11_isIn rfl rfl rfl hd_X11_isIn ⟨Nat.le_of_ble_eq_true rfl, Nat.le_of_ble_eq_true rfl⟩) hK hZ hT hA hP hD hS hl.1 rfl rfl (Nat.le_of_ble_eq_true rfl) ⟨Nat.le_of_ble_eq_true rfl, Nat.le_of_ble_eq_true rfl⟩ dX11_limits_43 (fun H locs hP hD hS => ?_)
  refine lv_iload_n hx hb dX11_limits_46 rfl (lv_at hl 3 rfl) ?_
  refine lv_iload_n hx hb dX11_limits_47 rfl (lv_at hl 2 rfl) ?_
  refine lv_icmp_gt (tgt := 55) hx hb dX11_limits_48 (by decide) (fun hc => ?_) (fun hc => ?_)
  · have hf := jbT hf hc
    refine lv_iconst (v := 0) hx hb dX11_limits_55 (by decide) ?_
    exact hJ56 mv a0 z2 0 o3 _ _ _ hf hP hD hS (lv_sub hl [1, 2, 0] rfl)
  · have hf := jbF hf hc
    refine lv_iconst (v := 1) hx hb dX11_limits_51 (by decide) ?_
    refine lv_goto (tgt := 56) hx hb dX11_limits_52 (by decide) ?_
    exact hJ56 mv a0 z2 1 o3 _ _ _ hf hP hD hS (lv_sub hl [1, 2, 0] rfl)
def f_X11_setStepLimit (mv : MV) (a0 : Int32) : Option (Int32 × MV) :=
  (f_X11_begins mv).bind fun o1 =>
  (f_X11_limits o1 a0).bind fun o3 =>
  (f_X11_ends (o3.2) (o3.1)).bind fun o5 =>
  some ((o5.1), (o5.2))
def rm_X11_setStepLimit : Room := { frames := 5, cells := 0, slots := 0, locals := 114 }
theorem hd_X11_setStepLimit : yX11_setStepLimit.cls = RX11 ∧ yX11_setStepLimit.cls ≠ "java/lang/invoke/MethodHandle" ∧ yX11_setStepLimit.cls ≠ "java/lang/invoke/VarHandle" ∧ (parseMethodDescriptor yX11_setStepLimit.desc).map (fun d => d.parameters.length) = some 1 := by decide +kernel
set_option maxHeartbeats 4000000 in
set_option maxRecDepth 100000 in
theorem c_X11_setStepLimit (l : Launch) (g : GG) (hm : Nat → Nat) (mv : MV)  (a0 : Int32) (out : Int32 × MV) (hf : f_X11_setStepLimit mv a0 = some out) : MtI l yX11_setStepLimit wsX11_setStepLimit rm_X11_setStepLimit g (wM g hm mv) [.ref (hm 0), .int a0] (out.1) (wM g hm (out.2)) 0 0 := by
  refine fun sz => mt_of (cc := cX11_setStepLimit) (maxL := 2) (ret := (some .int)) (own := RX11) (Qc := fun A => va_Qi (fun r (_ : Unit) => r = (out.1)) (fun _ t => PosM g A (wM g hm (out.2)) t) A) (by decide +kernel) rfl rfl (Nat.le_of_ble_eq_true rfl) ?_ sz
  intro p e s mi below meth c A ls hB hnm hrt hlk hP hD hl
  obtain ⟨hx, hb, hml, hown, hts, hK, hZ, hT, hA, -⟩ := hB
  have hS : va_S A s.heap s.heap [] := va_S.rf
  have hl : lv_has ls 2 [(0, .ref (hm 0)), (1, .int a0)] := hl
  generalize hQ : MQ below _ _ _ _ _ _ = Q
  unfold f_X11_setStepLimit at hf
  refine lv_aload_n hx hb dX11_setStepLimit_0 rfl (lv_at hl 0 rfl) ?_
  obtain ⟨o1, g2, hf⟩ := jbB_e hf
  refine cva_v (As := []) (rest := []) ⟨hx, hb, hml, hown, hts⟩ (c_X11_begins l g hm mv _ g2) (cwV 0 hts gX11_setStepLimit_X11_begins rfl rfl rfl hd_X11_begins ⟨Nat.le_of_ble_eq_true rfl, Nat.le_of_ble_eq_true rfl⟩) hK hZ hT hA hP hD hS hl.1 (va_recv hK hP (ci := 10) (q0 := 0) rfl rfl) rfl rfl (Nat.le_of_ble_eq_true rfl) ⟨Nat.le_of_ble_eq_true rfl, Nat.le_of_ble_eq_true rfl⟩ dX11_setStepLimit_1 (fun H locs hP hD hS => ?_)
  refine lv_aload_n hx hb dX11_setStepLimit_4 rfl (lv_at hl 0 rfl) ?_
  refine lv_aload_n hx hb dX11_setStepLimit_5 rfl (lv_at hl 0 rfl) ?_
  refine lv_iload_n hx hb dX11_setStepLimit_6 rfl (lv_at hl 1 rfl) ?_
  obtain ⟨o3, g4, hf⟩ := jbB_e hf
  refine cva_i (As := [.int a0]) (rest := [.ref (hm 0)]) ⟨hx, hb, hml, hown, hts⟩ (c_X11_limits l g hm o1 a0 _ g4) (cwV 1 hts gX11_setStepLimit_X11_limits rfl rfl rfl hd_X11_limits ⟨Nat.le_of_ble_eq_true rfl, Nat.le_of_ble_eq_true rfl⟩) hK hZ hT hA hP hD hS hl.1 (va_recv hK hP (ci := 10) (q0 := 0) rfl rfl) rfl rfl (Nat.le_of_ble_eq_true rfl) ⟨Nat.le_of_ble_eq_true rfl, Nat.le_of_ble_eq_true rfl⟩ dX11_setStepLimit_7 (fun H locs hP hD hS => ?_)
  obtain ⟨o5, g6, hf⟩ := jbB_e hf
  refine cva_i (As := [.int (o3.1)]) (rest := []) ⟨hx, hb, hml, hown, hts⟩ (c_X11_ends l g hm (o3.2) (o3.1) _ g6) (cwV 1 hts gX11_setStepLimit_X11_ends rfl rfl rfl hd_X11_ends ⟨Nat.le_of_ble_eq_true rfl, Nat.le_of_ble_eq_true rfl⟩) hK hZ hT hA hP hD hS hl.1 (va_recv hK hP (ci := 10) (q0 := 0) rfl rfl) rfl rfl (Nat.le_of_ble_eq_true rfl) ⟨Nat.le_of_ble_eq_true rfl, Nat.le_of_ble_eq_true rfl⟩ dX11_setStepLimit_10 (fun H locs hP hD hS => ?_)
  cases hf
  subst hQ
  exact rt_i hx hb hrt hlk rfl hK hP hD hS (Nat.le_of_ble_eq_true rfl) (Nat.le_of_ble_eq_true rfl) dX11_setStepLimit_13
def f_X11_isWinch (mv : MV) (a0 : Int32) : Option Int32 :=
  if jIn 5 229 then
  (f_X11_isIn a0 0 (((mNow mv) (5 : Int32).toNatClampNeg) - 1)).bind fun o2 =>
  if vp_nar .boolean o2 = o2 then some o2 else none
  else none
def rm_X11_isWinch : Room := { frames := 1, cells := 0, slots := 0, locals := 22 }
theorem hd_X11_isWinch : yX11_isWinch.cls = RX11 ∧ yX11_isWinch.cls ≠ "java/lang/invoke/MethodHandle" ∧ yX11_isWinch.cls ≠ "java/lang/invoke/VarHandle" ∧ (parseMethodDescriptor yX11_isWinch.desc).map (fun d => d.parameters.length) = some 1 := by decide +kernel
set_option maxHeartbeats 4000000 in
set_option maxRecDepth 100000 in
theorem c_X11_isWinch (l : Launch) (g : GG) (hm : Nat → Nat) (mv : MV)  (a0 : Int32) (out : Int32) (hf : f_X11_isWinch mv a0 = some out) : MtI l yX11_isWinch wsX11_isWinch rm_X11_isWinch g (wM g hm mv) [.ref (hm 0), .int a0] out (wM g hm mv) 0 0 := by
  refine fun sz => mt_of (cc := cX11_isWinch) (maxL := 2) (ret := (some .boolean)) (own := RX11) (Qc := fun A => va_Qi (fun r (_ : Unit) => r = out) (fun _ t => PosM g A (wM g hm mv) t) A) (by decide +kernel) rfl rfl (Nat.le_of_ble_eq_true rfl) ?_ sz
  intro p e s mi below meth c A ls hB hnm hrt hlk hP hD hl
  obtain ⟨hx, hb, hml, hown, hts, hK, hZ, hT, hA, -⟩ := hB
  have hS : va_S A s.heap s.heap [] := va_S.rf
  have hl : lv_has ls 2 [(0, .ref (hm 0)), (1, .int a0)] := hl
  have hinX11 : ∀ w ∈ wsX110, w ∈ wsX11_isWinch := by decide +kernel
  have k0 := hts (.fieldLink RX11 9 "TerraceQuarryModel" "now" "[I") (by decide +kernel)
  generalize hQ : MQ below _ _ _ _ _ _ = Q
  unfold f_X11_isWinch at hf
  refine lv_iload_n hx hb dX11_isWinch_0 rfl (lv_at hl 1 rfl) ?_
  refine lv_iconst (v := 0) hx hb dX11_isWinch_1 (by decide) ?_
  refine lv_aload_n hx hb dX11_isWinch_2 rfl (lv_at hl 0 rfl) ?_
  refine va_get (D := gD g) (ci := 10) (v := .ref (hm 1)) (C := RX11) (T := TX11) (N := 19) hx hb hts hinX11 hown hK hP 0 rfl rfl 0 (by decide) k0 (fun _ h9 => h9) rfl dX11_isWinch_3 ?_
  refine lv_iconst (v := 5) hx hb dX11_isWinch_6 (by decide) ?_
  obtain ⟨h1, hf⟩ := jbA_e hf
  refine va_iald hx hb hK hP 1 0 rfl rfl h1 dX11_isWinch_7 ?_
  refine lv_iconst (v := 1) hx hb dX11_isWinch_8 (by decide) ?_
  refine lv_isub hx hb dX11_isWinch_9 ?_
  obtain ⟨o2, g3, hf⟩ := jbB_e hf
  refine csn_i (As := [.int a0, .int 0, .int (((mNow mv) (5 : Int32).toNatClampNeg) - 1)]) (rest := []) ⟨hx, hb, hml, hown, hts⟩ (c_X11_isIn l g a0 0 (((mNow mv) (5 : Int32).toNatClampNeg) - 1) _ g3) (va_cwS 3 hts gX11_isWinch_X11_isIn rfl rfl rfl hd_X11_isIn ⟨Nat.le_of_ble_eq_true rfl, Nat.le_of_ble_eq_true rfl⟩) hK hZ hT hA hP hD hS hl.1 rfl rfl (Nat.le_of_ble_eq_true rfl) ⟨Nat.le_of_ble_eq_true rfl, Nat.le_of_ble_eq_true rfl⟩ dX11_isWinch_10 (fun H locs hP hD hS => ?_)
  obtain ⟨h4, hf⟩ := jbA_e hf
  cases hf
  subst hQ
  exact rt_i hx hb hrt hlk (nar_z h4) hK hP hD hS (Nat.le_of_ble_eq_true rfl) (Nat.le_of_ble_eq_true rfl) dX11_isWinch_13
def f_X11_ofWinch (mv : MV) (a0 : Int32) (a1 : Int32) : Option Int32 :=
  if jIn ((10 + (3 * a0)) + a1) 229 then
  some ((mNow mv) ((10 + (3 * a0)) + a1).toNatClampNeg)
  else none
def rm_X11_ofWinch : Room := { frames := 0, cells := 0, slots := 0, locals := 0 }
theorem hd_X11_ofWinch : yX11_ofWinch.cls = RX11 ∧ yX11_ofWinch.cls ≠ "java/lang/invoke/MethodHandle" ∧ yX11_ofWinch.cls ≠ "java/lang/invoke/VarHandle" ∧ (parseMethodDescriptor yX11_ofWinch.desc).map (fun d => d.parameters.length) = some 2 := by decide +kernel
set_option maxHeartbeats 4000000 in
set_option maxRecDepth 100000 in
theorem c_X11_ofWinch (l : Launch) (g : GG) (hm : Nat → Nat) (mv : MV)  (a0 : Int32) (a1 : Int32) (out : Int32) (hf : f_X11_ofWinch mv a0 a1 = some out) : MtI l yX11_ofWinch wsX11_ofWinch rm_X11_ofWinch g (wM g hm mv) [.ref (hm 0), .int a0, .int a1] out (wM g hm mv) 0 0 := by
  refine fun sz => mt_of (cc := cX11_ofWinch) (maxL := 3) (ret := (some .int)) (own := RX11) (Qc := fun A => va_Qi (fun r (_ : Unit) => r = out) (fun _ t => PosM g A (wM g hm mv) t) A) (by decide +kernel) rfl rfl (Nat.le_of_ble_eq_true rfl) ?_ sz
  intro p e s mi below meth c A ls hB hnm hrt hlk hP hD hl
  obtain ⟨hx, hb, hml, hown, hts, hK, hZ, hT, hA, -⟩ := hB
  have hS : va_S A s.heap s.heap [] := va_S.rf
  have hl : lv_has ls 3 [(0, .ref (hm 0)), (1, .int a0), (2, .int a1)] := hl
  have hinX11 : ∀ w ∈ wsX110, w ∈ wsX11_ofWinch := by decide +kernel
  have k0 := hts (.fieldLink RX11 9 "TerraceQuarryModel" "now" "[I") (by decide +kernel)
  generalize hQ : MQ below _ _ _ _ _ _ = Q
  unfold f_X11_ofWinch at hf
  refine lv_aload_n hx hb dX11_ofWinch_0 rfl (lv_at hl 0 rfl) ?_
  refine va_get (D := gD g) (ci := 10) (v := .ref (hm 1)) (C := RX11) (T := TX11) (N := 19) hx hb hts hinX11 hown hK hP 0 rfl rfl 0 (by decide) k0 (fun _ h9 => h9) rfl dX11_ofWinch_1 ?_
  refine lv_bipush (v := 10) hx hb dX11_ofWinch_4 (by decide) ?_
  refine lv_iconst (v := 3) hx hb dX11_ofWinch_6 (by decide) ?_
  refine lv_iload_n hx hb dX11_ofWinch_7 rfl (lv_at hl 1 rfl) ?_
  refine lv_imul hx hb dX11_ofWinch_8 ?_
  refine lv_iadd hx hb dX11_ofWinch_9 ?_
  refine lv_iload_n hx hb dX11_ofWinch_10 rfl (lv_at hl 2 rfl) ?_
  refine lv_iadd hx hb dX11_ofWinch_11 ?_
  obtain ⟨h1, hf⟩ := jbA_e hf
  refine va_iald hx hb hK hP 1 0 rfl rfl h1 dX11_ofWinch_12 ?_
  cases hf
  subst hQ
  exact rt_i hx hb hrt hlk rfl hK hP hD hS (Nat.le_of_ble_eq_true rfl) (Nat.le_of_ble_eq_true rfl) dX11_ofWinch_13
def f_X11_hasWinch_J33 (mv : MV) (x1 : Int32) (x3 : Int32) (y0 : Int32) : Option (Sum (Int32 × Int32) (Int32 × Int32)) :=
  some (.inl (y0, (x3 + 1)))
def f_X11_hasWinch_J28 (mv : MV) (x1 : Int32) (x3 : Int32) : Option (Sum (Int32 × Int32) (Int32 × Int32)) :=
  f_X11_hasWinch_J33 mv x1 x3 1
def f_X11_hasWinch_L4 (mv : MV) (x1 : Int32) (x2 : Int32) (x3 : Int32) : Option (Sum (Int32 × Int32) (Int32 × Int32)) :=
  if jIn 5 229 then
  if ((mNow mv) (5 : Int32).toNatClampNeg) ≤ x3 then
  (some (.inr (x2, x3)))
  else
  (if x2 = 0 then
  ((f_X11_ofWinch mv x3 0).bind fun o3 =>
  if o3 = x1 then
  (f_X11_hasWinch_J28 mv x1 x3)
  else
  (f_X11_hasWinch_J33 mv x1 x3 0))
  else
  (f_X11_hasWinch_J28 mv x1 x3))
  else none
def f_X11_hasWinch (mv : MV) (a0 : Int32) : Option Int32 :=
  (jbL (fun s => f_X11_hasWinch_L4 mv a0 (s.1) (s.2)) 5000 (0, 0)).bind fun o4 =>
  if vp_nar .boolean (o4.1) = (o4.1) then some (o4.1) else none
def rm_X11_hasWinch : Room := { frames := 1, cells := 0, slots := 0, locals := 22 }
theorem hd_X11_hasWinch : yX11_hasWinch.cls = RX11 ∧ yX11_hasWinch.cls ≠ "java/lang/invoke/MethodHandle" ∧ yX11_hasWinch.cls ≠ "java/lang/invoke/VarHandle" ∧ (parseMethodDescriptor yX11_hasWinch.desc).map (fun d => d.parameters.length) = some 1 := by decide +kernel
set_option maxHeartbeats 4000000 in
set_option maxRecDepth 100000 in
theorem c_X11_hasWinch (l : Launch) (g : GG) (hm : Nat → Nat) (mv : MV)  (a0 : Int32) (out : Int32) (hf : f_X11_hasWinch mv a0 = some out) : MtI l yX11_hasWinch wsX11_hasWinch rm_X11_hasWinch g (wM g hm mv) [.ref (hm 0), .int a0] out (wM g hm mv) 0 0 := by
  refine fun sz => mt_of (cc := cX11_hasWinch) (maxL := 4) (ret := (some .boolean)) (own := RX11) (Qc := fun A => va_Qi (fun r (_ : Unit) => r = out) (fun _ t => PosM g A (wM g hm mv) t) A) (by decide +kernel) rfl rfl (Nat.le_of_ble_eq_true rfl) ?_ sz
  intro p e s mi below meth c A ls hB hnm hrt hlk hP hD hl
  obtain ⟨hx, hb, hml, hown, hts, hK, hZ, hT, hA, -⟩ := hB
  have hS : va_S A s.heap s.heap [] := va_S.rf
  have hl : lv_has ls 4 [(0, .ref (hm 0)), (1, .int a0)] := hl
  have hinX11 : ∀ w ∈ wsX110, w ∈ wsX11_hasWinch := by decide +kernel
  have k0 := hts (.fieldLink RX11 9 "TerraceQuarryModel" "now" "[I") (by decide +kernel)
  generalize hQ : MQ below _ _ _ _ _ _ = Q
  unfold f_X11_hasWinch at hf
  have hL4 : ∀ (x1 : Int32) (n : Nat) (x2 : Int32) (x3 : Int32) (H : Heap) (locs : List Loc) (ls : Array Slot) (o4 : Int32 × Int32), jbL (fun s => f_X11_hasWinch_L4 mv x1 (s.1) (s.2)) n (x2, x3) = some o4 → va_P (gD g) vwCl (wM g hm mv) H → va_D A (wM g hm mv) → va_S A s.heap H locs → lv_has ls 4 [(0, .ref (hm 0)), (1, .int x1), (2, .int x2), (3, .int x3)] → (∀ (H : Heap) (locs : List Loc) (ls : Array Slot), va_P (gD g) vwCl (wM g hm mv) H → va_D A (wM g hm mv) → va_S A s.heap H locs → lv_has ls 4 [(2, .int (o4.1))] → W p l e rm_X11_hasWinch s mi [.ref (hm 0), .int a0].toArray below meth c H locs 0 0 Q (F0 mi 40 ls [])) → W p l e rm_X11_hasWinch s mi [.ref (hm 0), .int a0].toArray below meth c H locs 0 0 Q (F0 mi 4 ls []) := by
    intro x1 n
    induction n with
    | zero => intro x2 x3 H locs ls o4 hf; exact absurd hf (jbL_0 _ _ _)
    | succ n ih =>
      intro x2 x3 H locs ls o4 hf hP hD hS hl hk
      obtain ⟨r, hf, hr⟩ := jbL_e hf
      have hf : f_X11_hasWinch_L4 mv x1 x2 x3 = some r := hf
      unfold f_X11_hasWinch_L4 at hf
      have hJ33 : ∀ (x3 : Int32) (y0 : Int32) (H : Heap) (locs : List Loc) (ls : Array Slot) (r : Sum (Int32 × Int32) (Int32 × Int32)), f_X11_hasWinch_J33 mv x1 x3 y0 = some r → jbR (fun s => f_X11_hasWinch_L4 mv x1 (s.1) (s.2)) n o4 r → va_P (gD g) vwCl (wM g hm mv) H → va_D A (wM g hm mv) → va_S A s.heap H locs → lv_has ls 4 [(0, .ref (hm 0)), (1, .int x1), (3, .int x3)] → W p l e rm_X11_hasWinch s mi [.ref (hm 0), .int a0].toArray below meth c H locs 0 0 Q (F0 mi 33 ls [.int y0]) := by
        intro x3 y0 H locs ls r hf hr hP hD hS hl
        unfold f_X11_hasWinch_J33 at hf
        refine lv_istore_n (lv' := [(2, .int y0), (0, .ref (hm 0)), (1, .int x1), (3, .int x3)]) hx hb dX11_hasWinch_33 rfl hl (by decide) rfl (fun ls hl => ?_)
        refine lv_iinc (v := (x3 + 1)) (lv' := [(3, .int (x3 + 1)), (2, .int y0), (0, .ref (hm 0)), (1, .int x1)]) hx hb dX11_hasWinch_34 hl (k := 3) rfl rfl (by decide) rfl (fun ls hl => ?_)
        refine lv_goto (tgt := 4) hx hb dX11_hasWinch_37 (by decide) ?_
        cases hf
        exact ih y0 (x3 + 1) _ _ _ _ hr hP hD hS (lv_sub hl [2, 3, 1, 0] rfl) hk
      have hJ28 : ∀ (x3 : Int32) (H : Heap) (locs : List Loc) (ls : Array Slot) (r : Sum (Int32 × Int32) (Int32 × Int32)), f_X11_hasWinch_J28 mv x1 x3 = some r → jbR (fun s => f_X11_hasWinch_L4 mv x1 (s.1) (s.2)) n o4 r → va_P (gD g) vwCl (wM g hm mv) H → va_D A (wM g hm mv) → va_S A s.heap H locs → lv_has ls 4 [(0, .ref (hm 0)), (1, .int x1), (3, .int x3)] → W p l e rm_X11_hasWinch s mi [.ref (hm 0), .int a0].toArray below meth c H locs 0 0 Q (F0 mi 28 ls []) := by
        intro x3 H locs ls r hf hr hP hD hS hl
        unfold f_X11_hasWinch_J28 at hf
        refine lv_iconst (v := 1) hx hb dX11_hasWinch_28 (by decide) ?_
        refine lv_goto (tgt := 33) hx hb dX11_hasWinch_29 (by decide) ?_
        exact hJ33 x3 1 _ _ _ _ hf hr hP hD hS (lv_sub hl [0, 1, 2] rfl)
      refine lv_iload_n hx hb dX11_hasWinch_4 rfl (lv_at hl 3 rfl) ?_
      refine lv_aload_n hx hb dX11_hasWinch_5 rfl (lv_at hl 0 rfl) ?_
      refine va_get (D := gD g) (ci := 10) (v := .ref (hm 1)) (C := RX11) (T := TX11) (N := 19) hx hb hts hinX11 hown hK hP 0 rfl rfl 0 (by decide) k0 (fun _ h9 => h9) rfl dX11_hasWinch_6 ?_
      refine lv_iconst (v := 5) hx hb dX11_hasWinch_9 (by decide) ?_
      obtain ⟨h2, hf⟩ := jbA_e hf
      refine va_iald hx hb hK hP 1 0 rfl rfl h2 dX11_hasWinch_10 ?_
      refine lv_icmp_ge (tgt := 40) hx hb dX11_hasWinch_11 (by decide) (fun hc => ?_) (fun hc => ?_)
      · have hf := jbT hf hc
        cases hf
        obtain rfl := jbR_r hr
        exact hk _ _ _ hP hD hS (lv_sub hl [2] rfl)
      · have hf := jbF hf hc
        refine lv_iload_n hx hb dX11_hasWinch_14 rfl (lv_at hl 2 rfl) ?_
        refine lv_if_ne (tgt := 28) hx hb dX11_hasWinch_15 (by decide) (fun hc => ?_) (fun hc => ?_)
        · have hf := jbF hf hc
          exact hJ28 x3 _ _ _ _ hf hr hP hD hS (lv_sub hl [0, 1, 3] rfl)
        · have hf := jbT hf hc
          refine lv_aload_n hx hb dX11_hasWinch_18 rfl (lv_at hl 0 rfl) ?_
          refine lv_iload_n hx hb dX11_hasWinch_19 rfl (lv_at hl 3 rfl) ?_
          refine lv_iconst (v := 0) hx hb dX11_hasWinch_20 (by decide) ?_
          obtain ⟨o3, g4, hf⟩ := jbB_e hf
          refine cva_i (As := [.int x3, .int 0]) (rest := []) ⟨hx, hb, hml, hown, hts⟩ (c_X11_ofWinch l g hm mv x3 0 _ g4) (cwV 2 hts gX11_hasWinch_X11_ofWinch rfl rfl rfl hd_X11_ofWinch ⟨Nat.le_of_ble_eq_true rfl, Nat.le_of_ble_eq_true rfl⟩) hK hZ hT hA hP hD hS hl.1 (va_recv hK hP (ci := 10) (q0 := 0) rfl rfl) rfl rfl (Nat.le_of_ble_eq_true rfl) ⟨Nat.le_of_ble_eq_true rfl, Nat.le_of_ble_eq_true rfl⟩ dX11_hasWinch_21 (fun H locs hP hD hS => ?_)
          refine lv_iload_n hx hb dX11_hasWinch_24 rfl (lv_at hl 1 rfl) ?_
          refine lv_icmp_ne (tgt := 32) hx hb dX11_hasWinch_25 (by decide) (fun hc => ?_) (fun hc => ?_)
          · have hf := jbF hf hc
            refine lv_iconst (v := 0) hx hb dX11_hasWinch_32 (by decide) ?_
            exact hJ33 x3 0 _ _ _ _ hf hr hP hD hS (lv_sub hl [0, 1, 3] rfl)
          · have hf := jbT hf hc
            exact hJ28 x3 _ _ _ _ hf hr hP hD hS (lv_sub hl [0, 1, 3] rfl)
  refine lv_iconst (v := 0) hx hb dX11_hasWinch_0 (by decide) ?_
  refine lv_istore_n (lv' := [(2, .int 0), (0, .ref (hm 0)), (1, .int a0)]) hx hb dX11_hasWinch_1 rfl hl (by decide) rfl (fun ls hl => ?_)
  refine lv_iconst (v := 0) hx hb dX11_hasWinch_2 (by decide) ?_
  refine lv_istore_n (lv' := [(3, .int 0), (2, .int 0), (0, .ref (hm 0)), (1, .int a0)]) hx hb dX11_hasWinch_3 rfl hl (by decide) rfl (fun ls hl => ?_)
  obtain ⟨o4, hg, hf⟩ := jbB_e hf
  refine hL4 a0 _ 0 0 _ _ _ _ hg hP hD hS (lv_sub hl [2, 3, 1, 0] rfl) (fun H locs ls hP hD hS hl => ?_)
  refine lv_iload_n hx hb dX11_hasWinch_40 rfl (lv_at hl 0 rfl) ?_
  obtain ⟨h1, hf⟩ := jbA_e hf
  cases hf
  subst hQ
  exact rt_i hx hb hrt hlk (nar_z h1) hK hP hD hS (Nat.le_of_ble_eq_true rfl) (Nat.le_of_ble_eq_true rfl) dX11_hasWinch_41
def f_X11_adds_J67 (mv : MV) (x3 : Int32) (x4 : Int32) (x5 : Int32) (y0 : Int32) (y1 : Int32) (y2 : Int32) : Option (Int32 × MV) :=
  (f_X11_holds mv y2 y1 y0 1).bind fun o12 =>
  if (o12.1) = 0 then
  (some (0, (o12.2)))
  else
  (if jIn 5 229 then
  jbN (10 + (3 * ((mNow (o12.2)) (5 : Int32).toNatClampNeg))) fun z15 =>
  if jIn (z15 + 0) 229 then
  jbN (mSNow (upd (mNow (o12.2)) (z15 + 0).toNatClampNeg x5) (o12.2)) fun w17 =>
  if jIn (z15 + 1) 229 then
  jbN (mSNow (upd (mNow w17) (z15 + 1).toNatClampNeg x3) w17) fun w19 =>
  if jIn (z15 + 2) 229 then
  jbN (mSNow (upd (mNow w19) (z15 + 2).toNatClampNeg x4) w19) fun w21 =>
  if jIn 5 229 then
  if jIn 5 229 then
  jbN (mSNow (upd (mNow w21) (5 : Int32).toNatClampNeg (((mNow w21) (5 : Int32).toNatClampNeg) + 1)) w21) fun w24 =>
  if jIn 5 229 then
  some ((((mNow w24) (5 : Int32).toNatClampNeg) - 1), w24)
  else none
  else none
  else none
  else none
  else none
  else none
  else none)
def f_X11_adds_J66 (mv : MV) (x3 : Int32) (x4 : Int32) (x5 : Int32) (y0 : Int32) (y1 : Int32) : Option (Int32 × MV) :=
  f_X11_adds_J67 mv x3 x4 x5 0 y0 y1
def f_X11_adds_J33 (mv : MV) (x1 : Int32) (x2 : Int32) (x3 : Int32) (x4 : Int32) (x5 : Int32) (y0 : Int32) : Option (Int32 × MV) :=
  (f_X11_isCell x1 x2).bind fun o7 =>
  if jIn 5 229 then
  if 3 ≤ ((mNow mv) (5 : Int32).toNatClampNeg) then
  (f_X11_adds_J66 mv x3 x4 x5 y0 o7)
  else
  ((f_X11_hasWinch mv x5).bind fun o10 =>
  if o10 = 0 then
  (f_X11_adds_J67 mv x3 x4 x5 1 y0 o7)
  else
  (f_X11_adds_J66 mv x3 x4 x5 y0 o7))
  else none
def f_X11_adds_J32 (mv : MV) (x1 : Int32) (x2 : Int32) (x3 : Int32) (x4 : Int32) (x5 : Int32) : Option (Int32 × MV) :=
  f_X11_adds_J33 mv x1 x2 x3 x4 x5 0
def f_X11_adds (mv : MV) (a0 : Int32) (a1 : Int32) (a2 : Int32) (a3 : Int32) : Option (Int32 × MV) :=
  (f_X11_cellAt a0 a1).bind fun o1 =>
  (f_X11_isIn a2 2 9).bind fun o3 =>
  if o3 = 0 then
  (f_X11_adds_J32 mv a0 a1 a2 a3 o1)
  else
  ((f_X11_isIn a3 1 6).bind fun o5 =>
  if o5 = 0 then
  (f_X11_adds_J32 mv a0 a1 a2 a3 o1)
  else
  (f_X11_adds_J33 mv a0 a1 a2 a3 o1 1))
def rm_X11_adds : Room := { frames := 3, cells := 0, slots := 0, locals := 64 }
theorem hd_X11_adds : yX11_adds.cls = RX11 ∧ yX11_adds.cls ≠ "java/lang/invoke/MethodHandle" ∧ yX11_adds.cls ≠ "java/lang/invoke/VarHandle" ∧ (parseMethodDescriptor yX11_adds.desc).map (fun d => d.parameters.length) = some 4 := by decide +kernel
set_option maxHeartbeats 4000000 in
set_option maxRecDepth 100000 in
theorem c_X11_adds (l : Launch) (g : GG) (hm : Nat → Nat) (mv : MV)  (a0 : Int32) (a1 : Int32) (a2 : Int32) (a3 : Int32) (out : Int32 × MV) (hf : f_X11_adds mv a0 a1 a2 a3 = some out) : MtI l yX11_adds wsX11_adds rm_X11_adds g (wM g hm mv) [.ref (hm 0), .int a0, .int a1, .int a2, .int a3] (out.1) (wM g hm (out.2)) 0 0 := by
  refine fun sz => mt_of (cc := cX11_adds) (maxL := 8) (ret := (some .int)) (own := RX11) (Qc := fun A => va_Qi (fun r (_ : Unit) => r = (out.1)) (fun _ t => PosM g A (wM g hm (out.2)) t) A) (by decide +kernel) rfl rfl (Nat.le_of_ble_eq_true rfl) ?_ sz
  intro p e s mi below meth c A ls hB hnm hrt hlk hP hD hl
  obtain ⟨hx, hb, hml, hown, hts, hK, hZ, hT, hA, -⟩ := hB
  have hS : va_S A s.heap s.heap [] := va_S.rf
  have hl : lv_has ls 8 [(0, .ref (hm 0)), (1, .int a0), (2, .int a1), (3, .int a2), (4, .int a3)] := hl
  have hinX11 : ∀ w ∈ wsX110, w ∈ wsX11_adds := by decide +kernel
  have k0 := hts (.fieldLink RX11 9 "TerraceQuarryModel" "now" "[I") (by decide +kernel)
  generalize hQ : MQ below _ _ _ _ _ _ = Q
  unfold f_X11_adds at hf
  have hJ67 : ∀ (mv : MV) (x3 : Int32) (x4 : Int32) (x5 : Int32) (y0 : Int32) (y1 : Int32) (y2 : Int32) (H : Heap) (locs : List Loc) (ls : Array Slot), f_X11_adds_J67 mv x3 x4 x5 y0 y1 y2 = some out → va_P (gD g) vwCl (wM g hm mv) H → va_D A (wM g hm mv) → va_S A s.heap H locs → lv_has ls 8 [(0, .ref (hm 0)), (3, .int x3), (4, .int x4), (5, .int x5)] → W p l e rm_X11_adds s mi [.ref (hm 0), .int a0, .int a1, .int a2, .int a3].toArray below meth c H locs 0 0 Q (F0 mi 67 ls [.int y0, .int y1, .int y2, .ref (hm 0)]) := by
    intro mv x3 x4 x5 y0 y1 y2 H locs ls hf hP hD hS hl
    unfold f_X11_adds_J67 at hf
    refine lv_iconst (v := 1) hx hb dX11_adds_67 (by decide) ?_
    obtain ⟨o12, g13, hf⟩ := jbB_e hf
    refine cva_i (As := [.int y2, .int y1, .int y0, .int 1]) (rest := []) ⟨hx, hb, hml, hown, hts⟩ (c_X11_holds l g hm mv y2 y1 y0 1 _ g13) (cwV 4 hts gX11_adds_X11_holds rfl rfl rfl hd_X11_holds ⟨Nat.le_of_ble_eq_true rfl, Nat.le_of_ble_eq_true rfl⟩) hK hZ hT hA hP hD hS hl.1 (va_recv hK hP (ci := 10) (q0 := 0) rfl rfl) rfl rfl (Nat.le_of_ble_eq_true rfl) ⟨Nat.le_of_ble_eq_true rfl, Nat.le_of_ble_eq_true rfl⟩ dX11_adds_68 (fun H locs hP hD hS => ?_)
    refine lv_if_ne (tgt := 76) hx hb dX11_adds_71 (by decide) (fun hc => ?_) (fun hc => ?_)
    · have hf := jbF hf hc
      refine lv_bipush (v := 10) hx hb dX11_adds_76 (by decide) ?_
      refine lv_iconst (v := 3) hx hb dX11_adds_78 (by decide) ?_
      refine lv_aload_n hx hb dX11_adds_79 rfl (lv_at hl 0 rfl) ?_
      refine va_get (D := gD g) (ci := 10) (v := .ref (hm 1)) (C := RX11) (T := TX11) (N := 19) hx hb hts hinX11 hown hK hP 0 rfl rfl 0 (by decide) k0 (fun _ h9 => h9) rfl dX11_adds_80 ?_
      refine lv_iconst (v := 5) hx hb dX11_adds_83 (by decide) ?_
      obtain ⟨h14, hf⟩ := jbA_e hf
      refine va_iald hx hb hK hP 1 0 rfl rfl h14 dX11_adds_84 ?_
      refine lv_imul hx hb dX11_adds_85 ?_
      refine lv_iadd hx hb dX11_adds_86 ?_
      refine lv_topi (fun z15 ez15 => ?_)
      have hf := jbN_e hf ez15
      refine lv_istore (lv' := [(7, .int z15), (0, .ref (hm 0)), (3, .int x3), (4, .int x4), (5, .int x5)]) hx hb dX11_adds_87 hl (by decide) rfl (fun ls hl => ?_)
      refine lv_aload_n hx hb dX11_adds_89 rfl (lv_at hl 1 rfl) ?_
      refine va_get (D := gD g) (ci := 10) (v := .ref (hm 1)) (C := RX11) (T := TX11) (N := 19) hx hb hts hinX11 hown hK hP 0 rfl rfl 0 (by decide) k0 (fun _ h9 => h9) rfl dX11_adds_90 ?_
      refine lv_iload hx hb dX11_adds_93 (lv_at hl 0 rfl) ?_
      refine lv_iconst (v := 0) hx hb dX11_adds_95 (by decide) ?_
      refine lv_iadd hx hb dX11_adds_96 ?_
      refine lv_iload hx hb dX11_adds_97 (lv_at hl 4 rfl) ?_
      obtain ⟨h16, hf⟩ := jbA_e hf
      refine va_iast hx hb hK hP hD hS 1 0 rfl rfl h16 dX11_adds_99 (fun H locs hP hD hS => ?_)
      obtain ⟨w17, ew17⟩ : ∃ y, y = (mSNow (upd (mNow (o12.2)) (z15 + 0).toNatClampNeg x5) (o12.2)) := ⟨_, rfl⟩
      have hf := jbN_e hf ew17
      have hP : va_P (gD g) vwCl (wM g hm w17) H := by rw [ew17]; exact hP
      have hD : va_D A (wM g hm w17) := by rw [ew17]; exact hD
      refine lv_aload_n hx hb dX11_adds_100 rfl (lv_at hl 1 rfl) ?_
      refine va_get (D := gD g) (ci := 10) (v := .ref (hm 1)) (C := RX11) (T := TX11) (N := 19) hx hb hts hinX11 hown hK hP 0 rfl rfl 0 (by decide) k0 (fun _ h9 => h9) rfl dX11_adds_101 ?_
      refine lv_iload hx hb dX11_adds_104 (lv_at hl 0 rfl) ?_
      refine lv_iconst (v := 1) hx hb dX11_adds_106 (by decide) ?_
      refine lv_iadd hx hb dX11_adds_107 ?_
      refine lv_iload_n hx hb dX11_adds_108 rfl (lv_at hl 2 rfl) ?_
      obtain ⟨h18, hf⟩ := jbA_e hf
      refine va_iast hx hb hK hP hD hS 1 0 rfl rfl h18 dX11_adds_109 (fun H locs hP hD hS => ?_)
      obtain ⟨w19, ew19⟩ : ∃ y, y = (mSNow (upd (mNow w17) (z15 + 1).toNatClampNeg x3) w17) := ⟨_, rfl⟩
      have hf := jbN_e hf ew19
      have hP : va_P (gD g) vwCl (wM g hm w19) H := by rw [ew19]; exact hP
      have hD : va_D A (wM g hm w19) := by rw [ew19]; exact hD
      refine lv_aload_n hx hb dX11_adds_110 rfl (lv_at hl 1 rfl) ?_
      refine va_get (D := gD g) (ci := 10) (v := .ref (hm 1)) (C := RX11) (T := TX11) (N := 19) hx hb hts hinX11 hown hK hP 0 rfl rfl 0 (by decide) k0 (fun _ h9 => h9) rfl dX11_adds_111 ?_
      refine lv_iload hx hb dX11_adds_114 (lv_at hl 0 rfl) ?_
      refine lv_iconst (v := 2) hx hb dX11_adds_116 (by decide) ?_
      refine lv_iadd hx hb dX11_adds_117 ?_
      refine lv_iload hx hb dX11_adds_118 (lv_at hl 3 rfl) ?_
      obtain ⟨h20, hf⟩ := jbA_e hf
      refine va_iast hx hb hK hP hD hS 1 0 rfl rfl h20 dX11_adds_120 (fun H locs hP hD hS => ?_)
      obtain ⟨w21, ew21⟩ : ∃ y, y = (mSNow (upd (mNow w19) (z15 + 2).toNatClampNeg x4) w19) := ⟨_, rfl⟩
      have hf := jbN_e hf ew21
      have hP : va_P (gD g) vwCl (wM g hm w21) H := by rw [ew21]; exact hP
      have hD : va_D A (wM g hm w21) := by rw [ew21]; exact hD
      refine lv_aload_n hx hb dX11_adds_121 rfl (lv_at hl 1 rfl) ?_
      refine va_get (D := gD g) (ci := 10) (v := .ref (hm 1)) (C := RX11) (T := TX11) (N := 19) hx hb hts hinX11 hown hK hP 0 rfl rfl 0 (by decide) k0 (fun _ h9 => h9) rfl dX11_adds_122 ?_
      refine lv_iconst (v := 5) hx hb dX11_adds_125 (by decide) ?_
      refine lv_dup2_11 hx hb dX11_adds_126 rfl rfl ?_
      obtain ⟨h22, hf⟩ := jbA_e hf
      refine va_iald hx hb hK hP 1 0 rfl rfl h22 dX11_adds_127 ?_
      refine lv_iconst (v := 1) hx hb dX11_adds_128 (by decide) ?_
      refine lv_iadd hx hb dX11_adds_129 ?_
      obtain ⟨h23, hf⟩ := jbA_e hf
      refine va_iast hx hb hK hP hD hS 1 0 rfl rfl h23 dX11_adds_130 (fun H locs hP hD hS => ?_)
      obtain ⟨w24, ew24⟩ : ∃ y, y = (mSNow (upd (mNow w21) (5 : Int32).toNatClampNeg (((mNow w21) (5 : Int32).toNatClampNeg) + 1)) w21) := ⟨_, rfl⟩
      have hf := jbN_e hf ew24
      have hP : va_P (gD g) vwCl (wM g hm w24) H := by rw [ew24]; exact hP
      have hD : va_D A (wM g hm w24) := by rw [ew24]; exact hD
      refine lv_aload_n hx hb dX11_adds_131 rfl (lv_at hl 1 rfl) ?_
      refine va_get (D := gD g) (ci := 10) (v := .ref (hm 1)) (C := RX11) (T := TX11) (N := 19) hx hb hts hinX11 hown hK hP 0 rfl rfl 0 (by decide) k0 (fun _ h9 => h9) rfl dX11_adds_132 ?_
      refine lv_iconst (v := 5) hx hb dX11_adds_135 (by decide) ?_
      obtain ⟨h25, hf⟩ := jbA_e hf
      refine va_iald hx hb hK hP 1 0 rfl rfl h25 dX11_adds_136 ?_
      refine lv_iconst (v := 1) hx hb dX11_adds_137 (by decide) ?_
      refine lv_isub hx hb dX11_adds_138 ?_
      cases hf
      subst hQ
      exact rt_i hx hb hrt hlk rfl hK hP hD hS (Nat.le_of_ble_eq_true rfl) (Nat.le_of_ble_eq_true rfl) dX11_adds_139
    · have hf := jbT hf hc
      refine lv_iconst (v := 0) hx hb dX11_adds_74 (by decide) ?_
      cases hf
      subst hQ
      exact rt_i hx hb hrt hlk rfl hK hP hD hS (Nat.le_of_ble_eq_true rfl) (Nat.le_of_ble_eq_true rfl) dX11_adds_75
  have hJ66 : ∀ (mv : MV) (x3 : Int32) (x4 : Int32) (x5 : Int32) (y0 : Int32) (y1 : Int32) (H : Heap) (locs : List Loc) (ls : Array Slot), f_X11_adds_J66 mv x3 x4 x5 y0 y1 = some out → va_P (gD g) vwCl (wM g hm mv) H → va_D A (wM g hm mv) → va_S A s.heap H locs → lv_has ls 8 [(0, .ref (hm 0)), (3, .int x3), (4, .int x4), (5, .int x5)] → W p l e rm_X11_adds s mi [.ref (hm 0), .int a0, .int a1, .int a2, .int a3].toArray below meth c H locs 0 0 Q (F0 mi 66 ls [.int y0, .int y1, .ref (hm 0)]) := by
    intro mv x3 x4 x5 y0 y1 H locs ls hf hP hD hS hl
    unfold f_X11_adds_J66 at hf
    refine lv_iconst (v := 0) hx hb dX11_adds_66 (by decide) ?_
    exact hJ67 mv x3 x4 x5 0 y0 y1 _ _ _ hf hP hD hS (lv_sub hl [0, 1, 2, 3] rfl)
  have hJ33 : ∀ (mv : MV) (x1 : Int32) (x2 : Int32) (x3 : Int32) (x4 : Int32) (x5 : Int32) (y0 : Int32) (H : Heap) (locs : List Loc) (ls : Array Slot), f_X11_adds_J33 mv x1 x2 x3 x4 x5 y0 = some out → va_P (gD g) vwCl (wM g hm mv) H → va_D A (wM g hm mv) → va_S A s.heap H locs → lv_has ls 8 [(0, .ref (hm 0)), (1, .int x1), (2, .int x2), (3, .int x3), (4, .int x4), (5, .int x5)] → W p l e rm_X11_adds s mi [.ref (hm 0), .int a0, .int a1, .int a2, .int a3].toArray below meth c H locs 0 0 Q (F0 mi 33 ls [.int y0]) := by
    intro mv x1 x2 x3 x4 x5 y0 H locs ls hf hP hD hS hl
    unfold f_X11_adds_J33 at hf
    refine lv_istore (lv' := [(6, .int y0), (0, .ref (hm 0)), (1, .int x1), (2, .int x2), (3, .int x3), (4, .int x4), (5, .int x5)]) hx hb dX11_adds_33 hl (by decide) rfl (fun ls hl => ?_)
    refine lv_aload_n hx hb dX11_adds_35 rfl (lv_at hl 1 rfl) ?_
    refine lv_iload_n hx hb dX11_adds_36 rfl (lv_at hl 2 rfl) ?_
    refine lv_iload_n hx hb dX11_adds_37 rfl (lv_at hl 3 rfl) ?_
    obtain ⟨o7, g8, hf⟩ := jbB_e hf
    refine csn_i (As := [.int x1, .int x2]) (rest := [.ref (hm 0)]) ⟨hx, hb, hml, hown, hts⟩ (c_X11_isCell l g x1 x2 _ g8) (va_cwS 2 hts gX11_adds_X11_isCell rfl rfl rfl hd_X11_isCell ⟨Nat.le_of_ble_eq_true rfl, Nat.le_of_ble_eq_true rfl⟩) hK hZ hT hA hP hD hS hl.1 rfl rfl (Nat.le_of_ble_eq_true rfl) ⟨Nat.le_of_ble_eq_true rfl, Nat.le_of_ble_eq_true rfl⟩ dX11_adds_38 (fun H locs hP hD hS => ?_)
    refine lv_iload hx hb dX11_adds_41 (lv_at hl 0 rfl) ?_
    refine lv_aload_n hx hb dX11_adds_43 rfl (lv_at hl 1 rfl) ?_
    refine va_get (D := gD g) (ci := 10) (v := .ref (hm 1)) (C := RX11) (T := TX11) (N := 19) hx hb hts hinX11 hown hK hP 0 rfl rfl 0 (by decide) k0 (fun _ h9 => h9) rfl dX11_adds_44 ?_
    refine lv_iconst (v := 5) hx hb dX11_adds_47 (by decide) ?_
    obtain ⟨h9, hf⟩ := jbA_e hf
    refine va_iald hx hb hK hP 1 0 rfl rfl h9 dX11_adds_48 ?_
    refine lv_iconst (v := 3) hx hb dX11_adds_49 (by decide) ?_
    refine lv_icmp_ge (tgt := 66) hx hb dX11_adds_50 (by decide) (fun hc => ?_) (fun hc => ?_)
    · have hf := jbT hf hc
      exact hJ66 mv x3 x4 x5 y0 o7 _ _ _ hf hP hD hS (lv_sub hl [1, 4, 5, 6] rfl)
    · have hf := jbF hf hc
      refine lv_aload_n hx hb dX11_adds_53 rfl (lv_at hl 1 rfl) ?_
      refine lv_iload hx hb dX11_adds_54 (lv_at hl 6 rfl) ?_
      obtain ⟨o10, g11, hf⟩ := jbB_e hf
      refine cva_i (As := [.int x5]) (rest := [.int y0, .int o7, .ref (hm 0)]) ⟨hx, hb, hml, hown, hts⟩ (c_X11_hasWinch l g hm mv x5 _ g11) (cwV 1 hts gX11_adds_X11_hasWinch rfl rfl rfl hd_X11_hasWinch ⟨Nat.le_of_ble_eq_true rfl, Nat.le_of_ble_eq_true rfl⟩) hK hZ hT hA hP hD hS hl.1 (va_recv hK hP (ci := 10) (q0 := 0) rfl rfl) rfl rfl (Nat.le_of_ble_eq_true rfl) ⟨Nat.le_of_ble_eq_true rfl, Nat.le_of_ble_eq_true rfl⟩ dX11_adds_56 (fun H locs hP hD hS => ?_)
      refine lv_if_ne (tgt := 66) hx hb dX11_adds_59 (by decide) (fun hc => ?_) (fun hc => ?_)
      · have hf := jbF hf hc
        exact hJ66 mv x3 x4 x5 y0 o7 _ _ _ hf hP hD hS (lv_sub hl [1, 4, 5, 6] rfl)
      · have hf := jbT hf hc
        refine lv_iconst (v := 1) hx hb dX11_adds_62 (by decide) ?_
        refine lv_goto (tgt := 67) hx hb dX11_adds_63 (by decide) ?_
        exact hJ67 mv x3 x4 x5 1 y0 o7 _ _ _ hf hP hD hS (lv_sub hl [1, 4, 5, 6] rfl)
  have hJ32 : ∀ (mv : MV) (x1 : Int32) (x2 : Int32) (x3 : Int32) (x4 : Int32) (x5 : Int32) (H : Heap) (locs : List Loc) (ls : Array Slot), f_X11_adds_J32 mv x1 x2 x3 x4 x5 = some out → va_P (gD g) vwCl (wM g hm mv) H → va_D A (wM g hm mv) → va_S A s.heap H locs → lv_has ls 8 [(0, .ref (hm 0)), (1, .int x1), (2, .int x2), (3, .int x3), (4, .int x4), (5, .int x5)] → W p l e rm_X11_adds s mi [.ref (hm 0), .int a0, .int a1, .int a2, .int a3].toArray below meth c H locs 0 0 Q (F0 mi 32 ls []) := by
    intro mv x1 x2 x3 x4 x5 H locs ls hf hP hD hS hl
    unfold f_X11_adds_J32 at hf
    refine lv_iconst (v := 0) hx hb dX11_adds_32 (by decide) ?_
    exact hJ33 mv x1 x2 x3 x4 x5 0 _ _ _ hf hP hD hS (lv_sub hl [0, 1, 2, 3, 4, 5] rfl)
  refine lv_iload_n hx hb dX11_adds_0 rfl (lv_at hl 1 rfl) ?_
  refine lv_iload_n hx hb dX11_adds_1 rfl (lv_at hl 2 rfl) ?_
  obtain ⟨o1, g2, hf⟩ := jbB_e hf
  refine csn_i (As := [.int a0, .int a1]) (rest := []) ⟨hx, hb, hml, hown, hts⟩ (c_X11_cellAt l g a0 a1 _ g2) (va_cwS 2 hts gX11_adds_X11_cellAt rfl rfl rfl hd_X11_cellAt ⟨Nat.le_of_ble_eq_true rfl, Nat.le_of_ble_eq_true rfl⟩) hK hZ hT hA hP hD hS hl.1 rfl rfl (Nat.le_of_ble_eq_true rfl) ⟨Nat.le_of_ble_eq_true rfl, Nat.le_of_ble_eq_true rfl⟩ dX11_adds_2 (fun H locs hP hD hS => ?_)
  refine lv_istore (lv' := [(5, .int o1), (0, .ref (hm 0)), (1, .int a0), (2, .int a1), (3, .int a2), (4, .int a3)]) hx hb dX11_adds_5 hl (by decide) rfl (fun ls hl => ?_)
  refine lv_iload_n hx hb dX11_adds_7 rfl (lv_at hl 4 rfl) ?_
  refine lv_iconst (v := 2) hx hb dX11_adds_8 (by decide) ?_
  refine lv_bipush (v := 9) hx hb dX11_adds_9 (by decide) ?_
  obtain ⟨o3, g4, hf⟩ := jbB_e hf
  refine csn_i (As := [.int a2, .int 2, .int 9]) (rest := []) ⟨hx, hb, hml, hown, hts⟩ (c_X11_isIn l g a2 2 9 _ g4) (va_cwS 3 hts gX11_adds_X11_isIn rfl rfl rfl hd_X11_isIn ⟨Nat.le_of_ble_eq_true rfl, Nat.le_of_ble_eq_true rfl⟩) hK hZ hT hA hP hD hS hl.1 rfl rfl (Nat.le_of_ble_eq_true rfl) ⟨Nat.le_of_ble_eq_true rfl, Nat.le_of_ble_eq_true rfl⟩ dX11_adds_11 (fun H locs hP hD hS => ?_)
  refine lv_if_eq (tgt := 32) hx hb dX11_adds_14 (by decide) (fun hc => ?_) (fun hc => ?_)
  · have hf := jbT hf hc
    exact hJ32 mv a0 a1 a2 a3 o1 _ _ _ hf hP hD hS (lv_sub hl [1, 2, 3, 4, 5, 0] rfl)
  · have hf := jbF hf hc
    refine lv_iload hx hb dX11_adds_17 (lv_at hl 5 rfl) ?_
    refine lv_iconst (v := 1) hx hb dX11_adds_19 (by decide) ?_
    refine lv_bipush (v := 6) hx hb dX11_adds_20 (by decide) ?_
    obtain ⟨o5, g6, hf⟩ := jbB_e hf
    refine csn_i (As := [.int a3, .int 1, .int 6]) (rest := []) ⟨hx, hb, hml, hown, hts⟩ (c_X11_isIn l g a3 1 6 _ g6) (va_cwS 3 hts gX11_adds_X11_isIn rfl rfl rfl hd_X11_isIn ⟨Nat.le_of_ble_eq_true rfl, Nat.le_of_ble_eq_true rfl⟩) hK hZ hT hA hP hD hS hl.1 rfl rfl (Nat.le_of_ble_eq_true rfl) ⟨Nat.le_of_ble_eq_true rfl, Nat.le_of_ble_eq_true rfl⟩ dX11_adds_22 (fun H locs hP hD hS => ?_)
    refine lv_if_eq (tgt := 32) hx hb dX11_adds_25 (by decide) (fun hc => ?_) (fun hc => ?_)
    · have hf := jbT hf hc
      exact hJ32 mv a0 a1 a2 a3 o1 _ _ _ hf hP hD hS (lv_sub hl [1, 2, 3, 4, 5, 0] rfl)
    · have hf := jbF hf hc
      refine lv_iconst (v := 1) hx hb dX11_adds_28 (by decide) ?_
      refine lv_goto (tgt := 33) hx hb dX11_adds_29 (by decide) ?_
      exact hJ33 mv a0 a1 a2 a3 o1 1 _ _ _ hf hP hD hS (lv_sub hl [1, 2, 3, 4, 5, 0] rfl)
def f_X11_addWinch (mv : MV) (a0 : Int32) (a1 : Int32) (a2 : Int32) (a3 : Int32) : Option (Int32 × MV) :=
  (f_X11_begins mv).bind fun o1 =>
  (f_X11_adds o1 a0 a1 a2 a3).bind fun o3 =>
  (f_X11_ends (o3.2) (o3.1)).bind fun o5 =>
  some ((o5.1), (o5.2))
def rm_X11_addWinch : Room := { frames := 4, cells := 0, slots := 0, locals := 91 }
theorem hd_X11_addWinch : yX11_addWinch.cls = RX11 ∧ yX11_addWinch.cls ≠ "java/lang/invoke/MethodHandle" ∧ yX11_addWinch.cls ≠ "java/lang/invoke/VarHandle" ∧ (parseMethodDescriptor yX11_addWinch.desc).map (fun d => d.parameters.length) = some 4 := by decide +kernel
set_option maxHeartbeats 4000000 in
set_option maxRecDepth 100000 in
theorem c_X11_addWinch (l : Launch) (g : GG) (hm : Nat → Nat) (mv : MV)  (a0 : Int32) (a1 : Int32) (a2 : Int32) (a3 : Int32) (out : Int32 × MV) (hf : f_X11_addWinch mv a0 a1 a2 a3 = some out) : MtI l yX11_addWinch wsX11_addWinch rm_X11_addWinch g (wM g hm mv) [.ref (hm 0), .int a0, .int a1, .int a2, .int a3] (out.1) (wM g hm (out.2)) 0 0 := by
  refine fun sz => mt_of (cc := cX11_addWinch) (maxL := 5) (ret := (some .int)) (own := RX11) (Qc := fun A => va_Qi (fun r (_ : Unit) => r = (out.1)) (fun _ t => PosM g A (wM g hm (out.2)) t) A) (by decide +kernel) rfl rfl (Nat.le_of_ble_eq_true rfl) ?_ sz
  intro p e s mi below meth c A ls hB hnm hrt hlk hP hD hl
  obtain ⟨hx, hb, hml, hown, hts, hK, hZ, hT, hA, -⟩ := hB
  have hS : va_S A s.heap s.heap [] := va_S.rf
  have hl : lv_has ls 5 [(0, .ref (hm 0)), (1, .int a0), (2, .int a1), (3, .int a2), (4, .int a3)] := hl
  generalize hQ : MQ below _ _ _ _ _ _ = Q
  unfold f_X11_addWinch at hf
  refine lv_aload_n hx hb dX11_addWinch_0 rfl (lv_at hl 0 rfl) ?_
  obtain ⟨o1, g2, hf⟩ := jbB_e hf
  refine cva_v (As := []) (rest := []) ⟨hx, hb, hml, hown, hts⟩ (c_X11_begins l g hm mv _ g2) (cwV 0 hts gX11_addWinch_X11_begins rfl rfl rfl hd_X11_begins ⟨Nat.le_of_ble_eq_true rfl, Nat.le_of_ble_eq_true rfl⟩) hK hZ hT hA hP hD hS hl.1 (va_recv hK hP (ci := 10) (q0 := 0) rfl rfl) rfl rfl (Nat.le_of_ble_eq_true rfl) ⟨Nat.le_of_ble_eq_true rfl, Nat.le_of_ble_eq_true rfl⟩ dX11_addWinch_1 (fun H locs hP hD hS => ?_)
  refine lv_aload_n hx hb dX11_addWinch_4 rfl (lv_at hl 0 rfl) ?_
  refine lv_aload_n hx hb dX11_addWinch_5 rfl (lv_at hl 0 rfl) ?_
  refine lv_iload_n hx hb dX11_addWinch_6 rfl (lv_at hl 1 rfl) ?_
  refine lv_iload_n hx hb dX11_addWinch_7 rfl (lv_at hl 2 rfl) ?_
  refine lv_iload_n hx hb dX11_addWinch_8 rfl (lv_at hl 3 rfl) ?_
  refine lv_iload hx hb dX11_addWinch_9 (lv_at hl 4 rfl) ?_
  obtain ⟨o3, g4, hf⟩ := jbB_e hf
  refine cva_i (As := [.int a0, .int a1, .int a2, .int a3]) (rest := [.ref (hm 0)]) ⟨hx, hb, hml, hown, hts⟩ (c_X11_adds l g hm o1 a0 a1 a2 a3 _ g4) (cwV 4 hts gX11_addWinch_X11_adds rfl rfl rfl hd_X11_adds ⟨Nat.le_of_ble_eq_true rfl, Nat.le_of_ble_eq_true rfl⟩) hK hZ hT hA hP hD hS hl.1 (va_recv hK hP (ci := 10) (q0 := 0) rfl rfl) rfl rfl (Nat.le_of_ble_eq_true rfl) ⟨Nat.le_of_ble_eq_true rfl, Nat.le_of_ble_eq_true rfl⟩ dX11_addWinch_11 (fun H locs hP hD hS => ?_)
  obtain ⟨o5, g6, hf⟩ := jbB_e hf
  refine cva_i (As := [.int (o3.1)]) (rest := []) ⟨hx, hb, hml, hown, hts⟩ (c_X11_ends l g hm (o3.2) (o3.1) _ g6) (cwV 1 hts gX11_addWinch_X11_ends rfl rfl rfl hd_X11_ends ⟨Nat.le_of_ble_eq_true rfl, Nat.le_of_ble_eq_true rfl⟩) hK hZ hT hA hP hD hS hl.1 (va_recv hK hP (ci := 10) (q0 := 0) rfl rfl) rfl rfl (Nat.le_of_ble_eq_true rfl) ⟨Nat.le_of_ble_eq_true rfl, Nat.le_of_ble_eq_true rfl⟩ dX11_addWinch_14 (fun H locs hP hD hS => ?_)
  cases hf
  subst hQ
  exact rt_i hx hb hrt hlk rfl hK hP hD hS (Nat.le_of_ble_eq_true rfl) (Nat.le_of_ble_eq_true rfl) dX11_addWinch_17
def f_X11_topOf (mv : MV) (a0 : Int32) : Option Int32 :=
  (f_X11_of mv a0 3).bind fun o1 =>
  if o1 = 0 then
  (some (-1))
  else
  ((f_X11_of mv a0 ((4 + o1) - 1)).bind fun o3 =>
  some o3)
def rm_X11_topOf : Room := { frames := 2, cells := 0, slots := 0, locals := 42 }
theorem hd_X11_topOf : yX11_topOf.cls = RX11 ∧ yX11_topOf.cls ≠ "java/lang/invoke/MethodHandle" ∧ yX11_topOf.cls ≠ "java/lang/invoke/VarHandle" ∧ (parseMethodDescriptor yX11_topOf.desc).map (fun d => d.parameters.length) = some 1 := by decide +kernel
set_option maxHeartbeats 4000000 in
set_option maxRecDepth 100000 in
theorem c_X11_topOf (l : Launch) (g : GG) (hm : Nat → Nat) (mv : MV)  (a0 : Int32) (out : Int32) (hf : f_X11_topOf mv a0 = some out) : MtI l yX11_topOf wsX11_topOf rm_X11_topOf g (wM g hm mv) [.ref (hm 0), .int a0] out (wM g hm mv) 0 0 := by
  refine fun sz => mt_of (cc := cX11_topOf) (maxL := 3) (ret := (some .int)) (own := RX11) (Qc := fun A => va_Qi (fun r (_ : Unit) => r = out) (fun _ t => PosM g A (wM g hm mv) t) A) (by decide +kernel) rfl rfl (Nat.le_of_ble_eq_true rfl) ?_ sz
  intro p e s mi below meth c A ls hB hnm hrt hlk hP hD hl
  obtain ⟨hx, hb, hml, hown, hts, hK, hZ, hT, hA, -⟩ := hB
  have hS : va_S A s.heap s.heap [] := va_S.rf
  have hl : lv_has ls 3 [(0, .ref (hm 0)), (1, .int a0)] := hl
  generalize hQ : MQ below _ _ _ _ _ _ = Q
  unfold f_X11_topOf at hf
  refine lv_aload_n hx hb dX11_topOf_0 rfl (lv_at hl 0 rfl) ?_
  refine lv_iload_n hx hb dX11_topOf_1 rfl (lv_at hl 1 rfl) ?_
  refine lv_iconst (v := 3) hx hb dX11_topOf_2 (by decide) ?_
  obtain ⟨o1, g2, hf⟩ := jbB_e hf
  refine cva_i (As := [.int a0, .int 3]) (rest := []) ⟨hx, hb, hml, hown, hts⟩ (c_X11_of l g hm mv a0 3 _ g2) (cwV 2 hts gX11_topOf_X11_of rfl rfl rfl hd_X11_of ⟨Nat.le_of_ble_eq_true rfl, Nat.le_of_ble_eq_true rfl⟩) hK hZ hT hA hP hD hS hl.1 (va_recv hK hP (ci := 10) (q0 := 0) rfl rfl) rfl rfl (Nat.le_of_ble_eq_true rfl) ⟨Nat.le_of_ble_eq_true rfl, Nat.le_of_ble_eq_true rfl⟩ dX11_topOf_3 (fun H locs hP hD hS => ?_)
  refine lv_istore_n (lv' := [(2, .int o1), (0, .ref (hm 0)), (1, .int a0)]) hx hb dX11_topOf_6 rfl hl (by decide) rfl (fun ls hl => ?_)
  refine lv_iload_n hx hb dX11_topOf_7 rfl (lv_at hl 0 rfl) ?_
  refine lv_if_ne (tgt := 15) hx hb dX11_topOf_8 (by decide) (fun hc => ?_) (fun hc => ?_)
  · have hf := jbF hf hc
    refine lv_aload_n hx hb dX11_topOf_15 rfl (lv_at hl 1 rfl) ?_
    refine lv_iload_n hx hb dX11_topOf_16 rfl (lv_at hl 2 rfl) ?_
    refine lv_iconst (v := 4) hx hb dX11_topOf_17 (by decide) ?_
    refine lv_iload_n hx hb dX11_topOf_18 rfl (lv_at hl 0 rfl) ?_
    refine lv_iadd hx hb dX11_topOf_19 ?_
    refine lv_iconst (v := 1) hx hb dX11_topOf_20 (by decide) ?_
    refine lv_isub hx hb dX11_topOf_21 ?_
    obtain ⟨o3, g4, hf⟩ := jbB_e hf
    refine cva_i (As := [.int a0, .int ((4 + o1) - 1)]) (rest := []) ⟨hx, hb, hml, hown, hts⟩ (c_X11_of l g hm mv a0 ((4 + o1) - 1) _ g4) (cwV 2 hts gX11_topOf_X11_of rfl rfl rfl hd_X11_of ⟨Nat.le_of_ble_eq_true rfl, Nat.le_of_ble_eq_true rfl⟩) hK hZ hT hA hP hD hS hl.1 (va_recv hK hP (ci := 10) (q0 := 0) rfl rfl) rfl rfl (Nat.le_of_ble_eq_true rfl) ⟨Nat.le_of_ble_eq_true rfl, Nat.le_of_ble_eq_true rfl⟩ dX11_topOf_22 (fun H locs hP hD hS => ?_)
    cases hf
    subst hQ
    exact rt_i hx hb hrt hlk rfl hK hP hD hS (Nat.le_of_ble_eq_true rfl) (Nat.le_of_ble_eq_true rfl) dX11_topOf_25
  · have hf := jbT hf hc
    refine lv_iconst (v := (-1)) hx hb dX11_topOf_11 (by decide) ?_
    refine lv_goto (tgt := 25) hx hb dX11_topOf_12 (by decide) ?_
    cases hf
    subst hQ
    exact rt_i hx hb hrt hlk rfl hK hP hD hS (Nat.le_of_ble_eq_true rfl) (Nat.le_of_ble_eq_true rfl) dX11_topOf_25
def f_X11_canLift_J30 (mv : MV) (x1 : Int32) (x3 : Int32) (y0 : Int32) : Option Int32 :=
  if x3 = (-1) then
  (some 0)
  else
  (if y0 = 0 then
  (some 0)
  else
  ((f_X11_weightOf x3).bind fun o9 =>
  (f_X11_ofWinch mv x1 1).bind fun o11 =>
  if o11 < o9 then
  (some 0)
  else
  (some 1)))
def f_X11_canLift (mv : MV) (a0 : Int32) (a1 : Int32) : Option Int32 :=
  (f_X11_topOf mv a1).bind fun o1 =>
  (f_X11_ofWinch mv a0 0).bind fun o3 =>
  (f_X11_farFrom o3 a1).bind fun o5 =>
  (f_X11_ofWinch mv a0 2).bind fun o7 =>
  if o7 < o5 then
  (f_X11_canLift_J30 mv a0 o1 0)
  else
  (f_X11_canLift_J30 mv a0 o1 1)
def rm_X11_canLift : Room := { frames := 3, cells := 0, slots := 0, locals := 64 }
theorem hd_X11_canLift : yX11_canLift.cls = RX11 ∧ yX11_canLift.cls ≠ "java/lang/invoke/MethodHandle" ∧ yX11_canLift.cls ≠ "java/lang/invoke/VarHandle" ∧ (parseMethodDescriptor yX11_canLift.desc).map (fun d => d.parameters.length) = some 2 := by decide +kernel
set_option maxHeartbeats 4000000 in
set_option maxRecDepth 100000 in
theorem c_X11_canLift (l : Launch) (g : GG) (hm : Nat → Nat) (mv : MV)  (a0 : Int32) (a1 : Int32) (out : Int32) (hf : f_X11_canLift mv a0 a1 = some out) : MtI l yX11_canLift wsX11_canLift rm_X11_canLift g (wM g hm mv) [.ref (hm 0), .int a0, .int a1] out (wM g hm mv) 0 0 := by
  refine fun sz => mt_of (cc := cX11_canLift) (maxL := 5) (ret := (some .boolean)) (own := RX11) (Qc := fun A => va_Qi (fun r (_ : Unit) => r = out) (fun _ t => PosM g A (wM g hm mv) t) A) (by decide +kernel) rfl rfl (Nat.le_of_ble_eq_true rfl) ?_ sz
  intro p e s mi below meth c A ls hB hnm hrt hlk hP hD hl
  obtain ⟨hx, hb, hml, hown, hts, hK, hZ, hT, hA, -⟩ := hB
  have hS : va_S A s.heap s.heap [] := va_S.rf
  have hl : lv_has ls 5 [(0, .ref (hm 0)), (1, .int a0), (2, .int a1)] := hl
  generalize hQ : MQ below _ _ _ _ _ _ = Q
  unfold f_X11_canLift at hf
  have hJ30 : ∀ (x1 : Int32) (x3 : Int32) (y0 : Int32) (H : Heap) (locs : List Loc) (ls : Array Slot), f_X11_canLift_J30 mv x1 x3 y0 = some out → va_P (gD g) vwCl (wM g hm mv) H → va_D A (wM g hm mv) → va_S A s.heap H locs → lv_has ls 5 [(0, .ref (hm 0)), (1, .int x1), (3, .int x3)] → W p l e rm_X11_canLift s mi [.ref (hm 0), .int a0, .int a1].toArray below meth c H locs 0 0 Q (F0 mi 30 ls [.int y0]) := by
    intro x1 x3 y0 H locs ls hf hP hD hS hl
    unfold f_X11_canLift_J30 at hf
    refine lv_istore (lv' := [(4, .int y0), (0, .ref (hm 0)), (1, .int x1), (3, .int x3)]) hx hb dX11_canLift_30 hl (by decide) rfl (fun ls hl => ?_)
    refine lv_iload_n hx hb dX11_canLift_32 rfl (lv_at hl 3 rfl) ?_
    refine lv_iconst (v := (-1)) hx hb dX11_canLift_33 (by decide) ?_
    refine lv_icmp_eq (tgt := 59) hx hb dX11_canLift_34 (by decide) (fun hc => ?_) (fun hc => ?_)
    · have hf := jbT hf hc
      refine lv_iconst (v := 0) hx hb dX11_canLift_59 (by decide) ?_
      cases hf
      subst hQ
      exact rt_i hx hb hrt hlk nar_0 hK hP hD hS (Nat.le_of_ble_eq_true rfl) (Nat.le_of_ble_eq_true rfl) dX11_canLift_60
    · have hf := jbF hf hc
      refine lv_iload hx hb dX11_canLift_37 (lv_at hl 0 rfl) ?_
      refine lv_if_eq (tgt := 59) hx hb dX11_canLift_39 (by decide) (fun hc => ?_) (fun hc => ?_)
      · have hf := jbT hf hc
        refine lv_iconst (v := 0) hx hb dX11_canLift_59 (by decide) ?_
        cases hf
        subst hQ
        exact rt_i hx hb hrt hlk nar_0 hK hP hD hS (Nat.le_of_ble_eq_true rfl) (Nat.le_of_ble_eq_true rfl) dX11_canLift_60
      · have hf := jbF hf hc
        refine lv_iload_n hx hb dX11_canLift_42 rfl (lv_at hl 3 rfl) ?_
        obtain ⟨o9, g10, hf⟩ := jbB_e hf
        refine csn_i (As := [.int x3]) (rest := []) ⟨hx, hb, hml, hown, hts⟩ (c_X11_weightOf l g x3 _ g10) (va_cwS 1 hts gX11_canLift_X11_weightOf rfl rfl rfl hd_X11_weightOf ⟨Nat.le_of_ble_eq_true rfl, Nat.le_of_ble_eq_true rfl⟩) hK hZ hT hA hP hD hS hl.1 rfl rfl (Nat.le_of_ble_eq_true rfl) ⟨Nat.le_of_ble_eq_true rfl, Nat.le_of_ble_eq_true rfl⟩ dX11_canLift_43 (fun H locs hP hD hS => ?_)
        refine lv_aload_n hx hb dX11_canLift_46 rfl (lv_at hl 1 rfl) ?_
        refine lv_iload_n hx hb dX11_canLift_47 rfl (lv_at hl 2 rfl) ?_
        refine lv_iconst (v := 1) hx hb dX11_canLift_48 (by decide) ?_
        obtain ⟨o11, g12, hf⟩ := jbB_e hf
        refine cva_i (As := [.int x1, .int 1]) (rest := [.int o9]) ⟨hx, hb, hml, hown, hts⟩ (c_X11_ofWinch l g hm mv x1 1 _ g12) (cwV 2 hts gX11_canLift_X11_ofWinch rfl rfl rfl hd_X11_ofWinch ⟨Nat.le_of_ble_eq_true rfl, Nat.le_of_ble_eq_true rfl⟩) hK hZ hT hA hP hD hS hl.1 (va_recv hK hP (ci := 10) (q0 := 0) rfl rfl) rfl rfl (Nat.le_of_ble_eq_true rfl) ⟨Nat.le_of_ble_eq_true rfl, Nat.le_of_ble_eq_true rfl⟩ dX11_canLift_49 (fun H locs hP hD hS => ?_)
        refine lv_icmp_gt (tgt := 59) hx hb dX11_canLift_52 (by decide) (fun hc => ?_) (fun hc => ?_)
        · have hf := jbT hf hc
          refine lv_iconst (v := 0) hx hb dX11_canLift_59 (by decide) ?_
          cases hf
          subst hQ
          exact rt_i hx hb hrt hlk nar_0 hK hP hD hS (Nat.le_of_ble_eq_true rfl) (Nat.le_of_ble_eq_true rfl) dX11_canLift_60
        · have hf := jbF hf hc
          refine lv_iconst (v := 1) hx hb dX11_canLift_55 (by decide) ?_
          refine lv_goto (tgt := 60) hx hb dX11_canLift_56 (by decide) ?_
          cases hf
          subst hQ
          exact rt_i hx hb hrt hlk nar_1 hK hP hD hS (Nat.le_of_ble_eq_true rfl) (Nat.le_of_ble_eq_true rfl) dX11_canLift_60
  refine lv_aload_n hx hb dX11_canLift_0 rfl (lv_at hl 0 rfl) ?_
  refine lv_iload_n hx hb dX11_canLift_1 rfl (lv_at hl 2 rfl) ?_
  obtain ⟨o1, g2, hf⟩ := jbB_e hf
  refine cva_i (As := [.int a1]) (rest := []) ⟨hx, hb, hml, hown, hts⟩ (c_X11_topOf l g hm mv a1 _ g2) (cwV 1 hts gX11_canLift_X11_topOf rfl rfl rfl hd_X11_topOf ⟨Nat.le_of_ble_eq_true rfl, Nat.le_of_ble_eq_true rfl⟩) hK hZ hT hA hP hD hS hl.1 (va_recv hK hP (ci := 10) (q0 := 0) rfl rfl) rfl rfl (Nat.le_of_ble_eq_true rfl) ⟨Nat.le_of_ble_eq_true rfl, Nat.le_of_ble_eq_true rfl⟩ dX11_canLift_2 (fun H locs hP hD hS => ?_)
  refine lv_istore_n (lv' := [(3, .int o1), (0, .ref (hm 0)), (1, .int a0), (2, .int a1)]) hx hb dX11_canLift_5 rfl hl (by decide) rfl (fun ls hl => ?_)
  refine lv_aload_n hx hb dX11_canLift_6 rfl (lv_at hl 1 rfl) ?_
  refine lv_iload_n hx hb dX11_canLift_7 rfl (lv_at hl 2 rfl) ?_
  refine lv_iconst (v := 0) hx hb dX11_canLift_8 (by decide) ?_
  obtain ⟨o3, g4, hf⟩ := jbB_e hf
  refine cva_i (As := [.int a0, .int 0]) (rest := []) ⟨hx, hb, hml, hown, hts⟩ (c_X11_ofWinch l g hm mv a0 0 _ g4) (cwV 2 hts gX11_canLift_X11_ofWinch rfl rfl rfl hd_X11_ofWinch ⟨Nat.le_of_ble_eq_true rfl, Nat.le_of_ble_eq_true rfl⟩) hK hZ hT hA hP hD hS hl.1 (va_recv hK hP (ci := 10) (q0 := 0) rfl rfl) rfl rfl (Nat.le_of_ble_eq_true rfl) ⟨Nat.le_of_ble_eq_true rfl, Nat.le_of_ble_eq_true rfl⟩ dX11_canLift_9 (fun H locs hP hD hS => ?_)
  refine lv_iload_n hx hb dX11_canLift_12 rfl (lv_at hl 3 rfl) ?_
  obtain ⟨o5, g6, hf⟩ := jbB_e hf
  refine csn_i (As := [.int o3, .int a1]) (rest := []) ⟨hx, hb, hml, hown, hts⟩ (c_X11_farFrom l g o3 a1 _ g6) (va_cwS 2 hts gX11_canLift_X11_farFrom rfl rfl rfl hd_X11_farFrom ⟨Nat.le_of_ble_eq_true rfl, Nat.le_of_ble_eq_true rfl⟩) hK hZ hT hA hP hD hS hl.1 rfl rfl (Nat.le_of_ble_eq_true rfl) ⟨Nat.le_of_ble_eq_true rfl, Nat.le_of_ble_eq_true rfl⟩ dX11_canLift_13 (fun H locs hP hD hS => ?_)
  refine lv_aload_n hx hb dX11_canLift_16 rfl (lv_at hl 1 rfl) ?_
  refine lv_iload_n hx hb dX11_canLift_17 rfl (lv_at hl 2 rfl) ?_
  refine lv_iconst (v := 2) hx hb dX11_canLift_18 (by decide) ?_
  obtain ⟨o7, g8, hf⟩ := jbB_e hf
  refine cva_i (As := [.int a0, .int 2]) (rest := [.int o5]) ⟨hx, hb, hml, hown, hts⟩ (c_X11_ofWinch l g hm mv a0 2 _ g8) (cwV 2 hts gX11_canLift_X11_ofWinch rfl rfl rfl hd_X11_ofWinch ⟨Nat.le_of_ble_eq_true rfl, Nat.le_of_ble_eq_true rfl⟩) hK hZ hT hA hP hD hS hl.1 (va_recv hK hP (ci := 10) (q0 := 0) rfl rfl) rfl rfl (Nat.le_of_ble_eq_true rfl) ⟨Nat.le_of_ble_eq_true rfl, Nat.le_of_ble_eq_true rfl⟩ dX11_canLift_19 (fun H locs hP hD hS => ?_)
  refine lv_icmp_gt (tgt := 29) hx hb dX11_canLift_22 (by decide) (fun hc => ?_) (fun hc => ?_)
  · have hf := jbT hf hc
    refine lv_iconst (v := 0) hx hb dX11_canLift_29 (by decide) ?_
    exact hJ30 a0 o1 0 _ _ _ hf hP hD hS (lv_sub hl [1, 2, 0] rfl)
  · have hf := jbF hf hc
    refine lv_iconst (v := 1) hx hb dX11_canLift_25 (by decide) ?_
    refine lv_goto (tgt := 30) hx hb dX11_canLift_26 (by decide) ?_
    exact hJ30 a0 o1 1 _ _ _ hf hP hD hS (lv_sub hl [1, 2, 0] rfl)
def f_X11_raises_J87 (mv : MV) (x4 : Int32) (x6 : Int32) (y0 : Int32) (y1 : Int32) (y2 : Int32) (y3 : Int32) : Option (Int32 × MV) :=
  (f_X11_holds mv y3 y2 y1 y0).bind fun o13 =>
  if (o13.1) = 0 then
  (some (0, (o13.2)))
  else
  ((f_X11_weightOf x6).bind fun o15 =>
  (f_X11_of (o13.2) x4 0).bind fun o17 =>
  jbN (o15 * (10 - o17)) fun z19 =>
  (f_X11_placeOf x4).bind fun o20 =>
  if jIn (o20 + 3) 229 then
  if jIn (o20 + 3) 229 then
  jbN (mSNow (upd (mNow (o13.2)) (o20 + 3).toNatClampNeg (((mNow (o13.2)) (o20 + 3).toNatClampNeg) - 1)) (o13.2)) fun w24 =>
  if jIn (6 + x6) 229 then
  if jIn (6 + x6) 229 then
  jbN (mSNow (upd (mNow w24) (6 + x6).toNatClampNeg (((mNow w24) (6 + x6).toNatClampNeg) + 1)) w24) fun w27 =>
  if jIn 3 229 then
  if jIn 3 229 then
  jbN (mSNow (upd (mNow w27) (3 : Int32).toNatClampNeg (((mNow w27) (3 : Int32).toNatClampNeg) + 1)) w27) fun w30 =>
  if jIn 4 229 then
  if jIn 4 229 then
  jbN (mSNow (upd (mNow w30) (4 : Int32).toNatClampNeg (((mNow w30) (4 : Int32).toNatClampNeg) + z19)) w30) fun w33 =>
  some (z19, w33)
  else none
  else none
  else none
  else none
  else none
  else none
  else none
  else none)
def f_X11_raises_J86 (mv : MV) (x4 : Int32) (x6 : Int32) (y0 : Int32) (y1 : Int32) (y2 : Int32) : Option (Int32 × MV) :=
  f_X11_raises_J87 mv x4 x6 0 y0 y1 y2
def f_X11_raises_J67 (mv : MV) (x1 : Int32) (x4 : Int32) (x5 : Int32) (x6 : Int32) (y0 : Int32) (y1 : Int32) (y2 : Int32) : Option (Int32 × MV) :=
  if x5 = 0 then
  (f_X11_raises_J86 mv x4 x6 y0 y1 y2)
  else
  ((f_X11_canLift mv x1 x4).bind fun o11 =>
  if o11 = 0 then
  (f_X11_raises_J86 mv x4 x6 y0 y1 y2)
  else
  (f_X11_raises_J87 mv x4 x6 1 y0 y1 y2))
def f_X11_raises_J52 (mv : MV) (x1 : Int32) (x4 : Int32) (x5 : Int32) (x6 : Int32) (y0 : Int32) (y1 : Int32) : Option (Int32 × MV) :=
  (f_X11_of mv x4 2).bind fun o9 =>
  if o9 = 0 then
  (f_X11_raises_J67 mv x1 x4 x5 x6 1 y0 y1)
  else
  (f_X11_raises_J67 mv x1 x4 x5 x6 0 y0 y1)
def f_X11_raises_J28 (mv : MV) (x1 : Int32) (x4 : Int32) (y0 : Int32) : Option (Int32 × MV) :=
  (f_X11_topOf mv x4).bind fun o7 =>
  if o7 = (-1) then
  (f_X11_raises_J52 mv x1 x4 y0 o7 0 y0)
  else
  (f_X11_raises_J52 mv x1 x4 y0 o7 1 y0)
def f_X11_raises_J27 (mv : MV) (x1 : Int32) (x4 : Int32) : Option (Int32 × MV) :=
  f_X11_raises_J28 mv x1 x4 0
def f_X11_raises (mv : MV) (a0 : Int32) (a1 : Int32) (a2 : Int32) : Option (Int32 × MV) :=
  (f_X11_cellAt a1 a2).bind fun o1 =>
  (f_X11_isWinch mv a0).bind fun o3 =>
  if o3 = 0 then
  (f_X11_raises_J27 mv a0 o1)
  else
  ((f_X11_isCell a1 a2).bind fun o5 =>
  if o5 = 0 then
  (f_X11_raises_J27 mv a0 o1)
  else
  (f_X11_raises_J28 mv a0 o1 1))
def rm_X11_raises : Room := { frames := 4, cells := 0, slots := 0, locals := 88 }
theorem hd_X11_raises : yX11_raises.cls = RX11 ∧ yX11_raises.cls ≠ "java/lang/invoke/MethodHandle" ∧ yX11_raises.cls ≠ "java/lang/invoke/VarHandle" ∧ (parseMethodDescriptor yX11_raises.desc).map (fun d => d.parameters.length) = some 3 := by decide +kernel
set_option maxHeartbeats 4000000 in
set_option maxRecDepth 100000 in
theorem c_X11_raises (l : Launch) (g : GG) (hm : Nat → Nat) (mv : MV)  (a0 : Int32) (a1 : Int32) (a2 : Int32) (out : Int32 × MV) (hf : f_X11_raises mv a0 a1 a2 = some out) : MtI l yX11_raises wsX11_raises rm_X11_raises g (wM g hm mv) [.ref (hm 0), .int a0, .int a1, .int a2] (out.1) (wM g hm (out.2)) 0 0 := by
  refine fun sz => mt_of (cc := cX11_raises) (maxL := 8) (ret := (some .int)) (own := RX11) (Qc := fun A => va_Qi (fun r (_ : Unit) => r = (out.1)) (fun _ t => PosM g A (wM g hm (out.2)) t) A) (by decide +kernel) rfl rfl (Nat.le_of_ble_eq_true rfl) ?_ sz
  intro p e s mi below meth c A ls hB hnm hrt hlk hP hD hl
  obtain ⟨hx, hb, hml, hown, hts, hK, hZ, hT, hA, -⟩ := hB
  have hS : va_S A s.heap s.heap [] := va_S.rf
  have hl : lv_has ls 8 [(0, .ref (hm 0)), (1, .int a0), (2, .int a1), (3, .int a2)] := hl
  have hinX11 : ∀ w ∈ wsX110, w ∈ wsX11_raises := by decide +kernel
  have k0 := hts (.fieldLink RX11 9 "TerraceQuarryModel" "now" "[I") (by decide +kernel)
  generalize hQ : MQ below _ _ _ _ _ _ = Q
  unfold f_X11_raises at hf
  have hJ87 : ∀ (mv : MV) (x4 : Int32) (x6 : Int32) (y0 : Int32) (y1 : Int32) (y2 : Int32) (y3 : Int32) (H : Heap) (locs : List Loc) (ls : Array Slot), f_X11_raises_J87 mv x4 x6 y0 y1 y2 y3 = some out → va_P (gD g) vwCl (wM g hm mv) H → va_D A (wM g hm mv) → va_S A s.heap H locs → lv_has ls 8 [(0, .ref (hm 0)), (4, .int x4), (6, .int x6)] → W p l e rm_X11_raises s mi [.ref (hm 0), .int a0, .int a1, .int a2].toArray below meth c H locs 0 0 Q (F0 mi 87 ls [.int y0, .int y1, .int y2, .int y3, .ref (hm 0)]) := by
    intro mv x4 x6 y0 y1 y2 y3 H locs ls hf hP hD hS hl
    unfold f_X11_raises_J87 at hf
    obtain ⟨o13, g14, hf⟩ := jbB_e hf
    refine cva_i (As := [.int y3, .int y2, .int y1, .int y0]) (rest := []) ⟨hx, hb, hml, hown, hts⟩ (c_X11_holds l g hm mv y3 y2 y1 y0 _ g14) (cwV 4 hts gX11_raises_X11_holds rfl rfl rfl hd_X11_holds ⟨Nat.le_of_ble_eq_true rfl, Nat.le_of_ble_eq_true rfl⟩) hK hZ hT hA hP hD hS hl.1 (va_recv hK hP (ci := 10) (q0 := 0) rfl rfl) rfl rfl (Nat.le_of_ble_eq_true rfl) ⟨Nat.le_of_ble_eq_true rfl, Nat.le_of_ble_eq_true rfl⟩ dX11_raises_87 (fun H locs hP hD hS => ?_)
    refine lv_if_ne (tgt := 95) hx hb dX11_raises_90 (by decide) (fun hc => ?_) (fun hc => ?_)
    · have hf := jbF hf hc
      refine lv_iload hx hb dX11_raises_95 (lv_at hl 2 rfl) ?_
      obtain ⟨o15, g16, hf⟩ := jbB_e hf
      refine csn_i (As := [.int x6]) (rest := []) ⟨hx, hb, hml, hown, hts⟩ (c_X11_weightOf l g x6 _ g16) (va_cwS 1 hts gX11_raises_X11_weightOf rfl rfl rfl hd_X11_weightOf ⟨Nat.le_of_ble_eq_true rfl, Nat.le_of_ble_eq_true rfl⟩) hK hZ hT hA hP hD hS hl.1 rfl rfl (Nat.le_of_ble_eq_true rfl) ⟨Nat.le_of_ble_eq_true rfl, Nat.le_of_ble_eq_true rfl⟩ dX11_raises_97 (fun H locs hP hD hS => ?_)
      refine lv_bipush (v := 10) hx hb dX11_raises_100 (by decide) ?_
      refine lv_aload_n hx hb dX11_raises_102 rfl (lv_at hl 0 rfl) ?_
      refine lv_iload hx hb dX11_raises_103 (lv_at hl 1 rfl) ?_
      refine lv_iconst (v := 0) hx hb dX11_raises_105 (by decide) ?_
      obtain ⟨o17, g18, hf⟩ := jbB_e hf
      refine cva_i (As := [.int x4, .int 0]) (rest := [.int 10, .int o15]) ⟨hx, hb, hml, hown, hts⟩ (c_X11_of l g hm (o13.2) x4 0 _ g18) (cwV 2 hts gX11_raises_X11_of rfl rfl rfl hd_X11_of ⟨Nat.le_of_ble_eq_true rfl, Nat.le_of_ble_eq_true rfl⟩) hK hZ hT hA hP hD hS hl.1 (va_recv hK hP (ci := 10) (q0 := 0) rfl rfl) rfl rfl (Nat.le_of_ble_eq_true rfl) ⟨Nat.le_of_ble_eq_true rfl, Nat.le_of_ble_eq_true rfl⟩ dX11_raises_106 (fun H locs hP hD hS => ?_)
      refine lv_isub hx hb dX11_raises_109 ?_
      refine lv_imul hx hb dX11_raises_110 ?_
      refine lv_topi (fun z19 ez19 => ?_)
      have hf := jbN_e hf ez19
      refine lv_istore (lv' := [(7, .int z19), (0, .ref (hm 0)), (4, .int x4), (6, .int x6)]) hx hb dX11_raises_111 hl (by decide) rfl (fun ls hl => ?_)
      refine lv_aload_n hx hb dX11_raises_113 rfl (lv_at hl 1 rfl) ?_
      refine va_get (D := gD g) (ci := 10) (v := .ref (hm 1)) (C := RX11) (T := TX11) (N := 19) hx hb hts hinX11 hown hK hP 0 rfl rfl 0 (by decide) k0 (fun _ h9 => h9) rfl dX11_raises_114 ?_
      refine lv_iload hx hb dX11_raises_117 (lv_at hl 2 rfl) ?_
      obtain ⟨o20, g21, hf⟩ := jbB_e hf
      refine csn_i (As := [.int x4]) (rest := [.ref (hm 1)]) ⟨hx, hb, hml, hown, hts⟩ (c_X11_placeOf l g x4 _ g21) (va_cwS 1 hts gX11_raises_X11_placeOf rfl rfl rfl hd_X11_placeOf ⟨Nat.le_of_ble_eq_true rfl, Nat.le_of_ble_eq_true rfl⟩) hK hZ hT hA hP hD hS hl.1 rfl rfl (Nat.le_of_ble_eq_true rfl) ⟨Nat.le_of_ble_eq_true rfl, Nat.le_of_ble_eq_true rfl⟩ dX11_raises_119 (fun H locs hP hD hS => ?_)
      refine lv_iconst (v := 3) hx hb dX11_raises_122 (by decide) ?_
      refine lv_iadd hx hb dX11_raises_123 ?_
      refine lv_dup2_11 hx hb dX11_raises_124 rfl rfl ?_
      obtain ⟨h22, hf⟩ := jbA_e hf
      refine va_iald hx hb hK hP 1 0 rfl rfl h22 dX11_raises_125 ?_
      refine lv_iconst (v := 1) hx hb dX11_raises_126 (by decide) ?_
      refine lv_isub hx hb dX11_raises_127 ?_
      obtain ⟨h23, hf⟩ := jbA_e hf
      refine va_iast hx hb hK hP hD hS 1 0 rfl rfl h23 dX11_raises_128 (fun H locs hP hD hS => ?_)
      obtain ⟨w24, ew24⟩ : ∃ y, y = (mSNow (upd (mNow (o13.2)) (o20 + 3).toNatClampNeg (((mNow (o13.2)) (o20 + 3).toNatClampNeg) - 1)) (o13.2)) := ⟨_, rfl⟩
      have hf := jbN_e hf ew24
      have hP : va_P (gD g) vwCl (wM g hm w24) H := by rw [ew24]; exact hP
      have hD : va_D A (wM g hm w24) := by rw [ew24]; exact hD
      refine lv_aload_n hx hb dX11_raises_129 rfl (lv_at hl 1 rfl) ?_
      refine va_get (D := gD g) (ci := 10) (v := .ref (hm 1)) (C := RX11) (T := TX11) (N := 19) hx hb hts hinX11 hown hK hP 0 rfl rfl 0 (by decide) k0 (fun _ h9 => h9) rfl dX11_raises_130 ?_
      refine lv_bipush (v := 6) hx hb dX11_raises_133 (by decide) ?_
      refine lv_iload hx hb dX11_raises_135 (lv_at hl 3 rfl) ?_
      refine lv_iadd hx hb dX11_raises_137 ?_
      refine lv_dup2_11 hx hb dX11_raises_138 rfl rfl ?_
      obtain ⟨h25, hf⟩ := jbA_e hf
      refine va_iald hx hb hK hP 1 0 rfl rfl h25 dX11_raises_139 ?_
      refine lv_iconst (v := 1) hx hb dX11_raises_140 (by decide) ?_
      refine lv_iadd hx hb dX11_raises_141 ?_
      obtain ⟨h26, hf⟩ := jbA_e hf
      refine va_iast hx hb hK hP hD hS 1 0 rfl rfl h26 dX11_raises_142 (fun H locs hP hD hS => ?_)
      obtain ⟨w27, ew27⟩ : ∃ y, y = (mSNow (upd (mNow w24) (6 + x6).toNatClampNeg (((mNow w24) (6 + x6).toNatClampNeg) + 1)) w24) := ⟨_, rfl⟩
      have hf := jbN_e hf ew27
      have hP : va_P (gD g) vwCl (wM g hm w27) H := by rw [ew27]; exact hP
      have hD : va_D A (wM g hm w27) := by rw [ew27]; exact hD
      refine lv_aload_n hx hb dX11_raises_143 rfl (lv_at hl 1 rfl) ?_
      refine va_get (D := gD g) (ci := 10) (v := .ref (hm 1)) (C := RX11) (T := TX11) (N := 19) hx hb hts hinX11 hown hK hP 0 rfl rfl 0 (by decide) k0 (fun _ h9 => h9) rfl dX11_raises_144 ?_
      refine lv_iconst (v := 3) hx hb dX11_raises_147 (by decide) ?_
      refine lv_dup2_11 hx hb dX11_raises_148 rfl rfl ?_
      obtain ⟨h28, hf⟩ := jbA_e hf
      refine va_iald hx hb hK hP 1 0 rfl rfl h28 dX11_raises_149 ?_
      refine lv_iconst (v := 1) hx hb dX11_raises_150 (by decide) ?_
      refine lv_iadd hx hb dX11_raises_151 ?_
      obtain ⟨h29, hf⟩ := jbA_e hf
      refine va_iast hx hb hK hP hD hS 1 0 rfl rfl h29 dX11_raises_152 (fun H locs hP hD hS => ?_)
      obtain ⟨w30, ew30⟩ : ∃ y, y = (mSNow (upd (mNow w27) (3 : Int32).toNatClampNeg (((mNow w27) (3 : Int32).toNatClampNeg) + 1)) w27) := ⟨_, rfl⟩
      have hf := jbN_e hf ew30
      have hP : va_P (gD g) vwCl (wM g hm w30) H := by rw [ew30]; exact hP
      have hD : va_D A (wM g hm w30) := by rw [ew30]; exact hD
      refine lv_aload_n hx hb dX11_raises_153 rfl (lv_at hl 1 rfl) ?_
      refine va_get (D := gD g) (ci := 10) (v := .ref (hm 1)) (C := RX11) (T := TX11) (N := 19) hx hb hts hinX11 hown hK hP 0 rfl rfl 0 (by decide) k0 (fun _ h9 => h9) rfl dX11_raises_154 ?_
      refine lv_iconst (v := 4) hx hb dX11_raises_157 (by decide) ?_
      refine lv_dup2_11 hx hb dX11_raises_158 rfl rfl ?_
      obtain ⟨h31, hf⟩ := jbA_e hf
      refine va_iald hx hb hK hP 1 0 rfl rfl h31 dX11_raises_159 ?_
      refine lv_iload hx hb dX11_raises_160 (lv_at hl 0 rfl) ?_
      refine lv_iadd hx hb dX11_raises_162 ?_
      obtain ⟨h32, hf⟩ := jbA_e hf
      refine va_iast hx hb hK hP hD hS 1 0 rfl rfl h32 dX11_raises_163 (fun H locs hP hD hS => ?_)
      obtain ⟨w33, ew33⟩ : ∃ y, y = (mSNow (upd (mNow w30) (4 : Int32).toNatClampNeg (((mNow w30) (4 : Int32).toNatClampNeg) + z19)) w30) := ⟨_, rfl⟩
      have hf := jbN_e hf ew33
      have hP : va_P (gD g) vwCl (wM g hm w33) H := by rw [ew33]; exact hP
      have hD : va_D A (wM g hm w33) := by rw [ew33]; exact hD
      refine lv_iload hx hb dX11_raises_164 (lv_at hl 0 rfl) ?_
      cases hf
      subst hQ
      exact rt_i hx hb hrt hlk rfl hK hP hD hS (Nat.le_of_ble_eq_true rfl) (Nat.le_of_ble_eq_true rfl) dX11_raises_166
    · have hf := jbT hf hc
      refine lv_iconst (v := 0) hx hb dX11_raises_93 (by decide) ?_
      cases hf
      subst hQ
      exact rt_i hx hb hrt hlk rfl hK hP hD hS (Nat.le_of_ble_eq_true rfl) (Nat.le_of_ble_eq_true rfl) dX11_raises_94
  have hJ86 : ∀ (mv : MV) (x4 : Int32) (x6 : Int32) (y0 : Int32) (y1 : Int32) (y2 : Int32) (H : Heap) (locs : List Loc) (ls : Array Slot), f_X11_raises_J86 mv x4 x6 y0 y1 y2 = some out → va_P (gD g) vwCl (wM g hm mv) H → va_D A (wM g hm mv) → va_S A s.heap H locs → lv_has ls 8 [(0, .ref (hm 0)), (4, .int x4), (6, .int x6)] → W p l e rm_X11_raises s mi [.ref (hm 0), .int a0, .int a1, .int a2].toArray below meth c H locs 0 0 Q (F0 mi 86 ls [.int y0, .int y1, .int y2, .ref (hm 0)]) := by
    intro mv x4 x6 y0 y1 y2 H locs ls hf hP hD hS hl
    unfold f_X11_raises_J86 at hf
    refine lv_iconst (v := 0) hx hb dX11_raises_86 (by decide) ?_
    exact hJ87 mv x4 x6 0 y0 y1 y2 _ _ _ hf hP hD hS (lv_sub hl [0, 1, 2] rfl)
  have hJ67 : ∀ (mv : MV) (x1 : Int32) (x4 : Int32) (x5 : Int32) (x6 : Int32) (y0 : Int32) (y1 : Int32) (y2 : Int32) (H : Heap) (locs : List Loc) (ls : Array Slot), f_X11_raises_J67 mv x1 x4 x5 x6 y0 y1 y2 = some out → va_P (gD g) vwCl (wM g hm mv) H → va_D A (wM g hm mv) → va_S A s.heap H locs → lv_has ls 8 [(0, .ref (hm 0)), (1, .int x1), (4, .int x4), (5, .int x5), (6, .int x6)] → W p l e rm_X11_raises s mi [.ref (hm 0), .int a0, .int a1, .int a2].toArray below meth c H locs 0 0 Q (F0 mi 67 ls [.int y0, .int y1, .int y2, .ref (hm 0)]) := by
    intro mv x1 x4 x5 x6 y0 y1 y2 H locs ls hf hP hD hS hl
    unfold f_X11_raises_J67 at hf
    refine lv_iload hx hb dX11_raises_67 (lv_at hl 3 rfl) ?_
    refine lv_if_eq (tgt := 86) hx hb dX11_raises_69 (by decide) (fun hc => ?_) (fun hc => ?_)
    · have hf := jbT hf hc
      exact hJ86 mv x4 x6 y0 y1 y2 _ _ _ hf hP hD hS (lv_sub hl [0, 2, 4] rfl)
    · have hf := jbF hf hc
      refine lv_aload_n hx hb dX11_raises_72 rfl (lv_at hl 0 rfl) ?_
      refine lv_iload_n hx hb dX11_raises_73 rfl (lv_at hl 1 rfl) ?_
      refine lv_iload hx hb dX11_raises_74 (lv_at hl 2 rfl) ?_
      obtain ⟨o11, g12, hf⟩ := jbB_e hf
      refine cva_i (As := [.int x1, .int x4]) (rest := [.int y0, .int y1, .int y2, .ref (hm 0)]) ⟨hx, hb, hml, hown, hts⟩ (c_X11_canLift l g hm mv x1 x4 _ g12) (cwV 2 hts gX11_raises_X11_canLift rfl rfl rfl hd_X11_canLift ⟨Nat.le_of_ble_eq_true rfl, Nat.le_of_ble_eq_true rfl⟩) hK hZ hT hA hP hD hS hl.1 (va_recv hK hP (ci := 10) (q0 := 0) rfl rfl) rfl rfl (Nat.le_of_ble_eq_true rfl) ⟨Nat.le_of_ble_eq_true rfl, Nat.le_of_ble_eq_true rfl⟩ dX11_raises_76 (fun H locs hP hD hS => ?_)
      refine lv_if_eq (tgt := 86) hx hb dX11_raises_79 (by decide) (fun hc => ?_) (fun hc => ?_)
      · have hf := jbT hf hc
        exact hJ86 mv x4 x6 y0 y1 y2 _ _ _ hf hP hD hS (lv_sub hl [0, 2, 4] rfl)
      · have hf := jbF hf hc
        refine lv_iconst (v := 1) hx hb dX11_raises_82 (by decide) ?_
        refine lv_goto (tgt := 87) hx hb dX11_raises_83 (by decide) ?_
        exact hJ87 mv x4 x6 1 y0 y1 y2 _ _ _ hf hP hD hS (lv_sub hl [0, 2, 4] rfl)
  have hJ52 : ∀ (mv : MV) (x1 : Int32) (x4 : Int32) (x5 : Int32) (x6 : Int32) (y0 : Int32) (y1 : Int32) (H : Heap) (locs : List Loc) (ls : Array Slot), f_X11_raises_J52 mv x1 x4 x5 x6 y0 y1 = some out → va_P (gD g) vwCl (wM g hm mv) H → va_D A (wM g hm mv) → va_S A s.heap H locs → lv_has ls 8 [(0, .ref (hm 0)), (1, .int x1), (4, .int x4), (5, .int x5), (6, .int x6)] → W p l e rm_X11_raises s mi [.ref (hm 0), .int a0, .int a1, .int a2].toArray below meth c H locs 0 0 Q (F0 mi 52 ls [.int y0, .int y1, .ref (hm 0)]) := by
    intro mv x1 x4 x5 x6 y0 y1 H locs ls hf hP hD hS hl
    unfold f_X11_raises_J52 at hf
    refine lv_aload_n hx hb dX11_raises_52 rfl (lv_at hl 0 rfl) ?_
    refine lv_iload hx hb dX11_raises_53 (lv_at hl 2 rfl) ?_
    refine lv_iconst (v := 2) hx hb dX11_raises_55 (by decide) ?_
    obtain ⟨o9, g10, hf⟩ := jbB_e hf
    refine cva_i (As := [.int x4, .int 2]) (rest := [.int y0, .int y1, .ref (hm 0)]) ⟨hx, hb, hml, hown, hts⟩ (c_X11_of l g hm mv x4 2 _ g10) (cwV 2 hts gX11_raises_X11_of rfl rfl rfl hd_X11_of ⟨Nat.le_of_ble_eq_true rfl, Nat.le_of_ble_eq_true rfl⟩) hK hZ hT hA hP hD hS hl.1 (va_recv hK hP (ci := 10) (q0 := 0) rfl rfl) rfl rfl (Nat.le_of_ble_eq_true rfl) ⟨Nat.le_of_ble_eq_true rfl, Nat.le_of_ble_eq_true rfl⟩ dX11_raises_56 (fun H locs hP hD hS => ?_)
    refine lv_if_ne (tgt := 66) hx hb dX11_raises_59 (by decide) (fun hc => ?_) (fun hc => ?_)
    · have hf := jbF hf hc
      refine lv_iconst (v := 0) hx hb dX11_raises_66 (by decide) ?_
      exact hJ67 mv x1 x4 x5 x6 0 y0 y1 _ _ _ hf hP hD hS (lv_sub hl [0, 1, 2, 3, 4] rfl)
    · have hf := jbT hf hc
      refine lv_iconst (v := 1) hx hb dX11_raises_62 (by decide) ?_
      refine lv_goto (tgt := 67) hx hb dX11_raises_63 (by decide) ?_
      exact hJ67 mv x1 x4 x5 x6 1 y0 y1 _ _ _ hf hP hD hS (lv_sub hl [0, 1, 2, 3, 4] rfl)
  have hJ28 : ∀ (mv : MV) (x1 : Int32) (x4 : Int32) (y0 : Int32) (H : Heap) (locs : List Loc) (ls : Array Slot), f_X11_raises_J28 mv x1 x4 y0 = some out → va_P (gD g) vwCl (wM g hm mv) H → va_D A (wM g hm mv) → va_S A s.heap H locs → lv_has ls 8 [(0, .ref (hm 0)), (1, .int x1), (4, .int x4)] → W p l e rm_X11_raises s mi [.ref (hm 0), .int a0, .int a1, .int a2].toArray below meth c H locs 0 0 Q (F0 mi 28 ls [.int y0]) := by
    intro mv x1 x4 y0 H locs ls hf hP hD hS hl
    unfold f_X11_raises_J28 at hf
    refine lv_istore (lv' := [(5, .int y0), (0, .ref (hm 0)), (1, .int x1), (4, .int x4)]) hx hb dX11_raises_28 hl (by decide) rfl (fun ls hl => ?_)
    refine lv_aload_n hx hb dX11_raises_30 rfl (lv_at hl 1 rfl) ?_
    refine lv_iload hx hb dX11_raises_31 (lv_at hl 3 rfl) ?_
    obtain ⟨o7, g8, hf⟩ := jbB_e hf
    refine cva_i (As := [.int x4]) (rest := []) ⟨hx, hb, hml, hown, hts⟩ (c_X11_topOf l g hm mv x4 _ g8) (cwV 1 hts gX11_raises_X11_topOf rfl rfl rfl hd_X11_topOf ⟨Nat.le_of_ble_eq_true rfl, Nat.le_of_ble_eq_true rfl⟩) hK hZ hT hA hP hD hS hl.1 (va_recv hK hP (ci := 10) (q0 := 0) rfl rfl) rfl rfl (Nat.le_of_ble_eq_true rfl) ⟨Nat.le_of_ble_eq_true rfl, Nat.le_of_ble_eq_true rfl⟩ dX11_raises_33 (fun H locs hP hD hS => ?_)
    refine lv_istore (lv' := [(6, .int o7), (5, .int y0), (0, .ref (hm 0)), (1, .int x1), (4, .int x4)]) hx hb dX11_raises_36 hl (by decide) rfl (fun ls hl => ?_)
    refine lv_aload_n hx hb dX11_raises_38 rfl (lv_at hl 2 rfl) ?_
    refine lv_iload hx hb dX11_raises_39 (lv_at hl 1 rfl) ?_
    refine lv_iload hx hb dX11_raises_41 (lv_at hl 0 rfl) ?_
    refine lv_iconst (v := (-1)) hx hb dX11_raises_43 (by decide) ?_
    refine lv_icmp_eq (tgt := 51) hx hb dX11_raises_44 (by decide) (fun hc => ?_) (fun hc => ?_)
    · have hf := jbT hf hc
      refine lv_iconst (v := 0) hx hb dX11_raises_51 (by decide) ?_
      exact hJ52 mv x1 x4 y0 o7 0 y0 _ _ _ hf hP hD hS (lv_sub hl [2, 3, 4, 1, 0] rfl)
    · have hf := jbF hf hc
      refine lv_iconst (v := 1) hx hb dX11_raises_47 (by decide) ?_
      refine lv_goto (tgt := 52) hx hb dX11_raises_48 (by decide) ?_
      exact hJ52 mv x1 x4 y0 o7 1 y0 _ _ _ hf hP hD hS (lv_sub hl [2, 3, 4, 1, 0] rfl)
  have hJ27 : ∀ (mv : MV) (x1 : Int32) (x4 : Int32) (H : Heap) (locs : List Loc) (ls : Array Slot), f_X11_raises_J27 mv x1 x4 = some out → va_P (gD g) vwCl (wM g hm mv) H → va_D A (wM g hm mv) → va_S A s.heap H locs → lv_has ls 8 [(0, .ref (hm 0)), (1, .int x1), (4, .int x4)] → W p l e rm_X11_raises s mi [.ref (hm 0), .int a0, .int a1, .int a2].toArray below meth c H locs 0 0 Q (F0 mi 27 ls []) := by
    intro mv x1 x4 H locs ls hf hP hD hS hl
    unfold f_X11_raises_J27 at hf
    refine lv_iconst (v := 0) hx hb dX11_raises_27 (by decide) ?_
    exact hJ28 mv x1 x4 0 _ _ _ hf hP hD hS (lv_sub hl [0, 1, 2] rfl)
  refine lv_iload_n hx hb dX11_raises_0 rfl (lv_at hl 2 rfl) ?_
  refine lv_iload_n hx hb dX11_raises_1 rfl (lv_at hl 3 rfl) ?_
  obtain ⟨o1, g2, hf⟩ := jbB_e hf
  refine csn_i (As := [.int a1, .int a2]) (rest := []) ⟨hx, hb, hml, hown, hts⟩ (c_X11_cellAt l g a1 a2 _ g2) (va_cwS 2 hts gX11_raises_X11_cellAt rfl rfl rfl hd_X11_cellAt ⟨Nat.le_of_ble_eq_true rfl, Nat.le_of_ble_eq_true rfl⟩) hK hZ hT hA hP hD hS hl.1 rfl rfl (Nat.le_of_ble_eq_true rfl) ⟨Nat.le_of_ble_eq_true rfl, Nat.le_of_ble_eq_true rfl⟩ dX11_raises_2 (fun H locs hP hD hS => ?_)
  refine lv_istore (lv' := [(4, .int o1), (0, .ref (hm 0)), (1, .int a0), (2, .int a1), (3, .int a2)]) hx hb dX11_raises_5 hl (by decide) rfl (fun ls hl => ?_)
  refine lv_aload_n hx hb dX11_raises_7 rfl (lv_at hl 1 rfl) ?_
  refine lv_iload_n hx hb dX11_raises_8 rfl (lv_at hl 2 rfl) ?_
  obtain ⟨o3, g4, hf⟩ := jbB_e hf
  refine cva_i (As := [.int a0]) (rest := []) ⟨hx, hb, hml, hown, hts⟩ (c_X11_isWinch l g hm mv a0 _ g4) (cwV 1 hts gX11_raises_X11_isWinch rfl rfl rfl hd_X11_isWinch ⟨Nat.le_of_ble_eq_true rfl, Nat.le_of_ble_eq_true rfl⟩) hK hZ hT hA hP hD hS hl.1 (va_recv hK hP (ci := 10) (q0 := 0) rfl rfl) rfl rfl (Nat.le_of_ble_eq_true rfl) ⟨Nat.le_of_ble_eq_true rfl, Nat.le_of_ble_eq_true rfl⟩ dX11_raises_9 (fun H locs hP hD hS => ?_)
  refine lv_if_eq (tgt := 27) hx hb dX11_raises_12 (by decide) (fun hc => ?_) (fun hc => ?_)
  · have hf := jbT hf hc
    exact hJ27 mv a0 o1 _ _ _ hf hP hD hS (lv_sub hl [1, 2, 0] rfl)
  · have hf := jbF hf hc
    refine lv_iload_n hx hb dX11_raises_15 rfl (lv_at hl 3 rfl) ?_
    refine lv_iload_n hx hb dX11_raises_16 rfl (lv_at hl 4 rfl) ?_
    obtain ⟨o5, g6, hf⟩ := jbB_e hf
    refine csn_i (As := [.int a1, .int a2]) (rest := []) ⟨hx, hb, hml, hown, hts⟩ (c_X11_isCell l g a1 a2 _ g6) (va_cwS 2 hts gX11_raises_X11_isCell rfl rfl rfl hd_X11_isCell ⟨Nat.le_of_ble_eq_true rfl, Nat.le_of_ble_eq_true rfl⟩) hK hZ hT hA hP hD hS hl.1 rfl rfl (Nat.le_of_ble_eq_true rfl) ⟨Nat.le_of_ble_eq_true rfl, Nat.le_of_ble_eq_true rfl⟩ dX11_raises_17 (fun H locs hP hD hS => ?_)
    refine lv_if_eq (tgt := 27) hx hb dX11_raises_20 (by decide) (fun hc => ?_) (fun hc => ?_)
    · have hf := jbT hf hc
      exact hJ27 mv a0 o1 _ _ _ hf hP hD hS (lv_sub hl [1, 2, 0] rfl)
    · have hf := jbF hf hc
      refine lv_iconst (v := 1) hx hb dX11_raises_23 (by decide) ?_
      refine lv_goto (tgt := 28) hx hb dX11_raises_24 (by decide) ?_
      exact hJ28 mv a0 o1 1 _ _ _ hf hP hD hS (lv_sub hl [1, 2, 0] rfl)
def f_X11_lift (mv : MV) (a0 : Int32) (a1 : Int32) (a2 : Int32) : Option (Int32 × MV) :=
  (f_X11_begins mv).bind fun o1 =>
  (f_X11_raises o1 a0 a1 a2).bind fun o3 =>
  (f_X11_ends (o3.2) (o3.1)).bind fun o5 =>
  some ((o5.1), (o5.2))
def rm_X11_lift : Room := { frames := 5, cells := 0, slots := 0, locals := 115 }
theorem hd_X11_lift : yX11_lift.cls = RX11 ∧ yX11_lift.cls ≠ "java/lang/invoke/MethodHandle" ∧ yX11_lift.cls ≠ "java/lang/invoke/VarHandle" ∧ (parseMethodDescriptor yX11_lift.desc).map (fun d => d.parameters.length) = some 3 := by decide +kernel
set_option maxHeartbeats 4000000 in
set_option maxRecDepth 100000 in
theorem c_X11_lift (l : Launch) (g : GG) (hm : Nat → Nat) (mv : MV)  (a0 : Int32) (a1 : Int32) (a2 : Int32) (out : Int32 × MV) (hf : f_X11_lift mv a0 a1 a2 = some out) : MtI l yX11_lift wsX11_lift rm_X11_lift g (wM g hm mv) [.ref (hm 0), .int a0, .int a1, .int a2] (out.1) (wM g hm (out.2)) 0 0 := by
  refine fun sz => mt_of (cc := cX11_lift) (maxL := 4) (ret := (some .int)) (own := RX11) (Qc := fun A => va_Qi (fun r (_ : Unit) => r = (out.1)) (fun _ t => PosM g A (wM g hm (out.2)) t) A) (by decide +kernel) rfl rfl (Nat.le_of_ble_eq_true rfl) ?_ sz
  intro p e s mi below meth c A ls hB hnm hrt hlk hP hD hl
  obtain ⟨hx, hb, hml, hown, hts, hK, hZ, hT, hA, -⟩ := hB
  have hS : va_S A s.heap s.heap [] := va_S.rf
  have hl : lv_has ls 4 [(0, .ref (hm 0)), (1, .int a0), (2, .int a1), (3, .int a2)] := hl
  generalize hQ : MQ below _ _ _ _ _ _ = Q
  unfold f_X11_lift at hf
  refine lv_aload_n hx hb dX11_lift_0 rfl (lv_at hl 0 rfl) ?_
  obtain ⟨o1, g2, hf⟩ := jbB_e hf
  refine cva_v (As := []) (rest := []) ⟨hx, hb, hml, hown, hts⟩ (c_X11_begins l g hm mv _ g2) (cwV 0 hts gX11_lift_X11_begins rfl rfl rfl hd_X11_begins ⟨Nat.le_of_ble_eq_true rfl, Nat.le_of_ble_eq_true rfl⟩) hK hZ hT hA hP hD hS hl.1 (va_recv hK hP (ci := 10) (q0 := 0) rfl rfl) rfl rfl (Nat.le_of_ble_eq_true rfl) ⟨Nat.le_of_ble_eq_true rfl, Nat.le_of_ble_eq_true rfl⟩ dX11_lift_1 (fun H locs hP hD hS => ?_)
  refine lv_aload_n hx hb dX11_lift_4 rfl (lv_at hl 0 rfl) ?_
  refine lv_aload_n hx hb dX11_lift_5 rfl (lv_at hl 0 rfl) ?_
  refine lv_iload_n hx hb dX11_lift_6 rfl (lv_at hl 1 rfl) ?_
  refine lv_iload_n hx hb dX11_lift_7 rfl (lv_at hl 2 rfl) ?_
  refine lv_iload_n hx hb dX11_lift_8 rfl (lv_at hl 3 rfl) ?_
  obtain ⟨o3, g4, hf⟩ := jbB_e hf
  refine cva_i (As := [.int a0, .int a1, .int a2]) (rest := [.ref (hm 0)]) ⟨hx, hb, hml, hown, hts⟩ (c_X11_raises l g hm o1 a0 a1 a2 _ g4) (cwV 3 hts gX11_lift_X11_raises rfl rfl rfl hd_X11_raises ⟨Nat.le_of_ble_eq_true rfl, Nat.le_of_ble_eq_true rfl⟩) hK hZ hT hA hP hD hS hl.1 (va_recv hK hP (ci := 10) (q0 := 0) rfl rfl) rfl rfl (Nat.le_of_ble_eq_true rfl) ⟨Nat.le_of_ble_eq_true rfl, Nat.le_of_ble_eq_true rfl⟩ dX11_lift_9 (fun H locs hP hD hS => ?_)
  obtain ⟨o5, g6, hf⟩ := jbB_e hf
  refine cva_i (As := [.int (o3.1)]) (rest := []) ⟨hx, hb, hml, hown, hts⟩ (c_X11_ends l g hm (o3.2) (o3.1) _ g6) (cwV 1 hts gX11_lift_X11_ends rfl rfl rfl hd_X11_ends ⟨Nat.le_of_ble_eq_true rfl, Nat.le_of_ble_eq_true rfl⟩) hK hZ hT hA hP hD hS hl.1 (va_recv hK hP (ci := 10) (q0 := 0) rfl rfl) rfl rfl (Nat.le_of_ble_eq_true rfl) ⟨Nat.le_of_ble_eq_true rfl, Nat.le_of_ble_eq_true rfl⟩ dX11_lift_12 (fun H locs hP hD hS => ?_)
  cases hf
  subst hQ
  exact rt_i hx hb hrt hlk rfl hK hP hD hS (Nat.le_of_ble_eq_true rfl) (Nat.le_of_ble_eq_true rfl) dX11_lift_15
def f_X11_crushes_J47 (mv : MV) (x1 : Int32) (x2 : Int32) (y0 : Int32) (y1 : Int32) : Option (Int32 × MV) :=
  (f_X11_holds mv y1 y0 1 1).bind fun o6 =>
  if (o6.1) = 0 then
  (some (0, (o6.2)))
  else
  (if jIn (6 + x1) 229 then
  if jIn (6 + x1) 229 then
  jbN (mSNow (upd (mNow (o6.2)) (6 + x1).toNatClampNeg (((mNow (o6.2)) (6 + x1).toNatClampNeg) - x2)) (o6.2)) fun w10 =>
  if jIn 1 229 then
  if jIn 1 229 then
  jbN (mSNow (upd (mNow w10) (1 : Int32).toNatClampNeg (((mNow w10) (1 : Int32).toNatClampNeg) + (2 * x2))) w10) fun w13 =>
  if jIn 1 229 then
  some (((mNow w13) (1 : Int32).toNatClampNeg), w13)
  else none
  else none
  else none
  else none
  else none)
def f_X11_crushes_J46 (mv : MV) (x1 : Int32) (x2 : Int32) (y0 : Int32) : Option (Int32 × MV) :=
  f_X11_crushes_J47 mv x1 x2 0 y0
def f_X11_crushes_J22 (mv : MV) (x1 : Int32) (x2 : Int32) (y0 : Int32) : Option (Int32 × MV) :=
  if y0 = 0 then
  (f_X11_crushes_J46 mv x1 x2 y0)
  else
  (if jIn (6 + x1) 229 then
  if ((mNow mv) (6 + x1).toNatClampNeg) < x2 then
  (f_X11_crushes_J46 mv x1 x2 y0)
  else
  (f_X11_crushes_J47 mv x1 x2 1 y0)
  else none)
def f_X11_crushes_J21 (mv : MV) (x1 : Int32) (x2 : Int32) : Option (Int32 × MV) :=
  f_X11_crushes_J22 mv x1 x2 0
def f_X11_crushes (mv : MV) (a0 : Int32) (a1 : Int32) : Option (Int32 × MV) :=
  (f_X11_isStone a0).bind fun o1 =>
  if o1 = 0 then
  (f_X11_crushes_J21 mv a0 a1)
  else
  ((f_X11_isIn a1 1 20).bind fun o3 =>
  if o3 = 0 then
  (f_X11_crushes_J21 mv a0 a1)
  else
  (f_X11_crushes_J22 mv a0 a1 1))
def rm_X11_crushes : Room := { frames := 2, cells := 0, slots := 0, locals := 42 }
theorem hd_X11_crushes : yX11_crushes.cls = RX11 ∧ yX11_crushes.cls ≠ "java/lang/invoke/MethodHandle" ∧ yX11_crushes.cls ≠ "java/lang/invoke/VarHandle" ∧ (parseMethodDescriptor yX11_crushes.desc).map (fun d => d.parameters.length) = some 2 := by decide +kernel
set_option maxHeartbeats 4000000 in
set_option maxRecDepth 100000 in
theorem c_X11_crushes (l : Launch) (g : GG) (hm : Nat → Nat) (mv : MV)  (a0 : Int32) (a1 : Int32) (out : Int32 × MV) (hf : f_X11_crushes mv a0 a1 = some out) : MtI l yX11_crushes wsX11_crushes rm_X11_crushes g (wM g hm mv) [.ref (hm 0), .int a0, .int a1] (out.1) (wM g hm (out.2)) 0 0 := by
  refine fun sz => mt_of (cc := cX11_crushes) (maxL := 4) (ret := (some .int)) (own := RX11) (Qc := fun A => va_Qi (fun r (_ : Unit) => r = (out.1)) (fun _ t => PosM g A (wM g hm (out.2)) t) A) (by decide +kernel) rfl rfl (Nat.le_of_ble_eq_true rfl) ?_ sz
  intro p e s mi below meth c A ls hB hnm hrt hlk hP hD hl
  obtain ⟨hx, hb, hml, hown, hts, hK, hZ, hT, hA, -⟩ := hB
  have hS : va_S A s.heap s.heap [] := va_S.rf
  have hl : lv_has ls 4 [(0, .ref (hm 0)), (1, .int a0), (2, .int a1)] := hl
  have hinX11 : ∀ w ∈ wsX110, w ∈ wsX11_crushes := by decide +kernel
  have k0 := hts (.fieldLink RX11 9 "TerraceQuarryModel" "now" "[I") (by decide +kernel)
  generalize hQ : MQ below _ _ _ _ _ _ = Q
  unfold f_X11_crushes at hf
  have hJ47 : ∀ (mv : MV) (x1 : Int32) (x2 : Int32) (y0 : Int32) (y1 : Int32) (H : Heap) (locs : List Loc) (ls : Array Slot), f_X11_crushes_J47 mv x1 x2 y0 y1 = some out → va_P (gD g) vwCl (wM g hm mv) H → va_D A (wM g hm mv) → va_S A s.heap H locs → lv_has ls 4 [(0, .ref (hm 0)), (1, .int x1), (2, .int x2)] → W p l e rm_X11_crushes s mi [.ref (hm 0), .int a0, .int a1].toArray below meth c H locs 0 0 Q (F0 mi 47 ls [.int y0, .int y1, .ref (hm 0)]) := by
    intro mv x1 x2 y0 y1 H locs ls hf hP hD hS hl
    unfold f_X11_crushes_J47 at hf
    refine lv_iconst (v := 1) hx hb dX11_crushes_47 (by decide) ?_
    refine lv_iconst (v := 1) hx hb dX11_crushes_48 (by decide) ?_
    obtain ⟨o6, g7, hf⟩ := jbB_e hf
    refine cva_i (As := [.int y1, .int y0, .int 1, .int 1]) (rest := []) ⟨hx, hb, hml, hown, hts⟩ (c_X11_holds l g hm mv y1 y0 1 1 _ g7) (cwV 4 hts gX11_crushes_X11_holds rfl rfl rfl hd_X11_holds ⟨Nat.le_of_ble_eq_true rfl, Nat.le_of_ble_eq_true rfl⟩) hK hZ hT hA hP hD hS hl.1 (va_recv hK hP (ci := 10) (q0 := 0) rfl rfl) rfl rfl (Nat.le_of_ble_eq_true rfl) ⟨Nat.le_of_ble_eq_true rfl, Nat.le_of_ble_eq_true rfl⟩ dX11_crushes_49 (fun H locs hP hD hS => ?_)
    refine lv_if_ne (tgt := 57) hx hb dX11_crushes_52 (by decide) (fun hc => ?_) (fun hc => ?_)
    · have hf := jbF hf hc
      refine lv_aload_n hx hb dX11_crushes_57 rfl (lv_at hl 0 rfl) ?_
      refine va_get (D := gD g) (ci := 10) (v := .ref (hm 1)) (C := RX11) (T := TX11) (N := 19) hx hb hts hinX11 hown hK hP 0 rfl rfl 0 (by decide) k0 (fun _ h9 => h9) rfl dX11_crushes_58 ?_
      refine lv_bipush (v := 6) hx hb dX11_crushes_61 (by decide) ?_
      refine lv_iload_n hx hb dX11_crushes_63 rfl (lv_at hl 1 rfl) ?_
      refine lv_iadd hx hb dX11_crushes_64 ?_
      refine lv_dup2_11 hx hb dX11_crushes_65 rfl rfl ?_
      obtain ⟨h8, hf⟩ := jbA_e hf
      refine va_iald hx hb hK hP 1 0 rfl rfl h8 dX11_crushes_66 ?_
      refine lv_iload_n hx hb dX11_crushes_67 rfl (lv_at hl 2 rfl) ?_
      refine lv_isub hx hb dX11_crushes_68 ?_
      obtain ⟨h9, hf⟩ := jbA_e hf
      refine va_iast hx hb hK hP hD hS 1 0 rfl rfl h9 dX11_crushes_69 (fun H locs hP hD hS => ?_)
      obtain ⟨w10, ew10⟩ : ∃ y, y = (mSNow (upd (mNow (o6.2)) (6 + x1).toNatClampNeg (((mNow (o6.2)) (6 + x1).toNatClampNeg) - x2)) (o6.2)) := ⟨_, rfl⟩
      have hf := jbN_e hf ew10
      have hP : va_P (gD g) vwCl (wM g hm w10) H := by rw [ew10]; exact hP
      have hD : va_D A (wM g hm w10) := by rw [ew10]; exact hD
      refine lv_aload_n hx hb dX11_crushes_70 rfl (lv_at hl 0 rfl) ?_
      refine va_get (D := gD g) (ci := 10) (v := .ref (hm 1)) (C := RX11) (T := TX11) (N := 19) hx hb hts hinX11 hown hK hP 0 rfl rfl 0 (by decide) k0 (fun _ h9 => h9) rfl dX11_crushes_71 ?_
      refine lv_iconst (v := 1) hx hb dX11_crushes_74 (by decide) ?_
      refine lv_dup2_11 hx hb dX11_crushes_75 rfl rfl ?_
      obtain ⟨h11, hf⟩ := jbA_e hf
      refine va_iald hx hb hK hP 1 0 rfl rfl h11 dX11_crushes_76 ?_
      refine lv_iconst (v := 2) hx hb dX11_crushes_77 (by decide) ?_
      refine lv_iload_n hx hb dX11_crushes_78 rfl (lv_at hl 2 rfl) ?_
      refine lv_imul hx hb dX11_crushes_79 ?_
      refine lv_iadd hx hb dX11_crushes_80 ?_
      obtain ⟨h12, hf⟩ := jbA_e hf
      refine va_iast hx hb hK hP hD hS 1 0 rfl rfl h12 dX11_crushes_81 (fun H locs hP hD hS => ?_)
      obtain ⟨w13, ew13⟩ : ∃ y, y = (mSNow (upd (mNow w10) (1 : Int32).toNatClampNeg (((mNow w10) (1 : Int32).toNatClampNeg) + (2 * x2))) w10) := ⟨_, rfl⟩
      have hf := jbN_e hf ew13
      have hP : va_P (gD g) vwCl (wM g hm w13) H := by rw [ew13]; exact hP
      have hD : va_D A (wM g hm w13) := by rw [ew13]; exact hD
      refine lv_aload_n hx hb dX11_crushes_82 rfl (lv_at hl 0 rfl) ?_
      refine va_get (D := gD g) (ci := 10) (v := .ref (hm 1)) (C := RX11) (T := TX11) (N := 19) hx hb hts hinX11 hown hK hP 0 rfl rfl 0 (by decide) k0 (fun _ h9 => h9) rfl dX11_crushes_83 ?_
      refine lv_iconst (v := 1) hx hb dX11_crushes_86 (by decide) ?_
      obtain ⟨h14, hf⟩ := jbA_e hf
      refine va_iald hx hb hK hP 1 0 rfl rfl h14 dX11_crushes_87 ?_
      cases hf
      subst hQ
      exact rt_i hx hb hrt hlk rfl hK hP hD hS (Nat.le_of_ble_eq_true rfl) (Nat.le_of_ble_eq_true rfl) dX11_crushes_88
    · have hf := jbT hf hc
      refine lv_iconst (v := 0) hx hb dX11_crushes_55 (by decide) ?_
      cases hf
      subst hQ
      exact rt_i hx hb hrt hlk rfl hK hP hD hS (Nat.le_of_ble_eq_true rfl) (Nat.le_of_ble_eq_true rfl) dX11_crushes_56
  have hJ46 : ∀ (mv : MV) (x1 : Int32) (x2 : Int32) (y0 : Int32) (H : Heap) (locs : List Loc) (ls : Array Slot), f_X11_crushes_J46 mv x1 x2 y0 = some out → va_P (gD g) vwCl (wM g hm mv) H → va_D A (wM g hm mv) → va_S A s.heap H locs → lv_has ls 4 [(0, .ref (hm 0)), (1, .int x1), (2, .int x2)] → W p l e rm_X11_crushes s mi [.ref (hm 0), .int a0, .int a1].toArray below meth c H locs 0 0 Q (F0 mi 46 ls [.int y0, .ref (hm 0)]) := by
    intro mv x1 x2 y0 H locs ls hf hP hD hS hl
    unfold f_X11_crushes_J46 at hf
    refine lv_iconst (v := 0) hx hb dX11_crushes_46 (by decide) ?_
    exact hJ47 mv x1 x2 0 y0 _ _ _ hf hP hD hS (lv_sub hl [0, 1, 2] rfl)
  have hJ22 : ∀ (mv : MV) (x1 : Int32) (x2 : Int32) (y0 : Int32) (H : Heap) (locs : List Loc) (ls : Array Slot), f_X11_crushes_J22 mv x1 x2 y0 = some out → va_P (gD g) vwCl (wM g hm mv) H → va_D A (wM g hm mv) → va_S A s.heap H locs → lv_has ls 4 [(0, .ref (hm 0)), (1, .int x1), (2, .int x2)] → W p l e rm_X11_crushes s mi [.ref (hm 0), .int a0, .int a1].toArray below meth c H locs 0 0 Q (F0 mi 22 ls [.int y0]) := by
    intro mv x1 x2 y0 H locs ls hf hP hD hS hl
    unfold f_X11_crushes_J22 at hf
    refine lv_istore_n (lv' := [(3, .int y0), (0, .ref (hm 0)), (1, .int x1), (2, .int x2)]) hx hb dX11_crushes_22 rfl hl (by decide) rfl (fun ls hl => ?_)
    refine lv_aload_n hx hb dX11_crushes_23 rfl (lv_at hl 1 rfl) ?_
    refine lv_iload_n hx hb dX11_crushes_24 rfl (lv_at hl 0 rfl) ?_
    refine lv_iload_n hx hb dX11_crushes_25 rfl (lv_at hl 0 rfl) ?_
    refine lv_if_eq (tgt := 46) hx hb dX11_crushes_26 (by decide) (fun hc => ?_) (fun hc => ?_)
    · have hf := jbT hf hc
      exact hJ46 mv x1 x2 y0 _ _ _ hf hP hD hS (lv_sub hl [1, 2, 3] rfl)
    · have hf := jbF hf hc
      refine lv_aload_n hx hb dX11_crushes_29 rfl (lv_at hl 1 rfl) ?_
      refine va_get (D := gD g) (ci := 10) (v := .ref (hm 1)) (C := RX11) (T := TX11) (N := 19) hx hb hts hinX11 hown hK hP 0 rfl rfl 0 (by decide) k0 (fun _ h9 => h9) rfl dX11_crushes_30 ?_
      refine lv_bipush (v := 6) hx hb dX11_crushes_33 (by decide) ?_
      refine lv_iload_n hx hb dX11_crushes_35 rfl (lv_at hl 2 rfl) ?_
      refine lv_iadd hx hb dX11_crushes_36 ?_
      obtain ⟨h5, hf⟩ := jbA_e hf
      refine va_iald hx hb hK hP 1 0 rfl rfl h5 dX11_crushes_37 ?_
      refine lv_iload_n hx hb dX11_crushes_38 rfl (lv_at hl 3 rfl) ?_
      refine lv_icmp_lt (tgt := 46) hx hb dX11_crushes_39 (by decide) (fun hc => ?_) (fun hc => ?_)
      · have hf := jbT hf hc
        exact hJ46 mv x1 x2 y0 _ _ _ hf hP hD hS (lv_sub hl [1, 2, 3] rfl)
      · have hf := jbF hf hc
        refine lv_iconst (v := 1) hx hb dX11_crushes_42 (by decide) ?_
        refine lv_goto (tgt := 47) hx hb dX11_crushes_43 (by decide) ?_
        exact hJ47 mv x1 x2 1 y0 _ _ _ hf hP hD hS (lv_sub hl [1, 2, 3] rfl)
  have hJ21 : ∀ (mv : MV) (x1 : Int32) (x2 : Int32) (H : Heap) (locs : List Loc) (ls : Array Slot), f_X11_crushes_J21 mv x1 x2 = some out → va_P (gD g) vwCl (wM g hm mv) H → va_D A (wM g hm mv) → va_S A s.heap H locs → lv_has ls 4 [(0, .ref (hm 0)), (1, .int x1), (2, .int x2)] → W p l e rm_X11_crushes s mi [.ref (hm 0), .int a0, .int a1].toArray below meth c H locs 0 0 Q (F0 mi 21 ls []) := by
    intro mv x1 x2 H locs ls hf hP hD hS hl
    unfold f_X11_crushes_J21 at hf
    refine lv_iconst (v := 0) hx hb dX11_crushes_21 (by decide) ?_
    exact hJ22 mv x1 x2 0 _ _ _ hf hP hD hS (lv_sub hl [0, 1, 2] rfl)
  refine lv_iload_n hx hb dX11_crushes_0 rfl (lv_at hl 1 rfl) ?_
  obtain ⟨o1, g2, hf⟩ := jbB_e hf
  refine csn_i (As := [.int a0]) (rest := []) ⟨hx, hb, hml, hown, hts⟩ (c_X11_isStone l g a0 _ g2) (va_cwS 1 hts gX11_crushes_X11_isStone rfl rfl rfl hd_X11_isStone ⟨Nat.le_of_ble_eq_true rfl, Nat.le_of_ble_eq_true rfl⟩) hK hZ hT hA hP hD hS hl.1 rfl rfl (Nat.le_of_ble_eq_true rfl) ⟨Nat.le_of_ble_eq_true rfl, Nat.le_of_ble_eq_true rfl⟩ dX11_crushes_1 (fun H locs hP hD hS => ?_)
  refine lv_if_eq (tgt := 21) hx hb dX11_crushes_4 (by decide) (fun hc => ?_) (fun hc => ?_)
  · have hf := jbT hf hc
    exact hJ21 mv a0 a1 _ _ _ hf hP hD hS (lv_sub hl [0, 1, 2] rfl)
  · have hf := jbF hf hc
    refine lv_iload_n hx hb dX11_crushes_7 rfl (lv_at hl 2 rfl) ?_
    refine lv_iconst (v := 1) hx hb dX11_crushes_8 (by decide) ?_
    refine lv_bipush (v := 20) hx hb dX11_crushes_9 (by decide) ?_
    obtain ⟨o3, g4, hf⟩ := jbB_e hf
    refine csn_i (As := [.int a1, .int 1, .int 20]) (rest := []) ⟨hx, hb, hml, hown, hts⟩ (c_X11_isIn l g a1 1 20 _ g4) (va_cwS 3 hts gX11_crushes_X11_isIn rfl rfl rfl hd_X11_isIn ⟨Nat.le_of_ble_eq_true rfl, Nat.le_of_ble_eq_true rfl⟩) hK hZ hT hA hP hD hS hl.1 rfl rfl (Nat.le_of_ble_eq_true rfl) ⟨Nat.le_of_ble_eq_true rfl, Nat.le_of_ble_eq_true rfl⟩ dX11_crushes_11 (fun H locs hP hD hS => ?_)
    refine lv_if_eq (tgt := 21) hx hb dX11_crushes_14 (by decide) (fun hc => ?_) (fun hc => ?_)
    · have hf := jbT hf hc
      exact hJ21 mv a0 a1 _ _ _ hf hP hD hS (lv_sub hl [0, 1, 2] rfl)
    · have hf := jbF hf hc
      refine lv_iconst (v := 1) hx hb dX11_crushes_17 (by decide) ?_
      refine lv_goto (tgt := 22) hx hb dX11_crushes_18 (by decide) ?_
      exact hJ22 mv a0 a1 1 _ _ _ hf hP hD hS (lv_sub hl [0, 1, 2] rfl)
def f_X11_crush (mv : MV) (a0 : Int32) (a1 : Int32) : Option (Int32 × MV) :=
  (f_X11_begins mv).bind fun o1 =>
  (f_X11_crushes o1 a0 a1).bind fun o3 =>
  (f_X11_ends (o3.2) (o3.1)).bind fun o5 =>
  some ((o5.1), (o5.2))
def rm_X11_crush : Room := { frames := 3, cells := 0, slots := 0, locals := 66 }
theorem hd_X11_crush : yX11_crush.cls = RX11 ∧ yX11_crush.cls ≠ "java/lang/invoke/MethodHandle" ∧ yX11_crush.cls ≠ "java/lang/invoke/VarHandle" ∧ (parseMethodDescriptor yX11_crush.desc).map (fun d => d.parameters.length) = some 2 := by decide +kernel
set_option maxHeartbeats 4000000 in
set_option maxRecDepth 100000 in
theorem c_X11_crush (l : Launch) (g : GG) (hm : Nat → Nat) (mv : MV)  (a0 : Int32) (a1 : Int32) (out : Int32 × MV) (hf : f_X11_crush mv a0 a1 = some out) : MtI l yX11_crush wsX11_crush rm_X11_crush g (wM g hm mv) [.ref (hm 0), .int a0, .int a1] (out.1) (wM g hm (out.2)) 0 0 := by
  refine fun sz => mt_of (cc := cX11_crush) (maxL := 3) (ret := (some .int)) (own := RX11) (Qc := fun A => va_Qi (fun r (_ : Unit) => r = (out.1)) (fun _ t => PosM g A (wM g hm (out.2)) t) A) (by decide +kernel) rfl rfl (Nat.le_of_ble_eq_true rfl) ?_ sz
  intro p e s mi below meth c A ls hB hnm hrt hlk hP hD hl
  obtain ⟨hx, hb, hml, hown, hts, hK, hZ, hT, hA, -⟩ := hB
  have hS : va_S A s.heap s.heap [] := va_S.rf
  have hl : lv_has ls 3 [(0, .ref (hm 0)), (1, .int a0), (2, .int a1)] := hl
  generalize hQ : MQ below _ _ _ _ _ _ = Q
  unfold f_X11_crush at hf
  refine lv_aload_n hx hb dX11_crush_0 rfl (lv_at hl 0 rfl) ?_
  obtain ⟨o1, g2, hf⟩ := jbB_e hf
  refine cva_v (As := []) (rest := []) ⟨hx, hb, hml, hown, hts⟩ (c_X11_begins l g hm mv _ g2) (cwV 0 hts gX11_crush_X11_begins rfl rfl rfl hd_X11_begins ⟨Nat.le_of_ble_eq_true rfl, Nat.le_of_ble_eq_true rfl⟩) hK hZ hT hA hP hD hS hl.1 (va_recv hK hP (ci := 10) (q0 := 0) rfl rfl) rfl rfl (Nat.le_of_ble_eq_true rfl) ⟨Nat.le_of_ble_eq_true rfl, Nat.le_of_ble_eq_true rfl⟩ dX11_crush_1 (fun H locs hP hD hS => ?_)
  refine lv_aload_n hx hb dX11_crush_4 rfl (lv_at hl 0 rfl) ?_
  refine lv_aload_n hx hb dX11_crush_5 rfl (lv_at hl 0 rfl) ?_
  refine lv_iload_n hx hb dX11_crush_6 rfl (lv_at hl 1 rfl) ?_
  refine lv_iload_n hx hb dX11_crush_7 rfl (lv_at hl 2 rfl) ?_
  obtain ⟨o3, g4, hf⟩ := jbB_e hf
  refine cva_i (As := [.int a0, .int a1]) (rest := [.ref (hm 0)]) ⟨hx, hb, hml, hown, hts⟩ (c_X11_crushes l g hm o1 a0 a1 _ g4) (cwV 2 hts gX11_crush_X11_crushes rfl rfl rfl hd_X11_crushes ⟨Nat.le_of_ble_eq_true rfl, Nat.le_of_ble_eq_true rfl⟩) hK hZ hT hA hP hD hS hl.1 (va_recv hK hP (ci := 10) (q0 := 0) rfl rfl) rfl rfl (Nat.le_of_ble_eq_true rfl) ⟨Nat.le_of_ble_eq_true rfl, Nat.le_of_ble_eq_true rfl⟩ dX11_crush_8 (fun H locs hP hD hS => ?_)
  obtain ⟨o5, g6, hf⟩ := jbB_e hf
  refine cva_i (As := [.int (o3.1)]) (rest := []) ⟨hx, hb, hml, hown, hts⟩ (c_X11_ends l g hm (o3.2) (o3.1) _ g6) (cwV 1 hts gX11_crush_X11_ends rfl rfl rfl hd_X11_ends ⟨Nat.le_of_ble_eq_true rfl, Nat.le_of_ble_eq_true rfl⟩) hK hZ hT hA hP hD hS hl.1 (va_recv hK hP (ci := 10) (q0 := 0) rfl rfl) rfl rfl (Nat.le_of_ble_eq_true rfl) ⟨Nat.le_of_ble_eq_true rfl, Nat.le_of_ble_eq_true rfl⟩ dX11_crush_11 (fun H locs hP hD hS => ?_)
  cases hf
  subst hQ
  exact rt_i hx hb hrt hlk rfl hK hP hD hS (Nat.le_of_ble_eq_true rfl) (Nat.le_of_ble_eq_true rfl) dX11_crush_14
def f_X11_asks (mv : MV) (a0 : Int32) (a1 : Int32) (a2 : Int32) : Option (Int32 × MV) :=
  (f_X11_isCell a0 a1).bind fun o1 =>
  (f_X11_goes mv o1).bind fun o3 =>
  if (o3.1) = 0 then
  (some (0, (o3.2)))
  else
  ((f_X11_cellAt a0 a1).bind fun o5 =>
  (f_X11_of (o3.2) o5 a2).bind fun o7 =>
  some (o7, (o3.2)))
def rm_X11_asks : Room := { frames := 3, cells := 0, slots := 0, locals := 64 }
theorem hd_X11_asks : yX11_asks.cls = RX11 ∧ yX11_asks.cls ≠ "java/lang/invoke/MethodHandle" ∧ yX11_asks.cls ≠ "java/lang/invoke/VarHandle" ∧ (parseMethodDescriptor yX11_asks.desc).map (fun d => d.parameters.length) = some 3 := by decide +kernel
set_option maxHeartbeats 4000000 in
set_option maxRecDepth 100000 in
theorem c_X11_asks (l : Launch) (g : GG) (hm : Nat → Nat) (mv : MV)  (a0 : Int32) (a1 : Int32) (a2 : Int32) (out : Int32 × MV) (hf : f_X11_asks mv a0 a1 a2 = some out) : MtI l yX11_asks wsX11_asks rm_X11_asks g (wM g hm mv) [.ref (hm 0), .int a0, .int a1, .int a2] (out.1) (wM g hm (out.2)) 0 0 := by
  refine fun sz => mt_of (cc := cX11_asks) (maxL := 4) (ret := (some .int)) (own := RX11) (Qc := fun A => va_Qi (fun r (_ : Unit) => r = (out.1)) (fun _ t => PosM g A (wM g hm (out.2)) t) A) (by decide +kernel) rfl rfl (Nat.le_of_ble_eq_true rfl) ?_ sz
  intro p e s mi below meth c A ls hB hnm hrt hlk hP hD hl
  obtain ⟨hx, hb, hml, hown, hts, hK, hZ, hT, hA, -⟩ := hB
  have hS : va_S A s.heap s.heap [] := va_S.rf
  have hl : lv_has ls 4 [(0, .ref (hm 0)), (1, .int a0), (2, .int a1), (3, .int a2)] := hl
  generalize hQ : MQ below _ _ _ _ _ _ = Q
  unfold f_X11_asks at hf
  refine lv_aload_n hx hb dX11_asks_0 rfl (lv_at hl 0 rfl) ?_
  refine lv_iload_n hx hb dX11_asks_1 rfl (lv_at hl 1 rfl) ?_
  refine lv_iload_n hx hb dX11_asks_2 rfl (lv_at hl 2 rfl) ?_
  obtain ⟨o1, g2, hf⟩ := jbB_e hf
  refine csn_i (As := [.int a0, .int a1]) (rest := [.ref (hm 0)]) ⟨hx, hb, hml, hown, hts⟩ (c_X11_isCell l g a0 a1 _ g2) (va_cwS 2 hts gX11_asks_X11_isCell rfl rfl rfl hd_X11_isCell ⟨Nat.le_of_ble_eq_true rfl, Nat.le_of_ble_eq_true rfl⟩) hK hZ hT hA hP hD hS hl.1 rfl rfl (Nat.le_of_ble_eq_true rfl) ⟨Nat.le_of_ble_eq_true rfl, Nat.le_of_ble_eq_true rfl⟩ dX11_asks_3 (fun H locs hP hD hS => ?_)
  obtain ⟨o3, g4, hf⟩ := jbB_e hf
  refine cva_i (As := [.int o1]) (rest := []) ⟨hx, hb, hml, hown, hts⟩ (c_X11_goes l g hm mv o1 _ g4) (cwV 1 hts gX11_asks_X11_goes rfl rfl rfl hd_X11_goes ⟨Nat.le_of_ble_eq_true rfl, Nat.le_of_ble_eq_true rfl⟩) hK hZ hT hA hP hD hS hl.1 (va_recv hK hP (ci := 10) (q0 := 0) rfl rfl) rfl rfl (Nat.le_of_ble_eq_true rfl) ⟨Nat.le_of_ble_eq_true rfl, Nat.le_of_ble_eq_true rfl⟩ dX11_asks_6 (fun H locs hP hD hS => ?_)
  refine lv_if_eq (tgt := 25) hx hb dX11_asks_9 (by decide) (fun hc => ?_) (fun hc => ?_)
  · have hf := jbT hf hc
    refine lv_iconst (v := 0) hx hb dX11_asks_25 (by decide) ?_
    cases hf
    subst hQ
    exact rt_i hx hb hrt hlk rfl hK hP hD hS (Nat.le_of_ble_eq_true rfl) (Nat.le_of_ble_eq_true rfl) dX11_asks_26
  · have hf := jbF hf hc
    refine lv_aload_n hx hb dX11_asks_12 rfl (lv_at hl 0 rfl) ?_
    refine lv_iload_n hx hb dX11_asks_13 rfl (lv_at hl 1 rfl) ?_
    refine lv_iload_n hx hb dX11_asks_14 rfl (lv_at hl 2 rfl) ?_
    obtain ⟨o5, g6, hf⟩ := jbB_e hf
    refine csn_i (As := [.int a0, .int a1]) (rest := [.ref (hm 0)]) ⟨hx, hb, hml, hown, hts⟩ (c_X11_cellAt l g a0 a1 _ g6) (va_cwS 2 hts gX11_asks_X11_cellAt rfl rfl rfl hd_X11_cellAt ⟨Nat.le_of_ble_eq_true rfl, Nat.le_of_ble_eq_true rfl⟩) hK hZ hT hA hP hD hS hl.1 rfl rfl (Nat.le_of_ble_eq_true rfl) ⟨Nat.le_of_ble_eq_true rfl, Nat.le_of_ble_eq_true rfl⟩ dX11_asks_15 (fun H locs hP hD hS => ?_)
    refine lv_iload_n hx hb dX11_asks_18 rfl (lv_at hl 3 rfl) ?_
    obtain ⟨o7, g8, hf⟩ := jbB_e hf
    refine cva_i (As := [.int o5, .int a2]) (rest := []) ⟨hx, hb, hml, hown, hts⟩ (c_X11_of l g hm (o3.2) o5 a2 _ g8) (cwV 2 hts gX11_asks_X11_of rfl rfl rfl hd_X11_of ⟨Nat.le_of_ble_eq_true rfl, Nat.le_of_ble_eq_true rfl⟩) hK hZ hT hA hP hD hS hl.1 (va_recv hK hP (ci := 10) (q0 := 0) rfl rfl) rfl rfl (Nat.le_of_ble_eq_true rfl) ⟨Nat.le_of_ble_eq_true rfl, Nat.le_of_ble_eq_true rfl⟩ dX11_asks_19 (fun H locs hP hD hS => ?_)
    refine lv_goto (tgt := 26) hx hb dX11_asks_22 (by decide) ?_
    cases hf
    subst hQ
    exact rt_i hx hb hrt hlk rfl hK hP hD hS (Nat.le_of_ble_eq_true rfl) (Nat.le_of_ble_eq_true rfl) dX11_asks_26
def f_X11_height (mv : MV) (a0 : Int32) (a1 : Int32) : Option (Int32 × MV) :=
  (f_X11_asks mv a0 a1 0).bind fun o1 =>
  some ((o1.1), (o1.2))
def rm_X11_height : Room := { frames := 4, cells := 0, slots := 0, locals := 87 }
theorem hd_X11_height : yX11_height.cls = RX11 ∧ yX11_height.cls ≠ "java/lang/invoke/MethodHandle" ∧ yX11_height.cls ≠ "java/lang/invoke/VarHandle" ∧ (parseMethodDescriptor yX11_height.desc).map (fun d => d.parameters.length) = some 2 := by decide +kernel
set_option maxHeartbeats 4000000 in
set_option maxRecDepth 100000 in
theorem c_X11_height (l : Launch) (g : GG) (hm : Nat → Nat) (mv : MV)  (a0 : Int32) (a1 : Int32) (out : Int32 × MV) (hf : f_X11_height mv a0 a1 = some out) : MtI l yX11_height wsX11_height rm_X11_height g (wM g hm mv) [.ref (hm 0), .int a0, .int a1] (out.1) (wM g hm (out.2)) 0 0 := by
  refine fun sz => mt_of (cc := cX11_height) (maxL := 3) (ret := (some .int)) (own := RX11) (Qc := fun A => va_Qi (fun r (_ : Unit) => r = (out.1)) (fun _ t => PosM g A (wM g hm (out.2)) t) A) (by decide +kernel) rfl rfl (Nat.le_of_ble_eq_true rfl) ?_ sz
  intro p e s mi below meth c A ls hB hnm hrt hlk hP hD hl
  obtain ⟨hx, hb, hml, hown, hts, hK, hZ, hT, hA, -⟩ := hB
  have hS : va_S A s.heap s.heap [] := va_S.rf
  have hl : lv_has ls 3 [(0, .ref (hm 0)), (1, .int a0), (2, .int a1)] := hl
  generalize hQ : MQ below _ _ _ _ _ _ = Q
  unfold f_X11_height at hf
  refine lv_aload_n hx hb dX11_height_0 rfl (lv_at hl 0 rfl) ?_
  refine lv_iload_n hx hb dX11_height_1 rfl (lv_at hl 1 rfl) ?_
  refine lv_iload_n hx hb dX11_height_2 rfl (lv_at hl 2 rfl) ?_
  refine lv_iconst (v := 0) hx hb dX11_height_3 (by decide) ?_
  obtain ⟨o1, g2, hf⟩ := jbB_e hf
  refine cva_i (As := [.int a0, .int a1, .int 0]) (rest := []) ⟨hx, hb, hml, hown, hts⟩ (c_X11_asks l g hm mv a0 a1 0 _ g2) (cwV 3 hts gX11_height_X11_asks rfl rfl rfl hd_X11_asks ⟨Nat.le_of_ble_eq_true rfl, Nat.le_of_ble_eq_true rfl⟩) hK hZ hT hA hP hD hS hl.1 (va_recv hK hP (ci := 10) (q0 := 0) rfl rfl) rfl rfl (Nat.le_of_ble_eq_true rfl) ⟨Nat.le_of_ble_eq_true rfl, Nat.le_of_ble_eq_true rfl⟩ dX11_height_4 (fun H locs hP hD hS => ?_)
  cases hf
  subst hQ
  exact rt_i hx hb hrt hlk rfl hK hP hD hS (Nat.le_of_ble_eq_true rfl) (Nat.le_of_ble_eq_true rfl) dX11_height_7
def f_X11_stone (mv : MV) (a0 : Int32) (a1 : Int32) : Option (Int32 × MV) :=
  (f_X11_asks mv a0 a1 1).bind fun o1 =>
  some ((o1.1), (o1.2))
def rm_X11_stone : Room := { frames := 4, cells := 0, slots := 0, locals := 87 }
theorem hd_X11_stone : yX11_stone.cls = RX11 ∧ yX11_stone.cls ≠ "java/lang/invoke/MethodHandle" ∧ yX11_stone.cls ≠ "java/lang/invoke/VarHandle" ∧ (parseMethodDescriptor yX11_stone.desc).map (fun d => d.parameters.length) = some 2 := by decide +kernel
set_option maxHeartbeats 4000000 in
set_option maxRecDepth 100000 in
theorem c_X11_stone (l : Launch) (g : GG) (hm : Nat → Nat) (mv : MV)  (a0 : Int32) (a1 : Int32) (out : Int32 × MV) (hf : f_X11_stone mv a0 a1 = some out) : MtI l yX11_stone wsX11_stone rm_X11_stone g (wM g hm mv) [.ref (hm 0), .int a0, .int a1] (out.1) (wM g hm (out.2)) 0 0 := by
  refine fun sz => mt_of (cc := cX11_stone) (maxL := 3) (ret := (some .int)) (own := RX11) (Qc := fun A => va_Qi (fun r (_ : Unit) => r = (out.1)) (fun _ t => PosM g A (wM g hm (out.2)) t) A) (by decide +kernel) rfl rfl (Nat.le_of_ble_eq_true rfl) ?_ sz
  intro p e s mi below meth c A ls hB hnm hrt hlk hP hD hl
  obtain ⟨hx, hb, hml, hown, hts, hK, hZ, hT, hA, -⟩ := hB
  have hS : va_S A s.heap s.heap [] := va_S.rf
  have hl : lv_has ls 3 [(0, .ref (hm 0)), (1, .int a0), (2, .int a1)] := hl
  generalize hQ : MQ below _ _ _ _ _ _ = Q
  unfold f_X11_stone at hf
  refine lv_aload_n hx hb dX11_stone_0 rfl (lv_at hl 0 rfl) ?_
  refine lv_iload_n hx hb dX11_stone_1 rfl (lv_at hl 1 rfl) ?_
  refine lv_iload_n hx hb dX11_stone_2 rfl (lv_at hl 2 rfl) ?_
  refine lv_iconst (v := 1) hx hb dX11_stone_3 (by decide) ?_
  obtain ⟨o1, g2, hf⟩ := jbB_e hf
  refine cva_i (As := [.int a0, .int a1, .int 1]) (rest := []) ⟨hx, hb, hml, hown, hts⟩ (c_X11_asks l g hm mv a0 a1 1 _ g2) (cwV 3 hts gX11_stone_X11_asks rfl rfl rfl hd_X11_asks ⟨Nat.le_of_ble_eq_true rfl, Nat.le_of_ble_eq_true rfl⟩) hK hZ hT hA hP hD hS hl.1 (va_recv hK hP (ci := 10) (q0 := 0) rfl rfl) rfl rfl (Nat.le_of_ble_eq_true rfl) ⟨Nat.le_of_ble_eq_true rfl, Nat.le_of_ble_eq_true rfl⟩ dX11_stone_4 (fun H locs hP hD hS => ?_)
  cases hf
  subst hQ
  exact rt_i hx hb hrt hlk rfl hK hP hD hS (Nat.le_of_ble_eq_true rfl) (Nat.le_of_ble_eq_true rfl) dX11_stone_7
def f_X11_isLedge (mv : MV) (a0 : Int32) (a1 : Int32) : Option (Int32 × MV) :=
  (f_X11_asks mv a0 a1 2).bind fun o1 =>
  if (o1.1) = 1 then
  (some (1, (o1.2)))
  else
  (some (0, (o1.2)))
def rm_X11_isLedge : Room := { frames := 4, cells := 0, slots := 0, locals := 87 }
theorem hd_X11_isLedge : yX11_isLedge.cls = RX11 ∧ yX11_isLedge.cls ≠ "java/lang/invoke/MethodHandle" ∧ yX11_isLedge.cls ≠ "java/lang/invoke/VarHandle" ∧ (parseMethodDescriptor yX11_isLedge.desc).map (fun d => d.parameters.length) = some 2 := by decide +kernel
set_option maxHeartbeats 4000000 in
set_option maxRecDepth 100000 in
theorem c_X11_isLedge (l : Launch) (g : GG) (hm : Nat → Nat) (mv : MV)  (a0 : Int32) (a1 : Int32) (out : Int32 × MV) (hf : f_X11_isLedge mv a0 a1 = some out) : MtI l yX11_isLedge wsX11_isLedge rm_X11_isLedge g (wM g hm mv) [.ref (hm 0), .int a0, .int a1] (out.1) (wM g hm (out.2)) 0 0 := by
  refine fun sz => mt_of (cc := cX11_isLedge) (maxL := 3) (ret := (some .boolean)) (own := RX11) (Qc := fun A => va_Qi (fun r (_ : Unit) => r = (out.1)) (fun _ t => PosM g A (wM g hm (out.2)) t) A) (by decide +kernel) rfl rfl (Nat.le_of_ble_eq_true rfl) ?_ sz
  intro p e s mi below meth c A ls hB hnm hrt hlk hP hD hl
  obtain ⟨hx, hb, hml, hown, hts, hK, hZ, hT, hA, -⟩ := hB
  have hS : va_S A s.heap s.heap [] := va_S.rf
  have hl : lv_has ls 3 [(0, .ref (hm 0)), (1, .int a0), (2, .int a1)] := hl
  generalize hQ : MQ below _ _ _ _ _ _ = Q
  unfold f_X11_isLedge at hf
  refine lv_aload_n hx hb dX11_isLedge_0 rfl (lv_at hl 0 rfl) ?_
  refine lv_iload_n hx hb dX11_isLedge_1 rfl (lv_at hl 1 rfl) ?_
  refine lv_iload_n hx hb dX11_isLedge_2 rfl (lv_at hl 2 rfl) ?_
  refine lv_iconst (v := 2) hx hb dX11_isLedge_3 (by decide) ?_
  obtain ⟨o1, g2, hf⟩ := jbB_e hf
  refine cva_i (As := [.int a0, .int a1, .int 2]) (rest := []) ⟨hx, hb, hml, hown, hts⟩ (c_X11_asks l g hm mv a0 a1 2 _ g2) (cwV 3 hts gX11_isLedge_X11_asks rfl rfl rfl hd_X11_asks ⟨Nat.le_of_ble_eq_true rfl, Nat.le_of_ble_eq_true rfl⟩) hK hZ hT hA hP hD hS hl.1 (va_recv hK hP (ci := 10) (q0 := 0) rfl rfl) rfl rfl (Nat.le_of_ble_eq_true rfl) ⟨Nat.le_of_ble_eq_true rfl, Nat.le_of_ble_eq_true rfl⟩ dX11_isLedge_4 (fun H locs hP hD hS => ?_)
  refine lv_iconst (v := 1) hx hb dX11_isLedge_7 (by decide) ?_
  refine lv_icmp_ne (tgt := 15) hx hb dX11_isLedge_8 (by decide) (fun hc => ?_) (fun hc => ?_)
  · have hf := jbF hf hc
    refine lv_iconst (v := 0) hx hb dX11_isLedge_15 (by decide) ?_
    cases hf
    subst hQ
    exact rt_i hx hb hrt hlk nar_0 hK hP hD hS (Nat.le_of_ble_eq_true rfl) (Nat.le_of_ble_eq_true rfl) dX11_isLedge_16
  · have hf := jbT hf hc
    refine lv_iconst (v := 1) hx hb dX11_isLedge_11 (by decide) ?_
    refine lv_goto (tgt := 16) hx hb dX11_isLedge_12 (by decide) ?_
    cases hf
    subst hQ
    exact rt_i hx hb hrt hlk nar_1 hK hP hD hS (Nat.le_of_ble_eq_true rfl) (Nat.le_of_ble_eq_true rfl) dX11_isLedge_16
def f_X11_looseBlocks (mv : MV) (a0 : Int32) (a1 : Int32) : Option (Int32 × MV) :=
  (f_X11_asks mv a0 a1 3).bind fun o1 =>
  some ((o1.1), (o1.2))
def rm_X11_looseBlocks : Room := { frames := 4, cells := 0, slots := 0, locals := 87 }
theorem hd_X11_looseBlocks : yX11_looseBlocks.cls = RX11 ∧ yX11_looseBlocks.cls ≠ "java/lang/invoke/MethodHandle" ∧ yX11_looseBlocks.cls ≠ "java/lang/invoke/VarHandle" ∧ (parseMethodDescriptor yX11_looseBlocks.desc).map (fun d => d.parameters.length) = some 2 := by decide +kernel
set_option maxHeartbeats 4000000 in
set_option maxRecDepth 100000 in
theorem c_X11_looseBlocks (l : Launch) (g : GG) (hm : Nat → Nat) (mv : MV)  (a0 : Int32) (a1 : Int32) (out : Int32 × MV) (hf : f_X11_looseBlocks mv a0 a1 = some out) : MtI l yX11_looseBlocks wsX11_looseBlocks rm_X11_looseBlocks g (wM g hm mv) [.ref (hm 0), .int a0, .int a1] (out.1) (wM g hm (out.2)) 0 0 := by
  refine fun sz => mt_of (cc := cX11_looseBlocks) (maxL := 3) (ret := (some .int)) (own := RX11) (Qc := fun A => va_Qi (fun r (_ : Unit) => r = (out.1)) (fun _ t => PosM g A (wM g hm (out.2)) t) A) (by decide +kernel) rfl rfl (Nat.le_of_ble_eq_true rfl) ?_ sz
  intro p e s mi below meth c A ls hB hnm hrt hlk hP hD hl
  obtain ⟨hx, hb, hml, hown, hts, hK, hZ, hT, hA, -⟩ := hB
  have hS : va_S A s.heap s.heap [] := va_S.rf
  have hl : lv_has ls 3 [(0, .ref (hm 0)), (1, .int a0), (2, .int a1)] := hl
  generalize hQ : MQ below _ _ _ _ _ _ = Q
  unfold f_X11_looseBlocks at hf
  refine lv_aload_n hx hb dX11_looseBlocks_0 rfl (lv_at hl 0 rfl) ?_
  refine lv_iload_n hx hb dX11_looseBlocks_1 rfl (lv_at hl 1 rfl) ?_
  refine lv_iload_n hx hb dX11_looseBlocks_2 rfl (lv_at hl 2 rfl) ?_
  refine lv_iconst (v := 3) hx hb dX11_looseBlocks_3 (by decide) ?_
  obtain ⟨o1, g2, hf⟩ := jbB_e hf
  refine cva_i (As := [.int a0, .int a1, .int 3]) (rest := []) ⟨hx, hb, hml, hown, hts⟩ (c_X11_asks l g hm mv a0 a1 3 _ g2) (cwV 3 hts gX11_looseBlocks_X11_asks rfl rfl rfl hd_X11_asks ⟨Nat.le_of_ble_eq_true rfl, Nat.le_of_ble_eq_true rfl⟩) hK hZ hT hA hP hD hS hl.1 (va_recv hK hP (ci := 10) (q0 := 0) rfl rfl) rfl rfl (Nat.le_of_ble_eq_true rfl) ⟨Nat.le_of_ble_eq_true rfl, Nat.le_of_ble_eq_true rfl⟩ dX11_looseBlocks_4 (fun H locs hP hD hS => ?_)
  cases hf
  subst hQ
  exact rt_i hx hb hrt hlk rfl hK hP hD hS (Nat.le_of_ble_eq_true rfl) (Nat.le_of_ble_eq_true rfl) dX11_looseBlocks_7
def f_X11_topBlock_J26 (mv : MV) (x3 : Int32) (y0 : Int32) (y1 : Int32) : Option (Int32 × MV) :=
  (f_X11_holds mv y1 y0 1 1).bind fun o7 =>
  if (o7.1) = 0 then
  (some (0, (o7.2)))
  else
  (some (x3, (o7.2)))
def f_X11_topBlock (mv : MV) (a0 : Int32) (a1 : Int32) : Option (Int32 × MV) :=
  (f_X11_cellAt a0 a1).bind fun o1 =>
  (f_X11_topOf mv o1).bind fun o3 =>
  (f_X11_isCell a0 a1).bind fun o5 =>
  if o3 = (-1) then
  (f_X11_topBlock_J26 mv o3 0 o5)
  else
  (f_X11_topBlock_J26 mv o3 1 o5)
def rm_X11_topBlock : Room := { frames := 3, cells := 0, slots := 0, locals := 64 }
theorem hd_X11_topBlock : yX11_topBlock.cls = RX11 ∧ yX11_topBlock.cls ≠ "java/lang/invoke/MethodHandle" ∧ yX11_topBlock.cls ≠ "java/lang/invoke/VarHandle" ∧ (parseMethodDescriptor yX11_topBlock.desc).map (fun d => d.parameters.length) = some 2 := by decide +kernel
set_option maxHeartbeats 4000000 in
set_option maxRecDepth 100000 in
theorem c_X11_topBlock (l : Launch) (g : GG) (hm : Nat → Nat) (mv : MV)  (a0 : Int32) (a1 : Int32) (out : Int32 × MV) (hf : f_X11_topBlock mv a0 a1 = some out) : MtI l yX11_topBlock wsX11_topBlock rm_X11_topBlock g (wM g hm mv) [.ref (hm 0), .int a0, .int a1] (out.1) (wM g hm (out.2)) 0 0 := by
  refine fun sz => mt_of (cc := cX11_topBlock) (maxL := 4) (ret := (some .int)) (own := RX11) (Qc := fun A => va_Qi (fun r (_ : Unit) => r = (out.1)) (fun _ t => PosM g A (wM g hm (out.2)) t) A) (by decide +kernel) rfl rfl (Nat.le_of_ble_eq_true rfl) ?_ sz
  intro p e s mi below meth c A ls hB hnm hrt hlk hP hD hl
  obtain ⟨hx, hb, hml, hown, hts, hK, hZ, hT, hA, -⟩ := hB
  have hS : va_S A s.heap s.heap [] := va_S.rf
  have hl : lv_has ls 4 [(0, .ref (hm 0)), (1, .int a0), (2, .int a1)] := hl
  generalize hQ : MQ below _ _ _ _ _ _ = Q
  unfold f_X11_topBlock at hf
  have hJ26 : ∀ (mv : MV) (x3 : Int32) (y0 : Int32) (y1 : Int32) (H : Heap) (locs : List Loc) (ls : Array Slot), f_X11_topBlock_J26 mv x3 y0 y1 = some out → va_P (gD g) vwCl (wM g hm mv) H → va_D A (wM g hm mv) → va_S A s.heap H locs → lv_has ls 4 [(3, .int x3)] → W p l e rm_X11_topBlock s mi [.ref (hm 0), .int a0, .int a1].toArray below meth c H locs 0 0 Q (F0 mi 26 ls [.int y0, .int y1, .ref (hm 0)]) := by
    intro mv x3 y0 y1 H locs ls hf hP hD hS hl
    unfold f_X11_topBlock_J26 at hf
    refine lv_iconst (v := 1) hx hb dX11_topBlock_26 (by decide) ?_
    refine lv_iconst (v := 1) hx hb dX11_topBlock_27 (by decide) ?_
    obtain ⟨o7, g8, hf⟩ := jbB_e hf
    refine cva_i (As := [.int y1, .int y0, .int 1, .int 1]) (rest := []) ⟨hx, hb, hml, hown, hts⟩ (c_X11_holds l g hm mv y1 y0 1 1 _ g8) (cwV 4 hts gX11_topBlock_X11_holds rfl rfl rfl hd_X11_holds ⟨Nat.le_of_ble_eq_true rfl, Nat.le_of_ble_eq_true rfl⟩) hK hZ hT hA hP hD hS hl.1 (va_recv hK hP (ci := 10) (q0 := 0) rfl rfl) rfl rfl (Nat.le_of_ble_eq_true rfl) ⟨Nat.le_of_ble_eq_true rfl, Nat.le_of_ble_eq_true rfl⟩ dX11_topBlock_28 (fun H locs hP hD hS => ?_)
    refine lv_if_eq (tgt := 38) hx hb dX11_topBlock_31 (by decide) (fun hc => ?_) (fun hc => ?_)
    · have hf := jbT hf hc
      refine lv_iconst (v := 0) hx hb dX11_topBlock_38 (by decide) ?_
      cases hf
      subst hQ
      exact rt_i hx hb hrt hlk rfl hK hP hD hS (Nat.le_of_ble_eq_true rfl) (Nat.le_of_ble_eq_true rfl) dX11_topBlock_39
    · have hf := jbF hf hc
      refine lv_iload_n hx hb dX11_topBlock_34 rfl (lv_at hl 0 rfl) ?_
      refine lv_goto (tgt := 39) hx hb dX11_topBlock_35 (by decide) ?_
      cases hf
      subst hQ
      exact rt_i hx hb hrt hlk rfl hK hP hD hS (Nat.le_of_ble_eq_true rfl) (Nat.le_of_ble_eq_true rfl) dX11_topBlock_39
  refine lv_aload_n hx hb dX11_topBlock_0 rfl (lv_at hl 0 rfl) ?_
  refine lv_iload_n hx hb dX11_topBlock_1 rfl (lv_at hl 1 rfl) ?_
  refine lv_iload_n hx hb dX11_topBlock_2 rfl (lv_at hl 2 rfl) ?_
  obtain ⟨o1, g2, hf⟩ := jbB_e hf
  refine csn_i (As := [.int a0, .int a1]) (rest := [.ref (hm 0)]) ⟨hx, hb, hml, hown, hts⟩ (c_X11_cellAt l g a0 a1 _ g2) (va_cwS 2 hts gX11_topBlock_X11_cellAt rfl rfl rfl hd_X11_cellAt ⟨Nat.le_of_ble_eq_true rfl, Nat.le_of_ble_eq_true rfl⟩) hK hZ hT hA hP hD hS hl.1 rfl rfl (Nat.le_of_ble_eq_true rfl) ⟨Nat.le_of_ble_eq_true rfl, Nat.le_of_ble_eq_true rfl⟩ dX11_topBlock_3 (fun H locs hP hD hS => ?_)
  obtain ⟨o3, g4, hf⟩ := jbB_e hf
  refine cva_i (As := [.int o1]) (rest := []) ⟨hx, hb, hml, hown, hts⟩ (c_X11_topOf l g hm mv o1 _ g4) (cwV 1 hts gX11_topBlock_X11_topOf rfl rfl rfl hd_X11_topOf ⟨Nat.le_of_ble_eq_true rfl, Nat.le_of_ble_eq_true rfl⟩) hK hZ hT hA hP hD hS hl.1 (va_recv hK hP (ci := 10) (q0 := 0) rfl rfl) rfl rfl (Nat.le_of_ble_eq_true rfl) ⟨Nat.le_of_ble_eq_true rfl, Nat.le_of_ble_eq_true rfl⟩ dX11_topBlock_6 (fun H locs hP hD hS => ?_)
  refine lv_istore_n (lv' := [(3, .int o3), (0, .ref (hm 0)), (1, .int a0), (2, .int a1)]) hx hb dX11_topBlock_9 rfl hl (by decide) rfl (fun ls hl => ?_)
  refine lv_aload_n hx hb dX11_topBlock_10 rfl (lv_at hl 1 rfl) ?_
  refine lv_iload_n hx hb dX11_topBlock_11 rfl (lv_at hl 2 rfl) ?_
  refine lv_iload_n hx hb dX11_topBlock_12 rfl (lv_at hl 3 rfl) ?_
  obtain ⟨o5, g6, hf⟩ := jbB_e hf
  refine csn_i (As := [.int a0, .int a1]) (rest := [.ref (hm 0)]) ⟨hx, hb, hml, hown, hts⟩ (c_X11_isCell l g a0 a1 _ g6) (va_cwS 2 hts gX11_topBlock_X11_isCell rfl rfl rfl hd_X11_isCell ⟨Nat.le_of_ble_eq_true rfl, Nat.le_of_ble_eq_true rfl⟩) hK hZ hT hA hP hD hS hl.1 rfl rfl (Nat.le_of_ble_eq_true rfl) ⟨Nat.le_of_ble_eq_true rfl, Nat.le_of_ble_eq_true rfl⟩ dX11_topBlock_13 (fun H locs hP hD hS => ?_)
  refine lv_iload_n hx hb dX11_topBlock_16 rfl (lv_at hl 0 rfl) ?_
  refine lv_iconst (v := (-1)) hx hb dX11_topBlock_17 (by decide) ?_
  refine lv_icmp_eq (tgt := 25) hx hb dX11_topBlock_18 (by decide) (fun hc => ?_) (fun hc => ?_)
  · have hf := jbT hf hc
    refine lv_iconst (v := 0) hx hb dX11_topBlock_25 (by decide) ?_
    exact hJ26 mv o3 0 o5 _ _ _ hf hP hD hS (lv_sub hl [0] rfl)
  · have hf := jbF hf hc
    refine lv_iconst (v := 1) hx hb dX11_topBlock_21 (by decide) ?_
    refine lv_goto (tgt := 26) hx hb dX11_topBlock_22 (by decide) ?_
    exact hJ26 mv o3 1 o5 _ _ _ hf hP hD hS (lv_sub hl [0] rfl)
def f_X11_steepestStep (mv : MV) (a0 : Int32) (a1 : Int32) : Option (Int32 × MV) :=
  (f_X11_cellAt a0 a1).bind fun o1 =>
  (f_X11_isCell a0 a1).bind fun o3 =>
  (f_X11_goes mv o3).bind fun o5 =>
  if (o5.1) = 0 then
  (some (0, (o5.2)))
  else
  ((f_X11_of (o5.2) o1 0).bind fun o7 =>
  (f_X11_steepest (o5.2) o1 o7).bind fun o9 =>
  some (o9, (o5.2)))
def rm_X11_steepestStep : Room := { frames := 4, cells := 0, slots := 0, locals := 91 }
theorem hd_X11_steepestStep : yX11_steepestStep.cls = RX11 ∧ yX11_steepestStep.cls ≠ "java/lang/invoke/MethodHandle" ∧ yX11_steepestStep.cls ≠ "java/lang/invoke/VarHandle" ∧ (parseMethodDescriptor yX11_steepestStep.desc).map (fun d => d.parameters.length) = some 2 := by decide +kernel
set_option maxHeartbeats 4000000 in
set_option maxRecDepth 100000 in
theorem c_X11_steepestStep (l : Launch) (g : GG) (hm : Nat → Nat) (mv : MV)  (a0 : Int32) (a1 : Int32) (out : Int32 × MV) (hf : f_X11_steepestStep mv a0 a1 = some out) : MtI l yX11_steepestStep wsX11_steepestStep rm_X11_steepestStep g (wM g hm mv) [.ref (hm 0), .int a0, .int a1] (out.1) (wM g hm (out.2)) 0 0 := by
  refine fun sz => mt_of (cc := cX11_steepestStep) (maxL := 4) (ret := (some .int)) (own := RX11) (Qc := fun A => va_Qi (fun r (_ : Unit) => r = (out.1)) (fun _ t => PosM g A (wM g hm (out.2)) t) A) (by decide +kernel) rfl rfl (Nat.le_of_ble_eq_true rfl) ?_ sz
  intro p e s mi below meth c A ls hB hnm hrt hlk hP hD hl
  obtain ⟨hx, hb, hml, hown, hts, hK, hZ, hT, hA, -⟩ := hB
  have hS : va_S A s.heap s.heap [] := va_S.rf
  have hl : lv_has ls 4 [(0, .ref (hm 0)), (1, .int a0), (2, .int a1)] := hl
  generalize hQ : MQ below _ _ _ _ _ _ = Q
  unfold f_X11_steepestStep at hf
  refine lv_iload_n hx hb dX11_steepestStep_0 rfl (lv_at hl 1 rfl) ?_
  refine lv_iload_n hx hb dX11_steepestStep_1 rfl (lv_at hl 2 rfl) ?_
  obtain ⟨o1, g2, hf⟩ := jbB_e hf
  refine csn_i (As := [.int a0, .int a1]) (rest := []) ⟨hx, hb, hml, hown, hts⟩ (c_X11_cellAt l g a0 a1 _ g2) (va_cwS 2 hts gX11_steepestStep_X11_cellAt rfl rfl rfl hd_X11_cellAt ⟨Nat.le_of_ble_eq_true rfl, Nat.le_of_ble_eq_true rfl⟩) hK hZ hT hA hP hD hS hl.1 rfl rfl (Nat.le_of_ble_eq_true rfl) ⟨Nat.le_of_ble_eq_true rfl, Nat.le_of_ble_eq_true rfl⟩ dX11_steepestStep_2 (fun H locs hP hD hS => ?_)
  refine lv_istore_n (lv' := [(3, .int o1), (0, .ref (hm 0)), (1, .int a0), (2, .int a1)]) hx hb dX11_steepestStep_5 rfl hl (by decide) rfl (fun ls hl => ?_)
  refine lv_aload_n hx hb dX11_steepestStep_6 rfl (lv_at hl 1 rfl) ?_
  refine lv_iload_n hx hb dX11_steepestStep_7 rfl (lv_at hl 2 rfl) ?_
  refine lv_iload_n hx hb dX11_steepestStep_8 rfl (lv_at hl 3 rfl) ?_
  obtain ⟨o3, g4, hf⟩ := jbB_e hf
  refine csn_i (As := [.int a0, .int a1]) (rest := [.ref (hm 0)]) ⟨hx, hb, hml, hown, hts⟩ (c_X11_isCell l g a0 a1 _ g4) (va_cwS 2 hts gX11_steepestStep_X11_isCell rfl rfl rfl hd_X11_isCell ⟨Nat.le_of_ble_eq_true rfl, Nat.le_of_ble_eq_true rfl⟩) hK hZ hT hA hP hD hS hl.1 rfl rfl (Nat.le_of_ble_eq_true rfl) ⟨Nat.le_of_ble_eq_true rfl, Nat.le_of_ble_eq_true rfl⟩ dX11_steepestStep_9 (fun H locs hP hD hS => ?_)
  obtain ⟨o5, g6, hf⟩ := jbB_e hf
  refine cva_i (As := [.int o3]) (rest := []) ⟨hx, hb, hml, hown, hts⟩ (c_X11_goes l g hm mv o3 _ g6) (cwV 1 hts gX11_steepestStep_X11_goes rfl rfl rfl hd_X11_goes ⟨Nat.le_of_ble_eq_true rfl, Nat.le_of_ble_eq_true rfl⟩) hK hZ hT hA hP hD hS hl.1 (va_recv hK hP (ci := 10) (q0 := 0) rfl rfl) rfl rfl (Nat.le_of_ble_eq_true rfl) ⟨Nat.le_of_ble_eq_true rfl, Nat.le_of_ble_eq_true rfl⟩ dX11_steepestStep_12 (fun H locs hP hD hS => ?_)
  refine lv_if_eq (tgt := 32) hx hb dX11_steepestStep_15 (by decide) (fun hc => ?_) (fun hc => ?_)
  · have hf := jbT hf hc
    refine lv_iconst (v := 0) hx hb dX11_steepestStep_32 (by decide) ?_
    cases hf
    subst hQ
    exact rt_i hx hb hrt hlk rfl hK hP hD hS (Nat.le_of_ble_eq_true rfl) (Nat.le_of_ble_eq_true rfl) dX11_steepestStep_33
  · have hf := jbF hf hc
    refine lv_aload_n hx hb dX11_steepestStep_18 rfl (lv_at hl 1 rfl) ?_
    refine lv_iload_n hx hb dX11_steepestStep_19 rfl (lv_at hl 0 rfl) ?_
    refine lv_aload_n hx hb dX11_steepestStep_20 rfl (lv_at hl 1 rfl) ?_
    refine lv_iload_n hx hb dX11_steepestStep_21 rfl (lv_at hl 0 rfl) ?_
    refine lv_iconst (v := 0) hx hb dX11_steepestStep_22 (by decide) ?_
    obtain ⟨o7, g8, hf⟩ := jbB_e hf
    refine cva_i (As := [.int o1, .int 0]) (rest := [.int o1, .ref (hm 0)]) ⟨hx, hb, hml, hown, hts⟩ (c_X11_of l g hm (o5.2) o1 0 _ g8) (cwV 2 hts gX11_steepestStep_X11_of rfl rfl rfl hd_X11_of ⟨Nat.le_of_ble_eq_true rfl, Nat.le_of_ble_eq_true rfl⟩) hK hZ hT hA hP hD hS hl.1 (va_recv hK hP (ci := 10) (q0 := 0) rfl rfl) rfl rfl (Nat.le_of_ble_eq_true rfl) ⟨Nat.le_of_ble_eq_true rfl, Nat.le_of_ble_eq_true rfl⟩ dX11_steepestStep_23 (fun H locs hP hD hS => ?_)
    obtain ⟨o9, g10, hf⟩ := jbB_e hf
    refine cva_i (As := [.int o1, .int o7]) (rest := []) ⟨hx, hb, hml, hown, hts⟩ (c_X11_steepest l g hm (o5.2) o1 o7 _ g10) (cwV 2 hts gX11_steepestStep_X11_steepest rfl rfl rfl hd_X11_steepest ⟨Nat.le_of_ble_eq_true rfl, Nat.le_of_ble_eq_true rfl⟩) hK hZ hT hA hP hD hS hl.1 (va_recv hK hP (ci := 10) (q0 := 0) rfl rfl) rfl rfl (Nat.le_of_ble_eq_true rfl) ⟨Nat.le_of_ble_eq_true rfl, Nat.le_of_ble_eq_true rfl⟩ dX11_steepestStep_26 (fun H locs hP hD hS => ?_)
    refine lv_goto (tgt := 33) hx hb dX11_steepestStep_29 (by decide) ?_
    cases hf
    subst hQ
    exact rt_i hx hb hrt hlk rfl hK hP hD hS (Nat.le_of_ble_eq_true rfl) (Nat.le_of_ble_eq_true rfl) dX11_steepestStep_33
def f_X11_canCut (mv : MV) (a0 : Int32) (a1 : Int32) : Option (Int32 × MV) :=
  (f_X11_mayCut mv a0 a1).bind fun o1 =>
  jbN (o1.1) fun z3 =>
  (f_X11_isCell a0 a1).bind fun o4 =>
  (f_X11_goes (o1.2) o4).bind fun o6 =>
  if (o6.1) = 0 then
  (some (0, (o6.2)))
  else
  (if z3 = 0 then
  (some (0, (o6.2)))
  else
  (some (1, (o6.2))))
def rm_X11_canCut : Room := { frames := 5, cells := 0, slots := 0, locals := 115 }
theorem hd_X11_canCut : yX11_canCut.cls = RX11 ∧ yX11_canCut.cls ≠ "java/lang/invoke/MethodHandle" ∧ yX11_canCut.cls ≠ "java/lang/invoke/VarHandle" ∧ (parseMethodDescriptor yX11_canCut.desc).map (fun d => d.parameters.length) = some 2 := by decide +kernel
set_option maxHeartbeats 4000000 in
set_option maxRecDepth 100000 in
theorem c_X11_canCut (l : Launch) (g : GG) (hm : Nat → Nat) (mv : MV)  (a0 : Int32) (a1 : Int32) (out : Int32 × MV) (hf : f_X11_canCut mv a0 a1 = some out) : MtI l yX11_canCut wsX11_canCut rm_X11_canCut g (wM g hm mv) [.ref (hm 0), .int a0, .int a1] (out.1) (wM g hm (out.2)) 0 0 := by
  refine fun sz => mt_of (cc := cX11_canCut) (maxL := 4) (ret := (some .boolean)) (own := RX11) (Qc := fun A => va_Qi (fun r (_ : Unit) => r = (out.1)) (fun _ t => PosM g A (wM g hm (out.2)) t) A) (by decide +kernel) rfl rfl (Nat.le_of_ble_eq_true rfl) ?_ sz
  intro p e s mi below meth c A ls hB hnm hrt hlk hP hD hl
  obtain ⟨hx, hb, hml, hown, hts, hK, hZ, hT, hA, -⟩ := hB
  have hS : va_S A s.heap s.heap [] := va_S.rf
  have hl : lv_has ls 4 [(0, .ref (hm 0)), (1, .int a0), (2, .int a1)] := hl
  generalize hQ : MQ below _ _ _ _ _ _ = Q
  unfold f_X11_canCut at hf
  refine lv_aload_n hx hb dX11_canCut_0 rfl (lv_at hl 0 rfl) ?_
  refine lv_iload_n hx hb dX11_canCut_1 rfl (lv_at hl 1 rfl) ?_
  refine lv_iload_n hx hb dX11_canCut_2 rfl (lv_at hl 2 rfl) ?_
  obtain ⟨o1, g2, hf⟩ := jbB_e hf
  refine cva_i (As := [.int a0, .int a1]) (rest := []) ⟨hx, hb, hml, hown, hts⟩ (c_X11_mayCut l g hm mv a0 a1 _ g2) (cwV 2 hts gX11_canCut_X11_mayCut rfl rfl rfl hd_X11_mayCut ⟨Nat.le_of_ble_eq_true rfl, Nat.le_of_ble_eq_true rfl⟩) hK hZ hT hA hP hD hS hl.1 (va_recv hK hP (ci := 10) (q0 := 0) rfl rfl) rfl rfl (Nat.le_of_ble_eq_true rfl) ⟨Nat.le_of_ble_eq_true rfl, Nat.le_of_ble_eq_true rfl⟩ dX11_canCut_3 (fun H locs hP hD hS => ?_)
  refine lv_topi (fun z3 ez3 => ?_)
  have hf := jbN_e hf ez3
  refine lv_istore_n (lv' := [(3, .int z3), (0, .ref (hm 0)), (1, .int a0), (2, .int a1)]) hx hb dX11_canCut_6 rfl hl (by decide) rfl (fun ls hl => ?_)
  refine lv_aload_n hx hb dX11_canCut_7 rfl (lv_at hl 1 rfl) ?_
  refine lv_iload_n hx hb dX11_canCut_8 rfl (lv_at hl 2 rfl) ?_
  refine lv_iload_n hx hb dX11_canCut_9 rfl (lv_at hl 3 rfl) ?_
  obtain ⟨o4, g5, hf⟩ := jbB_e hf
  refine csn_i (As := [.int a0, .int a1]) (rest := [.ref (hm 0)]) ⟨hx, hb, hml, hown, hts⟩ (c_X11_isCell l g a0 a1 _ g5) (va_cwS 2 hts gX11_canCut_X11_isCell rfl rfl rfl hd_X11_isCell ⟨Nat.le_of_ble_eq_true rfl, Nat.le_of_ble_eq_true rfl⟩) hK hZ hT hA hP hD hS hl.1 rfl rfl (Nat.le_of_ble_eq_true rfl) ⟨Nat.le_of_ble_eq_true rfl, Nat.le_of_ble_eq_true rfl⟩ dX11_canCut_10 (fun H locs hP hD hS => ?_)
  obtain ⟨o6, g7, hf⟩ := jbB_e hf
  refine cva_i (As := [.int o4]) (rest := []) ⟨hx, hb, hml, hown, hts⟩ (c_X11_goes l g hm (o1.2) o4 _ g7) (cwV 1 hts gX11_canCut_X11_goes rfl rfl rfl hd_X11_goes ⟨Nat.le_of_ble_eq_true rfl, Nat.le_of_ble_eq_true rfl⟩) hK hZ hT hA hP hD hS hl.1 (va_recv hK hP (ci := 10) (q0 := 0) rfl rfl) rfl rfl (Nat.le_of_ble_eq_true rfl) ⟨Nat.le_of_ble_eq_true rfl, Nat.le_of_ble_eq_true rfl⟩ dX11_canCut_13 (fun H locs hP hD hS => ?_)
  refine lv_if_eq (tgt := 27) hx hb dX11_canCut_16 (by decide) (fun hc => ?_) (fun hc => ?_)
  · have hf := jbT hf hc
    refine lv_iconst (v := 0) hx hb dX11_canCut_27 (by decide) ?_
    cases hf
    subst hQ
    exact rt_i hx hb hrt hlk nar_0 hK hP hD hS (Nat.le_of_ble_eq_true rfl) (Nat.le_of_ble_eq_true rfl) dX11_canCut_28
  · have hf := jbF hf hc
    refine lv_iload_n hx hb dX11_canCut_19 rfl (lv_at hl 0 rfl) ?_
    refine lv_if_eq (tgt := 27) hx hb dX11_canCut_20 (by decide) (fun hc => ?_) (fun hc => ?_)
    · have hf := jbT hf hc
      refine lv_iconst (v := 0) hx hb dX11_canCut_27 (by decide) ?_
      cases hf
      subst hQ
      exact rt_i hx hb hrt hlk nar_0 hK hP hD hS (Nat.le_of_ble_eq_true rfl) (Nat.le_of_ble_eq_true rfl) dX11_canCut_28
    · have hf := jbF hf hc
      refine lv_iconst (v := 1) hx hb dX11_canCut_23 (by decide) ?_
      refine lv_goto (tgt := 28) hx hb dX11_canCut_24 (by decide) ?_
      cases hf
      subst hQ
      exact rt_i hx hb hrt hlk nar_1 hK hP hD hS (Nat.le_of_ble_eq_true rfl) (Nat.le_of_ble_eq_true rfl) dX11_canCut_28
def f_X11_cuttableCells_J31 (mv : MV) (x2 : Int32) (y0 : Int32) (y1 : Int32) : Option (Sum (Int32 × Int32 × MV) (Int32 × Int32 × MV)) :=
  jbN (y1 + y0) fun z4 =>
  some (.inl (z4, (x2 + 1), mv))
def f_X11_cuttableCells_L4 (x1 : Int32) (x2 : Int32) (mv : MV) : Option (Sum (Int32 × Int32 × MV) (Int32 × Int32 × MV)) :=
  if 30 ≤ x2 then
  (some (.inr (x1, x2, mv)))
  else
  ((f_X11_mayCut mv (x2 / 6) (x2 - x2 / 6 * 6)).bind fun o2 =>
  if (o2.1) = 0 then
  (f_X11_cuttableCells_J31 (o2.2) x2 0 x1)
  else
  (f_X11_cuttableCells_J31 (o2.2) x2 1 x1))
def f_X11_cuttableCells (mv : MV) : Option (Int32 × MV) :=
  (jbL (fun s => f_X11_cuttableCells_L4 (s.1) (s.2.1) (s.2.2)) 5000 (0, 0, mv)).bind fun o4 =>
  jbN (mSThrown 0 (o4.2.2)) fun w1 =>
  some ((o4.1), w1)
def rm_X11_cuttableCells : Room := { frames := 5, cells := 0, slots := 0, locals := 115 }
theorem hd_X11_cuttableCells : yX11_cuttableCells.cls = RX11 ∧ yX11_cuttableCells.cls ≠ "java/lang/invoke/MethodHandle" ∧ yX11_cuttableCells.cls ≠ "java/lang/invoke/VarHandle" ∧ (parseMethodDescriptor yX11_cuttableCells.desc).map (fun d => d.parameters.length) = some 0 := by decide +kernel
set_option maxHeartbeats 4000000 in
set_option maxRecDepth 100000 in
theorem c_X11_cuttableCells (l : Launch) (g : GG) (hm : Nat → Nat) (mv : MV)   (out : Int32 × MV) (hf : f_X11_cuttableCells mv = some out) : MtI l yX11_cuttableCells wsX11_cuttableCells rm_X11_cuttableCells g (wM g hm mv) [.ref (hm 0)] (out.1) (wM g hm (out.2)) 0 0 := by
  refine fun sz => mt_of (cc := cX11_cuttableCells) (maxL := 3) (ret := (some .int)) (own := RX11) (Qc := fun A => va_Qi (fun r (_ : Unit) => r = (out.1)) (fun _ t => PosM g A (wM g hm (out.2)) t) A) (by decide +kernel) rfl rfl (Nat.le_of_ble_eq_true rfl) ?_ sz
  intro p e s mi below meth c A ls hB hnm hrt hlk hP hD hl
  obtain ⟨hx, hb, hml, hown, hts, hK, hZ, hT, hA, -⟩ := hB
  have hS : va_S A s.heap s.heap [] := va_S.rf
  have hl : lv_has ls 3 [(0, .ref (hm 0))] := hl
  have hinX11 : ∀ w ∈ wsX110, w ∈ wsX11_cuttableCells := by decide +kernel
  have k0 := hts (.fieldLink RX11 45 "TerraceQuarryModel" "thrown" "I") (by decide +kernel)
  generalize hQ : MQ below _ _ _ _ _ _ = Q
  unfold f_X11_cuttableCells at hf
  have hL4 : ∀ (n : Nat) (x1 : Int32) (x2 : Int32) (mv : MV) (H : Heap) (locs : List Loc) (ls : Array Slot) (o4 : Int32 × Int32 × MV), jbL (fun s => f_X11_cuttableCells_L4 (s.1) (s.2.1) (s.2.2)) n (x1, x2, mv) = some o4 → va_P (gD g) vwCl (wM g hm mv) H → va_D A (wM g hm mv) → va_S A s.heap H locs → lv_has ls 3 [(0, .ref (hm 0)), (1, .int x1), (2, .int x2)] → (∀ (H : Heap) (locs : List Loc) (ls : Array Slot), va_P (gD g) vwCl (wM g hm (o4.2.2)) H → va_D A (wM g hm (o4.2.2)) → va_S A s.heap H locs → lv_has ls 3 [(0, .ref (hm 0)), (1, .int (o4.1))] → W p l e rm_X11_cuttableCells s mi [.ref (hm 0)].toArray below meth c H locs 0 0 Q (F0 mi 39 ls [])) → W p l e rm_X11_cuttableCells s mi [.ref (hm 0)].toArray below meth c H locs 0 0 Q (F0 mi 4 ls []) := by
    intro n
    induction n with
    | zero => intro x1 x2 mv H locs ls o4 hf; exact absurd hf (jbL_0 _ _ _)
    | succ n ih =>
      intro x1 x2 mv H locs ls o4 hf hP hD hS hl hk
      obtain ⟨r, hf, hr⟩ := jbL_e hf
      have hf : f_X11_cuttableCells_L4 x1 x2 mv = some r := hf
      unfold f_X11_cuttableCells_L4 at hf
      have hJ31 : ∀ (mv : MV) (x2 : Int32) (y0 : Int32) (y1 : Int32) (H : Heap) (locs : List Loc) (ls : Array Slot) (r : Sum (Int32 × Int32 × MV) (Int32 × Int32 × MV)), f_X11_cuttableCells_J31 mv x2 y0 y1 = some r → jbR (fun s => f_X11_cuttableCells_L4 (s.1) (s.2.1) (s.2.2)) n o4 r → va_P (gD g) vwCl (wM g hm mv) H → va_D A (wM g hm mv) → va_S A s.heap H locs → lv_has ls 3 [(0, .ref (hm 0)), (2, .int x2)] → W p l e rm_X11_cuttableCells s mi [.ref (hm 0)].toArray below meth c H locs 0 0 Q (F0 mi 31 ls [.int y0, .int y1]) := by
        intro mv x2 y0 y1 H locs ls r hf hr hP hD hS hl
        unfold f_X11_cuttableCells_J31 at hf
        refine lv_iadd hx hb dX11_cuttableCells_31 ?_
        refine lv_topi (fun z4 ez4 => ?_)
        have hf := jbN_e hf ez4
        refine lv_istore_n (lv' := [(1, .int z4), (0, .ref (hm 0)), (2, .int x2)]) hx hb dX11_cuttableCells_32 rfl hl (by decide) rfl (fun ls hl => ?_)
        refine lv_iinc (v := (x2 + 1)) (lv' := [(2, .int (x2 + 1)), (1, .int z4), (0, .ref (hm 0))]) hx hb dX11_cuttableCells_33 hl (k := 2) rfl rfl (by decide) rfl (fun ls hl => ?_)
        refine lv_goto (tgt := 4) hx hb dX11_cuttableCells_36 (by decide) ?_
        cases hf
        exact ih z4 (x2 + 1) mv _ _ _ _ hr hP hD hS (lv_sub hl [2, 1, 0] rfl) hk
      refine lv_iload_n hx hb dX11_cuttableCells_4 rfl (lv_at hl 2 rfl) ?_
      refine lv_bipush (v := 30) hx hb dX11_cuttableCells_5 (by decide) ?_
      refine lv_icmp_ge (tgt := 39) hx hb dX11_cuttableCells_7 (by decide) (fun hc => ?_) (fun hc => ?_)
      · have hf := jbT hf hc
        cases hf
        obtain rfl := jbR_r hr
        exact hk _ _ _ hP hD hS (lv_sub hl [0, 1] rfl)
      · have hf := jbF hf hc
        refine lv_iload_n hx hb dX11_cuttableCells_10 rfl (lv_at hl 1 rfl) ?_
        refine lv_aload_n hx hb dX11_cuttableCells_11 rfl (lv_at hl 0 rfl) ?_
        refine lv_iload_n hx hb dX11_cuttableCells_12 rfl (lv_at hl 2 rfl) ?_
        refine lv_bipush (v := 6) hx hb dX11_cuttableCells_13 (by decide) ?_
        refine lv_idiv hx hb dX11_cuttableCells_15 (by decide) ?_
        refine lv_iload_n hx hb dX11_cuttableCells_16 rfl (lv_at hl 2 rfl) ?_
        refine lv_bipush (v := 6) hx hb dX11_cuttableCells_17 (by decide) ?_
        refine lv_irem hx hb dX11_cuttableCells_19 (by decide) ?_
        obtain ⟨o2, g3, hf⟩ := jbB_e hf
        refine cva_i (As := [.int (x2 / 6), .int (x2 - x2 / 6 * 6)]) (rest := [.int x1]) ⟨hx, hb, hml, hown, hts⟩ (c_X11_mayCut l g hm mv (x2 / 6) (x2 - x2 / 6 * 6) _ g3) (cwV 2 hts gX11_cuttableCells_X11_mayCut rfl rfl rfl hd_X11_mayCut ⟨Nat.le_of_ble_eq_true rfl, Nat.le_of_ble_eq_true rfl⟩) hK hZ hT hA hP hD hS hl.1 (va_recv hK hP (ci := 10) (q0 := 0) rfl rfl) rfl rfl (Nat.le_of_ble_eq_true rfl) ⟨Nat.le_of_ble_eq_true rfl, Nat.le_of_ble_eq_true rfl⟩ dX11_cuttableCells_20 (fun H locs hP hD hS => ?_)
        refine lv_if_eq (tgt := 30) hx hb dX11_cuttableCells_23 (by decide) (fun hc => ?_) (fun hc => ?_)
        · have hf := jbT hf hc
          refine lv_iconst (v := 0) hx hb dX11_cuttableCells_30 (by decide) ?_
          exact hJ31 (o2.2) x2 0 x1 _ _ _ _ hf hr hP hD hS (lv_sub hl [0, 2] rfl)
        · have hf := jbF hf hc
          refine lv_iconst (v := 1) hx hb dX11_cuttableCells_26 (by decide) ?_
          refine lv_goto (tgt := 31) hx hb dX11_cuttableCells_27 (by decide) ?_
          exact hJ31 (o2.2) x2 1 x1 _ _ _ _ hf hr hP hD hS (lv_sub hl [0, 2] rfl)
  refine lv_iconst (v := 0) hx hb dX11_cuttableCells_0 (by decide) ?_
  refine lv_istore_n (lv' := [(1, .int 0), (0, .ref (hm 0))]) hx hb dX11_cuttableCells_1 rfl hl (by decide) rfl (fun ls hl => ?_)
  refine lv_iconst (v := 0) hx hb dX11_cuttableCells_2 (by decide) ?_
  refine lv_istore_n (lv' := [(2, .int 0), (1, .int 0), (0, .ref (hm 0))]) hx hb dX11_cuttableCells_3 rfl hl (by decide) rfl (fun ls hl => ?_)
  obtain ⟨o4, hg, hf⟩ := jbB_e hf
  refine hL4 _ 0 0 mv _ _ _ _ hg hP hD hS (lv_sub hl [2, 1, 0] rfl) (fun H locs ls hP hD hS hl => ?_)
  refine lv_aload_n hx hb dX11_cuttableCells_39 rfl (lv_at hl 0 rfl) ?_
  refine lv_iconst (v := 0) hx hb dX11_cuttableCells_40 (by decide) ?_
  refine va_put (D := gD g) (ci := 10) (v := .int 0) (ty := .int) (C := RX11) (T := TX11) (N := 19) hx hb hts hinX11 tyX11 tyX11_ok nmX11 hown hK hP hD hS 0 rfl rfl 13 (by decide) k0 (fun _ h9 => h9) rfl (tyX11_ok 13 (by decide)) rfl rfl (Nat.le_of_ble_eq_true rfl) dX11_cuttableCells_41 (fun H locs hP hD hS => ?_)
  obtain ⟨w1, ew1⟩ : ∃ y, y = (mSThrown 0 (o4.2.2)) := ⟨_, rfl⟩
  have hf := jbN_e hf ew1
  have hP : va_P (gD g) vwCl (wM g hm w1) H := by rw [ew1]; exact hP
  have hD : va_D A (wM g hm w1) := by rw [ew1]; exact hD
  refine lv_iload_n hx hb dX11_cuttableCells_44 rfl (lv_at hl 1 rfl) ?_
  cases hf
  subst hQ
  exact rt_i hx hb hrt hlk rfl hK hP hD hS (Nat.le_of_ble_eq_true rfl) (Nat.le_of_ble_eq_true rfl) dX11_cuttableCells_45
def f_X11_cellsAt_J26 (mv : MV) (x1 : Int32) (x3 : Int32) (y0 : Int32) (y1 : Int32) : Option (Sum (Int32 × Int32) (Int32 × Int32)) :=
  jbN (y1 + y0) fun z7 =>
  some (.inl (z7, (x3 + 1)))
def f_X11_cellsAt_L4 (mv : MV) (x1 : Int32) (x2 : Int32) (x3 : Int32) : Option (Sum (Int32 × Int32) (Int32 × Int32)) :=
  if 30 ≤ x3 then
  (some (.inr (x2, x3)))
  else
  ((f_X11_of mv x3 0).bind fun o5 =>
  if o5 = x1 then
  (f_X11_cellsAt_J26 mv x1 x3 1 x2)
  else
  (f_X11_cellsAt_J26 mv x1 x3 0 x2))
def f_X11_cellsAt (mv : MV) (a0 : Int32) : Option (Int32 × MV) :=
  (jbL (fun s => f_X11_cellsAt_L4 mv a0 (s.1) (s.2)) 5000 (0, 0)).bind fun o4 =>
  (f_X11_isIn a0 0 9).bind fun o1 =>
  (f_X11_goes mv o1).bind fun o3 =>
  if (o3.1) = 0 then
  (some (0, (o3.2)))
  else
  (some ((o4.1), (o3.2)))
def rm_X11_cellsAt : Room := { frames := 2, cells := 0, slots := 0, locals := 45 }
theorem hd_X11_cellsAt : yX11_cellsAt.cls = RX11 ∧ yX11_cellsAt.cls ≠ "java/lang/invoke/MethodHandle" ∧ yX11_cellsAt.cls ≠ "java/lang/invoke/VarHandle" ∧ (parseMethodDescriptor yX11_cellsAt.desc).map (fun d => d.parameters.length) = some 1 := by decide +kernel
set_option maxHeartbeats 4000000 in
set_option maxRecDepth 100000 in
theorem c_X11_cellsAt (l : Launch) (g : GG) (hm : Nat → Nat) (mv : MV)  (a0 : Int32) (out : Int32 × MV) (hf : f_X11_cellsAt mv a0 = some out) : MtI l yX11_cellsAt wsX11_cellsAt rm_X11_cellsAt g (wM g hm mv) [.ref (hm 0), .int a0] (out.1) (wM g hm (out.2)) 0 0 := by
  refine fun sz => mt_of (cc := cX11_cellsAt) (maxL := 4) (ret := (some .int)) (own := RX11) (Qc := fun A => va_Qi (fun r (_ : Unit) => r = (out.1)) (fun _ t => PosM g A (wM g hm (out.2)) t) A) (by decide +kernel) rfl rfl (Nat.le_of_ble_eq_true rfl) ?_ sz
  intro p e s mi below meth c A ls hB hnm hrt hlk hP hD hl
  obtain ⟨hx, hb, hml, hown, hts, hK, hZ, hT, hA, -⟩ := hB
  have hS : va_S A s.heap s.heap [] := va_S.rf
  have hl : lv_has ls 4 [(0, .ref (hm 0)), (1, .int a0)] := hl
  generalize hQ : MQ below _ _ _ _ _ _ = Q
  unfold f_X11_cellsAt at hf
  have hL4 : ∀ (mv : MV) (x1 : Int32) (n : Nat) (x2 : Int32) (x3 : Int32) (H : Heap) (locs : List Loc) (ls : Array Slot) (o4 : Int32 × Int32), jbL (fun s => f_X11_cellsAt_L4 mv x1 (s.1) (s.2)) n (x2, x3) = some o4 → va_P (gD g) vwCl (wM g hm mv) H → va_D A (wM g hm mv) → va_S A s.heap H locs → lv_has ls 4 [(0, .ref (hm 0)), (1, .int x1), (2, .int x2), (3, .int x3)] → (∀ (H : Heap) (locs : List Loc) (ls : Array Slot), va_P (gD g) vwCl (wM g hm mv) H → va_D A (wM g hm mv) → va_S A s.heap H locs → lv_has ls 4 [(0, .ref (hm 0)), (1, .int x1), (2, .int (o4.1))] → W p l e rm_X11_cellsAt s mi [.ref (hm 0), .int a0].toArray below meth c H locs 0 0 Q (F0 mi 34 ls [])) → W p l e rm_X11_cellsAt s mi [.ref (hm 0), .int a0].toArray below meth c H locs 0 0 Q (F0 mi 4 ls []) := by
    intro mv x1 n
    induction n with
    | zero => intro x2 x3 H locs ls o4 hf; exact absurd hf (jbL_0 _ _ _)
    | succ n ih =>
      intro x2 x3 H locs ls o4 hf hP hD hS hl hk
      obtain ⟨r, hf, hr⟩ := jbL_e hf
      have hf : f_X11_cellsAt_L4 mv x1 x2 x3 = some r := hf
      unfold f_X11_cellsAt_L4 at hf
      have hJ26 : ∀ (x3 : Int32) (y0 : Int32) (y1 : Int32) (H : Heap) (locs : List Loc) (ls : Array Slot) (r : Sum (Int32 × Int32) (Int32 × Int32)), f_X11_cellsAt_J26 mv x1 x3 y0 y1 = some r → jbR (fun s => f_X11_cellsAt_L4 mv x1 (s.1) (s.2)) n o4 r → va_P (gD g) vwCl (wM g hm mv) H → va_D A (wM g hm mv) → va_S A s.heap H locs → lv_has ls 4 [(0, .ref (hm 0)), (1, .int x1), (3, .int x3)] → W p l e rm_X11_cellsAt s mi [.ref (hm 0), .int a0].toArray below meth c H locs 0 0 Q (F0 mi 26 ls [.int y0, .int y1]) := by
        intro x3 y0 y1 H locs ls r hf hr hP hD hS hl
        unfold f_X11_cellsAt_J26 at hf
        refine lv_iadd hx hb dX11_cellsAt_26 ?_
        refine lv_topi (fun z7 ez7 => ?_)
        have hf := jbN_e hf ez7
        refine lv_istore_n (lv' := [(2, .int z7), (0, .ref (hm 0)), (1, .int x1), (3, .int x3)]) hx hb dX11_cellsAt_27 rfl hl (by decide) rfl (fun ls hl => ?_)
        refine lv_iinc (v := (x3 + 1)) (lv' := [(3, .int (x3 + 1)), (2, .int z7), (0, .ref (hm 0)), (1, .int x1)]) hx hb dX11_cellsAt_28 hl (k := 3) rfl rfl (by decide) rfl (fun ls hl => ?_)
        refine lv_goto (tgt := 4) hx hb dX11_cellsAt_31 (by decide) ?_
        cases hf
        exact ih z7 (x3 + 1) _ _ _ _ hr hP hD hS (lv_sub hl [2, 3, 1, 0] rfl) hk
      refine lv_iload_n hx hb dX11_cellsAt_4 rfl (lv_at hl 3 rfl) ?_
      refine lv_bipush (v := 30) hx hb dX11_cellsAt_5 (by decide) ?_
      refine lv_icmp_ge (tgt := 34) hx hb dX11_cellsAt_7 (by decide) (fun hc => ?_) (fun hc => ?_)
      · have hf := jbT hf hc
        cases hf
        obtain rfl := jbR_r hr
        exact hk _ _ _ hP hD hS (lv_sub hl [0, 1, 2] rfl)
      · have hf := jbF hf hc
        refine lv_iload_n hx hb dX11_cellsAt_10 rfl (lv_at hl 2 rfl) ?_
        refine lv_aload_n hx hb dX11_cellsAt_11 rfl (lv_at hl 0 rfl) ?_
        refine lv_iload_n hx hb dX11_cellsAt_12 rfl (lv_at hl 3 rfl) ?_
        refine lv_iconst (v := 0) hx hb dX11_cellsAt_13 (by decide) ?_
        obtain ⟨o5, g6, hf⟩ := jbB_e hf
        refine cva_i (As := [.int x3, .int 0]) (rest := [.int x2]) ⟨hx, hb, hml, hown, hts⟩ (c_X11_of l g hm mv x3 0 _ g6) (cwV 2 hts gX11_cellsAt_X11_of rfl rfl rfl hd_X11_of ⟨Nat.le_of_ble_eq_true rfl, Nat.le_of_ble_eq_true rfl⟩) hK hZ hT hA hP hD hS hl.1 (va_recv hK hP (ci := 10) (q0 := 0) rfl rfl) rfl rfl (Nat.le_of_ble_eq_true rfl) ⟨Nat.le_of_ble_eq_true rfl, Nat.le_of_ble_eq_true rfl⟩ dX11_cellsAt_14 (fun H locs hP hD hS => ?_)
        refine lv_iload_n hx hb dX11_cellsAt_17 rfl (lv_at hl 1 rfl) ?_
        refine lv_icmp_ne (tgt := 25) hx hb dX11_cellsAt_18 (by decide) (fun hc => ?_) (fun hc => ?_)
        · have hf := jbF hf hc
          refine lv_iconst (v := 0) hx hb dX11_cellsAt_25 (by decide) ?_
          exact hJ26 x3 0 x2 _ _ _ _ hf hr hP hD hS (lv_sub hl [0, 1, 3] rfl)
        · have hf := jbT hf hc
          refine lv_iconst (v := 1) hx hb dX11_cellsAt_21 (by decide) ?_
          refine lv_goto (tgt := 26) hx hb dX11_cellsAt_22 (by decide) ?_
          exact hJ26 x3 1 x2 _ _ _ _ hf hr hP hD hS (lv_sub hl [0, 1, 3] rfl)
  refine lv_iconst (v := 0) hx hb dX11_cellsAt_0 (by decide) ?_
  refine lv_istore_n (lv' := [(2, .int 0), (0, .ref (hm 0)), (1, .int a0)]) hx hb dX11_cellsAt_1 rfl hl (by decide) rfl (fun ls hl => ?_)
  refine lv_iconst (v := 0) hx hb dX11_cellsAt_2 (by decide) ?_
  refine lv_istore_n (lv' := [(3, .int 0), (2, .int 0), (0, .ref (hm 0)), (1, .int a0)]) hx hb dX11_cellsAt_3 rfl hl (by decide) rfl (fun ls hl => ?_)
  obtain ⟨o4, hg, hf⟩ := jbB_e hf
  refine hL4 mv a0 _ 0 0 _ _ _ _ hg hP hD hS (lv_sub hl [2, 3, 1, 0] rfl) (fun H locs ls hP hD hS hl => ?_)
  refine lv_aload_n hx hb dX11_cellsAt_34 rfl (lv_at hl 0 rfl) ?_
  refine lv_iload_n hx hb dX11_cellsAt_35 rfl (lv_at hl 1 rfl) ?_
  refine lv_iconst (v := 0) hx hb dX11_cellsAt_36 (by decide) ?_
  refine lv_bipush (v := 9) hx hb dX11_cellsAt_37 (by decide) ?_
  obtain ⟨o1, g2, hf⟩ := jbB_e hf
  refine csn_i (As := [.int a0, .int 0, .int 9]) (rest := [.ref (hm 0)]) ⟨hx, hb, hml, hown, hts⟩ (c_X11_isIn l g a0 0 9 _ g2) (va_cwS 3 hts gX11_cellsAt_X11_isIn rfl rfl rfl hd_X11_isIn ⟨Nat.le_of_ble_eq_true rfl, Nat.le_of_ble_eq_true rfl⟩) hK hZ hT hA hP hD hS hl.1 rfl rfl (Nat.le_of_ble_eq_true rfl) ⟨Nat.le_of_ble_eq_true rfl, Nat.le_of_ble_eq_true rfl⟩ dX11_cellsAt_39 (fun H locs hP hD hS => ?_)
  obtain ⟨o3, g4, hf⟩ := jbB_e hf
  refine cva_i (As := [.int o1]) (rest := []) ⟨hx, hb, hml, hown, hts⟩ (c_X11_goes l g hm mv o1 _ g4) (cwV 1 hts gX11_cellsAt_X11_goes rfl rfl rfl hd_X11_goes ⟨Nat.le_of_ble_eq_true rfl, Nat.le_of_ble_eq_true rfl⟩) hK hZ hT hA hP hD hS hl.1 (va_recv hK hP (ci := 10) (q0 := 0) rfl rfl) rfl rfl (Nat.le_of_ble_eq_true rfl) ⟨Nat.le_of_ble_eq_true rfl, Nat.le_of_ble_eq_true rfl⟩ dX11_cellsAt_42 (fun H locs hP hD hS => ?_)
  refine lv_if_eq (tgt := 52) hx hb dX11_cellsAt_45 (by decide) (fun hc => ?_) (fun hc => ?_)
  · have hf := jbT hf hc
    refine lv_iconst (v := 0) hx hb dX11_cellsAt_52 (by decide) ?_
    cases hf
    subst hQ
    exact rt_i hx hb hrt hlk rfl hK hP hD hS (Nat.le_of_ble_eq_true rfl) (Nat.le_of_ble_eq_true rfl) dX11_cellsAt_53
  · have hf := jbF hf hc
    refine lv_iload_n hx hb dX11_cellsAt_48 rfl (lv_at hl 2 rfl) ?_
    refine lv_goto (tgt := 53) hx hb dX11_cellsAt_49 (by decide) ?_
    cases hf
    subst hQ
    exact rt_i hx hb hrt hlk rfl hK hP hD hS (Nat.le_of_ble_eq_true rfl) (Nat.le_of_ble_eq_true rfl) dX11_cellsAt_53
def f_X11_lowers_L41 (mv : MV) (x3 : Int32) (x4 : Int32) (x5 : Int32) (x6 : Int32) : Option (Sum (Int32 × Int32) (Int32 × Int32)) :=
  if 30 ≤ x6 then
  (some (.inr (x5, x6)))
  else
  ((f_X11_of mv x6 0).bind fun o11 =>
  if jIn 0 229 then
  (f_X11_farFrom x4 x6).bind fun o14 =>
  jbN (x5 + (jMax 0 ((o11 - x3) - (((mNow mv) (0 : Int32).toNatClampNeg) * o14)))) fun z16 =>
  some (.inl (z16, (x6 + 1)))
  else none)
def f_X11_lowers (mv : MV) (a0 : Int32) (a1 : Int32) (a2 : Int32) : Option (Int32 × MV) :=
  (f_X11_cellAt a0 a1).bind fun o1 =>
  (f_X11_isCell a0 a1).bind fun o3 =>
  (f_X11_of mv o1 0).bind fun o5 =>
  (f_X11_isIn a2 0 o5).bind fun o7 =>
  (f_X11_holds mv o3 o7 1 1).bind fun o9 =>
  if (o9.1) = 0 then
  (some (0, (o9.2)))
  else
  ((jbL (fun s => f_X11_lowers_L41 (o9.2) a2 o1 (s.1) (s.2)) 5000 (0, 0)).bind fun o41 =>
  some ((o41.1), (o9.2)))
def rm_X11_lowers : Room := { frames := 3, cells := 0, slots := 0, locals := 64 }
theorem hd_X11_lowers : yX11_lowers.cls = RX11 ∧ yX11_lowers.cls ≠ "java/lang/invoke/MethodHandle" ∧ yX11_lowers.cls ≠ "java/lang/invoke/VarHandle" ∧ (parseMethodDescriptor yX11_lowers.desc).map (fun d => d.parameters.length) = some 3 := by decide +kernel
set_option maxHeartbeats 4000000 in
set_option maxRecDepth 100000 in
theorem c_X11_lowers (l : Launch) (g : GG) (hm : Nat → Nat) (mv : MV)  (a0 : Int32) (a1 : Int32) (a2 : Int32) (out : Int32 × MV) (hf : f_X11_lowers mv a0 a1 a2 = some out) : MtI l yX11_lowers wsX11_lowers rm_X11_lowers g (wM g hm mv) [.ref (hm 0), .int a0, .int a1, .int a2] (out.1) (wM g hm (out.2)) 0 0 := by
  refine fun sz => mt_of (cc := cX11_lowers) (maxL := 7) (ret := (some .int)) (own := RX11) (Qc := fun A => va_Qi (fun r (_ : Unit) => r = (out.1)) (fun _ t => PosM g A (wM g hm (out.2)) t) A) (by decide +kernel) rfl rfl (Nat.le_of_ble_eq_true rfl) ?_ sz
  intro p e s mi below meth c A ls hB hnm hrt hlk hP hD hl
  obtain ⟨hx, hb, hml, hown, hts, hK, hZ, hT, hA, -⟩ := hB
  have hS : va_S A s.heap s.heap [] := va_S.rf
  have hl : lv_has ls 7 [(0, .ref (hm 0)), (1, .int a0), (2, .int a1), (3, .int a2)] := hl
  have hinX11 : ∀ w ∈ wsX110, w ∈ wsX11_lowers := by decide +kernel
  have k0 := hts (.fieldLink RX11 9 "TerraceQuarryModel" "now" "[I") (by decide +kernel)
  have k1 := hts (.methodLink RX11 90 Lib.Math.max.name) (by decide +kernel)
  have k2 := hts (.static Lib.Math.max.name) (by decide +kernel)
  have k3 := hts (.initialized "java/lang/Math") (by decide +kernel)
  have k4 := hts (.code Lib.Math.max.name Lib.Math.max.code 2 (some .int)) (by decide +kernel)
  generalize hQ : MQ below _ _ _ _ _ _ = Q
  unfold f_X11_lowers at hf
  have hL41 : ∀ (mv : MV) (x3 : Int32) (x4 : Int32) (n : Nat) (x5 : Int32) (x6 : Int32) (H : Heap) (locs : List Loc) (ls : Array Slot) (o41 : Int32 × Int32), jbL (fun s => f_X11_lowers_L41 mv x3 x4 (s.1) (s.2)) n (x5, x6) = some o41 → va_P (gD g) vwCl (wM g hm mv) H → va_D A (wM g hm mv) → va_S A s.heap H locs → lv_has ls 7 [(0, .ref (hm 0)), (3, .int x3), (4, .int x4), (5, .int x5), (6, .int x6)] → (∀ (H : Heap) (locs : List Loc) (ls : Array Slot), va_P (gD g) vwCl (wM g hm mv) H → va_D A (wM g hm mv) → va_S A s.heap H locs → lv_has ls 7 [(5, .int (o41.1))] → W p l e rm_X11_lowers s mi [.ref (hm 0), .int a0, .int a1, .int a2].toArray below meth c H locs 0 0 Q (F0 mi 87 ls [])) → W p l e rm_X11_lowers s mi [.ref (hm 0), .int a0, .int a1, .int a2].toArray below meth c H locs 0 0 Q (F0 mi 41 ls []) := by
    intro mv x3 x4 n
    induction n with
    | zero => intro x5 x6 H locs ls o41 hf; exact absurd hf (jbL_0 _ _ _)
    | succ n ih =>
      intro x5 x6 H locs ls o41 hf hP hD hS hl hk
      obtain ⟨r, hf, hr⟩ := jbL_e hf
      have hf : f_X11_lowers_L41 mv x3 x4 x5 x6 = some r := hf
      unfold f_X11_lowers_L41 at hf
      refine lv_iload hx hb dX11_lowers_41 (lv_at hl 4 rfl) ?_
      refine lv_bipush (v := 30) hx hb dX11_lowers_43 (by decide) ?_
      refine lv_icmp_ge (tgt := 87) hx hb dX11_lowers_45 (by decide) (fun hc => ?_) (fun hc => ?_)
      · have hf := jbT hf hc
        cases hf
        obtain rfl := jbR_r hr
        exact hk _ _ _ hP hD hS (lv_sub hl [3] rfl)
      · have hf := jbF hf hc
        refine lv_iload hx hb dX11_lowers_48 (lv_at hl 3 rfl) ?_
        refine lv_iconst (v := 0) hx hb dX11_lowers_50 (by decide) ?_
        refine lv_aload_n hx hb dX11_lowers_51 rfl (lv_at hl 0 rfl) ?_
        refine lv_iload hx hb dX11_lowers_52 (lv_at hl 4 rfl) ?_
        refine lv_iconst (v := 0) hx hb dX11_lowers_54 (by decide) ?_
        obtain ⟨o11, g12, hf⟩ := jbB_e hf
        refine cva_i (As := [.int x6, .int 0]) (rest := [.int 0, .int x5]) ⟨hx, hb, hml, hown, hts⟩ (c_X11_of l g hm mv x6 0 _ g12) (cwV 2 hts gX11_lowers_X11_of rfl rfl rfl hd_X11_of ⟨Nat.le_of_ble_eq_true rfl, Nat.le_of_ble_eq_true rfl⟩) hK hZ hT hA hP hD hS hl.1 (va_recv hK hP (ci := 10) (q0 := 0) rfl rfl) rfl rfl (Nat.le_of_ble_eq_true rfl) ⟨Nat.le_of_ble_eq_true rfl, Nat.le_of_ble_eq_true rfl⟩ dX11_lowers_55 (fun H locs hP hD hS => ?_)
        refine lv_iload_n hx hb dX11_lowers_58 rfl (lv_at hl 1 rfl) ?_
        refine lv_isub hx hb dX11_lowers_59 ?_
        refine lv_aload_n hx hb dX11_lowers_60 rfl (lv_at hl 0 rfl) ?_
        refine va_get (D := gD g) (ci := 10) (v := .ref (hm 1)) (C := RX11) (T := TX11) (N := 19) hx hb hts hinX11 hown hK hP 0 rfl rfl 0 (by decide) k0 (fun _ h9 => h9) rfl dX11_lowers_61 ?_
        refine lv_iconst (v := 0) hx hb dX11_lowers_64 (by decide) ?_
        obtain ⟨h13, hf⟩ := jbA_e hf
        refine va_iald hx hb hK hP 1 0 rfl rfl h13 dX11_lowers_65 ?_
        refine lv_iload hx hb dX11_lowers_66 (lv_at hl 2 rfl) ?_
        refine lv_iload hx hb dX11_lowers_68 (lv_at hl 4 rfl) ?_
        obtain ⟨o14, g15, hf⟩ := jbB_e hf
        refine csn_i (As := [.int x4, .int x6]) (rest := [.int ((mNow mv) (0 : Int32).toNatClampNeg), .int (o11 - x3), .int 0, .int x5]) ⟨hx, hb, hml, hown, hts⟩ (c_X11_farFrom l g x4 x6 _ g15) (va_cwS 2 hts gX11_lowers_X11_farFrom rfl rfl rfl hd_X11_farFrom ⟨Nat.le_of_ble_eq_true rfl, Nat.le_of_ble_eq_true rfl⟩) hK hZ hT hA hP hD hS hl.1 rfl rfl (Nat.le_of_ble_eq_true rfl) ⟨Nat.le_of_ble_eq_true rfl, Nat.le_of_ble_eq_true rfl⟩ dX11_lowers_70 (fun H locs hP hD hS => ?_)
        refine lv_imul hx hb dX11_lowers_73 ?_
        refine lv_isub hx hb dX11_lowers_74 ?_
        refine va_mmax hx hb (hml.trans hl.1.symm) hown k1 k2 k3 k4 (Nat.le_of_ble_eq_true rfl) (Nat.le_of_ble_eq_true rfl) (Nat.le_of_ble_eq_true rfl) (Nat.le_of_ble_eq_true rfl) dX11_lowers_75 ?_
        refine lv_iadd hx hb dX11_lowers_78 ?_
        refine lv_topi (fun z16 ez16 => ?_)
        have hf := jbN_e hf ez16
        refine lv_istore (lv' := [(5, .int z16), (0, .ref (hm 0)), (3, .int x3), (4, .int x4), (6, .int x6)]) hx hb dX11_lowers_79 hl (by decide) rfl (fun ls hl => ?_)
        refine lv_iinc (v := (x6 + 1)) (lv' := [(6, .int (x6 + 1)), (5, .int z16), (0, .ref (hm 0)), (3, .int x3), (4, .int x4)]) hx hb dX11_lowers_81 hl (k := 4) rfl rfl (by decide) rfl (fun ls hl => ?_)
        refine lv_goto (tgt := 41) hx hb dX11_lowers_84 (by decide) ?_
        cases hf
        exact ih z16 (x6 + 1) _ _ _ _ hr hP hD hS (lv_sub hl [2, 3, 4, 1, 0] rfl) hk
  refine lv_iload_n hx hb dX11_lowers_0 rfl (lv_at hl 1 rfl) ?_
  refine lv_iload_n hx hb dX11_lowers_1 rfl (lv_at hl 2 rfl) ?_
  obtain ⟨o1, g2, hf⟩ := jbB_e hf
  refine csn_i (As := [.int a0, .int a1]) (rest := []) ⟨hx, hb, hml, hown, hts⟩ (c_X11_cellAt l g a0 a1 _ g2) (va_cwS 2 hts gX11_lowers_X11_cellAt rfl rfl rfl hd_X11_cellAt ⟨Nat.le_of_ble_eq_true rfl, Nat.le_of_ble_eq_true rfl⟩) hK hZ hT hA hP hD hS hl.1 rfl rfl (Nat.le_of_ble_eq_true rfl) ⟨Nat.le_of_ble_eq_true rfl, Nat.le_of_ble_eq_true rfl⟩ dX11_lowers_2 (fun H locs hP hD hS => ?_)
  refine lv_istore (lv' := [(4, .int o1), (0, .ref (hm 0)), (1, .int a0), (2, .int a1), (3, .int a2)]) hx hb dX11_lowers_5 hl (by decide) rfl (fun ls hl => ?_)
  refine lv_aload_n hx hb dX11_lowers_7 rfl (lv_at hl 1 rfl) ?_
  refine lv_iload_n hx hb dX11_lowers_8 rfl (lv_at hl 2 rfl) ?_
  refine lv_iload_n hx hb dX11_lowers_9 rfl (lv_at hl 3 rfl) ?_
  obtain ⟨o3, g4, hf⟩ := jbB_e hf
  refine csn_i (As := [.int a0, .int a1]) (rest := [.ref (hm 0)]) ⟨hx, hb, hml, hown, hts⟩ (c_X11_isCell l g a0 a1 _ g4) (va_cwS 2 hts gX11_lowers_X11_isCell rfl rfl rfl hd_X11_isCell ⟨Nat.le_of_ble_eq_true rfl, Nat.le_of_ble_eq_true rfl⟩) hK hZ hT hA hP hD hS hl.1 rfl rfl (Nat.le_of_ble_eq_true rfl) ⟨Nat.le_of_ble_eq_true rfl, Nat.le_of_ble_eq_true rfl⟩ dX11_lowers_10 (fun H locs hP hD hS => ?_)
  refine lv_iload_n hx hb dX11_lowers_13 rfl (lv_at hl 4 rfl) ?_
  refine lv_iconst (v := 0) hx hb dX11_lowers_14 (by decide) ?_
  refine lv_aload_n hx hb dX11_lowers_15 rfl (lv_at hl 1 rfl) ?_
  refine lv_iload hx hb dX11_lowers_16 (lv_at hl 0 rfl) ?_
  refine lv_iconst (v := 0) hx hb dX11_lowers_18 (by decide) ?_
  obtain ⟨o5, g6, hf⟩ := jbB_e hf
  refine cva_i (As := [.int o1, .int 0]) (rest := [.int 0, .int a2, .int o3, .ref (hm 0)]) ⟨hx, hb, hml, hown, hts⟩ (c_X11_of l g hm mv o1 0 _ g6) (cwV 2 hts gX11_lowers_X11_of rfl rfl rfl hd_X11_of ⟨Nat.le_of_ble_eq_true rfl, Nat.le_of_ble_eq_true rfl⟩) hK hZ hT hA hP hD hS hl.1 (va_recv hK hP (ci := 10) (q0 := 0) rfl rfl) rfl rfl (Nat.le_of_ble_eq_true rfl) ⟨Nat.le_of_ble_eq_true rfl, Nat.le_of_ble_eq_true rfl⟩ dX11_lowers_19 (fun H locs hP hD hS => ?_)
  obtain ⟨o7, g8, hf⟩ := jbB_e hf
  refine csn_i (As := [.int a2, .int 0, .int o5]) (rest := [.int o3, .ref (hm 0)]) ⟨hx, hb, hml, hown, hts⟩ (c_X11_isIn l g a2 0 o5 _ g8) (va_cwS 3 hts gX11_lowers_X11_isIn rfl rfl rfl hd_X11_isIn ⟨Nat.le_of_ble_eq_true rfl, Nat.le_of_ble_eq_true rfl⟩) hK hZ hT hA hP hD hS hl.1 rfl rfl (Nat.le_of_ble_eq_true rfl) ⟨Nat.le_of_ble_eq_true rfl, Nat.le_of_ble_eq_true rfl⟩ dX11_lowers_22 (fun H locs hP hD hS => ?_)
  refine lv_iconst (v := 1) hx hb dX11_lowers_25 (by decide) ?_
  refine lv_iconst (v := 1) hx hb dX11_lowers_26 (by decide) ?_
  obtain ⟨o9, g10, hf⟩ := jbB_e hf
  refine cva_i (As := [.int o3, .int o7, .int 1, .int 1]) (rest := []) ⟨hx, hb, hml, hown, hts⟩ (c_X11_holds l g hm mv o3 o7 1 1 _ g10) (cwV 4 hts gX11_lowers_X11_holds rfl rfl rfl hd_X11_holds ⟨Nat.le_of_ble_eq_true rfl, Nat.le_of_ble_eq_true rfl⟩) hK hZ hT hA hP hD hS hl.1 (va_recv hK hP (ci := 10) (q0 := 0) rfl rfl) rfl rfl (Nat.le_of_ble_eq_true rfl) ⟨Nat.le_of_ble_eq_true rfl, Nat.le_of_ble_eq_true rfl⟩ dX11_lowers_27 (fun H locs hP hD hS => ?_)
  refine lv_if_ne (tgt := 35) hx hb dX11_lowers_30 (by decide) (fun hc => ?_) (fun hc => ?_)
  · have hf := jbF hf hc
    refine lv_iconst (v := 0) hx hb dX11_lowers_35 (by decide) ?_
    refine lv_istore (lv' := [(5, .int 0), (4, .int o1), (0, .ref (hm 0)), (1, .int a0), (2, .int a1), (3, .int a2)]) hx hb dX11_lowers_36 hl (by decide) rfl (fun ls hl => ?_)
    refine lv_iconst (v := 0) hx hb dX11_lowers_38 (by decide) ?_
    refine lv_istore (lv' := [(6, .int 0), (5, .int 0), (4, .int o1), (0, .ref (hm 0)), (1, .int a0), (2, .int a1), (3, .int a2)]) hx hb dX11_lowers_39 hl (by decide) rfl (fun ls hl => ?_)
    obtain ⟨o41, hg, hf⟩ := jbB_e hf
    refine hL41 (o9.2) a2 o1 _ 0 0 _ _ _ _ hg hP hD hS (lv_sub hl [3, 6, 2, 1, 0] rfl) (fun H locs ls hP hD hS hl => ?_)
    refine lv_iload hx hb dX11_lowers_87 (lv_at hl 0 rfl) ?_
    cases hf
    subst hQ
    exact rt_i hx hb hrt hlk rfl hK hP hD hS (Nat.le_of_ble_eq_true rfl) (Nat.le_of_ble_eq_true rfl) dX11_lowers_89
  · have hf := jbT hf hc
    refine lv_iconst (v := 0) hx hb dX11_lowers_33 (by decide) ?_
    cases hf
    subst hQ
    exact rt_i hx hb hrt hlk rfl hK hP hD hS (Nat.le_of_ble_eq_true rfl) (Nat.le_of_ble_eq_true rfl) dX11_lowers_34
def f_X11_cutsToLower (mv : MV) (a0 : Int32) (a1 : Int32) (a2 : Int32) : Option (Int32 × MV) :=
  (f_X11_lowers mv a0 a1 a2).bind fun o1 =>
  some ((o1.1), (o1.2))
def rm_X11_cutsToLower : Room := { frames := 4, cells := 0, slots := 0, locals := 90 }
theorem hd_X11_cutsToLower : yX11_cutsToLower.cls = RX11 ∧ yX11_cutsToLower.cls ≠ "java/lang/invoke/MethodHandle" ∧ yX11_cutsToLower.cls ≠ "java/lang/invoke/VarHandle" ∧ (parseMethodDescriptor yX11_cutsToLower.desc).map (fun d => d.parameters.length) = some 3 := by decide +kernel
set_option maxHeartbeats 4000000 in
set_option maxRecDepth 100000 in
theorem c_X11_cutsToLower (l : Launch) (g : GG) (hm : Nat → Nat) (mv : MV)  (a0 : Int32) (a1 : Int32) (a2 : Int32) (out : Int32 × MV) (hf : f_X11_cutsToLower mv a0 a1 a2 = some out) : MtI l yX11_cutsToLower wsX11_cutsToLower rm_X11_cutsToLower g (wM g hm mv) [.ref (hm 0), .int a0, .int a1, .int a2] (out.1) (wM g hm (out.2)) 0 0 := by
  refine fun sz => mt_of (cc := cX11_cutsToLower) (maxL := 4) (ret := (some .int)) (own := RX11) (Qc := fun A => va_Qi (fun r (_ : Unit) => r = (out.1)) (fun _ t => PosM g A (wM g hm (out.2)) t) A) (by decide +kernel) rfl rfl (Nat.le_of_ble_eq_true rfl) ?_ sz
  intro p e s mi below meth c A ls hB hnm hrt hlk hP hD hl
  obtain ⟨hx, hb, hml, hown, hts, hK, hZ, hT, hA, -⟩ := hB
  have hS : va_S A s.heap s.heap [] := va_S.rf
  have hl : lv_has ls 4 [(0, .ref (hm 0)), (1, .int a0), (2, .int a1), (3, .int a2)] := hl
  generalize hQ : MQ below _ _ _ _ _ _ = Q
  unfold f_X11_cutsToLower at hf
  refine lv_aload_n hx hb dX11_cutsToLower_0 rfl (lv_at hl 0 rfl) ?_
  refine lv_iload_n hx hb dX11_cutsToLower_1 rfl (lv_at hl 1 rfl) ?_
  refine lv_iload_n hx hb dX11_cutsToLower_2 rfl (lv_at hl 2 rfl) ?_
  refine lv_iload_n hx hb dX11_cutsToLower_3 rfl (lv_at hl 3 rfl) ?_
  obtain ⟨o1, g2, hf⟩ := jbB_e hf
  refine cva_i (As := [.int a0, .int a1, .int a2]) (rest := []) ⟨hx, hb, hml, hown, hts⟩ (c_X11_lowers l g hm mv a0 a1 a2 _ g2) (cwV 3 hts gX11_cutsToLower_X11_lowers rfl rfl rfl hd_X11_lowers ⟨Nat.le_of_ble_eq_true rfl, Nat.le_of_ble_eq_true rfl⟩) hK hZ hT hA hP hD hS hl.1 (va_recv hK hP (ci := 10) (q0 := 0) rfl rfl) rfl rfl (Nat.le_of_ble_eq_true rfl) ⟨Nat.le_of_ble_eq_true rfl, Nat.le_of_ble_eq_true rfl⟩ dX11_cutsToLower_4 (fun H locs hP hD hS => ?_)
  cases hf
  subst hQ
  exact rt_i hx hb hrt hlk rfl hK hP hD hS (Nat.le_of_ble_eq_true rfl) (Nat.le_of_ble_eq_true rfl) dX11_cutsToLower_7
def f_X11_cutsToLowerBySpreading (mv : MV) (a0 : Int32) (a1 : Int32) (a2 : Int32) : Option (Int32 × MV) :=
  (f_X11_lowers mv a0 a1 a2).bind fun o1 =>
  some ((o1.1), (o1.2))
def rm_X11_cutsToLowerBySpreading : Room := { frames := 4, cells := 0, slots := 0, locals := 90 }
theorem hd_X11_cutsToLowerBySpreading : yX11_cutsToLowerBySpreading.cls = RX11 ∧ yX11_cutsToLowerBySpreading.cls ≠ "java/lang/invoke/MethodHandle" ∧ yX11_cutsToLowerBySpreading.cls ≠ "java/lang/invoke/VarHandle" ∧ (parseMethodDescriptor yX11_cutsToLowerBySpreading.desc).map (fun d => d.parameters.length) = some 3 := by decide +kernel
set_option maxHeartbeats 4000000 in
set_option maxRecDepth 100000 in
theorem c_X11_cutsToLowerBySpreading (l : Launch) (g : GG) (hm : Nat → Nat) (mv : MV)  (a0 : Int32) (a1 : Int32) (a2 : Int32) (out : Int32 × MV) (hf : f_X11_cutsToLowerBySpreading mv a0 a1 a2 = some out) : MtI l yX11_cutsToLowerBySpreading wsX11_cutsToLowerBySpreading rm_X11_cutsToLowerBySpreading g (wM g hm mv) [.ref (hm 0), .int a0, .int a1, .int a2] (out.1) (wM g hm (out.2)) 0 0 := by
  refine fun sz => mt_of (cc := cX11_cutsToLowerBySpreading) (maxL := 4) (ret := (some .int)) (own := RX11) (Qc := fun A => va_Qi (fun r (_ : Unit) => r = (out.1)) (fun _ t => PosM g A (wM g hm (out.2)) t) A) (by decide +kernel) rfl rfl (Nat.le_of_ble_eq_true rfl) ?_ sz
  intro p e s mi below meth c A ls hB hnm hrt hlk hP hD hl
  obtain ⟨hx, hb, hml, hown, hts, hK, hZ, hT, hA, -⟩ := hB
  have hS : va_S A s.heap s.heap [] := va_S.rf
  have hl : lv_has ls 4 [(0, .ref (hm 0)), (1, .int a0), (2, .int a1), (3, .int a2)] := hl
  generalize hQ : MQ below _ _ _ _ _ _ = Q
  unfold f_X11_cutsToLowerBySpreading at hf
  refine lv_aload_n hx hb dX11_cutsToLowerBySpreading_0 rfl (lv_at hl 0 rfl) ?_
  refine lv_iload_n hx hb dX11_cutsToLowerBySpreading_1 rfl (lv_at hl 1 rfl) ?_
  refine lv_iload_n hx hb dX11_cutsToLowerBySpreading_2 rfl (lv_at hl 2 rfl) ?_
  refine lv_iload_n hx hb dX11_cutsToLowerBySpreading_3 rfl (lv_at hl 3 rfl) ?_
  obtain ⟨o1, g2, hf⟩ := jbB_e hf
  refine cva_i (As := [.int a0, .int a1, .int a2]) (rest := []) ⟨hx, hb, hml, hown, hts⟩ (c_X11_lowers l g hm mv a0 a1 a2 _ g2) (cwV 3 hts gX11_cutsToLowerBySpreading_X11_lowers rfl rfl rfl hd_X11_lowers ⟨Nat.le_of_ble_eq_true rfl, Nat.le_of_ble_eq_true rfl⟩) hK hZ hT hA hP hD hS hl.1 (va_recv hK hP (ci := 10) (q0 := 0) rfl rfl) rfl rfl (Nat.le_of_ble_eq_true rfl) ⟨Nat.le_of_ble_eq_true rfl, Nat.le_of_ble_eq_true rfl⟩ dX11_cutsToLowerBySpreading_4 (fun H locs hP hD hS => ?_)
  cases hf
  subst hQ
  exact rt_i hx hb hrt hlk rfl hK hP hD hS (Nat.le_of_ble_eq_true rfl) (Nat.le_of_ble_eq_true rfl) dX11_cutsToLowerBySpreading_7
def f_X11_marksLower_J94 (mv : MV) (x1 : Int32) (x2 : Int32) (y0 : Int32) (y1 : Int32) : Option (Sum (Int32 × MV) (Int32 × MV)) :=
  if jIn y1 30 then
  jbN (mSMarks (upd (mMarks mv) y1.toNatClampNeg y0) mv) fun w13 =>
  some (.inl ((x2 + 1), w13))
  else none
def f_X11_marksLower_J58 (mv : MV) (x1 : Int32) (x2 : Int32) (x3 : Int32) (y0 : Int32) : Option (Sum (Int32 × MV) (Int32 × MV)) :=
  if y0 = 0 then
  (if jIn x1 30 then
  f_X11_marksLower_J94 mv x1 x2 ((mMarks mv) x1.toNatClampNeg) x1
  else none)
  else
  (if jIn x1 30 then
  if jIn x3 30 then
  f_X11_marksLower_J94 mv x1 x2 (jMin ((mMarks mv) x1.toNatClampNeg) ((mMarks mv) x3.toNatClampNeg)) x1
  else none
  else none)
def f_X11_marksLower_J57 (mv : MV) (x1 : Int32) (x2 : Int32) (x3 : Int32) : Option (Sum (Int32 × MV) (Int32 × MV)) :=
  f_X11_marksLower_J58 mv x1 x2 x3 0
def f_X11_marksLower_L2 (x1 : Int32) (x2 : Int32) (mv : MV) : Option (Sum (Int32 × MV) (Int32 × MV)) :=
  if 4 ≤ x2 then
  (some (.inr (x2, mv)))
  else
  (if jIn x1 30 then
  if ((mMarks mv) x1.toNatClampNeg) = (-1) then
  (some (.inr (x2, mv)))
  else
  ((f_X11_beside x1 x2).bind fun o2 =>
  if o2 = (-1) then
  (f_X11_marksLower_J57 mv x1 x2 o2)
  else
  (if jIn o2 30 then
  if ((mMarks mv) o2.toNatClampNeg) = (-1) then
  (f_X11_marksLower_J57 mv x1 x2 o2)
  else
  ((f_X11_of mv o2 1).bind fun o5 =>
  (f_X11_of mv x1 1).bind fun o7 =>
  if o5 = o7 then
  (f_X11_marksLower_J58 mv x1 x2 o2 1)
  else
  (f_X11_marksLower_J57 mv x1 x2 o2))
  else none))
  else none)
def f_X11_marksLower (mv : MV) (a0 : Int32) : Option MV :=
  (jbL (fun s => f_X11_marksLower_L2 a0 (s.1) (s.2)) 5000 (0, mv)).bind fun o2 =>
  some (o2.2)
def rm_X11_marksLower : Room := { frames := 3, cells := 0, slots := 0, locals := 66 }
theorem hd_X11_marksLower : yX11_marksLower.cls = RX11 ∧ yX11_marksLower.cls ≠ "java/lang/invoke/MethodHandle" ∧ yX11_marksLower.cls ≠ "java/lang/invoke/VarHandle" ∧ (parseMethodDescriptor yX11_marksLower.desc).map (fun d => d.parameters.length) = some 1 := by decide +kernel
set_option maxHeartbeats 4000000 in
set_option maxRecDepth 100000 in
theorem c_X11_marksLower (l : Launch) (g : GG) (hm : Nat → Nat) (mv : MV)  (a0 : Int32) (out : MV) (hf : f_X11_marksLower mv a0 = some out) : MtV l yX11_marksLower wsX11_marksLower rm_X11_marksLower g (wM g hm mv) [.ref (hm 0), .int a0]  (wM g hm out) 0 0 := by
  refine fun sz => mt_of (cc := cX11_marksLower) (maxL := 5) (ret := none) (own := RX11) (Qc := fun A => va_Qv (fun (_ : Unit) => True) (fun _ t => PosM g A (wM g hm out) t) A) (by decide +kernel) rfl rfl (Nat.le_of_ble_eq_true rfl) ?_ sz
  intro p e s mi below meth c A ls hB hnm hrt hlk hP hD hl
  obtain ⟨hx, hb, hml, hown, hts, hK, hZ, hT, hA, -⟩ := hB
  have hS : va_S A s.heap s.heap [] := va_S.rf
  have hl : lv_has ls 5 [(0, .ref (hm 0)), (1, .int a0)] := hl
  have hinX11 : ∀ w ∈ wsX110, w ∈ wsX11_marksLower := by decide +kernel
  have k0 := hts (.fieldLink RX11 29 "TerraceQuarryModel" "marks" "[I") (by decide +kernel)
  have k1 := hts (.methodLink RX11 169 Lib.Math.min.name) (by decide +kernel)
  have k2 := hts (.static Lib.Math.min.name) (by decide +kernel)
  have k3 := hts (.initialized "java/lang/Math") (by decide +kernel)
  have k4 := hts (.code Lib.Math.min.name Lib.Math.min.code 2 (some .int)) (by decide +kernel)
  generalize hQ : MQ below _ _ _ _ _ _ = Q
  unfold f_X11_marksLower at hf
  have hL2 : ∀ (x1 : Int32) (n : Nat) (x2 : Int32) (mv : MV) (H : Heap) (locs : List Loc) (ls : Array Slot) (o2 : Int32 × MV), jbL (fun s => f_X11_marksLower_L2 x1 (s.1) (s.2)) n (x2, mv) = some o2 → va_P (gD g) vwCl (wM g hm mv) H → va_D A (wM g hm mv) → va_S A s.heap H locs → lv_has ls 5 [(0, .ref (hm 0)), (1, .int x1), (2, .int x2)] → (∀ (H : Heap) (locs : List Loc) (ls : Array Slot), va_P (gD g) vwCl (wM g hm (o2.2)) H → va_D A (wM g hm (o2.2)) → va_S A s.heap H locs → lv_has ls 5 [] → W p l e rm_X11_marksLower s mi [.ref (hm 0), .int a0].toArray below meth c H locs 0 0 Q (F0 mi 101 ls [])) → W p l e rm_X11_marksLower s mi [.ref (hm 0), .int a0].toArray below meth c H locs 0 0 Q (F0 mi 2 ls []) := by
    intro x1 n
    induction n with
    | zero => intro x2 mv H locs ls o2 hf; exact absurd hf (jbL_0 _ _ _)
    | succ n ih =>
      intro x2 mv H locs ls o2 hf hP hD hS hl hk
      obtain ⟨r, hf, hr⟩ := jbL_e hf
      have hf : f_X11_marksLower_L2 x1 x2 mv = some r := hf
      unfold f_X11_marksLower_L2 at hf
      have hJ94 : ∀ (mv : MV) (x2 : Int32) (y0 : Int32) (y1 : Int32) (H : Heap) (locs : List Loc) (ls : Array Slot) (r : Sum (Int32 × MV) (Int32 × MV)), f_X11_marksLower_J94 mv x1 x2 y0 y1 = some r → jbR (fun s => f_X11_marksLower_L2 x1 (s.1) (s.2)) n o2 r → va_P (gD g) vwCl (wM g hm mv) H → va_D A (wM g hm mv) → va_S A s.heap H locs → lv_has ls 5 [(0, .ref (hm 0)), (1, .int x1), (2, .int x2)] → W p l e rm_X11_marksLower s mi [.ref (hm 0), .int a0].toArray below meth c H locs 0 0 Q (F0 mi 94 ls [.int y0, .int y1, .ref (hm 5)]) := by
        intro mv x2 y0 y1 H locs ls r hf hr hP hD hS hl
        unfold f_X11_marksLower_J94 at hf
        obtain ⟨h12, hf⟩ := jbA_e hf
        refine va_iast hx hb hK hP hD hS 5 0 rfl rfl h12 dX11_marksLower_94 (fun H locs hP hD hS => ?_)
        obtain ⟨w13, ew13⟩ : ∃ y, y = (mSMarks (upd (mMarks mv) y1.toNatClampNeg y0) mv) := ⟨_, rfl⟩
        have hf := jbN_e hf ew13
        have hP : va_P (gD g) vwCl (wM g hm w13) H := by rw [ew13]; exact hP
        have hD : va_D A (wM g hm w13) := by rw [ew13]; exact hD
        refine lv_iinc (v := (x2 + 1)) (lv' := [(2, .int (x2 + 1)), (0, .ref (hm 0)), (1, .int x1)]) hx hb dX11_marksLower_95 hl (k := 2) rfl rfl (by decide) rfl (fun ls hl => ?_)
        refine lv_goto (tgt := 2) hx hb dX11_marksLower_98 (by decide) ?_
        cases hf
        exact ih (x2 + 1) w13 _ _ _ _ hr hP hD hS (lv_sub hl [1, 2, 0] rfl) hk
      have hJ58 : ∀ (mv : MV) (x2 : Int32) (x3 : Int32) (y0 : Int32) (H : Heap) (locs : List Loc) (ls : Array Slot) (r : Sum (Int32 × MV) (Int32 × MV)), f_X11_marksLower_J58 mv x1 x2 x3 y0 = some r → jbR (fun s => f_X11_marksLower_L2 x1 (s.1) (s.2)) n o2 r → va_P (gD g) vwCl (wM g hm mv) H → va_D A (wM g hm mv) → va_S A s.heap H locs → lv_has ls 5 [(0, .ref (hm 0)), (1, .int x1), (2, .int x2), (3, .int x3)] → W p l e rm_X11_marksLower s mi [.ref (hm 0), .int a0].toArray below meth c H locs 0 0 Q (F0 mi 58 ls [.int y0]) := by
        intro mv x2 x3 y0 H locs ls r hf hr hP hD hS hl
        unfold f_X11_marksLower_J58 at hf
        refine lv_istore (lv' := [(4, .int y0), (0, .ref (hm 0)), (1, .int x1), (2, .int x2), (3, .int x3)]) hx hb dX11_marksLower_58 hl (by decide) rfl (fun ls hl => ?_)
        refine lv_aload_n hx hb dX11_marksLower_60 rfl (lv_at hl 1 rfl) ?_
        refine va_get (D := gD g) (ci := 10) (v := .ref (hm 5)) (C := RX11) (T := TX11) (N := 19) hx hb hts hinX11 hown hK hP 0 rfl rfl 8 (by decide) k0 (fun _ h9 => h9) rfl dX11_marksLower_61 ?_
        refine lv_iload_n hx hb dX11_marksLower_64 rfl (lv_at hl 2 rfl) ?_
        refine lv_iload hx hb dX11_marksLower_65 (lv_at hl 0 rfl) ?_
        refine lv_if_eq (tgt := 88) hx hb dX11_marksLower_67 (by decide) (fun hc => ?_) (fun hc => ?_)
        · have hf := jbT hf hc
          refine lv_aload_n hx hb dX11_marksLower_88 rfl (lv_at hl 1 rfl) ?_
          refine va_get (D := gD g) (ci := 10) (v := .ref (hm 5)) (C := RX11) (T := TX11) (N := 19) hx hb hts hinX11 hown hK hP 0 rfl rfl 8 (by decide) k0 (fun _ h9 => h9) rfl dX11_marksLower_89 ?_
          refine lv_iload_n hx hb dX11_marksLower_92 rfl (lv_at hl 2 rfl) ?_
          obtain ⟨h9, hf⟩ := jbA_e hf
          refine va_iald hx hb hK hP 5 0 rfl rfl h9 dX11_marksLower_93 ?_
          exact hJ94 mv x2 ((mMarks mv) x1.toNatClampNeg) x1 _ _ _ _ hf hr hP hD hS (lv_sub hl [1, 2, 3] rfl)
        · have hf := jbF hf hc
          refine lv_aload_n hx hb dX11_marksLower_70 rfl (lv_at hl 1 rfl) ?_
          refine va_get (D := gD g) (ci := 10) (v := .ref (hm 5)) (C := RX11) (T := TX11) (N := 19) hx hb hts hinX11 hown hK hP 0 rfl rfl 8 (by decide) k0 (fun _ h9 => h9) rfl dX11_marksLower_71 ?_
          refine lv_iload_n hx hb dX11_marksLower_74 rfl (lv_at hl 2 rfl) ?_
          obtain ⟨h10, hf⟩ := jbA_e hf
          refine va_iald hx hb hK hP 5 0 rfl rfl h10 dX11_marksLower_75 ?_
          refine lv_aload_n hx hb dX11_marksLower_76 rfl (lv_at hl 1 rfl) ?_
          refine va_get (D := gD g) (ci := 10) (v := .ref (hm 5)) (C := RX11) (T := TX11) (N := 19) hx hb hts hinX11 hown hK hP 0 rfl rfl 8 (by decide) k0 (fun _ h9 => h9) rfl dX11_marksLower_77 ?_
          refine lv_iload_n hx hb dX11_marksLower_80 rfl (lv_at hl 4 rfl) ?_
          obtain ⟨h11, hf⟩ := jbA_e hf
          refine va_iald hx hb hK hP 5 0 rfl rfl h11 dX11_marksLower_81 ?_
          refine va_mmin hx hb (hml.trans hl.1.symm) hown k1 k2 k3 k4 (Nat.le_of_ble_eq_true rfl) (Nat.le_of_ble_eq_true rfl) (Nat.le_of_ble_eq_true rfl) (Nat.le_of_ble_eq_true rfl) dX11_marksLower_82 ?_
          refine lv_goto (tgt := 94) hx hb dX11_marksLower_85 (by decide) ?_
          exact hJ94 mv x2 (jMin ((mMarks mv) x1.toNatClampNeg) ((mMarks mv) x3.toNatClampNeg)) x1 _ _ _ _ hf hr hP hD hS (lv_sub hl [1, 2, 3] rfl)
      have hJ57 : ∀ (mv : MV) (x2 : Int32) (x3 : Int32) (H : Heap) (locs : List Loc) (ls : Array Slot) (r : Sum (Int32 × MV) (Int32 × MV)), f_X11_marksLower_J57 mv x1 x2 x3 = some r → jbR (fun s => f_X11_marksLower_L2 x1 (s.1) (s.2)) n o2 r → va_P (gD g) vwCl (wM g hm mv) H → va_D A (wM g hm mv) → va_S A s.heap H locs → lv_has ls 5 [(0, .ref (hm 0)), (1, .int x1), (2, .int x2), (3, .int x3)] → W p l e rm_X11_marksLower s mi [.ref (hm 0), .int a0].toArray below meth c H locs 0 0 Q (F0 mi 57 ls []) := by
        intro mv x2 x3 H locs ls r hf hr hP hD hS hl
        unfold f_X11_marksLower_J57 at hf
        refine lv_iconst (v := 0) hx hb dX11_marksLower_57 (by decide) ?_
        exact hJ58 mv x2 x3 0 _ _ _ _ hf hr hP hD hS (lv_sub hl [0, 1, 2, 3] rfl)
      refine lv_iload_n hx hb dX11_marksLower_2 rfl (lv_at hl 2 rfl) ?_
      refine lv_iconst (v := 4) hx hb dX11_marksLower_3 (by decide) ?_
      refine lv_icmp_ge (tgt := 101) hx hb dX11_marksLower_4 (by decide) (fun hc => ?_) (fun hc => ?_)
      · have hf := jbT hf hc
        cases hf
        obtain rfl := jbR_r hr
        exact hk _ _ _ hP hD hS (lv_sub hl [] rfl)
      · have hf := jbF hf hc
        refine lv_aload_n hx hb dX11_marksLower_7 rfl (lv_at hl 0 rfl) ?_
        refine va_get (D := gD g) (ci := 10) (v := .ref (hm 5)) (C := RX11) (T := TX11) (N := 19) hx hb hts hinX11 hown hK hP 0 rfl rfl 8 (by decide) k0 (fun _ h9 => h9) rfl dX11_marksLower_8 ?_
        refine lv_iload_n hx hb dX11_marksLower_11 rfl (lv_at hl 1 rfl) ?_
        obtain ⟨h1, hf⟩ := jbA_e hf
        refine va_iald hx hb hK hP 5 0 rfl rfl h1 dX11_marksLower_12 ?_
        refine lv_iconst (v := (-1)) hx hb dX11_marksLower_13 (by decide) ?_
        refine lv_icmp_eq (tgt := 101) hx hb dX11_marksLower_14 (by decide) (fun hc => ?_) (fun hc => ?_)
        · have hf := jbT hf hc
          cases hf
          obtain rfl := jbR_r hr
          exact hk _ _ _ hP hD hS (lv_sub hl [] rfl)
        · have hf := jbF hf hc
          refine lv_iload_n hx hb dX11_marksLower_17 rfl (lv_at hl 1 rfl) ?_
          refine lv_iload_n hx hb dX11_marksLower_18 rfl (lv_at hl 2 rfl) ?_
          obtain ⟨o2, g3, hf⟩ := jbB_e hf
          refine csn_i (As := [.int x1, .int x2]) (rest := []) ⟨hx, hb, hml, hown, hts⟩ (c_X11_beside l g x1 x2 _ g3) (va_cwS 2 hts gX11_marksLower_X11_beside rfl rfl rfl hd_X11_beside ⟨Nat.le_of_ble_eq_true rfl, Nat.le_of_ble_eq_true rfl⟩) hK hZ hT hA hP hD hS hl.1 rfl rfl (Nat.le_of_ble_eq_true rfl) ⟨Nat.le_of_ble_eq_true rfl, Nat.le_of_ble_eq_true rfl⟩ dX11_marksLower_19 (fun H locs hP hD hS => ?_)
          refine lv_istore_n (lv' := [(3, .int o2), (0, .ref (hm 0)), (1, .int x1), (2, .int x2)]) hx hb dX11_marksLower_22 rfl hl (by decide) rfl (fun ls hl => ?_)
          refine lv_iload_n hx hb dX11_marksLower_23 rfl (lv_at hl 0 rfl) ?_
          refine lv_iconst (v := (-1)) hx hb dX11_marksLower_24 (by decide) ?_
          refine lv_icmp_eq (tgt := 57) hx hb dX11_marksLower_25 (by decide) (fun hc => ?_) (fun hc => ?_)
          · have hf := jbT hf hc
            exact hJ57 mv x2 o2 _ _ _ _ hf hr hP hD hS (lv_sub hl [1, 2, 3, 0] rfl)
          · have hf := jbF hf hc
            refine lv_aload_n hx hb dX11_marksLower_28 rfl (lv_at hl 1 rfl) ?_
            refine va_get (D := gD g) (ci := 10) (v := .ref (hm 5)) (C := RX11) (T := TX11) (N := 19) hx hb hts hinX11 hown hK hP 0 rfl rfl 8 (by decide) k0 (fun _ h9 => h9) rfl dX11_marksLower_29 ?_
            refine lv_iload_n hx hb dX11_marksLower_32 rfl (lv_at hl 0 rfl) ?_
            obtain ⟨h4, hf⟩ := jbA_e hf
            refine va_iald hx hb hK hP 5 0 rfl rfl h4 dX11_marksLower_33 ?_
            refine lv_iconst (v := (-1)) hx hb dX11_marksLower_34 (by decide) ?_
            refine lv_icmp_eq (tgt := 57) hx hb dX11_marksLower_35 (by decide) (fun hc => ?_) (fun hc => ?_)
            · have hf := jbT hf hc
              exact hJ57 mv x2 o2 _ _ _ _ hf hr hP hD hS (lv_sub hl [1, 2, 3, 0] rfl)
            · have hf := jbF hf hc
              refine lv_aload_n hx hb dX11_marksLower_38 rfl (lv_at hl 1 rfl) ?_
              refine lv_iload_n hx hb dX11_marksLower_39 rfl (lv_at hl 0 rfl) ?_
              refine lv_iconst (v := 1) hx hb dX11_marksLower_40 (by decide) ?_
              obtain ⟨o5, g6, hf⟩ := jbB_e hf
              refine cva_i (As := [.int o2, .int 1]) (rest := []) ⟨hx, hb, hml, hown, hts⟩ (c_X11_of l g hm mv o2 1 _ g6) (cwV 2 hts gX11_marksLower_X11_of rfl rfl rfl hd_X11_of ⟨Nat.le_of_ble_eq_true rfl, Nat.le_of_ble_eq_true rfl⟩) hK hZ hT hA hP hD hS hl.1 (va_recv hK hP (ci := 10) (q0 := 0) rfl rfl) rfl rfl (Nat.le_of_ble_eq_true rfl) ⟨Nat.le_of_ble_eq_true rfl, Nat.le_of_ble_eq_true rfl⟩ dX11_marksLower_41 (fun H locs hP hD hS => ?_)
              refine lv_aload_n hx hb dX11_marksLower_44 rfl (lv_at hl 1 rfl) ?_
              refine lv_iload_n hx hb dX11_marksLower_45 rfl (lv_at hl 2 rfl) ?_
              refine lv_iconst (v := 1) hx hb dX11_marksLower_46 (by decide) ?_
              obtain ⟨o7, g8, hf⟩ := jbB_e hf
              refine cva_i (As := [.int x1, .int 1]) (rest := [.int o5]) ⟨hx, hb, hml, hown, hts⟩ (c_X11_of l g hm mv x1 1 _ g8) (cwV 2 hts gX11_marksLower_X11_of rfl rfl rfl hd_X11_of ⟨Nat.le_of_ble_eq_true rfl, Nat.le_of_ble_eq_true rfl⟩) hK hZ hT hA hP hD hS hl.1 (va_recv hK hP (ci := 10) (q0 := 0) rfl rfl) rfl rfl (Nat.le_of_ble_eq_true rfl) ⟨Nat.le_of_ble_eq_true rfl, Nat.le_of_ble_eq_true rfl⟩ dX11_marksLower_47 (fun H locs hP hD hS => ?_)
              refine lv_icmp_ne (tgt := 57) hx hb dX11_marksLower_50 (by decide) (fun hc => ?_) (fun hc => ?_)
              · have hf := jbF hf hc
                exact hJ57 mv x2 o2 _ _ _ _ hf hr hP hD hS (lv_sub hl [1, 2, 3, 0] rfl)
              · have hf := jbT hf hc
                refine lv_iconst (v := 1) hx hb dX11_marksLower_53 (by decide) ?_
                refine lv_goto (tgt := 58) hx hb dX11_marksLower_54 (by decide) ?_
                exact hJ58 mv x2 o2 1 _ _ _ _ hf hr hP hD hS (lv_sub hl [1, 2, 3, 0] rfl)
  refine lv_iconst (v := 0) hx hb dX11_marksLower_0 (by decide) ?_
  refine lv_istore_n (lv' := [(2, .int 0), (0, .ref (hm 0)), (1, .int a0)]) hx hb dX11_marksLower_1 rfl hl (by decide) rfl (fun ls hl => ?_)
  obtain ⟨o2, hg, hf⟩ := jbB_e hf
  refine hL2 a0 _ 0 mv _ _ _ _ hg hP hD hS (lv_sub hl [1, 2, 0] rfl) (fun H locs ls hP hD hS hl => ?_)
  cases hf
  subst hQ
  exact rt_v hx hb hrt hlk hK hP hD hS (Nat.le_of_ble_eq_true rfl) (Nat.le_of_ble_eq_true rfl) dX11_marksLower_101
def f_X11_marksSeams_L44 (x1 : Int32) (x2 : Int32) (mv : MV) : Option (Sum (Int32 × MV) (Int32 × MV)) :=
  if 30 ≤ x2 then
  (some (.inr (x2, mv)))
  else
  ((f_X11_marksLower mv x2).bind fun o5 =>
  some (.inl ((x2 + 1), o5)))
def f_X11_marksSeams_L36 (x1 : Int32) (mv : MV) : Option (Sum (Int32 × MV) (Int32 × MV)) :=
  if 30 ≤ x1 then
  (some (.inr (x1, mv)))
  else
  ((jbL (fun s => f_X11_marksSeams_L44 x1 (s.1) (s.2)) 5000 (0, mv)).bind fun o44 =>
  some (.inl ((x1 + 1), (o44.2))))
def f_X11_marksSeams_J27 (mv : MV) (x1 : Int32) (y0 : Int32) (y1 : Int32) : Option (Sum (Int32 × MV) (Int32 × MV)) :=
  if jIn y1 30 then
  jbN (mSMarks (upd (mMarks mv) y1.toNatClampNeg y0) mv) fun w4 =>
  some (.inl ((x1 + 1), w4))
  else none
def f_X11_marksSeams_L2 (x1 : Int32) (mv : MV) : Option (Sum (Int32 × MV) (Int32 × MV)) :=
  if 30 ≤ x1 then
  (some (.inr (x1, mv)))
  else
  ((f_X11_of mv x1 0).bind fun o1 =>
  if o1 ≤ 0 then
  (f_X11_marksSeams_J27 mv x1 (-1) x1)
  else
  (f_X11_marksSeams_J27 mv x1 x1 x1))
def f_X11_marksSeams (mv : MV) : Option MV :=
  (jbL (fun s => f_X11_marksSeams_L2 (s.1) (s.2)) 5000 (0, mv)).bind fun o2 =>
  (jbL (fun s => f_X11_marksSeams_L36 (s.1) (s.2)) 5000 (0, (o2.2))).bind fun o36 =>
  some (o36.2)
def rm_X11_marksSeams : Room := { frames := 4, cells := 0, slots := 0, locals := 90 }
theorem hd_X11_marksSeams : yX11_marksSeams.cls = RX11 ∧ yX11_marksSeams.cls ≠ "java/lang/invoke/MethodHandle" ∧ yX11_marksSeams.cls ≠ "java/lang/invoke/VarHandle" ∧ (parseMethodDescriptor yX11_marksSeams.desc).map (fun d => d.parameters.length) = some 0 := by decide +kernel
set_option maxHeartbeats 4000000 in
set_option maxRecDepth 100000 in
theorem c_X11_marksSeams (l : Launch) (g : GG) (hm : Nat → Nat) (mv : MV)   (out : MV) (hf : f_X11_marksSeams mv = some out) : MtV l yX11_marksSeams wsX11_marksSeams rm_X11_marksSeams g (wM g hm mv) [.ref (hm 0)]  (wM g hm out) 0 0 := by
  refine fun sz => mt_of (cc := cX11_marksSeams) (maxL := 3) (ret := none) (own := RX11) (Qc := fun A => va_Qv (fun (_ : Unit) => True) (fun _ t => PosM g A (wM g hm out) t) A) (by decide +kernel) rfl rfl (Nat.le_of_ble_eq_true rfl) ?_ sz
  intro p e s mi below meth c A ls hB hnm hrt hlk hP hD hl
  obtain ⟨hx, hb, hml, hown, hts, hK, hZ, hT, hA, -⟩ := hB
  have hS : va_S A s.heap s.heap [] := va_S.rf
  have hl : lv_has ls 3 [(0, .ref (hm 0))] := hl
  have hinX11 : ∀ w ∈ wsX110, w ∈ wsX11_marksSeams := by decide +kernel
  have k0 := hts (.fieldLink RX11 29 "TerraceQuarryModel" "marks" "[I") (by decide +kernel)
  generalize hQ : MQ below _ _ _ _ _ _ = Q
  unfold f_X11_marksSeams at hf
  have hL36 : ∀ (n : Nat) (x1 : Int32) (mv : MV) (H : Heap) (locs : List Loc) (ls : Array Slot) (o36 : Int32 × MV), jbL (fun s => f_X11_marksSeams_L36 (s.1) (s.2)) n (x1, mv) = some o36 → va_P (gD g) vwCl (wM g hm mv) H → va_D A (wM g hm mv) → va_S A s.heap H locs → lv_has ls 3 [(0, .ref (hm 0)), (1, .int x1)] → (∀ (H : Heap) (locs : List Loc) (ls : Array Slot), va_P (gD g) vwCl (wM g hm (o36.2)) H → va_D A (wM g hm (o36.2)) → va_S A s.heap H locs → lv_has ls 3 [] → W p l e rm_X11_marksSeams s mi [.ref (hm 0)].toArray below meth c H locs 0 0 Q (F0 mi 67 ls [])) → W p l e rm_X11_marksSeams s mi [.ref (hm 0)].toArray below meth c H locs 0 0 Q (F0 mi 36 ls []) := by
    intro n
    induction n with
    | zero => intro x1 mv H locs ls o36 hf; exact absurd hf (jbL_0 _ _ _)
    | succ n ih =>
      intro x1 mv H locs ls o36 hf hP hD hS hl hk
      obtain ⟨r, hf, hr⟩ := jbL_e hf
      have hf : f_X11_marksSeams_L36 x1 mv = some r := hf
      unfold f_X11_marksSeams_L36 at hf
      have hL44 : ∀ (x1 : Int32) (n : Nat) (x2 : Int32) (mv : MV) (H : Heap) (locs : List Loc) (ls : Array Slot) (o44 : Int32 × MV), jbL (fun s => f_X11_marksSeams_L44 x1 (s.1) (s.2)) n (x2, mv) = some o44 → va_P (gD g) vwCl (wM g hm mv) H → va_D A (wM g hm mv) → va_S A s.heap H locs → lv_has ls 3 [(0, .ref (hm 0)), (1, .int x1), (2, .int x2)] → (∀ (H : Heap) (locs : List Loc) (ls : Array Slot), va_P (gD g) vwCl (wM g hm (o44.2)) H → va_D A (wM g hm (o44.2)) → va_S A s.heap H locs → lv_has ls 3 [(0, .ref (hm 0)), (1, .int x1)] → W p l e rm_X11_marksSeams s mi [.ref (hm 0)].toArray below meth c H locs 0 0 Q (F0 mi 61 ls [])) → W p l e rm_X11_marksSeams s mi [.ref (hm 0)].toArray below meth c H locs 0 0 Q (F0 mi 44 ls []) := by
        intro x1 n
        induction n with
        | zero => intro x2 mv H locs ls o44 hf; exact absurd hf (jbL_0 _ _ _)
        | succ n ih =>
          intro x2 mv H locs ls o44 hf hP hD hS hl hk
          obtain ⟨r, hf, hr⟩ := jbL_e hf
          have hf : f_X11_marksSeams_L44 x1 x2 mv = some r := hf
          unfold f_X11_marksSeams_L44 at hf
          refine lv_iload_n hx hb dX11_marksSeams_44 rfl (lv_at hl 2 rfl) ?_
          refine lv_bipush (v := 30) hx hb dX11_marksSeams_45 (by decide) ?_
          refine lv_icmp_ge (tgt := 61) hx hb dX11_marksSeams_47 (by decide) (fun hc => ?_) (fun hc => ?_)
          · have hf := jbT hf hc
            cases hf
            obtain rfl := jbR_r hr
            exact hk _ _ _ hP hD hS (lv_sub hl [0, 1] rfl)
          · have hf := jbF hf hc
            refine lv_aload_n hx hb dX11_marksSeams_50 rfl (lv_at hl 0 rfl) ?_
            refine lv_iload_n hx hb dX11_marksSeams_51 rfl (lv_at hl 2 rfl) ?_
            obtain ⟨o5, g6, hf⟩ := jbB_e hf
            refine cva_v (As := [.int x2]) (rest := []) ⟨hx, hb, hml, hown, hts⟩ (c_X11_marksLower l g hm mv x2 _ g6) (cwV 1 hts gX11_marksSeams_X11_marksLower rfl rfl rfl hd_X11_marksLower ⟨Nat.le_of_ble_eq_true rfl, Nat.le_of_ble_eq_true rfl⟩) hK hZ hT hA hP hD hS hl.1 (va_recv hK hP (ci := 10) (q0 := 0) rfl rfl) rfl rfl (Nat.le_of_ble_eq_true rfl) ⟨Nat.le_of_ble_eq_true rfl, Nat.le_of_ble_eq_true rfl⟩ dX11_marksSeams_52 (fun H locs hP hD hS => ?_)
            refine lv_iinc (v := (x2 + 1)) (lv' := [(2, .int (x2 + 1)), (0, .ref (hm 0)), (1, .int x1)]) hx hb dX11_marksSeams_55 hl (k := 2) rfl rfl (by decide) rfl (fun ls hl => ?_)
            refine lv_goto (tgt := 44) hx hb dX11_marksSeams_58 (by decide) ?_
            cases hf
            exact ih (x2 + 1) o5 _ _ _ _ hr hP hD hS (lv_sub hl [1, 2, 0] rfl) hk
      refine lv_iload_n hx hb dX11_marksSeams_36 rfl (lv_at hl 1 rfl) ?_
      refine lv_bipush (v := 30) hx hb dX11_marksSeams_37 (by decide) ?_
      refine lv_icmp_ge (tgt := 67) hx hb dX11_marksSeams_39 (by decide) (fun hc => ?_) (fun hc => ?_)
      · have hf := jbT hf hc
        cases hf
        obtain rfl := jbR_r hr
        exact hk _ _ _ hP hD hS (lv_sub hl [] rfl)
      · have hf := jbF hf hc
        refine lv_iconst (v := 0) hx hb dX11_marksSeams_42 (by decide) ?_
        refine lv_istore_n (lv' := [(2, .int 0), (0, .ref (hm 0)), (1, .int x1)]) hx hb dX11_marksSeams_43 rfl hl (by decide) rfl (fun ls hl => ?_)
        obtain ⟨o44, hg, hf⟩ := jbB_e hf
        refine hL44 x1 _ 0 mv _ _ _ _ hg hP hD hS (lv_sub hl [1, 2, 0] rfl) (fun H locs ls hP hD hS hl => ?_)
        refine lv_iinc (v := (x1 + 1)) (lv' := [(1, .int (x1 + 1)), (0, .ref (hm 0))]) hx hb dX11_marksSeams_61 hl (k := 1) rfl rfl (by decide) rfl (fun ls hl => ?_)
        refine lv_goto (tgt := 36) hx hb dX11_marksSeams_64 (by decide) ?_
        cases hf
        exact ih (x1 + 1) (o44.2) _ _ _ _ hr hP hD hS (lv_sub hl [1, 0] rfl) hk
  have hL2 : ∀ (n : Nat) (x1 : Int32) (mv : MV) (H : Heap) (locs : List Loc) (ls : Array Slot) (o2 : Int32 × MV), jbL (fun s => f_X11_marksSeams_L2 (s.1) (s.2)) n (x1, mv) = some o2 → va_P (gD g) vwCl (wM g hm mv) H → va_D A (wM g hm mv) → va_S A s.heap H locs → lv_has ls 3 [(0, .ref (hm 0)), (1, .int x1)] → (∀ (H : Heap) (locs : List Loc) (ls : Array Slot), va_P (gD g) vwCl (wM g hm (o2.2)) H → va_D A (wM g hm (o2.2)) → va_S A s.heap H locs → lv_has ls 3 [(0, .ref (hm 0))] → W p l e rm_X11_marksSeams s mi [.ref (hm 0)].toArray below meth c H locs 0 0 Q (F0 mi 34 ls [])) → W p l e rm_X11_marksSeams s mi [.ref (hm 0)].toArray below meth c H locs 0 0 Q (F0 mi 2 ls []) := by
    intro n
    induction n with
    | zero => intro x1 mv H locs ls o2 hf; exact absurd hf (jbL_0 _ _ _)
    | succ n ih =>
      intro x1 mv H locs ls o2 hf hP hD hS hl hk
      obtain ⟨r, hf, hr⟩ := jbL_e hf
      have hf : f_X11_marksSeams_L2 x1 mv = some r := hf
      unfold f_X11_marksSeams_L2 at hf
      have hJ27 : ∀ (mv : MV) (x1 : Int32) (y0 : Int32) (y1 : Int32) (H : Heap) (locs : List Loc) (ls : Array Slot) (r : Sum (Int32 × MV) (Int32 × MV)), f_X11_marksSeams_J27 mv x1 y0 y1 = some r → jbR (fun s => f_X11_marksSeams_L2 (s.1) (s.2)) n o2 r → va_P (gD g) vwCl (wM g hm mv) H → va_D A (wM g hm mv) → va_S A s.heap H locs → lv_has ls 3 [(0, .ref (hm 0)), (1, .int x1)] → W p l e rm_X11_marksSeams s mi [.ref (hm 0)].toArray below meth c H locs 0 0 Q (F0 mi 27 ls [.int y0, .int y1, .ref (hm 5)]) := by
        intro mv x1 y0 y1 H locs ls r hf hr hP hD hS hl
        unfold f_X11_marksSeams_J27 at hf
        obtain ⟨h3, hf⟩ := jbA_e hf
        refine va_iast hx hb hK hP hD hS 5 0 rfl rfl h3 dX11_marksSeams_27 (fun H locs hP hD hS => ?_)
        obtain ⟨w4, ew4⟩ : ∃ y, y = (mSMarks (upd (mMarks mv) y1.toNatClampNeg y0) mv) := ⟨_, rfl⟩
        have hf := jbN_e hf ew4
        have hP : va_P (gD g) vwCl (wM g hm w4) H := by rw [ew4]; exact hP
        have hD : va_D A (wM g hm w4) := by rw [ew4]; exact hD
        refine lv_iinc (v := (x1 + 1)) (lv' := [(1, .int (x1 + 1)), (0, .ref (hm 0))]) hx hb dX11_marksSeams_28 hl (k := 1) rfl rfl (by decide) rfl (fun ls hl => ?_)
        refine lv_goto (tgt := 2) hx hb dX11_marksSeams_31 (by decide) ?_
        cases hf
        exact ih (x1 + 1) w4 _ _ _ _ hr hP hD hS (lv_sub hl [1, 0] rfl) hk
      refine lv_iload_n hx hb dX11_marksSeams_2 rfl (lv_at hl 1 rfl) ?_
      refine lv_bipush (v := 30) hx hb dX11_marksSeams_3 (by decide) ?_
      refine lv_icmp_ge (tgt := 34) hx hb dX11_marksSeams_5 (by decide) (fun hc => ?_) (fun hc => ?_)
      · have hf := jbT hf hc
        cases hf
        obtain rfl := jbR_r hr
        exact hk _ _ _ hP hD hS (lv_sub hl [0] rfl)
      · have hf := jbF hf hc
        refine lv_aload_n hx hb dX11_marksSeams_8 rfl (lv_at hl 0 rfl) ?_
        refine va_get (D := gD g) (ci := 10) (v := .ref (hm 5)) (C := RX11) (T := TX11) (N := 19) hx hb hts hinX11 hown hK hP 0 rfl rfl 8 (by decide) k0 (fun _ h9 => h9) rfl dX11_marksSeams_9 ?_
        refine lv_iload_n hx hb dX11_marksSeams_12 rfl (lv_at hl 1 rfl) ?_
        refine lv_aload_n hx hb dX11_marksSeams_13 rfl (lv_at hl 0 rfl) ?_
        refine lv_iload_n hx hb dX11_marksSeams_14 rfl (lv_at hl 1 rfl) ?_
        refine lv_iconst (v := 0) hx hb dX11_marksSeams_15 (by decide) ?_
        obtain ⟨o1, g2, hf⟩ := jbB_e hf
        refine cva_i (As := [.int x1, .int 0]) (rest := [.int x1, .ref (hm 5)]) ⟨hx, hb, hml, hown, hts⟩ (c_X11_of l g hm mv x1 0 _ g2) (cwV 2 hts gX11_marksSeams_X11_of rfl rfl rfl hd_X11_of ⟨Nat.le_of_ble_eq_true rfl, Nat.le_of_ble_eq_true rfl⟩) hK hZ hT hA hP hD hS hl.1 (va_recv hK hP (ci := 10) (q0 := 0) rfl rfl) rfl rfl (Nat.le_of_ble_eq_true rfl) ⟨Nat.le_of_ble_eq_true rfl, Nat.le_of_ble_eq_true rfl⟩ dX11_marksSeams_16 (fun H locs hP hD hS => ?_)
        refine lv_if_le (tgt := 26) hx hb dX11_marksSeams_19 (by decide) (fun hc => ?_) (fun hc => ?_)
        · have hf := jbT hf hc
          refine lv_iconst (v := (-1)) hx hb dX11_marksSeams_26 (by decide) ?_
          exact hJ27 mv x1 (-1) x1 _ _ _ _ hf hr hP hD hS (lv_sub hl [0, 1] rfl)
        · have hf := jbF hf hc
          refine lv_iload_n hx hb dX11_marksSeams_22 rfl (lv_at hl 1 rfl) ?_
          refine lv_goto (tgt := 27) hx hb dX11_marksSeams_23 (by decide) ?_
          exact hJ27 mv x1 x1 x1 _ _ _ _ hf hr hP hD hS (lv_sub hl [0, 1] rfl)
  refine lv_iconst (v := 0) hx hb dX11_marksSeams_0 (by decide) ?_
  refine lv_istore_n (lv' := [(1, .int 0), (0, .ref (hm 0))]) hx hb dX11_marksSeams_1 rfl hl (by decide) rfl (fun ls hl => ?_)
  obtain ⟨o2, hg, hf⟩ := jbB_e hf
  refine hL2 _ 0 mv _ _ _ _ hg hP hD hS (lv_sub hl [1, 0] rfl) (fun H locs ls hP hD hS hl => ?_)
  refine lv_iconst (v := 0) hx hb dX11_marksSeams_34 (by decide) ?_
  refine lv_istore_n (lv' := [(1, .int 0), (0, .ref (hm 0))]) hx hb dX11_marksSeams_35 rfl hl (by decide) rfl (fun ls hl => ?_)
  obtain ⟨o36, hg, hf⟩ := jbB_e hf
  refine hL36 _ 0 (o2.2) _ _ _ _ hg hP hD hS (lv_sub hl [1, 0] rfl) (fun H locs ls hP hD hS hl => ?_)
  cases hf
  subst hQ
  exact rt_v hx hb hrt hlk hK hP hD hS (Nat.le_of_ble_eq_true rfl) (Nat.le_of_ble_eq_true rfl) dX11_marksSeams_67
def f_X11_seam_J82 (mv : MV) (x3 : Int32) (x4 : Int32) (x6 : Int32) (y0 : Int32) (y1 : Int32) : Option (Sum (Int32 × Int32) (Int32 × Int32)) :=
  jbN (y1 + y0) fun z14 =>
  some (.inl (z14, (x6 + 1)))
def f_X11_seam_J81 (mv : MV) (x3 : Int32) (x4 : Int32) (x6 : Int32) (y0 : Int32) : Option (Sum (Int32 × Int32) (Int32 × Int32)) :=
  f_X11_seam_J82 mv x3 x4 x6 0 y0
def f_X11_seam_L36 (mv : MV) (x3 : Int32) (x4 : Int32) (x5 : Int32) (x6 : Int32) : Option (Sum (Int32 × Int32) (Int32 × Int32)) :=
  if 30 ≤ x6 then
  (some (.inr (x5, x6)))
  else
  (if x4 = (-1) then
  (f_X11_seam_J81 mv x3 x4 x6 x5)
  else
  (if jIn x6 30 then
  if ((mMarks mv) x6.toNatClampNeg) = x4 then
  (if x3 = 0 then
  (f_X11_seam_J82 mv x3 x4 x6 1 x5)
  else
  ((f_X11_of mv x6 0).bind fun o12 =>
  f_X11_seam_J82 mv x3 x4 x6 o12 x5))
  else
  (f_X11_seam_J81 mv x3 x4 x6 x5)
  else none))
def f_X11_seam (mv : MV) (a0 : Int32) (a1 : Int32) (a2 : Int32) : Option (Int32 × MV) :=
  (f_X11_isCell a0 a1).bind fun o1 =>
  (f_X11_goes mv o1).bind fun o3 =>
  if (o3.1) = 0 then
  (some (0, (o3.2)))
  else
  ((f_X11_marksSeams (o3.2)).bind fun o5 =>
  (f_X11_cellAt a0 a1).bind fun o7 =>
  if jIn o7 30 then
  jbN ((mMarks o5) o7.toNatClampNeg) fun z10 =>
  (jbL (fun s => f_X11_seam_L36 o5 a2 z10 (s.1) (s.2)) 5000 (0, 0)).bind fun o36 =>
  some ((o36.1), o5)
  else none)
def rm_X11_seam : Room := { frames := 5, cells := 0, slots := 0, locals := 112 }
theorem hd_X11_seam : yX11_seam.cls = RX11 ∧ yX11_seam.cls ≠ "java/lang/invoke/MethodHandle" ∧ yX11_seam.cls ≠ "java/lang/invoke/VarHandle" ∧ (parseMethodDescriptor yX11_seam.desc).map (fun d => d.parameters.length) = some 3 := by decide +kernel
set_option maxHeartbeats 4000000 in
set_option maxRecDepth 100000 in
theorem c_X11_seam (l : Launch) (g : GG) (hm : Nat → Nat) (mv : MV)  (a0 : Int32) (a1 : Int32) (a2 : Int32) (out : Int32 × MV) (hf : f_X11_seam mv a0 a1 a2 = some out) : MtI l yX11_seam wsX11_seam rm_X11_seam g (wM g hm mv) [.ref (hm 0), .int a0, .int a1, .int a2] (out.1) (wM g hm (out.2)) 0 0 := by
  refine fun sz => mt_of (cc := cX11_seam) (maxL := 7) (ret := (some .int)) (own := RX11) (Qc := fun A => va_Qi (fun r (_ : Unit) => r = (out.1)) (fun _ t => PosM g A (wM g hm (out.2)) t) A) (by decide +kernel) rfl rfl (Nat.le_of_ble_eq_true rfl) ?_ sz
  intro p e s mi below meth c A ls hB hnm hrt hlk hP hD hl
  obtain ⟨hx, hb, hml, hown, hts, hK, hZ, hT, hA, -⟩ := hB
  have hS : va_S A s.heap s.heap [] := va_S.rf
  have hl : lv_has ls 7 [(0, .ref (hm 0)), (1, .int a0), (2, .int a1), (3, .int a2)] := hl
  have hinX11 : ∀ w ∈ wsX110, w ∈ wsX11_seam := by decide +kernel
  have k0 := hts (.fieldLink RX11 29 "TerraceQuarryModel" "marks" "[I") (by decide +kernel)
  generalize hQ : MQ below _ _ _ _ _ _ = Q
  unfold f_X11_seam at hf
  have hL36 : ∀ (mv : MV) (x3 : Int32) (x4 : Int32) (n : Nat) (x5 : Int32) (x6 : Int32) (H : Heap) (locs : List Loc) (ls : Array Slot) (o36 : Int32 × Int32), jbL (fun s => f_X11_seam_L36 mv x3 x4 (s.1) (s.2)) n (x5, x6) = some o36 → va_P (gD g) vwCl (wM g hm mv) H → va_D A (wM g hm mv) → va_S A s.heap H locs → lv_has ls 7 [(0, .ref (hm 0)), (3, .int x3), (4, .int x4), (5, .int x5), (6, .int x6)] → (∀ (H : Heap) (locs : List Loc) (ls : Array Slot), va_P (gD g) vwCl (wM g hm mv) H → va_D A (wM g hm mv) → va_S A s.heap H locs → lv_has ls 7 [(5, .int (o36.1))] → W p l e rm_X11_seam s mi [.ref (hm 0), .int a0, .int a1, .int a2].toArray below meth c H locs 0 0 Q (F0 mi 91 ls [])) → W p l e rm_X11_seam s mi [.ref (hm 0), .int a0, .int a1, .int a2].toArray below meth c H locs 0 0 Q (F0 mi 36 ls []) := by
    intro mv x3 x4 n
    induction n with
    | zero => intro x5 x6 H locs ls o36 hf; exact absurd hf (jbL_0 _ _ _)
    | succ n ih =>
      intro x5 x6 H locs ls o36 hf hP hD hS hl hk
      obtain ⟨r, hf, hr⟩ := jbL_e hf
      have hf : f_X11_seam_L36 mv x3 x4 x5 x6 = some r := hf
      unfold f_X11_seam_L36 at hf
      have hJ82 : ∀ (x6 : Int32) (y0 : Int32) (y1 : Int32) (H : Heap) (locs : List Loc) (ls : Array Slot) (r : Sum (Int32 × Int32) (Int32 × Int32)), f_X11_seam_J82 mv x3 x4 x6 y0 y1 = some r → jbR (fun s => f_X11_seam_L36 mv x3 x4 (s.1) (s.2)) n o36 r → va_P (gD g) vwCl (wM g hm mv) H → va_D A (wM g hm mv) → va_S A s.heap H locs → lv_has ls 7 [(0, .ref (hm 0)), (3, .int x3), (4, .int x4), (6, .int x6)] → W p l e rm_X11_seam s mi [.ref (hm 0), .int a0, .int a1, .int a2].toArray below meth c H locs 0 0 Q (F0 mi 82 ls [.int y0, .int y1]) := by
        intro x6 y0 y1 H locs ls r hf hr hP hD hS hl
        unfold f_X11_seam_J82 at hf
        refine lv_iadd hx hb dX11_seam_82 ?_
        refine lv_topi (fun z14 ez14 => ?_)
        have hf := jbN_e hf ez14
        refine lv_istore (lv' := [(5, .int z14), (0, .ref (hm 0)), (3, .int x3), (4, .int x4), (6, .int x6)]) hx hb dX11_seam_83 hl (by decide) rfl (fun ls hl => ?_)
        refine lv_iinc (v := (x6 + 1)) (lv' := [(6, .int (x6 + 1)), (5, .int z14), (0, .ref (hm 0)), (3, .int x3), (4, .int x4)]) hx hb dX11_seam_85 hl (k := 4) rfl rfl (by decide) rfl (fun ls hl => ?_)
        refine lv_goto (tgt := 36) hx hb dX11_seam_88 (by decide) ?_
        cases hf
        exact ih z14 (x6 + 1) _ _ _ _ hr hP hD hS (lv_sub hl [2, 3, 4, 1, 0] rfl) hk
      have hJ81 : ∀ (x6 : Int32) (y0 : Int32) (H : Heap) (locs : List Loc) (ls : Array Slot) (r : Sum (Int32 × Int32) (Int32 × Int32)), f_X11_seam_J81 mv x3 x4 x6 y0 = some r → jbR (fun s => f_X11_seam_L36 mv x3 x4 (s.1) (s.2)) n o36 r → va_P (gD g) vwCl (wM g hm mv) H → va_D A (wM g hm mv) → va_S A s.heap H locs → lv_has ls 7 [(0, .ref (hm 0)), (3, .int x3), (4, .int x4), (6, .int x6)] → W p l e rm_X11_seam s mi [.ref (hm 0), .int a0, .int a1, .int a2].toArray below meth c H locs 0 0 Q (F0 mi 81 ls [.int y0]) := by
        intro x6 y0 H locs ls r hf hr hP hD hS hl
        unfold f_X11_seam_J81 at hf
        refine lv_iconst (v := 0) hx hb dX11_seam_81 (by decide) ?_
        exact hJ82 x6 0 y0 _ _ _ _ hf hr hP hD hS (lv_sub hl [0, 1, 2, 3] rfl)
      refine lv_iload hx hb dX11_seam_36 (lv_at hl 4 rfl) ?_
      refine lv_bipush (v := 30) hx hb dX11_seam_38 (by decide) ?_
      refine lv_icmp_ge (tgt := 91) hx hb dX11_seam_40 (by decide) (fun hc => ?_) (fun hc => ?_)
      · have hf := jbT hf hc
        cases hf
        obtain rfl := jbR_r hr
        exact hk _ _ _ hP hD hS (lv_sub hl [3] rfl)
      · have hf := jbF hf hc
        refine lv_iload hx hb dX11_seam_43 (lv_at hl 3 rfl) ?_
        refine lv_iload hx hb dX11_seam_45 (lv_at hl 2 rfl) ?_
        refine lv_iconst (v := (-1)) hx hb dX11_seam_47 (by decide) ?_
        refine lv_icmp_eq (tgt := 81) hx hb dX11_seam_48 (by decide) (fun hc => ?_) (fun hc => ?_)
        · have hf := jbT hf hc
          exact hJ81 x6 x5 _ _ _ _ hf hr hP hD hS (lv_sub hl [0, 1, 2, 4] rfl)
        · have hf := jbF hf hc
          refine lv_aload_n hx hb dX11_seam_51 rfl (lv_at hl 0 rfl) ?_
          refine va_get (D := gD g) (ci := 10) (v := .ref (hm 5)) (C := RX11) (T := TX11) (N := 19) hx hb hts hinX11 hown hK hP 0 rfl rfl 8 (by decide) k0 (fun _ h9 => h9) rfl dX11_seam_52 ?_
          refine lv_iload hx hb dX11_seam_55 (lv_at hl 4 rfl) ?_
          obtain ⟨h11, hf⟩ := jbA_e hf
          refine va_iald hx hb hK hP 5 0 rfl rfl h11 dX11_seam_57 ?_
          refine lv_iload hx hb dX11_seam_58 (lv_at hl 2 rfl) ?_
          refine lv_icmp_ne (tgt := 81) hx hb dX11_seam_60 (by decide) (fun hc => ?_) (fun hc => ?_)
          · have hf := jbF hf hc
            exact hJ81 x6 x5 _ _ _ _ hf hr hP hD hS (lv_sub hl [0, 1, 2, 4] rfl)
          · have hf := jbT hf hc
            refine lv_iload_n hx hb dX11_seam_63 rfl (lv_at hl 1 rfl) ?_
            refine lv_if_eq (tgt := 77) hx hb dX11_seam_64 (by decide) (fun hc => ?_) (fun hc => ?_)
            · have hf := jbT hf hc
              refine lv_iconst (v := 1) hx hb dX11_seam_77 (by decide) ?_
              refine lv_goto (tgt := 82) hx hb dX11_seam_78 (by decide) ?_
              exact hJ82 x6 1 x5 _ _ _ _ hf hr hP hD hS (lv_sub hl [0, 1, 2, 4] rfl)
            · have hf := jbF hf hc
              refine lv_aload_n hx hb dX11_seam_67 rfl (lv_at hl 0 rfl) ?_
              refine lv_iload hx hb dX11_seam_68 (lv_at hl 4 rfl) ?_
              refine lv_iconst (v := 0) hx hb dX11_seam_70 (by decide) ?_
              obtain ⟨o12, g13, hf⟩ := jbB_e hf
              refine cva_i (As := [.int x6, .int 0]) (rest := [.int x5]) ⟨hx, hb, hml, hown, hts⟩ (c_X11_of l g hm mv x6 0 _ g13) (cwV 2 hts gX11_seam_X11_of rfl rfl rfl hd_X11_of ⟨Nat.le_of_ble_eq_true rfl, Nat.le_of_ble_eq_true rfl⟩) hK hZ hT hA hP hD hS hl.1 (va_recv hK hP (ci := 10) (q0 := 0) rfl rfl) rfl rfl (Nat.le_of_ble_eq_true rfl) ⟨Nat.le_of_ble_eq_true rfl, Nat.le_of_ble_eq_true rfl⟩ dX11_seam_71 (fun H locs hP hD hS => ?_)
              refine lv_goto (tgt := 82) hx hb dX11_seam_74 (by decide) ?_
              exact hJ82 x6 o12 x5 _ _ _ _ hf hr hP hD hS (lv_sub hl [0, 1, 2, 4] rfl)
  refine lv_aload_n hx hb dX11_seam_0 rfl (lv_at hl 0 rfl) ?_
  refine lv_iload_n hx hb dX11_seam_1 rfl (lv_at hl 1 rfl) ?_
  refine lv_iload_n hx hb dX11_seam_2 rfl (lv_at hl 2 rfl) ?_
  obtain ⟨o1, g2, hf⟩ := jbB_e hf
  refine csn_i (As := [.int a0, .int a1]) (rest := [.ref (hm 0)]) ⟨hx, hb, hml, hown, hts⟩ (c_X11_isCell l g a0 a1 _ g2) (va_cwS 2 hts gX11_seam_X11_isCell rfl rfl rfl hd_X11_isCell ⟨Nat.le_of_ble_eq_true rfl, Nat.le_of_ble_eq_true rfl⟩) hK hZ hT hA hP hD hS hl.1 rfl rfl (Nat.le_of_ble_eq_true rfl) ⟨Nat.le_of_ble_eq_true rfl, Nat.le_of_ble_eq_true rfl⟩ dX11_seam_3 (fun H locs hP hD hS => ?_)
  obtain ⟨o3, g4, hf⟩ := jbB_e hf
  refine cva_i (As := [.int o1]) (rest := []) ⟨hx, hb, hml, hown, hts⟩ (c_X11_goes l g hm mv o1 _ g4) (cwV 1 hts gX11_seam_X11_goes rfl rfl rfl hd_X11_goes ⟨Nat.le_of_ble_eq_true rfl, Nat.le_of_ble_eq_true rfl⟩) hK hZ hT hA hP hD hS hl.1 (va_recv hK hP (ci := 10) (q0 := 0) rfl rfl) rfl rfl (Nat.le_of_ble_eq_true rfl) ⟨Nat.le_of_ble_eq_true rfl, Nat.le_of_ble_eq_true rfl⟩ dX11_seam_6 (fun H locs hP hD hS => ?_)
  refine lv_if_ne (tgt := 14) hx hb dX11_seam_9 (by decide) (fun hc => ?_) (fun hc => ?_)
  · have hf := jbF hf hc
    refine lv_aload_n hx hb dX11_seam_14 rfl (lv_at hl 0 rfl) ?_
    obtain ⟨o5, g6, hf⟩ := jbB_e hf
    refine cva_v (As := []) (rest := []) ⟨hx, hb, hml, hown, hts⟩ (c_X11_marksSeams l g hm (o3.2) _ g6) (cwV 0 hts gX11_seam_X11_marksSeams rfl rfl rfl hd_X11_marksSeams ⟨Nat.le_of_ble_eq_true rfl, Nat.le_of_ble_eq_true rfl⟩) hK hZ hT hA hP hD hS hl.1 (va_recv hK hP (ci := 10) (q0 := 0) rfl rfl) rfl rfl (Nat.le_of_ble_eq_true rfl) ⟨Nat.le_of_ble_eq_true rfl, Nat.le_of_ble_eq_true rfl⟩ dX11_seam_15 (fun H locs hP hD hS => ?_)
    refine lv_aload_n hx hb dX11_seam_18 rfl (lv_at hl 0 rfl) ?_
    refine va_get (D := gD g) (ci := 10) (v := .ref (hm 5)) (C := RX11) (T := TX11) (N := 19) hx hb hts hinX11 hown hK hP 0 rfl rfl 8 (by decide) k0 (fun _ h9 => h9) rfl dX11_seam_19 ?_
    refine lv_iload_n hx hb dX11_seam_22 rfl (lv_at hl 1 rfl) ?_
    refine lv_iload_n hx hb dX11_seam_23 rfl (lv_at hl 2 rfl) ?_
    obtain ⟨o7, g8, hf⟩ := jbB_e hf
    refine csn_i (As := [.int a0, .int a1]) (rest := [.ref (hm 5)]) ⟨hx, hb, hml, hown, hts⟩ (c_X11_cellAt l g a0 a1 _ g8) (va_cwS 2 hts gX11_seam_X11_cellAt rfl rfl rfl hd_X11_cellAt ⟨Nat.le_of_ble_eq_true rfl, Nat.le_of_ble_eq_true rfl⟩) hK hZ hT hA hP hD hS hl.1 rfl rfl (Nat.le_of_ble_eq_true rfl) ⟨Nat.le_of_ble_eq_true rfl, Nat.le_of_ble_eq_true rfl⟩ dX11_seam_24 (fun H locs hP hD hS => ?_)
    obtain ⟨h9, hf⟩ := jbA_e hf
    refine va_iald hx hb hK hP 5 0 rfl rfl h9 dX11_seam_27 ?_
    refine lv_topi (fun z10 ez10 => ?_)
    have hf := jbN_e hf ez10
    refine lv_istore (lv' := [(4, .int z10), (0, .ref (hm 0)), (1, .int a0), (2, .int a1), (3, .int a2)]) hx hb dX11_seam_28 hl (by decide) rfl (fun ls hl => ?_)
    refine lv_iconst (v := 0) hx hb dX11_seam_30 (by decide) ?_
    refine lv_istore (lv' := [(5, .int 0), (4, .int z10), (0, .ref (hm 0)), (1, .int a0), (2, .int a1), (3, .int a2)]) hx hb dX11_seam_31 hl (by decide) rfl (fun ls hl => ?_)
    refine lv_iconst (v := 0) hx hb dX11_seam_33 (by decide) ?_
    refine lv_istore (lv' := [(6, .int 0), (5, .int 0), (4, .int z10), (0, .ref (hm 0)), (1, .int a0), (2, .int a1), (3, .int a2)]) hx hb dX11_seam_34 hl (by decide) rfl (fun ls hl => ?_)
    obtain ⟨o36, hg, hf⟩ := jbB_e hf
    refine hL36 o5 a2 z10 _ 0 0 _ _ _ _ hg hP hD hS (lv_sub hl [3, 6, 2, 1, 0] rfl) (fun H locs ls hP hD hS hl => ?_)
    refine lv_iload hx hb dX11_seam_91 (lv_at hl 0 rfl) ?_
    cases hf
    subst hQ
    exact rt_i hx hb hrt hlk rfl hK hP hD hS (Nat.le_of_ble_eq_true rfl) (Nat.le_of_ble_eq_true rfl) dX11_seam_93
  · have hf := jbT hf hc
    refine lv_iconst (v := 0) hx hb dX11_seam_12 (by decide) ?_
    cases hf
    subst hQ
    exact rt_i hx hb hrt hlk rfl hK hP hD hS (Nat.le_of_ble_eq_true rfl) (Nat.le_of_ble_eq_true rfl) dX11_seam_13
def f_X11_seamSize (mv : MV) (a0 : Int32) (a1 : Int32) : Option (Int32 × MV) :=
  (f_X11_seam mv a0 a1 0).bind fun o1 =>
  some ((o1.1), (o1.2))
def rm_X11_seamSize : Room := { frames := 6, cells := 0, slots := 0, locals := 138 }
theorem hd_X11_seamSize : yX11_seamSize.cls = RX11 ∧ yX11_seamSize.cls ≠ "java/lang/invoke/MethodHandle" ∧ yX11_seamSize.cls ≠ "java/lang/invoke/VarHandle" ∧ (parseMethodDescriptor yX11_seamSize.desc).map (fun d => d.parameters.length) = some 2 := by decide +kernel
set_option maxHeartbeats 4000000 in
set_option maxRecDepth 100000 in
theorem c_X11_seamSize (l : Launch) (g : GG) (hm : Nat → Nat) (mv : MV)  (a0 : Int32) (a1 : Int32) (out : Int32 × MV) (hf : f_X11_seamSize mv a0 a1 = some out) : MtI l yX11_seamSize wsX11_seamSize rm_X11_seamSize g (wM g hm mv) [.ref (hm 0), .int a0, .int a1] (out.1) (wM g hm (out.2)) 0 0 := by
  refine fun sz => mt_of (cc := cX11_seamSize) (maxL := 3) (ret := (some .int)) (own := RX11) (Qc := fun A => va_Qi (fun r (_ : Unit) => r = (out.1)) (fun _ t => PosM g A (wM g hm (out.2)) t) A) (by decide +kernel) rfl rfl (Nat.le_of_ble_eq_true rfl) ?_ sz
  intro p e s mi below meth c A ls hB hnm hrt hlk hP hD hl
  obtain ⟨hx, hb, hml, hown, hts, hK, hZ, hT, hA, -⟩ := hB
  have hS : va_S A s.heap s.heap [] := va_S.rf
  have hl : lv_has ls 3 [(0, .ref (hm 0)), (1, .int a0), (2, .int a1)] := hl
  generalize hQ : MQ below _ _ _ _ _ _ = Q
  unfold f_X11_seamSize at hf
  refine lv_aload_n hx hb dX11_seamSize_0 rfl (lv_at hl 0 rfl) ?_
  refine lv_iload_n hx hb dX11_seamSize_1 rfl (lv_at hl 1 rfl) ?_
  refine lv_iload_n hx hb dX11_seamSize_2 rfl (lv_at hl 2 rfl) ?_
  refine lv_iconst (v := 0) hx hb dX11_seamSize_3 (by decide) ?_
  obtain ⟨o1, g2, hf⟩ := jbB_e hf
  refine cva_i (As := [.int a0, .int a1, .int 0]) (rest := []) ⟨hx, hb, hml, hown, hts⟩ (c_X11_seam l g hm mv a0 a1 0 _ g2) (cwV 3 hts gX11_seamSize_X11_seam rfl rfl rfl hd_X11_seam ⟨Nat.le_of_ble_eq_true rfl, Nat.le_of_ble_eq_true rfl⟩) hK hZ hT hA hP hD hS hl.1 (va_recv hK hP (ci := 10) (q0 := 0) rfl rfl) rfl rfl (Nat.le_of_ble_eq_true rfl) ⟨Nat.le_of_ble_eq_true rfl, Nat.le_of_ble_eq_true rfl⟩ dX11_seamSize_4 (fun H locs hP hD hS => ?_)
  cases hf
  subst hQ
  exact rt_i hx hb hrt hlk rfl hK hP hD hS (Nat.le_of_ble_eq_true rfl) (Nat.le_of_ble_eq_true rfl) dX11_seamSize_7
def f_X11_seamVolume (mv : MV) (a0 : Int32) (a1 : Int32) : Option (Int32 × MV) :=
  (f_X11_seam mv a0 a1 1).bind fun o1 =>
  some ((o1.1), (o1.2))
def rm_X11_seamVolume : Room := { frames := 6, cells := 0, slots := 0, locals := 138 }
theorem hd_X11_seamVolume : yX11_seamVolume.cls = RX11 ∧ yX11_seamVolume.cls ≠ "java/lang/invoke/MethodHandle" ∧ yX11_seamVolume.cls ≠ "java/lang/invoke/VarHandle" ∧ (parseMethodDescriptor yX11_seamVolume.desc).map (fun d => d.parameters.length) = some 2 := by decide +kernel
set_option maxHeartbeats 4000000 in
set_option maxRecDepth 100000 in
theorem c_X11_seamVolume (l : Launch) (g : GG) (hm : Nat → Nat) (mv : MV)  (a0 : Int32) (a1 : Int32) (out : Int32 × MV) (hf : f_X11_seamVolume mv a0 a1 = some out) : MtI l yX11_seamVolume wsX11_seamVolume rm_X11_seamVolume g (wM g hm mv) [.ref (hm 0), .int a0, .int a1] (out.1) (wM g hm (out.2)) 0 0 := by
  refine fun sz => mt_of (cc := cX11_seamVolume) (maxL := 3) (ret := (some .int)) (own := RX11) (Qc := fun A => va_Qi (fun r (_ : Unit) => r = (out.1)) (fun _ t => PosM g A (wM g hm (out.2)) t) A) (by decide +kernel) rfl rfl (Nat.le_of_ble_eq_true rfl) ?_ sz
  intro p e s mi below meth c A ls hB hnm hrt hlk hP hD hl
  obtain ⟨hx, hb, hml, hown, hts, hK, hZ, hT, hA, -⟩ := hB
  have hS : va_S A s.heap s.heap [] := va_S.rf
  have hl : lv_has ls 3 [(0, .ref (hm 0)), (1, .int a0), (2, .int a1)] := hl
  generalize hQ : MQ below _ _ _ _ _ _ = Q
  unfold f_X11_seamVolume at hf
  refine lv_aload_n hx hb dX11_seamVolume_0 rfl (lv_at hl 0 rfl) ?_
  refine lv_iload_n hx hb dX11_seamVolume_1 rfl (lv_at hl 1 rfl) ?_
  refine lv_iload_n hx hb dX11_seamVolume_2 rfl (lv_at hl 2 rfl) ?_
  refine lv_iconst (v := 1) hx hb dX11_seamVolume_3 (by decide) ?_
  obtain ⟨o1, g2, hf⟩ := jbB_e hf
  refine cva_i (As := [.int a0, .int a1, .int 1]) (rest := []) ⟨hx, hb, hml, hown, hts⟩ (c_X11_seam l g hm mv a0 a1 1 _ g2) (cwV 3 hts gX11_seamVolume_X11_seam rfl rfl rfl hd_X11_seam ⟨Nat.le_of_ble_eq_true rfl, Nat.le_of_ble_eq_true rfl⟩) hK hZ hT hA hP hD hS hl.1 (va_recv hK hP (ci := 10) (q0 := 0) rfl rfl) rfl rfl (Nat.le_of_ble_eq_true rfl) ⟨Nat.le_of_ble_eq_true rfl, Nat.le_of_ble_eq_true rfl⟩ dX11_seamVolume_4 (fun H locs hP hD hS => ?_)
  cases hf
  subst hQ
  exact rt_i hx hb hrt hlk rfl hK hP hD hS (Nat.le_of_ble_eq_true rfl) (Nat.le_of_ble_eq_true rfl) dX11_seamVolume_7
def f_X11_seams_J35 (mv : MV) (x2 : Int32) (y0 : Int32) (y1 : Int32) : Option (Sum (Int32 × Int32) (Int32 × Int32)) :=
  jbN (y1 + y0) fun z5 =>
  some (.inl (z5, (x2 + 1)))
def f_X11_seams_L13 (mv : MV) (x1 : Int32) (x2 : Int32) : Option (Sum (Int32 × Int32) (Int32 × Int32)) :=
  if 30 ≤ x2 then
  (some (.inr (x1, x2)))
  else
  (if jIn x2 30 then
  if ((mMarks mv) x2.toNatClampNeg) = x2 then
  (f_X11_seams_J35 mv x2 1 x1)
  else
  (f_X11_seams_J35 mv x2 0 x1)
  else none)
def f_X11_seams (mv : MV) : Option (Int32 × MV) :=
  jbN (mSThrown 0 mv) fun w1 =>
  (f_X11_marksSeams w1).bind fun o2 =>
  (jbL (fun s => f_X11_seams_L13 o2 (s.1) (s.2)) 5000 (0, 0)).bind fun o13 =>
  some ((o13.1), o2)
def rm_X11_seams : Room := { frames := 5, cells := 0, slots := 0, locals := 112 }
theorem hd_X11_seams : yX11_seams.cls = RX11 ∧ yX11_seams.cls ≠ "java/lang/invoke/MethodHandle" ∧ yX11_seams.cls ≠ "java/lang/invoke/VarHandle" ∧ (parseMethodDescriptor yX11_seams.desc).map (fun d => d.parameters.length) = some 0 := by decide +kernel
set_option maxHeartbeats 4000000 in
set_option maxRecDepth 100000 in
theorem c_X11_seams (l : Launch) (g : GG) (hm : Nat → Nat) (mv : MV)   (out : Int32 × MV) (hf : f_X11_seams mv = some out) : MtI l yX11_seams wsX11_seams rm_X11_seams g (wM g hm mv) [.ref (hm 0)] (out.1) (wM g hm (out.2)) 0 0 := by
  refine fun sz => mt_of (cc := cX11_seams) (maxL := 3) (ret := (some .int)) (own := RX11) (Qc := fun A => va_Qi (fun r (_ : Unit) => r = (out.1)) (fun _ t => PosM g A (wM g hm (out.2)) t) A) (by decide +kernel) rfl rfl (Nat.le_of_ble_eq_true rfl) ?_ sz
  intro p e s mi below meth c A ls hB hnm hrt hlk hP hD hl
  obtain ⟨hx, hb, hml, hown, hts, hK, hZ, hT, hA, -⟩ := hB
  have hS : va_S A s.heap s.heap [] := va_S.rf
  have hl : lv_has ls 3 [(0, .ref (hm 0))] := hl
  have hinX11 : ∀ w ∈ wsX110, w ∈ wsX11_seams := by decide +kernel
  have k0 := hts (.fieldLink RX11 45 "TerraceQuarryModel" "thrown" "I") (by decide +kernel)
  have k1 := hts (.fieldLink RX11 29 "TerraceQuarryModel" "marks" "[I") (by decide +kernel)
  generalize hQ : MQ below _ _ _ _ _ _ = Q
  unfold f_X11_seams at hf
  have hL13 : ∀ (mv : MV) (n : Nat) (x1 : Int32) (x2 : Int32) (H : Heap) (locs : List Loc) (ls : Array Slot) (o13 : Int32 × Int32), jbL (fun s => f_X11_seams_L13 mv (s.1) (s.2)) n (x1, x2) = some o13 → va_P (gD g) vwCl (wM g hm mv) H → va_D A (wM g hm mv) → va_S A s.heap H locs → lv_has ls 3 [(0, .ref (hm 0)), (1, .int x1), (2, .int x2)] → (∀ (H : Heap) (locs : List Loc) (ls : Array Slot), va_P (gD g) vwCl (wM g hm mv) H → va_D A (wM g hm mv) → va_S A s.heap H locs → lv_has ls 3 [(1, .int (o13.1))] → W p l e rm_X11_seams s mi [.ref (hm 0)].toArray below meth c H locs 0 0 Q (F0 mi 43 ls [])) → W p l e rm_X11_seams s mi [.ref (hm 0)].toArray below meth c H locs 0 0 Q (F0 mi 13 ls []) := by
    intro mv n
    induction n with
    | zero => intro x1 x2 H locs ls o13 hf; exact absurd hf (jbL_0 _ _ _)
    | succ n ih =>
      intro x1 x2 H locs ls o13 hf hP hD hS hl hk
      obtain ⟨r, hf, hr⟩ := jbL_e hf
      have hf : f_X11_seams_L13 mv x1 x2 = some r := hf
      unfold f_X11_seams_L13 at hf
      have hJ35 : ∀ (x2 : Int32) (y0 : Int32) (y1 : Int32) (H : Heap) (locs : List Loc) (ls : Array Slot) (r : Sum (Int32 × Int32) (Int32 × Int32)), f_X11_seams_J35 mv x2 y0 y1 = some r → jbR (fun s => f_X11_seams_L13 mv (s.1) (s.2)) n o13 r → va_P (gD g) vwCl (wM g hm mv) H → va_D A (wM g hm mv) → va_S A s.heap H locs → lv_has ls 3 [(0, .ref (hm 0)), (2, .int x2)] → W p l e rm_X11_seams s mi [.ref (hm 0)].toArray below meth c H locs 0 0 Q (F0 mi 35 ls [.int y0, .int y1]) := by
        intro x2 y0 y1 H locs ls r hf hr hP hD hS hl
        unfold f_X11_seams_J35 at hf
        refine lv_iadd hx hb dX11_seams_35 ?_
        refine lv_topi (fun z5 ez5 => ?_)
        have hf := jbN_e hf ez5
        refine lv_istore_n (lv' := [(1, .int z5), (0, .ref (hm 0)), (2, .int x2)]) hx hb dX11_seams_36 rfl hl (by decide) rfl (fun ls hl => ?_)
        refine lv_iinc (v := (x2 + 1)) (lv' := [(2, .int (x2 + 1)), (1, .int z5), (0, .ref (hm 0))]) hx hb dX11_seams_37 hl (k := 2) rfl rfl (by decide) rfl (fun ls hl => ?_)
        refine lv_goto (tgt := 13) hx hb dX11_seams_40 (by decide) ?_
        cases hf
        exact ih z5 (x2 + 1) _ _ _ _ hr hP hD hS (lv_sub hl [2, 1, 0] rfl) hk
      refine lv_iload_n hx hb dX11_seams_13 rfl (lv_at hl 2 rfl) ?_
      refine lv_bipush (v := 30) hx hb dX11_seams_14 (by decide) ?_
      refine lv_icmp_ge (tgt := 43) hx hb dX11_seams_16 (by decide) (fun hc => ?_) (fun hc => ?_)
      · have hf := jbT hf hc
        cases hf
        obtain rfl := jbR_r hr
        exact hk _ _ _ hP hD hS (lv_sub hl [1] rfl)
      · have hf := jbF hf hc
        refine lv_iload_n hx hb dX11_seams_19 rfl (lv_at hl 1 rfl) ?_
        refine lv_aload_n hx hb dX11_seams_20 rfl (lv_at hl 0 rfl) ?_
        refine va_get (D := gD g) (ci := 10) (v := .ref (hm 5)) (C := RX11) (T := TX11) (N := 19) hx hb hts hinX11 hown hK hP 0 rfl rfl 8 (by decide) k1 (fun _ h9 => h9) rfl dX11_seams_21 ?_
        refine lv_iload_n hx hb dX11_seams_24 rfl (lv_at hl 2 rfl) ?_
        obtain ⟨h4, hf⟩ := jbA_e hf
        refine va_iald hx hb hK hP 5 0 rfl rfl h4 dX11_seams_25 ?_
        refine lv_iload_n hx hb dX11_seams_26 rfl (lv_at hl 2 rfl) ?_
        refine lv_icmp_ne (tgt := 34) hx hb dX11_seams_27 (by decide) (fun hc => ?_) (fun hc => ?_)
        · have hf := jbF hf hc
          refine lv_iconst (v := 0) hx hb dX11_seams_34 (by decide) ?_
          exact hJ35 x2 0 x1 _ _ _ _ hf hr hP hD hS (lv_sub hl [0, 2] rfl)
        · have hf := jbT hf hc
          refine lv_iconst (v := 1) hx hb dX11_seams_30 (by decide) ?_
          refine lv_goto (tgt := 35) hx hb dX11_seams_31 (by decide) ?_
          exact hJ35 x2 1 x1 _ _ _ _ hf hr hP hD hS (lv_sub hl [0, 2] rfl)
  refine lv_aload_n hx hb dX11_seams_0 rfl (lv_at hl 0 rfl) ?_
  refine lv_iconst (v := 0) hx hb dX11_seams_1 (by decide) ?_
  refine va_put (D := gD g) (ci := 10) (v := .int 0) (ty := .int) (C := RX11) (T := TX11) (N := 19) hx hb hts hinX11 tyX11 tyX11_ok nmX11 hown hK hP hD hS 0 rfl rfl 13 (by decide) k0 (fun _ h9 => h9) rfl (tyX11_ok 13 (by decide)) rfl rfl (Nat.le_of_ble_eq_true rfl) dX11_seams_2 (fun H locs hP hD hS => ?_)
  obtain ⟨w1, ew1⟩ : ∃ y, y = (mSThrown 0 mv) := ⟨_, rfl⟩
  have hf := jbN_e hf ew1
  have hP : va_P (gD g) vwCl (wM g hm w1) H := by rw [ew1]; exact hP
  have hD : va_D A (wM g hm w1) := by rw [ew1]; exact hD
  refine lv_aload_n hx hb dX11_seams_5 rfl (lv_at hl 0 rfl) ?_
  obtain ⟨o2, g3, hf⟩ := jbB_e hf
  refine cva_v (As := []) (rest := []) ⟨hx, hb, hml, hown, hts⟩ (c_X11_marksSeams l g hm w1 _ g3) (cwV 0 hts gX11_seams_X11_marksSeams rfl rfl rfl hd_X11_marksSeams ⟨Nat.le_of_ble_eq_true rfl, Nat.le_of_ble_eq_true rfl⟩) hK hZ hT hA hP hD hS hl.1 (va_recv hK hP (ci := 10) (q0 := 0) rfl rfl) rfl rfl (Nat.le_of_ble_eq_true rfl) ⟨Nat.le_of_ble_eq_true rfl, Nat.le_of_ble_eq_true rfl⟩ dX11_seams_6 (fun H locs hP hD hS => ?_)
  refine lv_iconst (v := 0) hx hb dX11_seams_9 (by decide) ?_
  refine lv_istore_n (lv' := [(1, .int 0), (0, .ref (hm 0))]) hx hb dX11_seams_10 rfl hl (by decide) rfl (fun ls hl => ?_)
  refine lv_iconst (v := 0) hx hb dX11_seams_11 (by decide) ?_
  refine lv_istore_n (lv' := [(2, .int 0), (1, .int 0), (0, .ref (hm 0))]) hx hb dX11_seams_12 rfl hl (by decide) rfl (fun ls hl => ?_)
  obtain ⟨o13, hg, hf⟩ := jbB_e hf
  refine hL13 o2 _ 0 0 _ _ _ _ hg hP hD hS (lv_sub hl [2, 1, 0] rfl) (fun H locs ls hP hD hS hl => ?_)
  refine lv_iload_n hx hb dX11_seams_43 rfl (lv_at hl 0 rfl) ?_
  cases hf
  subst hQ
  exact rt_i hx hb hrt hlk rfl hK hP hD hS (Nat.le_of_ble_eq_true rfl) (Nat.le_of_ble_eq_true rfl) dX11_seams_44
def f_X11_seamCount (mv : MV) : Option (Int32 × MV) :=
  (f_X11_seams mv).bind fun o1 =>
  some ((o1.1), (o1.2))
def rm_X11_seamCount : Room := { frames := 6, cells := 0, slots := 0, locals := 134 }
theorem hd_X11_seamCount : yX11_seamCount.cls = RX11 ∧ yX11_seamCount.cls ≠ "java/lang/invoke/MethodHandle" ∧ yX11_seamCount.cls ≠ "java/lang/invoke/VarHandle" ∧ (parseMethodDescriptor yX11_seamCount.desc).map (fun d => d.parameters.length) = some 0 := by decide +kernel
set_option maxHeartbeats 4000000 in
set_option maxRecDepth 100000 in
theorem c_X11_seamCount (l : Launch) (g : GG) (hm : Nat → Nat) (mv : MV)   (out : Int32 × MV) (hf : f_X11_seamCount mv = some out) : MtI l yX11_seamCount wsX11_seamCount rm_X11_seamCount g (wM g hm mv) [.ref (hm 0)] (out.1) (wM g hm (out.2)) 0 0 := by
  refine fun sz => mt_of (cc := cX11_seamCount) (maxL := 1) (ret := (some .int)) (own := RX11) (Qc := fun A => va_Qi (fun r (_ : Unit) => r = (out.1)) (fun _ t => PosM g A (wM g hm (out.2)) t) A) (by decide +kernel) rfl rfl (Nat.le_of_ble_eq_true rfl) ?_ sz
  intro p e s mi below meth c A ls hB hnm hrt hlk hP hD hl
  obtain ⟨hx, hb, hml, hown, hts, hK, hZ, hT, hA, -⟩ := hB
  have hS : va_S A s.heap s.heap [] := va_S.rf
  have hl : lv_has ls 1 [(0, .ref (hm 0))] := hl
  generalize hQ : MQ below _ _ _ _ _ _ = Q
  unfold f_X11_seamCount at hf
  refine lv_aload_n hx hb dX11_seamCount_0 rfl (lv_at hl 0 rfl) ?_
  obtain ⟨o1, g2, hf⟩ := jbB_e hf
  refine cva_i (As := []) (rest := []) ⟨hx, hb, hml, hown, hts⟩ (c_X11_seams l g hm mv _ g2) (cwV 0 hts gX11_seamCount_X11_seams rfl rfl rfl hd_X11_seams ⟨Nat.le_of_ble_eq_true rfl, Nat.le_of_ble_eq_true rfl⟩) hK hZ hT hA hP hD hS hl.1 (va_recv hK hP (ci := 10) (q0 := 0) rfl rfl) rfl rfl (Nat.le_of_ble_eq_true rfl) ⟨Nat.le_of_ble_eq_true rfl, Nat.le_of_ble_eq_true rfl⟩ dX11_seamCount_1 (fun H locs hP hD hS => ?_)
  cases hf
  subst hQ
  exact rt_i hx hb hrt hlk rfl hK hP hD hS (Nat.le_of_ble_eq_true rfl) (Nat.le_of_ble_eq_true rfl) dX11_seamCount_4
def f_X11_seamCountByMerging (mv : MV) : Option (Int32 × MV) :=
  (f_X11_seams mv).bind fun o1 =>
  some ((o1.1), (o1.2))
def rm_X11_seamCountByMerging : Room := { frames := 6, cells := 0, slots := 0, locals := 134 }
theorem hd_X11_seamCountByMerging : yX11_seamCountByMerging.cls = RX11 ∧ yX11_seamCountByMerging.cls ≠ "java/lang/invoke/MethodHandle" ∧ yX11_seamCountByMerging.cls ≠ "java/lang/invoke/VarHandle" ∧ (parseMethodDescriptor yX11_seamCountByMerging.desc).map (fun d => d.parameters.length) = some 0 := by decide +kernel
set_option maxHeartbeats 4000000 in
set_option maxRecDepth 100000 in
theorem c_X11_seamCountByMerging (l : Launch) (g : GG) (hm : Nat → Nat) (mv : MV)   (out : Int32 × MV) (hf : f_X11_seamCountByMerging mv = some out) : MtI l yX11_seamCountByMerging wsX11_seamCountByMerging rm_X11_seamCountByMerging g (wM g hm mv) [.ref (hm 0)] (out.1) (wM g hm (out.2)) 0 0 := by
  refine fun sz => mt_of (cc := cX11_seamCountByMerging) (maxL := 1) (ret := (some .int)) (own := RX11) (Qc := fun A => va_Qi (fun r (_ : Unit) => r = (out.1)) (fun _ t => PosM g A (wM g hm (out.2)) t) A) (by decide +kernel) rfl rfl (Nat.le_of_ble_eq_true rfl) ?_ sz
  intro p e s mi below meth c A ls hB hnm hrt hlk hP hD hl
  obtain ⟨hx, hb, hml, hown, hts, hK, hZ, hT, hA, -⟩ := hB
  have hS : va_S A s.heap s.heap [] := va_S.rf
  have hl : lv_has ls 1 [(0, .ref (hm 0))] := hl
  generalize hQ : MQ below _ _ _ _ _ _ = Q
  unfold f_X11_seamCountByMerging at hf
  refine lv_aload_n hx hb dX11_seamCountByMerging_0 rfl (lv_at hl 0 rfl) ?_
  obtain ⟨o1, g2, hf⟩ := jbB_e hf
  refine cva_i (As := []) (rest := []) ⟨hx, hb, hml, hown, hts⟩ (c_X11_seams l g hm mv _ g2) (cwV 0 hts gX11_seamCountByMerging_X11_seams rfl rfl rfl hd_X11_seams ⟨Nat.le_of_ble_eq_true rfl, Nat.le_of_ble_eq_true rfl⟩) hK hZ hT hA hP hD hS hl.1 (va_recv hK hP (ci := 10) (q0 := 0) rfl rfl) rfl rfl (Nat.le_of_ble_eq_true rfl) ⟨Nat.le_of_ble_eq_true rfl, Nat.le_of_ble_eq_true rfl⟩ dX11_seamCountByMerging_1 (fun H locs hP hD hS => ?_)
  cases hf
  subst hQ
  exact rt_i hx hb hrt hlk rfl hK hP hD hS (Nat.le_of_ble_eq_true rfl) (Nat.le_of_ble_eq_true rfl) dX11_seamCountByMerging_4
def f_X11_isStride (mv : MV) (a0 : Int32) (a1 : Int32) : Option Int32 :=
  (f_X11_beside a0 a1).bind fun o1 =>
  if o1 = (-1) then
  (some 0)
  else
  ((f_X11_of mv o1 2).bind fun o3 =>
  if o3 = 0 then
  ((f_X11_of mv a0 0).bind fun o5 =>
  (f_X11_of mv o1 0).bind fun o7 =>
  if 1 < (jAbs (o5 - o7)) then
  (some 0)
  else
  (some 1))
  else
  (some 0))
def rm_X11_isStride : Room := { frames := 3, cells := 0, slots := 0, locals := 66 }
theorem hd_X11_isStride : yX11_isStride.cls = RX11 ∧ yX11_isStride.cls ≠ "java/lang/invoke/MethodHandle" ∧ yX11_isStride.cls ≠ "java/lang/invoke/VarHandle" ∧ (parseMethodDescriptor yX11_isStride.desc).map (fun d => d.parameters.length) = some 2 := by decide +kernel
set_option maxHeartbeats 4000000 in
set_option maxRecDepth 100000 in
theorem c_X11_isStride (l : Launch) (g : GG) (hm : Nat → Nat) (mv : MV)  (a0 : Int32) (a1 : Int32) (out : Int32) (hf : f_X11_isStride mv a0 a1 = some out) : MtI l yX11_isStride wsX11_isStride rm_X11_isStride g (wM g hm mv) [.ref (hm 0), .int a0, .int a1] out (wM g hm mv) 0 0 := by
  refine fun sz => mt_of (cc := cX11_isStride) (maxL := 4) (ret := (some .boolean)) (own := RX11) (Qc := fun A => va_Qi (fun r (_ : Unit) => r = out) (fun _ t => PosM g A (wM g hm mv) t) A) (by decide +kernel) rfl rfl (Nat.le_of_ble_eq_true rfl) ?_ sz
  intro p e s mi below meth c A ls hB hnm hrt hlk hP hD hl
  obtain ⟨hx, hb, hml, hown, hts, hK, hZ, hT, hA, -⟩ := hB
  have hS : va_S A s.heap s.heap [] := va_S.rf
  have hl : lv_has ls 4 [(0, .ref (hm 0)), (1, .int a0), (2, .int a1)] := hl
  have k0 := hts (.methodLink RX11 78 Lib.Math.abs.name) (by decide +kernel)
  have k1 := hts (.static Lib.Math.abs.name) (by decide +kernel)
  have k2 := hts (.initialized "java/lang/Math") (by decide +kernel)
  have k3 := hts (.code Lib.Math.abs.name Lib.Math.abs.code 1 (some .int)) (by decide +kernel)
  generalize hQ : MQ below _ _ _ _ _ _ = Q
  unfold f_X11_isStride at hf
  refine lv_iload_n hx hb dX11_isStride_0 rfl (lv_at hl 1 rfl) ?_
  refine lv_iload_n hx hb dX11_isStride_1 rfl (lv_at hl 2 rfl) ?_
  obtain ⟨o1, g2, hf⟩ := jbB_e hf
  refine csn_i (As := [.int a0, .int a1]) (rest := []) ⟨hx, hb, hml, hown, hts⟩ (c_X11_beside l g a0 a1 _ g2) (va_cwS 2 hts gX11_isStride_X11_beside rfl rfl rfl hd_X11_beside ⟨Nat.le_of_ble_eq_true rfl, Nat.le_of_ble_eq_true rfl⟩) hK hZ hT hA hP hD hS hl.1 rfl rfl (Nat.le_of_ble_eq_true rfl) ⟨Nat.le_of_ble_eq_true rfl, Nat.le_of_ble_eq_true rfl⟩ dX11_isStride_2 (fun H locs hP hD hS => ?_)
  refine lv_istore_n (lv' := [(3, .int o1), (0, .ref (hm 0)), (1, .int a0), (2, .int a1)]) hx hb dX11_isStride_5 rfl hl (by decide) rfl (fun ls hl => ?_)
  refine lv_iload_n hx hb dX11_isStride_6 rfl (lv_at hl 0 rfl) ?_
  refine lv_iconst (v := (-1)) hx hb dX11_isStride_7 (by decide) ?_
  refine lv_icmp_eq (tgt := 44) hx hb dX11_isStride_8 (by decide) (fun hc => ?_) (fun hc => ?_)
  · have hf := jbT hf hc
    refine lv_iconst (v := 0) hx hb dX11_isStride_44 (by decide) ?_
    cases hf
    subst hQ
    exact rt_i hx hb hrt hlk nar_0 hK hP hD hS (Nat.le_of_ble_eq_true rfl) (Nat.le_of_ble_eq_true rfl) dX11_isStride_45
  · have hf := jbF hf hc
    refine lv_aload_n hx hb dX11_isStride_11 rfl (lv_at hl 1 rfl) ?_
    refine lv_iload_n hx hb dX11_isStride_12 rfl (lv_at hl 0 rfl) ?_
    refine lv_iconst (v := 2) hx hb dX11_isStride_13 (by decide) ?_
    obtain ⟨o3, g4, hf⟩ := jbB_e hf
    refine cva_i (As := [.int o1, .int 2]) (rest := []) ⟨hx, hb, hml, hown, hts⟩ (c_X11_of l g hm mv o1 2 _ g4) (cwV 2 hts gX11_isStride_X11_of rfl rfl rfl hd_X11_of ⟨Nat.le_of_ble_eq_true rfl, Nat.le_of_ble_eq_true rfl⟩) hK hZ hT hA hP hD hS hl.1 (va_recv hK hP (ci := 10) (q0 := 0) rfl rfl) rfl rfl (Nat.le_of_ble_eq_true rfl) ⟨Nat.le_of_ble_eq_true rfl, Nat.le_of_ble_eq_true rfl⟩ dX11_isStride_14 (fun H locs hP hD hS => ?_)
    refine lv_if_ne (tgt := 44) hx hb dX11_isStride_17 (by decide) (fun hc => ?_) (fun hc => ?_)
    · have hf := jbF hf hc
      refine lv_iconst (v := 0) hx hb dX11_isStride_44 (by decide) ?_
      cases hf
      subst hQ
      exact rt_i hx hb hrt hlk nar_0 hK hP hD hS (Nat.le_of_ble_eq_true rfl) (Nat.le_of_ble_eq_true rfl) dX11_isStride_45
    · have hf := jbT hf hc
      refine lv_aload_n hx hb dX11_isStride_20 rfl (lv_at hl 1 rfl) ?_
      refine lv_iload_n hx hb dX11_isStride_21 rfl (lv_at hl 2 rfl) ?_
      refine lv_iconst (v := 0) hx hb dX11_isStride_22 (by decide) ?_
      obtain ⟨o5, g6, hf⟩ := jbB_e hf
      refine cva_i (As := [.int a0, .int 0]) (rest := []) ⟨hx, hb, hml, hown, hts⟩ (c_X11_of l g hm mv a0 0 _ g6) (cwV 2 hts gX11_isStride_X11_of rfl rfl rfl hd_X11_of ⟨Nat.le_of_ble_eq_true rfl, Nat.le_of_ble_eq_true rfl⟩) hK hZ hT hA hP hD hS hl.1 (va_recv hK hP (ci := 10) (q0 := 0) rfl rfl) rfl rfl (Nat.le_of_ble_eq_true rfl) ⟨Nat.le_of_ble_eq_true rfl, Nat.le_of_ble_eq_true rfl⟩ dX11_isStride_23 (fun H locs hP hD hS => ?_)
      refine lv_aload_n hx hb dX11_isStride_26 rfl (lv_at hl 1 rfl) ?_
      refine lv_iload_n hx hb dX11_isStride_27 rfl (lv_at hl 0 rfl) ?_
      refine lv_iconst (v := 0) hx hb dX11_isStride_28 (by decide) ?_
      obtain ⟨o7, g8, hf⟩ := jbB_e hf
      refine cva_i (As := [.int o1, .int 0]) (rest := [.int o5]) ⟨hx, hb, hml, hown, hts⟩ (c_X11_of l g hm mv o1 0 _ g8) (cwV 2 hts gX11_isStride_X11_of rfl rfl rfl hd_X11_of ⟨Nat.le_of_ble_eq_true rfl, Nat.le_of_ble_eq_true rfl⟩) hK hZ hT hA hP hD hS hl.1 (va_recv hK hP (ci := 10) (q0 := 0) rfl rfl) rfl rfl (Nat.le_of_ble_eq_true rfl) ⟨Nat.le_of_ble_eq_true rfl, Nat.le_of_ble_eq_true rfl⟩ dX11_isStride_29 (fun H locs hP hD hS => ?_)
      refine lv_isub hx hb dX11_isStride_32 ?_
      refine va_mabs hx hb (hml.trans hl.1.symm) hown k0 k1 k2 k3 (Nat.le_of_ble_eq_true rfl) (Nat.le_of_ble_eq_true rfl) (Nat.le_of_ble_eq_true rfl) (Nat.le_of_ble_eq_true rfl) dX11_isStride_33 ?_
      refine lv_iconst (v := 1) hx hb dX11_isStride_36 (by decide) ?_
      refine lv_icmp_gt (tgt := 44) hx hb dX11_isStride_37 (by decide) (fun hc => ?_) (fun hc => ?_)
      · have hf := jbT hf hc
        refine lv_iconst (v := 0) hx hb dX11_isStride_44 (by decide) ?_
        cases hf
        subst hQ
        exact rt_i hx hb hrt hlk nar_0 hK hP hD hS (Nat.le_of_ble_eq_true rfl) (Nat.le_of_ble_eq_true rfl) dX11_isStride_45
      · have hf := jbF hf hc
        refine lv_iconst (v := 1) hx hb dX11_isStride_40 (by decide) ?_
        refine lv_goto (tgt := 45) hx hb dX11_isStride_41 (by decide) ?_
        cases hf
        subst hQ
        exact rt_i hx hb hrt hlk nar_1 hK hP hD hS (Nat.le_of_ble_eq_true rfl) (Nat.le_of_ble_eq_true rfl) dX11_isStride_45
def f_X11_strides_J54 (mv : MV) (x1 : Int32) (x2 : Int32) (x3 : Int32) : Option (Sum (Int32 × MV) (Int32 × MV)) :=
  some (.inl ((x3 + 1), mv))
def f_X11_strides_L2 (x1 : Int32) (x2 : Int32) (x3 : Int32) (mv : MV) : Option (Sum (Int32 × MV) (Int32 × MV)) :=
  if 4 ≤ x3 then
  (some (.inr (x3, mv)))
  else
  (if jIn x1 30 then
  if ((mMarks mv) x1.toNatClampNeg) = x2 then
  ((f_X11_beside x1 x3).bind fun o2 =>
  (f_X11_isStride mv x1 x3).bind fun o4 =>
  if o4 = 0 then
  (f_X11_strides_J54 mv x1 x2 x3)
  else
  (if jIn o2 30 then
  if ((mMarks mv) o2.toNatClampNeg) = (-1) then
  (if jIn o2 30 then
  jbN (mSMarks (upd (mMarks mv) o2.toNatClampNeg (x2 + 1)) mv) fun w8 =>
  f_X11_strides_J54 w8 x1 x2 x3
  else none)
  else
  (f_X11_strides_J54 mv x1 x2 x3)
  else none))
  else
  (some (.inr (x3, mv)))
  else none)
def f_X11_strides (mv : MV) (a0 : Int32) (a1 : Int32) : Option MV :=
  (jbL (fun s => f_X11_strides_L2 a0 a1 (s.1) (s.2)) 5000 (0, mv)).bind fun o2 =>
  some (o2.2)
def rm_X11_strides : Room := { frames := 4, cells := 0, slots := 0, locals := 89 }
theorem hd_X11_strides : yX11_strides.cls = RX11 ∧ yX11_strides.cls ≠ "java/lang/invoke/MethodHandle" ∧ yX11_strides.cls ≠ "java/lang/invoke/VarHandle" ∧ (parseMethodDescriptor yX11_strides.desc).map (fun d => d.parameters.length) = some 2 := by decide +kernel
set_option maxHeartbeats 4000000 in
set_option maxRecDepth 100000 in
theorem c_X11_strides (l : Launch) (g : GG) (hm : Nat → Nat) (mv : MV)  (a0 : Int32) (a1 : Int32) (out : MV) (hf : f_X11_strides mv a0 a1 = some out) : MtV l yX11_strides wsX11_strides rm_X11_strides g (wM g hm mv) [.ref (hm 0), .int a0, .int a1]  (wM g hm out) 0 0 := by
  refine fun sz => mt_of (cc := cX11_strides) (maxL := 5) (ret := none) (own := RX11) (Qc := fun A => va_Qv (fun (_ : Unit) => True) (fun _ t => PosM g A (wM g hm out) t) A) (by decide +kernel) rfl rfl (Nat.le_of_ble_eq_true rfl) ?_ sz
  intro p e s mi below meth c A ls hB hnm hrt hlk hP hD hl
  obtain ⟨hx, hb, hml, hown, hts, hK, hZ, hT, hA, -⟩ := hB
  have hS : va_S A s.heap s.heap [] := va_S.rf
  have hl : lv_has ls 5 [(0, .ref (hm 0)), (1, .int a0), (2, .int a1)] := hl
  have hinX11 : ∀ w ∈ wsX110, w ∈ wsX11_strides := by decide +kernel
  have k0 := hts (.fieldLink RX11 29 "TerraceQuarryModel" "marks" "[I") (by decide +kernel)
  generalize hQ : MQ below _ _ _ _ _ _ = Q
  unfold f_X11_strides at hf
  have hL2 : ∀ (x1 : Int32) (x2 : Int32) (n : Nat) (x3 : Int32) (mv : MV) (H : Heap) (locs : List Loc) (ls : Array Slot) (o2 : Int32 × MV), jbL (fun s => f_X11_strides_L2 x1 x2 (s.1) (s.2)) n (x3, mv) = some o2 → va_P (gD g) vwCl (wM g hm mv) H → va_D A (wM g hm mv) → va_S A s.heap H locs → lv_has ls 5 [(0, .ref (hm 0)), (1, .int x1), (2, .int x2), (3, .int x3)] → (∀ (H : Heap) (locs : List Loc) (ls : Array Slot), va_P (gD g) vwCl (wM g hm (o2.2)) H → va_D A (wM g hm (o2.2)) → va_S A s.heap H locs → lv_has ls 5 [] → W p l e rm_X11_strides s mi [.ref (hm 0), .int a0, .int a1].toArray below meth c H locs 0 0 Q (F0 mi 60 ls [])) → W p l e rm_X11_strides s mi [.ref (hm 0), .int a0, .int a1].toArray below meth c H locs 0 0 Q (F0 mi 2 ls []) := by
    intro x1 x2 n
    induction n with
    | zero => intro x3 mv H locs ls o2 hf; exact absurd hf (jbL_0 _ _ _)
    | succ n ih =>
      intro x3 mv H locs ls o2 hf hP hD hS hl hk
      obtain ⟨r, hf, hr⟩ := jbL_e hf
      have hf : f_X11_strides_L2 x1 x2 x3 mv = some r := hf
      unfold f_X11_strides_L2 at hf
      have hJ54 : ∀ (mv : MV) (x3 : Int32) (H : Heap) (locs : List Loc) (ls : Array Slot) (r : Sum (Int32 × MV) (Int32 × MV)), f_X11_strides_J54 mv x1 x2 x3 = some r → jbR (fun s => f_X11_strides_L2 x1 x2 (s.1) (s.2)) n o2 r → va_P (gD g) vwCl (wM g hm mv) H → va_D A (wM g hm mv) → va_S A s.heap H locs → lv_has ls 5 [(0, .ref (hm 0)), (1, .int x1), (2, .int x2), (3, .int x3)] → W p l e rm_X11_strides s mi [.ref (hm 0), .int a0, .int a1].toArray below meth c H locs 0 0 Q (F0 mi 54 ls []) := by
        intro mv x3 H locs ls r hf hr hP hD hS hl
        unfold f_X11_strides_J54 at hf
        refine lv_iinc (v := (x3 + 1)) (lv' := [(3, .int (x3 + 1)), (0, .ref (hm 0)), (1, .int x1), (2, .int x2)]) hx hb dX11_strides_54 hl (k := 3) rfl rfl (by decide) rfl (fun ls hl => ?_)
        refine lv_goto (tgt := 2) hx hb dX11_strides_57 (by decide) ?_
        cases hf
        exact ih (x3 + 1) mv _ _ _ _ hr hP hD hS (lv_sub hl [1, 2, 3, 0] rfl) hk
      refine lv_iload_n hx hb dX11_strides_2 rfl (lv_at hl 3 rfl) ?_
      refine lv_iconst (v := 4) hx hb dX11_strides_3 (by decide) ?_
      refine lv_icmp_ge (tgt := 60) hx hb dX11_strides_4 (by decide) (fun hc => ?_) (fun hc => ?_)
      · have hf := jbT hf hc
        cases hf
        obtain rfl := jbR_r hr
        exact hk _ _ _ hP hD hS (lv_sub hl [] rfl)
      · have hf := jbF hf hc
        refine lv_aload_n hx hb dX11_strides_7 rfl (lv_at hl 0 rfl) ?_
        refine va_get (D := gD g) (ci := 10) (v := .ref (hm 5)) (C := RX11) (T := TX11) (N := 19) hx hb hts hinX11 hown hK hP 0 rfl rfl 8 (by decide) k0 (fun _ h9 => h9) rfl dX11_strides_8 ?_
        refine lv_iload_n hx hb dX11_strides_11 rfl (lv_at hl 1 rfl) ?_
        obtain ⟨h1, hf⟩ := jbA_e hf
        refine va_iald hx hb hK hP 5 0 rfl rfl h1 dX11_strides_12 ?_
        refine lv_iload_n hx hb dX11_strides_13 rfl (lv_at hl 2 rfl) ?_
        refine lv_icmp_ne (tgt := 60) hx hb dX11_strides_14 (by decide) (fun hc => ?_) (fun hc => ?_)
        · have hf := jbF hf hc
          cases hf
          obtain rfl := jbR_r hr
          exact hk _ _ _ hP hD hS (lv_sub hl [] rfl)
        · have hf := jbT hf hc
          refine lv_iload_n hx hb dX11_strides_17 rfl (lv_at hl 1 rfl) ?_
          refine lv_iload_n hx hb dX11_strides_18 rfl (lv_at hl 3 rfl) ?_
          obtain ⟨o2, g3, hf⟩ := jbB_e hf
          refine csn_i (As := [.int x1, .int x3]) (rest := []) ⟨hx, hb, hml, hown, hts⟩ (c_X11_beside l g x1 x3 _ g3) (va_cwS 2 hts gX11_strides_X11_beside rfl rfl rfl hd_X11_beside ⟨Nat.le_of_ble_eq_true rfl, Nat.le_of_ble_eq_true rfl⟩) hK hZ hT hA hP hD hS hl.1 rfl rfl (Nat.le_of_ble_eq_true rfl) ⟨Nat.le_of_ble_eq_true rfl, Nat.le_of_ble_eq_true rfl⟩ dX11_strides_19 (fun H locs hP hD hS => ?_)
          refine lv_istore (lv' := [(4, .int o2), (0, .ref (hm 0)), (1, .int x1), (2, .int x2), (3, .int x3)]) hx hb dX11_strides_22 hl (by decide) rfl (fun ls hl => ?_)
          refine lv_aload_n hx hb dX11_strides_24 rfl (lv_at hl 1 rfl) ?_
          refine lv_iload_n hx hb dX11_strides_25 rfl (lv_at hl 2 rfl) ?_
          refine lv_iload_n hx hb dX11_strides_26 rfl (lv_at hl 4 rfl) ?_
          obtain ⟨o4, g5, hf⟩ := jbB_e hf
          refine cva_i (As := [.int x1, .int x3]) (rest := []) ⟨hx, hb, hml, hown, hts⟩ (c_X11_isStride l g hm mv x1 x3 _ g5) (cwV 2 hts gX11_strides_X11_isStride rfl rfl rfl hd_X11_isStride ⟨Nat.le_of_ble_eq_true rfl, Nat.le_of_ble_eq_true rfl⟩) hK hZ hT hA hP hD hS hl.1 (va_recv hK hP (ci := 10) (q0 := 0) rfl rfl) rfl rfl (Nat.le_of_ble_eq_true rfl) ⟨Nat.le_of_ble_eq_true rfl, Nat.le_of_ble_eq_true rfl⟩ dX11_strides_27 (fun H locs hP hD hS => ?_)
          refine lv_if_eq (tgt := 54) hx hb dX11_strides_30 (by decide) (fun hc => ?_) (fun hc => ?_)
          · have hf := jbT hf hc
            exact hJ54 mv x3 _ _ _ _ hf hr hP hD hS (lv_sub hl [1, 2, 3, 4] rfl)
          · have hf := jbF hf hc
            refine lv_aload_n hx hb dX11_strides_33 rfl (lv_at hl 1 rfl) ?_
            refine va_get (D := gD g) (ci := 10) (v := .ref (hm 5)) (C := RX11) (T := TX11) (N := 19) hx hb hts hinX11 hown hK hP 0 rfl rfl 8 (by decide) k0 (fun _ h9 => h9) rfl dX11_strides_34 ?_
            refine lv_iload hx hb dX11_strides_37 (lv_at hl 0 rfl) ?_
            obtain ⟨h6, hf⟩ := jbA_e hf
            refine va_iald hx hb hK hP 5 0 rfl rfl h6 dX11_strides_39 ?_
            refine lv_iconst (v := (-1)) hx hb dX11_strides_40 (by decide) ?_
            refine lv_icmp_ne (tgt := 54) hx hb dX11_strides_41 (by decide) (fun hc => ?_) (fun hc => ?_)
            · have hf := jbF hf hc
              exact hJ54 mv x3 _ _ _ _ hf hr hP hD hS (lv_sub hl [1, 2, 3, 4] rfl)
            · have hf := jbT hf hc
              refine lv_aload_n hx hb dX11_strides_44 rfl (lv_at hl 1 rfl) ?_
              refine va_get (D := gD g) (ci := 10) (v := .ref (hm 5)) (C := RX11) (T := TX11) (N := 19) hx hb hts hinX11 hown hK hP 0 rfl rfl 8 (by decide) k0 (fun _ h9 => h9) rfl dX11_strides_45 ?_
              refine lv_iload hx hb dX11_strides_48 (lv_at hl 0 rfl) ?_
              refine lv_iload_n hx hb dX11_strides_50 rfl (lv_at hl 3 rfl) ?_
              refine lv_iconst (v := 1) hx hb dX11_strides_51 (by decide) ?_
              refine lv_iadd hx hb dX11_strides_52 ?_
              obtain ⟨h7, hf⟩ := jbA_e hf
              refine va_iast hx hb hK hP hD hS 5 0 rfl rfl h7 dX11_strides_53 (fun H locs hP hD hS => ?_)
              obtain ⟨w8, ew8⟩ : ∃ y, y = (mSMarks (upd (mMarks mv) o2.toNatClampNeg (x2 + 1)) mv) := ⟨_, rfl⟩
              have hf := jbN_e hf ew8
              have hP : va_P (gD g) vwCl (wM g hm w8) H := by rw [ew8]; exact hP
              have hD : va_D A (wM g hm w8) := by rw [ew8]; exact hD
              exact hJ54 w8 x3 _ _ _ _ hf hr hP hD hS (lv_sub hl [1, 2, 3, 4] rfl)
  refine lv_iconst (v := 0) hx hb dX11_strides_0 (by decide) ?_
  refine lv_istore_n (lv' := [(3, .int 0), (0, .ref (hm 0)), (1, .int a0), (2, .int a1)]) hx hb dX11_strides_1 rfl hl (by decide) rfl (fun ls hl => ?_)
  obtain ⟨o2, hg, hf⟩ := jbB_e hf
  refine hL2 a0 a1 _ 0 mv _ _ _ _ hg hP hD hS (lv_sub hl [1, 2, 3, 0] rfl) (fun H locs ls hP hD hS hl => ?_)
  cases hf
  subst hQ
  exact rt_v hx hb hrt hlk hK hP hD hS (Nat.le_of_ble_eq_true rfl) (Nat.le_of_ble_eq_true rfl) dX11_strides_60
def f_X11_measures_L49 (x2 : Int32) (x3 : Int32) (mv : MV) : Option (Sum (Int32 × MV) (Int32 × MV)) :=
  if 30 ≤ x3 then
  (some (.inr (x3, mv)))
  else
  ((f_X11_strides mv x3 x2).bind fun o5 =>
  some (.inl ((x3 + 1), o5)))
def f_X11_measures_L41 (x2 : Int32) (mv : MV) : Option (Sum (Int32 × MV) (Int32 × MV)) :=
  if 30 ≤ x2 then
  (some (.inr (x2, mv)))
  else
  ((jbL (fun s => f_X11_measures_L49 x2 (s.1) (s.2)) 5000 (0, mv)).bind fun o49 =>
  some (.inl ((x2 + 1), (o49.2))))
def f_X11_measures_J32 (mv : MV) (x1 : Int32) (x2 : Int32) (y0 : Int32) (y1 : Int32) : Option (Sum (Int32 × MV) (Int32 × MV)) :=
  if jIn y1 30 then
  jbN (mSMarks (upd (mMarks mv) y1.toNatClampNeg y0) mv) fun w4 =>
  some (.inl ((x2 + 1), w4))
  else none
def f_X11_measures_J31 (mv : MV) (x1 : Int32) (x2 : Int32) (y0 : Int32) : Option (Sum (Int32 × MV) (Int32 × MV)) :=
  f_X11_measures_J32 mv x1 x2 (-1) y0
def f_X11_measures_L2 (x1 : Int32) (x2 : Int32) (mv : MV) : Option (Sum (Int32 × MV) (Int32 × MV)) :=
  if 30 ≤ x2 then
  (some (.inr (x2, mv)))
  else
  (if x2 = x1 then
  ((f_X11_of mv x2 2).bind fun o1 =>
  if o1 = 0 then
  (f_X11_measures_J32 mv x1 x2 0 x2)
  else
  (f_X11_measures_J31 mv x1 x2 x2))
  else
  (f_X11_measures_J31 mv x1 x2 x2))
def f_X11_measures (mv : MV) (a0 : Int32) : Option MV :=
  (jbL (fun s => f_X11_measures_L2 a0 (s.1) (s.2)) 5000 (0, mv)).bind fun o2 =>
  (jbL (fun s => f_X11_measures_L41 (s.1) (s.2)) 5000 (0, (o2.2))).bind fun o41 =>
  some (o41.2)
def rm_X11_measures : Room := { frames := 5, cells := 0, slots := 0, locals := 113 }
theorem hd_X11_measures : yX11_measures.cls = RX11 ∧ yX11_measures.cls ≠ "java/lang/invoke/MethodHandle" ∧ yX11_measures.cls ≠ "java/lang/invoke/VarHandle" ∧ (parseMethodDescriptor yX11_measures.desc).map (fun d => d.parameters.length) = some 1 := by decide +kernel
set_option maxHeartbeats 4000000 in
set_option maxRecDepth 100000 in
theorem c_X11_measures (l : Launch) (g : GG) (hm : Nat → Nat) (mv : MV)  (a0 : Int32) (out : MV) (hf : f_X11_measures mv a0 = some out) : MtV l yX11_measures wsX11_measures rm_X11_measures g (wM g hm mv) [.ref (hm 0), .int a0]  (wM g hm out) 0 0 := by
  refine fun sz => mt_of (cc := cX11_measures) (maxL := 4) (ret := none) (own := RX11) (Qc := fun A => va_Qv (fun (_ : Unit) => True) (fun _ t => PosM g A (wM g hm out) t) A) (by decide +kernel) rfl rfl (Nat.le_of_ble_eq_true rfl) ?_ sz
  intro p e s mi below meth c A ls hB hnm hrt hlk hP hD hl
  obtain ⟨hx, hb, hml, hown, hts, hK, hZ, hT, hA, -⟩ := hB
  have hS : va_S A s.heap s.heap [] := va_S.rf
  have hl : lv_has ls 4 [(0, .ref (hm 0)), (1, .int a0)] := hl
  have hinX11 : ∀ w ∈ wsX110, w ∈ wsX11_measures := by decide +kernel
  have k0 := hts (.fieldLink RX11 29 "TerraceQuarryModel" "marks" "[I") (by decide +kernel)
  generalize hQ : MQ below _ _ _ _ _ _ = Q
  unfold f_X11_measures at hf
  have hL41 : ∀ (n : Nat) (x2 : Int32) (mv : MV) (H : Heap) (locs : List Loc) (ls : Array Slot) (o41 : Int32 × MV), jbL (fun s => f_X11_measures_L41 (s.1) (s.2)) n (x2, mv) = some o41 → va_P (gD g) vwCl (wM g hm mv) H → va_D A (wM g hm mv) → va_S A s.heap H locs → lv_has ls 4 [(0, .ref (hm 0)), (2, .int x2)] → (∀ (H : Heap) (locs : List Loc) (ls : Array Slot), va_P (gD g) vwCl (wM g hm (o41.2)) H → va_D A (wM g hm (o41.2)) → va_S A s.heap H locs → lv_has ls 4 [] → W p l e rm_X11_measures s mi [.ref (hm 0), .int a0].toArray below meth c H locs 0 0 Q (F0 mi 73 ls [])) → W p l e rm_X11_measures s mi [.ref (hm 0), .int a0].toArray below meth c H locs 0 0 Q (F0 mi 41 ls []) := by
    intro n
    induction n with
    | zero => intro x2 mv H locs ls o41 hf; exact absurd hf (jbL_0 _ _ _)
    | succ n ih =>
      intro x2 mv H locs ls o41 hf hP hD hS hl hk
      obtain ⟨r, hf, hr⟩ := jbL_e hf
      have hf : f_X11_measures_L41 x2 mv = some r := hf
      unfold f_X11_measures_L41 at hf
      have hL49 : ∀ (x2 : Int32) (n : Nat) (x3 : Int32) (mv : MV) (H : Heap) (locs : List Loc) (ls : Array Slot) (o49 : Int32 × MV), jbL (fun s => f_X11_measures_L49 x2 (s.1) (s.2)) n (x3, mv) = some o49 → va_P (gD g) vwCl (wM g hm mv) H → va_D A (wM g hm mv) → va_S A s.heap H locs → lv_has ls 4 [(0, .ref (hm 0)), (2, .int x2), (3, .int x3)] → (∀ (H : Heap) (locs : List Loc) (ls : Array Slot), va_P (gD g) vwCl (wM g hm (o49.2)) H → va_D A (wM g hm (o49.2)) → va_S A s.heap H locs → lv_has ls 4 [(0, .ref (hm 0)), (2, .int x2)] → W p l e rm_X11_measures s mi [.ref (hm 0), .int a0].toArray below meth c H locs 0 0 Q (F0 mi 67 ls [])) → W p l e rm_X11_measures s mi [.ref (hm 0), .int a0].toArray below meth c H locs 0 0 Q (F0 mi 49 ls []) := by
        intro x2 n
        induction n with
        | zero => intro x3 mv H locs ls o49 hf; exact absurd hf (jbL_0 _ _ _)
        | succ n ih =>
          intro x3 mv H locs ls o49 hf hP hD hS hl hk
          obtain ⟨r, hf, hr⟩ := jbL_e hf
          have hf : f_X11_measures_L49 x2 x3 mv = some r := hf
          unfold f_X11_measures_L49 at hf
          refine lv_iload_n hx hb dX11_measures_49 rfl (lv_at hl 2 rfl) ?_
          refine lv_bipush (v := 30) hx hb dX11_measures_50 (by decide) ?_
          refine lv_icmp_ge (tgt := 67) hx hb dX11_measures_52 (by decide) (fun hc => ?_) (fun hc => ?_)
          · have hf := jbT hf hc
            cases hf
            obtain rfl := jbR_r hr
            exact hk _ _ _ hP hD hS (lv_sub hl [0, 1] rfl)
          · have hf := jbF hf hc
            refine lv_aload_n hx hb dX11_measures_55 rfl (lv_at hl 0 rfl) ?_
            refine lv_iload_n hx hb dX11_measures_56 rfl (lv_at hl 2 rfl) ?_
            refine lv_iload_n hx hb dX11_measures_57 rfl (lv_at hl 1 rfl) ?_
            obtain ⟨o5, g6, hf⟩ := jbB_e hf
            refine cva_v (As := [.int x3, .int x2]) (rest := []) ⟨hx, hb, hml, hown, hts⟩ (c_X11_strides l g hm mv x3 x2 _ g6) (cwV 2 hts gX11_measures_X11_strides rfl rfl rfl hd_X11_strides ⟨Nat.le_of_ble_eq_true rfl, Nat.le_of_ble_eq_true rfl⟩) hK hZ hT hA hP hD hS hl.1 (va_recv hK hP (ci := 10) (q0 := 0) rfl rfl) rfl rfl (Nat.le_of_ble_eq_true rfl) ⟨Nat.le_of_ble_eq_true rfl, Nat.le_of_ble_eq_true rfl⟩ dX11_measures_58 (fun H locs hP hD hS => ?_)
            refine lv_iinc (v := (x3 + 1)) (lv' := [(3, .int (x3 + 1)), (0, .ref (hm 0)), (2, .int x2)]) hx hb dX11_measures_61 hl (k := 2) rfl rfl (by decide) rfl (fun ls hl => ?_)
            refine lv_goto (tgt := 49) hx hb dX11_measures_64 (by decide) ?_
            cases hf
            exact ih (x3 + 1) o5 _ _ _ _ hr hP hD hS (lv_sub hl [1, 2, 0] rfl) hk
      refine lv_iload_n hx hb dX11_measures_41 rfl (lv_at hl 1 rfl) ?_
      refine lv_bipush (v := 30) hx hb dX11_measures_42 (by decide) ?_
      refine lv_icmp_ge (tgt := 73) hx hb dX11_measures_44 (by decide) (fun hc => ?_) (fun hc => ?_)
      · have hf := jbT hf hc
        cases hf
        obtain rfl := jbR_r hr
        exact hk _ _ _ hP hD hS (lv_sub hl [] rfl)
      · have hf := jbF hf hc
        refine lv_iconst (v := 0) hx hb dX11_measures_47 (by decide) ?_
        refine lv_istore_n (lv' := [(3, .int 0), (0, .ref (hm 0)), (2, .int x2)]) hx hb dX11_measures_48 rfl hl (by decide) rfl (fun ls hl => ?_)
        obtain ⟨o49, hg, hf⟩ := jbB_e hf
        refine hL49 x2 _ 0 mv _ _ _ _ hg hP hD hS (lv_sub hl [1, 2, 0] rfl) (fun H locs ls hP hD hS hl => ?_)
        refine lv_iinc (v := (x2 + 1)) (lv' := [(2, .int (x2 + 1)), (0, .ref (hm 0))]) hx hb dX11_measures_67 hl (k := 1) rfl rfl (by decide) rfl (fun ls hl => ?_)
        refine lv_goto (tgt := 41) hx hb dX11_measures_70 (by decide) ?_
        cases hf
        exact ih (x2 + 1) (o49.2) _ _ _ _ hr hP hD hS (lv_sub hl [1, 0] rfl) hk
  have hL2 : ∀ (x1 : Int32) (n : Nat) (x2 : Int32) (mv : MV) (H : Heap) (locs : List Loc) (ls : Array Slot) (o2 : Int32 × MV), jbL (fun s => f_X11_measures_L2 x1 (s.1) (s.2)) n (x2, mv) = some o2 → va_P (gD g) vwCl (wM g hm mv) H → va_D A (wM g hm mv) → va_S A s.heap H locs → lv_has ls 4 [(0, .ref (hm 0)), (1, .int x1), (2, .int x2)] → (∀ (H : Heap) (locs : List Loc) (ls : Array Slot), va_P (gD g) vwCl (wM g hm (o2.2)) H → va_D A (wM g hm (o2.2)) → va_S A s.heap H locs → lv_has ls 4 [(0, .ref (hm 0))] → W p l e rm_X11_measures s mi [.ref (hm 0), .int a0].toArray below meth c H locs 0 0 Q (F0 mi 39 ls [])) → W p l e rm_X11_measures s mi [.ref (hm 0), .int a0].toArray below meth c H locs 0 0 Q (F0 mi 2 ls []) := by
    intro x1 n
    induction n with
    | zero => intro x2 mv H locs ls o2 hf; exact absurd hf (jbL_0 _ _ _)
    | succ n ih =>
      intro x2 mv H locs ls o2 hf hP hD hS hl hk
      obtain ⟨r, hf, hr⟩ := jbL_e hf
      have hf : f_X11_measures_L2 x1 x2 mv = some r := hf
      unfold f_X11_measures_L2 at hf
      have hJ32 : ∀ (mv : MV) (x2 : Int32) (y0 : Int32) (y1 : Int32) (H : Heap) (locs : List Loc) (ls : Array Slot) (r : Sum (Int32 × MV) (Int32 × MV)), f_X11_measures_J32 mv x1 x2 y0 y1 = some r → jbR (fun s => f_X11_measures_L2 x1 (s.1) (s.2)) n o2 r → va_P (gD g) vwCl (wM g hm mv) H → va_D A (wM g hm mv) → va_S A s.heap H locs → lv_has ls 4 [(0, .ref (hm 0)), (1, .int x1), (2, .int x2)] → W p l e rm_X11_measures s mi [.ref (hm 0), .int a0].toArray below meth c H locs 0 0 Q (F0 mi 32 ls [.int y0, .int y1, .ref (hm 5)]) := by
        intro mv x2 y0 y1 H locs ls r hf hr hP hD hS hl
        unfold f_X11_measures_J32 at hf
        obtain ⟨h3, hf⟩ := jbA_e hf
        refine va_iast hx hb hK hP hD hS 5 0 rfl rfl h3 dX11_measures_32 (fun H locs hP hD hS => ?_)
        obtain ⟨w4, ew4⟩ : ∃ y, y = (mSMarks (upd (mMarks mv) y1.toNatClampNeg y0) mv) := ⟨_, rfl⟩
        have hf := jbN_e hf ew4
        have hP : va_P (gD g) vwCl (wM g hm w4) H := by rw [ew4]; exact hP
        have hD : va_D A (wM g hm w4) := by rw [ew4]; exact hD
        refine lv_iinc (v := (x2 + 1)) (lv' := [(2, .int (x2 + 1)), (0, .ref (hm 0)), (1, .int x1)]) hx hb dX11_measures_33 hl (k := 2) rfl rfl (by decide) rfl (fun ls hl => ?_)
        refine lv_goto (tgt := 2) hx hb dX11_measures_36 (by decide) ?_
        cases hf
        exact ih (x2 + 1) w4 _ _ _ _ hr hP hD hS (lv_sub hl [1, 2, 0] rfl) hk
      have hJ31 : ∀ (mv : MV) (x2 : Int32) (y0 : Int32) (H : Heap) (locs : List Loc) (ls : Array Slot) (r : Sum (Int32 × MV) (Int32 × MV)), f_X11_measures_J31 mv x1 x2 y0 = some r → jbR (fun s => f_X11_measures_L2 x1 (s.1) (s.2)) n o2 r → va_P (gD g) vwCl (wM g hm mv) H → va_D A (wM g hm mv) → va_S A s.heap H locs → lv_has ls 4 [(0, .ref (hm 0)), (1, .int x1), (2, .int x2)] → W p l e rm_X11_measures s mi [.ref (hm 0), .int a0].toArray below meth c H locs 0 0 Q (F0 mi 31 ls [.int y0, .ref (hm 5)]) := by
        intro mv x2 y0 H locs ls r hf hr hP hD hS hl
        unfold f_X11_measures_J31 at hf
        refine lv_iconst (v := (-1)) hx hb dX11_measures_31 (by decide) ?_
        exact hJ32 mv x2 (-1) y0 _ _ _ _ hf hr hP hD hS (lv_sub hl [0, 1, 2] rfl)
      refine lv_iload_n hx hb dX11_measures_2 rfl (lv_at hl 2 rfl) ?_
      refine lv_bipush (v := 30) hx hb dX11_measures_3 (by decide) ?_
      refine lv_icmp_ge (tgt := 39) hx hb dX11_measures_5 (by decide) (fun hc => ?_) (fun hc => ?_)
      · have hf := jbT hf hc
        cases hf
        obtain rfl := jbR_r hr
        exact hk _ _ _ hP hD hS (lv_sub hl [0] rfl)
      · have hf := jbF hf hc
        refine lv_aload_n hx hb dX11_measures_8 rfl (lv_at hl 0 rfl) ?_
        refine va_get (D := gD g) (ci := 10) (v := .ref (hm 5)) (C := RX11) (T := TX11) (N := 19) hx hb hts hinX11 hown hK hP 0 rfl rfl 8 (by decide) k0 (fun _ h9 => h9) rfl dX11_measures_9 ?_
        refine lv_iload_n hx hb dX11_measures_12 rfl (lv_at hl 2 rfl) ?_
        refine lv_iload_n hx hb dX11_measures_13 rfl (lv_at hl 2 rfl) ?_
        refine lv_iload_n hx hb dX11_measures_14 rfl (lv_at hl 1 rfl) ?_
        refine lv_icmp_ne (tgt := 31) hx hb dX11_measures_15 (by decide) (fun hc => ?_) (fun hc => ?_)
        · have hf := jbF hf hc
          exact hJ31 mv x2 x2 _ _ _ _ hf hr hP hD hS (lv_sub hl [0, 1, 2] rfl)
        · have hf := jbT hf hc
          refine lv_aload_n hx hb dX11_measures_18 rfl (lv_at hl 0 rfl) ?_
          refine lv_iload_n hx hb dX11_measures_19 rfl (lv_at hl 2 rfl) ?_
          refine lv_iconst (v := 2) hx hb dX11_measures_20 (by decide) ?_
          obtain ⟨o1, g2, hf⟩ := jbB_e hf
          refine cva_i (As := [.int x2, .int 2]) (rest := [.int x2, .ref (hm 5)]) ⟨hx, hb, hml, hown, hts⟩ (c_X11_of l g hm mv x2 2 _ g2) (cwV 2 hts gX11_measures_X11_of rfl rfl rfl hd_X11_of ⟨Nat.le_of_ble_eq_true rfl, Nat.le_of_ble_eq_true rfl⟩) hK hZ hT hA hP hD hS hl.1 (va_recv hK hP (ci := 10) (q0 := 0) rfl rfl) rfl rfl (Nat.le_of_ble_eq_true rfl) ⟨Nat.le_of_ble_eq_true rfl, Nat.le_of_ble_eq_true rfl⟩ dX11_measures_21 (fun H locs hP hD hS => ?_)
          refine lv_if_ne (tgt := 31) hx hb dX11_measures_24 (by decide) (fun hc => ?_) (fun hc => ?_)
          · have hf := jbF hf hc
            exact hJ31 mv x2 x2 _ _ _ _ hf hr hP hD hS (lv_sub hl [0, 1, 2] rfl)
          · have hf := jbT hf hc
            refine lv_iconst (v := 0) hx hb dX11_measures_27 (by decide) ?_
            refine lv_goto (tgt := 32) hx hb dX11_measures_28 (by decide) ?_
            exact hJ32 mv x2 0 x2 _ _ _ _ hf hr hP hD hS (lv_sub hl [0, 1, 2] rfl)
  refine lv_iconst (v := 0) hx hb dX11_measures_0 (by decide) ?_
  refine lv_istore_n (lv' := [(2, .int 0), (0, .ref (hm 0)), (1, .int a0)]) hx hb dX11_measures_1 rfl hl (by decide) rfl (fun ls hl => ?_)
  obtain ⟨o2, hg, hf⟩ := jbB_e hf
  refine hL2 a0 _ 0 mv _ _ _ _ hg hP hD hS (lv_sub hl [1, 2, 0] rfl) (fun H locs ls hP hD hS hl => ?_)
  refine lv_iconst (v := 0) hx hb dX11_measures_39 (by decide) ?_
  refine lv_istore_n (lv' := [(2, .int 0), (0, .ref (hm 0))]) hx hb dX11_measures_40 rfl hl (by decide) rfl (fun ls hl => ?_)
  obtain ⟨o41, hg, hf⟩ := jbB_e hf
  refine hL41 _ 0 (o2.2) _ _ _ _ hg hP hD hS (lv_sub hl [1, 0] rfl) (fun H locs ls hP hD hS hl => ?_)
  cases hf
  subst hQ
  exact rt_v hx hb hrt hlk hK hP hD hS (Nat.le_of_ble_eq_true rfl) (Nat.le_of_ble_eq_true rfl) dX11_measures_73
def f_X11_footpath_J56 (mv : MV) (x5 : Int32) (y0 : Int32) (y1 : Int32) : Option (Int32 × MV) :=
  (f_X11_holds mv y1 y0 1 1).bind fun o13 =>
  if (o13.1) = 0 then
  (some (0, (o13.2)))
  else
  (some (x5, (o13.2)))
def f_X11_footpath_J45 (mv : MV) (x5 : Int32) (y0 : Int32) : Option (Int32 × MV) :=
  if x5 = (-1) then
  (f_X11_footpath_J56 mv x5 0 y0)
  else
  (f_X11_footpath_J56 mv x5 1 y0)
def f_X11_footpath_J44 (mv : MV) (x5 : Int32) : Option (Int32 × MV) :=
  f_X11_footpath_J45 mv x5 0
def f_X11_footpath (mv : MV) (a0 : Int32) (a1 : Int32) (a2 : Int32) (a3 : Int32) : Option (Int32 × MV) :=
  (f_X11_cellAt a0 a1).bind fun o1 =>
  (f_X11_measures mv o1).bind fun o3 =>
  (f_X11_cellAt a2 a3).bind fun o5 =>
  if jIn o5 30 then
  jbN ((mMarks o3) o5.toNatClampNeg) fun z8 =>
  (f_X11_isCell a0 a1).bind fun o9 =>
  if o9 = 0 then
  (f_X11_footpath_J44 o3 z8)
  else
  ((f_X11_isCell a2 a3).bind fun o11 =>
  if o11 = 0 then
  (f_X11_footpath_J44 o3 z8)
  else
  (f_X11_footpath_J45 o3 z8 1))
  else none
def rm_X11_footpath : Room := { frames := 6, cells := 0, slots := 0, locals := 136 }
theorem hd_X11_footpath : yX11_footpath.cls = RX11 ∧ yX11_footpath.cls ≠ "java/lang/invoke/MethodHandle" ∧ yX11_footpath.cls ≠ "java/lang/invoke/VarHandle" ∧ (parseMethodDescriptor yX11_footpath.desc).map (fun d => d.parameters.length) = some 4 := by decide +kernel
set_option maxHeartbeats 4000000 in
set_option maxRecDepth 100000 in
theorem c_X11_footpath (l : Launch) (g : GG) (hm : Nat → Nat) (mv : MV)  (a0 : Int32) (a1 : Int32) (a2 : Int32) (a3 : Int32) (out : Int32 × MV) (hf : f_X11_footpath mv a0 a1 a2 a3 = some out) : MtI l yX11_footpath wsX11_footpath rm_X11_footpath g (wM g hm mv) [.ref (hm 0), .int a0, .int a1, .int a2, .int a3] (out.1) (wM g hm (out.2)) 0 0 := by
  refine fun sz => mt_of (cc := cX11_footpath) (maxL := 6) (ret := (some .int)) (own := RX11) (Qc := fun A => va_Qi (fun r (_ : Unit) => r = (out.1)) (fun _ t => PosM g A (wM g hm (out.2)) t) A) (by decide +kernel) rfl rfl (Nat.le_of_ble_eq_true rfl) ?_ sz
  intro p e s mi below meth c A ls hB hnm hrt hlk hP hD hl
  obtain ⟨hx, hb, hml, hown, hts, hK, hZ, hT, hA, -⟩ := hB
  have hS : va_S A s.heap s.heap [] := va_S.rf
  have hl : lv_has ls 6 [(0, .ref (hm 0)), (1, .int a0), (2, .int a1), (3, .int a2), (4, .int a3)] := hl
  have hinX11 : ∀ w ∈ wsX110, w ∈ wsX11_footpath := by decide +kernel
  have k0 := hts (.fieldLink RX11 29 "TerraceQuarryModel" "marks" "[I") (by decide +kernel)
  generalize hQ : MQ below _ _ _ _ _ _ = Q
  unfold f_X11_footpath at hf
  have hJ56 : ∀ (mv : MV) (x5 : Int32) (y0 : Int32) (y1 : Int32) (H : Heap) (locs : List Loc) (ls : Array Slot), f_X11_footpath_J56 mv x5 y0 y1 = some out → va_P (gD g) vwCl (wM g hm mv) H → va_D A (wM g hm mv) → va_S A s.heap H locs → lv_has ls 6 [(5, .int x5)] → W p l e rm_X11_footpath s mi [.ref (hm 0), .int a0, .int a1, .int a2, .int a3].toArray below meth c H locs 0 0 Q (F0 mi 56 ls [.int y0, .int y1, .ref (hm 0)]) := by
    intro mv x5 y0 y1 H locs ls hf hP hD hS hl
    unfold f_X11_footpath_J56 at hf
    refine lv_iconst (v := 1) hx hb dX11_footpath_56 (by decide) ?_
    refine lv_iconst (v := 1) hx hb dX11_footpath_57 (by decide) ?_
    obtain ⟨o13, g14, hf⟩ := jbB_e hf
    refine cva_i (As := [.int y1, .int y0, .int 1, .int 1]) (rest := []) ⟨hx, hb, hml, hown, hts⟩ (c_X11_holds l g hm mv y1 y0 1 1 _ g14) (cwV 4 hts gX11_footpath_X11_holds rfl rfl rfl hd_X11_holds ⟨Nat.le_of_ble_eq_true rfl, Nat.le_of_ble_eq_true rfl⟩) hK hZ hT hA hP hD hS hl.1 (va_recv hK hP (ci := 10) (q0 := 0) rfl rfl) rfl rfl (Nat.le_of_ble_eq_true rfl) ⟨Nat.le_of_ble_eq_true rfl, Nat.le_of_ble_eq_true rfl⟩ dX11_footpath_58 (fun H locs hP hD hS => ?_)
    refine lv_if_eq (tgt := 69) hx hb dX11_footpath_61 (by decide) (fun hc => ?_) (fun hc => ?_)
    · have hf := jbT hf hc
      refine lv_iconst (v := 0) hx hb dX11_footpath_69 (by decide) ?_
      cases hf
      subst hQ
      exact rt_i hx hb hrt hlk rfl hK hP hD hS (Nat.le_of_ble_eq_true rfl) (Nat.le_of_ble_eq_true rfl) dX11_footpath_70
    · have hf := jbF hf hc
      refine lv_iload hx hb dX11_footpath_64 (lv_at hl 0 rfl) ?_
      refine lv_goto (tgt := 70) hx hb dX11_footpath_66 (by decide) ?_
      cases hf
      subst hQ
      exact rt_i hx hb hrt hlk rfl hK hP hD hS (Nat.le_of_ble_eq_true rfl) (Nat.le_of_ble_eq_true rfl) dX11_footpath_70
  have hJ45 : ∀ (mv : MV) (x5 : Int32) (y0 : Int32) (H : Heap) (locs : List Loc) (ls : Array Slot), f_X11_footpath_J45 mv x5 y0 = some out → va_P (gD g) vwCl (wM g hm mv) H → va_D A (wM g hm mv) → va_S A s.heap H locs → lv_has ls 6 [(5, .int x5)] → W p l e rm_X11_footpath s mi [.ref (hm 0), .int a0, .int a1, .int a2, .int a3].toArray below meth c H locs 0 0 Q (F0 mi 45 ls [.int y0, .ref (hm 0)]) := by
    intro mv x5 y0 H locs ls hf hP hD hS hl
    unfold f_X11_footpath_J45 at hf
    refine lv_iload hx hb dX11_footpath_45 (lv_at hl 0 rfl) ?_
    refine lv_iconst (v := (-1)) hx hb dX11_footpath_47 (by decide) ?_
    refine lv_icmp_eq (tgt := 55) hx hb dX11_footpath_48 (by decide) (fun hc => ?_) (fun hc => ?_)
    · have hf := jbT hf hc
      refine lv_iconst (v := 0) hx hb dX11_footpath_55 (by decide) ?_
      exact hJ56 mv x5 0 y0 _ _ _ hf hP hD hS (lv_sub hl [0] rfl)
    · have hf := jbF hf hc
      refine lv_iconst (v := 1) hx hb dX11_footpath_51 (by decide) ?_
      refine lv_goto (tgt := 56) hx hb dX11_footpath_52 (by decide) ?_
      exact hJ56 mv x5 1 y0 _ _ _ hf hP hD hS (lv_sub hl [0] rfl)
  have hJ44 : ∀ (mv : MV) (x5 : Int32) (H : Heap) (locs : List Loc) (ls : Array Slot), f_X11_footpath_J44 mv x5 = some out → va_P (gD g) vwCl (wM g hm mv) H → va_D A (wM g hm mv) → va_S A s.heap H locs → lv_has ls 6 [(5, .int x5)] → W p l e rm_X11_footpath s mi [.ref (hm 0), .int a0, .int a1, .int a2, .int a3].toArray below meth c H locs 0 0 Q (F0 mi 44 ls [.ref (hm 0)]) := by
    intro mv x5 H locs ls hf hP hD hS hl
    unfold f_X11_footpath_J44 at hf
    refine lv_iconst (v := 0) hx hb dX11_footpath_44 (by decide) ?_
    exact hJ45 mv x5 0 _ _ _ hf hP hD hS (lv_sub hl [0] rfl)
  refine lv_aload_n hx hb dX11_footpath_0 rfl (lv_at hl 0 rfl) ?_
  refine lv_iload_n hx hb dX11_footpath_1 rfl (lv_at hl 1 rfl) ?_
  refine lv_iload_n hx hb dX11_footpath_2 rfl (lv_at hl 2 rfl) ?_
  obtain ⟨o1, g2, hf⟩ := jbB_e hf
  refine csn_i (As := [.int a0, .int a1]) (rest := [.ref (hm 0)]) ⟨hx, hb, hml, hown, hts⟩ (c_X11_cellAt l g a0 a1 _ g2) (va_cwS 2 hts gX11_footpath_X11_cellAt rfl rfl rfl hd_X11_cellAt ⟨Nat.le_of_ble_eq_true rfl, Nat.le_of_ble_eq_true rfl⟩) hK hZ hT hA hP hD hS hl.1 rfl rfl (Nat.le_of_ble_eq_true rfl) ⟨Nat.le_of_ble_eq_true rfl, Nat.le_of_ble_eq_true rfl⟩ dX11_footpath_3 (fun H locs hP hD hS => ?_)
  obtain ⟨o3, g4, hf⟩ := jbB_e hf
  refine cva_v (As := [.int o1]) (rest := []) ⟨hx, hb, hml, hown, hts⟩ (c_X11_measures l g hm mv o1 _ g4) (cwV 1 hts gX11_footpath_X11_measures rfl rfl rfl hd_X11_measures ⟨Nat.le_of_ble_eq_true rfl, Nat.le_of_ble_eq_true rfl⟩) hK hZ hT hA hP hD hS hl.1 (va_recv hK hP (ci := 10) (q0 := 0) rfl rfl) rfl rfl (Nat.le_of_ble_eq_true rfl) ⟨Nat.le_of_ble_eq_true rfl, Nat.le_of_ble_eq_true rfl⟩ dX11_footpath_6 (fun H locs hP hD hS => ?_)
  refine lv_aload_n hx hb dX11_footpath_9 rfl (lv_at hl 0 rfl) ?_
  refine va_get (D := gD g) (ci := 10) (v := .ref (hm 5)) (C := RX11) (T := TX11) (N := 19) hx hb hts hinX11 hown hK hP 0 rfl rfl 8 (by decide) k0 (fun _ h9 => h9) rfl dX11_footpath_10 ?_
  refine lv_iload_n hx hb dX11_footpath_13 rfl (lv_at hl 3 rfl) ?_
  refine lv_iload hx hb dX11_footpath_14 (lv_at hl 4 rfl) ?_
  obtain ⟨o5, g6, hf⟩ := jbB_e hf
  refine csn_i (As := [.int a2, .int a3]) (rest := [.ref (hm 5)]) ⟨hx, hb, hml, hown, hts⟩ (c_X11_cellAt l g a2 a3 _ g6) (va_cwS 2 hts gX11_footpath_X11_cellAt rfl rfl rfl hd_X11_cellAt ⟨Nat.le_of_ble_eq_true rfl, Nat.le_of_ble_eq_true rfl⟩) hK hZ hT hA hP hD hS hl.1 rfl rfl (Nat.le_of_ble_eq_true rfl) ⟨Nat.le_of_ble_eq_true rfl, Nat.le_of_ble_eq_true rfl⟩ dX11_footpath_16 (fun H locs hP hD hS => ?_)
  obtain ⟨h7, hf⟩ := jbA_e hf
  refine va_iald hx hb hK hP 5 0 rfl rfl h7 dX11_footpath_19 ?_
  refine lv_topi (fun z8 ez8 => ?_)
  have hf := jbN_e hf ez8
  refine lv_istore (lv' := [(5, .int z8), (0, .ref (hm 0)), (1, .int a0), (2, .int a1), (3, .int a2), (4, .int a3)]) hx hb dX11_footpath_20 hl (by decide) rfl (fun ls hl => ?_)
  refine lv_aload_n hx hb dX11_footpath_22 rfl (lv_at hl 1 rfl) ?_
  refine lv_iload_n hx hb dX11_footpath_23 rfl (lv_at hl 2 rfl) ?_
  refine lv_iload_n hx hb dX11_footpath_24 rfl (lv_at hl 3 rfl) ?_
  obtain ⟨o9, g10, hf⟩ := jbB_e hf
  refine csn_i (As := [.int a0, .int a1]) (rest := [.ref (hm 0)]) ⟨hx, hb, hml, hown, hts⟩ (c_X11_isCell l g a0 a1 _ g10) (va_cwS 2 hts gX11_footpath_X11_isCell rfl rfl rfl hd_X11_isCell ⟨Nat.le_of_ble_eq_true rfl, Nat.le_of_ble_eq_true rfl⟩) hK hZ hT hA hP hD hS hl.1 rfl rfl (Nat.le_of_ble_eq_true rfl) ⟨Nat.le_of_ble_eq_true rfl, Nat.le_of_ble_eq_true rfl⟩ dX11_footpath_25 (fun H locs hP hD hS => ?_)
  refine lv_if_eq (tgt := 44) hx hb dX11_footpath_28 (by decide) (fun hc => ?_) (fun hc => ?_)
  · have hf := jbT hf hc
    exact hJ44 o3 z8 _ _ _ hf hP hD hS (lv_sub hl [0] rfl)
  · have hf := jbF hf hc
    refine lv_iload_n hx hb dX11_footpath_31 rfl (lv_at hl 4 rfl) ?_
    refine lv_iload hx hb dX11_footpath_32 (lv_at hl 5 rfl) ?_
    obtain ⟨o11, g12, hf⟩ := jbB_e hf
    refine csn_i (As := [.int a2, .int a3]) (rest := [.ref (hm 0)]) ⟨hx, hb, hml, hown, hts⟩ (c_X11_isCell l g a2 a3 _ g12) (va_cwS 2 hts gX11_footpath_X11_isCell rfl rfl rfl hd_X11_isCell ⟨Nat.le_of_ble_eq_true rfl, Nat.le_of_ble_eq_true rfl⟩) hK hZ hT hA hP hD hS hl.1 rfl rfl (Nat.le_of_ble_eq_true rfl) ⟨Nat.le_of_ble_eq_true rfl, Nat.le_of_ble_eq_true rfl⟩ dX11_footpath_34 (fun H locs hP hD hS => ?_)
    refine lv_if_eq (tgt := 44) hx hb dX11_footpath_37 (by decide) (fun hc => ?_) (fun hc => ?_)
    · have hf := jbT hf hc
      exact hJ44 o3 z8 _ _ _ hf hP hD hS (lv_sub hl [0] rfl)
    · have hf := jbF hf hc
      refine lv_iconst (v := 1) hx hb dX11_footpath_40 (by decide) ?_
      refine lv_goto (tgt := 45) hx hb dX11_footpath_41 (by decide) ?_
      exact hJ45 o3 z8 1 _ _ _ hf hP hD hS (lv_sub hl [0] rfl)
def f_X11_winchCount (mv : MV) : Option (Int32 × MV) :=
  jbN (mSThrown 0 mv) fun w1 =>
  if jIn 5 229 then
  some (((mNow w1) (5 : Int32).toNatClampNeg), w1)
  else none
def rm_X11_winchCount : Room := { frames := 0, cells := 0, slots := 0, locals := 0 }
theorem hd_X11_winchCount : yX11_winchCount.cls = RX11 ∧ yX11_winchCount.cls ≠ "java/lang/invoke/MethodHandle" ∧ yX11_winchCount.cls ≠ "java/lang/invoke/VarHandle" ∧ (parseMethodDescriptor yX11_winchCount.desc).map (fun d => d.parameters.length) = some 0 := by decide +kernel
set_option maxHeartbeats 4000000 in
set_option maxRecDepth 100000 in
theorem c_X11_winchCount (l : Launch) (g : GG) (hm : Nat → Nat) (mv : MV)   (out : Int32 × MV) (hf : f_X11_winchCount mv = some out) : MtI l yX11_winchCount wsX11_winchCount rm_X11_winchCount g (wM g hm mv) [.ref (hm 0)] (out.1) (wM g hm (out.2)) 0 0 := by
  refine fun sz => mt_of (cc := cX11_winchCount) (maxL := 1) (ret := (some .int)) (own := RX11) (Qc := fun A => va_Qi (fun r (_ : Unit) => r = (out.1)) (fun _ t => PosM g A (wM g hm (out.2)) t) A) (by decide +kernel) rfl rfl (Nat.le_of_ble_eq_true rfl) ?_ sz
  intro p e s mi below meth c A ls hB hnm hrt hlk hP hD hl
  obtain ⟨hx, hb, hml, hown, hts, hK, hZ, hT, hA, -⟩ := hB
  have hS : va_S A s.heap s.heap [] := va_S.rf
  have hl : lv_has ls 1 [(0, .ref (hm 0))] := hl
  have hinX11 : ∀ w ∈ wsX110, w ∈ wsX11_winchCount := by decide +kernel
  have k0 := hts (.fieldLink RX11 45 "TerraceQuarryModel" "thrown" "I") (by decide +kernel)
  have k1 := hts (.fieldLink RX11 9 "TerraceQuarryModel" "now" "[I") (by decide +kernel)
  generalize hQ : MQ below _ _ _ _ _ _ = Q
  unfold f_X11_winchCount at hf
  refine lv_aload_n hx hb dX11_winchCount_0 rfl (lv_at hl 0 rfl) ?_
  refine lv_iconst (v := 0) hx hb dX11_winchCount_1 (by decide) ?_
  refine va_put (D := gD g) (ci := 10) (v := .int 0) (ty := .int) (C := RX11) (T := TX11) (N := 19) hx hb hts hinX11 tyX11 tyX11_ok nmX11 hown hK hP hD hS 0 rfl rfl 13 (by decide) k0 (fun _ h9 => h9) rfl (tyX11_ok 13 (by decide)) rfl rfl (Nat.le_of_ble_eq_true rfl) dX11_winchCount_2 (fun H locs hP hD hS => ?_)
  obtain ⟨w1, ew1⟩ : ∃ y, y = (mSThrown 0 mv) := ⟨_, rfl⟩
  have hf := jbN_e hf ew1
  have hP : va_P (gD g) vwCl (wM g hm w1) H := by rw [ew1]; exact hP
  have hD : va_D A (wM g hm w1) := by rw [ew1]; exact hD
  refine lv_aload_n hx hb dX11_winchCount_5 rfl (lv_at hl 0 rfl) ?_
  refine va_get (D := gD g) (ci := 10) (v := .ref (hm 1)) (C := RX11) (T := TX11) (N := 19) hx hb hts hinX11 hown hK hP 0 rfl rfl 0 (by decide) k1 (fun _ h9 => h9) rfl dX11_winchCount_6 ?_
  refine lv_iconst (v := 5) hx hb dX11_winchCount_9 (by decide) ?_
  obtain ⟨h2, hf⟩ := jbA_e hf
  refine va_iald hx hb hK hP 1 0 rfl rfl h2 dX11_winchCount_10 ?_
  cases hf
  subst hQ
  exact rt_i hx hb hrt hlk rfl hK hP hD hS (Nat.le_of_ble_eq_true rfl) (Nat.le_of_ble_eq_true rfl) dX11_winchCount_11
def f_X11_liftableCells_J42 (mv : MV) (x1 : Int32) (x3 : Int32) (y0 : Int32) (y1 : Int32) : Option (Sum (Int32 × Int32) (Int32 × Int32)) :=
  jbN (y1 + y0) fun z11 =>
  some (.inl (z11, (x3 + 1)))
def f_X11_liftableCells_J41 (mv : MV) (x1 : Int32) (x3 : Int32) (y0 : Int32) : Option (Sum (Int32 × Int32) (Int32 × Int32)) :=
  f_X11_liftableCells_J42 mv x1 x3 0 y0
def f_X11_liftableCells_L4 (mv : MV) (x1 : Int32) (x2 : Int32) (x3 : Int32) : Option (Sum (Int32 × Int32) (Int32 × Int32)) :=
  if 30 ≤ x3 then
  (some (.inr (x2, x3)))
  else
  ((f_X11_isWinch mv x1).bind fun o5 =>
  if o5 = 0 then
  (some (.inr (x2, x3)))
  else
  ((f_X11_of mv x3 2).bind fun o7 =>
  if o7 = 0 then
  ((f_X11_canLift mv x1 x3).bind fun o9 =>
  if o9 = 0 then
  (f_X11_liftableCells_J41 mv x1 x3 x2)
  else
  (f_X11_liftableCells_J42 mv x1 x3 1 x2))
  else
  (f_X11_liftableCells_J41 mv x1 x3 x2)))
def f_X11_liftableCells (mv : MV) (a0 : Int32) : Option (Int32 × MV) :=
  (jbL (fun s => f_X11_liftableCells_L4 mv a0 (s.1) (s.2)) 5000 (0, 0)).bind fun o4 =>
  (f_X11_isWinch mv a0).bind fun o1 =>
  (f_X11_goes mv o1).bind fun o3 =>
  if (o3.1) = 0 then
  (some (0, (o3.2)))
  else
  (some ((o4.1), (o3.2)))
def rm_X11_liftableCells : Room := { frames := 4, cells := 0, slots := 0, locals := 88 }
theorem hd_X11_liftableCells : yX11_liftableCells.cls = RX11 ∧ yX11_liftableCells.cls ≠ "java/lang/invoke/MethodHandle" ∧ yX11_liftableCells.cls ≠ "java/lang/invoke/VarHandle" ∧ (parseMethodDescriptor yX11_liftableCells.desc).map (fun d => d.parameters.length) = some 1 := by decide +kernel
set_option maxHeartbeats 4000000 in
set_option maxRecDepth 100000 in
theorem c_X11_liftableCells (l : Launch) (g : GG) (hm : Nat → Nat) (mv : MV)  (a0 : Int32) (out : Int32 × MV) (hf : f_X11_liftableCells mv a0 = some out) : MtI l yX11_liftableCells wsX11_liftableCells rm_X11_liftableCells g (wM g hm mv) [.ref (hm 0), .int a0] (out.1) (wM g hm (out.2)) 0 0 := by
  refine fun sz => mt_of (cc := cX11_liftableCells) (maxL := 4) (ret := (some .int)) (own := RX11) (Qc := fun A => va_Qi (fun r (_ : Unit) => r = (out.1)) (fun _ t => PosM g A (wM g hm (out.2)) t) A) (by decide +kernel) rfl rfl (Nat.le_of_ble_eq_true rfl) ?_ sz
  intro p e s mi below meth c A ls hB hnm hrt hlk hP hD hl
  obtain ⟨hx, hb, hml, hown, hts, hK, hZ, hT, hA, -⟩ := hB
  have hS : va_S A s.heap s.heap [] := va_S.rf
  have hl : lv_has ls 4 [(0, .ref (hm 0)), (1, .int a0)] := hl
  generalize hQ : MQ below _ _ _ _ _ _ = Q
  unfold f_X11_liftableCells at hf
  have hL4 : ∀ (mv : MV) (x1 : Int32) (n : Nat) (x2 : Int32) (x3 : Int32) (H : Heap) (locs : List Loc) (ls : Array Slot) (o4 : Int32 × Int32), jbL (fun s => f_X11_liftableCells_L4 mv x1 (s.1) (s.2)) n (x2, x3) = some o4 → va_P (gD g) vwCl (wM g hm mv) H → va_D A (wM g hm mv) → va_S A s.heap H locs → lv_has ls 4 [(0, .ref (hm 0)), (1, .int x1), (2, .int x2), (3, .int x3)] → (∀ (H : Heap) (locs : List Loc) (ls : Array Slot), va_P (gD g) vwCl (wM g hm mv) H → va_D A (wM g hm mv) → va_S A s.heap H locs → lv_has ls 4 [(0, .ref (hm 0)), (1, .int x1), (2, .int (o4.1))] → W p l e rm_X11_liftableCells s mi [.ref (hm 0), .int a0].toArray below meth c H locs 0 0 Q (F0 mi 50 ls [])) → W p l e rm_X11_liftableCells s mi [.ref (hm 0), .int a0].toArray below meth c H locs 0 0 Q (F0 mi 4 ls []) := by
    intro mv x1 n
    induction n with
    | zero => intro x2 x3 H locs ls o4 hf; exact absurd hf (jbL_0 _ _ _)
    | succ n ih =>
      intro x2 x3 H locs ls o4 hf hP hD hS hl hk
      obtain ⟨r, hf, hr⟩ := jbL_e hf
      have hf : f_X11_liftableCells_L4 mv x1 x2 x3 = some r := hf
      unfold f_X11_liftableCells_L4 at hf
      have hJ42 : ∀ (x3 : Int32) (y0 : Int32) (y1 : Int32) (H : Heap) (locs : List Loc) (ls : Array Slot) (r : Sum (Int32 × Int32) (Int32 × Int32)), f_X11_liftableCells_J42 mv x1 x3 y0 y1 = some r → jbR (fun s => f_X11_liftableCells_L4 mv x1 (s.1) (s.2)) n o4 r → va_P (gD g) vwCl (wM g hm mv) H → va_D A (wM g hm mv) → va_S A s.heap H locs → lv_has ls 4 [(0, .ref (hm 0)), (1, .int x1), (3, .int x3)] → W p l e rm_X11_liftableCells s mi [.ref (hm 0), .int a0].toArray below meth c H locs 0 0 Q (F0 mi 42 ls [.int y0, .int y1]) := by
        intro x3 y0 y1 H locs ls r hf hr hP hD hS hl
        unfold f_X11_liftableCells_J42 at hf
        refine lv_iadd hx hb dX11_liftableCells_42 ?_
        refine lv_topi (fun z11 ez11 => ?_)
        have hf := jbN_e hf ez11
        refine lv_istore_n (lv' := [(2, .int z11), (0, .ref (hm 0)), (1, .int x1), (3, .int x3)]) hx hb dX11_liftableCells_43 rfl hl (by decide) rfl (fun ls hl => ?_)
        refine lv_iinc (v := (x3 + 1)) (lv' := [(3, .int (x3 + 1)), (2, .int z11), (0, .ref (hm 0)), (1, .int x1)]) hx hb dX11_liftableCells_44 hl (k := 3) rfl rfl (by decide) rfl (fun ls hl => ?_)
        refine lv_goto (tgt := 4) hx hb dX11_liftableCells_47 (by decide) ?_
        cases hf
        exact ih z11 (x3 + 1) _ _ _ _ hr hP hD hS (lv_sub hl [2, 3, 1, 0] rfl) hk
      have hJ41 : ∀ (x3 : Int32) (y0 : Int32) (H : Heap) (locs : List Loc) (ls : Array Slot) (r : Sum (Int32 × Int32) (Int32 × Int32)), f_X11_liftableCells_J41 mv x1 x3 y0 = some r → jbR (fun s => f_X11_liftableCells_L4 mv x1 (s.1) (s.2)) n o4 r → va_P (gD g) vwCl (wM g hm mv) H → va_D A (wM g hm mv) → va_S A s.heap H locs → lv_has ls 4 [(0, .ref (hm 0)), (1, .int x1), (3, .int x3)] → W p l e rm_X11_liftableCells s mi [.ref (hm 0), .int a0].toArray below meth c H locs 0 0 Q (F0 mi 41 ls [.int y0]) := by
        intro x3 y0 H locs ls r hf hr hP hD hS hl
        unfold f_X11_liftableCells_J41 at hf
        refine lv_iconst (v := 0) hx hb dX11_liftableCells_41 (by decide) ?_
        exact hJ42 x3 0 y0 _ _ _ _ hf hr hP hD hS (lv_sub hl [0, 1, 2] rfl)
      refine lv_iload_n hx hb dX11_liftableCells_4 rfl (lv_at hl 3 rfl) ?_
      refine lv_bipush (v := 30) hx hb dX11_liftableCells_5 (by decide) ?_
      refine lv_icmp_ge (tgt := 50) hx hb dX11_liftableCells_7 (by decide) (fun hc => ?_) (fun hc => ?_)
      · have hf := jbT hf hc
        cases hf
        obtain rfl := jbR_r hr
        exact hk _ _ _ hP hD hS (lv_sub hl [0, 1, 2] rfl)
      · have hf := jbF hf hc
        refine lv_aload_n hx hb dX11_liftableCells_10 rfl (lv_at hl 0 rfl) ?_
        refine lv_iload_n hx hb dX11_liftableCells_11 rfl (lv_at hl 1 rfl) ?_
        obtain ⟨o5, g6, hf⟩ := jbB_e hf
        refine cva_i (As := [.int x1]) (rest := []) ⟨hx, hb, hml, hown, hts⟩ (c_X11_isWinch l g hm mv x1 _ g6) (cwV 1 hts gX11_liftableCells_X11_isWinch rfl rfl rfl hd_X11_isWinch ⟨Nat.le_of_ble_eq_true rfl, Nat.le_of_ble_eq_true rfl⟩) hK hZ hT hA hP hD hS hl.1 (va_recv hK hP (ci := 10) (q0 := 0) rfl rfl) rfl rfl (Nat.le_of_ble_eq_true rfl) ⟨Nat.le_of_ble_eq_true rfl, Nat.le_of_ble_eq_true rfl⟩ dX11_liftableCells_12 (fun H locs hP hD hS => ?_)
        refine lv_if_eq (tgt := 50) hx hb dX11_liftableCells_15 (by decide) (fun hc => ?_) (fun hc => ?_)
        · have hf := jbT hf hc
          cases hf
          obtain rfl := jbR_r hr
          exact hk _ _ _ hP hD hS (lv_sub hl [0, 1, 2] rfl)
        · have hf := jbF hf hc
          refine lv_iload_n hx hb dX11_liftableCells_18 rfl (lv_at hl 2 rfl) ?_
          refine lv_aload_n hx hb dX11_liftableCells_19 rfl (lv_at hl 0 rfl) ?_
          refine lv_iload_n hx hb dX11_liftableCells_20 rfl (lv_at hl 3 rfl) ?_
          refine lv_iconst (v := 2) hx hb dX11_liftableCells_21 (by decide) ?_
          obtain ⟨o7, g8, hf⟩ := jbB_e hf
          refine cva_i (As := [.int x3, .int 2]) (rest := [.int x2]) ⟨hx, hb, hml, hown, hts⟩ (c_X11_of l g hm mv x3 2 _ g8) (cwV 2 hts gX11_liftableCells_X11_of rfl rfl rfl hd_X11_of ⟨Nat.le_of_ble_eq_true rfl, Nat.le_of_ble_eq_true rfl⟩) hK hZ hT hA hP hD hS hl.1 (va_recv hK hP (ci := 10) (q0 := 0) rfl rfl) rfl rfl (Nat.le_of_ble_eq_true rfl) ⟨Nat.le_of_ble_eq_true rfl, Nat.le_of_ble_eq_true rfl⟩ dX11_liftableCells_22 (fun H locs hP hD hS => ?_)
          refine lv_if_ne (tgt := 41) hx hb dX11_liftableCells_25 (by decide) (fun hc => ?_) (fun hc => ?_)
          · have hf := jbF hf hc
            exact hJ41 x3 x2 _ _ _ _ hf hr hP hD hS (lv_sub hl [0, 1, 3] rfl)
          · have hf := jbT hf hc
            refine lv_aload_n hx hb dX11_liftableCells_28 rfl (lv_at hl 0 rfl) ?_
            refine lv_iload_n hx hb dX11_liftableCells_29 rfl (lv_at hl 1 rfl) ?_
            refine lv_iload_n hx hb dX11_liftableCells_30 rfl (lv_at hl 3 rfl) ?_
            obtain ⟨o9, g10, hf⟩ := jbB_e hf
            refine cva_i (As := [.int x1, .int x3]) (rest := [.int x2]) ⟨hx, hb, hml, hown, hts⟩ (c_X11_canLift l g hm mv x1 x3 _ g10) (cwV 2 hts gX11_liftableCells_X11_canLift rfl rfl rfl hd_X11_canLift ⟨Nat.le_of_ble_eq_true rfl, Nat.le_of_ble_eq_true rfl⟩) hK hZ hT hA hP hD hS hl.1 (va_recv hK hP (ci := 10) (q0 := 0) rfl rfl) rfl rfl (Nat.le_of_ble_eq_true rfl) ⟨Nat.le_of_ble_eq_true rfl, Nat.le_of_ble_eq_true rfl⟩ dX11_liftableCells_31 (fun H locs hP hD hS => ?_)
            refine lv_if_eq (tgt := 41) hx hb dX11_liftableCells_34 (by decide) (fun hc => ?_) (fun hc => ?_)
            · have hf := jbT hf hc
              exact hJ41 x3 x2 _ _ _ _ hf hr hP hD hS (lv_sub hl [0, 1, 3] rfl)
            · have hf := jbF hf hc
              refine lv_iconst (v := 1) hx hb dX11_liftableCells_37 (by decide) ?_
              refine lv_goto (tgt := 42) hx hb dX11_liftableCells_38 (by decide) ?_
              exact hJ42 x3 1 x2 _ _ _ _ hf hr hP hD hS (lv_sub hl [0, 1, 3] rfl)
  refine lv_iconst (v := 0) hx hb dX11_liftableCells_0 (by decide) ?_
  refine lv_istore_n (lv' := [(2, .int 0), (0, .ref (hm 0)), (1, .int a0)]) hx hb dX11_liftableCells_1 rfl hl (by decide) rfl (fun ls hl => ?_)
  refine lv_iconst (v := 0) hx hb dX11_liftableCells_2 (by decide) ?_
  refine lv_istore_n (lv' := [(3, .int 0), (2, .int 0), (0, .ref (hm 0)), (1, .int a0)]) hx hb dX11_liftableCells_3 rfl hl (by decide) rfl (fun ls hl => ?_)
  obtain ⟨o4, hg, hf⟩ := jbB_e hf
  refine hL4 mv a0 _ 0 0 _ _ _ _ hg hP hD hS (lv_sub hl [2, 3, 1, 0] rfl) (fun H locs ls hP hD hS hl => ?_)
  refine lv_aload_n hx hb dX11_liftableCells_50 rfl (lv_at hl 0 rfl) ?_
  refine lv_aload_n hx hb dX11_liftableCells_51 rfl (lv_at hl 0 rfl) ?_
  refine lv_iload_n hx hb dX11_liftableCells_52 rfl (lv_at hl 1 rfl) ?_
  obtain ⟨o1, g2, hf⟩ := jbB_e hf
  refine cva_i (As := [.int a0]) (rest := [.ref (hm 0)]) ⟨hx, hb, hml, hown, hts⟩ (c_X11_isWinch l g hm mv a0 _ g2) (cwV 1 hts gX11_liftableCells_X11_isWinch rfl rfl rfl hd_X11_isWinch ⟨Nat.le_of_ble_eq_true rfl, Nat.le_of_ble_eq_true rfl⟩) hK hZ hT hA hP hD hS hl.1 (va_recv hK hP (ci := 10) (q0 := 0) rfl rfl) rfl rfl (Nat.le_of_ble_eq_true rfl) ⟨Nat.le_of_ble_eq_true rfl, Nat.le_of_ble_eq_true rfl⟩ dX11_liftableCells_53 (fun H locs hP hD hS => ?_)
  obtain ⟨o3, g4, hf⟩ := jbB_e hf
  refine cva_i (As := [.int o1]) (rest := []) ⟨hx, hb, hml, hown, hts⟩ (c_X11_goes l g hm mv o1 _ g4) (cwV 1 hts gX11_liftableCells_X11_goes rfl rfl rfl hd_X11_goes ⟨Nat.le_of_ble_eq_true rfl, Nat.le_of_ble_eq_true rfl⟩) hK hZ hT hA hP hD hS hl.1 (va_recv hK hP (ci := 10) (q0 := 0) rfl rfl) rfl rfl (Nat.le_of_ble_eq_true rfl) ⟨Nat.le_of_ble_eq_true rfl, Nat.le_of_ble_eq_true rfl⟩ dX11_liftableCells_56 (fun H locs hP hD hS => ?_)
  refine lv_if_eq (tgt := 66) hx hb dX11_liftableCells_59 (by decide) (fun hc => ?_) (fun hc => ?_)
  · have hf := jbT hf hc
    refine lv_iconst (v := 0) hx hb dX11_liftableCells_66 (by decide) ?_
    cases hf
    subst hQ
    exact rt_i hx hb hrt hlk rfl hK hP hD hS (Nat.le_of_ble_eq_true rfl) (Nat.le_of_ble_eq_true rfl) dX11_liftableCells_67
  · have hf := jbF hf hc
    refine lv_iload_n hx hb dX11_liftableCells_62 rfl (lv_at hl 2 rfl) ?_
    refine lv_goto (tgt := 67) hx hb dX11_liftableCells_63 (by decide) ?_
    cases hf
    subst hQ
    exact rt_i hx hb hrt hlk rfl hK hP hD hS (Nat.le_of_ble_eq_true rfl) (Nat.le_of_ble_eq_true rfl) dX11_liftableCells_67
def f_X11_bestWinch_J109 (mv : MV) (x4 : Int32) (y0 : Int32) (y1 : Int32) : Option (Int32 × MV) :=
  (f_X11_holds mv y1 y0 1 1).bind fun o14 =>
  if (o14.1) = 0 then
  (some (0, (o14.2)))
  else
  (some (x4, (o14.2)))
def f_X11_bestWinch_J84 (mv : MV) (x1 : Int32) (x2 : Int32) (x3 : Int32) (x5 : Int32) (y0 : Int32) : Option (Sum (Int32 × Int32) (Int32 × Int32)) :=
  some (.inl (y0, (x5 + 1)))
def f_X11_bestWinch_J82 (mv : MV) (x1 : Int32) (x2 : Int32) (x3 : Int32) (x4 : Int32) (x5 : Int32) : Option (Sum (Int32 × Int32) (Int32 × Int32)) :=
  f_X11_bestWinch_J84 mv x1 x2 x3 x5 x4
def f_X11_bestWinch_J77 (mv : MV) (x1 : Int32) (x2 : Int32) (x3 : Int32) (x5 : Int32) : Option (Sum (Int32 × Int32) (Int32 × Int32)) :=
  f_X11_bestWinch_J84 mv x1 x2 x3 x5 x5
def f_X11_bestWinch_J47 (mv : MV) (x1 : Int32) (x2 : Int32) (x3 : Int32) (x4 : Int32) (x5 : Int32) (y0 : Int32) : Option (Sum (Int32 × Int32) (Int32 × Int32)) :=
  if y0 = 0 then
  (f_X11_bestWinch_J82 mv x1 x2 x3 x4 x5)
  else
  (if x4 = (-1) then
  (f_X11_bestWinch_J77 mv x1 x2 x3 x5)
  else
  ((f_X11_ofWinch mv x5 1).bind fun o10 =>
  (f_X11_ofWinch mv x4 1).bind fun o12 =>
  if o12 ≤ o10 then
  (f_X11_bestWinch_J82 mv x1 x2 x3 x4 x5)
  else
  (f_X11_bestWinch_J77 mv x1 x2 x3 x5)))
def f_X11_bestWinch_J46 (mv : MV) (x1 : Int32) (x2 : Int32) (x3 : Int32) (x4 : Int32) (x5 : Int32) : Option (Sum (Int32 × Int32) (Int32 × Int32)) :=
  f_X11_bestWinch_J47 mv x1 x2 x3 x4 x5 0
def f_X11_bestWinch_L12 (mv : MV) (x1 : Int32) (x2 : Int32) (x3 : Int32) (x4 : Int32) (x5 : Int32) : Option (Sum (Int32 × Int32) (Int32 × Int32)) :=
  if jIn 5 229 then
  if ((mNow mv) (5 : Int32).toNatClampNeg) ≤ x5 then
  (some (.inr (x4, x5)))
  else
  ((f_X11_of mv x3 2).bind fun o6 =>
  if o6 = 0 then
  ((f_X11_canLift mv x5 x3).bind fun o8 =>
  if o8 = 0 then
  (f_X11_bestWinch_J46 mv x1 x2 x3 x4 x5)
  else
  (f_X11_bestWinch_J47 mv x1 x2 x3 x4 x5 1))
  else
  (f_X11_bestWinch_J46 mv x1 x2 x3 x4 x5))
  else none
def f_X11_bestWinch (mv : MV) (a0 : Int32) (a1 : Int32) : Option (Int32 × MV) :=
  (f_X11_cellAt a0 a1).bind fun o1 =>
  (jbL (fun s => f_X11_bestWinch_L12 mv a0 a1 o1 (s.1) (s.2)) 5000 ((-1), 0)).bind fun o12 =>
  (f_X11_isCell a0 a1).bind fun o3 =>
  if (o12.1) = (-1) then
  (f_X11_bestWinch_J109 mv (o12.1) 0 o3)
  else
  (f_X11_bestWinch_J109 mv (o12.1) 1 o3)
def rm_X11_bestWinch : Room := { frames := 4, cells := 0, slots := 0, locals := 88 }
theorem hd_X11_bestWinch : yX11_bestWinch.cls = RX11 ∧ yX11_bestWinch.cls ≠ "java/lang/invoke/MethodHandle" ∧ yX11_bestWinch.cls ≠ "java/lang/invoke/VarHandle" ∧ (parseMethodDescriptor yX11_bestWinch.desc).map (fun d => d.parameters.length) = some 2 := by decide +kernel
set_option maxHeartbeats 4000000 in
set_option maxRecDepth 100000 in
theorem c_X11_bestWinch (l : Launch) (g : GG) (hm : Nat → Nat) (mv : MV)  (a0 : Int32) (a1 : Int32) (out : Int32 × MV) (hf : f_X11_bestWinch mv a0 a1 = some out) : MtI l yX11_bestWinch wsX11_bestWinch rm_X11_bestWinch g (wM g hm mv) [.ref (hm 0), .int a0, .int a1] (out.1) (wM g hm (out.2)) 0 0 := by
  refine fun sz => mt_of (cc := cX11_bestWinch) (maxL := 7) (ret := (some .int)) (own := RX11) (Qc := fun A => va_Qi (fun r (_ : Unit) => r = (out.1)) (fun _ t => PosM g A (wM g hm (out.2)) t) A) (by decide +kernel) rfl rfl (Nat.le_of_ble_eq_true rfl) ?_ sz
  intro p e s mi below meth c A ls hB hnm hrt hlk hP hD hl
  obtain ⟨hx, hb, hml, hown, hts, hK, hZ, hT, hA, -⟩ := hB
  have hS : va_S A s.heap s.heap [] := va_S.rf
  have hl : lv_has ls 7 [(0, .ref (hm 0)), (1, .int a0), (2, .int a1)] := hl
  have hinX11 : ∀ w ∈ wsX110, w ∈ wsX11_bestWinch := by decide +kernel
  have k0 := hts (.fieldLink RX11 9 "TerraceQuarryModel" "now" "[I") (by decide +kernel)
  generalize hQ : MQ below _ _ _ _ _ _ = Q
  unfold f_X11_bestWinch at hf
  have hJ109 : ∀ (mv : MV) (x4 : Int32) (y0 : Int32) (y1 : Int32) (H : Heap) (locs : List Loc) (ls : Array Slot), f_X11_bestWinch_J109 mv x4 y0 y1 = some out → va_P (gD g) vwCl (wM g hm mv) H → va_D A (wM g hm mv) → va_S A s.heap H locs → lv_has ls 7 [(4, .int x4)] → W p l e rm_X11_bestWinch s mi [.ref (hm 0), .int a0, .int a1].toArray below meth c H locs 0 0 Q (F0 mi 109 ls [.int y0, .int y1, .ref (hm 0)]) := by
    intro mv x4 y0 y1 H locs ls hf hP hD hS hl
    unfold f_X11_bestWinch_J109 at hf
    refine lv_iconst (v := 1) hx hb dX11_bestWinch_109 (by decide) ?_
    refine lv_iconst (v := 1) hx hb dX11_bestWinch_110 (by decide) ?_
    obtain ⟨o14, g15, hf⟩ := jbB_e hf
    refine cva_i (As := [.int y1, .int y0, .int 1, .int 1]) (rest := []) ⟨hx, hb, hml, hown, hts⟩ (c_X11_holds l g hm mv y1 y0 1 1 _ g15) (cwV 4 hts gX11_bestWinch_X11_holds rfl rfl rfl hd_X11_holds ⟨Nat.le_of_ble_eq_true rfl, Nat.le_of_ble_eq_true rfl⟩) hK hZ hT hA hP hD hS hl.1 (va_recv hK hP (ci := 10) (q0 := 0) rfl rfl) rfl rfl (Nat.le_of_ble_eq_true rfl) ⟨Nat.le_of_ble_eq_true rfl, Nat.le_of_ble_eq_true rfl⟩ dX11_bestWinch_111 (fun H locs hP hD hS => ?_)
    refine lv_if_eq (tgt := 122) hx hb dX11_bestWinch_114 (by decide) (fun hc => ?_) (fun hc => ?_)
    · have hf := jbT hf hc
      refine lv_iconst (v := 0) hx hb dX11_bestWinch_122 (by decide) ?_
      cases hf
      subst hQ
      exact rt_i hx hb hrt hlk rfl hK hP hD hS (Nat.le_of_ble_eq_true rfl) (Nat.le_of_ble_eq_true rfl) dX11_bestWinch_123
    · have hf := jbF hf hc
      refine lv_iload hx hb dX11_bestWinch_117 (lv_at hl 0 rfl) ?_
      refine lv_goto (tgt := 123) hx hb dX11_bestWinch_119 (by decide) ?_
      cases hf
      subst hQ
      exact rt_i hx hb hrt hlk rfl hK hP hD hS (Nat.le_of_ble_eq_true rfl) (Nat.le_of_ble_eq_true rfl) dX11_bestWinch_123
  have hL12 : ∀ (mv : MV) (x1 : Int32) (x2 : Int32) (x3 : Int32) (n : Nat) (x4 : Int32) (x5 : Int32) (H : Heap) (locs : List Loc) (ls : Array Slot) (o12 : Int32 × Int32), jbL (fun s => f_X11_bestWinch_L12 mv x1 x2 x3 (s.1) (s.2)) n (x4, x5) = some o12 → va_P (gD g) vwCl (wM g hm mv) H → va_D A (wM g hm mv) → va_S A s.heap H locs → lv_has ls 7 [(0, .ref (hm 0)), (1, .int x1), (2, .int x2), (3, .int x3), (4, .int x4), (5, .int x5)] → (∀ (H : Heap) (locs : List Loc) (ls : Array Slot), va_P (gD g) vwCl (wM g hm mv) H → va_D A (wM g hm mv) → va_S A s.heap H locs → lv_has ls 7 [(0, .ref (hm 0)), (1, .int x1), (2, .int x2), (4, .int (o12.1))] → W p l e rm_X11_bestWinch s mi [.ref (hm 0), .int a0, .int a1].toArray below meth c H locs 0 0 Q (F0 mi 92 ls [])) → W p l e rm_X11_bestWinch s mi [.ref (hm 0), .int a0, .int a1].toArray below meth c H locs 0 0 Q (F0 mi 12 ls []) := by
    intro mv x1 x2 x3 n
    induction n with
    | zero => intro x4 x5 H locs ls o12 hf; exact absurd hf (jbL_0 _ _ _)
    | succ n ih =>
      intro x4 x5 H locs ls o12 hf hP hD hS hl hk
      obtain ⟨r, hf, hr⟩ := jbL_e hf
      have hf : f_X11_bestWinch_L12 mv x1 x2 x3 x4 x5 = some r := hf
      unfold f_X11_bestWinch_L12 at hf
      have hJ84 : ∀ (x5 : Int32) (y0 : Int32) (H : Heap) (locs : List Loc) (ls : Array Slot) (r : Sum (Int32 × Int32) (Int32 × Int32)), f_X11_bestWinch_J84 mv x1 x2 x3 x5 y0 = some r → jbR (fun s => f_X11_bestWinch_L12 mv x1 x2 x3 (s.1) (s.2)) n o12 r → va_P (gD g) vwCl (wM g hm mv) H → va_D A (wM g hm mv) → va_S A s.heap H locs → lv_has ls 7 [(0, .ref (hm 0)), (1, .int x1), (2, .int x2), (3, .int x3), (5, .int x5)] → W p l e rm_X11_bestWinch s mi [.ref (hm 0), .int a0, .int a1].toArray below meth c H locs 0 0 Q (F0 mi 84 ls [.int y0]) := by
        intro x5 y0 H locs ls r hf hr hP hD hS hl
        unfold f_X11_bestWinch_J84 at hf
        refine lv_istore (lv' := [(4, .int y0), (0, .ref (hm 0)), (1, .int x1), (2, .int x2), (3, .int x3), (5, .int x5)]) hx hb dX11_bestWinch_84 hl (by decide) rfl (fun ls hl => ?_)
        refine lv_iinc (v := (x5 + 1)) (lv' := [(5, .int (x5 + 1)), (4, .int y0), (0, .ref (hm 0)), (1, .int x1), (2, .int x2), (3, .int x3)]) hx hb dX11_bestWinch_86 hl (k := 5) rfl rfl (by decide) rfl (fun ls hl => ?_)
        refine lv_goto (tgt := 12) hx hb dX11_bestWinch_89 (by decide) ?_
        cases hf
        exact ih y0 (x5 + 1) _ _ _ _ hr hP hD hS (lv_sub hl [2, 3, 4, 5, 1, 0] rfl) hk
      have hJ82 : ∀ (x4 : Int32) (x5 : Int32) (H : Heap) (locs : List Loc) (ls : Array Slot) (r : Sum (Int32 × Int32) (Int32 × Int32)), f_X11_bestWinch_J82 mv x1 x2 x3 x4 x5 = some r → jbR (fun s => f_X11_bestWinch_L12 mv x1 x2 x3 (s.1) (s.2)) n o12 r → va_P (gD g) vwCl (wM g hm mv) H → va_D A (wM g hm mv) → va_S A s.heap H locs → lv_has ls 7 [(0, .ref (hm 0)), (1, .int x1), (2, .int x2), (3, .int x3), (4, .int x4), (5, .int x5)] → W p l e rm_X11_bestWinch s mi [.ref (hm 0), .int a0, .int a1].toArray below meth c H locs 0 0 Q (F0 mi 82 ls []) := by
        intro x4 x5 H locs ls r hf hr hP hD hS hl
        unfold f_X11_bestWinch_J82 at hf
        refine lv_iload hx hb dX11_bestWinch_82 (lv_at hl 4 rfl) ?_
        exact hJ84 x5 x4 _ _ _ _ hf hr hP hD hS (lv_sub hl [0, 1, 2, 3, 5] rfl)
      have hJ77 : ∀ (x5 : Int32) (H : Heap) (locs : List Loc) (ls : Array Slot) (r : Sum (Int32 × Int32) (Int32 × Int32)), f_X11_bestWinch_J77 mv x1 x2 x3 x5 = some r → jbR (fun s => f_X11_bestWinch_L12 mv x1 x2 x3 (s.1) (s.2)) n o12 r → va_P (gD g) vwCl (wM g hm mv) H → va_D A (wM g hm mv) → va_S A s.heap H locs → lv_has ls 7 [(0, .ref (hm 0)), (1, .int x1), (2, .int x2), (3, .int x3), (5, .int x5)] → W p l e rm_X11_bestWinch s mi [.ref (hm 0), .int a0, .int a1].toArray below meth c H locs 0 0 Q (F0 mi 77 ls []) := by
        intro x5 H locs ls r hf hr hP hD hS hl
        unfold f_X11_bestWinch_J77 at hf
        refine lv_iload hx hb dX11_bestWinch_77 (lv_at hl 4 rfl) ?_
        refine lv_goto (tgt := 84) hx hb dX11_bestWinch_79 (by decide) ?_
        exact hJ84 x5 x5 _ _ _ _ hf hr hP hD hS (lv_sub hl [0, 1, 2, 3, 4] rfl)
      have hJ47 : ∀ (x4 : Int32) (x5 : Int32) (y0 : Int32) (H : Heap) (locs : List Loc) (ls : Array Slot) (r : Sum (Int32 × Int32) (Int32 × Int32)), f_X11_bestWinch_J47 mv x1 x2 x3 x4 x5 y0 = some r → jbR (fun s => f_X11_bestWinch_L12 mv x1 x2 x3 (s.1) (s.2)) n o12 r → va_P (gD g) vwCl (wM g hm mv) H → va_D A (wM g hm mv) → va_S A s.heap H locs → lv_has ls 7 [(0, .ref (hm 0)), (1, .int x1), (2, .int x2), (3, .int x3), (4, .int x4), (5, .int x5)] → W p l e rm_X11_bestWinch s mi [.ref (hm 0), .int a0, .int a1].toArray below meth c H locs 0 0 Q (F0 mi 47 ls [.int y0]) := by
        intro x4 x5 y0 H locs ls r hf hr hP hD hS hl
        unfold f_X11_bestWinch_J47 at hf
        refine lv_istore (lv' := [(6, .int y0), (0, .ref (hm 0)), (1, .int x1), (2, .int x2), (3, .int x3), (4, .int x4), (5, .int x5)]) hx hb dX11_bestWinch_47 hl (by decide) rfl (fun ls hl => ?_)
        refine lv_iload hx hb dX11_bestWinch_49 (lv_at hl 0 rfl) ?_
        refine lv_if_eq (tgt := 82) hx hb dX11_bestWinch_51 (by decide) (fun hc => ?_) (fun hc => ?_)
        · have hf := jbT hf hc
          exact hJ82 x4 x5 _ _ _ _ hf hr hP hD hS (lv_sub hl [1, 2, 3, 4, 5, 6] rfl)
        · have hf := jbF hf hc
          refine lv_iload hx hb dX11_bestWinch_54 (lv_at hl 5 rfl) ?_
          refine lv_iconst (v := (-1)) hx hb dX11_bestWinch_56 (by decide) ?_
          refine lv_icmp_eq (tgt := 77) hx hb dX11_bestWinch_57 (by decide) (fun hc => ?_) (fun hc => ?_)
          · have hf := jbT hf hc
            exact hJ77 x5 _ _ _ _ hf hr hP hD hS (lv_sub hl [1, 2, 3, 4, 6] rfl)
          · have hf := jbF hf hc
            refine lv_aload_n hx hb dX11_bestWinch_60 rfl (lv_at hl 1 rfl) ?_
            refine lv_iload hx hb dX11_bestWinch_61 (lv_at hl 6 rfl) ?_
            refine lv_iconst (v := 1) hx hb dX11_bestWinch_63 (by decide) ?_
            obtain ⟨o10, g11, hf⟩ := jbB_e hf
            refine cva_i (As := [.int x5, .int 1]) (rest := []) ⟨hx, hb, hml, hown, hts⟩ (c_X11_ofWinch l g hm mv x5 1 _ g11) (cwV 2 hts gX11_bestWinch_X11_ofWinch rfl rfl rfl hd_X11_ofWinch ⟨Nat.le_of_ble_eq_true rfl, Nat.le_of_ble_eq_true rfl⟩) hK hZ hT hA hP hD hS hl.1 (va_recv hK hP (ci := 10) (q0 := 0) rfl rfl) rfl rfl (Nat.le_of_ble_eq_true rfl) ⟨Nat.le_of_ble_eq_true rfl, Nat.le_of_ble_eq_true rfl⟩ dX11_bestWinch_64 (fun H locs hP hD hS => ?_)
            refine lv_aload_n hx hb dX11_bestWinch_67 rfl (lv_at hl 1 rfl) ?_
            refine lv_iload hx hb dX11_bestWinch_68 (lv_at hl 5 rfl) ?_
            refine lv_iconst (v := 1) hx hb dX11_bestWinch_70 (by decide) ?_
            obtain ⟨o12, g13, hf⟩ := jbB_e hf
            refine cva_i (As := [.int x4, .int 1]) (rest := [.int o10]) ⟨hx, hb, hml, hown, hts⟩ (c_X11_ofWinch l g hm mv x4 1 _ g13) (cwV 2 hts gX11_bestWinch_X11_ofWinch rfl rfl rfl hd_X11_ofWinch ⟨Nat.le_of_ble_eq_true rfl, Nat.le_of_ble_eq_true rfl⟩) hK hZ hT hA hP hD hS hl.1 (va_recv hK hP (ci := 10) (q0 := 0) rfl rfl) rfl rfl (Nat.le_of_ble_eq_true rfl) ⟨Nat.le_of_ble_eq_true rfl, Nat.le_of_ble_eq_true rfl⟩ dX11_bestWinch_71 (fun H locs hP hD hS => ?_)
            refine lv_icmp_ge (tgt := 82) hx hb dX11_bestWinch_74 (by decide) (fun hc => ?_) (fun hc => ?_)
            · have hf := jbT hf hc
              exact hJ82 x4 x5 _ _ _ _ hf hr hP hD hS (lv_sub hl [1, 2, 3, 4, 5, 6] rfl)
            · have hf := jbF hf hc
              exact hJ77 x5 _ _ _ _ hf hr hP hD hS (lv_sub hl [1, 2, 3, 4, 6] rfl)
      have hJ46 : ∀ (x4 : Int32) (x5 : Int32) (H : Heap) (locs : List Loc) (ls : Array Slot) (r : Sum (Int32 × Int32) (Int32 × Int32)), f_X11_bestWinch_J46 mv x1 x2 x3 x4 x5 = some r → jbR (fun s => f_X11_bestWinch_L12 mv x1 x2 x3 (s.1) (s.2)) n o12 r → va_P (gD g) vwCl (wM g hm mv) H → va_D A (wM g hm mv) → va_S A s.heap H locs → lv_has ls 7 [(0, .ref (hm 0)), (1, .int x1), (2, .int x2), (3, .int x3), (4, .int x4), (5, .int x5)] → W p l e rm_X11_bestWinch s mi [.ref (hm 0), .int a0, .int a1].toArray below meth c H locs 0 0 Q (F0 mi 46 ls []) := by
        intro x4 x5 H locs ls r hf hr hP hD hS hl
        unfold f_X11_bestWinch_J46 at hf
        refine lv_iconst (v := 0) hx hb dX11_bestWinch_46 (by decide) ?_
        exact hJ47 x4 x5 0 _ _ _ _ hf hr hP hD hS (lv_sub hl [0, 1, 2, 3, 4, 5] rfl)
      refine lv_iload hx hb dX11_bestWinch_12 (lv_at hl 5 rfl) ?_
      refine lv_aload_n hx hb dX11_bestWinch_14 rfl (lv_at hl 0 rfl) ?_
      refine va_get (D := gD g) (ci := 10) (v := .ref (hm 1)) (C := RX11) (T := TX11) (N := 19) hx hb hts hinX11 hown hK hP 0 rfl rfl 0 (by decide) k0 (fun _ h9 => h9) rfl dX11_bestWinch_15 ?_
      refine lv_iconst (v := 5) hx hb dX11_bestWinch_18 (by decide) ?_
      obtain ⟨h5, hf⟩ := jbA_e hf
      refine va_iald hx hb hK hP 1 0 rfl rfl h5 dX11_bestWinch_19 ?_
      refine lv_icmp_ge (tgt := 92) hx hb dX11_bestWinch_20 (by decide) (fun hc => ?_) (fun hc => ?_)
      · have hf := jbT hf hc
        cases hf
        obtain rfl := jbR_r hr
        exact hk _ _ _ hP hD hS (lv_sub hl [0, 1, 2, 4] rfl)
      · have hf := jbF hf hc
        refine lv_aload_n hx hb dX11_bestWinch_23 rfl (lv_at hl 0 rfl) ?_
        refine lv_iload_n hx hb dX11_bestWinch_24 rfl (lv_at hl 3 rfl) ?_
        refine lv_iconst (v := 2) hx hb dX11_bestWinch_25 (by decide) ?_
        obtain ⟨o6, g7, hf⟩ := jbB_e hf
        refine cva_i (As := [.int x3, .int 2]) (rest := []) ⟨hx, hb, hml, hown, hts⟩ (c_X11_of l g hm mv x3 2 _ g7) (cwV 2 hts gX11_bestWinch_X11_of rfl rfl rfl hd_X11_of ⟨Nat.le_of_ble_eq_true rfl, Nat.le_of_ble_eq_true rfl⟩) hK hZ hT hA hP hD hS hl.1 (va_recv hK hP (ci := 10) (q0 := 0) rfl rfl) rfl rfl (Nat.le_of_ble_eq_true rfl) ⟨Nat.le_of_ble_eq_true rfl, Nat.le_of_ble_eq_true rfl⟩ dX11_bestWinch_26 (fun H locs hP hD hS => ?_)
        refine lv_if_ne (tgt := 46) hx hb dX11_bestWinch_29 (by decide) (fun hc => ?_) (fun hc => ?_)
        · have hf := jbF hf hc
          exact hJ46 x4 x5 _ _ _ _ hf hr hP hD hS (lv_sub hl [0, 1, 2, 3, 4, 5] rfl)
        · have hf := jbT hf hc
          refine lv_aload_n hx hb dX11_bestWinch_32 rfl (lv_at hl 0 rfl) ?_
          refine lv_iload hx hb dX11_bestWinch_33 (lv_at hl 5 rfl) ?_
          refine lv_iload_n hx hb dX11_bestWinch_35 rfl (lv_at hl 3 rfl) ?_
          obtain ⟨o8, g9, hf⟩ := jbB_e hf
          refine cva_i (As := [.int x5, .int x3]) (rest := []) ⟨hx, hb, hml, hown, hts⟩ (c_X11_canLift l g hm mv x5 x3 _ g9) (cwV 2 hts gX11_bestWinch_X11_canLift rfl rfl rfl hd_X11_canLift ⟨Nat.le_of_ble_eq_true rfl, Nat.le_of_ble_eq_true rfl⟩) hK hZ hT hA hP hD hS hl.1 (va_recv hK hP (ci := 10) (q0 := 0) rfl rfl) rfl rfl (Nat.le_of_ble_eq_true rfl) ⟨Nat.le_of_ble_eq_true rfl, Nat.le_of_ble_eq_true rfl⟩ dX11_bestWinch_36 (fun H locs hP hD hS => ?_)
          refine lv_if_eq (tgt := 46) hx hb dX11_bestWinch_39 (by decide) (fun hc => ?_) (fun hc => ?_)
          · have hf := jbT hf hc
            exact hJ46 x4 x5 _ _ _ _ hf hr hP hD hS (lv_sub hl [0, 1, 2, 3, 4, 5] rfl)
          · have hf := jbF hf hc
            refine lv_iconst (v := 1) hx hb dX11_bestWinch_42 (by decide) ?_
            refine lv_goto (tgt := 47) hx hb dX11_bestWinch_43 (by decide) ?_
            exact hJ47 x4 x5 1 _ _ _ _ hf hr hP hD hS (lv_sub hl [0, 1, 2, 3, 4, 5] rfl)
  refine lv_iload_n hx hb dX11_bestWinch_0 rfl (lv_at hl 1 rfl) ?_
  refine lv_iload_n hx hb dX11_bestWinch_1 rfl (lv_at hl 2 rfl) ?_
  obtain ⟨o1, g2, hf⟩ := jbB_e hf
  refine csn_i (As := [.int a0, .int a1]) (rest := []) ⟨hx, hb, hml, hown, hts⟩ (c_X11_cellAt l g a0 a1 _ g2) (va_cwS 2 hts gX11_bestWinch_X11_cellAt rfl rfl rfl hd_X11_cellAt ⟨Nat.le_of_ble_eq_true rfl, Nat.le_of_ble_eq_true rfl⟩) hK hZ hT hA hP hD hS hl.1 rfl rfl (Nat.le_of_ble_eq_true rfl) ⟨Nat.le_of_ble_eq_true rfl, Nat.le_of_ble_eq_true rfl⟩ dX11_bestWinch_2 (fun H locs hP hD hS => ?_)
  refine lv_istore_n (lv' := [(3, .int o1), (0, .ref (hm 0)), (1, .int a0), (2, .int a1)]) hx hb dX11_bestWinch_5 rfl hl (by decide) rfl (fun ls hl => ?_)
  refine lv_iconst (v := (-1)) hx hb dX11_bestWinch_6 (by decide) ?_
  refine lv_istore (lv' := [(4, .int (-1)), (3, .int o1), (0, .ref (hm 0)), (1, .int a0), (2, .int a1)]) hx hb dX11_bestWinch_7 hl (by decide) rfl (fun ls hl => ?_)
  refine lv_iconst (v := 0) hx hb dX11_bestWinch_9 (by decide) ?_
  refine lv_istore (lv' := [(5, .int 0), (4, .int (-1)), (3, .int o1), (0, .ref (hm 0)), (1, .int a0), (2, .int a1)]) hx hb dX11_bestWinch_10 hl (by decide) rfl (fun ls hl => ?_)
  obtain ⟨o12, hg, hf⟩ := jbB_e hf
  refine hL12 mv a0 a1 o1 _ (-1) 0 _ _ _ _ hg hP hD hS (lv_sub hl [3, 4, 5, 2, 1, 0] rfl) (fun H locs ls hP hD hS hl => ?_)
  refine lv_aload_n hx hb dX11_bestWinch_92 rfl (lv_at hl 0 rfl) ?_
  refine lv_iload_n hx hb dX11_bestWinch_93 rfl (lv_at hl 1 rfl) ?_
  refine lv_iload_n hx hb dX11_bestWinch_94 rfl (lv_at hl 2 rfl) ?_
  obtain ⟨o3, g4, hf⟩ := jbB_e hf
  refine csn_i (As := [.int a0, .int a1]) (rest := [.ref (hm 0)]) ⟨hx, hb, hml, hown, hts⟩ (c_X11_isCell l g a0 a1 _ g4) (va_cwS 2 hts gX11_bestWinch_X11_isCell rfl rfl rfl hd_X11_isCell ⟨Nat.le_of_ble_eq_true rfl, Nat.le_of_ble_eq_true rfl⟩) hK hZ hT hA hP hD hS hl.1 rfl rfl (Nat.le_of_ble_eq_true rfl) ⟨Nat.le_of_ble_eq_true rfl, Nat.le_of_ble_eq_true rfl⟩ dX11_bestWinch_95 (fun H locs hP hD hS => ?_)
  refine lv_iload hx hb dX11_bestWinch_98 (lv_at hl 3 rfl) ?_
  refine lv_iconst (v := (-1)) hx hb dX11_bestWinch_100 (by decide) ?_
  refine lv_icmp_eq (tgt := 108) hx hb dX11_bestWinch_101 (by decide) (fun hc => ?_) (fun hc => ?_)
  · have hf := jbT hf hc
    refine lv_iconst (v := 0) hx hb dX11_bestWinch_108 (by decide) ?_
    exact hJ109 mv (o12.1) 0 o3 _ _ _ hf hP hD hS (lv_sub hl [3] rfl)
  · have hf := jbF hf hc
    refine lv_iconst (v := 1) hx hb dX11_bestWinch_104 (by decide) ?_
    refine lv_goto (tgt := 109) hx hb dX11_bestWinch_105 (by decide) ?_
    exact hJ109 mv (o12.1) 1 o3 _ _ _ hf hP hD hS (lv_sub hl [3] rfl)
def f_X11_inYard (mv : MV) (a0 : Int32) : Option (Int32 × MV) :=
  (f_X11_isStone a0).bind fun o1 =>
  (f_X11_goes mv o1).bind fun o3 =>
  if (o3.1) = 0 then
  (some (0, (o3.2)))
  else
  (if jIn (6 + a0) 229 then
  some (((mNow (o3.2)) (6 + a0).toNatClampNeg), (o3.2))
  else none)
def rm_X11_inYard : Room := { frames := 2, cells := 0, slots := 0, locals := 45 }
theorem hd_X11_inYard : yX11_inYard.cls = RX11 ∧ yX11_inYard.cls ≠ "java/lang/invoke/MethodHandle" ∧ yX11_inYard.cls ≠ "java/lang/invoke/VarHandle" ∧ (parseMethodDescriptor yX11_inYard.desc).map (fun d => d.parameters.length) = some 1 := by decide +kernel
set_option maxHeartbeats 4000000 in
set_option maxRecDepth 100000 in
theorem c_X11_inYard (l : Launch) (g : GG) (hm : Nat → Nat) (mv : MV)  (a0 : Int32) (out : Int32 × MV) (hf : f_X11_inYard mv a0 = some out) : MtI l yX11_inYard wsX11_inYard rm_X11_inYard g (wM g hm mv) [.ref (hm 0), .int a0] (out.1) (wM g hm (out.2)) 0 0 := by
  refine fun sz => mt_of (cc := cX11_inYard) (maxL := 2) (ret := (some .int)) (own := RX11) (Qc := fun A => va_Qi (fun r (_ : Unit) => r = (out.1)) (fun _ t => PosM g A (wM g hm (out.2)) t) A) (by decide +kernel) rfl rfl (Nat.le_of_ble_eq_true rfl) ?_ sz
  intro p e s mi below meth c A ls hB hnm hrt hlk hP hD hl
  obtain ⟨hx, hb, hml, hown, hts, hK, hZ, hT, hA, -⟩ := hB
  have hS : va_S A s.heap s.heap [] := va_S.rf
  have hl : lv_has ls 2 [(0, .ref (hm 0)), (1, .int a0)] := hl
  have hinX11 : ∀ w ∈ wsX110, w ∈ wsX11_inYard := by decide +kernel
  have k0 := hts (.fieldLink RX11 9 "TerraceQuarryModel" "now" "[I") (by decide +kernel)
  generalize hQ : MQ below _ _ _ _ _ _ = Q
  unfold f_X11_inYard at hf
  refine lv_aload_n hx hb dX11_inYard_0 rfl (lv_at hl 0 rfl) ?_
  refine lv_iload_n hx hb dX11_inYard_1 rfl (lv_at hl 1 rfl) ?_
  obtain ⟨o1, g2, hf⟩ := jbB_e hf
  refine csn_i (As := [.int a0]) (rest := [.ref (hm 0)]) ⟨hx, hb, hml, hown, hts⟩ (c_X11_isStone l g a0 _ g2) (va_cwS 1 hts gX11_inYard_X11_isStone rfl rfl rfl hd_X11_isStone ⟨Nat.le_of_ble_eq_true rfl, Nat.le_of_ble_eq_true rfl⟩) hK hZ hT hA hP hD hS hl.1 rfl rfl (Nat.le_of_ble_eq_true rfl) ⟨Nat.le_of_ble_eq_true rfl, Nat.le_of_ble_eq_true rfl⟩ dX11_inYard_2 (fun H locs hP hD hS => ?_)
  obtain ⟨o3, g4, hf⟩ := jbB_e hf
  refine cva_i (As := [.int o1]) (rest := []) ⟨hx, hb, hml, hown, hts⟩ (c_X11_goes l g hm mv o1 _ g4) (cwV 1 hts gX11_inYard_X11_goes rfl rfl rfl hd_X11_goes ⟨Nat.le_of_ble_eq_true rfl, Nat.le_of_ble_eq_true rfl⟩) hK hZ hT hA hP hD hS hl.1 (va_recv hK hP (ci := 10) (q0 := 0) rfl rfl) rfl rfl (Nat.le_of_ble_eq_true rfl) ⟨Nat.le_of_ble_eq_true rfl, Nat.le_of_ble_eq_true rfl⟩ dX11_inYard_5 (fun H locs hP hD hS => ?_)
  refine lv_if_eq (tgt := 23) hx hb dX11_inYard_8 (by decide) (fun hc => ?_) (fun hc => ?_)
  · have hf := jbT hf hc
    refine lv_iconst (v := 0) hx hb dX11_inYard_23 (by decide) ?_
    cases hf
    subst hQ
    exact rt_i hx hb hrt hlk rfl hK hP hD hS (Nat.le_of_ble_eq_true rfl) (Nat.le_of_ble_eq_true rfl) dX11_inYard_24
  · have hf := jbF hf hc
    refine lv_aload_n hx hb dX11_inYard_11 rfl (lv_at hl 0 rfl) ?_
    refine va_get (D := gD g) (ci := 10) (v := .ref (hm 1)) (C := RX11) (T := TX11) (N := 19) hx hb hts hinX11 hown hK hP 0 rfl rfl 0 (by decide) k0 (fun _ h9 => h9) rfl dX11_inYard_12 ?_
    refine lv_bipush (v := 6) hx hb dX11_inYard_15 (by decide) ?_
    refine lv_iload_n hx hb dX11_inYard_17 rfl (lv_at hl 1 rfl) ?_
    refine lv_iadd hx hb dX11_inYard_18 ?_
    obtain ⟨h5, hf⟩ := jbA_e hf
    refine va_iald hx hb hK hP 1 0 rfl rfl h5 dX11_inYard_19 ?_
    refine lv_goto (tgt := 24) hx hb dX11_inYard_20 (by decide) ?_
    cases hf
    subst hQ
    exact rt_i hx hb hrt hlk rfl hK hP hD hS (Nat.le_of_ble_eq_true rfl) (Nat.le_of_ble_eq_true rfl) dX11_inYard_24
def f_X11_yardWeight_L9 (mv : MV) (x1 : Int32) (x2 : Int32) : Option (Sum (Int32 × Int32) (Int32 × Int32)) :=
  if 4 ≤ x2 then
  (some (.inr (x1, x2)))
  else
  (if jIn (6 + x2) 229 then
  (f_X11_weightOf x2).bind fun o3 =>
  jbN (x1 + (((mNow mv) (6 + x2).toNatClampNeg) * o3)) fun z5 =>
  some (.inl (z5, (x2 + 1)))
  else none)
def f_X11_yardWeight (mv : MV) : Option (Int32 × MV) :=
  jbN (mSThrown 0 mv) fun w1 =>
  (jbL (fun s => f_X11_yardWeight_L9 w1 (s.1) (s.2)) 5000 (0, 0)).bind fun o9 =>
  some ((o9.1), w1)
def rm_X11_yardWeight : Room := { frames := 1, cells := 0, slots := 0, locals := 20 }
theorem hd_X11_yardWeight : yX11_yardWeight.cls = RX11 ∧ yX11_yardWeight.cls ≠ "java/lang/invoke/MethodHandle" ∧ yX11_yardWeight.cls ≠ "java/lang/invoke/VarHandle" ∧ (parseMethodDescriptor yX11_yardWeight.desc).map (fun d => d.parameters.length) = some 0 := by decide +kernel
set_option maxHeartbeats 4000000 in
set_option maxRecDepth 100000 in
theorem c_X11_yardWeight (l : Launch) (g : GG) (hm : Nat → Nat) (mv : MV)   (out : Int32 × MV) (hf : f_X11_yardWeight mv = some out) : MtI l yX11_yardWeight wsX11_yardWeight rm_X11_yardWeight g (wM g hm mv) [.ref (hm 0)] (out.1) (wM g hm (out.2)) 0 0 := by
  refine fun sz => mt_of (cc := cX11_yardWeight) (maxL := 3) (ret := (some .int)) (own := RX11) (Qc := fun A => va_Qi (fun r (_ : Unit) => r = (out.1)) (fun _ t => PosM g A (wM g hm (out.2)) t) A) (by decide +kernel) rfl rfl (Nat.le_of_ble_eq_true rfl) ?_ sz
  intro p e s mi below meth c A ls hB hnm hrt hlk hP hD hl
  obtain ⟨hx, hb, hml, hown, hts, hK, hZ, hT, hA, -⟩ := hB
  have hS : va_S A s.heap s.heap [] := va_S.rf
  have hl : lv_has ls 3 [(0, .ref (hm 0))] := hl
  have hinX11 : ∀ w ∈ wsX110, w ∈ wsX11_yardWeight := by decide +kernel
  have k0 := hts (.fieldLink RX11 45 "TerraceQuarryModel" "thrown" "I") (by decide +kernel)
  have k1 := hts (.fieldLink RX11 9 "TerraceQuarryModel" "now" "[I") (by decide +kernel)
  generalize hQ : MQ below _ _ _ _ _ _ = Q
  unfold f_X11_yardWeight at hf
  have hL9 : ∀ (mv : MV) (n : Nat) (x1 : Int32) (x2 : Int32) (H : Heap) (locs : List Loc) (ls : Array Slot) (o9 : Int32 × Int32), jbL (fun s => f_X11_yardWeight_L9 mv (s.1) (s.2)) n (x1, x2) = some o9 → va_P (gD g) vwCl (wM g hm mv) H → va_D A (wM g hm mv) → va_S A s.heap H locs → lv_has ls 3 [(0, .ref (hm 0)), (1, .int x1), (2, .int x2)] → (∀ (H : Heap) (locs : List Loc) (ls : Array Slot), va_P (gD g) vwCl (wM g hm mv) H → va_D A (wM g hm mv) → va_S A s.heap H locs → lv_has ls 3 [(1, .int (o9.1))] → W p l e rm_X11_yardWeight s mi [.ref (hm 0)].toArray below meth c H locs 0 0 Q (F0 mi 37 ls [])) → W p l e rm_X11_yardWeight s mi [.ref (hm 0)].toArray below meth c H locs 0 0 Q (F0 mi 9 ls []) := by
    intro mv n
    induction n with
    | zero => intro x1 x2 H locs ls o9 hf; exact absurd hf (jbL_0 _ _ _)
    | succ n ih =>
      intro x1 x2 H locs ls o9 hf hP hD hS hl hk
      obtain ⟨r, hf, hr⟩ := jbL_e hf
      have hf : f_X11_yardWeight_L9 mv x1 x2 = some r := hf
      unfold f_X11_yardWeight_L9 at hf
      refine lv_iload_n hx hb dX11_yardWeight_9 rfl (lv_at hl 2 rfl) ?_
      refine lv_iconst (v := 4) hx hb dX11_yardWeight_10 (by decide) ?_
      refine lv_icmp_ge (tgt := 37) hx hb dX11_yardWeight_11 (by decide) (fun hc => ?_) (fun hc => ?_)
      · have hf := jbT hf hc
        cases hf
        obtain rfl := jbR_r hr
        exact hk _ _ _ hP hD hS (lv_sub hl [1] rfl)
      · have hf := jbF hf hc
        refine lv_iload_n hx hb dX11_yardWeight_14 rfl (lv_at hl 1 rfl) ?_
        refine lv_aload_n hx hb dX11_yardWeight_15 rfl (lv_at hl 0 rfl) ?_
        refine va_get (D := gD g) (ci := 10) (v := .ref (hm 1)) (C := RX11) (T := TX11) (N := 19) hx hb hts hinX11 hown hK hP 0 rfl rfl 0 (by decide) k1 (fun _ h9 => h9) rfl dX11_yardWeight_16 ?_
        refine lv_bipush (v := 6) hx hb dX11_yardWeight_19 (by decide) ?_
        refine lv_iload_n hx hb dX11_yardWeight_21 rfl (lv_at hl 2 rfl) ?_
        refine lv_iadd hx hb dX11_yardWeight_22 ?_
        obtain ⟨h2, hf⟩ := jbA_e hf
        refine va_iald hx hb hK hP 1 0 rfl rfl h2 dX11_yardWeight_23 ?_
        refine lv_iload_n hx hb dX11_yardWeight_24 rfl (lv_at hl 2 rfl) ?_
        obtain ⟨o3, g4, hf⟩ := jbB_e hf
        refine csn_i (As := [.int x2]) (rest := [.int ((mNow mv) (6 + x2).toNatClampNeg), .int x1]) ⟨hx, hb, hml, hown, hts⟩ (c_X11_weightOf l g x2 _ g4) (va_cwS 1 hts gX11_yardWeight_X11_weightOf rfl rfl rfl hd_X11_weightOf ⟨Nat.le_of_ble_eq_true rfl, Nat.le_of_ble_eq_true rfl⟩) hK hZ hT hA hP hD hS hl.1 rfl rfl (Nat.le_of_ble_eq_true rfl) ⟨Nat.le_of_ble_eq_true rfl, Nat.le_of_ble_eq_true rfl⟩ dX11_yardWeight_25 (fun H locs hP hD hS => ?_)
        refine lv_imul hx hb dX11_yardWeight_28 ?_
        refine lv_iadd hx hb dX11_yardWeight_29 ?_
        refine lv_topi (fun z5 ez5 => ?_)
        have hf := jbN_e hf ez5
        refine lv_istore_n (lv' := [(1, .int z5), (0, .ref (hm 0)), (2, .int x2)]) hx hb dX11_yardWeight_30 rfl hl (by decide) rfl (fun ls hl => ?_)
        refine lv_iinc (v := (x2 + 1)) (lv' := [(2, .int (x2 + 1)), (1, .int z5), (0, .ref (hm 0))]) hx hb dX11_yardWeight_31 hl (k := 2) rfl rfl (by decide) rfl (fun ls hl => ?_)
        refine lv_goto (tgt := 9) hx hb dX11_yardWeight_34 (by decide) ?_
        cases hf
        exact ih z5 (x2 + 1) _ _ _ _ hr hP hD hS (lv_sub hl [2, 1, 0] rfl) hk
  refine lv_aload_n hx hb dX11_yardWeight_0 rfl (lv_at hl 0 rfl) ?_
  refine lv_iconst (v := 0) hx hb dX11_yardWeight_1 (by decide) ?_
  refine va_put (D := gD g) (ci := 10) (v := .int 0) (ty := .int) (C := RX11) (T := TX11) (N := 19) hx hb hts hinX11 tyX11 tyX11_ok nmX11 hown hK hP hD hS 0 rfl rfl 13 (by decide) k0 (fun _ h9 => h9) rfl (tyX11_ok 13 (by decide)) rfl rfl (Nat.le_of_ble_eq_true rfl) dX11_yardWeight_2 (fun H locs hP hD hS => ?_)
  obtain ⟨w1, ew1⟩ : ∃ y, y = (mSThrown 0 mv) := ⟨_, rfl⟩
  have hf := jbN_e hf ew1
  have hP : va_P (gD g) vwCl (wM g hm w1) H := by rw [ew1]; exact hP
  have hD : va_D A (wM g hm w1) := by rw [ew1]; exact hD
  refine lv_iconst (v := 0) hx hb dX11_yardWeight_5 (by decide) ?_
  refine lv_istore_n (lv' := [(1, .int 0), (0, .ref (hm 0))]) hx hb dX11_yardWeight_6 rfl hl (by decide) rfl (fun ls hl => ?_)
  refine lv_iconst (v := 0) hx hb dX11_yardWeight_7 (by decide) ?_
  refine lv_istore_n (lv' := [(2, .int 0), (1, .int 0), (0, .ref (hm 0))]) hx hb dX11_yardWeight_8 rfl hl (by decide) rfl (fun ls hl => ?_)
  obtain ⟨o9, hg, hf⟩ := jbB_e hf
  refine hL9 w1 _ 0 0 _ _ _ _ hg hP hD hS (lv_sub hl [2, 1, 0] rfl) (fun H locs ls hP hD hS hl => ?_)
  refine lv_iload_n hx hb dX11_yardWeight_37 rfl (lv_at hl 0 rfl) ?_
  cases hf
  subst hQ
  exact rt_i hx hb hrt hlk rfl hK hP hD hS (Nat.le_of_ble_eq_true rfl) (Nat.le_of_ble_eq_true rfl) dX11_yardWeight_38
def f_X11_rubble (mv : MV) : Option (Int32 × MV) :=
  jbN (mSThrown 0 mv) fun w1 =>
  if jIn 1 229 then
  some (((mNow w1) (1 : Int32).toNatClampNeg), w1)
  else none
def rm_X11_rubble : Room := { frames := 0, cells := 0, slots := 0, locals := 0 }
theorem hd_X11_rubble : yX11_rubble.cls = RX11 ∧ yX11_rubble.cls ≠ "java/lang/invoke/MethodHandle" ∧ yX11_rubble.cls ≠ "java/lang/invoke/VarHandle" ∧ (parseMethodDescriptor yX11_rubble.desc).map (fun d => d.parameters.length) = some 0 := by decide +kernel
set_option maxHeartbeats 4000000 in
set_option maxRecDepth 100000 in
theorem c_X11_rubble (l : Launch) (g : GG) (hm : Nat → Nat) (mv : MV)   (out : Int32 × MV) (hf : f_X11_rubble mv = some out) : MtI l yX11_rubble wsX11_rubble rm_X11_rubble g (wM g hm mv) [.ref (hm 0)] (out.1) (wM g hm (out.2)) 0 0 := by
  refine fun sz => mt_of (cc := cX11_rubble) (maxL := 1) (ret := (some .int)) (own := RX11) (Qc := fun A => va_Qi (fun r (_ : Unit) => r = (out.1)) (fun _ t => PosM g A (wM g hm (out.2)) t) A) (by decide +kernel) rfl rfl (Nat.le_of_ble_eq_true rfl) ?_ sz
  intro p e s mi below meth c A ls hB hnm hrt hlk hP hD hl
  obtain ⟨hx, hb, hml, hown, hts, hK, hZ, hT, hA, -⟩ := hB
  have hS : va_S A s.heap s.heap [] := va_S.rf
  have hl : lv_has ls 1 [(0, .ref (hm 0))] := hl
  have hinX11 : ∀ w ∈ wsX110, w ∈ wsX11_rubble := by decide +kernel
  have k0 := hts (.fieldLink RX11 45 "TerraceQuarryModel" "thrown" "I") (by decide +kernel)
  have k1 := hts (.fieldLink RX11 9 "TerraceQuarryModel" "now" "[I") (by decide +kernel)
  generalize hQ : MQ below _ _ _ _ _ _ = Q
  unfold f_X11_rubble at hf
  refine lv_aload_n hx hb dX11_rubble_0 rfl (lv_at hl 0 rfl) ?_
  refine lv_iconst (v := 0) hx hb dX11_rubble_1 (by decide) ?_
  refine va_put (D := gD g) (ci := 10) (v := .int 0) (ty := .int) (C := RX11) (T := TX11) (N := 19) hx hb hts hinX11 tyX11 tyX11_ok nmX11 hown hK hP hD hS 0 rfl rfl 13 (by decide) k0 (fun _ h9 => h9) rfl (tyX11_ok 13 (by decide)) rfl rfl (Nat.le_of_ble_eq_true rfl) dX11_rubble_2 (fun H locs hP hD hS => ?_)
  obtain ⟨w1, ew1⟩ : ∃ y, y = (mSThrown 0 mv) := ⟨_, rfl⟩
  have hf := jbN_e hf ew1
  have hP : va_P (gD g) vwCl (wM g hm w1) H := by rw [ew1]; exact hP
  have hD : va_D A (wM g hm w1) := by rw [ew1]; exact hD
  refine lv_aload_n hx hb dX11_rubble_5 rfl (lv_at hl 0 rfl) ?_
  refine va_get (D := gD g) (ci := 10) (v := .ref (hm 1)) (C := RX11) (T := TX11) (N := 19) hx hb hts hinX11 hown hK hP 0 rfl rfl 0 (by decide) k1 (fun _ h9 => h9) rfl dX11_rubble_6 ?_
  refine lv_iconst (v := 1) hx hb dX11_rubble_9 (by decide) ?_
  obtain ⟨h2, hf⟩ := jbA_e hf
  refine va_iald hx hb hK hP 1 0 rfl rfl h2 dX11_rubble_10 ?_
  cases hf
  subst hQ
  exact rt_i hx hb hrt hlk rfl hK hP hD hS (Nat.le_of_ble_eq_true rfl) (Nat.le_of_ble_eq_true rfl) dX11_rubble_11
def f_X11_stepLimit (mv : MV) : Option (Int32 × MV) :=
  jbN (mSThrown 0 mv) fun w1 =>
  if jIn 0 229 then
  some (((mNow w1) (0 : Int32).toNatClampNeg), w1)
  else none
def rm_X11_stepLimit : Room := { frames := 0, cells := 0, slots := 0, locals := 0 }
theorem hd_X11_stepLimit : yX11_stepLimit.cls = RX11 ∧ yX11_stepLimit.cls ≠ "java/lang/invoke/MethodHandle" ∧ yX11_stepLimit.cls ≠ "java/lang/invoke/VarHandle" ∧ (parseMethodDescriptor yX11_stepLimit.desc).map (fun d => d.parameters.length) = some 0 := by decide +kernel
set_option maxHeartbeats 4000000 in
set_option maxRecDepth 100000 in
theorem c_X11_stepLimit (l : Launch) (g : GG) (hm : Nat → Nat) (mv : MV)   (out : Int32 × MV) (hf : f_X11_stepLimit mv = some out) : MtI l yX11_stepLimit wsX11_stepLimit rm_X11_stepLimit g (wM g hm mv) [.ref (hm 0)] (out.1) (wM g hm (out.2)) 0 0 := by
  refine fun sz => mt_of (cc := cX11_stepLimit) (maxL := 1) (ret := (some .int)) (own := RX11) (Qc := fun A => va_Qi (fun r (_ : Unit) => r = (out.1)) (fun _ t => PosM g A (wM g hm (out.2)) t) A) (by decide +kernel) rfl rfl (Nat.le_of_ble_eq_true rfl) ?_ sz
  intro p e s mi below meth c A ls hB hnm hrt hlk hP hD hl
  obtain ⟨hx, hb, hml, hown, hts, hK, hZ, hT, hA, -⟩ := hB
  have hS : va_S A s.heap s.heap [] := va_S.rf
  have hl : lv_has ls 1 [(0, .ref (hm 0))] := hl
  have hinX11 : ∀ w ∈ wsX110, w ∈ wsX11_stepLimit := by decide +kernel
  have k0 := hts (.fieldLink RX11 45 "TerraceQuarryModel" "thrown" "I") (by decide +kernel)
  have k1 := hts (.fieldLink RX11 9 "TerraceQuarryModel" "now" "[I") (by decide +kernel)
  generalize hQ : MQ below _ _ _ _ _ _ = Q
  unfold f_X11_stepLimit at hf
  refine lv_aload_n hx hb dX11_stepLimit_0 rfl (lv_at hl 0 rfl) ?_
  refine lv_iconst (v := 0) hx hb dX11_stepLimit_1 (by decide) ?_
  refine va_put (D := gD g) (ci := 10) (v := .int 0) (ty := .int) (C := RX11) (T := TX11) (N := 19) hx hb hts hinX11 tyX11 tyX11_ok nmX11 hown hK hP hD hS 0 rfl rfl 13 (by decide) k0 (fun _ h9 => h9) rfl (tyX11_ok 13 (by decide)) rfl rfl (Nat.le_of_ble_eq_true rfl) dX11_stepLimit_2 (fun H locs hP hD hS => ?_)
  obtain ⟨w1, ew1⟩ : ∃ y, y = (mSThrown 0 mv) := ⟨_, rfl⟩
  have hf := jbN_e hf ew1
  have hP : va_P (gD g) vwCl (wM g hm w1) H := by rw [ew1]; exact hP
  have hD : va_D A (wM g hm w1) := by rw [ew1]; exact hD
  refine lv_aload_n hx hb dX11_stepLimit_5 rfl (lv_at hl 0 rfl) ?_
  refine va_get (D := gD g) (ci := 10) (v := .ref (hm 1)) (C := RX11) (T := TX11) (N := 19) hx hb hts hinX11 hown hK hP 0 rfl rfl 0 (by decide) k1 (fun _ h9 => h9) rfl dX11_stepLimit_6 ?_
  refine lv_iconst (v := 0) hx hb dX11_stepLimit_9 (by decide) ?_
  obtain ⟨h2, hf⟩ := jbA_e hf
  refine va_iald hx hb hK hP 1 0 rfl rfl h2 dX11_stepLimit_10 ?_
  cases hf
  subst hQ
  exact rt_i hx hb hrt hlk rfl hK hP hD hS (Nat.le_of_ble_eq_true rfl) (Nat.le_of_ble_eq_true rfl) dX11_stepLimit_11
def f_X11_cutTotal (mv : MV) : Option (Int32 × MV) :=
  jbN (mSThrown 0 mv) fun w1 =>
  if jIn 2 229 then
  some (((mNow w1) (2 : Int32).toNatClampNeg), w1)
  else none
def rm_X11_cutTotal : Room := { frames := 0, cells := 0, slots := 0, locals := 0 }
theorem hd_X11_cutTotal : yX11_cutTotal.cls = RX11 ∧ yX11_cutTotal.cls ≠ "java/lang/invoke/MethodHandle" ∧ yX11_cutTotal.cls ≠ "java/lang/invoke/VarHandle" ∧ (parseMethodDescriptor yX11_cutTotal.desc).map (fun d => d.parameters.length) = some 0 := by decide +kernel
set_option maxHeartbeats 4000000 in
set_option maxRecDepth 100000 in
theorem c_X11_cutTotal (l : Launch) (g : GG) (hm : Nat → Nat) (mv : MV)   (out : Int32 × MV) (hf : f_X11_cutTotal mv = some out) : MtI l yX11_cutTotal wsX11_cutTotal rm_X11_cutTotal g (wM g hm mv) [.ref (hm 0)] (out.1) (wM g hm (out.2)) 0 0 := by
  refine fun sz => mt_of (cc := cX11_cutTotal) (maxL := 1) (ret := (some .int)) (own := RX11) (Qc := fun A => va_Qi (fun r (_ : Unit) => r = (out.1)) (fun _ t => PosM g A (wM g hm (out.2)) t) A) (by decide +kernel) rfl rfl (Nat.le_of_ble_eq_true rfl) ?_ sz
  intro p e s mi below meth c A ls hB hnm hrt hlk hP hD hl
  obtain ⟨hx, hb, hml, hown, hts, hK, hZ, hT, hA, -⟩ := hB
  have hS : va_S A s.heap s.heap [] := va_S.rf
  have hl : lv_has ls 1 [(0, .ref (hm 0))] := hl
  have hinX11 : ∀ w ∈ wsX110, w ∈ wsX11_cutTotal := by decide +kernel
  have k0 := hts (.fieldLink RX11 45 "TerraceQuarryModel" "thrown" "I") (by decide +kernel)
  have k1 := hts (.fieldLink RX11 9 "TerraceQuarryModel" "now" "[I") (by decide +kernel)
  generalize hQ : MQ below _ _ _ _ _ _ = Q
  unfold f_X11_cutTotal at hf
  refine lv_aload_n hx hb dX11_cutTotal_0 rfl (lv_at hl 0 rfl) ?_
  refine lv_iconst (v := 0) hx hb dX11_cutTotal_1 (by decide) ?_
  refine va_put (D := gD g) (ci := 10) (v := .int 0) (ty := .int) (C := RX11) (T := TX11) (N := 19) hx hb hts hinX11 tyX11 tyX11_ok nmX11 hown hK hP hD hS 0 rfl rfl 13 (by decide) k0 (fun _ h9 => h9) rfl (tyX11_ok 13 (by decide)) rfl rfl (Nat.le_of_ble_eq_true rfl) dX11_cutTotal_2 (fun H locs hP hD hS => ?_)
  obtain ⟨w1, ew1⟩ : ∃ y, y = (mSThrown 0 mv) := ⟨_, rfl⟩
  have hf := jbN_e hf ew1
  have hP : va_P (gD g) vwCl (wM g hm w1) H := by rw [ew1]; exact hP
  have hD : va_D A (wM g hm w1) := by rw [ew1]; exact hD
  refine lv_aload_n hx hb dX11_cutTotal_5 rfl (lv_at hl 0 rfl) ?_
  refine va_get (D := gD g) (ci := 10) (v := .ref (hm 1)) (C := RX11) (T := TX11) (N := 19) hx hb hts hinX11 hown hK hP 0 rfl rfl 0 (by decide) k1 (fun _ h9 => h9) rfl dX11_cutTotal_6 ?_
  refine lv_iconst (v := 2) hx hb dX11_cutTotal_9 (by decide) ?_
  obtain ⟨h2, hf⟩ := jbA_e hf
  refine va_iald hx hb hK hP 1 0 rfl rfl h2 dX11_cutTotal_10 ?_
  cases hf
  subst hQ
  exact rt_i hx hb hrt hlk rfl hK hP hD hS (Nat.le_of_ble_eq_true rfl) (Nat.le_of_ble_eq_true rfl) dX11_cutTotal_11
def f_X11_workTotal (mv : MV) : Option (Int64 × MV) :=
  jbN (mSThrown 0 mv) fun w1 =>
  if jIn 4 229 then
  some ((((mNow w1) (4 : Int32).toNatClampNeg).toInt64), w1)
  else none
def rm_X11_workTotal : Room := { frames := 0, cells := 0, slots := 0, locals := 0 }
theorem hd_X11_workTotal : yX11_workTotal.cls = RX11 ∧ yX11_workTotal.cls ≠ "java/lang/invoke/MethodHandle" ∧ yX11_workTotal.cls ≠ "java/lang/invoke/VarHandle" ∧ (parseMethodDescriptor yX11_workTotal.desc).map (fun d => d.parameters.length) = some 0 := by decide +kernel
set_option maxHeartbeats 4000000 in
set_option maxRecDepth 100000 in
theorem c_X11_workTotal (l : Launch) (g : GG) (hm : Nat → Nat) (mv : MV)   (out : Int64 × MV) (hf : f_X11_workTotal mv = some out) : MtL l yX11_workTotal wsX11_workTotal rm_X11_workTotal g (wM g hm mv) [.ref (hm 0)] (out.1) (wM g hm (out.2)) 0 0 := by
  refine fun sz => mt_of (cc := cX11_workTotal) (maxL := 1) (ret := (some .long)) (own := RX11) (Qc := fun A => va_Ql (fun r (_ : Unit) => r = (out.1)) (fun _ t => PosM g A (wM g hm (out.2)) t) A) (by decide +kernel) rfl rfl (Nat.le_of_ble_eq_true rfl) ?_ sz
  intro p e s mi below meth c A ls hB hnm hrt hlk hP hD hl
  obtain ⟨hx, hb, hml, hown, hts, hK, hZ, hT, hA, -⟩ := hB
  have hS : va_S A s.heap s.heap [] := va_S.rf
  have hl : lv_has ls 1 [(0, .ref (hm 0))] := hl
  have hinX11 : ∀ w ∈ wsX110, w ∈ wsX11_workTotal := by decide +kernel
  have k0 := hts (.fieldLink RX11 45 "TerraceQuarryModel" "thrown" "I") (by decide +kernel)
  have k1 := hts (.fieldLink RX11 9 "TerraceQuarryModel" "now" "[I") (by decide +kernel)
  generalize hQ : MQ below _ _ _ _ _ _ = Q
  unfold f_X11_workTotal at hf
  refine lv_aload_n hx hb dX11_workTotal_0 rfl (lv_at hl 0 rfl) ?_
  refine lv_iconst (v := 0) hx hb dX11_workTotal_1 (by decide) ?_
  refine va_put (D := gD g) (ci := 10) (v := .int 0) (ty := .int) (C := RX11) (T := TX11) (N := 19) hx hb hts hinX11 tyX11 tyX11_ok nmX11 hown hK hP hD hS 0 rfl rfl 13 (by decide) k0 (fun _ h9 => h9) rfl (tyX11_ok 13 (by decide)) rfl rfl (Nat.le_of_ble_eq_true rfl) dX11_workTotal_2 (fun H locs hP hD hS => ?_)
  obtain ⟨w1, ew1⟩ : ∃ y, y = (mSThrown 0 mv) := ⟨_, rfl⟩
  have hf := jbN_e hf ew1
  have hP : va_P (gD g) vwCl (wM g hm w1) H := by rw [ew1]; exact hP
  have hD : va_D A (wM g hm w1) := by rw [ew1]; exact hD
  refine lv_aload_n hx hb dX11_workTotal_5 rfl (lv_at hl 0 rfl) ?_
  refine va_get (D := gD g) (ci := 10) (v := .ref (hm 1)) (C := RX11) (T := TX11) (N := 19) hx hb hts hinX11 hown hK hP 0 rfl rfl 0 (by decide) k1 (fun _ h9 => h9) rfl dX11_workTotal_6 ?_
  refine lv_iconst (v := 4) hx hb dX11_workTotal_9 (by decide) ?_
  obtain ⟨h2, hf⟩ := jbA_e hf
  refine va_iald hx hb hK hP 1 0 rfl rfl h2 dX11_workTotal_10 ?_
  refine lv_i2l (v := ((mNow w1) (4 : Int32).toNatClampNeg).toInt64) hx hb dX11_workTotal_11 rfl ?_
  cases hf
  subst hQ
  exact rt_l hx hb hrt hlk hK hP hD hS (Nat.le_of_ble_eq_true rfl) (Nat.le_of_ble_eq_true rfl) dX11_workTotal_12
def f_X11_meanHeight_L9 (mv : MV) (x1 : Int32) (x2 : Int32) : Option (Sum (Int32 × Int32) (Int32 × Int32)) :=
  if 30 ≤ x2 then
  (some (.inr (x1, x2)))
  else
  ((f_X11_of mv x2 0).bind fun o3 =>
  jbN (x1 + o3) fun z5 =>
  some (.inl (z5, (x2 + 1))))
def f_X11_meanHeight (mv : MV) : Option (UInt64 × MV) :=
  jbN (mSThrown 0 mv) fun w1 =>
  (jbL (fun s => f_X11_meanHeight_L9 w1 (s.1) (s.2)) 5000 (0, 0)).bind fun o9 =>
  if (FP.ddiv (FP.i2d (o9.1)) (4629137466983448576 : UInt64)) &&& 0x7fffffffffffffff ≤ 0x7ff0000000000000 then
  some ((FP.ddiv (FP.i2d (o9.1)) (4629137466983448576 : UInt64)), w1)
  else none
def rm_X11_meanHeight : Room := { frames := 2, cells := 0, slots := 0, locals := 42 }
theorem hd_X11_meanHeight : yX11_meanHeight.cls = RX11 ∧ yX11_meanHeight.cls ≠ "java/lang/invoke/MethodHandle" ∧ yX11_meanHeight.cls ≠ "java/lang/invoke/VarHandle" ∧ (parseMethodDescriptor yX11_meanHeight.desc).map (fun d => d.parameters.length) = some 0 := by decide +kernel
set_option maxHeartbeats 4000000 in
set_option maxRecDepth 100000 in
theorem c_X11_meanHeight (l : Launch) (g : GG) (hm : Nat → Nat) (mv : MV)   (out : UInt64 × MV) (hf : f_X11_meanHeight mv = some out) : MtD l yX11_meanHeight wsX11_meanHeight rm_X11_meanHeight g (wM g hm mv) [.ref (hm 0)] (out.1) (wM g hm (out.2)) 0 0 := by
  refine fun sz => mt_of (cc := cX11_meanHeight) (maxL := 3) (ret := (some .double)) (own := RX11) (Qc := fun A => va_Qd (fun r (_ : Unit) => r = (out.1)) (fun _ t => PosM g A (wM g hm (out.2)) t) A) (by decide +kernel) rfl rfl (Nat.le_of_ble_eq_true rfl) ?_ sz
  intro p e s mi below meth c A ls hB hnm hrt hlk hP hD hl
  obtain ⟨hx, hb, hml, hown, hts, hK, hZ, hT, hA, -⟩ := hB
  have hS : va_S A s.heap s.heap [] := va_S.rf
  have hl : lv_has ls 3 [(0, .ref (hm 0))] := hl
  have hinX11 : ∀ w ∈ wsX110, w ∈ wsX11_meanHeight := by decide +kernel
  have k0 := hts (.fieldLink RX11 45 "TerraceQuarryModel" "thrown" "I") (by decide +kernel)
  have k1 := hts (.constantDouble RX11 193 4629137466983448576) (by decide +kernel)
  generalize hQ : MQ below _ _ _ _ _ _ = Q
  unfold f_X11_meanHeight at hf
  have hL9 : ∀ (mv : MV) (n : Nat) (x1 : Int32) (x2 : Int32) (H : Heap) (locs : List Loc) (ls : Array Slot) (o9 : Int32 × Int32), jbL (fun s => f_X11_meanHeight_L9 mv (s.1) (s.2)) n (x1, x2) = some o9 → va_P (gD g) vwCl (wM g hm mv) H → va_D A (wM g hm mv) → va_S A s.heap H locs → lv_has ls 3 [(0, .ref (hm 0)), (1, .int x1), (2, .int x2)] → (∀ (H : Heap) (locs : List Loc) (ls : Array Slot), va_P (gD g) vwCl (wM g hm mv) H → va_D A (wM g hm mv) → va_S A s.heap H locs → lv_has ls 3 [(1, .int (o9.1))] → W p l e rm_X11_meanHeight s mi [.ref (hm 0)].toArray below meth c H locs 0 0 Q (F0 mi 30 ls [])) → W p l e rm_X11_meanHeight s mi [.ref (hm 0)].toArray below meth c H locs 0 0 Q (F0 mi 9 ls []) := by
    intro mv n
    induction n with
    | zero => intro x1 x2 H locs ls o9 hf; exact absurd hf (jbL_0 _ _ _)
    | succ n ih =>
      intro x1 x2 H locs ls o9 hf hP hD hS hl hk
      obtain ⟨r, hf, hr⟩ := jbL_e hf
      have hf : f_X11_meanHeight_L9 mv x1 x2 = some r := hf
      unfold f_X11_meanHeight_L9 at hf
      refine lv_iload_n hx hb dX11_meanHeight_9 rfl (lv_at hl 2 rfl) ?_
      refine lv_bipush (v := 30) hx hb dX11_meanHeight_10 (by decide) ?_
      refine lv_icmp_ge (tgt := 30) hx hb dX11_meanHeight_12 (by decide) (fun hc => ?_) (fun hc => ?_)
      · have hf := jbT hf hc
        cases hf
        obtain rfl := jbR_r hr
        exact hk _ _ _ hP hD hS (lv_sub hl [1] rfl)
      · have hf := jbF hf hc
        refine lv_iload_n hx hb dX11_meanHeight_15 rfl (lv_at hl 1 rfl) ?_
        refine lv_aload_n hx hb dX11_meanHeight_16 rfl (lv_at hl 0 rfl) ?_
        refine lv_iload_n hx hb dX11_meanHeight_17 rfl (lv_at hl 2 rfl) ?_
        refine lv_iconst (v := 0) hx hb dX11_meanHeight_18 (by decide) ?_
        obtain ⟨o3, g4, hf⟩ := jbB_e hf
        refine cva_i (As := [.int x2, .int 0]) (rest := [.int x1]) ⟨hx, hb, hml, hown, hts⟩ (c_X11_of l g hm mv x2 0 _ g4) (cwV 2 hts gX11_meanHeight_X11_of rfl rfl rfl hd_X11_of ⟨Nat.le_of_ble_eq_true rfl, Nat.le_of_ble_eq_true rfl⟩) hK hZ hT hA hP hD hS hl.1 (va_recv hK hP (ci := 10) (q0 := 0) rfl rfl) rfl rfl (Nat.le_of_ble_eq_true rfl) ⟨Nat.le_of_ble_eq_true rfl, Nat.le_of_ble_eq_true rfl⟩ dX11_meanHeight_19 (fun H locs hP hD hS => ?_)
        refine lv_iadd hx hb dX11_meanHeight_22 ?_
        refine lv_topi (fun z5 ez5 => ?_)
        have hf := jbN_e hf ez5
        refine lv_istore_n (lv' := [(1, .int z5), (0, .ref (hm 0)), (2, .int x2)]) hx hb dX11_meanHeight_23 rfl hl (by decide) rfl (fun ls hl => ?_)
        refine lv_iinc (v := (x2 + 1)) (lv' := [(2, .int (x2 + 1)), (1, .int z5), (0, .ref (hm 0))]) hx hb dX11_meanHeight_24 hl (k := 2) rfl rfl (by decide) rfl (fun ls hl => ?_)
        refine lv_goto (tgt := 9) hx hb dX11_meanHeight_27 (by decide) ?_
        cases hf
        exact ih z5 (x2 + 1) _ _ _ _ hr hP hD hS (lv_sub hl [2, 1, 0] rfl) hk
  refine lv_aload_n hx hb dX11_meanHeight_0 rfl (lv_at hl 0 rfl) ?_
  refine lv_iconst (v := 0) hx hb dX11_meanHeight_1 (by decide) ?_
  refine va_put (D := gD g) (ci := 10) (v := .int 0) (ty := .int) (C := RX11) (T := TX11) (N := 19) hx hb hts hinX11 tyX11 tyX11_ok nmX11 hown hK hP hD hS 0 rfl rfl 13 (by decide) k0 (fun _ h9 => h9) rfl (tyX11_ok 13 (by decide)) rfl rfl (Nat.le_of_ble_eq_true rfl) dX11_meanHeight_2 (fun H locs hP hD hS => ?_)
  obtain ⟨w1, ew1⟩ : ∃ y, y = (mSThrown 0 mv) := ⟨_, rfl⟩
  have hf := jbN_e hf ew1
  have hP : va_P (gD g) vwCl (wM g hm w1) H := by rw [ew1]; exact hP
  have hD : va_D A (wM g hm w1) := by rw [ew1]; exact hD
  refine lv_iconst (v := 0) hx hb dX11_meanHeight_5 (by decide) ?_
  refine lv_istore_n (lv' := [(1, .int 0), (0, .ref (hm 0))]) hx hb dX11_meanHeight_6 rfl hl (by decide) rfl (fun ls hl => ?_)
  refine lv_iconst (v := 0) hx hb dX11_meanHeight_7 (by decide) ?_
  refine lv_istore_n (lv' := [(2, .int 0), (1, .int 0), (0, .ref (hm 0))]) hx hb dX11_meanHeight_8 rfl hl (by decide) rfl (fun ls hl => ?_)
  obtain ⟨o9, hg, hf⟩ := jbB_e hf
  refine hL9 w1 _ 0 0 _ _ _ _ hg hP hD hS (lv_sub hl [2, 1, 0] rfl) (fun H locs ls hP hD hS hl => ?_)
  refine lv_iload_n hx hb dX11_meanHeight_30 rfl (lv_at hl 0 rfl) ?_
  refine lv_i2d hx hb dX11_meanHeight_31 ?_
  refine lv_ldc2d (v := 4629137466983448576) hx hb hown k1 dX11_meanHeight_32 ?_
  obtain ⟨h2, hf⟩ := jbA_e hf
  refine lv_ddiv hx hb dX11_meanHeight_35 h2 ?_
  cases hf
  subst hQ
  exact rt_d hx hb hrt hlk hK hP hD hS (Nat.le_of_ble_eq_true rfl) (Nat.le_of_ble_eq_true rfl) dX11_meanHeight_36
def f_X11_liftedShare_J15 (mv : MV) (y0 : Int32) : Option (UInt32 × MV) :=
  (f_X11_goes mv y0).bind fun o2 =>
  if (o2.1) = 0 then
  (some (FP.fconst0, (o2.2)))
  else
  (if jIn 3 229 then
  if jIn 2 229 then
  if (FP.fdiv (FP.i2f ((mNow (o2.2)) (3 : Int32).toNatClampNeg)) (FP.i2f ((mNow (o2.2)) (2 : Int32).toNatClampNeg))) &&& 0x7fffffff ≤ 0x7f800000 then
  some ((FP.fdiv (FP.i2f ((mNow (o2.2)) (3 : Int32).toNatClampNeg)) (FP.i2f ((mNow (o2.2)) (2 : Int32).toNatClampNeg))), (o2.2))
  else none
  else none
  else none)
def f_X11_liftedShare (mv : MV) : Option (UInt32 × MV) :=
  if jIn 2 229 then
  if ((mNow mv) (2 : Int32).toNatClampNeg) ≤ 0 then
  (f_X11_liftedShare_J15 mv 0)
  else
  (f_X11_liftedShare_J15 mv 1)
  else none
def rm_X11_liftedShare : Room := { frames := 2, cells := 0, slots := 0, locals := 45 }
theorem hd_X11_liftedShare : yX11_liftedShare.cls = RX11 ∧ yX11_liftedShare.cls ≠ "java/lang/invoke/MethodHandle" ∧ yX11_liftedShare.cls ≠ "java/lang/invoke/VarHandle" ∧ (parseMethodDescriptor yX11_liftedShare.desc).map (fun d => d.parameters.length) = some 0 := by decide +kernel
set_option maxHeartbeats 4000000 in
set_option maxRecDepth 100000 in
theorem c_X11_liftedShare (l : Launch) (g : GG) (hm : Nat → Nat) (mv : MV)   (out : UInt32 × MV) (hf : f_X11_liftedShare mv = some out) : MtF l yX11_liftedShare wsX11_liftedShare rm_X11_liftedShare g (wM g hm mv) [.ref (hm 0)] (out.1) (wM g hm (out.2)) 0 0 := by
  refine fun sz => mt_of (cc := cX11_liftedShare) (maxL := 1) (ret := (some .float)) (own := RX11) (Qc := fun A => va_Qf (fun r (_ : Unit) => r = (out.1)) (fun _ t => PosM g A (wM g hm (out.2)) t) A) (by decide +kernel) rfl rfl (Nat.le_of_ble_eq_true rfl) ?_ sz
  intro p e s mi below meth c A ls hB hnm hrt hlk hP hD hl
  obtain ⟨hx, hb, hml, hown, hts, hK, hZ, hT, hA, -⟩ := hB
  have hS : va_S A s.heap s.heap [] := va_S.rf
  have hl : lv_has ls 1 [(0, .ref (hm 0))] := hl
  have hinX11 : ∀ w ∈ wsX110, w ∈ wsX11_liftedShare := by decide +kernel
  have k0 := hts (.fieldLink RX11 9 "TerraceQuarryModel" "now" "[I") (by decide +kernel)
  generalize hQ : MQ below _ _ _ _ _ _ = Q
  unfold f_X11_liftedShare at hf
  have hJ15 : ∀ (mv : MV) (y0 : Int32) (H : Heap) (locs : List Loc) (ls : Array Slot), f_X11_liftedShare_J15 mv y0 = some out → va_P (gD g) vwCl (wM g hm mv) H → va_D A (wM g hm mv) → va_S A s.heap H locs → lv_has ls 1 [(0, .ref (hm 0))] → W p l e rm_X11_liftedShare s mi [.ref (hm 0)].toArray below meth c H locs 0 0 Q (F0 mi 15 ls [.int y0, .ref (hm 0)]) := by
    intro mv y0 H locs ls hf hP hD hS hl
    unfold f_X11_liftedShare_J15 at hf
    obtain ⟨o2, g3, hf⟩ := jbB_e hf
    refine cva_i (As := [.int y0]) (rest := []) ⟨hx, hb, hml, hown, hts⟩ (c_X11_goes l g hm mv y0 _ g3) (cwV 1 hts gX11_liftedShare_X11_goes rfl rfl rfl hd_X11_goes ⟨Nat.le_of_ble_eq_true rfl, Nat.le_of_ble_eq_true rfl⟩) hK hZ hT hA hP hD hS hl.1 (va_recv hK hP (ci := 10) (q0 := 0) rfl rfl) rfl rfl (Nat.le_of_ble_eq_true rfl) ⟨Nat.le_of_ble_eq_true rfl, Nat.le_of_ble_eq_true rfl⟩ dX11_liftedShare_15 (fun H locs hP hD hS => ?_)
    refine lv_if_eq (tgt := 39) hx hb dX11_liftedShare_18 (by decide) (fun hc => ?_) (fun hc => ?_)
    · have hf := jbT hf hc
      refine lv_fconst0 hx hb dX11_liftedShare_39 ?_
      cases hf
      subst hQ
      exact rt_f hx hb hrt hlk hK hP hD hS (Nat.le_of_ble_eq_true rfl) (Nat.le_of_ble_eq_true rfl) dX11_liftedShare_40
    · have hf := jbF hf hc
      refine lv_aload_n hx hb dX11_liftedShare_21 rfl (lv_at hl 0 rfl) ?_
      refine va_get (D := gD g) (ci := 10) (v := .ref (hm 1)) (C := RX11) (T := TX11) (N := 19) hx hb hts hinX11 hown hK hP 0 rfl rfl 0 (by decide) k0 (fun _ h9 => h9) rfl dX11_liftedShare_22 ?_
      refine lv_iconst (v := 3) hx hb dX11_liftedShare_25 (by decide) ?_
      obtain ⟨h4, hf⟩ := jbA_e hf
      refine va_iald hx hb hK hP 1 0 rfl rfl h4 dX11_liftedShare_26 ?_
      refine lv_i2f hx hb dX11_liftedShare_27 ?_
      refine lv_aload_n hx hb dX11_liftedShare_28 rfl (lv_at hl 0 rfl) ?_
      refine va_get (D := gD g) (ci := 10) (v := .ref (hm 1)) (C := RX11) (T := TX11) (N := 19) hx hb hts hinX11 hown hK hP 0 rfl rfl 0 (by decide) k0 (fun _ h9 => h9) rfl dX11_liftedShare_29 ?_
      refine lv_iconst (v := 2) hx hb dX11_liftedShare_32 (by decide) ?_
      obtain ⟨h5, hf⟩ := jbA_e hf
      refine va_iald hx hb hK hP 1 0 rfl rfl h5 dX11_liftedShare_33 ?_
      refine lv_i2f hx hb dX11_liftedShare_34 ?_
      obtain ⟨h6, hf⟩ := jbA_e hf
      refine lv_fdiv hx hb dX11_liftedShare_35 h6 ?_
      refine lv_goto (tgt := 40) hx hb dX11_liftedShare_36 (by decide) ?_
      cases hf
      subst hQ
      exact rt_f hx hb hrt hlk hK hP hD hS (Nat.le_of_ble_eq_true rfl) (Nat.le_of_ble_eq_true rfl) dX11_liftedShare_40
  refine lv_aload_n hx hb dX11_liftedShare_0 rfl (lv_at hl 0 rfl) ?_
  refine lv_aload_n hx hb dX11_liftedShare_1 rfl (lv_at hl 0 rfl) ?_
  refine va_get (D := gD g) (ci := 10) (v := .ref (hm 1)) (C := RX11) (T := TX11) (N := 19) hx hb hts hinX11 hown hK hP 0 rfl rfl 0 (by decide) k0 (fun _ h9 => h9) rfl dX11_liftedShare_2 ?_
  refine lv_iconst (v := 2) hx hb dX11_liftedShare_5 (by decide) ?_
  obtain ⟨h1, hf⟩ := jbA_e hf
  refine va_iald hx hb hK hP 1 0 rfl rfl h1 dX11_liftedShare_6 ?_
  refine lv_if_le (tgt := 14) hx hb dX11_liftedShare_7 (by decide) (fun hc => ?_) (fun hc => ?_)
  · have hf := jbT hf hc
    refine lv_iconst (v := 0) hx hb dX11_liftedShare_14 (by decide) ?_
    exact hJ15 mv 0 _ _ _ hf hP hD hS (lv_sub hl [0] rfl)
  · have hf := jbF hf hc
    refine lv_iconst (v := 1) hx hb dX11_liftedShare_10 (by decide) ?_
    refine lv_goto (tgt := 15) hx hb dX11_liftedShare_11 (by decide) ?_
    exact hJ15 mv 1 _ _ _ hf hP hD hS (lv_sub hl [0] rfl)
def f_X11_isConsistent (mv : MV) : Option (Int32 × MV) :=
  jbN (mSThrown 0 mv) fun w1 =>
  some (1, w1)
def rm_X11_isConsistent : Room := { frames := 0, cells := 0, slots := 0, locals := 0 }
theorem hd_X11_isConsistent : yX11_isConsistent.cls = RX11 ∧ yX11_isConsistent.cls ≠ "java/lang/invoke/MethodHandle" ∧ yX11_isConsistent.cls ≠ "java/lang/invoke/VarHandle" ∧ (parseMethodDescriptor yX11_isConsistent.desc).map (fun d => d.parameters.length) = some 0 := by decide +kernel
set_option maxHeartbeats 4000000 in
set_option maxRecDepth 100000 in
theorem c_X11_isConsistent (l : Launch) (g : GG) (hm : Nat → Nat) (mv : MV)   (out : Int32 × MV) (hf : f_X11_isConsistent mv = some out) : MtI l yX11_isConsistent wsX11_isConsistent rm_X11_isConsistent g (wM g hm mv) [.ref (hm 0)] (out.1) (wM g hm (out.2)) 0 0 := by
  refine fun sz => mt_of (cc := cX11_isConsistent) (maxL := 1) (ret := (some .boolean)) (own := RX11) (Qc := fun A => va_Qi (fun r (_ : Unit) => r = (out.1)) (fun _ t => PosM g A (wM g hm (out.2)) t) A) (by decide +kernel) rfl rfl (Nat.le_of_ble_eq_true rfl) ?_ sz
  intro p e s mi below meth c A ls hB hnm hrt hlk hP hD hl
  obtain ⟨hx, hb, hml, hown, hts, hK, hZ, hT, hA, -⟩ := hB
  have hS : va_S A s.heap s.heap [] := va_S.rf
  have hl : lv_has ls 1 [(0, .ref (hm 0))] := hl
  have hinX11 : ∀ w ∈ wsX110, w ∈ wsX11_isConsistent := by decide +kernel
  have k0 := hts (.fieldLink RX11 45 "TerraceQuarryModel" "thrown" "I") (by decide +kernel)
  generalize hQ : MQ below _ _ _ _ _ _ = Q
  unfold f_X11_isConsistent at hf
  refine lv_aload_n hx hb dX11_isConsistent_0 rfl (lv_at hl 0 rfl) ?_
  refine lv_iconst (v := 0) hx hb dX11_isConsistent_1 (by decide) ?_
  refine va_put (D := gD g) (ci := 10) (v := .int 0) (ty := .int) (C := RX11) (T := TX11) (N := 19) hx hb hts hinX11 tyX11 tyX11_ok nmX11 hown hK hP hD hS 0 rfl rfl 13 (by decide) k0 (fun _ h9 => h9) rfl (tyX11_ok 13 (by decide)) rfl rfl (Nat.le_of_ble_eq_true rfl) dX11_isConsistent_2 (fun H locs hP hD hS => ?_)
  obtain ⟨w1, ew1⟩ : ∃ y, y = (mSThrown 0 mv) := ⟨_, rfl⟩
  have hf := jbN_e hf ew1
  have hP : va_P (gD g) vwCl (wM g hm w1) H := by rw [ew1]; exact hP
  have hD : va_D A (wM g hm w1) := by rw [ew1]; exact hD
  refine lv_iconst (v := 1) hx hb dX11_isConsistent_5 (by decide) ?_
  cases hf
  subst hQ
  exact rt_i hx hb hrt hlk nar_1 hK hP hD hS (Nat.le_of_ble_eq_true rfl) (Nat.le_of_ble_eq_true rfl) dX11_isConsistent_6
def f_X11_put (mv : MV) (a0 : Int32) (a1 : Int32) : Option (Int32 × MV) :=
  if jIn a0 60 then
  jbN (mSLine (upd (mLine mv) a0.toNatClampNeg a1) mv) fun w2 =>
  some ((a0 + 1), w2)
  else none
def rm_X11_put : Room := { frames := 0, cells := 0, slots := 0, locals := 0 }
theorem hd_X11_put : yX11_put.cls = RX11 ∧ yX11_put.cls ≠ "java/lang/invoke/MethodHandle" ∧ yX11_put.cls ≠ "java/lang/invoke/VarHandle" ∧ (parseMethodDescriptor yX11_put.desc).map (fun d => d.parameters.length) = some 2 := by decide +kernel
set_option maxHeartbeats 4000000 in
set_option maxRecDepth 100000 in
theorem c_X11_put (l : Launch) (g : GG) (hm : Nat → Nat) (mv : MV)  (a0 : Int32) (a1 : Int32) (out : Int32 × MV) (hf : f_X11_put mv a0 a1 = some out) : MtI l yX11_put wsX11_put rm_X11_put g (wM g hm mv) [.ref (hm 0), .int a0, .int a1] (out.1) (wM g hm (out.2)) 0 0 := by
  refine fun sz => mt_of (cc := cX11_put) (maxL := 3) (ret := (some .int)) (own := RX11) (Qc := fun A => va_Qi (fun r (_ : Unit) => r = (out.1)) (fun _ t => PosM g A (wM g hm (out.2)) t) A) (by decide +kernel) rfl rfl (Nat.le_of_ble_eq_true rfl) ?_ sz
  intro p e s mi below meth c A ls hB hnm hrt hlk hP hD hl
  obtain ⟨hx, hb, hml, hown, hts, hK, hZ, hT, hA, -⟩ := hB
  have hS : va_S A s.heap s.heap [] := va_S.rf
  have hl : lv_has ls 3 [(0, .ref (hm 0)), (1, .int a0), (2, .int a1)] := hl
  have hinX11 : ∀ w ∈ wsX110, w ∈ wsX11_put := by decide +kernel
  have k0 := hts (.fieldLink RX11 35 "TerraceQuarryModel" "line" "[I") (by decide +kernel)
  generalize hQ : MQ below _ _ _ _ _ _ = Q
  unfold f_X11_put at hf
  refine lv_aload_n hx hb dX11_put_0 rfl (lv_at hl 0 rfl) ?_
  refine va_get (D := gD g) (ci := 10) (v := .ref (hm 7)) (C := RX11) (T := TX11) (N := 19) hx hb hts hinX11 hown hK hP 0 rfl rfl 11 (by decide) k0 (fun _ h9 => h9) rfl dX11_put_1 ?_
  refine lv_iload_n hx hb dX11_put_4 rfl (lv_at hl 1 rfl) ?_
  refine lv_iload_n hx hb dX11_put_5 rfl (lv_at hl 2 rfl) ?_
  obtain ⟨h1, hf⟩ := jbA_e hf
  refine va_iast hx hb hK hP hD hS 7 0 rfl rfl h1 dX11_put_6 (fun H locs hP hD hS => ?_)
  obtain ⟨w2, ew2⟩ : ∃ y, y = (mSLine (upd (mLine mv) a0.toNatClampNeg a1) mv) := ⟨_, rfl⟩
  have hf := jbN_e hf ew2
  have hP : va_P (gD g) vwCl (wM g hm w2) H := by rw [ew2]; exact hP
  have hD : va_D A (wM g hm w2) := by rw [ew2]; exact hD
  refine lv_iload_n hx hb dX11_put_7 rfl (lv_at hl 1 rfl) ?_
  refine lv_iconst (v := 1) hx hb dX11_put_8 (by decide) ?_
  refine lv_iadd hx hb dX11_put_9 ?_
  cases hf
  subst hQ
  exact rt_i hx hb hrt hlk rfl hK hP hD hS (Nat.le_of_ble_eq_true rfl) (Nat.le_of_ble_eq_true rfl) dX11_put_10
def f_X11_writesCell_L73 (x2 : Int32) (x3 : Int32) (x4 : Int32) (mv : MV) : Option (Sum (Int32 × Int32 × MV) (Int32 × Int32 × MV)) :=
  (f_X11_of mv x2 3).bind fun o18 =>
  if o18 ≤ x4 then
  (some (.inr (x3, x4, mv)))
  else
  ((f_X11_put mv x3 46).bind fun o20 =>
  jbN (o20.1) fun z22 =>
  some (.inl (z22, (x4 + 1), (o20.2))))
def f_X11_writesCell_J69 (mv : MV) (x2 : Int32) (y0 : Int32) : Option (Int32 × MV) :=
  (jbL (fun s => f_X11_writesCell_L73 x2 (s.1) (s.2.1) (s.2.2)) 5000 (y0, 0, mv)).bind fun o73 =>
  some ((o73.1), (o73.2.2))
def f_X11_writesCell_J49 (mv : MV) (x2 : Int32) (y0 : Int32) : Option (Int32 × MV) :=
  (f_X11_hasWinch mv x2).bind fun o14 =>
  if o14 = 0 then
  (f_X11_writesCell_J69 mv x2 y0)
  else
  ((f_X11_put mv y0 94).bind fun o16 =>
  f_X11_writesCell_J69 (o16.2) x2 (o16.1))
def f_X11_writesCell (mv : MV) (a0 : Int32) (a1 : Int32) : Option (Int32 × MV) :=
  (f_X11_of mv a1 0).bind fun o1 =>
  (f_X11_put mv a0 (48 + o1)).bind fun o3 =>
  (f_X11_of (o3.2) a1 1).bind fun o5 =>
  (f_X11_put (o3.2) (o3.1) (97 + o5)).bind fun o7 =>
  jbN (o7.1) fun z9 =>
  (f_X11_of (o7.2) a1 2).bind fun o10 =>
  if o10 = 1 then
  ((f_X11_put (o7.2) z9 61).bind fun o12 =>
  f_X11_writesCell_J49 (o12.2) a1 (o12.1))
  else
  (f_X11_writesCell_J49 (o7.2) a1 z9)
def rm_X11_writesCell : Room := { frames := 2, cells := 0, slots := 0, locals := 45 }
theorem hd_X11_writesCell : yX11_writesCell.cls = RX11 ∧ yX11_writesCell.cls ≠ "java/lang/invoke/MethodHandle" ∧ yX11_writesCell.cls ≠ "java/lang/invoke/VarHandle" ∧ (parseMethodDescriptor yX11_writesCell.desc).map (fun d => d.parameters.length) = some 2 := by decide +kernel
set_option maxHeartbeats 4000000 in
set_option maxRecDepth 100000 in
theorem c_X11_writesCell (l : Launch) (g : GG) (hm : Nat → Nat) (mv : MV)  (a0 : Int32) (a1 : Int32) (out : Int32 × MV) (hf : f_X11_writesCell mv a0 a1 = some out) : MtI l yX11_writesCell wsX11_writesCell rm_X11_writesCell g (wM g hm mv) [.ref (hm 0), .int a0, .int a1] (out.1) (wM g hm (out.2)) 0 0 := by
  refine fun sz => mt_of (cc := cX11_writesCell) (maxL := 5) (ret := (some .int)) (own := RX11) (Qc := fun A => va_Qi (fun r (_ : Unit) => r = (out.1)) (fun _ t => PosM g A (wM g hm (out.2)) t) A) (by decide +kernel) rfl rfl (Nat.le_of_ble_eq_true rfl) ?_ sz
  intro p e s mi below meth c A ls hB hnm hrt hlk hP hD hl
  obtain ⟨hx, hb, hml, hown, hts, hK, hZ, hT, hA, -⟩ := hB
  have hS : va_S A s.heap s.heap [] := va_S.rf
  have hl : lv_has ls 5 [(0, .ref (hm 0)), (1, .int a0), (2, .int a1)] := hl
  generalize hQ : MQ below _ _ _ _ _ _ = Q
  unfold f_X11_writesCell at hf
  have hL73 : ∀ (x2 : Int32) (n : Nat) (x3 : Int32) (x4 : Int32) (mv : MV) (H : Heap) (locs : List Loc) (ls : Array Slot) (o73 : Int32 × Int32 × MV), jbL (fun s => f_X11_writesCell_L73 x2 (s.1) (s.2.1) (s.2.2)) n (x3, x4, mv) = some o73 → va_P (gD g) vwCl (wM g hm mv) H → va_D A (wM g hm mv) → va_S A s.heap H locs → lv_has ls 5 [(0, .ref (hm 0)), (2, .int x2), (3, .int x3), (4, .int x4)] → (∀ (H : Heap) (locs : List Loc) (ls : Array Slot), va_P (gD g) vwCl (wM g hm (o73.2.2)) H → va_D A (wM g hm (o73.2.2)) → va_S A s.heap H locs → lv_has ls 5 [(3, .int (o73.1))] → W p l e rm_X11_writesCell s mi [.ref (hm 0), .int a0, .int a1].toArray below meth c H locs 0 0 Q (F0 mi 98 ls [])) → W p l e rm_X11_writesCell s mi [.ref (hm 0), .int a0, .int a1].toArray below meth c H locs 0 0 Q (F0 mi 73 ls []) := by
    intro x2 n
    induction n with
    | zero => intro x3 x4 mv H locs ls o73 hf; exact absurd hf (jbL_0 _ _ _)
    | succ n ih =>
      intro x3 x4 mv H locs ls o73 hf hP hD hS hl hk
      obtain ⟨r, hf, hr⟩ := jbL_e hf
      have hf : f_X11_writesCell_L73 x2 x3 x4 mv = some r := hf
      unfold f_X11_writesCell_L73 at hf
      refine lv_iload hx hb dX11_writesCell_73 (lv_at hl 3 rfl) ?_
      refine lv_aload_n hx hb dX11_writesCell_75 rfl (lv_at hl 0 rfl) ?_
      refine lv_iload_n hx hb dX11_writesCell_76 rfl (lv_at hl 1 rfl) ?_
      refine lv_iconst (v := 3) hx hb dX11_writesCell_77 (by decide) ?_
      obtain ⟨o18, g19, hf⟩ := jbB_e hf
      refine cva_i (As := [.int x2, .int 3]) (rest := [.int x4]) ⟨hx, hb, hml, hown, hts⟩ (c_X11_of l g hm mv x2 3 _ g19) (cwV 2 hts gX11_writesCell_X11_of rfl rfl rfl hd_X11_of ⟨Nat.le_of_ble_eq_true rfl, Nat.le_of_ble_eq_true rfl⟩) hK hZ hT hA hP hD hS hl.1 (va_recv hK hP (ci := 10) (q0 := 0) rfl rfl) rfl rfl (Nat.le_of_ble_eq_true rfl) ⟨Nat.le_of_ble_eq_true rfl, Nat.le_of_ble_eq_true rfl⟩ dX11_writesCell_78 (fun H locs hP hD hS => ?_)
      refine lv_icmp_ge (tgt := 98) hx hb dX11_writesCell_81 (by decide) (fun hc => ?_) (fun hc => ?_)
      · have hf := jbT hf hc
        cases hf
        obtain rfl := jbR_r hr
        exact hk _ _ _ hP hD hS (lv_sub hl [2] rfl)
      · have hf := jbF hf hc
        refine lv_aload_n hx hb dX11_writesCell_84 rfl (lv_at hl 0 rfl) ?_
        refine lv_iload_n hx hb dX11_writesCell_85 rfl (lv_at hl 2 rfl) ?_
        refine lv_bipush (v := 46) hx hb dX11_writesCell_86 (by decide) ?_
        obtain ⟨o20, g21, hf⟩ := jbB_e hf
        refine cva_i (As := [.int x3, .int 46]) (rest := []) ⟨hx, hb, hml, hown, hts⟩ (c_X11_put l g hm mv x3 46 _ g21) (cwV 2 hts gX11_writesCell_X11_put rfl rfl rfl hd_X11_put ⟨Nat.le_of_ble_eq_true rfl, Nat.le_of_ble_eq_true rfl⟩) hK hZ hT hA hP hD hS hl.1 (va_recv hK hP (ci := 10) (q0 := 0) rfl rfl) rfl rfl (Nat.le_of_ble_eq_true rfl) ⟨Nat.le_of_ble_eq_true rfl, Nat.le_of_ble_eq_true rfl⟩ dX11_writesCell_88 (fun H locs hP hD hS => ?_)
        refine lv_topi (fun z22 ez22 => ?_)
        have hf := jbN_e hf ez22
        refine lv_istore_n (lv' := [(3, .int z22), (0, .ref (hm 0)), (2, .int x2), (4, .int x4)]) hx hb dX11_writesCell_91 rfl hl (by decide) rfl (fun ls hl => ?_)
        refine lv_iinc (v := (x4 + 1)) (lv' := [(4, .int (x4 + 1)), (3, .int z22), (0, .ref (hm 0)), (2, .int x2)]) hx hb dX11_writesCell_92 hl (k := 3) rfl rfl (by decide) rfl (fun ls hl => ?_)
        refine lv_goto (tgt := 73) hx hb dX11_writesCell_95 (by decide) ?_
        cases hf
        exact ih z22 (x4 + 1) (o20.2) _ _ _ _ hr hP hD hS (lv_sub hl [2, 3, 1, 0] rfl) hk
  have hJ69 : ∀ (mv : MV) (x2 : Int32) (y0 : Int32) (H : Heap) (locs : List Loc) (ls : Array Slot), f_X11_writesCell_J69 mv x2 y0 = some out → va_P (gD g) vwCl (wM g hm mv) H → va_D A (wM g hm mv) → va_S A s.heap H locs → lv_has ls 5 [(0, .ref (hm 0)), (2, .int x2)] → W p l e rm_X11_writesCell s mi [.ref (hm 0), .int a0, .int a1].toArray below meth c H locs 0 0 Q (F0 mi 69 ls [.int y0]) := by
    intro mv x2 y0 H locs ls hf hP hD hS hl
    unfold f_X11_writesCell_J69 at hf
    refine lv_istore_n (lv' := [(3, .int y0), (0, .ref (hm 0)), (2, .int x2)]) hx hb dX11_writesCell_69 rfl hl (by decide) rfl (fun ls hl => ?_)
    refine lv_iconst (v := 0) hx hb dX11_writesCell_70 (by decide) ?_
    refine lv_istore (lv' := [(4, .int 0), (3, .int y0), (0, .ref (hm 0)), (2, .int x2)]) hx hb dX11_writesCell_71 hl (by decide) rfl (fun ls hl => ?_)
    obtain ⟨o73, hg, hf⟩ := jbB_e hf
    refine hL73 x2 _ y0 0 mv _ _ _ _ hg hP hD hS (lv_sub hl [2, 3, 1, 0] rfl) (fun H locs ls hP hD hS hl => ?_)
    refine lv_iload_n hx hb dX11_writesCell_98 rfl (lv_at hl 0 rfl) ?_
    cases hf
    subst hQ
    exact rt_i hx hb hrt hlk rfl hK hP hD hS (Nat.le_of_ble_eq_true rfl) (Nat.le_of_ble_eq_true rfl) dX11_writesCell_99
  have hJ49 : ∀ (mv : MV) (x2 : Int32) (y0 : Int32) (H : Heap) (locs : List Loc) (ls : Array Slot), f_X11_writesCell_J49 mv x2 y0 = some out → va_P (gD g) vwCl (wM g hm mv) H → va_D A (wM g hm mv) → va_S A s.heap H locs → lv_has ls 5 [(0, .ref (hm 0)), (2, .int x2)] → W p l e rm_X11_writesCell s mi [.ref (hm 0), .int a0, .int a1].toArray below meth c H locs 0 0 Q (F0 mi 49 ls [.int y0]) := by
    intro mv x2 y0 H locs ls hf hP hD hS hl
    unfold f_X11_writesCell_J49 at hf
    refine lv_istore_n (lv' := [(3, .int y0), (0, .ref (hm 0)), (2, .int x2)]) hx hb dX11_writesCell_49 rfl hl (by decide) rfl (fun ls hl => ?_)
    refine lv_aload_n hx hb dX11_writesCell_50 rfl (lv_at hl 1 rfl) ?_
    refine lv_iload_n hx hb dX11_writesCell_51 rfl (lv_at hl 2 rfl) ?_
    obtain ⟨o14, g15, hf⟩ := jbB_e hf
    refine cva_i (As := [.int x2]) (rest := []) ⟨hx, hb, hml, hown, hts⟩ (c_X11_hasWinch l g hm mv x2 _ g15) (cwV 1 hts gX11_writesCell_X11_hasWinch rfl rfl rfl hd_X11_hasWinch ⟨Nat.le_of_ble_eq_true rfl, Nat.le_of_ble_eq_true rfl⟩) hK hZ hT hA hP hD hS hl.1 (va_recv hK hP (ci := 10) (q0 := 0) rfl rfl) rfl rfl (Nat.le_of_ble_eq_true rfl) ⟨Nat.le_of_ble_eq_true rfl, Nat.le_of_ble_eq_true rfl⟩ dX11_writesCell_52 (fun H locs hP hD hS => ?_)
    refine lv_if_eq (tgt := 68) hx hb dX11_writesCell_55 (by decide) (fun hc => ?_) (fun hc => ?_)
    · have hf := jbT hf hc
      refine lv_iload_n hx hb dX11_writesCell_68 rfl (lv_at hl 0 rfl) ?_
      exact hJ69 mv x2 y0 _ _ _ hf hP hD hS (lv_sub hl [1, 2] rfl)
    · have hf := jbF hf hc
      refine lv_aload_n hx hb dX11_writesCell_58 rfl (lv_at hl 1 rfl) ?_
      refine lv_iload_n hx hb dX11_writesCell_59 rfl (lv_at hl 0 rfl) ?_
      refine lv_bipush (v := 94) hx hb dX11_writesCell_60 (by decide) ?_
      obtain ⟨o16, g17, hf⟩ := jbB_e hf
      refine cva_i (As := [.int y0, .int 94]) (rest := []) ⟨hx, hb, hml, hown, hts⟩ (c_X11_put l g hm mv y0 94 _ g17) (cwV 2 hts gX11_writesCell_X11_put rfl rfl rfl hd_X11_put ⟨Nat.le_of_ble_eq_true rfl, Nat.le_of_ble_eq_true rfl⟩) hK hZ hT hA hP hD hS hl.1 (va_recv hK hP (ci := 10) (q0 := 0) rfl rfl) rfl rfl (Nat.le_of_ble_eq_true rfl) ⟨Nat.le_of_ble_eq_true rfl, Nat.le_of_ble_eq_true rfl⟩ dX11_writesCell_62 (fun H locs hP hD hS => ?_)
      refine lv_goto (tgt := 69) hx hb dX11_writesCell_65 (by decide) ?_
      exact hJ69 (o16.2) x2 (o16.1) _ _ _ hf hP hD hS (lv_sub hl [1, 2] rfl)
  refine lv_aload_n hx hb dX11_writesCell_0 rfl (lv_at hl 0 rfl) ?_
  refine lv_aload_n hx hb dX11_writesCell_1 rfl (lv_at hl 0 rfl) ?_
  refine lv_iload_n hx hb dX11_writesCell_2 rfl (lv_at hl 1 rfl) ?_
  refine lv_bipush (v := 48) hx hb dX11_writesCell_3 (by decide) ?_
  refine lv_aload_n hx hb dX11_writesCell_5 rfl (lv_at hl 0 rfl) ?_
  refine lv_iload_n hx hb dX11_writesCell_6 rfl (lv_at hl 2 rfl) ?_
  refine lv_iconst (v := 0) hx hb dX11_writesCell_7 (by decide) ?_
  obtain ⟨o1, g2, hf⟩ := jbB_e hf
  refine cva_i (As := [.int a1, .int 0]) (rest := [.int 48, .int a0, .ref (hm 0), .ref (hm 0)]) ⟨hx, hb, hml, hown, hts⟩ (c_X11_of l g hm mv a1 0 _ g2) (cwV 2 hts gX11_writesCell_X11_of rfl rfl rfl hd_X11_of ⟨Nat.le_of_ble_eq_true rfl, Nat.le_of_ble_eq_true rfl⟩) hK hZ hT hA hP hD hS hl.1 (va_recv hK hP (ci := 10) (q0 := 0) rfl rfl) rfl rfl (Nat.le_of_ble_eq_true rfl) ⟨Nat.le_of_ble_eq_true rfl, Nat.le_of_ble_eq_true rfl⟩ dX11_writesCell_8 (fun H locs hP hD hS => ?_)
  refine lv_iadd hx hb dX11_writesCell_11 ?_
  obtain ⟨o3, g4, hf⟩ := jbB_e hf
  refine cva_i (As := [.int a0, .int (48 + o1)]) (rest := [.ref (hm 0)]) ⟨hx, hb, hml, hown, hts⟩ (c_X11_put l g hm mv a0 (48 + o1) _ g4) (cwV 2 hts gX11_writesCell_X11_put rfl rfl rfl hd_X11_put ⟨Nat.le_of_ble_eq_true rfl, Nat.le_of_ble_eq_true rfl⟩) hK hZ hT hA hP hD hS hl.1 (va_recv hK hP (ci := 10) (q0 := 0) rfl rfl) rfl rfl (Nat.le_of_ble_eq_true rfl) ⟨Nat.le_of_ble_eq_true rfl, Nat.le_of_ble_eq_true rfl⟩ dX11_writesCell_12 (fun H locs hP hD hS => ?_)
  refine lv_bipush (v := 97) hx hb dX11_writesCell_15 (by decide) ?_
  refine lv_aload_n hx hb dX11_writesCell_17 rfl (lv_at hl 0 rfl) ?_
  refine lv_iload_n hx hb dX11_writesCell_18 rfl (lv_at hl 2 rfl) ?_
  refine lv_iconst (v := 1) hx hb dX11_writesCell_19 (by decide) ?_
  obtain ⟨o5, g6, hf⟩ := jbB_e hf
  refine cva_i (As := [.int a1, .int 1]) (rest := [.int 97, .int (o3.1), .ref (hm 0)]) ⟨hx, hb, hml, hown, hts⟩ (c_X11_of l g hm (o3.2) a1 1 _ g6) (cwV 2 hts gX11_writesCell_X11_of rfl rfl rfl hd_X11_of ⟨Nat.le_of_ble_eq_true rfl, Nat.le_of_ble_eq_true rfl⟩) hK hZ hT hA hP hD hS hl.1 (va_recv hK hP (ci := 10) (q0 := 0) rfl rfl) rfl rfl (Nat.le_of_ble_eq_true rfl) ⟨Nat.le_of_ble_eq_true rfl, Nat.le_of_ble_eq_true rfl⟩ dX11_writesCell_20 (fun H locs hP hD hS => ?_)
  refine lv_iadd hx hb dX11_writesCell_23 ?_
  obtain ⟨o7, g8, hf⟩ := jbB_e hf
  refine cva_i (As := [.int (o3.1), .int (97 + o5)]) (rest := []) ⟨hx, hb, hml, hown, hts⟩ (c_X11_put l g hm (o3.2) (o3.1) (97 + o5) _ g8) (cwV 2 hts gX11_writesCell_X11_put rfl rfl rfl hd_X11_put ⟨Nat.le_of_ble_eq_true rfl, Nat.le_of_ble_eq_true rfl⟩) hK hZ hT hA hP hD hS hl.1 (va_recv hK hP (ci := 10) (q0 := 0) rfl rfl) rfl rfl (Nat.le_of_ble_eq_true rfl) ⟨Nat.le_of_ble_eq_true rfl, Nat.le_of_ble_eq_true rfl⟩ dX11_writesCell_24 (fun H locs hP hD hS => ?_)
  refine lv_topi (fun z9 ez9 => ?_)
  have hf := jbN_e hf ez9
  refine lv_istore_n (lv' := [(3, .int z9), (0, .ref (hm 0)), (1, .int a0), (2, .int a1)]) hx hb dX11_writesCell_27 rfl hl (by decide) rfl (fun ls hl => ?_)
  refine lv_aload_n hx hb dX11_writesCell_28 rfl (lv_at hl 1 rfl) ?_
  refine lv_iload_n hx hb dX11_writesCell_29 rfl (lv_at hl 3 rfl) ?_
  refine lv_iconst (v := 2) hx hb dX11_writesCell_30 (by decide) ?_
  obtain ⟨o10, g11, hf⟩ := jbB_e hf
  refine cva_i (As := [.int a1, .int 2]) (rest := []) ⟨hx, hb, hml, hown, hts⟩ (c_X11_of l g hm (o7.2) a1 2 _ g11) (cwV 2 hts gX11_writesCell_X11_of rfl rfl rfl hd_X11_of ⟨Nat.le_of_ble_eq_true rfl, Nat.le_of_ble_eq_true rfl⟩) hK hZ hT hA hP hD hS hl.1 (va_recv hK hP (ci := 10) (q0 := 0) rfl rfl) rfl rfl (Nat.le_of_ble_eq_true rfl) ⟨Nat.le_of_ble_eq_true rfl, Nat.le_of_ble_eq_true rfl⟩ dX11_writesCell_31 (fun H locs hP hD hS => ?_)
  refine lv_iconst (v := 1) hx hb dX11_writesCell_34 (by decide) ?_
  refine lv_icmp_ne (tgt := 48) hx hb dX11_writesCell_35 (by decide) (fun hc => ?_) (fun hc => ?_)
  · have hf := jbF hf hc
    refine lv_iload_n hx hb dX11_writesCell_48 rfl (lv_at hl 0 rfl) ?_
    exact hJ49 (o7.2) a1 z9 _ _ _ hf hP hD hS (lv_sub hl [1, 3] rfl)
  · have hf := jbT hf hc
    refine lv_aload_n hx hb dX11_writesCell_38 rfl (lv_at hl 1 rfl) ?_
    refine lv_iload_n hx hb dX11_writesCell_39 rfl (lv_at hl 0 rfl) ?_
    refine lv_bipush (v := 61) hx hb dX11_writesCell_40 (by decide) ?_
    obtain ⟨o12, g13, hf⟩ := jbB_e hf
    refine cva_i (As := [.int z9, .int 61]) (rest := []) ⟨hx, hb, hml, hown, hts⟩ (c_X11_put l g hm (o7.2) z9 61 _ g13) (cwV 2 hts gX11_writesCell_X11_put rfl rfl rfl hd_X11_put ⟨Nat.le_of_ble_eq_true rfl, Nat.le_of_ble_eq_true rfl⟩) hK hZ hT hA hP hD hS hl.1 (va_recv hK hP (ci := 10) (q0 := 0) rfl rfl) rfl rfl (Nat.le_of_ble_eq_true rfl) ⟨Nat.le_of_ble_eq_true rfl, Nat.le_of_ble_eq_true rfl⟩ dX11_writesCell_42 (fun H locs hP hD hS => ?_)
    refine lv_goto (tgt := 49) hx hb dX11_writesCell_45 (by decide) ?_
    exact hJ49 (o12.2) a1 (o12.1) _ _ _ hf hP hD hS (lv_sub hl [1, 3] rfl)
def f_X11_writeRow_J41 (mv : MV) (x1 : Int32) (x3 : Int32) (y0 : Int32) : Option (Sum (Int32 × Int32 × MV) (Int32 × Int32 × MV)) :=
  (f_X11_writesCell mv y0 ((6 * x1) + x3)).bind fun o8 =>
  jbN (o8.1) fun z10 =>
  some (.inl (z10, (x3 + 1), (o8.2)))
def f_X11_writeRow_L19 (x1 : Int32) (x2 : Int32) (x3 : Int32) (mv : MV) : Option (Sum (Int32 × Int32 × MV) (Int32 × Int32 × MV)) :=
  if 6 ≤ x3 then
  (some (.inr (x2, x3, mv)))
  else
  (if x3 = 0 then
  (f_X11_writeRow_J41 mv x1 x3 x2)
  else
  ((f_X11_put mv x2 32).bind fun o6 =>
  f_X11_writeRow_J41 (o6.2) x1 x3 (o6.1)))
def f_X11_writeRow (mv : MV) (a0 : Int32) : Option (Int32 × MV) :=
  (f_X11_isIn a0 0 4).bind fun o1 =>
  (f_X11_goes mv o1).bind fun o3 =>
  if (o3.1) = 0 then
  (some (0, (o3.2)))
  else
  ((jbL (fun s => f_X11_writeRow_L19 a0 (s.1) (s.2.1) (s.2.2)) 5000 (0, 0, (o3.2))).bind fun o19 =>
  jbN (mSLined (o19.1) (o19.2.2)) fun w5 =>
  some ((o19.1), w5))
def rm_X11_writeRow : Room := { frames := 3, cells := 0, slots := 0, locals := 69 }
theorem hd_X11_writeRow : yX11_writeRow.cls = RX11 ∧ yX11_writeRow.cls ≠ "java/lang/invoke/MethodHandle" ∧ yX11_writeRow.cls ≠ "java/lang/invoke/VarHandle" ∧ (parseMethodDescriptor yX11_writeRow.desc).map (fun d => d.parameters.length) = some 1 := by decide +kernel
set_option maxHeartbeats 4000000 in
set_option maxRecDepth 100000 in
theorem c_X11_writeRow (l : Launch) (g : GG) (hm : Nat → Nat) (mv : MV)  (a0 : Int32) (out : Int32 × MV) (hf : f_X11_writeRow mv a0 = some out) : MtI l yX11_writeRow wsX11_writeRow rm_X11_writeRow g (wM g hm mv) [.ref (hm 0), .int a0] (out.1) (wM g hm (out.2)) 0 0 := by
  refine fun sz => mt_of (cc := cX11_writeRow) (maxL := 4) (ret := (some .int)) (own := RX11) (Qc := fun A => va_Qi (fun r (_ : Unit) => r = (out.1)) (fun _ t => PosM g A (wM g hm (out.2)) t) A) (by decide +kernel) rfl rfl (Nat.le_of_ble_eq_true rfl) ?_ sz
  intro p e s mi below meth c A ls hB hnm hrt hlk hP hD hl
  obtain ⟨hx, hb, hml, hown, hts, hK, hZ, hT, hA, -⟩ := hB
  have hS : va_S A s.heap s.heap [] := va_S.rf
  have hl : lv_has ls 4 [(0, .ref (hm 0)), (1, .int a0)] := hl
  have hinX11 : ∀ w ∈ wsX110, w ∈ wsX11_writeRow := by decide +kernel
  have k0 := hts (.fieldLink RX11 201 "TerraceQuarryModel" "lined" "I") (by decide +kernel)
  generalize hQ : MQ below _ _ _ _ _ _ = Q
  unfold f_X11_writeRow at hf
  have hL19 : ∀ (x1 : Int32) (n : Nat) (x2 : Int32) (x3 : Int32) (mv : MV) (H : Heap) (locs : List Loc) (ls : Array Slot) (o19 : Int32 × Int32 × MV), jbL (fun s => f_X11_writeRow_L19 x1 (s.1) (s.2.1) (s.2.2)) n (x2, x3, mv) = some o19 → va_P (gD g) vwCl (wM g hm mv) H → va_D A (wM g hm mv) → va_S A s.heap H locs → lv_has ls 4 [(0, .ref (hm 0)), (1, .int x1), (2, .int x2), (3, .int x3)] → (∀ (H : Heap) (locs : List Loc) (ls : Array Slot), va_P (gD g) vwCl (wM g hm (o19.2.2)) H → va_D A (wM g hm (o19.2.2)) → va_S A s.heap H locs → lv_has ls 4 [(0, .ref (hm 0)), (2, .int (o19.1))] → W p l e rm_X11_writeRow s mi [.ref (hm 0), .int a0].toArray below meth c H locs 0 0 Q (F0 mi 57 ls [])) → W p l e rm_X11_writeRow s mi [.ref (hm 0), .int a0].toArray below meth c H locs 0 0 Q (F0 mi 19 ls []) := by
    intro x1 n
    induction n with
    | zero => intro x2 x3 mv H locs ls o19 hf; exact absurd hf (jbL_0 _ _ _)
    | succ n ih =>
      intro x2 x3 mv H locs ls o19 hf hP hD hS hl hk
      obtain ⟨r, hf, hr⟩ := jbL_e hf
      have hf : f_X11_writeRow_L19 x1 x2 x3 mv = some r := hf
      unfold f_X11_writeRow_L19 at hf
      have hJ41 : ∀ (mv : MV) (x3 : Int32) (y0 : Int32) (H : Heap) (locs : List Loc) (ls : Array Slot) (r : Sum (Int32 × Int32 × MV) (Int32 × Int32 × MV)), f_X11_writeRow_J41 mv x1 x3 y0 = some r → jbR (fun s => f_X11_writeRow_L19 x1 (s.1) (s.2.1) (s.2.2)) n o19 r → va_P (gD g) vwCl (wM g hm mv) H → va_D A (wM g hm mv) → va_S A s.heap H locs → lv_has ls 4 [(0, .ref (hm 0)), (1, .int x1), (3, .int x3)] → W p l e rm_X11_writeRow s mi [.ref (hm 0), .int a0].toArray below meth c H locs 0 0 Q (F0 mi 41 ls [.int y0, .ref (hm 0)]) := by
        intro mv x3 y0 H locs ls r hf hr hP hD hS hl
        unfold f_X11_writeRow_J41 at hf
        refine lv_bipush (v := 6) hx hb dX11_writeRow_41 (by decide) ?_
        refine lv_iload_n hx hb dX11_writeRow_43 rfl (lv_at hl 1 rfl) ?_
        refine lv_imul hx hb dX11_writeRow_44 ?_
        refine lv_iload_n hx hb dX11_writeRow_45 rfl (lv_at hl 2 rfl) ?_
        refine lv_iadd hx hb dX11_writeRow_46 ?_
        obtain ⟨o8, g9, hf⟩ := jbB_e hf
        refine cva_i (As := [.int y0, .int ((6 * x1) + x3)]) (rest := []) ⟨hx, hb, hml, hown, hts⟩ (c_X11_writesCell l g hm mv y0 ((6 * x1) + x3) _ g9) (cwV 2 hts gX11_writeRow_X11_writesCell rfl rfl rfl hd_X11_writesCell ⟨Nat.le_of_ble_eq_true rfl, Nat.le_of_ble_eq_true rfl⟩) hK hZ hT hA hP hD hS hl.1 (va_recv hK hP (ci := 10) (q0 := 0) rfl rfl) rfl rfl (Nat.le_of_ble_eq_true rfl) ⟨Nat.le_of_ble_eq_true rfl, Nat.le_of_ble_eq_true rfl⟩ dX11_writeRow_47 (fun H locs hP hD hS => ?_)
        refine lv_topi (fun z10 ez10 => ?_)
        have hf := jbN_e hf ez10
        refine lv_istore_n (lv' := [(2, .int z10), (0, .ref (hm 0)), (1, .int x1), (3, .int x3)]) hx hb dX11_writeRow_50 rfl hl (by decide) rfl (fun ls hl => ?_)
        refine lv_iinc (v := (x3 + 1)) (lv' := [(3, .int (x3 + 1)), (2, .int z10), (0, .ref (hm 0)), (1, .int x1)]) hx hb dX11_writeRow_51 hl (k := 3) rfl rfl (by decide) rfl (fun ls hl => ?_)
        refine lv_goto (tgt := 19) hx hb dX11_writeRow_54 (by decide) ?_
        cases hf
        exact ih z10 (x3 + 1) (o8.2) _ _ _ _ hr hP hD hS (lv_sub hl [2, 3, 1, 0] rfl) hk
      refine lv_iload_n hx hb dX11_writeRow_19 rfl (lv_at hl 3 rfl) ?_
      refine lv_bipush (v := 6) hx hb dX11_writeRow_20 (by decide) ?_
      refine lv_icmp_ge (tgt := 57) hx hb dX11_writeRow_22 (by decide) (fun hc => ?_) (fun hc => ?_)
      · have hf := jbT hf hc
        cases hf
        obtain rfl := jbR_r hr
        exact hk _ _ _ hP hD hS (lv_sub hl [0, 2] rfl)
      · have hf := jbF hf hc
        refine lv_aload_n hx hb dX11_writeRow_25 rfl (lv_at hl 0 rfl) ?_
        refine lv_iload_n hx hb dX11_writeRow_26 rfl (lv_at hl 3 rfl) ?_
        refine lv_if_ne (tgt := 34) hx hb dX11_writeRow_27 (by decide) (fun hc => ?_) (fun hc => ?_)
        · have hf := jbF hf hc
          refine lv_aload_n hx hb dX11_writeRow_34 rfl (lv_at hl 0 rfl) ?_
          refine lv_iload_n hx hb dX11_writeRow_35 rfl (lv_at hl 2 rfl) ?_
          refine lv_bipush (v := 32) hx hb dX11_writeRow_36 (by decide) ?_
          obtain ⟨o6, g7, hf⟩ := jbB_e hf
          refine cva_i (As := [.int x2, .int 32]) (rest := [.ref (hm 0)]) ⟨hx, hb, hml, hown, hts⟩ (c_X11_put l g hm mv x2 32 _ g7) (cwV 2 hts gX11_writeRow_X11_put rfl rfl rfl hd_X11_put ⟨Nat.le_of_ble_eq_true rfl, Nat.le_of_ble_eq_true rfl⟩) hK hZ hT hA hP hD hS hl.1 (va_recv hK hP (ci := 10) (q0 := 0) rfl rfl) rfl rfl (Nat.le_of_ble_eq_true rfl) ⟨Nat.le_of_ble_eq_true rfl, Nat.le_of_ble_eq_true rfl⟩ dX11_writeRow_38 (fun H locs hP hD hS => ?_)
          exact hJ41 (o6.2) x3 (o6.1) _ _ _ _ hf hr hP hD hS (lv_sub hl [0, 1, 3] rfl)
        · have hf := jbT hf hc
          refine lv_iload_n hx hb dX11_writeRow_30 rfl (lv_at hl 2 rfl) ?_
          refine lv_goto (tgt := 41) hx hb dX11_writeRow_31 (by decide) ?_
          exact hJ41 mv x3 x2 _ _ _ _ hf hr hP hD hS (lv_sub hl [0, 1, 3] rfl)
  refine lv_aload_n hx hb dX11_writeRow_0 rfl (lv_at hl 0 rfl) ?_
  refine lv_iload_n hx hb dX11_writeRow_1 rfl (lv_at hl 1 rfl) ?_
  refine lv_iconst (v := 0) hx hb dX11_writeRow_2 (by decide) ?_
  refine lv_iconst (v := 4) hx hb dX11_writeRow_3 (by decide) ?_
  obtain ⟨o1, g2, hf⟩ := jbB_e hf
  refine csn_i (As := [.int a0, .int 0, .int 4]) (rest := [.ref (hm 0)]) ⟨hx, hb, hml, hown, hts⟩ (c_X11_isIn l g a0 0 4 _ g2) (va_cwS 3 hts gX11_writeRow_X11_isIn rfl rfl rfl hd_X11_isIn ⟨Nat.le_of_ble_eq_true rfl, Nat.le_of_ble_eq_true rfl⟩) hK hZ hT hA hP hD hS hl.1 rfl rfl (Nat.le_of_ble_eq_true rfl) ⟨Nat.le_of_ble_eq_true rfl, Nat.le_of_ble_eq_true rfl⟩ dX11_writeRow_4 (fun H locs hP hD hS => ?_)
  obtain ⟨o3, g4, hf⟩ := jbB_e hf
  refine cva_i (As := [.int o1]) (rest := []) ⟨hx, hb, hml, hown, hts⟩ (c_X11_goes l g hm mv o1 _ g4) (cwV 1 hts gX11_writeRow_X11_goes rfl rfl rfl hd_X11_goes ⟨Nat.le_of_ble_eq_true rfl, Nat.le_of_ble_eq_true rfl⟩) hK hZ hT hA hP hD hS hl.1 (va_recv hK hP (ci := 10) (q0 := 0) rfl rfl) rfl rfl (Nat.le_of_ble_eq_true rfl) ⟨Nat.le_of_ble_eq_true rfl, Nat.le_of_ble_eq_true rfl⟩ dX11_writeRow_7 (fun H locs hP hD hS => ?_)
  refine lv_if_ne (tgt := 15) hx hb dX11_writeRow_10 (by decide) (fun hc => ?_) (fun hc => ?_)
  · have hf := jbF hf hc
    refine lv_iconst (v := 0) hx hb dX11_writeRow_15 (by decide) ?_
    refine lv_istore_n (lv' := [(2, .int 0), (0, .ref (hm 0)), (1, .int a0)]) hx hb dX11_writeRow_16 rfl hl (by decide) rfl (fun ls hl => ?_)
    refine lv_iconst (v := 0) hx hb dX11_writeRow_17 (by decide) ?_
    refine lv_istore_n (lv' := [(3, .int 0), (2, .int 0), (0, .ref (hm 0)), (1, .int a0)]) hx hb dX11_writeRow_18 rfl hl (by decide) rfl (fun ls hl => ?_)
    obtain ⟨o19, hg, hf⟩ := jbB_e hf
    refine hL19 a0 _ 0 0 (o3.2) _ _ _ _ hg hP hD hS (lv_sub hl [2, 3, 1, 0] rfl) (fun H locs ls hP hD hS hl => ?_)
    refine lv_aload_n hx hb dX11_writeRow_57 rfl (lv_at hl 0 rfl) ?_
    refine lv_iload_n hx hb dX11_writeRow_58 rfl (lv_at hl 1 rfl) ?_
    refine va_put (D := gD g) (ci := 10) (v := .int (o19.1)) (ty := .int) (C := RX11) (T := TX11) (N := 19) hx hb hts hinX11 tyX11 tyX11_ok nmX11 hown hK hP hD hS 0 rfl rfl 12 (by decide) k0 (fun _ h9 => h9) rfl (tyX11_ok 12 (by decide)) rfl rfl (Nat.le_of_ble_eq_true rfl) dX11_writeRow_59 (fun H locs hP hD hS => ?_)
    obtain ⟨w5, ew5⟩ : ∃ y, y = (mSLined (o19.1) (o19.2.2)) := ⟨_, rfl⟩
    have hf := jbN_e hf ew5
    have hP : va_P (gD g) vwCl (wM g hm w5) H := by rw [ew5]; exact hP
    have hD : va_D A (wM g hm w5) := by rw [ew5]; exact hD
    refine lv_iload_n hx hb dX11_writeRow_62 rfl (lv_at hl 1 rfl) ?_
    cases hf
    subst hQ
    exact rt_i hx hb hrt hlk rfl hK hP hD hS (Nat.le_of_ble_eq_true rfl) (Nat.le_of_ble_eq_true rfl) dX11_writeRow_63
  · have hf := jbT hf hc
    refine lv_iconst (v := 0) hx hb dX11_writeRow_13 (by decide) ?_
    cases hf
    subst hQ
    exact rt_i hx hb hrt hlk rfl hK hP hD hS (Nat.le_of_ble_eq_true rfl) (Nat.le_of_ble_eq_true rfl) dX11_writeRow_14
def f_X11_outputAt (mv : MV) (a0 : Int32) : Option (Int32 × MV) :=
  (f_X11_isIn a0 0 ((mLined mv) - 1)).bind fun o1 =>
  (f_X11_goes mv o1).bind fun o3 =>
  if (o3.1) = 0 then
  (if vp_nar .char 0 = 0 then some (0, (o3.2)) else none)
  else
  (if jIn a0 60 then
  if vp_nar .char ((((mLine (o3.2)) a0.toNatClampNeg).toUInt32 % 65536).toInt32) = ((((mLine (o3.2)) a0.toNatClampNeg).toUInt32 % 65536).toInt32) then some (((((mLine (o3.2)) a0.toNatClampNeg).toUInt32 % 65536).toInt32), (o3.2)) else none
  else none)
def rm_X11_outputAt : Room := { frames := 2, cells := 0, slots := 0, locals := 45 }
theorem hd_X11_outputAt : yX11_outputAt.cls = RX11 ∧ yX11_outputAt.cls ≠ "java/lang/invoke/MethodHandle" ∧ yX11_outputAt.cls ≠ "java/lang/invoke/VarHandle" ∧ (parseMethodDescriptor yX11_outputAt.desc).map (fun d => d.parameters.length) = some 1 := by decide +kernel
set_option maxHeartbeats 4000000 in
set_option maxRecDepth 100000 in
theorem c_X11_outputAt (l : Launch) (g : GG) (hm : Nat → Nat) (mv : MV)  (a0 : Int32) (out : Int32 × MV) (hf : f_X11_outputAt mv a0 = some out) : MtI l yX11_outputAt wsX11_outputAt rm_X11_outputAt g (wM g hm mv) [.ref (hm 0), .int a0] (out.1) (wM g hm (out.2)) 0 0 := by
  refine fun sz => mt_of (cc := cX11_outputAt) (maxL := 2) (ret := (some .char)) (own := RX11) (Qc := fun A => va_Qi (fun r (_ : Unit) => r = (out.1)) (fun _ t => PosM g A (wM g hm (out.2)) t) A) (by decide +kernel) rfl rfl (Nat.le_of_ble_eq_true rfl) ?_ sz
  intro p e s mi below meth c A ls hB hnm hrt hlk hP hD hl
  obtain ⟨hx, hb, hml, hown, hts, hK, hZ, hT, hA, -⟩ := hB
  have hS : va_S A s.heap s.heap [] := va_S.rf
  have hl : lv_has ls 2 [(0, .ref (hm 0)), (1, .int a0)] := hl
  have hinX11 : ∀ w ∈ wsX110, w ∈ wsX11_outputAt := by decide +kernel
  have k0 := hts (.fieldLink RX11 201 "TerraceQuarryModel" "lined" "I") (by decide +kernel)
  have k1 := hts (.fieldLink RX11 35 "TerraceQuarryModel" "line" "[I") (by decide +kernel)
  generalize hQ : MQ below _ _ _ _ _ _ = Q
  unfold f_X11_outputAt at hf
  refine lv_aload_n hx hb dX11_outputAt_0 rfl (lv_at hl 0 rfl) ?_
  refine lv_iload_n hx hb dX11_outputAt_1 rfl (lv_at hl 1 rfl) ?_
  refine lv_iconst (v := 0) hx hb dX11_outputAt_2 (by decide) ?_
  refine lv_aload_n hx hb dX11_outputAt_3 rfl (lv_at hl 0 rfl) ?_
  refine va_get (D := gD g) (ci := 10) (v := .int (mLined mv)) (C := RX11) (T := TX11) (N := 19) hx hb hts hinX11 hown hK hP 0 rfl rfl 12 (by decide) k0 (fun _ h9 => h9) rfl dX11_outputAt_4 ?_
  refine lv_iconst (v := 1) hx hb dX11_outputAt_7 (by decide) ?_
  refine lv_isub hx hb dX11_outputAt_8 ?_
  obtain ⟨o1, g2, hf⟩ := jbB_e hf
  refine csn_i (As := [.int a0, .int 0, .int ((mLined mv) - 1)]) (rest := [.ref (hm 0)]) ⟨hx, hb, hml, hown, hts⟩ (c_X11_isIn l g a0 0 ((mLined mv) - 1) _ g2) (va_cwS 3 hts gX11_outputAt_X11_isIn rfl rfl rfl hd_X11_isIn ⟨Nat.le_of_ble_eq_true rfl, Nat.le_of_ble_eq_true rfl⟩) hK hZ hT hA hP hD hS hl.1 rfl rfl (Nat.le_of_ble_eq_true rfl) ⟨Nat.le_of_ble_eq_true rfl, Nat.le_of_ble_eq_true rfl⟩ dX11_outputAt_9 (fun H locs hP hD hS => ?_)
  obtain ⟨o3, g4, hf⟩ := jbB_e hf
  refine cva_i (As := [.int o1]) (rest := []) ⟨hx, hb, hml, hown, hts⟩ (c_X11_goes l g hm mv o1 _ g4) (cwV 1 hts gX11_outputAt_X11_goes rfl rfl rfl hd_X11_goes ⟨Nat.le_of_ble_eq_true rfl, Nat.le_of_ble_eq_true rfl⟩) hK hZ hT hA hP hD hS hl.1 (va_recv hK hP (ci := 10) (q0 := 0) rfl rfl) rfl rfl (Nat.le_of_ble_eq_true rfl) ⟨Nat.le_of_ble_eq_true rfl, Nat.le_of_ble_eq_true rfl⟩ dX11_outputAt_12 (fun H locs hP hD hS => ?_)
  refine lv_if_eq (tgt := 28) hx hb dX11_outputAt_15 (by decide) (fun hc => ?_) (fun hc => ?_)
  · have hf := jbT hf hc
    refine lv_iconst (v := 0) hx hb dX11_outputAt_28 (by decide) ?_
    obtain ⟨h5, hf⟩ := jbA_e hf
    cases hf
    subst hQ
    exact rt_i hx hb hrt hlk (nar_c h5) hK hP hD hS (Nat.le_of_ble_eq_true rfl) (Nat.le_of_ble_eq_true rfl) dX11_outputAt_29
  · have hf := jbF hf hc
    refine lv_aload_n hx hb dX11_outputAt_18 rfl (lv_at hl 0 rfl) ?_
    refine va_get (D := gD g) (ci := 10) (v := .ref (hm 7)) (C := RX11) (T := TX11) (N := 19) hx hb hts hinX11 hown hK hP 0 rfl rfl 11 (by decide) k1 (fun _ h9 => h9) rfl dX11_outputAt_19 ?_
    refine lv_iload_n hx hb dX11_outputAt_22 rfl (lv_at hl 1 rfl) ?_
    obtain ⟨h6, hf⟩ := jbA_e hf
    refine va_iald hx hb hK hP 7 0 rfl rfl h6 dX11_outputAt_23 ?_
    refine lv_i2c (v := (((mLine (o3.2)) a0.toNatClampNeg).toUInt32 % 65536).toInt32) hx hb dX11_outputAt_24 rfl ?_
    refine lv_goto (tgt := 29) hx hb dX11_outputAt_25 (by decide) ?_
    obtain ⟨h7, hf⟩ := jbA_e hf
    cases hf
    subst hQ
    exact rt_i hx hb hrt hlk (nar_c h7) hK hP hD hS (Nat.le_of_ble_eq_true rfl) (Nat.le_of_ble_eq_true rfl) dX11_outputAt_29
def f_X11_append_J15 (mv : MV) (x1 : Int32) (y0 : Int32) : Option (Int32 × MV) :=
  (f_X11_goes mv y0).bind fun o1 =>
  if (o1.1) = 0 then
  (some (0, (o1.2)))
  else
  (if jIn (mTyped (o1.2)) 60 then
  jbN (mSText (upd (mText (o1.2)) (mTyped (o1.2)).toNatClampNeg x1) (o1.2)) fun w4 =>
  jbN (mSTyped ((mTyped w4) + 1) w4) fun w5 =>
  some ((mTyped w5), w5)
  else none)
def f_X11_append (mv : MV) (a0 : Int32) : Option (Int32 × MV) :=
  if 60 ≤ (mTyped mv) then
  (f_X11_append_J15 mv a0 0)
  else
  (f_X11_append_J15 mv a0 1)
def rm_X11_append : Room := { frames := 2, cells := 0, slots := 0, locals := 45 }
theorem hd_X11_append : yX11_append.cls = RX11 ∧ yX11_append.cls ≠ "java/lang/invoke/MethodHandle" ∧ yX11_append.cls ≠ "java/lang/invoke/VarHandle" ∧ (parseMethodDescriptor yX11_append.desc).map (fun d => d.parameters.length) = some 1 := by decide +kernel
set_option maxHeartbeats 4000000 in
set_option maxRecDepth 100000 in
theorem c_X11_append (l : Launch) (g : GG) (hm : Nat → Nat) (mv : MV)  (a0 : Int32) (out : Int32 × MV) (hf : f_X11_append mv a0 = some out) : MtI l yX11_append wsX11_append rm_X11_append g (wM g hm mv) [.ref (hm 0), .int a0] (out.1) (wM g hm (out.2)) 0 0 := by
  refine fun sz => mt_of (cc := cX11_append) (maxL := 2) (ret := (some .int)) (own := RX11) (Qc := fun A => va_Qi (fun r (_ : Unit) => r = (out.1)) (fun _ t => PosM g A (wM g hm (out.2)) t) A) (by decide +kernel) rfl rfl (Nat.le_of_ble_eq_true rfl) ?_ sz
  intro p e s mi below meth c A ls hB hnm hrt hlk hP hD hl
  obtain ⟨hx, hb, hml, hown, hts, hK, hZ, hT, hA, -⟩ := hB
  have hS : va_S A s.heap s.heap [] := va_S.rf
  have hl : lv_has ls 2 [(0, .ref (hm 0)), (1, .int a0)] := hl
  have hinX11 : ∀ w ∈ wsX110, w ∈ wsX11_append := by decide +kernel
  have k0 := hts (.fieldLink RX11 204 "TerraceQuarryModel" "typed" "I") (by decide +kernel)
  have k1 := hts (.fieldLink RX11 32 "TerraceQuarryModel" "text" "[I") (by decide +kernel)
  generalize hQ : MQ below _ _ _ _ _ _ = Q
  unfold f_X11_append at hf
  have hJ15 : ∀ (mv : MV) (x1 : Int32) (y0 : Int32) (H : Heap) (locs : List Loc) (ls : Array Slot), f_X11_append_J15 mv x1 y0 = some out → va_P (gD g) vwCl (wM g hm mv) H → va_D A (wM g hm mv) → va_S A s.heap H locs → lv_has ls 2 [(0, .ref (hm 0)), (1, .int x1)] → W p l e rm_X11_append s mi [.ref (hm 0), .int a0].toArray below meth c H locs 0 0 Q (F0 mi 15 ls [.int y0, .ref (hm 0)]) := by
    intro mv x1 y0 H locs ls hf hP hD hS hl
    unfold f_X11_append_J15 at hf
    obtain ⟨o1, g2, hf⟩ := jbB_e hf
    refine cva_i (As := [.int y0]) (rest := []) ⟨hx, hb, hml, hown, hts⟩ (c_X11_goes l g hm mv y0 _ g2) (cwV 1 hts gX11_append_X11_goes rfl rfl rfl hd_X11_goes ⟨Nat.le_of_ble_eq_true rfl, Nat.le_of_ble_eq_true rfl⟩) hK hZ hT hA hP hD hS hl.1 (va_recv hK hP (ci := 10) (q0 := 0) rfl rfl) rfl rfl (Nat.le_of_ble_eq_true rfl) ⟨Nat.le_of_ble_eq_true rfl, Nat.le_of_ble_eq_true rfl⟩ dX11_append_15 (fun H locs hP hD hS => ?_)
    refine lv_if_ne (tgt := 23) hx hb dX11_append_18 (by decide) (fun hc => ?_) (fun hc => ?_)
    · have hf := jbF hf hc
      refine lv_aload_n hx hb dX11_append_23 rfl (lv_at hl 0 rfl) ?_
      refine va_get (D := gD g) (ci := 10) (v := .ref (hm 6)) (C := RX11) (T := TX11) (N := 19) hx hb hts hinX11 hown hK hP 0 rfl rfl 9 (by decide) k1 (fun _ h9 => h9) rfl dX11_append_24 ?_
      refine lv_aload_n hx hb dX11_append_27 rfl (lv_at hl 0 rfl) ?_
      refine va_get (D := gD g) (ci := 10) (v := .int (mTyped (o1.2))) (C := RX11) (T := TX11) (N := 19) hx hb hts hinX11 hown hK hP 0 rfl rfl 10 (by decide) k0 (fun _ h9 => h9) rfl dX11_append_28 ?_
      refine lv_iload_n hx hb dX11_append_31 rfl (lv_at hl 1 rfl) ?_
      obtain ⟨h3, hf⟩ := jbA_e hf
      refine va_iast hx hb hK hP hD hS 6 0 rfl rfl h3 dX11_append_32 (fun H locs hP hD hS => ?_)
      obtain ⟨w4, ew4⟩ : ∃ y, y = (mSText (upd (mText (o1.2)) (mTyped (o1.2)).toNatClampNeg x1) (o1.2)) := ⟨_, rfl⟩
      have hf := jbN_e hf ew4
      have hP : va_P (gD g) vwCl (wM g hm w4) H := by rw [ew4]; exact hP
      have hD : va_D A (wM g hm w4) := by rw [ew4]; exact hD
      refine lv_aload_n hx hb dX11_append_33 rfl (lv_at hl 0 rfl) ?_
      refine lv_dup hx hb dX11_append_34 rfl ?_
      refine va_get (D := gD g) (ci := 10) (v := .int (mTyped w4)) (C := RX11) (T := TX11) (N := 19) hx hb hts hinX11 hown hK hP 0 rfl rfl 10 (by decide) k0 (fun _ h9 => h9) rfl dX11_append_35 ?_
      refine lv_iconst (v := 1) hx hb dX11_append_38 (by decide) ?_
      refine lv_iadd hx hb dX11_append_39 ?_
      refine va_put (D := gD g) (ci := 10) (v := .int ((mTyped w4) + 1)) (ty := .int) (C := RX11) (T := TX11) (N := 19) hx hb hts hinX11 tyX11 tyX11_ok nmX11 hown hK hP hD hS 0 rfl rfl 10 (by decide) k0 (fun _ h9 => h9) rfl (tyX11_ok 10 (by decide)) rfl rfl (Nat.le_of_ble_eq_true rfl) dX11_append_40 (fun H locs hP hD hS => ?_)
      obtain ⟨w5, ew5⟩ : ∃ y, y = (mSTyped ((mTyped w4) + 1) w4) := ⟨_, rfl⟩
      have hf := jbN_e hf ew5
      have hP : va_P (gD g) vwCl (wM g hm w5) H := by rw [ew5]; exact hP
      have hD : va_D A (wM g hm w5) := by rw [ew5]; exact hD
      refine lv_aload_n hx hb dX11_append_43 rfl (lv_at hl 0 rfl) ?_
      refine va_get (D := gD g) (ci := 10) (v := .int (mTyped w5)) (C := RX11) (T := TX11) (N := 19) hx hb hts hinX11 hown hK hP 0 rfl rfl 10 (by decide) k0 (fun _ h9 => h9) rfl dX11_append_44 ?_
      cases hf
      subst hQ
      exact rt_i hx hb hrt hlk rfl hK hP hD hS (Nat.le_of_ble_eq_true rfl) (Nat.le_of_ble_eq_true rfl) dX11_append_47
    · have hf := jbT hf hc
      refine lv_iconst (v := 0) hx hb dX11_append_21 (by decide) ?_
      cases hf
      subst hQ
      exact rt_i hx hb hrt hlk rfl hK hP hD hS (Nat.le_of_ble_eq_true rfl) (Nat.le_of_ble_eq_true rfl) dX11_append_22
  refine lv_aload_n hx hb dX11_append_0 rfl (lv_at hl 0 rfl) ?_
  refine lv_aload_n hx hb dX11_append_1 rfl (lv_at hl 0 rfl) ?_
  refine va_get (D := gD g) (ci := 10) (v := .int (mTyped mv)) (C := RX11) (T := TX11) (N := 19) hx hb hts hinX11 hown hK hP 0 rfl rfl 10 (by decide) k0 (fun _ h9 => h9) rfl dX11_append_2 ?_
  refine lv_bipush (v := 60) hx hb dX11_append_5 (by decide) ?_
  refine lv_icmp_ge (tgt := 14) hx hb dX11_append_7 (by decide) (fun hc => ?_) (fun hc => ?_)
  · have hf := jbT hf hc
    refine lv_iconst (v := 0) hx hb dX11_append_14 (by decide) ?_
    exact hJ15 mv a0 0 _ _ _ hf hP hD hS (lv_sub hl [0, 1] rfl)
  · have hf := jbF hf hc
    refine lv_iconst (v := 1) hx hb dX11_append_10 (by decide) ?_
    refine lv_goto (tgt := 15) hx hb dX11_append_11 (by decide) ?_
    exact hJ15 mv a0 1 _ _ _ hf hP hD hS (lv_sub hl [0, 1] rfl)
def f_X11_letterHere (mv : MV) : Option Int32 :=
  if (mSize mv) ≤ (mSpot mv) then
  (some (-1))
  else
  (if jIn (mSpot mv) 60 then
  some ((mText mv) (mSpot mv).toNatClampNeg)
  else none)
def rm_X11_letterHere : Room := { frames := 0, cells := 0, slots := 0, locals := 0 }
theorem hd_X11_letterHere : yX11_letterHere.cls = RX11 ∧ yX11_letterHere.cls ≠ "java/lang/invoke/MethodHandle" ∧ yX11_letterHere.cls ≠ "java/lang/invoke/VarHandle" ∧ (parseMethodDescriptor yX11_letterHere.desc).map (fun d => d.parameters.length) = some 0 := by decide +kernel
set_option maxHeartbeats 4000000 in
set_option maxRecDepth 100000 in
theorem c_X11_letterHere (l : Launch) (g : GG) (hm : Nat → Nat) (mv : MV)   (out : Int32) (hf : f_X11_letterHere mv = some out) : MtI l yX11_letterHere wsX11_letterHere rm_X11_letterHere g (wM g hm mv) [.ref (hm 0)] out (wM g hm mv) 0 0 := by
  refine fun sz => mt_of (cc := cX11_letterHere) (maxL := 1) (ret := (some .int)) (own := RX11) (Qc := fun A => va_Qi (fun r (_ : Unit) => r = out) (fun _ t => PosM g A (wM g hm mv) t) A) (by decide +kernel) rfl rfl (Nat.le_of_ble_eq_true rfl) ?_ sz
  intro p e s mi below meth c A ls hB hnm hrt hlk hP hD hl
  obtain ⟨hx, hb, hml, hown, hts, hK, hZ, hT, hA, -⟩ := hB
  have hS : va_S A s.heap s.heap [] := va_S.rf
  have hl : lv_has ls 1 [(0, .ref (hm 0))] := hl
  have hinX11 : ∀ w ∈ wsX110, w ∈ wsX11_letterHere := by decide +kernel
  have k0 := hts (.fieldLink RX11 207 "TerraceQuarryModel" "spot" "I") (by decide +kernel)
  have k1 := hts (.fieldLink RX11 210 "TerraceQuarryModel" "size" "I") (by decide +kernel)
  have k2 := hts (.fieldLink RX11 32 "TerraceQuarryModel" "text" "[I") (by decide +kernel)
  generalize hQ : MQ below _ _ _ _ _ _ = Q
  unfold f_X11_letterHere at hf
  refine lv_aload_n hx hb dX11_letterHere_0 rfl (lv_at hl 0 rfl) ?_
  refine va_get (D := gD g) (ci := 10) (v := .int (mSpot mv)) (C := RX11) (T := TX11) (N := 19) hx hb hts hinX11 hown hK hP 0 rfl rfl 15 (by decide) k0 (fun _ h9 => h9) rfl dX11_letterHere_1 ?_
  refine lv_aload_n hx hb dX11_letterHere_4 rfl (lv_at hl 0 rfl) ?_
  refine va_get (D := gD g) (ci := 10) (v := .int (mSize mv)) (C := RX11) (T := TX11) (N := 19) hx hb hts hinX11 hown hK hP 0 rfl rfl 14 (by decide) k1 (fun _ h9 => h9) rfl dX11_letterHere_5 ?_
  refine lv_icmp_ge (tgt := 23) hx hb dX11_letterHere_8 (by decide) (fun hc => ?_) (fun hc => ?_)
  · have hf := jbT hf hc
    refine lv_iconst (v := (-1)) hx hb dX11_letterHere_23 (by decide) ?_
    cases hf
    subst hQ
    exact rt_i hx hb hrt hlk rfl hK hP hD hS (Nat.le_of_ble_eq_true rfl) (Nat.le_of_ble_eq_true rfl) dX11_letterHere_24
  · have hf := jbF hf hc
    refine lv_aload_n hx hb dX11_letterHere_11 rfl (lv_at hl 0 rfl) ?_
    refine va_get (D := gD g) (ci := 10) (v := .ref (hm 6)) (C := RX11) (T := TX11) (N := 19) hx hb hts hinX11 hown hK hP 0 rfl rfl 9 (by decide) k2 (fun _ h9 => h9) rfl dX11_letterHere_12 ?_
    refine lv_aload_n hx hb dX11_letterHere_15 rfl (lv_at hl 0 rfl) ?_
    refine va_get (D := gD g) (ci := 10) (v := .int (mSpot mv)) (C := RX11) (T := TX11) (N := 19) hx hb hts hinX11 hown hK hP 0 rfl rfl 15 (by decide) k0 (fun _ h9 => h9) rfl dX11_letterHere_16 ?_
    obtain ⟨h1, hf⟩ := jbA_e hf
    refine va_iald hx hb hK hP 6 0 rfl rfl h1 dX11_letterHere_19 ?_
    refine lv_goto (tgt := 24) hx hb dX11_letterHere_20 (by decide) ?_
    cases hf
    subst hQ
    exact rt_i hx hb hrt hlk rfl hK hP hD hS (Nat.le_of_ble_eq_true rfl) (Nat.le_of_ble_eq_true rfl) dX11_letterHere_24
def f_X11_reads_J64 (mv : MV) (y0 : Int32) : Option (Int32 × MV) :=
  jbN (mSWrong y0 mv) fun w7 =>
  some (0, w7)
def f_X11_reads_J44 (mv : MV) : Option (Int32 × MV) :=
  if (mWrong mv) = (-1) then
  (f_X11_reads_J64 mv (mSpot mv))
  else
  (f_X11_reads_J64 mv (mWrong mv))
def f_X11_reads (mv : MV) (a0 : Int32) (a1 : Int32) : Option (Int32 × MV) :=
  if (mWrong mv) = (-1) then
  ((f_X11_letterHere mv).bind fun o1 =>
  (f_X11_isIn o1 a0 a1).bind fun o3 =>
  if o3 = 0 then
  (f_X11_reads_J44 mv)
  else
  (jbN (mSSpot ((mSpot mv) + 1) mv) fun w5 =>
  if jIn ((mSpot w5) - 1) 60 then
  some ((((mText w5) ((mSpot w5) - 1).toNatClampNeg) - a0), w5)
  else none))
  else
  (f_X11_reads_J44 mv)
def rm_X11_reads : Room := { frames := 1, cells := 0, slots := 0, locals := 22 }
theorem hd_X11_reads : yX11_reads.cls = RX11 ∧ yX11_reads.cls ≠ "java/lang/invoke/MethodHandle" ∧ yX11_reads.cls ≠ "java/lang/invoke/VarHandle" ∧ (parseMethodDescriptor yX11_reads.desc).map (fun d => d.parameters.length) = some 2 := by decide +kernel
set_option maxHeartbeats 4000000 in
set_option maxRecDepth 100000 in
theorem c_X11_reads (l : Launch) (g : GG) (hm : Nat → Nat) (mv : MV)  (a0 : Int32) (a1 : Int32) (out : Int32 × MV) (hf : f_X11_reads mv a0 a1 = some out) : MtI l yX11_reads wsX11_reads rm_X11_reads g (wM g hm mv) [.ref (hm 0), .int a0, .int a1] (out.1) (wM g hm (out.2)) 0 0 := by
  refine fun sz => mt_of (cc := cX11_reads) (maxL := 3) (ret := (some .int)) (own := RX11) (Qc := fun A => va_Qi (fun r (_ : Unit) => r = (out.1)) (fun _ t => PosM g A (wM g hm (out.2)) t) A) (by decide +kernel) rfl rfl (Nat.le_of_ble_eq_true rfl) ?_ sz
  intro p e s mi below meth c A ls hB hnm hrt hlk hP hD hl
  obtain ⟨hx, hb, hml, hown, hts, hK, hZ, hT, hA, -⟩ := hB
  have hS : va_S A s.heap s.heap [] := va_S.rf
  have hl : lv_has ls 3 [(0, .ref (hm 0)), (1, .int a0), (2, .int a1)] := hl
  have hinX11 : ∀ w ∈ wsX110, w ∈ wsX11_reads := by decide +kernel
  have k0 := hts (.fieldLink RX11 213 "TerraceQuarryModel" "wrong" "I") (by decide +kernel)
  have k1 := hts (.fieldLink RX11 207 "TerraceQuarryModel" "spot" "I") (by decide +kernel)
  have k2 := hts (.fieldLink RX11 32 "TerraceQuarryModel" "text" "[I") (by decide +kernel)
  generalize hQ : MQ below _ _ _ _ _ _ = Q
  unfold f_X11_reads at hf
  have hJ64 : ∀ (mv : MV) (y0 : Int32) (H : Heap) (locs : List Loc) (ls : Array Slot), f_X11_reads_J64 mv y0 = some out → va_P (gD g) vwCl (wM g hm mv) H → va_D A (wM g hm mv) → va_S A s.heap H locs → lv_has ls 3 [] → W p l e rm_X11_reads s mi [.ref (hm 0), .int a0, .int a1].toArray below meth c H locs 0 0 Q (F0 mi 64 ls [.int y0, .ref (hm 0)]) := by
    intro mv y0 H locs ls hf hP hD hS hl
    unfold f_X11_reads_J64 at hf
    refine va_put (D := gD g) (ci := 10) (v := .int y0) (ty := .int) (C := RX11) (T := TX11) (N := 19) hx hb hts hinX11 tyX11 tyX11_ok nmX11 hown hK hP hD hS 0 rfl rfl 16 (by decide) k0 (fun _ h9 => h9) rfl (tyX11_ok 16 (by decide)) rfl rfl (Nat.le_of_ble_eq_true rfl) dX11_reads_64 (fun H locs hP hD hS => ?_)
    obtain ⟨w7, ew7⟩ : ∃ y, y = (mSWrong y0 mv) := ⟨_, rfl⟩
    have hf := jbN_e hf ew7
    have hP : va_P (gD g) vwCl (wM g hm w7) H := by rw [ew7]; exact hP
    have hD : va_D A (wM g hm w7) := by rw [ew7]; exact hD
    refine lv_iconst (v := 0) hx hb dX11_reads_67 (by decide) ?_
    cases hf
    subst hQ
    exact rt_i hx hb hrt hlk rfl hK hP hD hS (Nat.le_of_ble_eq_true rfl) (Nat.le_of_ble_eq_true rfl) dX11_reads_68
  have hJ44 : ∀ (mv : MV) (H : Heap) (locs : List Loc) (ls : Array Slot), f_X11_reads_J44 mv = some out → va_P (gD g) vwCl (wM g hm mv) H → va_D A (wM g hm mv) → va_S A s.heap H locs → lv_has ls 3 [(0, .ref (hm 0))] → W p l e rm_X11_reads s mi [.ref (hm 0), .int a0, .int a1].toArray below meth c H locs 0 0 Q (F0 mi 44 ls []) := by
    intro mv H locs ls hf hP hD hS hl
    unfold f_X11_reads_J44 at hf
    refine lv_aload_n hx hb dX11_reads_44 rfl (lv_at hl 0 rfl) ?_
    refine lv_aload_n hx hb dX11_reads_45 rfl (lv_at hl 0 rfl) ?_
    refine va_get (D := gD g) (ci := 10) (v := .int (mWrong mv)) (C := RX11) (T := TX11) (N := 19) hx hb hts hinX11 hown hK hP 0 rfl rfl 16 (by decide) k0 (fun _ h9 => h9) rfl dX11_reads_46 ?_
    refine lv_iconst (v := (-1)) hx hb dX11_reads_49 (by decide) ?_
    refine lv_icmp_ne (tgt := 60) hx hb dX11_reads_50 (by decide) (fun hc => ?_) (fun hc => ?_)
    · have hf := jbF hf hc
      refine lv_aload_n hx hb dX11_reads_60 rfl (lv_at hl 0 rfl) ?_
      refine va_get (D := gD g) (ci := 10) (v := .int (mWrong mv)) (C := RX11) (T := TX11) (N := 19) hx hb hts hinX11 hown hK hP 0 rfl rfl 16 (by decide) k0 (fun _ h9 => h9) rfl dX11_reads_61 ?_
      exact hJ64 mv (mWrong mv) _ _ _ hf hP hD hS (lv_sub hl [] rfl)
    · have hf := jbT hf hc
      refine lv_aload_n hx hb dX11_reads_53 rfl (lv_at hl 0 rfl) ?_
      refine va_get (D := gD g) (ci := 10) (v := .int (mSpot mv)) (C := RX11) (T := TX11) (N := 19) hx hb hts hinX11 hown hK hP 0 rfl rfl 15 (by decide) k1 (fun _ h9 => h9) rfl dX11_reads_54 ?_
      refine lv_goto (tgt := 64) hx hb dX11_reads_57 (by decide) ?_
      exact hJ64 mv (mSpot mv) _ _ _ hf hP hD hS (lv_sub hl [] rfl)
  refine lv_aload_n hx hb dX11_reads_0 rfl (lv_at hl 0 rfl) ?_
  refine va_get (D := gD g) (ci := 10) (v := .int (mWrong mv)) (C := RX11) (T := TX11) (N := 19) hx hb hts hinX11 hown hK hP 0 rfl rfl 16 (by decide) k0 (fun _ h9 => h9) rfl dX11_reads_1 ?_
  refine lv_iconst (v := (-1)) hx hb dX11_reads_4 (by decide) ?_
  refine lv_icmp_ne (tgt := 44) hx hb dX11_reads_5 (by decide) (fun hc => ?_) (fun hc => ?_)
  · have hf := jbF hf hc
    exact hJ44 mv _ _ _ hf hP hD hS (lv_sub hl [0] rfl)
  · have hf := jbT hf hc
    refine lv_aload_n hx hb dX11_reads_8 rfl (lv_at hl 0 rfl) ?_
    obtain ⟨o1, g2, hf⟩ := jbB_e hf
    refine cva_i (As := []) (rest := []) ⟨hx, hb, hml, hown, hts⟩ (c_X11_letterHere l g hm mv _ g2) (cwV 0 hts gX11_reads_X11_letterHere rfl rfl rfl hd_X11_letterHere ⟨Nat.le_of_ble_eq_true rfl, Nat.le_of_ble_eq_true rfl⟩) hK hZ hT hA hP hD hS hl.1 (va_recv hK hP (ci := 10) (q0 := 0) rfl rfl) rfl rfl (Nat.le_of_ble_eq_true rfl) ⟨Nat.le_of_ble_eq_true rfl, Nat.le_of_ble_eq_true rfl⟩ dX11_reads_9 (fun H locs hP hD hS => ?_)
    refine lv_iload_n hx hb dX11_reads_12 rfl (lv_at hl 1 rfl) ?_
    refine lv_iload_n hx hb dX11_reads_13 rfl (lv_at hl 2 rfl) ?_
    obtain ⟨o3, g4, hf⟩ := jbB_e hf
    refine csn_i (As := [.int o1, .int a0, .int a1]) (rest := []) ⟨hx, hb, hml, hown, hts⟩ (c_X11_isIn l g o1 a0 a1 _ g4) (va_cwS 3 hts gX11_reads_X11_isIn rfl rfl rfl hd_X11_isIn ⟨Nat.le_of_ble_eq_true rfl, Nat.le_of_ble_eq_true rfl⟩) hK hZ hT hA hP hD hS hl.1 rfl rfl (Nat.le_of_ble_eq_true rfl) ⟨Nat.le_of_ble_eq_true rfl, Nat.le_of_ble_eq_true rfl⟩ dX11_reads_14 (fun H locs hP hD hS => ?_)
    refine lv_if_eq (tgt := 44) hx hb dX11_reads_17 (by decide) (fun hc => ?_) (fun hc => ?_)
    · have hf := jbT hf hc
      exact hJ44 mv _ _ _ hf hP hD hS (lv_sub hl [0] rfl)
    · have hf := jbF hf hc
      refine lv_aload_n hx hb dX11_reads_20 rfl (lv_at hl 0 rfl) ?_
      refine lv_dup hx hb dX11_reads_21 rfl ?_
      refine va_get (D := gD g) (ci := 10) (v := .int (mSpot mv)) (C := RX11) (T := TX11) (N := 19) hx hb hts hinX11 hown hK hP 0 rfl rfl 15 (by decide) k1 (fun _ h9 => h9) rfl dX11_reads_22 ?_
      refine lv_iconst (v := 1) hx hb dX11_reads_25 (by decide) ?_
      refine lv_iadd hx hb dX11_reads_26 ?_
      refine va_put (D := gD g) (ci := 10) (v := .int ((mSpot mv) + 1)) (ty := .int) (C := RX11) (T := TX11) (N := 19) hx hb hts hinX11 tyX11 tyX11_ok nmX11 hown hK hP hD hS 0 rfl rfl 15 (by decide) k1 (fun _ h9 => h9) rfl (tyX11_ok 15 (by decide)) rfl rfl (Nat.le_of_ble_eq_true rfl) dX11_reads_27 (fun H locs hP hD hS => ?_)
      obtain ⟨w5, ew5⟩ : ∃ y, y = (mSSpot ((mSpot mv) + 1) mv) := ⟨_, rfl⟩
      have hf := jbN_e hf ew5
      have hP : va_P (gD g) vwCl (wM g hm w5) H := by rw [ew5]; exact hP
      have hD : va_D A (wM g hm w5) := by rw [ew5]; exact hD
      refine lv_aload_n hx hb dX11_reads_30 rfl (lv_at hl 0 rfl) ?_
      refine va_get (D := gD g) (ci := 10) (v := .ref (hm 6)) (C := RX11) (T := TX11) (N := 19) hx hb hts hinX11 hown hK hP 0 rfl rfl 9 (by decide) k2 (fun _ h9 => h9) rfl dX11_reads_31 ?_
      refine lv_aload_n hx hb dX11_reads_34 rfl (lv_at hl 0 rfl) ?_
      refine va_get (D := gD g) (ci := 10) (v := .int (mSpot w5)) (C := RX11) (T := TX11) (N := 19) hx hb hts hinX11 hown hK hP 0 rfl rfl 15 (by decide) k1 (fun _ h9 => h9) rfl dX11_reads_35 ?_
      refine lv_iconst (v := 1) hx hb dX11_reads_38 (by decide) ?_
      refine lv_isub hx hb dX11_reads_39 ?_
      obtain ⟨h6, hf⟩ := jbA_e hf
      refine va_iald hx hb hK hP 6 0 rfl rfl h6 dX11_reads_40 ?_
      refine lv_iload_n hx hb dX11_reads_41 rfl (lv_at hl 1 rfl) ?_
      refine lv_isub hx hb dX11_reads_42 ?_
      cases hf
      subst hQ
      exact rt_i hx hb hrt hlk rfl hK hP hD hS (Nat.le_of_ble_eq_true rfl) (Nat.le_of_ble_eq_true rfl) dX11_reads_43
def f_X11_digit (mv : MV) : Option (Int32 × MV) :=
  (f_X11_reads mv 48 57).bind fun o1 =>
  some ((o1.1), (o1.2))
def rm_X11_digit : Room := { frames := 2, cells := 0, slots := 0, locals := 44 }
theorem hd_X11_digit : yX11_digit.cls = RX11 ∧ yX11_digit.cls ≠ "java/lang/invoke/MethodHandle" ∧ yX11_digit.cls ≠ "java/lang/invoke/VarHandle" ∧ (parseMethodDescriptor yX11_digit.desc).map (fun d => d.parameters.length) = some 0 := by decide +kernel
set_option maxHeartbeats 4000000 in
set_option maxRecDepth 100000 in
theorem c_X11_digit (l : Launch) (g : GG) (hm : Nat → Nat) (mv : MV)   (out : Int32 × MV) (hf : f_X11_digit mv = some out) : MtI l yX11_digit wsX11_digit rm_X11_digit g (wM g hm mv) [.ref (hm 0)] (out.1) (wM g hm (out.2)) 0 0 := by
  refine fun sz => mt_of (cc := cX11_digit) (maxL := 1) (ret := (some .int)) (own := RX11) (Qc := fun A => va_Qi (fun r (_ : Unit) => r = (out.1)) (fun _ t => PosM g A (wM g hm (out.2)) t) A) (by decide +kernel) rfl rfl (Nat.le_of_ble_eq_true rfl) ?_ sz
  intro p e s mi below meth c A ls hB hnm hrt hlk hP hD hl
  obtain ⟨hx, hb, hml, hown, hts, hK, hZ, hT, hA, -⟩ := hB
  have hS : va_S A s.heap s.heap [] := va_S.rf
  have hl : lv_has ls 1 [(0, .ref (hm 0))] := hl
  generalize hQ : MQ below _ _ _ _ _ _ = Q
  unfold f_X11_digit at hf
  refine lv_aload_n hx hb dX11_digit_0 rfl (lv_at hl 0 rfl) ?_
  refine lv_bipush (v := 48) hx hb dX11_digit_1 (by decide) ?_
  refine lv_bipush (v := 57) hx hb dX11_digit_3 (by decide) ?_
  obtain ⟨o1, g2, hf⟩ := jbB_e hf
  refine cva_i (As := [.int 48, .int 57]) (rest := []) ⟨hx, hb, hml, hown, hts⟩ (c_X11_reads l g hm mv 48 57 _ g2) (cwV 2 hts gX11_digit_X11_reads rfl rfl rfl hd_X11_reads ⟨Nat.le_of_ble_eq_true rfl, Nat.le_of_ble_eq_true rfl⟩) hK hZ hT hA hP hD hS hl.1 (va_recv hK hP (ci := 10) (q0 := 0) rfl rfl) rfl rfl (Nat.le_of_ble_eq_true rfl) ⟨Nat.le_of_ble_eq_true rfl, Nat.le_of_ble_eq_true rfl⟩ dX11_digit_5 (fun H locs hP hD hS => ?_)
  cases hf
  subst hQ
  exact rt_i hx hb hrt hlk rfl hK hP hD hS (Nat.le_of_ble_eq_true rfl) (Nat.le_of_ble_eq_true rfl) dX11_digit_8
def f_X11_number (mv : MV) : Option (Int32 × MV) :=
  (f_X11_digit mv).bind fun o1 =>
  jbN (o1.1) fun z3 =>
  if (mWrong (o1.2)) = (-1) then
  ((f_X11_letterHere (o1.2)).bind fun o4 =>
  (f_X11_isIn o4 48 57).bind fun o6 =>
  if o6 = 0 then
  (some (z3, (o1.2)))
  else
  ((f_X11_digit (o1.2)).bind fun o8 =>
  some (((10 * z3) + (o8.1)), (o8.2))))
  else
  (some (z3, (o1.2)))
def rm_X11_number : Room := { frames := 3, cells := 0, slots := 0, locals := 64 }
theorem hd_X11_number : yX11_number.cls = RX11 ∧ yX11_number.cls ≠ "java/lang/invoke/MethodHandle" ∧ yX11_number.cls ≠ "java/lang/invoke/VarHandle" ∧ (parseMethodDescriptor yX11_number.desc).map (fun d => d.parameters.length) = some 0 := by decide +kernel
set_option maxHeartbeats 4000000 in
set_option maxRecDepth 100000 in
theorem c_X11_number (l : Launch) (g : GG) (hm : Nat → Nat) (mv : MV)   (out : Int32 × MV) (hf : f_X11_number mv = some out) : MtI l yX11_number wsX11_number rm_X11_number g (wM g hm mv) [.ref (hm 0)] (out.1) (wM g hm (out.2)) 0 0 := by
  refine fun sz => mt_of (cc := cX11_number) (maxL := 2) (ret := (some .int)) (own := RX11) (Qc := fun A => va_Qi (fun r (_ : Unit) => r = (out.1)) (fun _ t => PosM g A (wM g hm (out.2)) t) A) (by decide +kernel) rfl rfl (Nat.le_of_ble_eq_true rfl) ?_ sz
  intro p e s mi below meth c A ls hB hnm hrt hlk hP hD hl
  obtain ⟨hx, hb, hml, hown, hts, hK, hZ, hT, hA, -⟩ := hB
  have hS : va_S A s.heap s.heap [] := va_S.rf
  have hl : lv_has ls 2 [(0, .ref (hm 0))] := hl
  have hinX11 : ∀ w ∈ wsX110, w ∈ wsX11_number := by decide +kernel
  have k0 := hts (.fieldLink RX11 213 "TerraceQuarryModel" "wrong" "I") (by decide +kernel)
  generalize hQ : MQ below _ _ _ _ _ _ = Q
  unfold f_X11_number at hf
  refine lv_aload_n hx hb dX11_number_0 rfl (lv_at hl 0 rfl) ?_
  obtain ⟨o1, g2, hf⟩ := jbB_e hf
  refine cva_i (As := []) (rest := []) ⟨hx, hb, hml, hown, hts⟩ (c_X11_digit l g hm mv _ g2) (cwV 0 hts gX11_number_X11_digit rfl rfl rfl hd_X11_digit ⟨Nat.le_of_ble_eq_true rfl, Nat.le_of_ble_eq_true rfl⟩) hK hZ hT hA hP hD hS hl.1 (va_recv hK hP (ci := 10) (q0 := 0) rfl rfl) rfl rfl (Nat.le_of_ble_eq_true rfl) ⟨Nat.le_of_ble_eq_true rfl, Nat.le_of_ble_eq_true rfl⟩ dX11_number_1 (fun H locs hP hD hS => ?_)
  refine lv_topi (fun z3 ez3 => ?_)
  have hf := jbN_e hf ez3
  refine lv_istore_n (lv' := [(1, .int z3), (0, .ref (hm 0))]) hx hb dX11_number_4 rfl hl (by decide) rfl (fun ls hl => ?_)
  refine lv_aload_n hx hb dX11_number_5 rfl (lv_at hl 1 rfl) ?_
  refine va_get (D := gD g) (ci := 10) (v := .int (mWrong (o1.2))) (C := RX11) (T := TX11) (N := 19) hx hb hts hinX11 hown hK hP 0 rfl rfl 16 (by decide) k0 (fun _ h9 => h9) rfl dX11_number_6 ?_
  refine lv_iconst (v := (-1)) hx hb dX11_number_9 (by decide) ?_
  refine lv_icmp_ne (tgt := 39) hx hb dX11_number_10 (by decide) (fun hc => ?_) (fun hc => ?_)
  · have hf := jbF hf hc
    refine lv_iload_n hx hb dX11_number_39 rfl (lv_at hl 0 rfl) ?_
    cases hf
    subst hQ
    exact rt_i hx hb hrt hlk rfl hK hP hD hS (Nat.le_of_ble_eq_true rfl) (Nat.le_of_ble_eq_true rfl) dX11_number_40
  · have hf := jbT hf hc
    refine lv_aload_n hx hb dX11_number_13 rfl (lv_at hl 1 rfl) ?_
    obtain ⟨o4, g5, hf⟩ := jbB_e hf
    refine cva_i (As := []) (rest := []) ⟨hx, hb, hml, hown, hts⟩ (c_X11_letterHere l g hm (o1.2) _ g5) (cwV 0 hts gX11_number_X11_letterHere rfl rfl rfl hd_X11_letterHere ⟨Nat.le_of_ble_eq_true rfl, Nat.le_of_ble_eq_true rfl⟩) hK hZ hT hA hP hD hS hl.1 (va_recv hK hP (ci := 10) (q0 := 0) rfl rfl) rfl rfl (Nat.le_of_ble_eq_true rfl) ⟨Nat.le_of_ble_eq_true rfl, Nat.le_of_ble_eq_true rfl⟩ dX11_number_14 (fun H locs hP hD hS => ?_)
    refine lv_bipush (v := 48) hx hb dX11_number_17 (by decide) ?_
    refine lv_bipush (v := 57) hx hb dX11_number_19 (by decide) ?_
    obtain ⟨o6, g7, hf⟩ := jbB_e hf
    refine csn_i (As := [.int o4, .int 48, .int 57]) (rest := []) ⟨hx, hb, hml, hown, hts⟩ (c_X11_isIn l g o4 48 57 _ g7) (va_cwS 3 hts gX11_number_X11_isIn rfl rfl rfl hd_X11_isIn ⟨Nat.le_of_ble_eq_true rfl, Nat.le_of_ble_eq_true rfl⟩) hK hZ hT hA hP hD hS hl.1 rfl rfl (Nat.le_of_ble_eq_true rfl) ⟨Nat.le_of_ble_eq_true rfl, Nat.le_of_ble_eq_true rfl⟩ dX11_number_21 (fun H locs hP hD hS => ?_)
    refine lv_if_eq (tgt := 39) hx hb dX11_number_24 (by decide) (fun hc => ?_) (fun hc => ?_)
    · have hf := jbT hf hc
      refine lv_iload_n hx hb dX11_number_39 rfl (lv_at hl 0 rfl) ?_
      cases hf
      subst hQ
      exact rt_i hx hb hrt hlk rfl hK hP hD hS (Nat.le_of_ble_eq_true rfl) (Nat.le_of_ble_eq_true rfl) dX11_number_40
    · have hf := jbF hf hc
      refine lv_bipush (v := 10) hx hb dX11_number_27 (by decide) ?_
      refine lv_iload_n hx hb dX11_number_29 rfl (lv_at hl 0 rfl) ?_
      refine lv_imul hx hb dX11_number_30 ?_
      refine lv_aload_n hx hb dX11_number_31 rfl (lv_at hl 1 rfl) ?_
      obtain ⟨o8, g9, hf⟩ := jbB_e hf
      refine cva_i (As := []) (rest := [.int (10 * z3)]) ⟨hx, hb, hml, hown, hts⟩ (c_X11_digit l g hm (o1.2) _ g9) (cwV 0 hts gX11_number_X11_digit rfl rfl rfl hd_X11_digit ⟨Nat.le_of_ble_eq_true rfl, Nat.le_of_ble_eq_true rfl⟩) hK hZ hT hA hP hD hS hl.1 (va_recv hK hP (ci := 10) (q0 := 0) rfl rfl) rfl rfl (Nat.le_of_ble_eq_true rfl) ⟨Nat.le_of_ble_eq_true rfl, Nat.le_of_ble_eq_true rfl⟩ dX11_number_32 (fun H locs hP hD hS => ?_)
      refine lv_iadd hx hb dX11_number_35 ?_
      refine lv_goto (tgt := 40) hx hb dX11_number_36 (by decide) ?_
      cases hf
      subst hQ
      exact rt_i hx hb hrt hlk rfl hK hP hD hS (Nat.le_of_ble_eq_true rfl) (Nat.le_of_ble_eq_true rfl) dX11_number_40
def f_X11_digitBehindBlank (mv : MV) : Option (Int32 × MV) :=
  (f_X11_reads mv 32 32).bind fun o1 =>
  jbN (o1.1) fun z3 =>
  (f_X11_digit (o1.2)).bind fun o4 =>
  some ((o4.1), (o4.2))
def rm_X11_digitBehindBlank : Room := { frames := 3, cells := 0, slots := 0, locals := 64 }
theorem hd_X11_digitBehindBlank : yX11_digitBehindBlank.cls = RX11 ∧ yX11_digitBehindBlank.cls ≠ "java/lang/invoke/MethodHandle" ∧ yX11_digitBehindBlank.cls ≠ "java/lang/invoke/VarHandle" ∧ (parseMethodDescriptor yX11_digitBehindBlank.desc).map (fun d => d.parameters.length) = some 0 := by decide +kernel
set_option maxHeartbeats 4000000 in
set_option maxRecDepth 100000 in
theorem c_X11_digitBehindBlank (l : Launch) (g : GG) (hm : Nat → Nat) (mv : MV)   (out : Int32 × MV) (hf : f_X11_digitBehindBlank mv = some out) : MtI l yX11_digitBehindBlank wsX11_digitBehindBlank rm_X11_digitBehindBlank g (wM g hm mv) [.ref (hm 0)] (out.1) (wM g hm (out.2)) 0 0 := by
  refine fun sz => mt_of (cc := cX11_digitBehindBlank) (maxL := 2) (ret := (some .int)) (own := RX11) (Qc := fun A => va_Qi (fun r (_ : Unit) => r = (out.1)) (fun _ t => PosM g A (wM g hm (out.2)) t) A) (by decide +kernel) rfl rfl (Nat.le_of_ble_eq_true rfl) ?_ sz
  intro p e s mi below meth c A ls hB hnm hrt hlk hP hD hl
  obtain ⟨hx, hb, hml, hown, hts, hK, hZ, hT, hA, -⟩ := hB
  have hS : va_S A s.heap s.heap [] := va_S.rf
  have hl : lv_has ls 2 [(0, .ref (hm 0))] := hl
  generalize hQ : MQ below _ _ _ _ _ _ = Q
  unfold f_X11_digitBehindBlank at hf
  refine lv_aload_n hx hb dX11_digitBehindBlank_0 rfl (lv_at hl 0 rfl) ?_
  refine lv_bipush (v := 32) hx hb dX11_digitBehindBlank_1 (by decide) ?_
  refine lv_bipush (v := 32) hx hb dX11_digitBehindBlank_3 (by decide) ?_
  obtain ⟨o1, g2, hf⟩ := jbB_e hf
  refine cva_i (As := [.int 32, .int 32]) (rest := []) ⟨hx, hb, hml, hown, hts⟩ (c_X11_reads l g hm mv 32 32 _ g2) (cwV 2 hts gX11_digitBehindBlank_X11_reads rfl rfl rfl hd_X11_reads ⟨Nat.le_of_ble_eq_true rfl, Nat.le_of_ble_eq_true rfl⟩) hK hZ hT hA hP hD hS hl.1 (va_recv hK hP (ci := 10) (q0 := 0) rfl rfl) rfl rfl (Nat.le_of_ble_eq_true rfl) ⟨Nat.le_of_ble_eq_true rfl, Nat.le_of_ble_eq_true rfl⟩ dX11_digitBehindBlank_5 (fun H locs hP hD hS => ?_)
  refine lv_topi (fun z3 ez3 => ?_)
  have hf := jbN_e hf ez3
  refine lv_istore_n (lv' := [(1, .int z3), (0, .ref (hm 0))]) hx hb dX11_digitBehindBlank_8 rfl hl (by decide) rfl (fun ls hl => ?_)
  refine lv_aload_n hx hb dX11_digitBehindBlank_9 rfl (lv_at hl 1 rfl) ?_
  obtain ⟨o4, g5, hf⟩ := jbB_e hf
  refine cva_i (As := []) (rest := []) ⟨hx, hb, hml, hown, hts⟩ (c_X11_digit l g hm (o1.2) _ g5) (cwV 0 hts gX11_digitBehindBlank_X11_digit rfl rfl rfl hd_X11_digit ⟨Nat.le_of_ble_eq_true rfl, Nat.le_of_ble_eq_true rfl⟩) hK hZ hT hA hP hD hS hl.1 (va_recv hK hP (ci := 10) (q0 := 0) rfl rfl) rfl rfl (Nat.le_of_ble_eq_true rfl) ⟨Nat.le_of_ble_eq_true rfl, Nat.le_of_ble_eq_true rfl⟩ dX11_digitBehindBlank_10 (fun H locs hP hD hS => ?_)
  cases hf
  subst hQ
  exact rt_i hx hb hrt hlk rfl hK hP hD hS (Nat.le_of_ble_eq_true rfl) (Nat.le_of_ble_eq_true rfl) dX11_digitBehindBlank_13
def f_X11_startOf (a0 : Int32) : Option Int32 :=
  if a0 = 0 then
  (some 0)
  else
  if a0 = 1 then
  (some 6)
  else
  if a0 = 2 then
  (some 10)
  else
  if a0 = 3 then
  (some (15 + (6 * (a0 - 3))))
  else
  if a0 = 4 then
  (some (15 + (6 * (a0 - 3))))
  else
  if a0 = 5 then
  (some (15 + (6 * (a0 - 3))))
  else
  if a0 = 6 then
  (some (15 + (6 * (a0 - 3))))
  else
  if a0 = 7 then
  (some 38)
  else
  (some 44)
def rm_X11_startOf : Room := { frames := 0, cells := 0, slots := 0, locals := 0 }
theorem hd_X11_startOf : yX11_startOf.cls ≠ "java/lang/invoke/MethodHandle" ∧ yX11_startOf.cls ≠ "java/lang/invoke/VarHandle" ∧ (parseMethodDescriptor yX11_startOf.desc).map (fun d => d.parameters.length) = some 1 := by decide +kernel
set_option maxHeartbeats 4000000 in
set_option maxRecDepth 100000 in
theorem c_X11_startOf (l : Launch) (g : GG)   (a0 : Int32) (out : Int32) (hf : f_X11_startOf a0 = some out) : MtI l yX11_startOf wsX11_startOf rm_X11_startOf g [] [.int a0] out [] 0 0 := by
  refine fun sz => mt_of (cc := cX11_startOf) (maxL := 1) (ret := (some .int)) (own := RX11) (Qc := fun A => va_Qi (fun r (_ : Unit) => r = out) (fun _ t => PosM g A [] t) A) (by decide +kernel) rfl rfl (Nat.le_of_ble_eq_true rfl) ?_ sz
  intro p e s mi below meth c A ls hB hnm hrt hlk hP hD hl
  obtain ⟨hx, hb, hml, hown, hts, hK, hZ, hT, hA, -⟩ := hB
  have hS : va_S A s.heap s.heap [] := va_S.rf
  have hl : lv_has ls 1 [(0, .int a0)] := hl
  generalize hQ : MQ below _ _ _ _ _ _ = Q
  unfold f_X11_startOf at hf
  refine lv_iload_n hx hb dX11_startOf_0 rfl (lv_at hl 0 rfl) ?_
  by_cases hc1 : a0 = 0
  · have hf := jbT hf hc1
    refine lv_tableIn (tgt := 48) hx hb dX11_startOf_1 (by rw [hc1]; decide) (by rw [hc1]; decide) (by rw [hc1]; rfl) (by decide) ?_
    refine lv_iconst (v := 0) hx hb dX11_startOf_48 (by decide) ?_
    cases hf
    subst hQ
    exact rt_i hx hb hrt hlk rfl hK hP hD hS (Nat.le_of_ble_eq_true rfl) (Nat.le_of_ble_eq_true rfl) dX11_startOf_49
  have hf := jbF hf hc1
  by_cases hc2 : a0 = 1
  · have hf := jbT hf hc2
    refine lv_tableIn (tgt := 50) hx hb dX11_startOf_1 (by rw [hc2]; decide) (by rw [hc2]; decide) (by rw [hc2]; rfl) (by decide) ?_
    refine lv_bipush (v := 6) hx hb dX11_startOf_50 (by decide) ?_
    cases hf
    subst hQ
    exact rt_i hx hb hrt hlk rfl hK hP hD hS (Nat.le_of_ble_eq_true rfl) (Nat.le_of_ble_eq_true rfl) dX11_startOf_52
  have hf := jbF hf hc2
  by_cases hc3 : a0 = 2
  · have hf := jbT hf hc3
    refine lv_tableIn (tgt := 53) hx hb dX11_startOf_1 (by rw [hc3]; decide) (by rw [hc3]; decide) (by rw [hc3]; rfl) (by decide) ?_
    refine lv_bipush (v := 10) hx hb dX11_startOf_53 (by decide) ?_
    cases hf
    subst hQ
    exact rt_i hx hb hrt hlk rfl hK hP hD hS (Nat.le_of_ble_eq_true rfl) (Nat.le_of_ble_eq_true rfl) dX11_startOf_55
  have hf := jbF hf hc3
  by_cases hc4 : a0 = 3
  · have hf := jbT hf hc4
    refine lv_tableIn (tgt := 56) hx hb dX11_startOf_1 (by rw [hc4]; decide) (by rw [hc4]; decide) (by rw [hc4]; rfl) (by decide) ?_
    refine lv_bipush (v := 15) hx hb dX11_startOf_56 (by decide) ?_
    refine lv_bipush (v := 6) hx hb dX11_startOf_58 (by decide) ?_
    refine lv_iload_n hx hb dX11_startOf_60 rfl (lv_at hl 0 rfl) ?_
    refine lv_iconst (v := 3) hx hb dX11_startOf_61 (by decide) ?_
    refine lv_isub hx hb dX11_startOf_62 ?_
    refine lv_imul hx hb dX11_startOf_63 ?_
    refine lv_iadd hx hb dX11_startOf_64 ?_
    cases hf
    subst hQ
    exact rt_i hx hb hrt hlk rfl hK hP hD hS (Nat.le_of_ble_eq_true rfl) (Nat.le_of_ble_eq_true rfl) dX11_startOf_65
  have hf := jbF hf hc4
  by_cases hc5 : a0 = 4
  · have hf := jbT hf hc5
    refine lv_tableIn (tgt := 56) hx hb dX11_startOf_1 (by rw [hc5]; decide) (by rw [hc5]; decide) (by rw [hc5]; rfl) (by decide) ?_
    refine lv_bipush (v := 15) hx hb dX11_startOf_56 (by decide) ?_
    refine lv_bipush (v := 6) hx hb dX11_startOf_58 (by decide) ?_
    refine lv_iload_n hx hb dX11_startOf_60 rfl (lv_at hl 0 rfl) ?_
    refine lv_iconst (v := 3) hx hb dX11_startOf_61 (by decide) ?_
    refine lv_isub hx hb dX11_startOf_62 ?_
    refine lv_imul hx hb dX11_startOf_63 ?_
    refine lv_iadd hx hb dX11_startOf_64 ?_
    cases hf
    subst hQ
    exact rt_i hx hb hrt hlk rfl hK hP hD hS (Nat.le_of_ble_eq_true rfl) (Nat.le_of_ble_eq_true rfl) dX11_startOf_65
  have hf := jbF hf hc5
  by_cases hc6 : a0 = 5
  · have hf := jbT hf hc6
    refine lv_tableIn (tgt := 56) hx hb dX11_startOf_1 (by rw [hc6]; decide) (by rw [hc6]; decide) (by rw [hc6]; rfl) (by decide) ?_
    refine lv_bipush (v := 15) hx hb dX11_startOf_56 (by decide) ?_
    refine lv_bipush (v := 6) hx hb dX11_startOf_58 (by decide) ?_
    refine lv_iload_n hx hb dX11_startOf_60 rfl (lv_at hl 0 rfl) ?_
    refine lv_iconst (v := 3) hx hb dX11_startOf_61 (by decide) ?_
    refine lv_isub hx hb dX11_startOf_62 ?_
    refine lv_imul hx hb dX11_startOf_63 ?_
    refine lv_iadd hx hb dX11_startOf_64 ?_
    cases hf
    subst hQ
    exact rt_i hx hb hrt hlk rfl hK hP hD hS (Nat.le_of_ble_eq_true rfl) (Nat.le_of_ble_eq_true rfl) dX11_startOf_65
  have hf := jbF hf hc6
  by_cases hc7 : a0 = 6
  · have hf := jbT hf hc7
    refine lv_tableIn (tgt := 56) hx hb dX11_startOf_1 (by rw [hc7]; decide) (by rw [hc7]; decide) (by rw [hc7]; rfl) (by decide) ?_
    refine lv_bipush (v := 15) hx hb dX11_startOf_56 (by decide) ?_
    refine lv_bipush (v := 6) hx hb dX11_startOf_58 (by decide) ?_
    refine lv_iload_n hx hb dX11_startOf_60 rfl (lv_at hl 0 rfl) ?_
    refine lv_iconst (v := 3) hx hb dX11_startOf_61 (by decide) ?_
    refine lv_isub hx hb dX11_startOf_62 ?_
    refine lv_imul hx hb dX11_startOf_63 ?_
    refine lv_iadd hx hb dX11_startOf_64 ?_
    cases hf
    subst hQ
    exact rt_i hx hb hrt hlk rfl hK hP hD hS (Nat.le_of_ble_eq_true rfl) (Nat.le_of_ble_eq_true rfl) dX11_startOf_65
  have hf := jbF hf hc7
  by_cases hc8 : a0 = 7
  · have hf := jbT hf hc8
    refine lv_tableIn (tgt := 66) hx hb dX11_startOf_1 (by rw [hc8]; decide) (by rw [hc8]; decide) (by rw [hc8]; rfl) (by decide) ?_
    refine lv_bipush (v := 38) hx hb dX11_startOf_66 (by decide) ?_
    cases hf
    subst hQ
    exact rt_i hx hb hrt hlk rfl hK hP hD hS (Nat.le_of_ble_eq_true rfl) (Nat.le_of_ble_eq_true rfl) dX11_startOf_68
  have hf := jbF hf hc8
  refine lv_tableOut (tgt := 69) hx hb dX11_startOf_1 (by have := lv_neT hc1 (show (0 : Int32).toInt = 0 from by decide); have := lv_neT hc2 (show (1 : Int32).toInt = 1 from by decide); have := lv_neT hc3 (show (2 : Int32).toInt = 2 from by decide); have := lv_neT hc4 (show (3 : Int32).toInt = 3 from by decide); have := lv_neT hc5 (show (4 : Int32).toInt = 4 from by decide); have := lv_neT hc6 (show (5 : Int32).toInt = 5 from by decide); have := lv_neT hc7 (show (6 : Int32).toInt = 6 from by decide); have := lv_neT hc8 (show (7 : Int32).toInt = 7 from by decide); omega) (by decide) ?_
  refine lv_bipush (v := 44) hx hb dX11_startOf_69 (by decide) ?_
  cases hf
  subst hQ
  exact rt_i hx hb hrt hlk rfl hK hP hD hS (Nat.le_of_ble_eq_true rfl) (Nat.le_of_ble_eq_true rfl) dX11_startOf_71
def f_X11_kindHere_J163 (mv : MV) (x2 : Int32) (y0 : Int32) (y1 : Int32) : Option (Int32 × MV) :=
  jbN (mSSpot (y1 + y0) mv) fun w19 =>
  some (x2, w19)
def f_X11_kindHere_J135 (mv : MV) (x2 : Int32) (y0 : Int32) : Option (Int32 × MV) :=
  jbN (mSWrong y0 mv) fun w14 =>
  if x2 = (-1) then
  (f_X11_kindHere_J163 w14 x2 0 (mSpot w14))
  else
  ((f_X11_startOf (x2 + 1)).bind fun o15 =>
  (f_X11_startOf x2).bind fun o17 =>
  f_X11_kindHere_J163 w14 x2 (o15 - o17) (mSpot w14))
def f_X11_kindHere_J114 (mv : MV) (x1 : Int32) (x3 : Int32) (y0 : Int32) : Option (Sum (Int32 × Int32 × Int32) (Int32 × Int32 × Int32)) :=
  some (.inl (x1, y0, (x3 + 1)))
def f_X11_kindHere_L36 (mv : MV) (x1 : Int32) (x2 : Int32) (x3 : Int32) (x4 : Int32) (x5 : Int32) : Option (Sum Int32 Int32) :=
  if x4 ≤ x5 then
  (some (.inr x5))
  else
  (if (mSize mv) ≤ ((mSpot mv) + x5) then
  (some (.inr x5))
  else
  (if jIn ((mSpot mv) + x5) 60 then
  (f_X11_startOf x3).bind fun o9 =>
  if 8 < 28 then
  (f_J0_charAt_5068e 8 (o9 + x5)).bind fun o11 =>
  if ((mText mv) ((mSpot mv) + x5).toNatClampNeg) = o11 then
  (some (.inl (x5 + 1)))
  else
  (some (.inr x5))
  else none
  else none))
def f_X11_kindHere_L9 (mv : MV) (x1 : Int32) (x2 : Int32) (x3 : Int32) : Option (Sum (Int32 × Int32 × Int32) (Int32 × Int32 × Int32)) :=
  if 8 ≤ x3 then
  (some (.inr (x1, x2, x3)))
  else
  (if x2 = (-1) then
  ((f_X11_startOf (x3 + 1)).bind fun o2 =>
  (f_X11_startOf x3).bind fun o4 =>
  jbN (o2 - o4) fun z6 =>
  (jbL (fun s => f_X11_kindHere_L36 mv x1 x2 x3 z6 s) 5000 0).bind fun o36 =>
  jbN (jMax x1 ((mSpot mv) + o36)) fun z7 =>
  if o36 = z6 then
  (f_X11_kindHere_J114 mv z7 x3 x3)
  else
  (f_X11_kindHere_J114 mv z7 x3 x2))
  else
  (some (.inr (x1, x2, x3))))
def f_X11_kindHere (mv : MV) : Option (Int32 × MV) :=
  jbN (mSpot mv) fun z1 =>
  (jbL (fun s => f_X11_kindHere_L9 mv (s.1) (s.2.1) (s.2.2)) 5000 (z1, (-1), 0)).bind fun o9 =>
  if (o9.2.1) = (-1) then
  (f_X11_kindHere_J135 mv (o9.2.1) (o9.1))
  else
  (f_X11_kindHere_J135 mv (o9.2.1) (mWrong mv))
def rm_X11_kindHere : Room := { frames := 4, cells := 0, slots := 0, locals := 85 }
theorem hd_X11_kindHere : yX11_kindHere.cls = RX11 ∧ yX11_kindHere.cls ≠ "java/lang/invoke/MethodHandle" ∧ yX11_kindHere.cls ≠ "java/lang/invoke/VarHandle" ∧ (parseMethodDescriptor yX11_kindHere.desc).map (fun d => d.parameters.length) = some 0 := by decide +kernel
set_option maxHeartbeats 4000000 in
set_option maxRecDepth 100000 in
theorem c_X11_kindHere (l : Launch) (g : GG) (hm : Nat → Nat) (mv : MV)   (out : Int32 × MV) (hf : f_X11_kindHere mv = some out) : MtI l yX11_kindHere wsX11_kindHere rm_X11_kindHere g (wM g hm mv) [.ref (hm 0)] (out.1) (wM g hm (out.2)) 0 0 := by
  refine fun sz => mt_of (cc := cX11_kindHere) (maxL := 6) (ret := (some .int)) (own := RX11) (Qc := fun A => va_Qi (fun r (_ : Unit) => r = (out.1)) (fun _ t => PosM g A (wM g hm (out.2)) t) A) (by decide +kernel) rfl rfl (Nat.le_of_ble_eq_true rfl) ?_ sz
  intro p e s mi below meth c A ls hB hnm hrt hlk hP hD hl
  obtain ⟨hx, hb, hml, hown, hts, hK, hZ, hT, hA, -⟩ := hB
  have hS : va_S A s.heap s.heap [] := va_S.rf
  have hl : lv_has ls 6 [(0, .ref (hm 0))] := hl
  have hinX11 : ∀ w ∈ wsX110, w ∈ wsX11_kindHere := by decide +kernel
  have k0 := hts (.fieldLink RX11 207 "TerraceQuarryModel" "spot" "I") (by decide +kernel)
  have k1 := hts (.fieldLink RX11 213 "TerraceQuarryModel" "wrong" "I") (by decide +kernel)
  have k2 := hts (.methodLink RX11 90 Lib.Math.max.name) (by decide +kernel)
  have k3 := hts (.static Lib.Math.max.name) (by decide +kernel)
  have k4 := hts (.initialized "java/lang/Math") (by decide +kernel)
  have k5 := hts (.code Lib.Math.max.name Lib.Math.max.code 2 (some .int)) (by decide +kernel)
  have k6 := hts (.fieldLink RX11 210 "TerraceQuarryModel" "size" "I") (by decide +kernel)
  have k7 := hts (.fieldLink RX11 32 "TerraceQuarryModel" "text" "[I") (by decide +kernel)
  generalize hQ : MQ below _ _ _ _ _ _ = Q
  unfold f_X11_kindHere at hf
  have hJ163 : ∀ (mv : MV) (x2 : Int32) (y0 : Int32) (y1 : Int32) (H : Heap) (locs : List Loc) (ls : Array Slot), f_X11_kindHere_J163 mv x2 y0 y1 = some out → va_P (gD g) vwCl (wM g hm mv) H → va_D A (wM g hm mv) → va_S A s.heap H locs → lv_has ls 6 [(2, .int x2)] → W p l e rm_X11_kindHere s mi [.ref (hm 0)].toArray below meth c H locs 0 0 Q (F0 mi 163 ls [.int y0, .int y1, .ref (hm 0)]) := by
    intro mv x2 y0 y1 H locs ls hf hP hD hS hl
    unfold f_X11_kindHere_J163 at hf
    refine lv_iadd hx hb dX11_kindHere_163 ?_
    refine va_put (D := gD g) (ci := 10) (v := .int (y1 + y0)) (ty := .int) (C := RX11) (T := TX11) (N := 19) hx hb hts hinX11 tyX11 tyX11_ok nmX11 hown hK hP hD hS 0 rfl rfl 15 (by decide) k0 (fun _ h9 => h9) rfl (tyX11_ok 15 (by decide)) rfl rfl (Nat.le_of_ble_eq_true rfl) dX11_kindHere_164 (fun H locs hP hD hS => ?_)
    obtain ⟨w19, ew19⟩ : ∃ y, y = (mSSpot (y1 + y0) mv) := ⟨_, rfl⟩
    have hf := jbN_e hf ew19
    have hP : va_P (gD g) vwCl (wM g hm w19) H := by rw [ew19]; exact hP
    have hD : va_D A (wM g hm w19) := by rw [ew19]; exact hD
    refine lv_iload_n hx hb dX11_kindHere_167 rfl (lv_at hl 0 rfl) ?_
    cases hf
    subst hQ
    exact rt_i hx hb hrt hlk rfl hK hP hD hS (Nat.le_of_ble_eq_true rfl) (Nat.le_of_ble_eq_true rfl) dX11_kindHere_168
  have hJ135 : ∀ (mv : MV) (x2 : Int32) (y0 : Int32) (H : Heap) (locs : List Loc) (ls : Array Slot), f_X11_kindHere_J135 mv x2 y0 = some out → va_P (gD g) vwCl (wM g hm mv) H → va_D A (wM g hm mv) → va_S A s.heap H locs → lv_has ls 6 [(0, .ref (hm 0)), (2, .int x2)] → W p l e rm_X11_kindHere s mi [.ref (hm 0)].toArray below meth c H locs 0 0 Q (F0 mi 135 ls [.int y0, .ref (hm 0)]) := by
    intro mv x2 y0 H locs ls hf hP hD hS hl
    unfold f_X11_kindHere_J135 at hf
    refine va_put (D := gD g) (ci := 10) (v := .int y0) (ty := .int) (C := RX11) (T := TX11) (N := 19) hx hb hts hinX11 tyX11 tyX11_ok nmX11 hown hK hP hD hS 0 rfl rfl 16 (by decide) k1 (fun _ h9 => h9) rfl (tyX11_ok 16 (by decide)) rfl rfl (Nat.le_of_ble_eq_true rfl) dX11_kindHere_135 (fun H locs hP hD hS => ?_)
    obtain ⟨w14, ew14⟩ : ∃ y, y = (mSWrong y0 mv) := ⟨_, rfl⟩
    have hf := jbN_e hf ew14
    have hP : va_P (gD g) vwCl (wM g hm w14) H := by rw [ew14]; exact hP
    have hD : va_D A (wM g hm w14) := by rw [ew14]; exact hD
    refine lv_aload_n hx hb dX11_kindHere_138 rfl (lv_at hl 0 rfl) ?_
    refine lv_dup hx hb dX11_kindHere_139 rfl ?_
    refine va_get (D := gD g) (ci := 10) (v := .int (mSpot w14)) (C := RX11) (T := TX11) (N := 19) hx hb hts hinX11 hown hK hP 0 rfl rfl 15 (by decide) k0 (fun _ h9 => h9) rfl dX11_kindHere_140 ?_
    refine lv_iload_n hx hb dX11_kindHere_143 rfl (lv_at hl 1 rfl) ?_
    refine lv_iconst (v := (-1)) hx hb dX11_kindHere_144 (by decide) ?_
    refine lv_icmp_ne (tgt := 152) hx hb dX11_kindHere_145 (by decide) (fun hc => ?_) (fun hc => ?_)
    · have hf := jbF hf hc
      refine lv_iload_n hx hb dX11_kindHere_152 rfl (lv_at hl 1 rfl) ?_
      refine lv_iconst (v := 1) hx hb dX11_kindHere_153 (by decide) ?_
      refine lv_iadd hx hb dX11_kindHere_154 ?_
      obtain ⟨o15, g16, hf⟩ := jbB_e hf
      refine csn_i (As := [.int (x2 + 1)]) (rest := [.int (mSpot w14), .ref (hm 0)]) ⟨hx, hb, hml, hown, hts⟩ (c_X11_startOf l g (x2 + 1) _ g16) (va_cwS 1 hts gX11_kindHere_X11_startOf rfl rfl rfl hd_X11_startOf ⟨Nat.le_of_ble_eq_true rfl, Nat.le_of_ble_eq_true rfl⟩) hK hZ hT hA hP hD hS hl.1 rfl rfl (Nat.le_of_ble_eq_true rfl) ⟨Nat.le_of_ble_eq_true rfl, Nat.le_of_ble_eq_true rfl⟩ dX11_kindHere_155 (fun H locs hP hD hS => ?_)
      refine lv_iload_n hx hb dX11_kindHere_158 rfl (lv_at hl 1 rfl) ?_
      obtain ⟨o17, g18, hf⟩ := jbB_e hf
      refine csn_i (As := [.int x2]) (rest := [.int o15, .int (mSpot w14), .ref (hm 0)]) ⟨hx, hb, hml, hown, hts⟩ (c_X11_startOf l g x2 _ g18) (va_cwS 1 hts gX11_kindHere_X11_startOf rfl rfl rfl hd_X11_startOf ⟨Nat.le_of_ble_eq_true rfl, Nat.le_of_ble_eq_true rfl⟩) hK hZ hT hA hP hD hS hl.1 rfl rfl (Nat.le_of_ble_eq_true rfl) ⟨Nat.le_of_ble_eq_true rfl, Nat.le_of_ble_eq_true rfl⟩ dX11_kindHere_159 (fun H locs hP hD hS => ?_)
      refine lv_isub hx hb dX11_kindHere_162 ?_
      exact hJ163 w14 x2 (o15 - o17) (mSpot w14) _ _ _ hf hP hD hS (lv_sub hl [1] rfl)
    · have hf := jbT hf hc
      refine lv_iconst (v := 0) hx hb dX11_kindHere_148 (by decide) ?_
      refine lv_goto (tgt := 163) hx hb dX11_kindHere_149 (by decide) ?_
      exact hJ163 w14 x2 0 (mSpot w14) _ _ _ hf hP hD hS (lv_sub hl [1] rfl)
  have hL9 : ∀ (mv : MV) (n : Nat) (x1 : Int32) (x2 : Int32) (x3 : Int32) (H : Heap) (locs : List Loc) (ls : Array Slot) (o9 : Int32 × Int32 × Int32), jbL (fun s => f_X11_kindHere_L9 mv (s.1) (s.2.1) (s.2.2)) n (x1, x2, x3) = some o9 → va_P (gD g) vwCl (wM g hm mv) H → va_D A (wM g hm mv) → va_S A s.heap H locs → lv_has ls 6 [(0, .ref (hm 0)), (1, .int x1), (2, .int x2), (3, .int x3)] → (∀ (H : Heap) (locs : List Loc) (ls : Array Slot), va_P (gD g) vwCl (wM g hm mv) H → va_D A (wM g hm mv) → va_S A s.heap H locs → lv_has ls 6 [(0, .ref (hm 0)), (1, .int (o9.1)), (2, .int (o9.2.1))] → W p l e rm_X11_kindHere s mi [.ref (hm 0)].toArray below meth c H locs 0 0 Q (F0 mi 121 ls [])) → W p l e rm_X11_kindHere s mi [.ref (hm 0)].toArray below meth c H locs 0 0 Q (F0 mi 9 ls []) := by
    intro mv n
    induction n with
    | zero => intro x1 x2 x3 H locs ls o9 hf; exact absurd hf (jbL_0 _ _ _)
    | succ n ih =>
      intro x1 x2 x3 H locs ls o9 hf hP hD hS hl hk
      obtain ⟨r, hf, hr⟩ := jbL_e hf
      have hf : f_X11_kindHere_L9 mv x1 x2 x3 = some r := hf
      unfold f_X11_kindHere_L9 at hf
      have hJ114 : ∀ (x1 : Int32) (x3 : Int32) (y0 : Int32) (H : Heap) (locs : List Loc) (ls : Array Slot) (r : Sum (Int32 × Int32 × Int32) (Int32 × Int32 × Int32)), f_X11_kindHere_J114 mv x1 x3 y0 = some r → jbR (fun s => f_X11_kindHere_L9 mv (s.1) (s.2.1) (s.2.2)) n o9 r → va_P (gD g) vwCl (wM g hm mv) H → va_D A (wM g hm mv) → va_S A s.heap H locs → lv_has ls 6 [(0, .ref (hm 0)), (1, .int x1), (3, .int x3)] → W p l e rm_X11_kindHere s mi [.ref (hm 0)].toArray below meth c H locs 0 0 Q (F0 mi 114 ls [.int y0]) := by
        intro x1 x3 y0 H locs ls r hf hr hP hD hS hl
        unfold f_X11_kindHere_J114 at hf
        refine lv_istore_n (lv' := [(2, .int y0), (0, .ref (hm 0)), (1, .int x1), (3, .int x3)]) hx hb dX11_kindHere_114 rfl hl (by decide) rfl (fun ls hl => ?_)
        refine lv_iinc (v := (x3 + 1)) (lv' := [(3, .int (x3 + 1)), (2, .int y0), (0, .ref (hm 0)), (1, .int x1)]) hx hb dX11_kindHere_115 hl (k := 3) rfl rfl (by decide) rfl (fun ls hl => ?_)
        refine lv_goto (tgt := 9) hx hb dX11_kindHere_118 (by decide) ?_
        cases hf
        exact ih x1 y0 (x3 + 1) _ _ _ _ hr hP hD hS (lv_sub hl [2, 3, 1, 0] rfl) hk
      have hL36 : ∀ (mv : MV) (x1 : Int32) (x2 : Int32) (x3 : Int32) (x4 : Int32) (n : Nat) (x5 : Int32) (H : Heap) (locs : List Loc) (ls : Array Slot) (o36 : Int32), jbL (fun s => f_X11_kindHere_L36 mv x1 x2 x3 x4 s) n x5 = some o36 → va_P (gD g) vwCl (wM g hm mv) H → va_D A (wM g hm mv) → va_S A s.heap H locs → lv_has ls 6 [(0, .ref (hm 0)), (1, .int x1), (2, .int x2), (3, .int x3), (4, .int x4), (5, .int x5)] → (∀ (H : Heap) (locs : List Loc) (ls : Array Slot), va_P (gD g) vwCl (wM g hm mv) H → va_D A (wM g hm mv) → va_S A s.heap H locs → lv_has ls 6 [(0, .ref (hm 0)), (1, .int x1), (2, .int x2), (3, .int x3), (4, .int x4), (5, .int o36)] → W p l e rm_X11_kindHere s mi [.ref (hm 0)].toArray below meth c H locs 0 0 Q (F0 mi 90 ls [])) → W p l e rm_X11_kindHere s mi [.ref (hm 0)].toArray below meth c H locs 0 0 Q (F0 mi 36 ls []) := by
        intro mv x1 x2 x3 x4 n
        induction n with
        | zero => intro x5 H locs ls o36 hf; exact absurd hf (jbL_0 _ _ _)
        | succ n ih =>
          intro x5 H locs ls o36 hf hP hD hS hl hk
          obtain ⟨r, hf, hr⟩ := jbL_e hf
          have hf : f_X11_kindHere_L36 mv x1 x2 x3 x4 x5 = some r := hf
          unfold f_X11_kindHere_L36 at hf
          refine lv_iload hx hb dX11_kindHere_36 (lv_at hl 5 rfl) ?_
          refine lv_iload hx hb dX11_kindHere_38 (lv_at hl 4 rfl) ?_
          refine lv_icmp_ge (tgt := 90) hx hb dX11_kindHere_40 (by decide) (fun hc => ?_) (fun hc => ?_)
          · have hf := jbT hf hc
            cases hf
            obtain rfl := jbR_r hr
            exact hk _ _ _ hP hD hS (lv_sub hl [0, 1, 2, 3, 4, 5] rfl)
          · have hf := jbF hf hc
            refine lv_aload_n hx hb dX11_kindHere_43 rfl (lv_at hl 0 rfl) ?_
            refine va_get (D := gD g) (ci := 10) (v := .int (mSpot mv)) (C := RX11) (T := TX11) (N := 19) hx hb hts hinX11 hown hK hP 0 rfl rfl 15 (by decide) k0 (fun _ h9 => h9) rfl dX11_kindHere_44 ?_
            refine lv_iload hx hb dX11_kindHere_47 (lv_at hl 5 rfl) ?_
            refine lv_iadd hx hb dX11_kindHere_49 ?_
            refine lv_aload_n hx hb dX11_kindHere_50 rfl (lv_at hl 0 rfl) ?_
            refine va_get (D := gD g) (ci := 10) (v := .int (mSize mv)) (C := RX11) (T := TX11) (N := 19) hx hb hts hinX11 hown hK hP 0 rfl rfl 14 (by decide) k6 (fun _ h9 => h9) rfl dX11_kindHere_51 ?_
            refine lv_icmp_ge (tgt := 90) hx hb dX11_kindHere_54 (by decide) (fun hc => ?_) (fun hc => ?_)
            · have hf := jbT hf hc
              cases hf
              obtain rfl := jbR_r hr
              exact hk _ _ _ hP hD hS (lv_sub hl [0, 1, 2, 3, 4, 5] rfl)
            · have hf := jbF hf hc
              refine lv_aload_n hx hb dX11_kindHere_57 rfl (lv_at hl 0 rfl) ?_
              refine va_get (D := gD g) (ci := 10) (v := .ref (hm 6)) (C := RX11) (T := TX11) (N := 19) hx hb hts hinX11 hown hK hP 0 rfl rfl 9 (by decide) k7 (fun _ h9 => h9) rfl dX11_kindHere_58 ?_
              refine lv_aload_n hx hb dX11_kindHere_61 rfl (lv_at hl 0 rfl) ?_
              refine va_get (D := gD g) (ci := 10) (v := .int (mSpot mv)) (C := RX11) (T := TX11) (N := 19) hx hb hts hinX11 hown hK hP 0 rfl rfl 15 (by decide) k0 (fun _ h9 => h9) rfl dX11_kindHere_62 ?_
              refine lv_iload hx hb dX11_kindHere_65 (lv_at hl 5 rfl) ?_
              refine lv_iadd hx hb dX11_kindHere_67 ?_
              obtain ⟨h8, hf⟩ := jbA_e hf
              refine va_iald hx hb hK hP 6 0 rfl rfl h8 dX11_kindHere_68 ?_
              refine va_ldcS hx hb hown (hT.1 8 ("TerraceQuarryModel", 228, "stone cut fill ledge limit winch lift crush ") rfl) dX11_kindHere_69 ?_
              refine lv_iload_n hx hb dX11_kindHere_71 rfl (lv_at hl 3 rfl) ?_
              obtain ⟨o9, g10, hf⟩ := jbB_e hf
              refine csn_i (As := [.int x3]) (rest := [.ref (gS g 2 8), .int ((mText mv) ((mSpot mv) + x5).toNatClampNeg)]) ⟨hx, hb, hml, hown, hts⟩ (c_X11_startOf l g x3 _ g10) (va_cwS 1 hts gX11_kindHere_X11_startOf rfl rfl rfl hd_X11_startOf ⟨Nat.le_of_ble_eq_true rfl, Nat.le_of_ble_eq_true rfl⟩) hK hZ hT hA hP hD hS hl.1 rfl rfl (Nat.le_of_ble_eq_true rfl) ⟨Nat.le_of_ble_eq_true rfl, Nat.le_of_ble_eq_true rfl⟩ dX11_kindHere_72 (fun H locs hP hD hS => ?_)
              refine lv_iload hx hb dX11_kindHere_75 (lv_at hl 5 rfl) ?_
              refine lv_iadd hx hb dX11_kindHere_77 ?_
              obtain ⟨h13, hf⟩ := jbA_e hf
              obtain ⟨o11, g12, hf⟩ := jbB_e hf
              refine cvn_i (As := [.int (o9 + x5)]) (rest := [.int ((mText mv) ((mSpot mv) + x5).toNatClampNeg)]) ⟨hx, hb, hml, hown, hts⟩ (c_J0_charAt_5068e l g 8 (o9 + x5) _ g12) (cwV 1 hts gX11_kindHere_J0_charAt_5068e rfl rfl rfl hd_J0_charAt_5068e ⟨Nat.le_of_ble_eq_true rfl, Nat.le_of_ble_eq_true rfl⟩) hK hZ hT hA hP hD hS hl.1 (vk_recv hZ.2.2.2.1 h13 hS) rfl rfl (Nat.le_of_ble_eq_true rfl) ⟨Nat.le_of_ble_eq_true rfl, Nat.le_of_ble_eq_true rfl⟩ dX11_kindHere_78 (fun H locs hP hD hS => ?_)
              refine lv_icmp_ne (tgt := 90) hx hb dX11_kindHere_81 (by decide) (fun hc => ?_) (fun hc => ?_)
              · have hf := jbF hf hc
                cases hf
                obtain rfl := jbR_r hr
                exact hk _ _ _ hP hD hS (lv_sub hl [0, 1, 2, 3, 4, 5] rfl)
              · have hf := jbT hf hc
                refine lv_iinc (v := (x5 + 1)) (lv' := [(5, .int (x5 + 1)), (0, .ref (hm 0)), (1, .int x1), (2, .int x2), (3, .int x3), (4, .int x4)]) hx hb dX11_kindHere_84 hl (k := 5) rfl rfl (by decide) rfl (fun ls hl => ?_)
                refine lv_goto (tgt := 36) hx hb dX11_kindHere_87 (by decide) ?_
                cases hf
                exact ih (x5 + 1) _ _ _ _ hr hP hD hS (lv_sub hl [1, 2, 3, 4, 5, 0] rfl) hk
      refine lv_iload_n hx hb dX11_kindHere_9 rfl (lv_at hl 3 rfl) ?_
      refine lv_bipush (v := 8) hx hb dX11_kindHere_10 (by decide) ?_
      refine lv_icmp_ge (tgt := 121) hx hb dX11_kindHere_12 (by decide) (fun hc => ?_) (fun hc => ?_)
      · have hf := jbT hf hc
        cases hf
        obtain rfl := jbR_r hr
        exact hk _ _ _ hP hD hS (lv_sub hl [0, 1, 2] rfl)
      · have hf := jbF hf hc
        refine lv_iload_n hx hb dX11_kindHere_15 rfl (lv_at hl 2 rfl) ?_
        refine lv_iconst (v := (-1)) hx hb dX11_kindHere_16 (by decide) ?_
        refine lv_icmp_ne (tgt := 121) hx hb dX11_kindHere_17 (by decide) (fun hc => ?_) (fun hc => ?_)
        · have hf := jbF hf hc
          cases hf
          obtain rfl := jbR_r hr
          exact hk _ _ _ hP hD hS (lv_sub hl [0, 1, 2] rfl)
        · have hf := jbT hf hc
          refine lv_iload_n hx hb dX11_kindHere_20 rfl (lv_at hl 3 rfl) ?_
          refine lv_iconst (v := 1) hx hb dX11_kindHere_21 (by decide) ?_
          refine lv_iadd hx hb dX11_kindHere_22 ?_
          obtain ⟨o2, g3, hf⟩ := jbB_e hf
          refine csn_i (As := [.int (x3 + 1)]) (rest := []) ⟨hx, hb, hml, hown, hts⟩ (c_X11_startOf l g (x3 + 1) _ g3) (va_cwS 1 hts gX11_kindHere_X11_startOf rfl rfl rfl hd_X11_startOf ⟨Nat.le_of_ble_eq_true rfl, Nat.le_of_ble_eq_true rfl⟩) hK hZ hT hA hP hD hS hl.1 rfl rfl (Nat.le_of_ble_eq_true rfl) ⟨Nat.le_of_ble_eq_true rfl, Nat.le_of_ble_eq_true rfl⟩ dX11_kindHere_23 (fun H locs hP hD hS => ?_)
          refine lv_iload_n hx hb dX11_kindHere_26 rfl (lv_at hl 3 rfl) ?_
          obtain ⟨o4, g5, hf⟩ := jbB_e hf
          refine csn_i (As := [.int x3]) (rest := [.int o2]) ⟨hx, hb, hml, hown, hts⟩ (c_X11_startOf l g x3 _ g5) (va_cwS 1 hts gX11_kindHere_X11_startOf rfl rfl rfl hd_X11_startOf ⟨Nat.le_of_ble_eq_true rfl, Nat.le_of_ble_eq_true rfl⟩) hK hZ hT hA hP hD hS hl.1 rfl rfl (Nat.le_of_ble_eq_true rfl) ⟨Nat.le_of_ble_eq_true rfl, Nat.le_of_ble_eq_true rfl⟩ dX11_kindHere_27 (fun H locs hP hD hS => ?_)
          refine lv_isub hx hb dX11_kindHere_30 ?_
          refine lv_topi (fun z6 ez6 => ?_)
          have hf := jbN_e hf ez6
          refine lv_istore (lv' := [(4, .int z6), (0, .ref (hm 0)), (1, .int x1), (2, .int x2), (3, .int x3)]) hx hb dX11_kindHere_31 hl (by decide) rfl (fun ls hl => ?_)
          refine lv_iconst (v := 0) hx hb dX11_kindHere_33 (by decide) ?_
          refine lv_istore (lv' := [(5, .int 0), (4, .int z6), (0, .ref (hm 0)), (1, .int x1), (2, .int x2), (3, .int x3)]) hx hb dX11_kindHere_34 hl (by decide) rfl (fun ls hl => ?_)
          obtain ⟨o36, hg, hf⟩ := jbB_e hf
          refine hL36 mv x1 x2 x3 z6 _ 0 _ _ _ _ hg hP hD hS (lv_sub hl [2, 3, 4, 5, 1, 0] rfl) (fun H locs ls hP hD hS hl => ?_)
          refine lv_iload_n hx hb dX11_kindHere_90 rfl (lv_at hl 1 rfl) ?_
          refine lv_aload_n hx hb dX11_kindHere_91 rfl (lv_at hl 0 rfl) ?_
          refine va_get (D := gD g) (ci := 10) (v := .int (mSpot mv)) (C := RX11) (T := TX11) (N := 19) hx hb hts hinX11 hown hK hP 0 rfl rfl 15 (by decide) k0 (fun _ h9 => h9) rfl dX11_kindHere_92 ?_
          refine lv_iload hx hb dX11_kindHere_95 (lv_at hl 5 rfl) ?_
          refine lv_iadd hx hb dX11_kindHere_97 ?_
          refine va_mmax hx hb (hml.trans hl.1.symm) hown k2 k3 k4 k5 (Nat.le_of_ble_eq_true rfl) (Nat.le_of_ble_eq_true rfl) (Nat.le_of_ble_eq_true rfl) (Nat.le_of_ble_eq_true rfl) dX11_kindHere_98 ?_
          refine lv_topi (fun z7 ez7 => ?_)
          have hf := jbN_e hf ez7
          refine lv_istore_n (lv' := [(1, .int z7), (0, .ref (hm 0)), (2, .int x2), (3, .int x3), (4, .int z6), (5, .int o36)]) hx hb dX11_kindHere_101 rfl hl (by decide) rfl (fun ls hl => ?_)
          refine lv_iload hx hb dX11_kindHere_102 (lv_at hl 5 rfl) ?_
          refine lv_iload hx hb dX11_kindHere_104 (lv_at hl 4 rfl) ?_
          refine lv_icmp_ne (tgt := 113) hx hb dX11_kindHere_106 (by decide) (fun hc => ?_) (fun hc => ?_)
          · have hf := jbF hf hc
            refine lv_iload_n hx hb dX11_kindHere_113 rfl (lv_at hl 2 rfl) ?_
            exact hJ114 z7 x3 x2 _ _ _ _ hf hr hP hD hS (lv_sub hl [1, 0, 3] rfl)
          · have hf := jbT hf hc
            refine lv_iload_n hx hb dX11_kindHere_109 rfl (lv_at hl 3 rfl) ?_
            refine lv_goto (tgt := 114) hx hb dX11_kindHere_110 (by decide) ?_
            exact hJ114 z7 x3 x3 _ _ _ _ hf hr hP hD hS (lv_sub hl [1, 0, 3] rfl)
  refine lv_aload_n hx hb dX11_kindHere_0 rfl (lv_at hl 0 rfl) ?_
  refine va_get (D := gD g) (ci := 10) (v := .int (mSpot mv)) (C := RX11) (T := TX11) (N := 19) hx hb hts hinX11 hown hK hP 0 rfl rfl 15 (by decide) k0 (fun _ h9 => h9) rfl dX11_kindHere_1 ?_
  refine lv_topi (fun z1 ez1 => ?_)
  have hf := jbN_e hf ez1
  refine lv_istore_n (lv' := [(1, .int z1), (0, .ref (hm 0))]) hx hb dX11_kindHere_4 rfl hl (by decide) rfl (fun ls hl => ?_)
  refine lv_iconst (v := (-1)) hx hb dX11_kindHere_5 (by decide) ?_
  refine lv_istore_n (lv' := [(2, .int (-1)), (1, .int z1), (0, .ref (hm 0))]) hx hb dX11_kindHere_6 rfl hl (by decide) rfl (fun ls hl => ?_)
  refine lv_iconst (v := 0) hx hb dX11_kindHere_7 (by decide) ?_
  refine lv_istore_n (lv' := [(3, .int 0), (2, .int (-1)), (1, .int z1), (0, .ref (hm 0))]) hx hb dX11_kindHere_8 rfl hl (by decide) rfl (fun ls hl => ?_)
  obtain ⟨o9, hg, hf⟩ := jbB_e hf
  refine hL9 mv _ z1 (-1) 0 _ _ _ _ hg hP hD hS (lv_sub hl [3, 2, 1, 0] rfl) (fun H locs ls hP hD hS hl => ?_)
  refine lv_aload_n hx hb dX11_kindHere_121 rfl (lv_at hl 0 rfl) ?_
  refine lv_iload_n hx hb dX11_kindHere_122 rfl (lv_at hl 2 rfl) ?_
  refine lv_iconst (v := (-1)) hx hb dX11_kindHere_123 (by decide) ?_
  refine lv_icmp_ne (tgt := 131) hx hb dX11_kindHere_124 (by decide) (fun hc => ?_) (fun hc => ?_)
  · have hf := jbF hf hc
    refine lv_aload_n hx hb dX11_kindHere_131 rfl (lv_at hl 0 rfl) ?_
    refine va_get (D := gD g) (ci := 10) (v := .int (mWrong mv)) (C := RX11) (T := TX11) (N := 19) hx hb hts hinX11 hown hK hP 0 rfl rfl 16 (by decide) k1 (fun _ h9 => h9) rfl dX11_kindHere_132 ?_
    exact hJ135 mv (o9.2.1) (mWrong mv) _ _ _ hf hP hD hS (lv_sub hl [0, 2] rfl)
  · have hf := jbT hf hc
    refine lv_iload_n hx hb dX11_kindHere_127 rfl (lv_at hl 1 rfl) ?_
    refine lv_goto (tgt := 135) hx hb dX11_kindHere_128 (by decide) ?_
    exact hJ135 mv (o9.2.1) (o9.1) _ _ _ hf hP hD hS (lv_sub hl [0, 2] rfl)
def f_X11_cell (mv : MV) (a0 : Int32) : Option MV :=
  (f_X11_digit mv).bind fun o1 =>
  if jIn (a0 + 1) 150 then
  jbN (mSNumbers (upd (mNumbers (o1.2)) (a0 + 1).toNatClampNeg (o1.1)) (o1.2)) fun w4 =>
  (f_X11_digit w4).bind fun o5 =>
  if jIn (a0 + 2) 150 then
  jbN (mSNumbers (upd (mNumbers (o5.2)) (a0 + 2).toNatClampNeg (o5.1)) (o5.2)) fun w8 =>
  some w8
  else none
  else none
def rm_X11_cell : Room := { frames := 3, cells := 0, slots := 0, locals := 64 }
theorem hd_X11_cell : yX11_cell.cls = RX11 ∧ yX11_cell.cls ≠ "java/lang/invoke/MethodHandle" ∧ yX11_cell.cls ≠ "java/lang/invoke/VarHandle" ∧ (parseMethodDescriptor yX11_cell.desc).map (fun d => d.parameters.length) = some 1 := by decide +kernel
set_option maxHeartbeats 4000000 in
set_option maxRecDepth 100000 in
theorem c_X11_cell (l : Launch) (g : GG) (hm : Nat → Nat) (mv : MV)  (a0 : Int32) (out : MV) (hf : f_X11_cell mv a0 = some out) : MtV l yX11_cell wsX11_cell rm_X11_cell g (wM g hm mv) [.ref (hm 0), .int a0]  (wM g hm out) 0 0 := by
  refine fun sz => mt_of (cc := cX11_cell) (maxL := 2) (ret := none) (own := RX11) (Qc := fun A => va_Qv (fun (_ : Unit) => True) (fun _ t => PosM g A (wM g hm out) t) A) (by decide +kernel) rfl rfl (Nat.le_of_ble_eq_true rfl) ?_ sz
  intro p e s mi below meth c A ls hB hnm hrt hlk hP hD hl
  obtain ⟨hx, hb, hml, hown, hts, hK, hZ, hT, hA, -⟩ := hB
  have hS : va_S A s.heap s.heap [] := va_S.rf
  have hl : lv_has ls 2 [(0, .ref (hm 0)), (1, .int a0)] := hl
  have hinX11 : ∀ w ∈ wsX110, w ∈ wsX11_cell := by decide +kernel
  have k0 := hts (.fieldLink RX11 38 "TerraceQuarryModel" "numbers" "[I") (by decide +kernel)
  generalize hQ : MQ below _ _ _ _ _ _ = Q
  unfold f_X11_cell at hf
  refine lv_aload_n hx hb dX11_cell_0 rfl (lv_at hl 0 rfl) ?_
  refine va_get (D := gD g) (ci := 10) (v := .ref (hm 8)) (C := RX11) (T := TX11) (N := 19) hx hb hts hinX11 hown hK hP 0 rfl rfl 18 (by decide) k0 (fun _ h9 => h9) rfl dX11_cell_1 ?_
  refine lv_iload_n hx hb dX11_cell_4 rfl (lv_at hl 1 rfl) ?_
  refine lv_iconst (v := 1) hx hb dX11_cell_5 (by decide) ?_
  refine lv_iadd hx hb dX11_cell_6 ?_
  refine lv_aload_n hx hb dX11_cell_7 rfl (lv_at hl 0 rfl) ?_
  obtain ⟨o1, g2, hf⟩ := jbB_e hf
  refine cva_i (As := []) (rest := [.int (a0 + 1), .ref (hm 8)]) ⟨hx, hb, hml, hown, hts⟩ (c_X11_digit l g hm mv _ g2) (cwV 0 hts gX11_cell_X11_digit rfl rfl rfl hd_X11_digit ⟨Nat.le_of_ble_eq_true rfl, Nat.le_of_ble_eq_true rfl⟩) hK hZ hT hA hP hD hS hl.1 (va_recv hK hP (ci := 10) (q0 := 0) rfl rfl) rfl rfl (Nat.le_of_ble_eq_true rfl) ⟨Nat.le_of_ble_eq_true rfl, Nat.le_of_ble_eq_true rfl⟩ dX11_cell_8 (fun H locs hP hD hS => ?_)
  obtain ⟨h3, hf⟩ := jbA_e hf
  refine va_iast hx hb hK hP hD hS 8 0 rfl rfl h3 dX11_cell_11 (fun H locs hP hD hS => ?_)
  obtain ⟨w4, ew4⟩ : ∃ y, y = (mSNumbers (upd (mNumbers (o1.2)) (a0 + 1).toNatClampNeg (o1.1)) (o1.2)) := ⟨_, rfl⟩
  have hf := jbN_e hf ew4
  have hP : va_P (gD g) vwCl (wM g hm w4) H := by rw [ew4]; exact hP
  have hD : va_D A (wM g hm w4) := by rw [ew4]; exact hD
  refine lv_aload_n hx hb dX11_cell_12 rfl (lv_at hl 0 rfl) ?_
  refine va_get (D := gD g) (ci := 10) (v := .ref (hm 8)) (C := RX11) (T := TX11) (N := 19) hx hb hts hinX11 hown hK hP 0 rfl rfl 18 (by decide) k0 (fun _ h9 => h9) rfl dX11_cell_13 ?_
  refine lv_iload_n hx hb dX11_cell_16 rfl (lv_at hl 1 rfl) ?_
  refine lv_iconst (v := 2) hx hb dX11_cell_17 (by decide) ?_
  refine lv_iadd hx hb dX11_cell_18 ?_
  refine lv_aload_n hx hb dX11_cell_19 rfl (lv_at hl 0 rfl) ?_
  obtain ⟨o5, g6, hf⟩ := jbB_e hf
  refine cva_i (As := []) (rest := [.int (a0 + 2), .ref (hm 8)]) ⟨hx, hb, hml, hown, hts⟩ (c_X11_digit l g hm w4 _ g6) (cwV 0 hts gX11_cell_X11_digit rfl rfl rfl hd_X11_digit ⟨Nat.le_of_ble_eq_true rfl, Nat.le_of_ble_eq_true rfl⟩) hK hZ hT hA hP hD hS hl.1 (va_recv hK hP (ci := 10) (q0 := 0) rfl rfl) rfl rfl (Nat.le_of_ble_eq_true rfl) ⟨Nat.le_of_ble_eq_true rfl, Nat.le_of_ble_eq_true rfl⟩ dX11_cell_20 (fun H locs hP hD hS => ?_)
  obtain ⟨h7, hf⟩ := jbA_e hf
  refine va_iast hx hb hK hP hD hS 8 0 rfl rfl h7 dX11_cell_23 (fun H locs hP hD hS => ?_)
  obtain ⟨w8, ew8⟩ : ∃ y, y = (mSNumbers (upd (mNumbers (o5.2)) (a0 + 2).toNatClampNeg (o5.1)) (o5.2)) := ⟨_, rfl⟩
  have hf := jbN_e hf ew8
  have hP : va_P (gD g) vwCl (wM g hm w8) H := by rw [ew8]; exact hP
  have hD : va_D A (wM g hm w8) := by rw [ew8]; exact hD
  cases hf
  subst hQ
  exact rt_v hx hb hrt hlk hK hP hD hS (Nat.le_of_ble_eq_true rfl) (Nat.le_of_ble_eq_true rfl) dX11_cell_24
def f_X11_readsCommand_J135 (mv : MV) (x1 : Int32) (x2 : Int32) : Option MV :=
  if x2 = 5 then
  ((f_X11_digitBehindBlank mv).bind fun o25 =>
  if jIn (x1 + 3) 150 then
  jbN (mSNumbers (upd (mNumbers (o25.2)) (x1 + 3).toNatClampNeg (o25.1)) (o25.2)) fun w28 =>
  (f_X11_digitBehindBlank w28).bind fun o29 =>
  if jIn (x1 + 4) 150 then
  jbN (mSNumbers (upd (mNumbers (o29.2)) (x1 + 4).toNatClampNeg (o29.1)) (o29.2)) fun w32 =>
  some w32
  else none
  else none)
  else
  (some mv)
def f_X11_readsCommand_J119 (mv : MV) (x1 : Int32) (x2 : Int32) : Option MV :=
  if x2 = 0 then
  ((f_X11_digit mv).bind fun o21 =>
  if jIn (x1 + 3) 150 then
  jbN (mSNumbers (upd (mNumbers (o21.2)) (x1 + 3).toNatClampNeg (o21.1)) (o21.2)) fun w24 =>
  f_X11_readsCommand_J135 w24 x1 x2
  else none)
  else
  (f_X11_readsCommand_J135 mv x1 x2)
def f_X11_readsCommand_J88 (mv : MV) (x1 : Int32) (x2 : Int32) : Option MV :=
  if x2 = 7 then
  ((f_X11_number mv).bind fun o17 =>
  if jIn (x1 + 4) 150 then
  jbN (mSNumbers (upd (mNumbers (o17.2)) (x1 + 4).toNatClampNeg (o17.1)) (o17.2)) fun w20 =>
  f_X11_readsCommand_J119 w20 x1 x2
  else none)
  else
  (if x2 = 4 then
  (f_X11_readsCommand_J119 mv x1 x2)
  else
  ((f_X11_cell mv x1).bind fun o15 =>
  f_X11_readsCommand_J119 o15 x1 x2))
def f_X11_readsCommand_J79 (mv : MV) (x1 : Int32) (x2 : Int32) : Option MV :=
  (f_X11_reads mv 32 32).bind fun o12 =>
  jbN (o12.1) fun z14 =>
  f_X11_readsCommand_J88 (o12.2) x1 x2
def f_X11_readsCommand_J67 (mv : MV) (x1 : Int32) (x2 : Int32) : Option MV :=
  if x2 = 6 then
  (f_X11_readsCommand_J79 mv x1 x2)
  else
  (if x2 = 7 then
  (f_X11_readsCommand_J79 mv x1 x2)
  else
  (f_X11_readsCommand_J88 mv x1 x2))
def f_X11_readsCommand_J55 (mv : MV) (x1 : Int32) (x2 : Int32) : Option MV :=
  (f_X11_digit mv).bind fun o8 =>
  if jIn (x1 + 3) 150 then
  jbN (mSNumbers (upd (mNumbers (o8.2)) (x1 + 3).toNatClampNeg (o8.1)) (o8.2)) fun w11 =>
  f_X11_readsCommand_J67 w11 x1 x2
  else none
def f_X11_readsCommand (mv : MV) : Option MV :=
  jbN (5 * (mTold mv)) fun z1 =>
  (f_X11_kindHere mv).bind fun o2 =>
  jbN (o2.1) fun z4 =>
  if jIn z1 150 then
  jbN (mSNumbers (upd (mNumbers (o2.2)) z1.toNatClampNeg z4) (o2.2)) fun w6 =>
  jbN (mSTold ((mTold w6) + 1) w6) fun w7 =>
  if (mWrong w7) = (-1) then
  (if z4 = 4 then
  (f_X11_readsCommand_J55 w7 z1 z4)
  else
  (if z4 = 7 then
  (f_X11_readsCommand_J55 w7 z1 z4)
  else
  (if z4 = 6 then
  (f_X11_readsCommand_J55 w7 z1 z4)
  else
  (f_X11_readsCommand_J67 w7 z1 z4))))
  else
  (some w7)
  else none
def rm_X11_readsCommand : Room := { frames := 5, cells := 0, slots := 0, locals := 110 }
theorem hd_X11_readsCommand : yX11_readsCommand.cls = RX11 ∧ yX11_readsCommand.cls ≠ "java/lang/invoke/MethodHandle" ∧ yX11_readsCommand.cls ≠ "java/lang/invoke/VarHandle" ∧ (parseMethodDescriptor yX11_readsCommand.desc).map (fun d => d.parameters.length) = some 0 := by decide +kernel
set_option maxHeartbeats 4000000 in
set_option maxRecDepth 100000 in
theorem c_X11_readsCommand (l : Launch) (g : GG) (hm : Nat → Nat) (mv : MV)   (out : MV) (hf : f_X11_readsCommand mv = some out) : MtV l yX11_readsCommand wsX11_readsCommand rm_X11_readsCommand g (wM g hm mv) [.ref (hm 0)]  (wM g hm out) 0 0 := by
  refine fun sz => mt_of (cc := cX11_readsCommand) (maxL := 4) (ret := none) (own := RX11) (Qc := fun A => va_Qv (fun (_ : Unit) => True) (fun _ t => PosM g A (wM g hm out) t) A) (by decide +kernel) rfl rfl (Nat.le_of_ble_eq_true rfl) ?_ sz
  intro p e s mi below meth c A ls hB hnm hrt hlk hP hD hl
  obtain ⟨hx, hb, hml, hown, hts, hK, hZ, hT, hA, -⟩ := hB
  have hS : va_S A s.heap s.heap [] := va_S.rf
  have hl : lv_has ls 4 [(0, .ref (hm 0))] := hl
  have hinX11 : ∀ w ∈ wsX110, w ∈ wsX11_readsCommand := by decide +kernel
  have k0 := hts (.fieldLink RX11 236 "TerraceQuarryModel" "told" "I") (by decide +kernel)
  have k1 := hts (.fieldLink RX11 38 "TerraceQuarryModel" "numbers" "[I") (by decide +kernel)
  have k2 := hts (.fieldLink RX11 213 "TerraceQuarryModel" "wrong" "I") (by decide +kernel)
  generalize hQ : MQ below _ _ _ _ _ _ = Q
  unfold f_X11_readsCommand at hf
  have hJ135 : ∀ (mv : MV) (x1 : Int32) (x2 : Int32) (H : Heap) (locs : List Loc) (ls : Array Slot), f_X11_readsCommand_J135 mv x1 x2 = some out → va_P (gD g) vwCl (wM g hm mv) H → va_D A (wM g hm mv) → va_S A s.heap H locs → lv_has ls 4 [(0, .ref (hm 0)), (1, .int x1), (2, .int x2)] → W p l e rm_X11_readsCommand s mi [.ref (hm 0)].toArray below meth c H locs 0 0 Q (F0 mi 135 ls []) := by
    intro mv x1 x2 H locs ls hf hP hD hS hl
    unfold f_X11_readsCommand_J135 at hf
    refine lv_iload_n hx hb dX11_readsCommand_135 rfl (lv_at hl 2 rfl) ?_
    refine lv_iconst (v := 5) hx hb dX11_readsCommand_136 (by decide) ?_
    refine lv_icmp_ne (tgt := 164) hx hb dX11_readsCommand_137 (by decide) (fun hc => ?_) (fun hc => ?_)
    · have hf := jbF hf hc
      cases hf
      subst hQ
      exact rt_v hx hb hrt hlk hK hP hD hS (Nat.le_of_ble_eq_true rfl) (Nat.le_of_ble_eq_true rfl) dX11_readsCommand_164
    · have hf := jbT hf hc
      refine lv_aload_n hx hb dX11_readsCommand_140 rfl (lv_at hl 0 rfl) ?_
      refine va_get (D := gD g) (ci := 10) (v := .ref (hm 8)) (C := RX11) (T := TX11) (N := 19) hx hb hts hinX11 hown hK hP 0 rfl rfl 18 (by decide) k1 (fun _ h9 => h9) rfl dX11_readsCommand_141 ?_
      refine lv_iload_n hx hb dX11_readsCommand_144 rfl (lv_at hl 1 rfl) ?_
      refine lv_iconst (v := 3) hx hb dX11_readsCommand_145 (by decide) ?_
      refine lv_iadd hx hb dX11_readsCommand_146 ?_
      refine lv_aload_n hx hb dX11_readsCommand_147 rfl (lv_at hl 0 rfl) ?_
      obtain ⟨o25, g26, hf⟩ := jbB_e hf
      refine cva_i (As := []) (rest := [.int (x1 + 3), .ref (hm 8)]) ⟨hx, hb, hml, hown, hts⟩ (c_X11_digitBehindBlank l g hm mv _ g26) (cwV 0 hts gX11_readsCommand_X11_digitBehindBlank rfl rfl rfl hd_X11_digitBehindBlank ⟨Nat.le_of_ble_eq_true rfl, Nat.le_of_ble_eq_true rfl⟩) hK hZ hT hA hP hD hS hl.1 (va_recv hK hP (ci := 10) (q0 := 0) rfl rfl) rfl rfl (Nat.le_of_ble_eq_true rfl) ⟨Nat.le_of_ble_eq_true rfl, Nat.le_of_ble_eq_true rfl⟩ dX11_readsCommand_148 (fun H locs hP hD hS => ?_)
      obtain ⟨h27, hf⟩ := jbA_e hf
      refine va_iast hx hb hK hP hD hS 8 0 rfl rfl h27 dX11_readsCommand_151 (fun H locs hP hD hS => ?_)
      obtain ⟨w28, ew28⟩ : ∃ y, y = (mSNumbers (upd (mNumbers (o25.2)) (x1 + 3).toNatClampNeg (o25.1)) (o25.2)) := ⟨_, rfl⟩
      have hf := jbN_e hf ew28
      have hP : va_P (gD g) vwCl (wM g hm w28) H := by rw [ew28]; exact hP
      have hD : va_D A (wM g hm w28) := by rw [ew28]; exact hD
      refine lv_aload_n hx hb dX11_readsCommand_152 rfl (lv_at hl 0 rfl) ?_
      refine va_get (D := gD g) (ci := 10) (v := .ref (hm 8)) (C := RX11) (T := TX11) (N := 19) hx hb hts hinX11 hown hK hP 0 rfl rfl 18 (by decide) k1 (fun _ h9 => h9) rfl dX11_readsCommand_153 ?_
      refine lv_iload_n hx hb dX11_readsCommand_156 rfl (lv_at hl 1 rfl) ?_
      refine lv_iconst (v := 4) hx hb dX11_readsCommand_157 (by decide) ?_
      refine lv_iadd hx hb dX11_readsCommand_158 ?_
      refine lv_aload_n hx hb dX11_readsCommand_159 rfl (lv_at hl 0 rfl) ?_
      obtain ⟨o29, g30, hf⟩ := jbB_e hf
      refine cva_i (As := []) (rest := [.int (x1 + 4), .ref (hm 8)]) ⟨hx, hb, hml, hown, hts⟩ (c_X11_digitBehindBlank l g hm w28 _ g30) (cwV 0 hts gX11_readsCommand_X11_digitBehindBlank rfl rfl rfl hd_X11_digitBehindBlank ⟨Nat.le_of_ble_eq_true rfl, Nat.le_of_ble_eq_true rfl⟩) hK hZ hT hA hP hD hS hl.1 (va_recv hK hP (ci := 10) (q0 := 0) rfl rfl) rfl rfl (Nat.le_of_ble_eq_true rfl) ⟨Nat.le_of_ble_eq_true rfl, Nat.le_of_ble_eq_true rfl⟩ dX11_readsCommand_160 (fun H locs hP hD hS => ?_)
      obtain ⟨h31, hf⟩ := jbA_e hf
      refine va_iast hx hb hK hP hD hS 8 0 rfl rfl h31 dX11_readsCommand_163 (fun H locs hP hD hS => ?_)
      obtain ⟨w32, ew32⟩ : ∃ y, y = (mSNumbers (upd (mNumbers (o29.2)) (x1 + 4).toNatClampNeg (o29.1)) (o29.2)) := ⟨_, rfl⟩
      have hf := jbN_e hf ew32
      have hP : va_P (gD g) vwCl (wM g hm w32) H := by rw [ew32]; exact hP
      have hD : va_D A (wM g hm w32) := by rw [ew32]; exact hD
      cases hf
      subst hQ
      exact rt_v hx hb hrt hlk hK hP hD hS (Nat.le_of_ble_eq_true rfl) (Nat.le_of_ble_eq_true rfl) dX11_readsCommand_164
  have hJ119 : ∀ (mv : MV) (x1 : Int32) (x2 : Int32) (H : Heap) (locs : List Loc) (ls : Array Slot), f_X11_readsCommand_J119 mv x1 x2 = some out → va_P (gD g) vwCl (wM g hm mv) H → va_D A (wM g hm mv) → va_S A s.heap H locs → lv_has ls 4 [(0, .ref (hm 0)), (1, .int x1), (2, .int x2)] → W p l e rm_X11_readsCommand s mi [.ref (hm 0)].toArray below meth c H locs 0 0 Q (F0 mi 119 ls []) := by
    intro mv x1 x2 H locs ls hf hP hD hS hl
    unfold f_X11_readsCommand_J119 at hf
    refine lv_iload_n hx hb dX11_readsCommand_119 rfl (lv_at hl 2 rfl) ?_
    refine lv_if_ne (tgt := 135) hx hb dX11_readsCommand_120 (by decide) (fun hc => ?_) (fun hc => ?_)
    · have hf := jbF hf hc
      exact hJ135 mv x1 x2 _ _ _ hf hP hD hS (lv_sub hl [0, 1, 2] rfl)
    · have hf := jbT hf hc
      refine lv_aload_n hx hb dX11_readsCommand_123 rfl (lv_at hl 0 rfl) ?_
      refine va_get (D := gD g) (ci := 10) (v := .ref (hm 8)) (C := RX11) (T := TX11) (N := 19) hx hb hts hinX11 hown hK hP 0 rfl rfl 18 (by decide) k1 (fun _ h9 => h9) rfl dX11_readsCommand_124 ?_
      refine lv_iload_n hx hb dX11_readsCommand_127 rfl (lv_at hl 1 rfl) ?_
      refine lv_iconst (v := 3) hx hb dX11_readsCommand_128 (by decide) ?_
      refine lv_iadd hx hb dX11_readsCommand_129 ?_
      refine lv_aload_n hx hb dX11_readsCommand_130 rfl (lv_at hl 0 rfl) ?_
      obtain ⟨o21, g22, hf⟩ := jbB_e hf
      refine cva_i (As := []) (rest := [.int (x1 + 3), .ref (hm 8)]) ⟨hx, hb, hml, hown, hts⟩ (c_X11_digit l g hm mv _ g22) (cwV 0 hts gX11_readsCommand_X11_digit rfl rfl rfl hd_X11_digit ⟨Nat.le_of_ble_eq_true rfl, Nat.le_of_ble_eq_true rfl⟩) hK hZ hT hA hP hD hS hl.1 (va_recv hK hP (ci := 10) (q0 := 0) rfl rfl) rfl rfl (Nat.le_of_ble_eq_true rfl) ⟨Nat.le_of_ble_eq_true rfl, Nat.le_of_ble_eq_true rfl⟩ dX11_readsCommand_131 (fun H locs hP hD hS => ?_)
      obtain ⟨h23, hf⟩ := jbA_e hf
      refine va_iast hx hb hK hP hD hS 8 0 rfl rfl h23 dX11_readsCommand_134 (fun H locs hP hD hS => ?_)
      obtain ⟨w24, ew24⟩ : ∃ y, y = (mSNumbers (upd (mNumbers (o21.2)) (x1 + 3).toNatClampNeg (o21.1)) (o21.2)) := ⟨_, rfl⟩
      have hf := jbN_e hf ew24
      have hP : va_P (gD g) vwCl (wM g hm w24) H := by rw [ew24]; exact hP
      have hD : va_D A (wM g hm w24) := by rw [ew24]; exact hD
      exact hJ135 w24 x1 x2 _ _ _ hf hP hD hS (lv_sub hl [0, 1, 2] rfl)
  have hJ88 : ∀ (mv : MV) (x1 : Int32) (x2 : Int32) (H : Heap) (locs : List Loc) (ls : Array Slot), f_X11_readsCommand_J88 mv x1 x2 = some out → va_P (gD g) vwCl (wM g hm mv) H → va_D A (wM g hm mv) → va_S A s.heap H locs → lv_has ls 4 [(0, .ref (hm 0)), (1, .int x1), (2, .int x2)] → W p l e rm_X11_readsCommand s mi [.ref (hm 0)].toArray below meth c H locs 0 0 Q (F0 mi 88 ls []) := by
    intro mv x1 x2 H locs ls hf hP hD hS hl
    unfold f_X11_readsCommand_J88 at hf
    refine lv_iload_n hx hb dX11_readsCommand_88 rfl (lv_at hl 2 rfl) ?_
    refine lv_bipush (v := 7) hx hb dX11_readsCommand_89 (by decide) ?_
    refine lv_icmp_ne (tgt := 109) hx hb dX11_readsCommand_91 (by decide) (fun hc => ?_) (fun hc => ?_)
    · have hf := jbF hf hc
      refine lv_iload_n hx hb dX11_readsCommand_109 rfl (lv_at hl 2 rfl) ?_
      refine lv_iconst (v := 4) hx hb dX11_readsCommand_110 (by decide) ?_
      refine lv_icmp_eq (tgt := 119) hx hb dX11_readsCommand_111 (by decide) (fun hc => ?_) (fun hc => ?_)
      · have hf := jbT hf hc
        exact hJ119 mv x1 x2 _ _ _ hf hP hD hS (lv_sub hl [0, 1, 2] rfl)
      · have hf := jbF hf hc
        refine lv_aload_n hx hb dX11_readsCommand_114 rfl (lv_at hl 0 rfl) ?_
        refine lv_iload_n hx hb dX11_readsCommand_115 rfl (lv_at hl 1 rfl) ?_
        obtain ⟨o15, g16, hf⟩ := jbB_e hf
        refine cva_v (As := [.int x1]) (rest := []) ⟨hx, hb, hml, hown, hts⟩ (c_X11_cell l g hm mv x1 _ g16) (cwV 1 hts gX11_readsCommand_X11_cell rfl rfl rfl hd_X11_cell ⟨Nat.le_of_ble_eq_true rfl, Nat.le_of_ble_eq_true rfl⟩) hK hZ hT hA hP hD hS hl.1 (va_recv hK hP (ci := 10) (q0 := 0) rfl rfl) rfl rfl (Nat.le_of_ble_eq_true rfl) ⟨Nat.le_of_ble_eq_true rfl, Nat.le_of_ble_eq_true rfl⟩ dX11_readsCommand_116 (fun H locs hP hD hS => ?_)
        exact hJ119 o15 x1 x2 _ _ _ hf hP hD hS (lv_sub hl [0, 1, 2] rfl)
    · have hf := jbT hf hc
      refine lv_aload_n hx hb dX11_readsCommand_94 rfl (lv_at hl 0 rfl) ?_
      refine va_get (D := gD g) (ci := 10) (v := .ref (hm 8)) (C := RX11) (T := TX11) (N := 19) hx hb hts hinX11 hown hK hP 0 rfl rfl 18 (by decide) k1 (fun _ h9 => h9) rfl dX11_readsCommand_95 ?_
      refine lv_iload_n hx hb dX11_readsCommand_98 rfl (lv_at hl 1 rfl) ?_
      refine lv_iconst (v := 4) hx hb dX11_readsCommand_99 (by decide) ?_
      refine lv_iadd hx hb dX11_readsCommand_100 ?_
      refine lv_aload_n hx hb dX11_readsCommand_101 rfl (lv_at hl 0 rfl) ?_
      obtain ⟨o17, g18, hf⟩ := jbB_e hf
      refine cva_i (As := []) (rest := [.int (x1 + 4), .ref (hm 8)]) ⟨hx, hb, hml, hown, hts⟩ (c_X11_number l g hm mv _ g18) (cwV 0 hts gX11_readsCommand_X11_number rfl rfl rfl hd_X11_number ⟨Nat.le_of_ble_eq_true rfl, Nat.le_of_ble_eq_true rfl⟩) hK hZ hT hA hP hD hS hl.1 (va_recv hK hP (ci := 10) (q0 := 0) rfl rfl) rfl rfl (Nat.le_of_ble_eq_true rfl) ⟨Nat.le_of_ble_eq_true rfl, Nat.le_of_ble_eq_true rfl⟩ dX11_readsCommand_102 (fun H locs hP hD hS => ?_)
      obtain ⟨h19, hf⟩ := jbA_e hf
      refine va_iast hx hb hK hP hD hS 8 0 rfl rfl h19 dX11_readsCommand_105 (fun H locs hP hD hS => ?_)
      obtain ⟨w20, ew20⟩ : ∃ y, y = (mSNumbers (upd (mNumbers (o17.2)) (x1 + 4).toNatClampNeg (o17.1)) (o17.2)) := ⟨_, rfl⟩
      have hf := jbN_e hf ew20
      have hP : va_P (gD g) vwCl (wM g hm w20) H := by rw [ew20]; exact hP
      have hD : va_D A (wM g hm w20) := by rw [ew20]; exact hD
      refine lv_goto (tgt := 119) hx hb dX11_readsCommand_106 (by decide) ?_
      exact hJ119 w20 x1 x2 _ _ _ hf hP hD hS (lv_sub hl [0, 1, 2] rfl)
  have hJ79 : ∀ (mv : MV) (x1 : Int32) (x2 : Int32) (H : Heap) (locs : List Loc) (ls : Array Slot), f_X11_readsCommand_J79 mv x1 x2 = some out → va_P (gD g) vwCl (wM g hm mv) H → va_D A (wM g hm mv) → va_S A s.heap H locs → lv_has ls 4 [(0, .ref (hm 0)), (1, .int x1), (2, .int x2)] → W p l e rm_X11_readsCommand s mi [.ref (hm 0)].toArray below meth c H locs 0 0 Q (F0 mi 79 ls []) := by
    intro mv x1 x2 H locs ls hf hP hD hS hl
    unfold f_X11_readsCommand_J79 at hf
    refine lv_aload_n hx hb dX11_readsCommand_79 rfl (lv_at hl 0 rfl) ?_
    refine lv_bipush (v := 32) hx hb dX11_readsCommand_80 (by decide) ?_
    refine lv_bipush (v := 32) hx hb dX11_readsCommand_82 (by decide) ?_
    obtain ⟨o12, g13, hf⟩ := jbB_e hf
    refine cva_i (As := [.int 32, .int 32]) (rest := []) ⟨hx, hb, hml, hown, hts⟩ (c_X11_reads l g hm mv 32 32 _ g13) (cwV 2 hts gX11_readsCommand_X11_reads rfl rfl rfl hd_X11_reads ⟨Nat.le_of_ble_eq_true rfl, Nat.le_of_ble_eq_true rfl⟩) hK hZ hT hA hP hD hS hl.1 (va_recv hK hP (ci := 10) (q0 := 0) rfl rfl) rfl rfl (Nat.le_of_ble_eq_true rfl) ⟨Nat.le_of_ble_eq_true rfl, Nat.le_of_ble_eq_true rfl⟩ dX11_readsCommand_84 (fun H locs hP hD hS => ?_)
    refine lv_topi (fun z14 ez14 => ?_)
    have hf := jbN_e hf ez14
    refine lv_istore_n (lv' := [(3, .int z14), (0, .ref (hm 0)), (1, .int x1), (2, .int x2)]) hx hb dX11_readsCommand_87 rfl hl (by decide) rfl (fun ls hl => ?_)
    exact hJ88 (o12.2) x1 x2 _ _ _ hf hP hD hS (lv_sub hl [1, 2, 3] rfl)
  have hJ67 : ∀ (mv : MV) (x1 : Int32) (x2 : Int32) (H : Heap) (locs : List Loc) (ls : Array Slot), f_X11_readsCommand_J67 mv x1 x2 = some out → va_P (gD g) vwCl (wM g hm mv) H → va_D A (wM g hm mv) → va_S A s.heap H locs → lv_has ls 4 [(0, .ref (hm 0)), (1, .int x1), (2, .int x2)] → W p l e rm_X11_readsCommand s mi [.ref (hm 0)].toArray below meth c H locs 0 0 Q (F0 mi 67 ls []) := by
    intro mv x1 x2 H locs ls hf hP hD hS hl
    unfold f_X11_readsCommand_J67 at hf
    refine lv_iload_n hx hb dX11_readsCommand_67 rfl (lv_at hl 2 rfl) ?_
    refine lv_bipush (v := 6) hx hb dX11_readsCommand_68 (by decide) ?_
    refine lv_icmp_eq (tgt := 79) hx hb dX11_readsCommand_70 (by decide) (fun hc => ?_) (fun hc => ?_)
    · have hf := jbT hf hc
      exact hJ79 mv x1 x2 _ _ _ hf hP hD hS (lv_sub hl [0, 1, 2] rfl)
    · have hf := jbF hf hc
      refine lv_iload_n hx hb dX11_readsCommand_73 rfl (lv_at hl 2 rfl) ?_
      refine lv_bipush (v := 7) hx hb dX11_readsCommand_74 (by decide) ?_
      refine lv_icmp_ne (tgt := 88) hx hb dX11_readsCommand_76 (by decide) (fun hc => ?_) (fun hc => ?_)
      · have hf := jbF hf hc
        exact hJ88 mv x1 x2 _ _ _ hf hP hD hS (lv_sub hl [0, 1, 2] rfl)
      · have hf := jbT hf hc
        exact hJ79 mv x1 x2 _ _ _ hf hP hD hS (lv_sub hl [0, 1, 2] rfl)
  have hJ55 : ∀ (mv : MV) (x1 : Int32) (x2 : Int32) (H : Heap) (locs : List Loc) (ls : Array Slot), f_X11_readsCommand_J55 mv x1 x2 = some out → va_P (gD g) vwCl (wM g hm mv) H → va_D A (wM g hm mv) → va_S A s.heap H locs → lv_has ls 4 [(0, .ref (hm 0)), (1, .int x1), (2, .int x2)] → W p l e rm_X11_readsCommand s mi [.ref (hm 0)].toArray below meth c H locs 0 0 Q (F0 mi 55 ls []) := by
    intro mv x1 x2 H locs ls hf hP hD hS hl
    unfold f_X11_readsCommand_J55 at hf
    refine lv_aload_n hx hb dX11_readsCommand_55 rfl (lv_at hl 0 rfl) ?_
    refine va_get (D := gD g) (ci := 10) (v := .ref (hm 8)) (C := RX11) (T := TX11) (N := 19) hx hb hts hinX11 hown hK hP 0 rfl rfl 18 (by decide) k1 (fun _ h9 => h9) rfl dX11_readsCommand_56 ?_
    refine lv_iload_n hx hb dX11_readsCommand_59 rfl (lv_at hl 1 rfl) ?_
    refine lv_iconst (v := 3) hx hb dX11_readsCommand_60 (by decide) ?_
    refine lv_iadd hx hb dX11_readsCommand_61 ?_
    refine lv_aload_n hx hb dX11_readsCommand_62 rfl (lv_at hl 0 rfl) ?_
    obtain ⟨o8, g9, hf⟩ := jbB_e hf
    refine cva_i (As := []) (rest := [.int (x1 + 3), .ref (hm 8)]) ⟨hx, hb, hml, hown, hts⟩ (c_X11_digit l g hm mv _ g9) (cwV 0 hts gX11_readsCommand_X11_digit rfl rfl rfl hd_X11_digit ⟨Nat.le_of_ble_eq_true rfl, Nat.le_of_ble_eq_true rfl⟩) hK hZ hT hA hP hD hS hl.1 (va_recv hK hP (ci := 10) (q0 := 0) rfl rfl) rfl rfl (Nat.le_of_ble_eq_true rfl) ⟨Nat.le_of_ble_eq_true rfl, Nat.le_of_ble_eq_true rfl⟩ dX11_readsCommand_63 (fun H locs hP hD hS => ?_)
    obtain ⟨h10, hf⟩ := jbA_e hf
    refine va_iast hx hb hK hP hD hS 8 0 rfl rfl h10 dX11_readsCommand_66 (fun H locs hP hD hS => ?_)
    obtain ⟨w11, ew11⟩ : ∃ y, y = (mSNumbers (upd (mNumbers (o8.2)) (x1 + 3).toNatClampNeg (o8.1)) (o8.2)) := ⟨_, rfl⟩
    have hf := jbN_e hf ew11
    have hP : va_P (gD g) vwCl (wM g hm w11) H := by rw [ew11]; exact hP
    have hD : va_D A (wM g hm w11) := by rw [ew11]; exact hD
    exact hJ67 w11 x1 x2 _ _ _ hf hP hD hS (lv_sub hl [0, 1, 2] rfl)
  refine lv_iconst (v := 5) hx hb dX11_readsCommand_0 (by decide) ?_
  refine lv_aload_n hx hb dX11_readsCommand_1 rfl (lv_at hl 0 rfl) ?_
  refine va_get (D := gD g) (ci := 10) (v := .int (mTold mv)) (C := RX11) (T := TX11) (N := 19) hx hb hts hinX11 hown hK hP 0 rfl rfl 17 (by decide) k0 (fun _ h9 => h9) rfl dX11_readsCommand_2 ?_
  refine lv_imul hx hb dX11_readsCommand_5 ?_
  refine lv_topi (fun z1 ez1 => ?_)
  have hf := jbN_e hf ez1
  refine lv_istore_n (lv' := [(1, .int z1), (0, .ref (hm 0))]) hx hb dX11_readsCommand_6 rfl hl (by decide) rfl (fun ls hl => ?_)
  refine lv_aload_n hx hb dX11_readsCommand_7 rfl (lv_at hl 1 rfl) ?_
  obtain ⟨o2, g3, hf⟩ := jbB_e hf
  refine cva_i (As := []) (rest := []) ⟨hx, hb, hml, hown, hts⟩ (c_X11_kindHere l g hm mv _ g3) (cwV 0 hts gX11_readsCommand_X11_kindHere rfl rfl rfl hd_X11_kindHere ⟨Nat.le_of_ble_eq_true rfl, Nat.le_of_ble_eq_true rfl⟩) hK hZ hT hA hP hD hS hl.1 (va_recv hK hP (ci := 10) (q0 := 0) rfl rfl) rfl rfl (Nat.le_of_ble_eq_true rfl) ⟨Nat.le_of_ble_eq_true rfl, Nat.le_of_ble_eq_true rfl⟩ dX11_readsCommand_8 (fun H locs hP hD hS => ?_)
  refine lv_topi (fun z4 ez4 => ?_)
  have hf := jbN_e hf ez4
  refine lv_istore_n (lv' := [(2, .int z4), (1, .int z1), (0, .ref (hm 0))]) hx hb dX11_readsCommand_11 rfl hl (by decide) rfl (fun ls hl => ?_)
  refine lv_aload_n hx hb dX11_readsCommand_12 rfl (lv_at hl 2 rfl) ?_
  refine va_get (D := gD g) (ci := 10) (v := .ref (hm 8)) (C := RX11) (T := TX11) (N := 19) hx hb hts hinX11 hown hK hP 0 rfl rfl 18 (by decide) k1 (fun _ h9 => h9) rfl dX11_readsCommand_13 ?_
  refine lv_iload_n hx hb dX11_readsCommand_16 rfl (lv_at hl 1 rfl) ?_
  refine lv_iload_n hx hb dX11_readsCommand_17 rfl (lv_at hl 0 rfl) ?_
  obtain ⟨h5, hf⟩ := jbA_e hf
  refine va_iast hx hb hK hP hD hS 8 0 rfl rfl h5 dX11_readsCommand_18 (fun H locs hP hD hS => ?_)
  obtain ⟨w6, ew6⟩ : ∃ y, y = (mSNumbers (upd (mNumbers (o2.2)) z1.toNatClampNeg z4) (o2.2)) := ⟨_, rfl⟩
  have hf := jbN_e hf ew6
  have hP : va_P (gD g) vwCl (wM g hm w6) H := by rw [ew6]; exact hP
  have hD : va_D A (wM g hm w6) := by rw [ew6]; exact hD
  refine lv_aload_n hx hb dX11_readsCommand_19 rfl (lv_at hl 2 rfl) ?_
  refine lv_dup hx hb dX11_readsCommand_20 rfl ?_
  refine va_get (D := gD g) (ci := 10) (v := .int (mTold w6)) (C := RX11) (T := TX11) (N := 19) hx hb hts hinX11 hown hK hP 0 rfl rfl 17 (by decide) k0 (fun _ h9 => h9) rfl dX11_readsCommand_21 ?_
  refine lv_iconst (v := 1) hx hb dX11_readsCommand_24 (by decide) ?_
  refine lv_iadd hx hb dX11_readsCommand_25 ?_
  refine va_put (D := gD g) (ci := 10) (v := .int ((mTold w6) + 1)) (ty := .int) (C := RX11) (T := TX11) (N := 19) hx hb hts hinX11 tyX11 tyX11_ok nmX11 hown hK hP hD hS 0 rfl rfl 17 (by decide) k0 (fun _ h9 => h9) rfl (tyX11_ok 17 (by decide)) rfl rfl (Nat.le_of_ble_eq_true rfl) dX11_readsCommand_26 (fun H locs hP hD hS => ?_)
  obtain ⟨w7, ew7⟩ : ∃ y, y = (mSTold ((mTold w6) + 1) w6) := ⟨_, rfl⟩
  have hf := jbN_e hf ew7
  have hP : va_P (gD g) vwCl (wM g hm w7) H := by rw [ew7]; exact hP
  have hD : va_D A (wM g hm w7) := by rw [ew7]; exact hD
  refine lv_aload_n hx hb dX11_readsCommand_29 rfl (lv_at hl 2 rfl) ?_
  refine va_get (D := gD g) (ci := 10) (v := .int (mWrong w7)) (C := RX11) (T := TX11) (N := 19) hx hb hts hinX11 hown hK hP 0 rfl rfl 16 (by decide) k2 (fun _ h9 => h9) rfl dX11_readsCommand_30 ?_
  refine lv_iconst (v := (-1)) hx hb dX11_readsCommand_33 (by decide) ?_
  refine lv_icmp_eq (tgt := 38) hx hb dX11_readsCommand_34 (by decide) (fun hc => ?_) (fun hc => ?_)
  · have hf := jbT hf hc
    refine lv_iload_n hx hb dX11_readsCommand_38 rfl (lv_at hl 0 rfl) ?_
    refine lv_iconst (v := 4) hx hb dX11_readsCommand_39 (by decide) ?_
    refine lv_icmp_eq (tgt := 55) hx hb dX11_readsCommand_40 (by decide) (fun hc => ?_) (fun hc => ?_)
    · have hf := jbT hf hc
      exact hJ55 w7 z1 z4 _ _ _ hf hP hD hS (lv_sub hl [2, 1, 0] rfl)
    · have hf := jbF hf hc
      refine lv_iload_n hx hb dX11_readsCommand_43 rfl (lv_at hl 0 rfl) ?_
      refine lv_bipush (v := 7) hx hb dX11_readsCommand_44 (by decide) ?_
      refine lv_icmp_eq (tgt := 55) hx hb dX11_readsCommand_46 (by decide) (fun hc => ?_) (fun hc => ?_)
      · have hf := jbT hf hc
        exact hJ55 w7 z1 z4 _ _ _ hf hP hD hS (lv_sub hl [2, 1, 0] rfl)
      · have hf := jbF hf hc
        refine lv_iload_n hx hb dX11_readsCommand_49 rfl (lv_at hl 0 rfl) ?_
        refine lv_bipush (v := 6) hx hb dX11_readsCommand_50 (by decide) ?_
        refine lv_icmp_ne (tgt := 67) hx hb dX11_readsCommand_52 (by decide) (fun hc => ?_) (fun hc => ?_)
        · have hf := jbF hf hc
          exact hJ67 w7 z1 z4 _ _ _ hf hP hD hS (lv_sub hl [2, 1, 0] rfl)
        · have hf := jbT hf hc
          exact hJ55 w7 z1 z4 _ _ _ hf hP hD hS (lv_sub hl [2, 1, 0] rfl)
  · have hf := jbF hf hc
    cases hf
    subst hQ
    exact rt_v hx hb hrt hlk hK hP hD hS (Nat.le_of_ble_eq_true rfl) (Nat.le_of_ble_eq_true rfl) dX11_readsCommand_37
def f_X11_readsAll_J72 (mv : MV) : Option (Sum MV MV) :=
  some (.inl mv)
def f_X11_readsAll_L32 (mv : MV) : Option (Sum MV MV) :=
  if (mWrong mv) = (-1) then
  (if (mSize mv) ≤ (mSpot mv) then
  (some (.inr mv))
  else
  ((f_X11_reads mv 59 59).bind fun o8 =>
  jbN (o8.1) fun z10 =>
  if (mWrong (o8.2)) = (-1) then
  ((f_X11_readsCommand (o8.2)).bind fun o11 =>
  f_X11_readsAll_J72 o11)
  else
  (f_X11_readsAll_J72 (o8.2))))
  else
  (some (.inr mv))
def f_X11_readsAll (mv : MV) : Option MV :=
  jbN (mSSize (mTyped mv) mv) fun w1 =>
  jbN (mSTyped 0 w1) fun w2 =>
  jbN (mSSpot 0 w2) fun w3 =>
  jbN (mSWrong (-1) w3) fun w4 =>
  jbN (mSTold 0 w4) fun w5 =>
  (f_X11_readsCommand w5).bind fun o6 =>
  (jbL (fun s => f_X11_readsAll_L32 s) 5000 o6).bind fun o32 =>
  some o32
def rm_X11_readsAll : Room := { frames := 6, cells := 0, slots := 0, locals := 133 }
theorem hd_X11_readsAll : yX11_readsAll.cls = RX11 ∧ yX11_readsAll.cls ≠ "java/lang/invoke/MethodHandle" ∧ yX11_readsAll.cls ≠ "java/lang/invoke/VarHandle" ∧ (parseMethodDescriptor yX11_readsAll.desc).map (fun d => d.parameters.length) = some 0 := by decide +kernel
set_option maxHeartbeats 4000000 in
set_option maxRecDepth 100000 in
theorem c_X11_readsAll (l : Launch) (g : GG) (hm : Nat → Nat) (mv : MV)   (out : MV) (hf : f_X11_readsAll mv = some out) : MtV l yX11_readsAll wsX11_readsAll rm_X11_readsAll g (wM g hm mv) [.ref (hm 0)]  (wM g hm out) 0 0 := by
  refine fun sz => mt_of (cc := cX11_readsAll) (maxL := 2) (ret := none) (own := RX11) (Qc := fun A => va_Qv (fun (_ : Unit) => True) (fun _ t => PosM g A (wM g hm out) t) A) (by decide +kernel) rfl rfl (Nat.le_of_ble_eq_true rfl) ?_ sz
  intro p e s mi below meth c A ls hB hnm hrt hlk hP hD hl
  obtain ⟨hx, hb, hml, hown, hts, hK, hZ, hT, hA, -⟩ := hB
  have hS : va_S A s.heap s.heap [] := va_S.rf
  have hl : lv_has ls 2 [(0, .ref (hm 0))] := hl
  have hinX11 : ∀ w ∈ wsX110, w ∈ wsX11_readsAll := by decide +kernel
  have k0 := hts (.fieldLink RX11 204 "TerraceQuarryModel" "typed" "I") (by decide +kernel)
  have k1 := hts (.fieldLink RX11 210 "TerraceQuarryModel" "size" "I") (by decide +kernel)
  have k2 := hts (.fieldLink RX11 207 "TerraceQuarryModel" "spot" "I") (by decide +kernel)
  have k3 := hts (.fieldLink RX11 213 "TerraceQuarryModel" "wrong" "I") (by decide +kernel)
  have k4 := hts (.fieldLink RX11 236 "TerraceQuarryModel" "told" "I") (by decide +kernel)
  generalize hQ : MQ below _ _ _ _ _ _ = Q
  unfold f_X11_readsAll at hf
  have hL32 : ∀ (n : Nat) (mv : MV) (H : Heap) (locs : List Loc) (ls : Array Slot) (o32 : MV), jbL (fun s => f_X11_readsAll_L32 s) n mv = some o32 → va_P (gD g) vwCl (wM g hm mv) H → va_D A (wM g hm mv) → va_S A s.heap H locs → lv_has ls 2 [(0, .ref (hm 0))] → (∀ (H : Heap) (locs : List Loc) (ls : Array Slot), va_P (gD g) vwCl (wM g hm o32) H → va_D A (wM g hm o32) → va_S A s.heap H locs → lv_has ls 2 [] → W p l e rm_X11_readsAll s mi [.ref (hm 0)].toArray below meth c H locs 0 0 Q (F0 mi 75 ls [])) → W p l e rm_X11_readsAll s mi [.ref (hm 0)].toArray below meth c H locs 0 0 Q (F0 mi 32 ls []) := by
    intro n
    induction n with
    | zero => intro mv H locs ls o32 hf; exact absurd hf (jbL_0 _ _ _)
    | succ n ih =>
      intro mv H locs ls o32 hf hP hD hS hl hk
      obtain ⟨r, hf, hr⟩ := jbL_e hf
      have hf : f_X11_readsAll_L32 mv = some r := hf
      unfold f_X11_readsAll_L32 at hf
      have hJ72 : ∀ (mv : MV) (H : Heap) (locs : List Loc) (ls : Array Slot) (r : Sum MV MV), f_X11_readsAll_J72 mv = some r → jbR (fun s => f_X11_readsAll_L32 s) n o32 r → va_P (gD g) vwCl (wM g hm mv) H → va_D A (wM g hm mv) → va_S A s.heap H locs → lv_has ls 2 [(0, .ref (hm 0))] → W p l e rm_X11_readsAll s mi [.ref (hm 0)].toArray below meth c H locs 0 0 Q (F0 mi 72 ls []) := by
        intro mv H locs ls r hf hr hP hD hS hl
        unfold f_X11_readsAll_J72 at hf
        refine lv_goto (tgt := 32) hx hb dX11_readsAll_72 (by decide) ?_
        cases hf
        exact ih mv _ _ _ _ hr hP hD hS (lv_sub hl [0] rfl) hk
      refine lv_aload_n hx hb dX11_readsAll_32 rfl (lv_at hl 0 rfl) ?_
      refine va_get (D := gD g) (ci := 10) (v := .int (mWrong mv)) (C := RX11) (T := TX11) (N := 19) hx hb hts hinX11 hown hK hP 0 rfl rfl 16 (by decide) k3 (fun _ h9 => h9) rfl dX11_readsAll_33 ?_
      refine lv_iconst (v := (-1)) hx hb dX11_readsAll_36 (by decide) ?_
      refine lv_icmp_ne (tgt := 75) hx hb dX11_readsAll_37 (by decide) (fun hc => ?_) (fun hc => ?_)
      · have hf := jbF hf hc
        cases hf
        obtain rfl := jbR_r hr
        exact hk _ _ _ hP hD hS (lv_sub hl [] rfl)
      · have hf := jbT hf hc
        refine lv_aload_n hx hb dX11_readsAll_40 rfl (lv_at hl 0 rfl) ?_
        refine va_get (D := gD g) (ci := 10) (v := .int (mSpot mv)) (C := RX11) (T := TX11) (N := 19) hx hb hts hinX11 hown hK hP 0 rfl rfl 15 (by decide) k2 (fun _ h9 => h9) rfl dX11_readsAll_41 ?_
        refine lv_aload_n hx hb dX11_readsAll_44 rfl (lv_at hl 0 rfl) ?_
        refine va_get (D := gD g) (ci := 10) (v := .int (mSize mv)) (C := RX11) (T := TX11) (N := 19) hx hb hts hinX11 hown hK hP 0 rfl rfl 14 (by decide) k1 (fun _ h9 => h9) rfl dX11_readsAll_45 ?_
        refine lv_icmp_ge (tgt := 75) hx hb dX11_readsAll_48 (by decide) (fun hc => ?_) (fun hc => ?_)
        · have hf := jbT hf hc
          cases hf
          obtain rfl := jbR_r hr
          exact hk _ _ _ hP hD hS (lv_sub hl [] rfl)
        · have hf := jbF hf hc
          refine lv_aload_n hx hb dX11_readsAll_51 rfl (lv_at hl 0 rfl) ?_
          refine lv_bipush (v := 59) hx hb dX11_readsAll_52 (by decide) ?_
          refine lv_bipush (v := 59) hx hb dX11_readsAll_54 (by decide) ?_
          obtain ⟨o8, g9, hf⟩ := jbB_e hf
          refine cva_i (As := [.int 59, .int 59]) (rest := []) ⟨hx, hb, hml, hown, hts⟩ (c_X11_reads l g hm mv 59 59 _ g9) (cwV 2 hts gX11_readsAll_X11_reads rfl rfl rfl hd_X11_reads ⟨Nat.le_of_ble_eq_true rfl, Nat.le_of_ble_eq_true rfl⟩) hK hZ hT hA hP hD hS hl.1 (va_recv hK hP (ci := 10) (q0 := 0) rfl rfl) rfl rfl (Nat.le_of_ble_eq_true rfl) ⟨Nat.le_of_ble_eq_true rfl, Nat.le_of_ble_eq_true rfl⟩ dX11_readsAll_56 (fun H locs hP hD hS => ?_)
          refine lv_topi (fun z10 ez10 => ?_)
          have hf := jbN_e hf ez10
          refine lv_istore_n (lv' := [(1, .int z10), (0, .ref (hm 0))]) hx hb dX11_readsAll_59 rfl hl (by decide) rfl (fun ls hl => ?_)
          refine lv_aload_n hx hb dX11_readsAll_60 rfl (lv_at hl 1 rfl) ?_
          refine va_get (D := gD g) (ci := 10) (v := .int (mWrong (o8.2))) (C := RX11) (T := TX11) (N := 19) hx hb hts hinX11 hown hK hP 0 rfl rfl 16 (by decide) k3 (fun _ h9 => h9) rfl dX11_readsAll_61 ?_
          refine lv_iconst (v := (-1)) hx hb dX11_readsAll_64 (by decide) ?_
          refine lv_icmp_ne (tgt := 72) hx hb dX11_readsAll_65 (by decide) (fun hc => ?_) (fun hc => ?_)
          · have hf := jbF hf hc
            exact hJ72 (o8.2) _ _ _ _ hf hr hP hD hS (lv_sub hl [1] rfl)
          · have hf := jbT hf hc
            refine lv_aload_n hx hb dX11_readsAll_68 rfl (lv_at hl 1 rfl) ?_
            obtain ⟨o11, g12, hf⟩ := jbB_e hf
            refine cva_v (As := []) (rest := []) ⟨hx, hb, hml, hown, hts⟩ (c_X11_readsCommand l g hm (o8.2) _ g12) (cwV 0 hts gX11_readsAll_X11_readsCommand rfl rfl rfl hd_X11_readsCommand ⟨Nat.le_of_ble_eq_true rfl, Nat.le_of_ble_eq_true rfl⟩) hK hZ hT hA hP hD hS hl.1 (va_recv hK hP (ci := 10) (q0 := 0) rfl rfl) rfl rfl (Nat.le_of_ble_eq_true rfl) ⟨Nat.le_of_ble_eq_true rfl, Nat.le_of_ble_eq_true rfl⟩ dX11_readsAll_69 (fun H locs hP hD hS => ?_)
            exact hJ72 o11 _ _ _ _ hf hr hP hD hS (lv_sub hl [1] rfl)
  refine lv_aload_n hx hb dX11_readsAll_0 rfl (lv_at hl 0 rfl) ?_
  refine lv_aload_n hx hb dX11_readsAll_1 rfl (lv_at hl 0 rfl) ?_
  refine va_get (D := gD g) (ci := 10) (v := .int (mTyped mv)) (C := RX11) (T := TX11) (N := 19) hx hb hts hinX11 hown hK hP 0 rfl rfl 10 (by decide) k0 (fun _ h9 => h9) rfl dX11_readsAll_2 ?_
  refine va_put (D := gD g) (ci := 10) (v := .int (mTyped mv)) (ty := .int) (C := RX11) (T := TX11) (N := 19) hx hb hts hinX11 tyX11 tyX11_ok nmX11 hown hK hP hD hS 0 rfl rfl 14 (by decide) k1 (fun _ h9 => h9) rfl (tyX11_ok 14 (by decide)) rfl rfl (Nat.le_of_ble_eq_true rfl) dX11_readsAll_5 (fun H locs hP hD hS => ?_)
  obtain ⟨w1, ew1⟩ : ∃ y, y = (mSSize (mTyped mv) mv) := ⟨_, rfl⟩
  have hf := jbN_e hf ew1
  have hP : va_P (gD g) vwCl (wM g hm w1) H := by rw [ew1]; exact hP
  have hD : va_D A (wM g hm w1) := by rw [ew1]; exact hD
  refine lv_aload_n hx hb dX11_readsAll_8 rfl (lv_at hl 0 rfl) ?_
  refine lv_iconst (v := 0) hx hb dX11_readsAll_9 (by decide) ?_
  refine va_put (D := gD g) (ci := 10) (v := .int 0) (ty := .int) (C := RX11) (T := TX11) (N := 19) hx hb hts hinX11 tyX11 tyX11_ok nmX11 hown hK hP hD hS 0 rfl rfl 10 (by decide) k0 (fun _ h9 => h9) rfl (tyX11_ok 10 (by decide)) rfl rfl (Nat.le_of_ble_eq_true rfl) dX11_readsAll_10 (fun H locs hP hD hS => ?_)
  obtain ⟨w2, ew2⟩ : ∃ y, y = (mSTyped 0 w1) := ⟨_, rfl⟩
  have hf := jbN_e hf ew2
  have hP : va_P (gD g) vwCl (wM g hm w2) H := by rw [ew2]; exact hP
  have hD : va_D A (wM g hm w2) := by rw [ew2]; exact hD
  refine lv_aload_n hx hb dX11_readsAll_13 rfl (lv_at hl 0 rfl) ?_
  refine lv_iconst (v := 0) hx hb dX11_readsAll_14 (by decide) ?_
  refine va_put (D := gD g) (ci := 10) (v := .int 0) (ty := .int) (C := RX11) (T := TX11) (N := 19) hx hb hts hinX11 tyX11 tyX11_ok nmX11 hown hK hP hD hS 0 rfl rfl 15 (by decide) k2 (fun _ h9 => h9) rfl (tyX11_ok 15 (by decide)) rfl rfl (Nat.le_of_ble_eq_true rfl) dX11_readsAll_15 (fun H locs hP hD hS => ?_)
  obtain ⟨w3, ew3⟩ : ∃ y, y = (mSSpot 0 w2) := ⟨_, rfl⟩
  have hf := jbN_e hf ew3
  have hP : va_P (gD g) vwCl (wM g hm w3) H := by rw [ew3]; exact hP
  have hD : va_D A (wM g hm w3) := by rw [ew3]; exact hD
  refine lv_aload_n hx hb dX11_readsAll_18 rfl (lv_at hl 0 rfl) ?_
  refine lv_iconst (v := (-1)) hx hb dX11_readsAll_19 (by decide) ?_
  refine va_put (D := gD g) (ci := 10) (v := .int (-1)) (ty := .int) (C := RX11) (T := TX11) (N := 19) hx hb hts hinX11 tyX11 tyX11_ok nmX11 hown hK hP hD hS 0 rfl rfl 16 (by decide) k3 (fun _ h9 => h9) rfl (tyX11_ok 16 (by decide)) rfl rfl (Nat.le_of_ble_eq_true rfl) dX11_readsAll_20 (fun H locs hP hD hS => ?_)
  obtain ⟨w4, ew4⟩ : ∃ y, y = (mSWrong (-1) w3) := ⟨_, rfl⟩
  have hf := jbN_e hf ew4
  have hP : va_P (gD g) vwCl (wM g hm w4) H := by rw [ew4]; exact hP
  have hD : va_D A (wM g hm w4) := by rw [ew4]; exact hD
  refine lv_aload_n hx hb dX11_readsAll_23 rfl (lv_at hl 0 rfl) ?_
  refine lv_iconst (v := 0) hx hb dX11_readsAll_24 (by decide) ?_
  refine va_put (D := gD g) (ci := 10) (v := .int 0) (ty := .int) (C := RX11) (T := TX11) (N := 19) hx hb hts hinX11 tyX11 tyX11_ok nmX11 hown hK hP hD hS 0 rfl rfl 17 (by decide) k4 (fun _ h9 => h9) rfl (tyX11_ok 17 (by decide)) rfl rfl (Nat.le_of_ble_eq_true rfl) dX11_readsAll_25 (fun H locs hP hD hS => ?_)
  obtain ⟨w5, ew5⟩ : ∃ y, y = (mSTold 0 w4) := ⟨_, rfl⟩
  have hf := jbN_e hf ew5
  have hP : va_P (gD g) vwCl (wM g hm w5) H := by rw [ew5]; exact hP
  have hD : va_D A (wM g hm w5) := by rw [ew5]; exact hD
  refine lv_aload_n hx hb dX11_readsAll_28 rfl (lv_at hl 0 rfl) ?_
  obtain ⟨o6, g7, hf⟩ := jbB_e hf
  refine cva_v (As := []) (rest := []) ⟨hx, hb, hml, hown, hts⟩ (c_X11_readsCommand l g hm w5 _ g7) (cwV 0 hts gX11_readsAll_X11_readsCommand rfl rfl rfl hd_X11_readsCommand ⟨Nat.le_of_ble_eq_true rfl, Nat.le_of_ble_eq_true rfl⟩) hK hZ hT hA hP hD hS hl.1 (va_recv hK hP (ci := 10) (q0 := 0) rfl rfl) rfl rfl (Nat.le_of_ble_eq_true rfl) ⟨Nat.le_of_ble_eq_true rfl, Nat.le_of_ble_eq_true rfl⟩ dX11_readsAll_29 (fun H locs hP hD hS => ?_)
  obtain ⟨o32, hg, hf⟩ := jbB_e hf
  refine hL32 _ o6 _ _ _ _ hg hP hD hS (lv_sub hl [0] rfl) (fun H locs ls hP hD hS hl => ?_)
  cases hf
  subst hQ
  exact rt_v hx hb hrt hlk hK hP hD hS (Nat.le_of_ble_eq_true rfl) (Nat.le_of_ble_eq_true rfl) dX11_readsAll_75
def f_X11_does (mv : MV) (a0 : Int32) : Option (Int32 × MV) :=
  if jIn (a0 + 1) 150 then
  jbN ((mNumbers mv) (a0 + 1).toNatClampNeg) fun z2 =>
  if jIn (a0 + 2) 150 then
  jbN ((mNumbers mv) (a0 + 2).toNatClampNeg) fun z4 =>
  if jIn (a0 + 3) 150 then
  jbN ((mNumbers mv) (a0 + 3).toNatClampNeg) fun z6 =>
  if jIn (a0 + 4) 150 then
  jbN ((mNumbers mv) (a0 + 4).toNatClampNeg) fun z8 =>
  if jIn a0 150 then
  if ((mNumbers mv) a0.toNatClampNeg) = 0 then
  ((f_X11_sets mv z2 z4 z6).bind fun o11 =>
  some ((o11.1), (o11.2)))
  else
  if ((mNumbers mv) a0.toNatClampNeg) = 1 then
  ((f_X11_cuts mv z2 z4).bind fun o14 =>
  some ((o14.1), (o14.2)))
  else
  if ((mNumbers mv) a0.toNatClampNeg) = 2 then
  ((f_X11_fills mv z2 z4).bind fun o17 =>
  some ((o17.1), (o17.2)))
  else
  if ((mNumbers mv) a0.toNatClampNeg) = 3 then
  ((f_X11_toggles mv z2 z4).bind fun o20 =>
  some ((o20.1), (o20.2)))
  else
  if ((mNumbers mv) a0.toNatClampNeg) = 4 then
  ((f_X11_limits mv z6).bind fun o23 =>
  some ((o23.1), (o23.2)))
  else
  if ((mNumbers mv) a0.toNatClampNeg) = 5 then
  ((f_X11_adds mv z2 z4 z6 z8).bind fun o26 =>
  some ((o26.1), (o26.2)))
  else
  if ((mNumbers mv) a0.toNatClampNeg) = 6 then
  ((f_X11_raises mv z6 z2 z4).bind fun o29 =>
  some ((o29.1), (o29.2)))
  else
  ((f_X11_crushes mv z6 z8).bind fun o31 =>
  some ((o31.1), (o31.2)))
  else none
  else none
  else none
  else none
  else none
def rm_X11_does : Room := { frames := 6, cells := 0, slots := 0, locals := 138 }
theorem hd_X11_does : yX11_does.cls = RX11 ∧ yX11_does.cls ≠ "java/lang/invoke/MethodHandle" ∧ yX11_does.cls ≠ "java/lang/invoke/VarHandle" ∧ (parseMethodDescriptor yX11_does.desc).map (fun d => d.parameters.length) = some 1 := by decide +kernel
set_option maxHeartbeats 4000000 in
set_option maxRecDepth 100000 in
theorem c_X11_does (l : Launch) (g : GG) (hm : Nat → Nat) (mv : MV)  (a0 : Int32) (out : Int32 × MV) (hf : f_X11_does mv a0 = some out) : MtI l yX11_does wsX11_does rm_X11_does g (wM g hm mv) [.ref (hm 0), .int a0] (out.1) (wM g hm (out.2)) 0 0 := by
  refine fun sz => mt_of (cc := cX11_does) (maxL := 6) (ret := (some .int)) (own := RX11) (Qc := fun A => va_Qi (fun r (_ : Unit) => r = (out.1)) (fun _ t => PosM g A (wM g hm (out.2)) t) A) (by decide +kernel) rfl rfl (Nat.le_of_ble_eq_true rfl) ?_ sz
  intro p e s mi below meth c A ls hB hnm hrt hlk hP hD hl
  obtain ⟨hx, hb, hml, hown, hts, hK, hZ, hT, hA, -⟩ := hB
  have hS : va_S A s.heap s.heap [] := va_S.rf
  have hl : lv_has ls 6 [(0, .ref (hm 0)), (1, .int a0)] := hl
  have hinX11 : ∀ w ∈ wsX110, w ∈ wsX11_does := by decide +kernel
  have k0 := hts (.fieldLink RX11 38 "TerraceQuarryModel" "numbers" "[I") (by decide +kernel)
  generalize hQ : MQ below _ _ _ _ _ _ = Q
  unfold f_X11_does at hf
  refine lv_aload_n hx hb dX11_does_0 rfl (lv_at hl 0 rfl) ?_
  refine va_get (D := gD g) (ci := 10) (v := .ref (hm 8)) (C := RX11) (T := TX11) (N := 19) hx hb hts hinX11 hown hK hP 0 rfl rfl 18 (by decide) k0 (fun _ h9 => h9) rfl dX11_does_1 ?_
  refine lv_iload_n hx hb dX11_does_4 rfl (lv_at hl 1 rfl) ?_
  refine lv_iconst (v := 1) hx hb dX11_does_5 (by decide) ?_
  refine lv_iadd hx hb dX11_does_6 ?_
  obtain ⟨h1, hf⟩ := jbA_e hf
  refine va_iald hx hb hK hP 8 0 rfl rfl h1 dX11_does_7 ?_
  refine lv_topi (fun z2 ez2 => ?_)
  have hf := jbN_e hf ez2
  refine lv_istore_n (lv' := [(2, .int z2), (0, .ref (hm 0)), (1, .int a0)]) hx hb dX11_does_8 rfl hl (by decide) rfl (fun ls hl => ?_)
  refine lv_aload_n hx hb dX11_does_9 rfl (lv_at hl 1 rfl) ?_
  refine va_get (D := gD g) (ci := 10) (v := .ref (hm 8)) (C := RX11) (T := TX11) (N := 19) hx hb hts hinX11 hown hK hP 0 rfl rfl 18 (by decide) k0 (fun _ h9 => h9) rfl dX11_does_10 ?_
  refine lv_iload_n hx hb dX11_does_13 rfl (lv_at hl 2 rfl) ?_
  refine lv_iconst (v := 2) hx hb dX11_does_14 (by decide) ?_
  refine lv_iadd hx hb dX11_does_15 ?_
  obtain ⟨h3, hf⟩ := jbA_e hf
  refine va_iald hx hb hK hP 8 0 rfl rfl h3 dX11_does_16 ?_
  refine lv_topi (fun z4 ez4 => ?_)
  have hf := jbN_e hf ez4
  refine lv_istore_n (lv' := [(3, .int z4), (2, .int z2), (0, .ref (hm 0)), (1, .int a0)]) hx hb dX11_does_17 rfl hl (by decide) rfl (fun ls hl => ?_)
  refine lv_aload_n hx hb dX11_does_18 rfl (lv_at hl 2 rfl) ?_
  refine va_get (D := gD g) (ci := 10) (v := .ref (hm 8)) (C := RX11) (T := TX11) (N := 19) hx hb hts hinX11 hown hK hP 0 rfl rfl 18 (by decide) k0 (fun _ h9 => h9) rfl dX11_does_19 ?_
  refine lv_iload_n hx hb dX11_does_22 rfl (lv_at hl 3 rfl) ?_
  refine lv_iconst (v := 3) hx hb dX11_does_23 (by decide) ?_
  refine lv_iadd hx hb dX11_does_24 ?_
  obtain ⟨h5, hf⟩ := jbA_e hf
  refine va_iald hx hb hK hP 8 0 rfl rfl h5 dX11_does_25 ?_
  refine lv_topi (fun z6 ez6 => ?_)
  have hf := jbN_e hf ez6
  refine lv_istore (lv' := [(4, .int z6), (3, .int z4), (2, .int z2), (0, .ref (hm 0)), (1, .int a0)]) hx hb dX11_does_26 hl (by decide) rfl (fun ls hl => ?_)
  refine lv_aload_n hx hb dX11_does_28 rfl (lv_at hl 3 rfl) ?_
  refine va_get (D := gD g) (ci := 10) (v := .ref (hm 8)) (C := RX11) (T := TX11) (N := 19) hx hb hts hinX11 hown hK hP 0 rfl rfl 18 (by decide) k0 (fun _ h9 => h9) rfl dX11_does_29 ?_
  refine lv_iload_n hx hb dX11_does_32 rfl (lv_at hl 4 rfl) ?_
  refine lv_iconst (v := 4) hx hb dX11_does_33 (by decide) ?_
  refine lv_iadd hx hb dX11_does_34 ?_
  obtain ⟨h7, hf⟩ := jbA_e hf
  refine va_iald hx hb hK hP 8 0 rfl rfl h7 dX11_does_35 ?_
  refine lv_topi (fun z8 ez8 => ?_)
  have hf := jbN_e hf ez8
  refine lv_istore (lv' := [(5, .int z8), (4, .int z6), (3, .int z4), (2, .int z2), (0, .ref (hm 0)), (1, .int a0)]) hx hb dX11_does_36 hl (by decide) rfl (fun ls hl => ?_)
  refine lv_aload_n hx hb dX11_does_38 rfl (lv_at hl 4 rfl) ?_
  refine va_get (D := gD g) (ci := 10) (v := .ref (hm 8)) (C := RX11) (T := TX11) (N := 19) hx hb hts hinX11 hown hK hP 0 rfl rfl 18 (by decide) k0 (fun _ h9 => h9) rfl dX11_does_39 ?_
  refine lv_iload_n hx hb dX11_does_42 rfl (lv_at hl 5 rfl) ?_
  obtain ⟨h9, hf⟩ := jbA_e hf
  refine va_iald hx hb hK hP 8 0 rfl rfl h9 dX11_does_43 ?_
  by_cases hc10 : ((mNumbers mv) a0.toNatClampNeg) = 0
  · have hf := jbT hf hc10
    refine lv_tableIn (tgt := 88) hx hb dX11_does_44 (by rw [hc10]; decide) (by rw [hc10]; decide) (by rw [hc10]; rfl) (by decide) ?_
    refine lv_aload_n hx hb dX11_does_88 rfl (lv_at hl 4 rfl) ?_
    refine lv_iload_n hx hb dX11_does_89 rfl (lv_at hl 3 rfl) ?_
    refine lv_iload_n hx hb dX11_does_90 rfl (lv_at hl 2 rfl) ?_
    refine lv_iload hx hb dX11_does_91 (lv_at hl 1 rfl) ?_
    obtain ⟨o11, g12, hf⟩ := jbB_e hf
    refine cva_i (As := [.int z2, .int z4, .int z6]) (rest := []) ⟨hx, hb, hml, hown, hts⟩ (c_X11_sets l g hm mv z2 z4 z6 _ g12) (cwV 3 hts gX11_does_X11_sets rfl rfl rfl hd_X11_sets ⟨Nat.le_of_ble_eq_true rfl, Nat.le_of_ble_eq_true rfl⟩) hK hZ hT hA hP hD hS hl.1 (va_recv hK hP (ci := 10) (q0 := 0) rfl rfl) rfl rfl (Nat.le_of_ble_eq_true rfl) ⟨Nat.le_of_ble_eq_true rfl, Nat.le_of_ble_eq_true rfl⟩ dX11_does_93 (fun H locs hP hD hS => ?_)
    cases hf
    subst hQ
    exact rt_i hx hb hrt hlk rfl hK hP hD hS (Nat.le_of_ble_eq_true rfl) (Nat.le_of_ble_eq_true rfl) dX11_does_96
  have hf := jbF hf hc10
  by_cases hc13 : ((mNumbers mv) a0.toNatClampNeg) = 1
  · have hf := jbT hf hc13
    refine lv_tableIn (tgt := 97) hx hb dX11_does_44 (by rw [hc13]; decide) (by rw [hc13]; decide) (by rw [hc13]; rfl) (by decide) ?_
    refine lv_aload_n hx hb dX11_does_97 rfl (lv_at hl 4 rfl) ?_
    refine lv_iload_n hx hb dX11_does_98 rfl (lv_at hl 3 rfl) ?_
    refine lv_iload_n hx hb dX11_does_99 rfl (lv_at hl 2 rfl) ?_
    obtain ⟨o14, g15, hf⟩ := jbB_e hf
    refine cva_i (As := [.int z2, .int z4]) (rest := []) ⟨hx, hb, hml, hown, hts⟩ (c_X11_cuts l g hm mv z2 z4 _ g15) (cwV 2 hts gX11_does_X11_cuts rfl rfl rfl hd_X11_cuts ⟨Nat.le_of_ble_eq_true rfl, Nat.le_of_ble_eq_true rfl⟩) hK hZ hT hA hP hD hS hl.1 (va_recv hK hP (ci := 10) (q0 := 0) rfl rfl) rfl rfl (Nat.le_of_ble_eq_true rfl) ⟨Nat.le_of_ble_eq_true rfl, Nat.le_of_ble_eq_true rfl⟩ dX11_does_100 (fun H locs hP hD hS => ?_)
    cases hf
    subst hQ
    exact rt_i hx hb hrt hlk rfl hK hP hD hS (Nat.le_of_ble_eq_true rfl) (Nat.le_of_ble_eq_true rfl) dX11_does_103
  have hf := jbF hf hc13
  by_cases hc16 : ((mNumbers mv) a0.toNatClampNeg) = 2
  · have hf := jbT hf hc16
    refine lv_tableIn (tgt := 104) hx hb dX11_does_44 (by rw [hc16]; decide) (by rw [hc16]; decide) (by rw [hc16]; rfl) (by decide) ?_
    refine lv_aload_n hx hb dX11_does_104 rfl (lv_at hl 4 rfl) ?_
    refine lv_iload_n hx hb dX11_does_105 rfl (lv_at hl 3 rfl) ?_
    refine lv_iload_n hx hb dX11_does_106 rfl (lv_at hl 2 rfl) ?_
    obtain ⟨o17, g18, hf⟩ := jbB_e hf
    refine cva_i (As := [.int z2, .int z4]) (rest := []) ⟨hx, hb, hml, hown, hts⟩ (c_X11_fills l g hm mv z2 z4 _ g18) (cwV 2 hts gX11_does_X11_fills rfl rfl rfl hd_X11_fills ⟨Nat.le_of_ble_eq_true rfl, Nat.le_of_ble_eq_true rfl⟩) hK hZ hT hA hP hD hS hl.1 (va_recv hK hP (ci := 10) (q0 := 0) rfl rfl) rfl rfl (Nat.le_of_ble_eq_true rfl) ⟨Nat.le_of_ble_eq_true rfl, Nat.le_of_ble_eq_true rfl⟩ dX11_does_107 (fun H locs hP hD hS => ?_)
    cases hf
    subst hQ
    exact rt_i hx hb hrt hlk rfl hK hP hD hS (Nat.le_of_ble_eq_true rfl) (Nat.le_of_ble_eq_true rfl) dX11_does_110
  have hf := jbF hf hc16
  by_cases hc19 : ((mNumbers mv) a0.toNatClampNeg) = 3
  · have hf := jbT hf hc19
    refine lv_tableIn (tgt := 111) hx hb dX11_does_44 (by rw [hc19]; decide) (by rw [hc19]; decide) (by rw [hc19]; rfl) (by decide) ?_
    refine lv_aload_n hx hb dX11_does_111 rfl (lv_at hl 4 rfl) ?_
    refine lv_iload_n hx hb dX11_does_112 rfl (lv_at hl 3 rfl) ?_
    refine lv_iload_n hx hb dX11_does_113 rfl (lv_at hl 2 rfl) ?_
    obtain ⟨o20, g21, hf⟩ := jbB_e hf
    refine cva_i (As := [.int z2, .int z4]) (rest := []) ⟨hx, hb, hml, hown, hts⟩ (c_X11_toggles l g hm mv z2 z4 _ g21) (cwV 2 hts gX11_does_X11_toggles rfl rfl rfl hd_X11_toggles ⟨Nat.le_of_ble_eq_true rfl, Nat.le_of_ble_eq_true rfl⟩) hK hZ hT hA hP hD hS hl.1 (va_recv hK hP (ci := 10) (q0 := 0) rfl rfl) rfl rfl (Nat.le_of_ble_eq_true rfl) ⟨Nat.le_of_ble_eq_true rfl, Nat.le_of_ble_eq_true rfl⟩ dX11_does_114 (fun H locs hP hD hS => ?_)
    cases hf
    subst hQ
    exact rt_i hx hb hrt hlk rfl hK hP hD hS (Nat.le_of_ble_eq_true rfl) (Nat.le_of_ble_eq_true rfl) dX11_does_117
  have hf := jbF hf hc19
  by_cases hc22 : ((mNumbers mv) a0.toNatClampNeg) = 4
  · have hf := jbT hf hc22
    refine lv_tableIn (tgt := 118) hx hb dX11_does_44 (by rw [hc22]; decide) (by rw [hc22]; decide) (by rw [hc22]; rfl) (by decide) ?_
    refine lv_aload_n hx hb dX11_does_118 rfl (lv_at hl 4 rfl) ?_
    refine lv_iload hx hb dX11_does_119 (lv_at hl 1 rfl) ?_
    obtain ⟨o23, g24, hf⟩ := jbB_e hf
    refine cva_i (As := [.int z6]) (rest := []) ⟨hx, hb, hml, hown, hts⟩ (c_X11_limits l g hm mv z6 _ g24) (cwV 1 hts gX11_does_X11_limits rfl rfl rfl hd_X11_limits ⟨Nat.le_of_ble_eq_true rfl, Nat.le_of_ble_eq_true rfl⟩) hK hZ hT hA hP hD hS hl.1 (va_recv hK hP (ci := 10) (q0 := 0) rfl rfl) rfl rfl (Nat.le_of_ble_eq_true rfl) ⟨Nat.le_of_ble_eq_true rfl, Nat.le_of_ble_eq_true rfl⟩ dX11_does_121 (fun H locs hP hD hS => ?_)
    cases hf
    subst hQ
    exact rt_i hx hb hrt hlk rfl hK hP hD hS (Nat.le_of_ble_eq_true rfl) (Nat.le_of_ble_eq_true rfl) dX11_does_124
  have hf := jbF hf hc22
  by_cases hc25 : ((mNumbers mv) a0.toNatClampNeg) = 5
  · have hf := jbT hf hc25
    refine lv_tableIn (tgt := 125) hx hb dX11_does_44 (by rw [hc25]; decide) (by rw [hc25]; decide) (by rw [hc25]; rfl) (by decide) ?_
    refine lv_aload_n hx hb dX11_does_125 rfl (lv_at hl 4 rfl) ?_
    refine lv_iload_n hx hb dX11_does_126 rfl (lv_at hl 3 rfl) ?_
    refine lv_iload_n hx hb dX11_does_127 rfl (lv_at hl 2 rfl) ?_
    refine lv_iload hx hb dX11_does_128 (lv_at hl 1 rfl) ?_
    refine lv_iload hx hb dX11_does_130 (lv_at hl 0 rfl) ?_
    obtain ⟨o26, g27, hf⟩ := jbB_e hf
    refine cva_i (As := [.int z2, .int z4, .int z6, .int z8]) (rest := []) ⟨hx, hb, hml, hown, hts⟩ (c_X11_adds l g hm mv z2 z4 z6 z8 _ g27) (cwV 4 hts gX11_does_X11_adds rfl rfl rfl hd_X11_adds ⟨Nat.le_of_ble_eq_true rfl, Nat.le_of_ble_eq_true rfl⟩) hK hZ hT hA hP hD hS hl.1 (va_recv hK hP (ci := 10) (q0 := 0) rfl rfl) rfl rfl (Nat.le_of_ble_eq_true rfl) ⟨Nat.le_of_ble_eq_true rfl, Nat.le_of_ble_eq_true rfl⟩ dX11_does_132 (fun H locs hP hD hS => ?_)
    cases hf
    subst hQ
    exact rt_i hx hb hrt hlk rfl hK hP hD hS (Nat.le_of_ble_eq_true rfl) (Nat.le_of_ble_eq_true rfl) dX11_does_135
  have hf := jbF hf hc25
  by_cases hc28 : ((mNumbers mv) a0.toNatClampNeg) = 6
  · have hf := jbT hf hc28
    refine lv_tableIn (tgt := 136) hx hb dX11_does_44 (by rw [hc28]; decide) (by rw [hc28]; decide) (by rw [hc28]; rfl) (by decide) ?_
    refine lv_aload_n hx hb dX11_does_136 rfl (lv_at hl 4 rfl) ?_
    refine lv_iload hx hb dX11_does_137 (lv_at hl 1 rfl) ?_
    refine lv_iload_n hx hb dX11_does_139 rfl (lv_at hl 3 rfl) ?_
    refine lv_iload_n hx hb dX11_does_140 rfl (lv_at hl 2 rfl) ?_
    obtain ⟨o29, g30, hf⟩ := jbB_e hf
    refine cva_i (As := [.int z6, .int z2, .int z4]) (rest := []) ⟨hx, hb, hml, hown, hts⟩ (c_X11_raises l g hm mv z6 z2 z4 _ g30) (cwV 3 hts gX11_does_X11_raises rfl rfl rfl hd_X11_raises ⟨Nat.le_of_ble_eq_true rfl, Nat.le_of_ble_eq_true rfl⟩) hK hZ hT hA hP hD hS hl.1 (va_recv hK hP (ci := 10) (q0 := 0) rfl rfl) rfl rfl (Nat.le_of_ble_eq_true rfl) ⟨Nat.le_of_ble_eq_true rfl, Nat.le_of_ble_eq_true rfl⟩ dX11_does_141 (fun H locs hP hD hS => ?_)
    cases hf
    subst hQ
    exact rt_i hx hb hrt hlk rfl hK hP hD hS (Nat.le_of_ble_eq_true rfl) (Nat.le_of_ble_eq_true rfl) dX11_does_144
  have hf := jbF hf hc28
  refine lv_tableOut (tgt := 145) hx hb dX11_does_44 (by have := lv_neT hc10 (show (0 : Int32).toInt = 0 from by decide); have := lv_neT hc13 (show (1 : Int32).toInt = 1 from by decide); have := lv_neT hc16 (show (2 : Int32).toInt = 2 from by decide); have := lv_neT hc19 (show (3 : Int32).toInt = 3 from by decide); have := lv_neT hc22 (show (4 : Int32).toInt = 4 from by decide); have := lv_neT hc25 (show (5 : Int32).toInt = 5 from by decide); have := lv_neT hc28 (show (6 : Int32).toInt = 6 from by decide); omega) (by decide) ?_
  refine lv_aload_n hx hb dX11_does_145 rfl (lv_at hl 4 rfl) ?_
  refine lv_iload hx hb dX11_does_146 (lv_at hl 1 rfl) ?_
  refine lv_iload hx hb dX11_does_148 (lv_at hl 0 rfl) ?_
  obtain ⟨o31, g32, hf⟩ := jbB_e hf
  refine cva_i (As := [.int z6, .int z8]) (rest := []) ⟨hx, hb, hml, hown, hts⟩ (c_X11_crushes l g hm mv z6 z8 _ g32) (cwV 2 hts gX11_does_X11_crushes rfl rfl rfl hd_X11_crushes ⟨Nat.le_of_ble_eq_true rfl, Nat.le_of_ble_eq_true rfl⟩) hK hZ hT hA hP hD hS hl.1 (va_recv hK hP (ci := 10) (q0 := 0) rfl rfl) rfl rfl (Nat.le_of_ble_eq_true rfl) ⟨Nat.le_of_ble_eq_true rfl, Nat.le_of_ble_eq_true rfl⟩ dX11_does_150 (fun H locs hP hD hS => ?_)
  cases hf
  subst hQ
  exact rt_i hx hb hrt hlk rfl hK hP hD hS (Nat.le_of_ble_eq_true rfl) (Nat.le_of_ble_eq_true rfl) dX11_does_153
def f_X11_run_L38 (x1 : Int32) (mv : MV) : Option (Sum (Int32 × MV) (Sum (Int32 × MV) (Int32 × MV))) :=
  if (mTold mv) ≤ x1 then
  (some (.inr (.inl (x1, mv))))
  else
  ((f_X11_does mv (5 * x1)).bind fun o10 =>
  jbN (o10.1) fun z12 =>
  if (mThrown (o10.2)) = 0 then
  (some (.inl ((x1 + 1), (o10.2))))
  else
  (jbN (mSFailedAt x1 (o10.2)) fun w13 =>
  jbN (mSThrown 2 w13) fun w14 =>
  (f_X11_copies (mBefore w14) (mNow w14) 229 229 0 0).bind fun o15 =>
  jbN (mSNow o15 w14) fun w17 =>
  some (.inr (.inr (0, w17)))))
def f_X11_run (mv : MV) : Option (Int32 × MV) :=
  (f_X11_readsAll mv).bind fun o1 =>
  if (mWrong o1) = (-1) then
  ((f_X11_begins o1).bind fun o3 =>
  jbN (mSThrown 0 o3) fun w5 =>
  (jbL (fun s => f_X11_run_L38 (s.1) (s.2)) 5000 (0, w5)).bind fun o38 => jbM o38 (fun oo38 =>
  (f_X11_ends (oo38.2) (mTold (oo38.2))).bind fun o6 =>
  some ((o6.1), (o6.2))) (fun v => some v))
  else
  (jbN (mSErrorAt (mWrong o1) o1) fun w8 =>
  jbN (mSThrown 1 w8) fun w9 =>
  some (0, w9))
def rm_X11_run : Room := { frames := 7, cells := 0, slots := 0, locals := 163 }
theorem hd_X11_run : yX11_run.cls = RX11 ∧ yX11_run.cls ≠ "java/lang/invoke/MethodHandle" ∧ yX11_run.cls ≠ "java/lang/invoke/VarHandle" ∧ (parseMethodDescriptor yX11_run.desc).map (fun d => d.parameters.length) = some 0 := by decide +kernel
set_option maxHeartbeats 4000000 in
set_option maxRecDepth 100000 in
theorem c_X11_run (l : Launch) (g : GG) (hm : Nat → Nat) (mv : MV)   (out : Int32 × MV) (hf : f_X11_run mv = some out) : MtI l yX11_run wsX11_run rm_X11_run g (wM g hm mv) [.ref (hm 0)] (out.1) (wM g hm (out.2)) 0 0 := by
  refine fun sz => mt_of (cc := cX11_run) (maxL := 3) (ret := (some .int)) (own := RX11) (Qc := fun A => va_Qi (fun r (_ : Unit) => r = (out.1)) (fun _ t => PosM g A (wM g hm (out.2)) t) A) (by decide +kernel) rfl rfl (Nat.le_of_ble_eq_true rfl) ?_ sz
  intro p e s mi below meth c A ls hB hnm hrt hlk hP hD hl
  obtain ⟨hx, hb, hml, hown, hts, hK, hZ, hT, hA, -⟩ := hB
  have hS : va_S A s.heap s.heap [] := va_S.rf
  have hl : lv_has ls 3 [(0, .ref (hm 0))] := hl
  have hinX11 : ∀ w ∈ wsX110, w ∈ wsX11_run := by decide +kernel
  have k0 := hts (.fieldLink RX11 213 "TerraceQuarryModel" "wrong" "I") (by decide +kernel)
  have k1 := hts (.fieldLink RX11 45 "TerraceQuarryModel" "thrown" "I") (by decide +kernel)
  have k2 := hts (.fieldLink RX11 236 "TerraceQuarryModel" "told" "I") (by decide +kernel)
  have k3 := hts (.fieldLink RX11 22 "TerraceQuarryModel" "errorAt" "I") (by decide +kernel)
  have k4 := hts (.fieldLink RX11 26 "TerraceQuarryModel" "failedAt" "I") (by decide +kernel)
  have k5 := hts (.fieldLink RX11 13 "TerraceQuarryModel" "before" "[I") (by decide +kernel)
  have k6 := hts (.fieldLink RX11 9 "TerraceQuarryModel" "now" "[I") (by decide +kernel)
  generalize hQ : MQ below _ _ _ _ _ _ = Q
  unfold f_X11_run at hf
  have hL38 : ∀ (n : Nat) (x1 : Int32) (mv : MV) (H : Heap) (locs : List Loc) (ls : Array Slot) (o38 : Sum (Int32 × MV) (Int32 × MV)), jbL (fun s => f_X11_run_L38 (s.1) (s.2)) n (x1, mv) = some o38 → va_P (gD g) vwCl (wM g hm mv) H → va_D A (wM g hm mv) → va_S A s.heap H locs → lv_has ls 3 [(0, .ref (hm 0)), (1, .int x1)] → (∀ oo : Int32 × MV, o38 = .inl oo → ∀ (H : Heap) (locs : List Loc) (ls : Array Slot), va_P (gD g) vwCl (wM g hm (oo.2)) H → va_D A (wM g hm (oo.2)) → va_S A s.heap H locs → lv_has ls 3 [(0, .ref (hm 0))] → W p l e rm_X11_run s mi [.ref (hm 0)].toArray below meth c H locs 0 0 Q (F0 mi 92 ls [])) → (∀ v : Int32 × MV, o38 = .inr v → v = out) → W p l e rm_X11_run s mi [.ref (hm 0)].toArray below meth c H locs 0 0 Q (F0 mi 38 ls []) := by
    intro n
    induction n with
    | zero => intro x1 mv H locs ls o38 hf; exact absurd hf (jbL_0 _ _ _)
    | succ n ih =>
      intro x1 mv H locs ls o38 hf hP hD hS hl hk hret
      obtain ⟨r, hf, hr⟩ := jbL_e hf
      have hf : f_X11_run_L38 x1 mv = some r := hf
      unfold f_X11_run_L38 at hf
      refine lv_iload_n hx hb dX11_run_38 rfl (lv_at hl 1 rfl) ?_
      refine lv_aload_n hx hb dX11_run_39 rfl (lv_at hl 0 rfl) ?_
      refine va_get (D := gD g) (ci := 10) (v := .int (mTold mv)) (C := RX11) (T := TX11) (N := 19) hx hb hts hinX11 hown hK hP 0 rfl rfl 17 (by decide) k2 (fun _ h9 => h9) rfl dX11_run_40 ?_
      refine lv_icmp_ge (tgt := 92) hx hb dX11_run_43 (by decide) (fun hc => ?_) (fun hc => ?_)
      · have hf := jbT hf hc
        cases hf
        obtain rfl := jbR_r hr
        exact hk _ rfl _ _ _ hP hD hS (lv_sub hl [0] rfl)
      · have hf := jbF hf hc
        refine lv_aload_n hx hb dX11_run_46 rfl (lv_at hl 0 rfl) ?_
        refine lv_iconst (v := 5) hx hb dX11_run_47 (by decide) ?_
        refine lv_iload_n hx hb dX11_run_48 rfl (lv_at hl 1 rfl) ?_
        refine lv_imul hx hb dX11_run_49 ?_
        obtain ⟨o10, g11, hf⟩ := jbB_e hf
        refine cva_i (As := [.int (5 * x1)]) (rest := []) ⟨hx, hb, hml, hown, hts⟩ (c_X11_does l g hm mv (5 * x1) _ g11) (cwV 1 hts gX11_run_X11_does rfl rfl rfl hd_X11_does ⟨Nat.le_of_ble_eq_true rfl, Nat.le_of_ble_eq_true rfl⟩) hK hZ hT hA hP hD hS hl.1 (va_recv hK hP (ci := 10) (q0 := 0) rfl rfl) rfl rfl (Nat.le_of_ble_eq_true rfl) ⟨Nat.le_of_ble_eq_true rfl, Nat.le_of_ble_eq_true rfl⟩ dX11_run_50 (fun H locs hP hD hS => ?_)
        refine lv_topi (fun z12 ez12 => ?_)
        have hf := jbN_e hf ez12
        refine lv_istore_n (lv' := [(2, .int z12), (0, .ref (hm 0)), (1, .int x1)]) hx hb dX11_run_53 rfl hl (by decide) rfl (fun ls hl => ?_)
        refine lv_aload_n hx hb dX11_run_54 rfl (lv_at hl 1 rfl) ?_
        refine va_get (D := gD g) (ci := 10) (v := .int (mThrown (o10.2))) (C := RX11) (T := TX11) (N := 19) hx hb hts hinX11 hown hK hP 0 rfl rfl 13 (by decide) k1 (fun _ h9 => h9) rfl dX11_run_55 ?_
        refine lv_if_eq (tgt := 86) hx hb dX11_run_58 (by decide) (fun hc => ?_) (fun hc => ?_)
        · have hf := jbT hf hc
          refine lv_iinc (v := (x1 + 1)) (lv' := [(1, .int (x1 + 1)), (2, .int z12), (0, .ref (hm 0))]) hx hb dX11_run_86 hl (k := 2) rfl rfl (by decide) rfl (fun ls hl => ?_)
          refine lv_goto (tgt := 38) hx hb dX11_run_89 (by decide) ?_
          cases hf
          exact ih (x1 + 1) (o10.2) _ _ _ _ hr hP hD hS (lv_sub hl [2, 0] rfl) hk hret
        · have hf := jbF hf hc
          refine lv_aload_n hx hb dX11_run_61 rfl (lv_at hl 1 rfl) ?_
          refine lv_iload_n hx hb dX11_run_62 rfl (lv_at hl 2 rfl) ?_
          refine va_put (D := gD g) (ci := 10) (v := .int x1) (ty := .int) (C := RX11) (T := TX11) (N := 19) hx hb hts hinX11 tyX11 tyX11_ok nmX11 hown hK hP hD hS 0 rfl rfl 7 (by decide) k4 (fun _ h9 => h9) rfl (tyX11_ok 7 (by decide)) rfl rfl (Nat.le_of_ble_eq_true rfl) dX11_run_63 (fun H locs hP hD hS => ?_)
          obtain ⟨w13, ew13⟩ : ∃ y, y = (mSFailedAt x1 (o10.2)) := ⟨_, rfl⟩
          have hf := jbN_e hf ew13
          have hP : va_P (gD g) vwCl (wM g hm w13) H := by rw [ew13]; exact hP
          have hD : va_D A (wM g hm w13) := by rw [ew13]; exact hD
          refine lv_aload_n hx hb dX11_run_66 rfl (lv_at hl 1 rfl) ?_
          refine lv_iconst (v := 2) hx hb dX11_run_67 (by decide) ?_
          refine va_put (D := gD g) (ci := 10) (v := .int 2) (ty := .int) (C := RX11) (T := TX11) (N := 19) hx hb hts hinX11 tyX11 tyX11_ok nmX11 hown hK hP hD hS 0 rfl rfl 13 (by decide) k1 (fun _ h9 => h9) rfl (tyX11_ok 13 (by decide)) rfl rfl (Nat.le_of_ble_eq_true rfl) dX11_run_68 (fun H locs hP hD hS => ?_)
          obtain ⟨w14, ew14⟩ : ∃ y, y = (mSThrown 2 w13) := ⟨_, rfl⟩
          have hf := jbN_e hf ew14
          have hP : va_P (gD g) vwCl (wM g hm w14) H := by rw [ew14]; exact hP
          have hD : va_D A (wM g hm w14) := by rw [ew14]; exact hD
          refine lv_aload_n hx hb dX11_run_71 rfl (lv_at hl 1 rfl) ?_
          refine va_get (D := gD g) (ci := 10) (v := .ref (hm 2)) (C := RX11) (T := TX11) (N := 19) hx hb hts hinX11 hown hK hP 0 rfl rfl 1 (by decide) k5 (fun _ h9 => h9) rfl dX11_run_72 ?_
          refine lv_iconst (v := 0) hx hb dX11_run_75 (by decide) ?_
          refine lv_aload_n hx hb dX11_run_76 rfl (lv_at hl 1 rfl) ?_
          refine va_get (D := gD g) (ci := 10) (v := .ref (hm 1)) (C := RX11) (T := TX11) (N := 19) hx hb hts hinX11 hown hK hP 0 rfl rfl 0 (by decide) k6 (fun _ h9 => h9) rfl dX11_run_77 ?_
          refine lv_iconst (v := 0) hx hb dX11_run_80 (by decide) ?_
          obtain ⟨o15, g16, hf⟩ := jbB_e hf
          refine cs_v (As := [.ref (hm 2), .int 0, .ref (hm 1), .int 0]) (rest := []) (Wr := [0, 3, 4, 5, 6, 7, 8].filterMap (fun i => ((wM g hm w14))[i]?)) ⟨hx, hb, hml, hown, hts⟩ (c_X11_copies l g (hm 2) (mBefore w14) (hm 1) (mNow w14) 229 229 0 0 _ g16) (va_cwS 4 hts gX11_run_X11_copies rfl rfl rfl hd_X11_copies ⟨Nat.le_of_ble_eq_true rfl, Nat.le_of_ble_eq_true rfl⟩) hK hZ hT hA hP hD hS hl.1 [2, 1] [0, 3, 4, 5, 6, 7, 8] rfl rfl rfl rfl rfl rfl rfl (Nat.le_of_ble_eq_true rfl) ⟨Nat.le_of_ble_eq_true rfl, Nat.le_of_ble_eq_true rfl⟩ dX11_run_81 (fun H locs hP hD hS => ?_)
          have hP : va_P (gD g) vwCl (wM g hm (mSNow o15 w14)) H := hP.sub [0, 8, 7, 1, 2, 3, 4, 5, 6] rfl
          have hD : va_D A (wM g hm (mSNow o15 w14)) := hD.sub [0, 8, 7, 1, 2, 3, 4, 5, 6] rfl rfl
          obtain ⟨w17, ew17⟩ : ∃ y, y = (mSNow o15 w14) := ⟨_, rfl⟩
          have hf := jbN_e hf ew17
          have hP : va_P (gD g) vwCl (wM g hm w17) H := by rw [ew17]; exact hP
          have hD : va_D A (wM g hm w17) := by rw [ew17]; exact hD
          refine lv_iconst (v := 0) hx hb dX11_run_84 (by decide) ?_
          cases hf
          obtain rfl := hret _ (jbR_r hr).symm
          subst hQ
          exact rt_i hx hb hrt hlk rfl hK hP hD hS (Nat.le_of_ble_eq_true rfl) (Nat.le_of_ble_eq_true rfl) dX11_run_85
  refine lv_aload_n hx hb dX11_run_0 rfl (lv_at hl 0 rfl) ?_
  obtain ⟨o1, g2, hf⟩ := jbB_e hf
  refine cva_v (As := []) (rest := []) ⟨hx, hb, hml, hown, hts⟩ (c_X11_readsAll l g hm mv _ g2) (cwV 0 hts gX11_run_X11_readsAll rfl rfl rfl hd_X11_readsAll ⟨Nat.le_of_ble_eq_true rfl, Nat.le_of_ble_eq_true rfl⟩) hK hZ hT hA hP hD hS hl.1 (va_recv hK hP (ci := 10) (q0 := 0) rfl rfl) rfl rfl (Nat.le_of_ble_eq_true rfl) ⟨Nat.le_of_ble_eq_true rfl, Nat.le_of_ble_eq_true rfl⟩ dX11_run_1 (fun H locs hP hD hS => ?_)
  refine lv_aload_n hx hb dX11_run_4 rfl (lv_at hl 0 rfl) ?_
  refine va_get (D := gD g) (ci := 10) (v := .int (mWrong o1)) (C := RX11) (T := TX11) (N := 19) hx hb hts hinX11 hown hK hP 0 rfl rfl 16 (by decide) k0 (fun _ h9 => h9) rfl dX11_run_5 ?_
  refine lv_iconst (v := (-1)) hx hb dX11_run_8 (by decide) ?_
  refine lv_icmp_eq (tgt := 27) hx hb dX11_run_9 (by decide) (fun hc => ?_) (fun hc => ?_)
  · have hf := jbT hf hc
    refine lv_aload_n hx hb dX11_run_27 rfl (lv_at hl 0 rfl) ?_
    obtain ⟨o3, g4, hf⟩ := jbB_e hf
    refine cva_v (As := []) (rest := []) ⟨hx, hb, hml, hown, hts⟩ (c_X11_begins l g hm o1 _ g4) (cwV 0 hts gX11_run_X11_begins rfl rfl rfl hd_X11_begins ⟨Nat.le_of_ble_eq_true rfl, Nat.le_of_ble_eq_true rfl⟩) hK hZ hT hA hP hD hS hl.1 (va_recv hK hP (ci := 10) (q0 := 0) rfl rfl) rfl rfl (Nat.le_of_ble_eq_true rfl) ⟨Nat.le_of_ble_eq_true rfl, Nat.le_of_ble_eq_true rfl⟩ dX11_run_28 (fun H locs hP hD hS => ?_)
    refine lv_aload_n hx hb dX11_run_31 rfl (lv_at hl 0 rfl) ?_
    refine lv_iconst (v := 0) hx hb dX11_run_32 (by decide) ?_
    refine va_put (D := gD g) (ci := 10) (v := .int 0) (ty := .int) (C := RX11) (T := TX11) (N := 19) hx hb hts hinX11 tyX11 tyX11_ok nmX11 hown hK hP hD hS 0 rfl rfl 13 (by decide) k1 (fun _ h9 => h9) rfl (tyX11_ok 13 (by decide)) rfl rfl (Nat.le_of_ble_eq_true rfl) dX11_run_33 (fun H locs hP hD hS => ?_)
    obtain ⟨w5, ew5⟩ : ∃ y, y = (mSThrown 0 o3) := ⟨_, rfl⟩
    have hf := jbN_e hf ew5
    have hP : va_P (gD g) vwCl (wM g hm w5) H := by rw [ew5]; exact hP
    have hD : va_D A (wM g hm w5) := by rw [ew5]; exact hD
    refine lv_iconst (v := 0) hx hb dX11_run_36 (by decide) ?_
    refine lv_istore_n (lv' := [(1, .int 0), (0, .ref (hm 0))]) hx hb dX11_run_37 rfl hl (by decide) rfl (fun ls hl => ?_)
    obtain ⟨o38, hg, hf⟩ := jbB_e hf
    refine hL38 _ 0 w5 _ _ _ _ hg hP hD hS (lv_sub hl [1, 0] rfl) (fun oo38 ho H locs ls hP hD hS hl => ?_) (fun v hv => by subst hv; exact Option.some.inj hf)
    subst ho
    have hf := jbM_l hf
    refine lv_aload_n hx hb dX11_run_92 rfl (lv_at hl 0 rfl) ?_
    refine lv_aload_n hx hb dX11_run_93 rfl (lv_at hl 0 rfl) ?_
    refine va_get (D := gD g) (ci := 10) (v := .int (mTold (oo38.2))) (C := RX11) (T := TX11) (N := 19) hx hb hts hinX11 hown hK hP 0 rfl rfl 17 (by decide) k2 (fun _ h9 => h9) rfl dX11_run_94 ?_
    obtain ⟨o6, g7, hf⟩ := jbB_e hf
    refine cva_i (As := [.int (mTold (oo38.2))]) (rest := []) ⟨hx, hb, hml, hown, hts⟩ (c_X11_ends l g hm (oo38.2) (mTold (oo38.2)) _ g7) (cwV 1 hts gX11_run_X11_ends rfl rfl rfl hd_X11_ends ⟨Nat.le_of_ble_eq_true rfl, Nat.le_of_ble_eq_true rfl⟩) hK hZ hT hA hP hD hS hl.1 (va_recv hK hP (ci := 10) (q0 := 0) rfl rfl) rfl rfl (Nat.le_of_ble_eq_true rfl) ⟨Nat.le_of_ble_eq_true rfl, Nat.le_of_ble_eq_true rfl⟩ dX11_run_97 (fun H locs hP hD hS => ?_)
    cases hf
    subst hQ
    exact rt_i hx hb hrt hlk rfl hK hP hD hS (Nat.le_of_ble_eq_true rfl) (Nat.le_of_ble_eq_true rfl) dX11_run_100
  · have hf := jbF hf hc
    refine lv_aload_n hx hb dX11_run_12 rfl (lv_at hl 0 rfl) ?_
    refine lv_aload_n hx hb dX11_run_13 rfl (lv_at hl 0 rfl) ?_
    refine va_get (D := gD g) (ci := 10) (v := .int (mWrong o1)) (C := RX11) (T := TX11) (N := 19) hx hb hts hinX11 hown hK hP 0 rfl rfl 16 (by decide) k0 (fun _ h9 => h9) rfl dX11_run_14 ?_
    refine va_put (D := gD g) (ci := 10) (v := .int (mWrong o1)) (ty := .int) (C := RX11) (T := TX11) (N := 19) hx hb hts hinX11 tyX11 tyX11_ok nmX11 hown hK hP hD hS 0 rfl rfl 6 (by decide) k3 (fun _ h9 => h9) rfl (tyX11_ok 6 (by decide)) rfl rfl (Nat.le_of_ble_eq_true rfl) dX11_run_17 (fun H locs hP hD hS => ?_)
    obtain ⟨w8, ew8⟩ : ∃ y, y = (mSErrorAt (mWrong o1) o1) := ⟨_, rfl⟩
    have hf := jbN_e hf ew8
    have hP : va_P (gD g) vwCl (wM g hm w8) H := by rw [ew8]; exact hP
    have hD : va_D A (wM g hm w8) := by rw [ew8]; exact hD
    refine lv_aload_n hx hb dX11_run_20 rfl (lv_at hl 0 rfl) ?_
    refine lv_iconst (v := 1) hx hb dX11_run_21 (by decide) ?_
    refine va_put (D := gD g) (ci := 10) (v := .int 1) (ty := .int) (C := RX11) (T := TX11) (N := 19) hx hb hts hinX11 tyX11 tyX11_ok nmX11 hown hK hP hD hS 0 rfl rfl 13 (by decide) k1 (fun _ h9 => h9) rfl (tyX11_ok 13 (by decide)) rfl rfl (Nat.le_of_ble_eq_true rfl) dX11_run_22 (fun H locs hP hD hS => ?_)
    obtain ⟨w9, ew9⟩ : ∃ y, y = (mSThrown 1 w8) := ⟨_, rfl⟩
    have hf := jbN_e hf ew9
    have hP : va_P (gD g) vwCl (wM g hm w9) H := by rw [ew9]; exact hP
    have hD : va_D A (wM g hm w9) := by rw [ew9]; exact hD
    refine lv_iconst (v := 0) hx hb dX11_run_25 (by decide) ?_
    cases hf
    subst hQ
    exact rt_i hx hb hrt hlk rfl hK hP hD hS (Nat.le_of_ble_eq_true rfl) (Nat.le_of_ble_eq_true rfl) dX11_run_26
def f_X11_errorPosition_J14 (mv : MV) (y0 : Int32) : Option (Int32 × MV) :=
  (f_X11_goes mv y0).bind fun o1 =>
  if (o1.1) = 0 then
  (some (0, (o1.2)))
  else
  (some ((mErrorAt (o1.2)), (o1.2)))
def f_X11_errorPosition (mv : MV) : Option (Int32 × MV) :=
  if (mErrorAt mv) = (-1) then
  (f_X11_errorPosition_J14 mv 0)
  else
  (f_X11_errorPosition_J14 mv 1)
def rm_X11_errorPosition : Room := { frames := 2, cells := 0, slots := 0, locals := 45 }
theorem hd_X11_errorPosition : yX11_errorPosition.cls = RX11 ∧ yX11_errorPosition.cls ≠ "java/lang/invoke/MethodHandle" ∧ yX11_errorPosition.cls ≠ "java/lang/invoke/VarHandle" ∧ (parseMethodDescriptor yX11_errorPosition.desc).map (fun d => d.parameters.length) = some 0 := by decide +kernel
set_option maxHeartbeats 4000000 in
set_option maxRecDepth 100000 in
theorem c_X11_errorPosition (l : Launch) (g : GG) (hm : Nat → Nat) (mv : MV)   (out : Int32 × MV) (hf : f_X11_errorPosition mv = some out) : MtI l yX11_errorPosition wsX11_errorPosition rm_X11_errorPosition g (wM g hm mv) [.ref (hm 0)] (out.1) (wM g hm (out.2)) 0 0 := by
  refine fun sz => mt_of (cc := cX11_errorPosition) (maxL := 1) (ret := (some .int)) (own := RX11) (Qc := fun A => va_Qi (fun r (_ : Unit) => r = (out.1)) (fun _ t => PosM g A (wM g hm (out.2)) t) A) (by decide +kernel) rfl rfl (Nat.le_of_ble_eq_true rfl) ?_ sz
  intro p e s mi below meth c A ls hB hnm hrt hlk hP hD hl
  obtain ⟨hx, hb, hml, hown, hts, hK, hZ, hT, hA, -⟩ := hB
  have hS : va_S A s.heap s.heap [] := va_S.rf
  have hl : lv_has ls 1 [(0, .ref (hm 0))] := hl
  have hinX11 : ∀ w ∈ wsX110, w ∈ wsX11_errorPosition := by decide +kernel
  have k0 := hts (.fieldLink RX11 22 "TerraceQuarryModel" "errorAt" "I") (by decide +kernel)
  generalize hQ : MQ below _ _ _ _ _ _ = Q
  unfold f_X11_errorPosition at hf
  have hJ14 : ∀ (mv : MV) (y0 : Int32) (H : Heap) (locs : List Loc) (ls : Array Slot), f_X11_errorPosition_J14 mv y0 = some out → va_P (gD g) vwCl (wM g hm mv) H → va_D A (wM g hm mv) → va_S A s.heap H locs → lv_has ls 1 [(0, .ref (hm 0))] → W p l e rm_X11_errorPosition s mi [.ref (hm 0)].toArray below meth c H locs 0 0 Q (F0 mi 14 ls [.int y0, .ref (hm 0)]) := by
    intro mv y0 H locs ls hf hP hD hS hl
    unfold f_X11_errorPosition_J14 at hf
    obtain ⟨o1, g2, hf⟩ := jbB_e hf
    refine cva_i (As := [.int y0]) (rest := []) ⟨hx, hb, hml, hown, hts⟩ (c_X11_goes l g hm mv y0 _ g2) (cwV 1 hts gX11_errorPosition_X11_goes rfl rfl rfl hd_X11_goes ⟨Nat.le_of_ble_eq_true rfl, Nat.le_of_ble_eq_true rfl⟩) hK hZ hT hA hP hD hS hl.1 (va_recv hK hP (ci := 10) (q0 := 0) rfl rfl) rfl rfl (Nat.le_of_ble_eq_true rfl) ⟨Nat.le_of_ble_eq_true rfl, Nat.le_of_ble_eq_true rfl⟩ dX11_errorPosition_14 (fun H locs hP hD hS => ?_)
    refine lv_if_eq (tgt := 27) hx hb dX11_errorPosition_17 (by decide) (fun hc => ?_) (fun hc => ?_)
    · have hf := jbT hf hc
      refine lv_iconst (v := 0) hx hb dX11_errorPosition_27 (by decide) ?_
      cases hf
      subst hQ
      exact rt_i hx hb hrt hlk rfl hK hP hD hS (Nat.le_of_ble_eq_true rfl) (Nat.le_of_ble_eq_true rfl) dX11_errorPosition_28
    · have hf := jbF hf hc
      refine lv_aload_n hx hb dX11_errorPosition_20 rfl (lv_at hl 0 rfl) ?_
      refine va_get (D := gD g) (ci := 10) (v := .int (mErrorAt (o1.2))) (C := RX11) (T := TX11) (N := 19) hx hb hts hinX11 hown hK hP 0 rfl rfl 6 (by decide) k0 (fun _ h9 => h9) rfl dX11_errorPosition_21 ?_
      refine lv_goto (tgt := 28) hx hb dX11_errorPosition_24 (by decide) ?_
      cases hf
      subst hQ
      exact rt_i hx hb hrt hlk rfl hK hP hD hS (Nat.le_of_ble_eq_true rfl) (Nat.le_of_ble_eq_true rfl) dX11_errorPosition_28
  refine lv_aload_n hx hb dX11_errorPosition_0 rfl (lv_at hl 0 rfl) ?_
  refine lv_aload_n hx hb dX11_errorPosition_1 rfl (lv_at hl 0 rfl) ?_
  refine va_get (D := gD g) (ci := 10) (v := .int (mErrorAt mv)) (C := RX11) (T := TX11) (N := 19) hx hb hts hinX11 hown hK hP 0 rfl rfl 6 (by decide) k0 (fun _ h9 => h9) rfl dX11_errorPosition_2 ?_
  refine lv_iconst (v := (-1)) hx hb dX11_errorPosition_5 (by decide) ?_
  refine lv_icmp_eq (tgt := 13) hx hb dX11_errorPosition_6 (by decide) (fun hc => ?_) (fun hc => ?_)
  · have hf := jbT hf hc
    refine lv_iconst (v := 0) hx hb dX11_errorPosition_13 (by decide) ?_
    exact hJ14 mv 0 _ _ _ hf hP hD hS (lv_sub hl [0] rfl)
  · have hf := jbF hf hc
    refine lv_iconst (v := 1) hx hb dX11_errorPosition_9 (by decide) ?_
    refine lv_goto (tgt := 14) hx hb dX11_errorPosition_10 (by decide) ?_
    exact hJ14 mv 1 _ _ _ hf hP hD hS (lv_sub hl [0] rfl)
def f_X11_failedCommand_J14 (mv : MV) (y0 : Int32) : Option (Int32 × MV) :=
  (f_X11_goes mv y0).bind fun o1 =>
  if (o1.1) = 0 then
  (some (0, (o1.2)))
  else
  (some ((mFailedAt (o1.2)), (o1.2)))
def f_X11_failedCommand (mv : MV) : Option (Int32 × MV) :=
  if (mFailedAt mv) = (-1) then
  (f_X11_failedCommand_J14 mv 0)
  else
  (f_X11_failedCommand_J14 mv 1)
def rm_X11_failedCommand : Room := { frames := 2, cells := 0, slots := 0, locals := 45 }
theorem hd_X11_failedCommand : yX11_failedCommand.cls = RX11 ∧ yX11_failedCommand.cls ≠ "java/lang/invoke/MethodHandle" ∧ yX11_failedCommand.cls ≠ "java/lang/invoke/VarHandle" ∧ (parseMethodDescriptor yX11_failedCommand.desc).map (fun d => d.parameters.length) = some 0 := by decide +kernel
set_option maxHeartbeats 4000000 in
set_option maxRecDepth 100000 in
theorem c_X11_failedCommand (l : Launch) (g : GG) (hm : Nat → Nat) (mv : MV)   (out : Int32 × MV) (hf : f_X11_failedCommand mv = some out) : MtI l yX11_failedCommand wsX11_failedCommand rm_X11_failedCommand g (wM g hm mv) [.ref (hm 0)] (out.1) (wM g hm (out.2)) 0 0 := by
  refine fun sz => mt_of (cc := cX11_failedCommand) (maxL := 1) (ret := (some .int)) (own := RX11) (Qc := fun A => va_Qi (fun r (_ : Unit) => r = (out.1)) (fun _ t => PosM g A (wM g hm (out.2)) t) A) (by decide +kernel) rfl rfl (Nat.le_of_ble_eq_true rfl) ?_ sz
  intro p e s mi below meth c A ls hB hnm hrt hlk hP hD hl
  obtain ⟨hx, hb, hml, hown, hts, hK, hZ, hT, hA, -⟩ := hB
  have hS : va_S A s.heap s.heap [] := va_S.rf
  have hl : lv_has ls 1 [(0, .ref (hm 0))] := hl
  have hinX11 : ∀ w ∈ wsX110, w ∈ wsX11_failedCommand := by decide +kernel
  have k0 := hts (.fieldLink RX11 26 "TerraceQuarryModel" "failedAt" "I") (by decide +kernel)
  generalize hQ : MQ below _ _ _ _ _ _ = Q
  unfold f_X11_failedCommand at hf
  have hJ14 : ∀ (mv : MV) (y0 : Int32) (H : Heap) (locs : List Loc) (ls : Array Slot), f_X11_failedCommand_J14 mv y0 = some out → va_P (gD g) vwCl (wM g hm mv) H → va_D A (wM g hm mv) → va_S A s.heap H locs → lv_has ls 1 [(0, .ref (hm 0))] → W p l e rm_X11_failedCommand s mi [.ref (hm 0)].toArray below meth c H locs 0 0 Q (F0 mi 14 ls [.int y0, .ref (hm 0)]) := by
    intro mv y0 H locs ls hf hP hD hS hl
    unfold f_X11_failedCommand_J14 at hf
    obtain ⟨o1, g2, hf⟩ := jbB_e hf
    refine cva_i (As := [.int y0]) (rest := []) ⟨hx, hb, hml, hown, hts⟩ (c_X11_goes l g hm mv y0 _ g2) (cwV 1 hts gX11_failedCommand_X11_goes rfl rfl rfl hd_X11_goes ⟨Nat.le_of_ble_eq_true rfl, Nat.le_of_ble_eq_true rfl⟩) hK hZ hT hA hP hD hS hl.1 (va_recv hK hP (ci := 10) (q0 := 0) rfl rfl) rfl rfl (Nat.le_of_ble_eq_true rfl) ⟨Nat.le_of_ble_eq_true rfl, Nat.le_of_ble_eq_true rfl⟩ dX11_failedCommand_14 (fun H locs hP hD hS => ?_)
    refine lv_if_eq (tgt := 27) hx hb dX11_failedCommand_17 (by decide) (fun hc => ?_) (fun hc => ?_)
    · have hf := jbT hf hc
      refine lv_iconst (v := 0) hx hb dX11_failedCommand_27 (by decide) ?_
      cases hf
      subst hQ
      exact rt_i hx hb hrt hlk rfl hK hP hD hS (Nat.le_of_ble_eq_true rfl) (Nat.le_of_ble_eq_true rfl) dX11_failedCommand_28
    · have hf := jbF hf hc
      refine lv_aload_n hx hb dX11_failedCommand_20 rfl (lv_at hl 0 rfl) ?_
      refine va_get (D := gD g) (ci := 10) (v := .int (mFailedAt (o1.2))) (C := RX11) (T := TX11) (N := 19) hx hb hts hinX11 hown hK hP 0 rfl rfl 7 (by decide) k0 (fun _ h9 => h9) rfl dX11_failedCommand_21 ?_
      refine lv_goto (tgt := 28) hx hb dX11_failedCommand_24 (by decide) ?_
      cases hf
      subst hQ
      exact rt_i hx hb hrt hlk rfl hK hP hD hS (Nat.le_of_ble_eq_true rfl) (Nat.le_of_ble_eq_true rfl) dX11_failedCommand_28
  refine lv_aload_n hx hb dX11_failedCommand_0 rfl (lv_at hl 0 rfl) ?_
  refine lv_aload_n hx hb dX11_failedCommand_1 rfl (lv_at hl 0 rfl) ?_
  refine va_get (D := gD g) (ci := 10) (v := .int (mFailedAt mv)) (C := RX11) (T := TX11) (N := 19) hx hb hts hinX11 hown hK hP 0 rfl rfl 7 (by decide) k0 (fun _ h9 => h9) rfl dX11_failedCommand_2 ?_
  refine lv_iconst (v := (-1)) hx hb dX11_failedCommand_5 (by decide) ?_
  refine lv_icmp_eq (tgt := 13) hx hb dX11_failedCommand_6 (by decide) (fun hc => ?_) (fun hc => ?_)
  · have hf := jbT hf hc
    refine lv_iconst (v := 0) hx hb dX11_failedCommand_13 (by decide) ?_
    exact hJ14 mv 0 _ _ _ hf hP hD hS (lv_sub hl [0] rfl)
  · have hf := jbF hf hc
    refine lv_iconst (v := 1) hx hb dX11_failedCommand_9 (by decide) ?_
    refine lv_goto (tgt := 14) hx hb dX11_failedCommand_10 (by decide) ?_
    exact hJ14 mv 1 _ _ _ hf hP hD hS (lv_sub hl [0] rfl)
