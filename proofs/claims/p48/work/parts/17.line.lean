def f_X5_hasSign (ov : OV) (a0 : Int32) : Option Int32 :=
  if a0 < 0 then
  (some 0)
  else
  (if (oLength ov) ≤ a0 then
  (some 0)
  else
  (some 1))
def rm_X5_hasSign : Room := { frames := 0, cells := 0, slots := 0, locals := 0 }
theorem hd_X5_hasSign : yX5_hasSign.cls = RX5 ∧ yX5_hasSign.cls ≠ "java/lang/invoke/MethodHandle" ∧ yX5_hasSign.cls ≠ "java/lang/invoke/VarHandle" ∧ (parseMethodDescriptor yX5_hasSign.desc).map (fun d => d.parameters.length) = some 1 := by decide +kernel
set_option maxHeartbeats 4000000 in
set_option maxRecDepth 100000 in
theorem c_X5_hasSign (l : Launch) (g : GG) (ho : Nat → Nat) (ov : OV)  (a0 : Int32) (out : Int32) (hf : f_X5_hasSign ov a0 = some out) : MtI l yX5_hasSign wsX5_hasSign rm_X5_hasSign g (wO g ho ov) [.ref (ho 0), .int a0] out (wO g ho ov) 0 0 := by
  refine fun sz => mt_of (cc := cX5_hasSign) (maxL := 2) (ret := (some .boolean)) (own := RX5) (Qc := fun A => va_Qi (fun r (_ : Unit) => r = out) (fun _ t => PosM g A (wO g ho ov) t) A) (by decide +kernel) rfl rfl (Nat.le_of_ble_eq_true rfl) ?_ sz
  intro p e s mi below meth c A ls hB hnm hrt hlk hP hD hl
  obtain ⟨hx, hb, hml, hown, hts, hK, hZ, hT, hA, -⟩ := hB
  have hS : va_S A s.heap s.heap [] := va_S.rf
  have hl : lv_has ls 2 [(0, .ref (ho 0)), (1, .int a0)] := hl
  have hinX5 : ∀ w ∈ wsX50, w ∈ wsX5_hasSign := by decide +kernel
  have k0 := hts (.fieldLink RX5 17 "TerraceQuarry$OutputLine" "length" "I") (by decide +kernel)
  generalize hQ : MQ below _ _ _ _ _ _ = Q
  unfold f_X5_hasSign at hf
  refine lv_iload_n hx hb dX5_hasSign_0 rfl (lv_at hl 1 rfl) ?_
  refine lv_if_lt (tgt := 16) hx hb dX5_hasSign_1 (by decide) (fun hc => ?_) (fun hc => ?_)
  · have hf := jbT hf hc
    refine lv_iconst (v := 0) hx hb dX5_hasSign_16 (by decide) ?_
    cases hf
    subst hQ
    exact rt_i hx hb hrt hlk nar_0 hK hP hD hS (Nat.le_of_ble_eq_true rfl) (Nat.le_of_ble_eq_true rfl) dX5_hasSign_17
  · have hf := jbF hf hc
    refine lv_iload_n hx hb dX5_hasSign_4 rfl (lv_at hl 1 rfl) ?_
    refine lv_aload_n hx hb dX5_hasSign_5 rfl (lv_at hl 0 rfl) ?_
    refine va_get (D := gD g) (ci := 5) (v := .int (oLength ov)) (C := RX5) (T := TX5) (N := 2) hx hb hts hinX5 hown hK hP 0 rfl rfl 1 (by decide) k0 (fun _ h9 => h9) rfl dX5_hasSign_6 ?_
    refine lv_icmp_ge (tgt := 16) hx hb dX5_hasSign_9 (by decide) (fun hc => ?_) (fun hc => ?_)
    · have hf := jbT hf hc
      refine lv_iconst (v := 0) hx hb dX5_hasSign_16 (by decide) ?_
      cases hf
      subst hQ
      exact rt_i hx hb hrt hlk nar_0 hK hP hD hS (Nat.le_of_ble_eq_true rfl) (Nat.le_of_ble_eq_true rfl) dX5_hasSign_17
    · have hf := jbF hf hc
      refine lv_iconst (v := 1) hx hb dX5_hasSign_12 (by decide) ?_
      refine lv_goto (tgt := 17) hx hb dX5_hasSign_13 (by decide) ?_
      cases hf
      subst hQ
      exact rt_i hx hb hrt hlk nar_1 hK hP hD hS (Nat.le_of_ble_eq_true rfl) (Nat.le_of_ble_eq_true rfl) dX5_hasSign_17
def f_X5_signAt (ov : OV) (a0 : Int32) : Option Int32 :=
  if jIn a0 48 then
  if vp_nar .char ((oSigns ov) a0.toNatClampNeg) = ((oSigns ov) a0.toNatClampNeg) then some ((oSigns ov) a0.toNatClampNeg) else none
  else none
def rm_X5_signAt : Room := { frames := 0, cells := 0, slots := 0, locals := 0 }
theorem hd_X5_signAt : yX5_signAt.cls = RX5 ∧ yX5_signAt.cls ≠ "java/lang/invoke/MethodHandle" ∧ yX5_signAt.cls ≠ "java/lang/invoke/VarHandle" ∧ (parseMethodDescriptor yX5_signAt.desc).map (fun d => d.parameters.length) = some 1 := by decide +kernel
set_option maxHeartbeats 4000000 in
set_option maxRecDepth 100000 in
theorem c_X5_signAt (l : Launch) (g : GG) (ho : Nat → Nat) (ov : OV)  (a0 : Int32) (out : Int32) (hf : f_X5_signAt ov a0 = some out) : MtI l yX5_signAt wsX5_signAt rm_X5_signAt g (wO g ho ov) [.ref (ho 0), .int a0] out (wO g ho ov) 0 0 := by
  refine fun sz => mt_of (cc := cX5_signAt) (maxL := 2) (ret := (some .char)) (own := RX5) (Qc := fun A => va_Qi (fun r (_ : Unit) => r = out) (fun _ t => PosM g A (wO g ho ov) t) A) (by decide +kernel) rfl rfl (Nat.le_of_ble_eq_true rfl) ?_ sz
  intro p e s mi below meth c A ls hB hnm hrt hlk hP hD hl
  obtain ⟨hx, hb, hml, hown, hts, hK, hZ, hT, hA, -⟩ := hB
  have hS : va_S A s.heap s.heap [] := va_S.rf
  have hl : lv_has ls 2 [(0, .ref (ho 0)), (1, .int a0)] := hl
  have hinX5 : ∀ w ∈ wsX50, w ∈ wsX5_signAt := by decide +kernel
  have k0 := hts (.fieldLink RX5 13 "TerraceQuarry$OutputLine" "signs" "[C") (by decide +kernel)
  generalize hQ : MQ below _ _ _ _ _ _ = Q
  unfold f_X5_signAt at hf
  refine lv_aload_n hx hb dX5_signAt_0 rfl (lv_at hl 0 rfl) ?_
  refine va_get (D := gD g) (ci := 5) (v := .ref (ho 1)) (C := RX5) (T := TX5) (N := 2) hx hb hts hinX5 hown hK hP 0 rfl rfl 0 (by decide) k0 (fun _ h9 => h9) rfl dX5_signAt_1 ?_
  refine lv_iload_n hx hb dX5_signAt_4 rfl (lv_at hl 1 rfl) ?_
  obtain ⟨h1, hf⟩ := jbA_e hf
  refine va_cald hx hb hK hP 1 2 rfl rfl h1 dX5_signAt_5 ?_
  obtain ⟨h2, hf⟩ := jbA_e hf
  cases hf
  subst hQ
  exact rt_i hx hb hrt hlk (nar_c h2) hK hP hD hS (Nat.le_of_ble_eq_true rfl) (Nat.le_of_ble_eq_true rfl) dX5_signAt_6
def f_X5_put (ov : OV) (a0 : Int32) : Option OV :=
  if 48 ≤ (oLength ov) then
  (some ov)
  else
  (if jIn (oLength ov) 48 then
  jbN (oSSigns (upd (oSigns ov) (oLength ov).toNatClampNeg (vp_nar .char a0)) ov) fun w2 =>
  jbN (oSLength ((oLength w2) + 1) w2) fun w3 =>
  some w3
  else none)
def rm_X5_put : Room := { frames := 0, cells := 0, slots := 0, locals := 0 }
theorem hd_X5_put : yX5_put.cls = RX5 ∧ yX5_put.cls ≠ "java/lang/invoke/MethodHandle" ∧ yX5_put.cls ≠ "java/lang/invoke/VarHandle" ∧ (parseMethodDescriptor yX5_put.desc).map (fun d => d.parameters.length) = some 1 := by decide +kernel
set_option maxHeartbeats 4000000 in
set_option maxRecDepth 100000 in
theorem c_X5_put (l : Launch) (g : GG) (ho : Nat → Nat) (ov : OV)  (a0 : Int32) (out : OV) (hf : f_X5_put ov a0 = some out) : MtV l yX5_put wsX5_put rm_X5_put g (wO g ho ov) [.ref (ho 0), .int a0]  (wO g ho out) 0 0 := by
  refine fun sz => mt_of (cc := cX5_put) (maxL := 2) (ret := none) (own := RX5) (Qc := fun A => va_Qv (fun (_ : Unit) => True) (fun _ t => PosM g A (wO g ho out) t) A) (by decide +kernel) rfl rfl (Nat.le_of_ble_eq_true rfl) ?_ sz
  intro p e s mi below meth c A ls hB hnm hrt hlk hP hD hl
  obtain ⟨hx, hb, hml, hown, hts, hK, hZ, hT, hA, -⟩ := hB
  have hS : va_S A s.heap s.heap [] := va_S.rf
  have hl : lv_has ls 2 [(0, .ref (ho 0)), (1, .int a0)] := hl
  have hinX5 : ∀ w ∈ wsX50, w ∈ wsX5_put := by decide +kernel
  have k0 := hts (.fieldLink RX5 17 "TerraceQuarry$OutputLine" "length" "I") (by decide +kernel)
  have k1 := hts (.fieldLink RX5 13 "TerraceQuarry$OutputLine" "signs" "[C") (by decide +kernel)
  generalize hQ : MQ below _ _ _ _ _ _ = Q
  unfold f_X5_put at hf
  refine lv_aload_n hx hb dX5_put_0 rfl (lv_at hl 0 rfl) ?_
  refine va_get (D := gD g) (ci := 5) (v := .int (oLength ov)) (C := RX5) (T := TX5) (N := 2) hx hb hts hinX5 hown hK hP 0 rfl rfl 1 (by decide) k0 (fun _ h9 => h9) rfl dX5_put_1 ?_
  refine lv_aload_n hx hb dX5_put_4 rfl (lv_at hl 0 rfl) ?_
  refine va_get (D := gD g) (ci := 5) (v := .ref (ho 1)) (C := RX5) (T := TX5) (N := 2) hx hb hts hinX5 hown hK hP 0 rfl rfl 0 (by decide) k1 (fun _ h9 => h9) rfl dX5_put_5 ?_
  refine va_alen (v := 48) hx hb hK hP 1 2 rfl rfl rfl dX5_put_8 ?_
  refine lv_icmp_ge (tgt := 32) hx hb dX5_put_9 (by decide) (fun hc => ?_) (fun hc => ?_)
  · have hf := jbT hf hc
    cases hf
    subst hQ
    exact rt_v hx hb hrt hlk hK hP hD hS (Nat.le_of_ble_eq_true rfl) (Nat.le_of_ble_eq_true rfl) dX5_put_32
  · have hf := jbF hf hc
    refine lv_aload_n hx hb dX5_put_12 rfl (lv_at hl 0 rfl) ?_
    refine va_get (D := gD g) (ci := 5) (v := .ref (ho 1)) (C := RX5) (T := TX5) (N := 2) hx hb hts hinX5 hown hK hP 0 rfl rfl 0 (by decide) k1 (fun _ h9 => h9) rfl dX5_put_13 ?_
    refine lv_aload_n hx hb dX5_put_16 rfl (lv_at hl 0 rfl) ?_
    refine va_get (D := gD g) (ci := 5) (v := .int (oLength ov)) (C := RX5) (T := TX5) (N := 2) hx hb hts hinX5 hown hK hP 0 rfl rfl 1 (by decide) k0 (fun _ h9 => h9) rfl dX5_put_17 ?_
    refine lv_iload_n hx hb dX5_put_20 rfl (lv_at hl 1 rfl) ?_
    obtain ⟨h1, hf⟩ := jbA_e hf
    refine va_cast hx hb hK hP hD hS 1 2 rfl rfl h1 dX5_put_21 (fun H locs hP hD hS => ?_)
    obtain ⟨w2, ew2⟩ : ∃ y, y = (oSSigns (upd (oSigns ov) (oLength ov).toNatClampNeg (vp_nar .char a0)) ov) := ⟨_, rfl⟩
    have hf := jbN_e hf ew2
    have hP : va_P (gD g) vwCl (wO g ho w2) H := by rw [ew2]; exact hP
    have hD : va_D A (wO g ho w2) := by rw [ew2]; exact hD
    refine lv_aload_n hx hb dX5_put_22 rfl (lv_at hl 0 rfl) ?_
    refine lv_dup hx hb dX5_put_23 rfl ?_
    refine va_get (D := gD g) (ci := 5) (v := .int (oLength w2)) (C := RX5) (T := TX5) (N := 2) hx hb hts hinX5 hown hK hP 0 rfl rfl 1 (by decide) k0 (fun _ h9 => h9) rfl dX5_put_24 ?_
    refine lv_iconst (v := 1) hx hb dX5_put_27 (by decide) ?_
    refine lv_iadd hx hb dX5_put_28 ?_
    refine va_put (D := gD g) (ci := 5) (v := .int ((oLength w2) + 1)) (ty := .int) (C := RX5) (T := TX5) (N := 2) hx hb hts hinX5 tyX5 tyX5_ok nmX5 hown hK hP hD hS 0 rfl rfl 1 (by decide) k0 (fun _ h9 => h9) rfl (tyX5_ok 1 (by decide)) rfl rfl (Nat.le_of_ble_eq_true rfl) dX5_put_29 (fun H locs hP hD hS => ?_)
    obtain ⟨w3, ew3⟩ : ∃ y, y = (oSLength ((oLength w2) + 1) w2) := ⟨_, rfl⟩
    have hf := jbN_e hf ew3
    have hP : va_P (gD g) vwCl (wO g ho w3) H := by rw [ew3]; exact hP
    have hD : va_D A (wO g ho w3) := by rw [ew3]; exact hD
    cases hf
    subst hQ
    exact rt_v hx hb hrt hlk hK hP hD hS (Nat.le_of_ble_eq_true rfl) (Nat.le_of_ble_eq_true rfl) dX5_put_32
def f_X5_putCell_L56 (qv : QV) (x2 : Int32) (x3 : Int32) (ov : OV) : Option (Sum (Int32 × OV) (Int32 × OV)) :=
  (f_X7_blocksAt qv x2).bind fun o17 =>
  if o17 ≤ x3 then
  (some (.inr (x3, ov)))
  else
  ((f_X5_put ov 46).bind fun o19 =>
  some (.inl ((x3 + 1), o19)))
def f_X5_putCell_J54 (ov : OV) (qv : QV) (x2 : Int32) : Option OV :=
  (jbL (fun s => f_X5_putCell_L56 qv x2 (s.1) (s.2)) 5000 (0, ov)).bind fun o56 =>
  some (o56.2)
def f_X5_putCell_J40 (ov : OV) (qv : QV) (x2 : Int32) : Option OV :=
  (f_X7_hasWinchAt qv x2).bind fun o13 =>
  if o13 = 0 then
  (f_X5_putCell_J54 ov qv x2)
  else
  ((f_X5_put ov 94).bind fun o15 =>
  f_X5_putCell_J54 o15 qv x2)
def f_X5_putCell (ov : OV) (qv : QV) (a1 : Int32) : Option OV :=
  (f_X7_heightAt qv a1).bind fun o1 =>
  (f_X5_put ov (((48 + o1).toUInt32 % 65536).toInt32)).bind fun o3 =>
  (f_X7_stoneAt qv a1).bind fun o5 =>
  (f_X5_put o3 (((97 + o5).toUInt32 % 65536).toInt32)).bind fun o7 =>
  (f_X7_hasLedgeAt qv a1).bind fun o9 =>
  if o9 = 0 then
  (f_X5_putCell_J40 o7 qv a1)
  else
  ((f_X5_put o7 61).bind fun o11 =>
  f_X5_putCell_J40 o11 qv a1)
def rm_X5_putCell : Room := { frames := 1, cells := 0, slots := 0, locals := 22 }
theorem hd_X5_putCell : yX5_putCell.cls = RX5 ∧ yX5_putCell.cls ≠ "java/lang/invoke/MethodHandle" ∧ yX5_putCell.cls ≠ "java/lang/invoke/VarHandle" ∧ (parseMethodDescriptor yX5_putCell.desc).map (fun d => d.parameters.length) = some 2 := by decide +kernel
set_option maxHeartbeats 4000000 in
set_option maxRecDepth 100000 in
theorem c_X5_putCell (l : Launch) (g : GG) (ho : Nat → Nat) (ov : OV) (hq : Nat → Nat) (qv : QV)  (a1 : Int32) (out : OV) (hf : f_X5_putCell ov qv a1 = some out) : MtV l yX5_putCell wsX5_putCell rm_X5_putCell g (wO g ho ov ++ wQ g hq qv) [.ref (ho 0), .ref (hq 0), .int a1]  (wO g ho out ++ wQ g hq qv) 0 0 := by
  refine fun sz => mt_of (cc := cX5_putCell) (maxL := 4) (ret := none) (own := RX5) (Qc := fun A => va_Qv (fun (_ : Unit) => True) (fun _ t => PosM g A (wO g ho out ++ wQ g hq qv) t) A) (by decide +kernel) rfl rfl (Nat.le_of_ble_eq_true rfl) ?_ sz
  intro p e s mi below meth c A ls hB hnm hrt hlk hP hD hl
  obtain ⟨hx, hb, hml, hown, hts, hK, hZ, hT, hA, -⟩ := hB
  have hS : va_S A s.heap s.heap [] := va_S.rf
  have hl : lv_has ls 4 [(0, .ref (ho 0)), (1, .ref (hq 0)), (2, .int a1)] := hl
  generalize hQ : MQ below _ _ _ _ _ _ = Q
  unfold f_X5_putCell at hf
  have hL56 : ∀ (x2 : Int32) (n : Nat) (x3 : Int32) (ov : OV) (H : Heap) (locs : List Loc) (ls : Array Slot) (o56 : Int32 × OV), jbL (fun s => f_X5_putCell_L56 qv x2 (s.1) (s.2)) n (x3, ov) = some o56 → va_P (gD g) vwCl (wO g ho ov ++ wQ g hq qv) H → va_D A (wO g ho ov ++ wQ g hq qv) → va_S A s.heap H locs → lv_has ls 4 [(0, .ref (ho 0)), (1, .ref (hq 0)), (2, .int x2), (3, .int x3)] → (∀ (H : Heap) (locs : List Loc) (ls : Array Slot), va_P (gD g) vwCl (wO g ho (o56.2) ++ wQ g hq qv) H → va_D A (wO g ho (o56.2) ++ wQ g hq qv) → va_S A s.heap H locs → lv_has ls 4 [] → W p l e rm_X5_putCell s mi [.ref (ho 0), .ref (hq 0), .int a1].toArray below meth c H locs 0 0 Q (F0 mi 77 ls [])) → W p l e rm_X5_putCell s mi [.ref (ho 0), .ref (hq 0), .int a1].toArray below meth c H locs 0 0 Q (F0 mi 56 ls []) := by
    intro x2 n
    induction n with
    | zero => intro x3 ov H locs ls o56 hf; exact absurd hf (jbL_0 _ _ _)
    | succ n ih =>
      intro x3 ov H locs ls o56 hf hP hD hS hl hk
      obtain ⟨r, hf, hr⟩ := jbL_e hf
      have hf : f_X5_putCell_L56 qv x2 x3 ov = some r := hf
      unfold f_X5_putCell_L56 at hf
      refine lv_iload_n hx hb dX5_putCell_56 rfl (lv_at hl 3 rfl) ?_
      refine lv_aload_n hx hb dX5_putCell_57 rfl (lv_at hl 1 rfl) ?_
      refine lv_iload_n hx hb dX5_putCell_58 rfl (lv_at hl 2 rfl) ?_
      obtain ⟨o17, g18, hf⟩ := jbB_e hf
      refine cv_i (As := [.int x2]) (rest := [.int x3]) (Wr := [0, 1].filterMap (fun i => ((wO g ho ov ++ wQ g hq qv))[i]?)) ⟨hx, hb, hml, hown, hts⟩ (c_X7_blocksAt l g hq qv x2 _ g18) (cwV 1 hts gX5_putCell_X7_blocksAt rfl rfl rfl hd_X7_blocksAt ⟨Nat.le_of_ble_eq_true rfl, Nat.le_of_ble_eq_true rfl⟩) hK hZ hT hA hP hD hS hl.1 (va_recv hK hP (ci := 7) (q0 := 2) rfl rfl) [2, 3, 4, 5, 6, 7, 8, 9, 10, 11] [0, 1] rfl rfl rfl rfl rfl rfl rfl (Nat.le_of_ble_eq_true rfl) ⟨Nat.le_of_ble_eq_true rfl, Nat.le_of_ble_eq_true rfl⟩ dX5_putCell_59 (fun H locs hP hD hS => ?_)
      have hP : va_P (gD g) vwCl (wO g ho ov ++ wQ g hq qv) H := hP.sub [0, 1, 2, 3, 4, 5, 6, 7, 8, 9, 10, 11] rfl
      have hD : va_D A (wO g ho ov ++ wQ g hq qv) := hD.sub [0, 1, 2, 3, 4, 5, 6, 7, 8, 9, 10, 11] rfl rfl
      refine lv_icmp_ge (tgt := 77) hx hb dX5_putCell_62 (by decide) (fun hc => ?_) (fun hc => ?_)
      · have hf := jbT hf hc
        cases hf
        obtain rfl := jbR_r hr
        exact hk _ _ _ hP hD hS (lv_sub hl [] rfl)
      · have hf := jbF hf hc
        refine lv_aload_n hx hb dX5_putCell_65 rfl (lv_at hl 0 rfl) ?_
        refine lv_bipush (v := 46) hx hb dX5_putCell_66 (by decide) ?_
        obtain ⟨o19, g20, hf⟩ := jbB_e hf
        refine cv_v (As := [.int 46]) (rest := []) (Wr := [2, 3, 4, 5, 6, 7, 8, 9, 10, 11].filterMap (fun i => ((wO g ho ov ++ wQ g hq qv))[i]?)) ⟨hx, hb, hml, hown, hts⟩ (c_X5_put l g ho ov 46 _ g20) (cwV 1 hts gX5_putCell_X5_put rfl rfl rfl hd_X5_put ⟨Nat.le_of_ble_eq_true rfl, Nat.le_of_ble_eq_true rfl⟩) hK hZ hT hA hP hD hS hl.1 (va_recv hK hP (ci := 5) (q0 := 0) rfl rfl) [0, 1] [2, 3, 4, 5, 6, 7, 8, 9, 10, 11] rfl rfl rfl rfl rfl rfl rfl (Nat.le_of_ble_eq_true rfl) ⟨Nat.le_of_ble_eq_true rfl, Nat.le_of_ble_eq_true rfl⟩ dX5_putCell_68 (fun H locs hP hD hS => ?_)
        have hP : va_P (gD g) vwCl (wO g ho o19 ++ wQ g hq qv) H := hP.sub [10, 11, 0, 1, 2, 3, 4, 5, 6, 7, 8, 9] rfl
        have hD : va_D A (wO g ho o19 ++ wQ g hq qv) := hD.sub [10, 11, 0, 1, 2, 3, 4, 5, 6, 7, 8, 9] rfl rfl
        refine lv_iinc (v := (x3 + 1)) (lv' := [(3, .int (x3 + 1)), (0, .ref (ho 0)), (1, .ref (hq 0)), (2, .int x2)]) hx hb dX5_putCell_71 hl (k := 3) rfl rfl (by decide) rfl (fun ls hl => ?_)
        refine lv_goto (tgt := 56) hx hb dX5_putCell_74 (by decide) ?_
        cases hf
        exact ih (x3 + 1) o19 _ _ _ _ hr hP hD hS (lv_sub hl [1, 2, 3, 0] rfl) hk
  have hJ54 : ∀ (ov : OV) (x2 : Int32) (H : Heap) (locs : List Loc) (ls : Array Slot), f_X5_putCell_J54 ov qv x2 = some out → va_P (gD g) vwCl (wO g ho ov ++ wQ g hq qv) H → va_D A (wO g ho ov ++ wQ g hq qv) → va_S A s.heap H locs → lv_has ls 4 [(0, .ref (ho 0)), (1, .ref (hq 0)), (2, .int x2)] → W p l e rm_X5_putCell s mi [.ref (ho 0), .ref (hq 0), .int a1].toArray below meth c H locs 0 0 Q (F0 mi 54 ls []) := by
    intro ov x2 H locs ls hf hP hD hS hl
    unfold f_X5_putCell_J54 at hf
    refine lv_iconst (v := 0) hx hb dX5_putCell_54 (by decide) ?_
    refine lv_istore_n (lv' := [(3, .int 0), (0, .ref (ho 0)), (1, .ref (hq 0)), (2, .int x2)]) hx hb dX5_putCell_55 rfl hl (by decide) rfl (fun ls hl => ?_)
    obtain ⟨o56, hg, hf⟩ := jbB_e hf
    refine hL56 x2 _ 0 ov _ _ _ _ hg hP hD hS (lv_sub hl [1, 2, 3, 0] rfl) (fun H locs ls hP hD hS hl => ?_)
    cases hf
    subst hQ
    exact rt_v hx hb hrt hlk hK hP hD hS (Nat.le_of_ble_eq_true rfl) (Nat.le_of_ble_eq_true rfl) dX5_putCell_77
  have hJ40 : ∀ (ov : OV) (x2 : Int32) (H : Heap) (locs : List Loc) (ls : Array Slot), f_X5_putCell_J40 ov qv x2 = some out → va_P (gD g) vwCl (wO g ho ov ++ wQ g hq qv) H → va_D A (wO g ho ov ++ wQ g hq qv) → va_S A s.heap H locs → lv_has ls 4 [(0, .ref (ho 0)), (1, .ref (hq 0)), (2, .int x2)] → W p l e rm_X5_putCell s mi [.ref (ho 0), .ref (hq 0), .int a1].toArray below meth c H locs 0 0 Q (F0 mi 40 ls []) := by
    intro ov x2 H locs ls hf hP hD hS hl
    unfold f_X5_putCell_J40 at hf
    refine lv_aload_n hx hb dX5_putCell_40 rfl (lv_at hl 1 rfl) ?_
    refine lv_iload_n hx hb dX5_putCell_41 rfl (lv_at hl 2 rfl) ?_
    obtain ⟨o13, g14, hf⟩ := jbB_e hf
    refine cv_i (As := [.int x2]) (rest := []) (Wr := [0, 1].filterMap (fun i => ((wO g ho ov ++ wQ g hq qv))[i]?)) ⟨hx, hb, hml, hown, hts⟩ (c_X7_hasWinchAt l g hq qv x2 _ g14) (cwV 1 hts gX5_putCell_X7_hasWinchAt rfl rfl rfl hd_X7_hasWinchAt ⟨Nat.le_of_ble_eq_true rfl, Nat.le_of_ble_eq_true rfl⟩) hK hZ hT hA hP hD hS hl.1 (va_recv hK hP (ci := 7) (q0 := 2) rfl rfl) [2, 3, 4, 5, 6, 7, 8, 9, 10, 11] [0, 1] rfl rfl rfl rfl rfl rfl rfl (Nat.le_of_ble_eq_true rfl) ⟨Nat.le_of_ble_eq_true rfl, Nat.le_of_ble_eq_true rfl⟩ dX5_putCell_42 (fun H locs hP hD hS => ?_)
    have hP : va_P (gD g) vwCl (wO g ho ov ++ wQ g hq qv) H := hP.sub [0, 1, 2, 3, 4, 5, 6, 7, 8, 9, 10, 11] rfl
    have hD : va_D A (wO g ho ov ++ wQ g hq qv) := hD.sub [0, 1, 2, 3, 4, 5, 6, 7, 8, 9, 10, 11] rfl rfl
    refine lv_if_eq (tgt := 54) hx hb dX5_putCell_45 (by decide) (fun hc => ?_) (fun hc => ?_)
    · have hf := jbT hf hc
      exact hJ54 ov x2 _ _ _ hf hP hD hS (lv_sub hl [0, 1, 2] rfl)
    · have hf := jbF hf hc
      refine lv_aload_n hx hb dX5_putCell_48 rfl (lv_at hl 0 rfl) ?_
      refine lv_bipush (v := 94) hx hb dX5_putCell_49 (by decide) ?_
      obtain ⟨o15, g16, hf⟩ := jbB_e hf
      refine cv_v (As := [.int 94]) (rest := []) (Wr := [2, 3, 4, 5, 6, 7, 8, 9, 10, 11].filterMap (fun i => ((wO g ho ov ++ wQ g hq qv))[i]?)) ⟨hx, hb, hml, hown, hts⟩ (c_X5_put l g ho ov 94 _ g16) (cwV 1 hts gX5_putCell_X5_put rfl rfl rfl hd_X5_put ⟨Nat.le_of_ble_eq_true rfl, Nat.le_of_ble_eq_true rfl⟩) hK hZ hT hA hP hD hS hl.1 (va_recv hK hP (ci := 5) (q0 := 0) rfl rfl) [0, 1] [2, 3, 4, 5, 6, 7, 8, 9, 10, 11] rfl rfl rfl rfl rfl rfl rfl (Nat.le_of_ble_eq_true rfl) ⟨Nat.le_of_ble_eq_true rfl, Nat.le_of_ble_eq_true rfl⟩ dX5_putCell_51 (fun H locs hP hD hS => ?_)
      have hP : va_P (gD g) vwCl (wO g ho o15 ++ wQ g hq qv) H := hP.sub [10, 11, 0, 1, 2, 3, 4, 5, 6, 7, 8, 9] rfl
      have hD : va_D A (wO g ho o15 ++ wQ g hq qv) := hD.sub [10, 11, 0, 1, 2, 3, 4, 5, 6, 7, 8, 9] rfl rfl
      exact hJ54 o15 x2 _ _ _ hf hP hD hS (lv_sub hl [0, 1, 2] rfl)
  refine lv_aload_n hx hb dX5_putCell_0 rfl (lv_at hl 0 rfl) ?_
  refine lv_bipush (v := 48) hx hb dX5_putCell_1 (by decide) ?_
  refine lv_aload_n hx hb dX5_putCell_3 rfl (lv_at hl 1 rfl) ?_
  refine lv_iload_n hx hb dX5_putCell_4 rfl (lv_at hl 2 rfl) ?_
  obtain ⟨o1, g2, hf⟩ := jbB_e hf
  refine cv_i (As := [.int a1]) (rest := [.int 48, .ref (ho 0)]) (Wr := [0, 1].filterMap (fun i => ((wO g ho ov ++ wQ g hq qv))[i]?)) ⟨hx, hb, hml, hown, hts⟩ (c_X7_heightAt l g hq qv a1 _ g2) (cwV 1 hts gX5_putCell_X7_heightAt rfl rfl rfl hd_X7_heightAt ⟨Nat.le_of_ble_eq_true rfl, Nat.le_of_ble_eq_true rfl⟩) hK hZ hT hA hP hD hS hl.1 (va_recv hK hP (ci := 7) (q0 := 2) rfl rfl) [2, 3, 4, 5, 6, 7, 8, 9, 10, 11] [0, 1] rfl rfl rfl rfl rfl rfl rfl (Nat.le_of_ble_eq_true rfl) ⟨Nat.le_of_ble_eq_true rfl, Nat.le_of_ble_eq_true rfl⟩ dX5_putCell_5 (fun H locs hP hD hS => ?_)
  have hP : va_P (gD g) vwCl (wO g ho ov ++ wQ g hq qv) H := hP.sub [0, 1, 2, 3, 4, 5, 6, 7, 8, 9, 10, 11] rfl
  have hD : va_D A (wO g ho ov ++ wQ g hq qv) := hD.sub [0, 1, 2, 3, 4, 5, 6, 7, 8, 9, 10, 11] rfl rfl
  refine lv_iadd hx hb dX5_putCell_8 ?_
  refine lv_i2c (v := ((48 + o1).toUInt32 % 65536).toInt32) hx hb dX5_putCell_9 rfl ?_
  obtain ⟨o3, g4, hf⟩ := jbB_e hf
  refine cv_v (As := [.int (((48 + o1).toUInt32 % 65536).toInt32)]) (rest := []) (Wr := [2, 3, 4, 5, 6, 7, 8, 9, 10, 11].filterMap (fun i => ((wO g ho ov ++ wQ g hq qv))[i]?)) ⟨hx, hb, hml, hown, hts⟩ (c_X5_put l g ho ov (((48 + o1).toUInt32 % 65536).toInt32) _ g4) (cwV 1 hts gX5_putCell_X5_put rfl rfl rfl hd_X5_put ⟨Nat.le_of_ble_eq_true rfl, Nat.le_of_ble_eq_true rfl⟩) hK hZ hT hA hP hD hS hl.1 (va_recv hK hP (ci := 5) (q0 := 0) rfl rfl) [0, 1] [2, 3, 4, 5, 6, 7, 8, 9, 10, 11] rfl rfl rfl rfl rfl rfl rfl (Nat.le_of_ble_eq_true rfl) ⟨Nat.le_of_ble_eq_true rfl, Nat.le_of_ble_eq_true rfl⟩ dX5_putCell_10 (fun H locs hP hD hS => ?_)
  have hP : va_P (gD g) vwCl (wO g ho o3 ++ wQ g hq qv) H := hP.sub [10, 11, 0, 1, 2, 3, 4, 5, 6, 7, 8, 9] rfl
  have hD : va_D A (wO g ho o3 ++ wQ g hq qv) := hD.sub [10, 11, 0, 1, 2, 3, 4, 5, 6, 7, 8, 9] rfl rfl
  refine lv_aload_n hx hb dX5_putCell_13 rfl (lv_at hl 0 rfl) ?_
  refine lv_bipush (v := 97) hx hb dX5_putCell_14 (by decide) ?_
  refine lv_aload_n hx hb dX5_putCell_16 rfl (lv_at hl 1 rfl) ?_
  refine lv_iload_n hx hb dX5_putCell_17 rfl (lv_at hl 2 rfl) ?_
  obtain ⟨o5, g6, hf⟩ := jbB_e hf
  refine cv_i (As := [.int a1]) (rest := [.int 97, .ref (ho 0)]) (Wr := [0, 1].filterMap (fun i => ((wO g ho o3 ++ wQ g hq qv))[i]?)) ⟨hx, hb, hml, hown, hts⟩ (c_X7_stoneAt l g hq qv a1 _ g6) (cwV 1 hts gX5_putCell_X7_stoneAt rfl rfl rfl hd_X7_stoneAt ⟨Nat.le_of_ble_eq_true rfl, Nat.le_of_ble_eq_true rfl⟩) hK hZ hT hA hP hD hS hl.1 (va_recv hK hP (ci := 7) (q0 := 2) rfl rfl) [2, 3, 4, 5, 6, 7, 8, 9, 10, 11] [0, 1] rfl rfl rfl rfl rfl rfl rfl (Nat.le_of_ble_eq_true rfl) ⟨Nat.le_of_ble_eq_true rfl, Nat.le_of_ble_eq_true rfl⟩ dX5_putCell_18 (fun H locs hP hD hS => ?_)
  have hP : va_P (gD g) vwCl (wO g ho o3 ++ wQ g hq qv) H := hP.sub [0, 1, 2, 3, 4, 5, 6, 7, 8, 9, 10, 11] rfl
  have hD : va_D A (wO g ho o3 ++ wQ g hq qv) := hD.sub [0, 1, 2, 3, 4, 5, 6, 7, 8, 9, 10, 11] rfl rfl
  refine lv_iadd hx hb dX5_putCell_21 ?_
  refine lv_i2c (v := ((97 + o5).toUInt32 % 65536).toInt32) hx hb dX5_putCell_22 rfl ?_
  obtain ⟨o7, g8, hf⟩ := jbB_e hf
  refine cv_v (As := [.int (((97 + o5).toUInt32 % 65536).toInt32)]) (rest := []) (Wr := [2, 3, 4, 5, 6, 7, 8, 9, 10, 11].filterMap (fun i => ((wO g ho o3 ++ wQ g hq qv))[i]?)) ⟨hx, hb, hml, hown, hts⟩ (c_X5_put l g ho o3 (((97 + o5).toUInt32 % 65536).toInt32) _ g8) (cwV 1 hts gX5_putCell_X5_put rfl rfl rfl hd_X5_put ⟨Nat.le_of_ble_eq_true rfl, Nat.le_of_ble_eq_true rfl⟩) hK hZ hT hA hP hD hS hl.1 (va_recv hK hP (ci := 5) (q0 := 0) rfl rfl) [0, 1] [2, 3, 4, 5, 6, 7, 8, 9, 10, 11] rfl rfl rfl rfl rfl rfl rfl (Nat.le_of_ble_eq_true rfl) ⟨Nat.le_of_ble_eq_true rfl, Nat.le_of_ble_eq_true rfl⟩ dX5_putCell_23 (fun H locs hP hD hS => ?_)
  have hP : va_P (gD g) vwCl (wO g ho o7 ++ wQ g hq qv) H := hP.sub [10, 11, 0, 1, 2, 3, 4, 5, 6, 7, 8, 9] rfl
  have hD : va_D A (wO g ho o7 ++ wQ g hq qv) := hD.sub [10, 11, 0, 1, 2, 3, 4, 5, 6, 7, 8, 9] rfl rfl
  refine lv_aload_n hx hb dX5_putCell_26 rfl (lv_at hl 1 rfl) ?_
  refine lv_iload_n hx hb dX5_putCell_27 rfl (lv_at hl 2 rfl) ?_
  obtain ⟨o9, g10, hf⟩ := jbB_e hf
  refine cv_i (As := [.int a1]) (rest := []) (Wr := [0, 1].filterMap (fun i => ((wO g ho o7 ++ wQ g hq qv))[i]?)) ⟨hx, hb, hml, hown, hts⟩ (c_X7_hasLedgeAt l g hq qv a1 _ g10) (cwV 1 hts gX5_putCell_X7_hasLedgeAt rfl rfl rfl hd_X7_hasLedgeAt ⟨Nat.le_of_ble_eq_true rfl, Nat.le_of_ble_eq_true rfl⟩) hK hZ hT hA hP hD hS hl.1 (va_recv hK hP (ci := 7) (q0 := 2) rfl rfl) [2, 3, 4, 5, 6, 7, 8, 9, 10, 11] [0, 1] rfl rfl rfl rfl rfl rfl rfl (Nat.le_of_ble_eq_true rfl) ⟨Nat.le_of_ble_eq_true rfl, Nat.le_of_ble_eq_true rfl⟩ dX5_putCell_28 (fun H locs hP hD hS => ?_)
  have hP : va_P (gD g) vwCl (wO g ho o7 ++ wQ g hq qv) H := hP.sub [0, 1, 2, 3, 4, 5, 6, 7, 8, 9, 10, 11] rfl
  have hD : va_D A (wO g ho o7 ++ wQ g hq qv) := hD.sub [0, 1, 2, 3, 4, 5, 6, 7, 8, 9, 10, 11] rfl rfl
  refine lv_if_eq (tgt := 40) hx hb dX5_putCell_31 (by decide) (fun hc => ?_) (fun hc => ?_)
  · have hf := jbT hf hc
    exact hJ40 o7 a1 _ _ _ hf hP hD hS (lv_sub hl [0, 1, 2] rfl)
  · have hf := jbF hf hc
    refine lv_aload_n hx hb dX5_putCell_34 rfl (lv_at hl 0 rfl) ?_
    refine lv_bipush (v := 61) hx hb dX5_putCell_35 (by decide) ?_
    obtain ⟨o11, g12, hf⟩ := jbB_e hf
    refine cv_v (As := [.int 61]) (rest := []) (Wr := [2, 3, 4, 5, 6, 7, 8, 9, 10, 11].filterMap (fun i => ((wO g ho o7 ++ wQ g hq qv))[i]?)) ⟨hx, hb, hml, hown, hts⟩ (c_X5_put l g ho o7 61 _ g12) (cwV 1 hts gX5_putCell_X5_put rfl rfl rfl hd_X5_put ⟨Nat.le_of_ble_eq_true rfl, Nat.le_of_ble_eq_true rfl⟩) hK hZ hT hA hP hD hS hl.1 (va_recv hK hP (ci := 5) (q0 := 0) rfl rfl) [0, 1] [2, 3, 4, 5, 6, 7, 8, 9, 10, 11] rfl rfl rfl rfl rfl rfl rfl (Nat.le_of_ble_eq_true rfl) ⟨Nat.le_of_ble_eq_true rfl, Nat.le_of_ble_eq_true rfl⟩ dX5_putCell_37 (fun H locs hP hD hS => ?_)
    have hP : va_P (gD g) vwCl (wO g ho o11 ++ wQ g hq qv) H := hP.sub [10, 11, 0, 1, 2, 3, 4, 5, 6, 7, 8, 9] rfl
    have hD : va_D A (wO g ho o11 ++ wQ g hq qv) := hD.sub [10, 11, 0, 1, 2, 3, 4, 5, 6, 7, 8, 9] rfl rfl
    exact hJ40 o11 a1 _ _ _ hf hP hD hS (lv_sub hl [0, 1, 2] rfl)
def f_X5_write_J23 (ov : OV) (qv : QV) (x2 : Int32) (x3 : Int32) : Option (Sum (Int32 × OV) (Int32 × OV)) :=
  (f_X3_cellAt x2 x3).bind fun o4 =>
  (f_X5_putCell ov qv o4).bind fun o6 =>
  some (.inl ((x3 + 1), o6))
def f_X5_write_L7 (qv : QV) (x2 : Int32) (x3 : Int32) (ov : OV) : Option (Sum (Int32 × OV) (Int32 × OV)) :=
  if 6 ≤ x3 then
  (some (.inr (x3, ov)))
  else
  (if x3 ≤ 0 then
  (f_X5_write_J23 ov qv x2 x3)
  else
  ((f_X5_put ov 32).bind fun o2 =>
  f_X5_write_J23 o2 qv x2 x3))
def f_X5_write (ov : OV) (qv : QV) (a1 : Int32) : Option (Int32 × OV) :=
  jbN (oSLength 0 ov) fun w1 =>
  (jbL (fun s => f_X5_write_L7 qv a1 (s.1) (s.2)) 5000 (0, w1)).bind fun o7 =>
  some ((oLength (o7.2)), (o7.2))
def rm_X5_write : Room := { frames := 2, cells := 0, slots := 0, locals := 45 }
theorem hd_X5_write : yX5_write.cls = RX5 ∧ yX5_write.cls ≠ "java/lang/invoke/MethodHandle" ∧ yX5_write.cls ≠ "java/lang/invoke/VarHandle" ∧ (parseMethodDescriptor yX5_write.desc).map (fun d => d.parameters.length) = some 2 := by decide +kernel
set_option maxHeartbeats 4000000 in
set_option maxRecDepth 100000 in
theorem c_X5_write (l : Launch) (g : GG) (ho : Nat → Nat) (ov : OV) (hq : Nat → Nat) (qv : QV)  (a1 : Int32) (out : Int32 × OV) (hf : f_X5_write ov qv a1 = some out) : MtI l yX5_write wsX5_write rm_X5_write g (wO g ho ov ++ wQ g hq qv) [.ref (ho 0), .ref (hq 0), .int a1] (out.1) (wO g ho (out.2) ++ wQ g hq qv) 0 0 := by
  refine fun sz => mt_of (cc := cX5_write) (maxL := 4) (ret := (some .int)) (own := RX5) (Qc := fun A => va_Qi (fun r (_ : Unit) => r = (out.1)) (fun _ t => PosM g A (wO g ho (out.2) ++ wQ g hq qv) t) A) (by decide +kernel) rfl rfl (Nat.le_of_ble_eq_true rfl) ?_ sz
  intro p e s mi below meth c A ls hB hnm hrt hlk hP hD hl
  obtain ⟨hx, hb, hml, hown, hts, hK, hZ, hT, hA, -⟩ := hB
  have hS : va_S A s.heap s.heap [] := va_S.rf
  have hl : lv_has ls 4 [(0, .ref (ho 0)), (1, .ref (hq 0)), (2, .int a1)] := hl
  have hinX5 : ∀ w ∈ wsX50, w ∈ wsX5_write := by decide +kernel
  have k0 := hts (.fieldLink RX5 17 "TerraceQuarry$OutputLine" "length" "I") (by decide +kernel)
  generalize hQ : MQ below _ _ _ _ _ _ = Q
  unfold f_X5_write at hf
  have hL7 : ∀ (x2 : Int32) (n : Nat) (x3 : Int32) (ov : OV) (H : Heap) (locs : List Loc) (ls : Array Slot) (o7 : Int32 × OV), jbL (fun s => f_X5_write_L7 qv x2 (s.1) (s.2)) n (x3, ov) = some o7 → va_P (gD g) vwCl (wO g ho ov ++ wQ g hq qv) H → va_D A (wO g ho ov ++ wQ g hq qv) → va_S A s.heap H locs → lv_has ls 4 [(0, .ref (ho 0)), (1, .ref (hq 0)), (2, .int x2), (3, .int x3)] → (∀ (H : Heap) (locs : List Loc) (ls : Array Slot), va_P (gD g) vwCl (wO g ho (o7.2) ++ wQ g hq qv) H → va_D A (wO g ho (o7.2) ++ wQ g hq qv) → va_S A s.heap H locs → lv_has ls 4 [(0, .ref (ho 0))] → W p l e rm_X5_write s mi [.ref (ho 0), .ref (hq 0), .int a1].toArray below meth c H locs 0 0 Q (F0 mi 39 ls [])) → W p l e rm_X5_write s mi [.ref (ho 0), .ref (hq 0), .int a1].toArray below meth c H locs 0 0 Q (F0 mi 7 ls []) := by
    intro x2 n
    induction n with
    | zero => intro x3 ov H locs ls o7 hf; exact absurd hf (jbL_0 _ _ _)
    | succ n ih =>
      intro x3 ov H locs ls o7 hf hP hD hS hl hk
      obtain ⟨r, hf, hr⟩ := jbL_e hf
      have hf : f_X5_write_L7 qv x2 x3 ov = some r := hf
      unfold f_X5_write_L7 at hf
      have hJ23 : ∀ (ov : OV) (x3 : Int32) (H : Heap) (locs : List Loc) (ls : Array Slot) (r : Sum (Int32 × OV) (Int32 × OV)), f_X5_write_J23 ov qv x2 x3 = some r → jbR (fun s => f_X5_write_L7 qv x2 (s.1) (s.2)) n o7 r → va_P (gD g) vwCl (wO g ho ov ++ wQ g hq qv) H → va_D A (wO g ho ov ++ wQ g hq qv) → va_S A s.heap H locs → lv_has ls 4 [(0, .ref (ho 0)), (1, .ref (hq 0)), (2, .int x2), (3, .int x3)] → W p l e rm_X5_write s mi [.ref (ho 0), .ref (hq 0), .int a1].toArray below meth c H locs 0 0 Q (F0 mi 23 ls []) := by
        intro ov x3 H locs ls r hf hr hP hD hS hl
        unfold f_X5_write_J23 at hf
        refine lv_aload_n hx hb dX5_write_23 rfl (lv_at hl 0 rfl) ?_
        refine lv_aload_n hx hb dX5_write_24 rfl (lv_at hl 1 rfl) ?_
        refine lv_iload_n hx hb dX5_write_25 rfl (lv_at hl 2 rfl) ?_
        refine lv_iload_n hx hb dX5_write_26 rfl (lv_at hl 3 rfl) ?_
        obtain ⟨o4, g5, hf⟩ := jbB_e hf
        refine csn_i (As := [.int x2, .int x3]) (rest := [.ref (hq 0), .ref (ho 0)]) ⟨hx, hb, hml, hown, hts⟩ (c_X3_cellAt l g x2 x3 _ g5) (va_cwS 2 hts gX5_write_X3_cellAt rfl rfl rfl hd_X3_cellAt ⟨Nat.le_of_ble_eq_true rfl, Nat.le_of_ble_eq_true rfl⟩) hK hZ hT hA hP hD hS hl.1 rfl rfl (Nat.le_of_ble_eq_true rfl) ⟨Nat.le_of_ble_eq_true rfl, Nat.le_of_ble_eq_true rfl⟩ dX5_write_27 (fun H locs hP hD hS => ?_)
        obtain ⟨o6, g7, hf⟩ := jbB_e hf
        refine cva_v (As := [.ref (hq 0), .int o4]) (rest := []) ⟨hx, hb, hml, hown, hts⟩ (c_X5_putCell l g ho ov hq qv o4 _ g7) (cwV 2 hts gX5_write_X5_putCell rfl rfl rfl hd_X5_putCell ⟨Nat.le_of_ble_eq_true rfl, Nat.le_of_ble_eq_true rfl⟩) hK hZ hT hA hP hD hS hl.1 (va_recv hK hP (ci := 5) (q0 := 0) rfl rfl) rfl rfl (Nat.le_of_ble_eq_true rfl) ⟨Nat.le_of_ble_eq_true rfl, Nat.le_of_ble_eq_true rfl⟩ dX5_write_30 (fun H locs hP hD hS => ?_)
        refine lv_iinc (v := (x3 + 1)) (lv' := [(3, .int (x3 + 1)), (0, .ref (ho 0)), (1, .ref (hq 0)), (2, .int x2)]) hx hb dX5_write_33 hl (k := 3) rfl rfl (by decide) rfl (fun ls hl => ?_)
        refine lv_goto (tgt := 7) hx hb dX5_write_36 (by decide) ?_
        cases hf
        exact ih (x3 + 1) o6 _ _ _ _ hr hP hD hS (lv_sub hl [1, 2, 3, 0] rfl) hk
      refine lv_iload_n hx hb dX5_write_7 rfl (lv_at hl 3 rfl) ?_
      refine lv_bipush (v := 6) hx hb dX5_write_8 (by decide) ?_
      refine lv_icmp_ge (tgt := 39) hx hb dX5_write_10 (by decide) (fun hc => ?_) (fun hc => ?_)
      · have hf := jbT hf hc
        cases hf
        obtain rfl := jbR_r hr
        exact hk _ _ _ hP hD hS (lv_sub hl [0] rfl)
      · have hf := jbF hf hc
        refine lv_iload_n hx hb dX5_write_13 rfl (lv_at hl 3 rfl) ?_
        refine lv_if_le (tgt := 23) hx hb dX5_write_14 (by decide) (fun hc => ?_) (fun hc => ?_)
        · have hf := jbT hf hc
          exact hJ23 ov x3 _ _ _ _ hf hr hP hD hS (lv_sub hl [0, 1, 2, 3] rfl)
        · have hf := jbF hf hc
          refine lv_aload_n hx hb dX5_write_17 rfl (lv_at hl 0 rfl) ?_
          refine lv_bipush (v := 32) hx hb dX5_write_18 (by decide) ?_
          obtain ⟨o2, g3, hf⟩ := jbB_e hf
          refine cv_v (As := [.int 32]) (rest := []) (Wr := [2, 3, 4, 5, 6, 7, 8, 9, 10, 11].filterMap (fun i => ((wO g ho ov ++ wQ g hq qv))[i]?)) ⟨hx, hb, hml, hown, hts⟩ (c_X5_put l g ho ov 32 _ g3) (cwV 1 hts gX5_write_X5_put rfl rfl rfl hd_X5_put ⟨Nat.le_of_ble_eq_true rfl, Nat.le_of_ble_eq_true rfl⟩) hK hZ hT hA hP hD hS hl.1 (va_recv hK hP (ci := 5) (q0 := 0) rfl rfl) [0, 1] [2, 3, 4, 5, 6, 7, 8, 9, 10, 11] rfl rfl rfl rfl rfl rfl rfl (Nat.le_of_ble_eq_true rfl) ⟨Nat.le_of_ble_eq_true rfl, Nat.le_of_ble_eq_true rfl⟩ dX5_write_20 (fun H locs hP hD hS => ?_)
          have hP : va_P (gD g) vwCl (wO g ho o2 ++ wQ g hq qv) H := hP.sub [10, 11, 0, 1, 2, 3, 4, 5, 6, 7, 8, 9] rfl
          have hD : va_D A (wO g ho o2 ++ wQ g hq qv) := hD.sub [10, 11, 0, 1, 2, 3, 4, 5, 6, 7, 8, 9] rfl rfl
          exact hJ23 o2 x3 _ _ _ _ hf hr hP hD hS (lv_sub hl [0, 1, 2, 3] rfl)
  refine lv_aload_n hx hb dX5_write_0 rfl (lv_at hl 0 rfl) ?_
  refine lv_iconst (v := 0) hx hb dX5_write_1 (by decide) ?_
  refine va_put (D := gD g) (ci := 5) (v := .int 0) (ty := .int) (C := RX5) (T := TX5) (N := 2) hx hb hts hinX5 tyX5 tyX5_ok nmX5 hown hK hP hD hS 0 rfl rfl 1 (by decide) k0 (fun _ h9 => h9) rfl (tyX5_ok 1 (by decide)) rfl rfl (Nat.le_of_ble_eq_true rfl) dX5_write_2 (fun H locs hP hD hS => ?_)
  obtain ⟨w1, ew1⟩ : ∃ y, y = (oSLength 0 ov) := ⟨_, rfl⟩
  have hf := jbN_e hf ew1
  have hP : va_P (gD g) vwCl (wO g ho w1 ++ wQ g hq qv) H := by rw [ew1]; exact hP
  have hD : va_D A (wO g ho w1 ++ wQ g hq qv) := by rw [ew1]; exact hD
  refine lv_iconst (v := 0) hx hb dX5_write_5 (by decide) ?_
  refine lv_istore_n (lv' := [(3, .int 0), (0, .ref (ho 0)), (1, .ref (hq 0)), (2, .int a1)]) hx hb dX5_write_6 rfl hl (by decide) rfl (fun ls hl => ?_)
  obtain ⟨o7, hg, hf⟩ := jbB_e hf
  refine hL7 a1 _ 0 w1 _ _ _ _ hg hP hD hS (lv_sub hl [1, 2, 3, 0] rfl) (fun H locs ls hP hD hS hl => ?_)
  refine lv_aload_n hx hb dX5_write_39 rfl (lv_at hl 0 rfl) ?_
  refine va_get (D := gD g) (ci := 5) (v := .int (oLength (o7.2))) (C := RX5) (T := TX5) (N := 2) hx hb hts hinX5 hown hK hP 0 rfl rfl 1 (by decide) k0 (fun _ h9 => h9) rfl dX5_write_40 ?_
  cases hf
  subst hQ
  exact rt_i hx hb hrt hlk rfl hK hP hD hS (Nat.le_of_ble_eq_true rfl) (Nat.le_of_ble_eq_true rfl) dX5_write_43
