def f_X8_excessOver (sv : SV) (a0 : Int32) (a1 : Int32) : Option Int32 :=
  if a0 = (-1) then
  (some 0)
  else
  (if jIn a0 30 then
  some (((sLowered sv) a0.toNatClampNeg) - a1)
  else none)
def rm_X8_excessOver : Room := { frames := 0, cells := 0, slots := 0, locals := 0 }
theorem hd_X8_excessOver : yX8_excessOver.cls = RX8 ∧ yX8_excessOver.cls ≠ "java/lang/invoke/MethodHandle" ∧ yX8_excessOver.cls ≠ "java/lang/invoke/VarHandle" ∧ (parseMethodDescriptor yX8_excessOver.desc).map (fun d => d.parameters.length) = some 2 := by decide +kernel
set_option maxHeartbeats 4000000 in
set_option maxRecDepth 100000 in
theorem c_X8_excessOver (l : Launch) (g : GG) (hs : Nat → Nat) (sv : SV)  (a0 : Int32) (a1 : Int32) (out : Int32) (hf : f_X8_excessOver sv a0 a1 = some out) : MtI l yX8_excessOver wsX8_excessOver rm_X8_excessOver g (wS g hs sv) [.ref (hs 0), .int a0, .int a1] out (wS g hs sv) 0 0 := by
  refine fun sz => mt_of (cc := cX8_excessOver) (maxL := 3) (ret := (some .int)) (own := RX8) (Qc := fun A => va_Qi (fun r (_ : Unit) => r = out) (fun _ t => PosM g A (wS g hs sv) t) A) (by decide +kernel) rfl rfl (Nat.le_of_ble_eq_true rfl) ?_ sz
  intro p e s mi below meth c A ls hB hnm hrt hlk hP hD hl
  obtain ⟨hx, hb, hml, hown, hts, hK, hZ, hT, hA, -⟩ := hB
  have hS : va_S A s.heap s.heap [] := va_S.rf
  have hl : lv_has ls 3 [(0, .ref (hs 0)), (1, .int a0), (2, .int a1)] := hl
  have hinX8 : ∀ w ∈ wsX80, w ∈ wsX8_excessOver := by decide +kernel
  have k0 := hts (.fieldLink RX8 17 "TerraceQuarry$Survey" "lowered" "[I") (by decide +kernel)
  generalize hQ : MQ below _ _ _ _ _ _ = Q
  unfold f_X8_excessOver at hf
  refine lv_iload_n hx hb dX8_excessOver_0 rfl (lv_at hl 1 rfl) ?_
  refine lv_iconst (v := (-1)) hx hb dX8_excessOver_1 (by decide) ?_
  refine lv_icmp_ne (tgt := 9) hx hb dX8_excessOver_2 (by decide) (fun hc => ?_) (fun hc => ?_)
  · have hf := jbF hf hc
    refine lv_aload_n hx hb dX8_excessOver_9 rfl (lv_at hl 0 rfl) ?_
    refine va_get (D := gD g) (ci := 8) (v := .ref (hs 2)) (C := RX8) (T := TX8) (N := 5) hx hb hts hinX8 hown hK hP 0 rfl rfl 1 (by decide) k0 (fun _ h9 => h9) rfl dX8_excessOver_10 ?_
    refine lv_iload_n hx hb dX8_excessOver_13 rfl (lv_at hl 1 rfl) ?_
    obtain ⟨h1, hf⟩ := jbA_e hf
    refine va_iald hx hb hK hP 2 0 rfl rfl h1 dX8_excessOver_14 ?_
    refine lv_iload_n hx hb dX8_excessOver_15 rfl (lv_at hl 2 rfl) ?_
    refine lv_isub hx hb dX8_excessOver_16 ?_
    cases hf
    subst hQ
    exact rt_i hx hb hrt hlk rfl hK hP hD hS (Nat.le_of_ble_eq_true rfl) (Nat.le_of_ble_eq_true rfl) dX8_excessOver_17
  · have hf := jbT hf hc
    refine lv_iconst (v := 0) hx hb dX8_excessOver_5 (by decide) ?_
    refine lv_goto (tgt := 17) hx hb dX8_excessOver_6 (by decide) ?_
    cases hf
    subst hQ
    exact rt_i hx hb hrt hlk rfl hK hP hD hS (Nat.le_of_ble_eq_true rfl) (Nat.le_of_ble_eq_true rfl) dX8_excessOver_17
def f_X8_cutsBySpreading_J170 (sv : SV) (qv : QV) (x4 : Int32) (x5 : Int32) (x6 : Int32) (x7 : Int32) : Option (Sum (Int32 × Int32 × Int32 × SV) (Int32 × Int32 × Int32 × SV)) :=
  some (.inl (x4, x5, (x7 + 1), sv))
def f_X8_cutsBySpreading_L79 (qv : QV) (x6 : Int32) (x4 : Int32) (x5 : Int32) (x7 : Int32) (sv : SV) : Option (Sum (Int32 × Int32 × Int32 × SV) (Int32 × Int32 × Int32 × SV)) :=
  if 4 ≤ x7 then
  (some (.inr (x4, x5, x7, sv)))
  else
  (if jIn x6 271 then
  (f_X3_neighbour ((sQueue sv) x6.toNatClampNeg) x7).bind fun o12 =>
  if jIn x6 271 then
  if jIn ((sQueue sv) x6.toNatClampNeg) 30 then
  (f_X7_limit qv).bind fun o16 =>
  (f_X8_excessOver sv o12 (((sLowered sv) ((sQueue sv) x6.toNatClampNeg).toNatClampNeg) + o16)).bind fun o18 =>
  if o18 ≤ 0 then
  (f_X8_cutsBySpreading_J170 sv qv x4 x5 x6 x7)
  else
  (if 271 ≤ x5 then
  (f_X8_cutsBySpreading_J170 sv qv x4 x5 x6 x7)
  else
  (if jIn o12 30 then
  if jIn o12 30 then
  jbN (sSLowered (upd (sLowered sv) o12.toNatClampNeg (((sLowered sv) o12.toNatClampNeg) - o18)) sv) fun w22 =>
  jbN (x4 + o18) fun z23 =>
  if jIn x5 271 then
  jbN (sSQueue (upd (sQueue w22) x5.toNatClampNeg o12) w22) fun w25 =>
  f_X8_cutsBySpreading_J170 w25 qv z23 (x5 + 1) x6 x7
  else none
  else none
  else none))
  else none
  else none
  else none)
def f_X8_cutsBySpreading_L59 (qv : QV) (x4 : Int32) (x5 : Int32) (x6 : Int32) (sv : SV) : Option (Sum (Int32 × Int32 × Int32 × SV) (Int32 × Int32 × Int32 × SV)) :=
  if x5 ≤ x6 then
  (some (.inr (x4, x5, x6, sv)))
  else
  (if 271 ≤ x6 then
  (some (.inr (x4, x5, x6, sv)))
  else
  ((jbL (fun s => f_X8_cutsBySpreading_L79 qv x6 (s.1) (s.2.1) (s.2.2.1) (s.2.2.2)) 5000 (x4, x5, 0, sv)).bind fun o79 =>
  some (.inl ((o79.1), (o79.2.1), (x6 + 1), (o79.2.2.2)))))
def f_X8_cutsBySpreading_L3 (qv : QV) (x2 : Int32) (x3 : Int32) (x4 : Int32) (sv : SV) : Option (Sum (Int32 × SV) (Int32 × SV)) :=
  if 30 ≤ x4 then
  (some (.inr (x4, sv)))
  else
  ((f_X7_heightAt qv x4).bind fun o7 =>
  if jIn x4 30 then
  jbN (sSLowered (upd (sLowered sv) x4.toNatClampNeg o7) sv) fun w10 =>
  some (.inl ((x4 + 1), w10))
  else none)
def f_X8_cutsBySpreading (sv : SV) (qv : QV) (a1 : Int32) (a2 : Int32) : Option (Int32 × SV) :=
  (jbL (fun s => f_X8_cutsBySpreading_L3 qv a1 a2 (s.1) (s.2)) 5000 (0, sv)).bind fun o3 =>
  if jIn a1 30 then
  jbN (((sLowered (o3.2)) a1.toNatClampNeg) - a2) fun z2 =>
  if jIn a1 30 then
  jbN (sSLowered (upd (sLowered (o3.2)) a1.toNatClampNeg a2) (o3.2)) fun w4 =>
  if jIn 0 271 then
  jbN (sSQueue (upd (sQueue w4) (0 : Int32).toNatClampNeg a1) w4) fun w6 =>
  (jbL (fun s => f_X8_cutsBySpreading_L59 qv (s.1) (s.2.1) (s.2.2.1) (s.2.2.2)) 5000 (z2, 1, 0, w6)).bind fun o59 =>
  some ((o59.1), (o59.2.2.2))
  else none
  else none
  else none
def rm_X8_cutsBySpreading : Room := { frames := 1, cells := 0, slots := 0, locals := 22 }
theorem hd_X8_cutsBySpreading : yX8_cutsBySpreading.cls = RX8 ∧ yX8_cutsBySpreading.cls ≠ "java/lang/invoke/MethodHandle" ∧ yX8_cutsBySpreading.cls ≠ "java/lang/invoke/VarHandle" ∧ (parseMethodDescriptor yX8_cutsBySpreading.desc).map (fun d => d.parameters.length) = some 3 := by decide +kernel
set_option maxHeartbeats 4000000 in
set_option maxRecDepth 100000 in
theorem c_X8_cutsBySpreading (l : Launch) (g : GG) (hs : Nat → Nat) (sv : SV) (hq : Nat → Nat) (qv : QV)  (a1 : Int32) (a2 : Int32) (out : Int32 × SV) (hf : f_X8_cutsBySpreading sv qv a1 a2 = some out) : MtI l yX8_cutsBySpreading wsX8_cutsBySpreading rm_X8_cutsBySpreading g (wS g hs sv ++ wQ g hq qv) [.ref (hs 0), .ref (hq 0), .int a1, .int a2] (out.1) (wS g hs (out.2) ++ wQ g hq qv) 0 0 := by
  refine fun sz => mt_of (cc := cX8_cutsBySpreading) (maxL := 10) (ret := (some .int)) (own := RX8) (Qc := fun A => va_Qi (fun r (_ : Unit) => r = (out.1)) (fun _ t => PosM g A (wS g hs (out.2) ++ wQ g hq qv) t) A) (by decide +kernel) rfl rfl (Nat.le_of_ble_eq_true rfl) ?_ sz
  intro p e s mi below meth c A ls hB hnm hrt hlk hP hD hl
  obtain ⟨hx, hb, hml, hown, hts, hK, hZ, hT, hA, -⟩ := hB
  have hS : va_S A s.heap s.heap [] := va_S.rf
  have hl : lv_has ls 10 [(0, .ref (hs 0)), (1, .ref (hq 0)), (2, .int a1), (3, .int a2)] := hl
  have hinX8 : ∀ w ∈ wsX80, w ∈ wsX8_cutsBySpreading := by decide +kernel
  have k0 := hts (.fieldLink RX8 17 "TerraceQuarry$Survey" "lowered" "[I") (by decide +kernel)
  have k1 := hts (.fieldLink RX8 11 "TerraceQuarry$Survey" "queue" "[I") (by decide +kernel)
  generalize hQ : MQ below _ _ _ _ _ _ = Q
  unfold f_X8_cutsBySpreading at hf
  have hL59 : ∀ (n : Nat) (x4 : Int32) (x5 : Int32) (x6 : Int32) (sv : SV) (H : Heap) (locs : List Loc) (ls : Array Slot) (o59 : Int32 × Int32 × Int32 × SV), jbL (fun s => f_X8_cutsBySpreading_L59 qv (s.1) (s.2.1) (s.2.2.1) (s.2.2.2)) n (x4, x5, x6, sv) = some o59 → va_P (gD g) vwCl (wS g hs sv ++ wQ g hq qv) H → va_D A (wS g hs sv ++ wQ g hq qv) → va_S A s.heap H locs → lv_has ls 10 [(0, .ref (hs 0)), (1, .ref (hq 0)), (4, .int x4), (5, .int x5), (6, .int x6)] → (∀ (H : Heap) (locs : List Loc) (ls : Array Slot), va_P (gD g) vwCl (wS g hs (o59.2.2.2) ++ wQ g hq qv) H → va_D A (wS g hs (o59.2.2.2) ++ wQ g hq qv) → va_S A s.heap H locs → lv_has ls 10 [(4, .int (o59.1))] → W p l e rm_X8_cutsBySpreading s mi [.ref (hs 0), .ref (hq 0), .int a1, .int a2].toArray below meth c H locs 0 0 Q (F0 mi 182 ls [])) → W p l e rm_X8_cutsBySpreading s mi [.ref (hs 0), .ref (hq 0), .int a1, .int a2].toArray below meth c H locs 0 0 Q (F0 mi 59 ls []) := by
    intro n
    induction n with
    | zero => intro x4 x5 x6 sv H locs ls o59 hf; exact absurd hf (jbL_0 _ _ _)
    | succ n ih =>
      intro x4 x5 x6 sv H locs ls o59 hf hP hD hS hl hk
      obtain ⟨r, hf, hr⟩ := jbL_e hf
      have hf : f_X8_cutsBySpreading_L59 qv x4 x5 x6 sv = some r := hf
      unfold f_X8_cutsBySpreading_L59 at hf
      have hL79 : ∀ (x6 : Int32) (n : Nat) (x4 : Int32) (x5 : Int32) (x7 : Int32) (sv : SV) (H : Heap) (locs : List Loc) (ls : Array Slot) (o79 : Int32 × Int32 × Int32 × SV), jbL (fun s => f_X8_cutsBySpreading_L79 qv x6 (s.1) (s.2.1) (s.2.2.1) (s.2.2.2)) n (x4, x5, x7, sv) = some o79 → va_P (gD g) vwCl (wS g hs sv ++ wQ g hq qv) H → va_D A (wS g hs sv ++ wQ g hq qv) → va_S A s.heap H locs → lv_has ls 10 [(0, .ref (hs 0)), (1, .ref (hq 0)), (4, .int x4), (5, .int x5), (6, .int x6), (7, .int x7)] → (∀ (H : Heap) (locs : List Loc) (ls : Array Slot), va_P (gD g) vwCl (wS g hs (o79.2.2.2) ++ wQ g hq qv) H → va_D A (wS g hs (o79.2.2.2) ++ wQ g hq qv) → va_S A s.heap H locs → lv_has ls 10 [(0, .ref (hs 0)), (1, .ref (hq 0)), (4, .int (o79.1)), (5, .int (o79.2.1)), (6, .int x6)] → W p l e rm_X8_cutsBySpreading s mi [.ref (hs 0), .ref (hq 0), .int a1, .int a2].toArray below meth c H locs 0 0 Q (F0 mi 176 ls [])) → W p l e rm_X8_cutsBySpreading s mi [.ref (hs 0), .ref (hq 0), .int a1, .int a2].toArray below meth c H locs 0 0 Q (F0 mi 79 ls []) := by
        intro x6 n
        induction n with
        | zero => intro x4 x5 x7 sv H locs ls o79 hf; exact absurd hf (jbL_0 _ _ _)
        | succ n ih =>
          intro x4 x5 x7 sv H locs ls o79 hf hP hD hS hl hk
          obtain ⟨r, hf, hr⟩ := jbL_e hf
          have hf : f_X8_cutsBySpreading_L79 qv x6 x4 x5 x7 sv = some r := hf
          unfold f_X8_cutsBySpreading_L79 at hf
          have hJ170 : ∀ (sv : SV) (x4 : Int32) (x5 : Int32) (x7 : Int32) (H : Heap) (locs : List Loc) (ls : Array Slot) (r : Sum (Int32 × Int32 × Int32 × SV) (Int32 × Int32 × Int32 × SV)), f_X8_cutsBySpreading_J170 sv qv x4 x5 x6 x7 = some r → jbR (fun s => f_X8_cutsBySpreading_L79 qv x6 (s.1) (s.2.1) (s.2.2.1) (s.2.2.2)) n o79 r → va_P (gD g) vwCl (wS g hs sv ++ wQ g hq qv) H → va_D A (wS g hs sv ++ wQ g hq qv) → va_S A s.heap H locs → lv_has ls 10 [(0, .ref (hs 0)), (1, .ref (hq 0)), (4, .int x4), (5, .int x5), (6, .int x6), (7, .int x7)] → W p l e rm_X8_cutsBySpreading s mi [.ref (hs 0), .ref (hq 0), .int a1, .int a2].toArray below meth c H locs 0 0 Q (F0 mi 170 ls []) := by
            intro sv x4 x5 x7 H locs ls r hf hr hP hD hS hl
            unfold f_X8_cutsBySpreading_J170 at hf
            refine lv_iinc (v := (x7 + 1)) (lv' := [(7, .int (x7 + 1)), (0, .ref (hs 0)), (1, .ref (hq 0)), (4, .int x4), (5, .int x5), (6, .int x6)]) hx hb dX8_cutsBySpreading_170 hl (k := 5) rfl rfl (by decide) rfl (fun ls hl => ?_)
            refine lv_goto (tgt := 79) hx hb dX8_cutsBySpreading_173 (by decide) ?_
            cases hf
            exact ih x4 x5 (x7 + 1) sv _ _ _ _ hr hP hD hS (lv_sub hl [1, 2, 3, 4, 5, 0] rfl) hk
          refine lv_iload hx hb dX8_cutsBySpreading_79 (lv_at hl 5 rfl) ?_
          refine lv_iconst (v := 4) hx hb dX8_cutsBySpreading_81 (by decide) ?_
          refine lv_icmp_ge (tgt := 176) hx hb dX8_cutsBySpreading_82 (by decide) (fun hc => ?_) (fun hc => ?_)
          · have hf := jbT hf hc
            cases hf
            obtain rfl := jbR_r hr
            exact hk _ _ _ hP hD hS (lv_sub hl [0, 1, 2, 3, 4] rfl)
          · have hf := jbF hf hc
            refine lv_aload_n hx hb dX8_cutsBySpreading_85 rfl (lv_at hl 0 rfl) ?_
            refine va_get (D := gD g) (ci := 8) (v := .ref (hs 1)) (C := RX8) (T := TX8) (N := 5) hx hb hts hinX8 hown hK hP 0 rfl rfl 0 (by decide) k1 (fun _ h9 => h9) rfl dX8_cutsBySpreading_86 ?_
            refine lv_iload hx hb dX8_cutsBySpreading_89 (lv_at hl 4 rfl) ?_
            obtain ⟨h11, hf⟩ := jbA_e hf
            refine va_iald hx hb hK hP 1 0 rfl rfl h11 dX8_cutsBySpreading_91 ?_
            refine lv_iload hx hb dX8_cutsBySpreading_92 (lv_at hl 5 rfl) ?_
            obtain ⟨o12, g13, hf⟩ := jbB_e hf
            refine csn_i (As := [.int ((sQueue sv) x6.toNatClampNeg), .int x7]) (rest := []) ⟨hx, hb, hml, hown, hts⟩ (c_X3_neighbour l g ((sQueue sv) x6.toNatClampNeg) x7 _ g13) (va_cwS 2 hts gX8_cutsBySpreading_X3_neighbour rfl rfl rfl hd_X3_neighbour ⟨Nat.le_of_ble_eq_true rfl, Nat.le_of_ble_eq_true rfl⟩) hK hZ hT hA hP hD hS hl.1 rfl rfl (Nat.le_of_ble_eq_true rfl) ⟨Nat.le_of_ble_eq_true rfl, Nat.le_of_ble_eq_true rfl⟩ dX8_cutsBySpreading_94 (fun H locs hP hD hS => ?_)
            refine lv_istore (lv' := [(8, .int o12), (0, .ref (hs 0)), (1, .ref (hq 0)), (4, .int x4), (5, .int x5), (6, .int x6), (7, .int x7)]) hx hb dX8_cutsBySpreading_97 hl (by decide) rfl (fun ls hl => ?_)
            refine lv_aload_n hx hb dX8_cutsBySpreading_99 rfl (lv_at hl 1 rfl) ?_
            refine lv_iload hx hb dX8_cutsBySpreading_100 (lv_at hl 0 rfl) ?_
            refine lv_aload_n hx hb dX8_cutsBySpreading_102 rfl (lv_at hl 1 rfl) ?_
            refine va_get (D := gD g) (ci := 8) (v := .ref (hs 2)) (C := RX8) (T := TX8) (N := 5) hx hb hts hinX8 hown hK hP 0 rfl rfl 1 (by decide) k0 (fun _ h9 => h9) rfl dX8_cutsBySpreading_103 ?_
            refine lv_aload_n hx hb dX8_cutsBySpreading_106 rfl (lv_at hl 1 rfl) ?_
            refine va_get (D := gD g) (ci := 8) (v := .ref (hs 1)) (C := RX8) (T := TX8) (N := 5) hx hb hts hinX8 hown hK hP 0 rfl rfl 0 (by decide) k1 (fun _ h9 => h9) rfl dX8_cutsBySpreading_107 ?_
            refine lv_iload hx hb dX8_cutsBySpreading_110 (lv_at hl 5 rfl) ?_
            obtain ⟨h14, hf⟩ := jbA_e hf
            refine va_iald hx hb hK hP 1 0 rfl rfl h14 dX8_cutsBySpreading_112 ?_
            obtain ⟨h15, hf⟩ := jbA_e hf
            refine va_iald hx hb hK hP 2 0 rfl rfl h15 dX8_cutsBySpreading_113 ?_
            refine lv_aload_n hx hb dX8_cutsBySpreading_114 rfl (lv_at hl 2 rfl) ?_
            obtain ⟨o16, g17, hf⟩ := jbB_e hf
            refine cv_i (As := []) (rest := [.int ((sLowered sv) ((sQueue sv) x6.toNatClampNeg).toNatClampNeg), .int o12, .ref (hs 0)]) (Wr := [0, 1, 2, 3, 4, 5].filterMap (fun i => ((wS g hs sv ++ wQ g hq qv))[i]?)) ⟨hx, hb, hml, hown, hts⟩ (c_X7_limit l g hq qv _ g17) (cwV 0 hts gX8_cutsBySpreading_X7_limit rfl rfl rfl hd_X7_limit ⟨Nat.le_of_ble_eq_true rfl, Nat.le_of_ble_eq_true rfl⟩) hK hZ hT hA hP hD hS hl.1 (va_recv hK hP (ci := 7) (q0 := 6) rfl rfl) [6, 7, 8, 9, 10, 11, 12, 13, 14, 15] [0, 1, 2, 3, 4, 5] rfl rfl rfl rfl rfl rfl rfl (Nat.le_of_ble_eq_true rfl) ⟨Nat.le_of_ble_eq_true rfl, Nat.le_of_ble_eq_true rfl⟩ dX8_cutsBySpreading_115 (fun H locs hP hD hS => ?_)
            have hP : va_P (gD g) vwCl (wS g hs sv ++ wQ g hq qv) H := hP.sub [0, 1, 2, 3, 4, 5, 6, 7, 8, 9, 10, 11, 12, 13, 14, 15] rfl
            have hD : va_D A (wS g hs sv ++ wQ g hq qv) := hD.sub [0, 1, 2, 3, 4, 5, 6, 7, 8, 9, 10, 11, 12, 13, 14, 15] rfl rfl
            refine lv_iadd hx hb dX8_cutsBySpreading_118 ?_
            obtain ⟨o18, g19, hf⟩ := jbB_e hf
            refine cv_i (As := [.int o12, .int (((sLowered sv) ((sQueue sv) x6.toNatClampNeg).toNatClampNeg) + o16)]) (rest := []) (Wr := [6, 7, 8, 9, 10, 11, 12, 13, 14, 15].filterMap (fun i => ((wS g hs sv ++ wQ g hq qv))[i]?)) ⟨hx, hb, hml, hown, hts⟩ (c_X8_excessOver l g hs sv o12 (((sLowered sv) ((sQueue sv) x6.toNatClampNeg).toNatClampNeg) + o16) _ g19) (cwV 2 hts gX8_cutsBySpreading_X8_excessOver rfl rfl rfl hd_X8_excessOver ⟨Nat.le_of_ble_eq_true rfl, Nat.le_of_ble_eq_true rfl⟩) hK hZ hT hA hP hD hS hl.1 (va_recv hK hP (ci := 8) (q0 := 0) rfl rfl) [0, 1, 2, 3, 4, 5] [6, 7, 8, 9, 10, 11, 12, 13, 14, 15] rfl rfl rfl rfl rfl rfl rfl (Nat.le_of_ble_eq_true rfl) ⟨Nat.le_of_ble_eq_true rfl, Nat.le_of_ble_eq_true rfl⟩ dX8_cutsBySpreading_119 (fun H locs hP hD hS => ?_)
            have hP : va_P (gD g) vwCl (wS g hs sv ++ wQ g hq qv) H := hP.sub [10, 11, 12, 13, 14, 15, 0, 1, 2, 3, 4, 5, 6, 7, 8, 9] rfl
            have hD : va_D A (wS g hs sv ++ wQ g hq qv) := hD.sub [10, 11, 12, 13, 14, 15, 0, 1, 2, 3, 4, 5, 6, 7, 8, 9] rfl rfl
            refine lv_istore (lv' := [(9, .int o18), (8, .int o12), (0, .ref (hs 0)), (1, .ref (hq 0)), (4, .int x4), (5, .int x5), (6, .int x6), (7, .int x7)]) hx hb dX8_cutsBySpreading_122 hl (by decide) rfl (fun ls hl => ?_)
            refine lv_iload hx hb dX8_cutsBySpreading_124 (lv_at hl 0 rfl) ?_
            refine lv_if_le (tgt := 170) hx hb dX8_cutsBySpreading_126 (by decide) (fun hc => ?_) (fun hc => ?_)
            · have hf := jbT hf hc
              exact hJ170 sv x4 x5 x7 _ _ _ _ hf hr hP hD hS (lv_sub hl [2, 3, 4, 5, 6, 7] rfl)
            · have hf := jbF hf hc
              refine lv_iload hx hb dX8_cutsBySpreading_129 (lv_at hl 5 rfl) ?_
              refine lv_aload_n hx hb dX8_cutsBySpreading_131 rfl (lv_at hl 2 rfl) ?_
              refine va_get (D := gD g) (ci := 8) (v := .ref (hs 1)) (C := RX8) (T := TX8) (N := 5) hx hb hts hinX8 hown hK hP 0 rfl rfl 0 (by decide) k1 (fun _ h9 => h9) rfl dX8_cutsBySpreading_132 ?_
              refine va_alen (v := 271) hx hb hK hP 1 0 rfl rfl rfl dX8_cutsBySpreading_135 ?_
              refine lv_icmp_ge (tgt := 170) hx hb dX8_cutsBySpreading_136 (by decide) (fun hc => ?_) (fun hc => ?_)
              · have hf := jbT hf hc
                exact hJ170 sv x4 x5 x7 _ _ _ _ hf hr hP hD hS (lv_sub hl [2, 3, 4, 5, 6, 7] rfl)
              · have hf := jbF hf hc
                refine lv_aload_n hx hb dX8_cutsBySpreading_139 rfl (lv_at hl 2 rfl) ?_
                refine va_get (D := gD g) (ci := 8) (v := .ref (hs 2)) (C := RX8) (T := TX8) (N := 5) hx hb hts hinX8 hown hK hP 0 rfl rfl 1 (by decide) k0 (fun _ h9 => h9) rfl dX8_cutsBySpreading_140 ?_
                refine lv_iload hx hb dX8_cutsBySpreading_143 (lv_at hl 1 rfl) ?_
                refine lv_dup2_11 hx hb dX8_cutsBySpreading_145 rfl rfl ?_
                obtain ⟨h20, hf⟩ := jbA_e hf
                refine va_iald hx hb hK hP 2 0 rfl rfl h20 dX8_cutsBySpreading_146 ?_
                refine lv_iload hx hb dX8_cutsBySpreading_147 (lv_at hl 0 rfl) ?_
                refine lv_isub hx hb dX8_cutsBySpreading_149 ?_
                obtain ⟨h21, hf⟩ := jbA_e hf
                refine va_iast hx hb hK hP hD hS 2 0 rfl rfl h21 dX8_cutsBySpreading_150 (fun H locs hP hD hS => ?_)
                obtain ⟨w22, ew22⟩ : ∃ y, y = (sSLowered (upd (sLowered sv) o12.toNatClampNeg (((sLowered sv) o12.toNatClampNeg) - o18)) sv) := ⟨_, rfl⟩
                have hf := jbN_e hf ew22
                have hP : va_P (gD g) vwCl (wS g hs w22 ++ wQ g hq qv) H := by rw [ew22]; exact hP
                have hD : va_D A (wS g hs w22 ++ wQ g hq qv) := by rw [ew22]; exact hD
                refine lv_iload hx hb dX8_cutsBySpreading_151 (lv_at hl 4 rfl) ?_
                refine lv_iload hx hb dX8_cutsBySpreading_153 (lv_at hl 0 rfl) ?_
                refine lv_iadd hx hb dX8_cutsBySpreading_155 ?_
                refine lv_topi (fun z23 ez23 => ?_)
                have hf := jbN_e hf ez23
                refine lv_istore (lv' := [(4, .int z23), (9, .int o18), (8, .int o12), (0, .ref (hs 0)), (1, .ref (hq 0)), (5, .int x5), (6, .int x6), (7, .int x7)]) hx hb dX8_cutsBySpreading_156 hl (by decide) rfl (fun ls hl => ?_)
                refine lv_aload_n hx hb dX8_cutsBySpreading_158 rfl (lv_at hl 3 rfl) ?_
                refine va_get (D := gD g) (ci := 8) (v := .ref (hs 1)) (C := RX8) (T := TX8) (N := 5) hx hb hts hinX8 hown hK hP 0 rfl rfl 0 (by decide) k1 (fun _ h9 => h9) rfl dX8_cutsBySpreading_159 ?_
                refine lv_iload hx hb dX8_cutsBySpreading_162 (lv_at hl 5 rfl) ?_
                refine lv_iload hx hb dX8_cutsBySpreading_164 (lv_at hl 2 rfl) ?_
                obtain ⟨h24, hf⟩ := jbA_e hf
                refine va_iast hx hb hK hP hD hS 1 0 rfl rfl h24 dX8_cutsBySpreading_166 (fun H locs hP hD hS => ?_)
                obtain ⟨w25, ew25⟩ : ∃ y, y = (sSQueue (upd (sQueue w22) x5.toNatClampNeg o12) w22) := ⟨_, rfl⟩
                have hf := jbN_e hf ew25
                have hP : va_P (gD g) vwCl (wS g hs w25 ++ wQ g hq qv) H := by rw [ew25]; exact hP
                have hD : va_D A (wS g hs w25 ++ wQ g hq qv) := by rw [ew25]; exact hD
                refine lv_iinc (v := (x5 + 1)) (lv' := [(5, .int (x5 + 1)), (4, .int z23), (9, .int o18), (8, .int o12), (0, .ref (hs 0)), (1, .ref (hq 0)), (6, .int x6), (7, .int x7)]) hx hb dX8_cutsBySpreading_167 hl (k := 5) rfl rfl (by decide) rfl (fun ls hl => ?_)
                exact hJ170 w25 z23 (x5 + 1) x7 _ _ _ _ hf hr hP hD hS (lv_sub hl [4, 5, 1, 0, 6, 7] rfl)
      refine lv_iload hx hb dX8_cutsBySpreading_59 (lv_at hl 4 rfl) ?_
      refine lv_iload hx hb dX8_cutsBySpreading_61 (lv_at hl 3 rfl) ?_
      refine lv_icmp_ge (tgt := 182) hx hb dX8_cutsBySpreading_63 (by decide) (fun hc => ?_) (fun hc => ?_)
      · have hf := jbT hf hc
        cases hf
        obtain rfl := jbR_r hr
        exact hk _ _ _ hP hD hS (lv_sub hl [2] rfl)
      · have hf := jbF hf hc
        refine lv_iload hx hb dX8_cutsBySpreading_66 (lv_at hl 4 rfl) ?_
        refine lv_aload_n hx hb dX8_cutsBySpreading_68 rfl (lv_at hl 0 rfl) ?_
        refine va_get (D := gD g) (ci := 8) (v := .ref (hs 1)) (C := RX8) (T := TX8) (N := 5) hx hb hts hinX8 hown hK hP 0 rfl rfl 0 (by decide) k1 (fun _ h9 => h9) rfl dX8_cutsBySpreading_69 ?_
        refine va_alen (v := 271) hx hb hK hP 1 0 rfl rfl rfl dX8_cutsBySpreading_72 ?_
        refine lv_icmp_ge (tgt := 182) hx hb dX8_cutsBySpreading_73 (by decide) (fun hc => ?_) (fun hc => ?_)
        · have hf := jbT hf hc
          cases hf
          obtain rfl := jbR_r hr
          exact hk _ _ _ hP hD hS (lv_sub hl [2] rfl)
        · have hf := jbF hf hc
          refine lv_iconst (v := 0) hx hb dX8_cutsBySpreading_76 (by decide) ?_
          refine lv_istore (lv' := [(7, .int 0), (0, .ref (hs 0)), (1, .ref (hq 0)), (4, .int x4), (5, .int x5), (6, .int x6)]) hx hb dX8_cutsBySpreading_77 hl (by decide) rfl (fun ls hl => ?_)
          obtain ⟨o79, hg, hf⟩ := jbB_e hf
          refine hL79 x6 _ x4 x5 0 sv _ _ _ _ hg hP hD hS (lv_sub hl [1, 2, 3, 4, 5, 0] rfl) (fun H locs ls hP hD hS hl => ?_)
          refine lv_iinc (v := (x6 + 1)) (lv' := [(6, .int (x6 + 1)), (0, .ref (hs 0)), (1, .ref (hq 0)), (4, .int (o79.1)), (5, .int (o79.2.1))]) hx hb dX8_cutsBySpreading_176 hl (k := 4) rfl rfl (by decide) rfl (fun ls hl => ?_)
          refine lv_goto (tgt := 59) hx hb dX8_cutsBySpreading_179 (by decide) ?_
          cases hf
          exact ih (o79.1) (o79.2.1) (x6 + 1) (o79.2.2.2) _ _ _ _ hr hP hD hS (lv_sub hl [1, 2, 3, 4, 0] rfl) hk
  have hL3 : ∀ (x2 : Int32) (x3 : Int32) (n : Nat) (x4 : Int32) (sv : SV) (H : Heap) (locs : List Loc) (ls : Array Slot) (o3 : Int32 × SV), jbL (fun s => f_X8_cutsBySpreading_L3 qv x2 x3 (s.1) (s.2)) n (x4, sv) = some o3 → va_P (gD g) vwCl (wS g hs sv ++ wQ g hq qv) H → va_D A (wS g hs sv ++ wQ g hq qv) → va_S A s.heap H locs → lv_has ls 10 [(0, .ref (hs 0)), (1, .ref (hq 0)), (2, .int x2), (3, .int x3), (4, .int x4)] → (∀ (H : Heap) (locs : List Loc) (ls : Array Slot), va_P (gD g) vwCl (wS g hs (o3.2) ++ wQ g hq qv) H → va_D A (wS g hs (o3.2) ++ wQ g hq qv) → va_S A s.heap H locs → lv_has ls 10 [(0, .ref (hs 0)), (1, .ref (hq 0)), (2, .int x2), (3, .int x3)] → W p l e rm_X8_cutsBySpreading s mi [.ref (hs 0), .ref (hq 0), .int a1, .int a2].toArray below meth c H locs 0 0 Q (F0 mi 29 ls [])) → W p l e rm_X8_cutsBySpreading s mi [.ref (hs 0), .ref (hq 0), .int a1, .int a2].toArray below meth c H locs 0 0 Q (F0 mi 3 ls []) := by
    intro x2 x3 n
    induction n with
    | zero => intro x4 sv H locs ls o3 hf; exact absurd hf (jbL_0 _ _ _)
    | succ n ih =>
      intro x4 sv H locs ls o3 hf hP hD hS hl hk
      obtain ⟨r, hf, hr⟩ := jbL_e hf
      have hf : f_X8_cutsBySpreading_L3 qv x2 x3 x4 sv = some r := hf
      unfold f_X8_cutsBySpreading_L3 at hf
      refine lv_iload hx hb dX8_cutsBySpreading_3 (lv_at hl 4 rfl) ?_
      refine lv_bipush (v := 30) hx hb dX8_cutsBySpreading_5 (by decide) ?_
      refine lv_icmp_ge (tgt := 29) hx hb dX8_cutsBySpreading_7 (by decide) (fun hc => ?_) (fun hc => ?_)
      · have hf := jbT hf hc
        cases hf
        obtain rfl := jbR_r hr
        exact hk _ _ _ hP hD hS (lv_sub hl [0, 1, 2, 3] rfl)
      · have hf := jbF hf hc
        refine lv_aload_n hx hb dX8_cutsBySpreading_10 rfl (lv_at hl 0 rfl) ?_
        refine va_get (D := gD g) (ci := 8) (v := .ref (hs 2)) (C := RX8) (T := TX8) (N := 5) hx hb hts hinX8 hown hK hP 0 rfl rfl 1 (by decide) k0 (fun _ h9 => h9) rfl dX8_cutsBySpreading_11 ?_
        refine lv_iload hx hb dX8_cutsBySpreading_14 (lv_at hl 4 rfl) ?_
        refine lv_aload_n hx hb dX8_cutsBySpreading_16 rfl (lv_at hl 1 rfl) ?_
        refine lv_iload hx hb dX8_cutsBySpreading_17 (lv_at hl 4 rfl) ?_
        obtain ⟨o7, g8, hf⟩ := jbB_e hf
        refine cv_i (As := [.int x4]) (rest := [.int x4, .ref (hs 2)]) (Wr := [0, 1, 2, 3, 4, 5].filterMap (fun i => ((wS g hs sv ++ wQ g hq qv))[i]?)) ⟨hx, hb, hml, hown, hts⟩ (c_X7_heightAt l g hq qv x4 _ g8) (cwV 1 hts gX8_cutsBySpreading_X7_heightAt rfl rfl rfl hd_X7_heightAt ⟨Nat.le_of_ble_eq_true rfl, Nat.le_of_ble_eq_true rfl⟩) hK hZ hT hA hP hD hS hl.1 (va_recv hK hP (ci := 7) (q0 := 6) rfl rfl) [6, 7, 8, 9, 10, 11, 12, 13, 14, 15] [0, 1, 2, 3, 4, 5] rfl rfl rfl rfl rfl rfl rfl (Nat.le_of_ble_eq_true rfl) ⟨Nat.le_of_ble_eq_true rfl, Nat.le_of_ble_eq_true rfl⟩ dX8_cutsBySpreading_19 (fun H locs hP hD hS => ?_)
        have hP : va_P (gD g) vwCl (wS g hs sv ++ wQ g hq qv) H := hP.sub [0, 1, 2, 3, 4, 5, 6, 7, 8, 9, 10, 11, 12, 13, 14, 15] rfl
        have hD : va_D A (wS g hs sv ++ wQ g hq qv) := hD.sub [0, 1, 2, 3, 4, 5, 6, 7, 8, 9, 10, 11, 12, 13, 14, 15] rfl rfl
        obtain ⟨h9, hf⟩ := jbA_e hf
        refine va_iast hx hb hK hP hD hS 2 0 rfl rfl h9 dX8_cutsBySpreading_22 (fun H locs hP hD hS => ?_)
        obtain ⟨w10, ew10⟩ : ∃ y, y = (sSLowered (upd (sLowered sv) x4.toNatClampNeg o7) sv) := ⟨_, rfl⟩
        have hf := jbN_e hf ew10
        have hP : va_P (gD g) vwCl (wS g hs w10 ++ wQ g hq qv) H := by rw [ew10]; exact hP
        have hD : va_D A (wS g hs w10 ++ wQ g hq qv) := by rw [ew10]; exact hD
        refine lv_iinc (v := (x4 + 1)) (lv' := [(4, .int (x4 + 1)), (0, .ref (hs 0)), (1, .ref (hq 0)), (2, .int x2), (3, .int x3)]) hx hb dX8_cutsBySpreading_23 hl (k := 4) rfl rfl (by decide) rfl (fun ls hl => ?_)
        refine lv_goto (tgt := 3) hx hb dX8_cutsBySpreading_26 (by decide) ?_
        cases hf
        exact ih (x4 + 1) w10 _ _ _ _ hr hP hD hS (lv_sub hl [1, 2, 3, 4, 0] rfl) hk
  refine lv_iconst (v := 0) hx hb dX8_cutsBySpreading_0 (by decide) ?_
  refine lv_istore (lv' := [(4, .int 0), (0, .ref (hs 0)), (1, .ref (hq 0)), (2, .int a1), (3, .int a2)]) hx hb dX8_cutsBySpreading_1 hl (by decide) rfl (fun ls hl => ?_)
  obtain ⟨o3, hg, hf⟩ := jbB_e hf
  refine hL3 a1 a2 _ 0 sv _ _ _ _ hg hP hD hS (lv_sub hl [1, 2, 3, 4, 0] rfl) (fun H locs ls hP hD hS hl => ?_)
  refine lv_aload_n hx hb dX8_cutsBySpreading_29 rfl (lv_at hl 0 rfl) ?_
  refine va_get (D := gD g) (ci := 8) (v := .ref (hs 2)) (C := RX8) (T := TX8) (N := 5) hx hb hts hinX8 hown hK hP 0 rfl rfl 1 (by decide) k0 (fun _ h9 => h9) rfl dX8_cutsBySpreading_30 ?_
  refine lv_iload_n hx hb dX8_cutsBySpreading_33 rfl (lv_at hl 2 rfl) ?_
  obtain ⟨h1, hf⟩ := jbA_e hf
  refine va_iald hx hb hK hP 2 0 rfl rfl h1 dX8_cutsBySpreading_34 ?_
  refine lv_iload_n hx hb dX8_cutsBySpreading_35 rfl (lv_at hl 3 rfl) ?_
  refine lv_isub hx hb dX8_cutsBySpreading_36 ?_
  refine lv_topi (fun z2 ez2 => ?_)
  have hf := jbN_e hf ez2
  refine lv_istore (lv' := [(4, .int z2), (0, .ref (hs 0)), (1, .ref (hq 0)), (2, .int a1), (3, .int a2)]) hx hb dX8_cutsBySpreading_37 hl (by decide) rfl (fun ls hl => ?_)
  refine lv_aload_n hx hb dX8_cutsBySpreading_39 rfl (lv_at hl 1 rfl) ?_
  refine va_get (D := gD g) (ci := 8) (v := .ref (hs 2)) (C := RX8) (T := TX8) (N := 5) hx hb hts hinX8 hown hK hP 0 rfl rfl 1 (by decide) k0 (fun _ h9 => h9) rfl dX8_cutsBySpreading_40 ?_
  refine lv_iload_n hx hb dX8_cutsBySpreading_43 rfl (lv_at hl 3 rfl) ?_
  refine lv_iload_n hx hb dX8_cutsBySpreading_44 rfl (lv_at hl 4 rfl) ?_
  obtain ⟨h3, hf⟩ := jbA_e hf
  refine va_iast hx hb hK hP hD hS 2 0 rfl rfl h3 dX8_cutsBySpreading_45 (fun H locs hP hD hS => ?_)
  obtain ⟨w4, ew4⟩ : ∃ y, y = (sSLowered (upd (sLowered (o3.2)) a1.toNatClampNeg a2) (o3.2)) := ⟨_, rfl⟩
  have hf := jbN_e hf ew4
  have hP : va_P (gD g) vwCl (wS g hs w4 ++ wQ g hq qv) H := by rw [ew4]; exact hP
  have hD : va_D A (wS g hs w4 ++ wQ g hq qv) := by rw [ew4]; exact hD
  refine lv_aload_n hx hb dX8_cutsBySpreading_46 rfl (lv_at hl 1 rfl) ?_
  refine va_get (D := gD g) (ci := 8) (v := .ref (hs 1)) (C := RX8) (T := TX8) (N := 5) hx hb hts hinX8 hown hK hP 0 rfl rfl 0 (by decide) k1 (fun _ h9 => h9) rfl dX8_cutsBySpreading_47 ?_
  refine lv_iconst (v := 0) hx hb dX8_cutsBySpreading_50 (by decide) ?_
  refine lv_iload_n hx hb dX8_cutsBySpreading_51 rfl (lv_at hl 3 rfl) ?_
  obtain ⟨h5, hf⟩ := jbA_e hf
  refine va_iast hx hb hK hP hD hS 1 0 rfl rfl h5 dX8_cutsBySpreading_52 (fun H locs hP hD hS => ?_)
  obtain ⟨w6, ew6⟩ : ∃ y, y = (sSQueue (upd (sQueue w4) (0 : Int32).toNatClampNeg a1) w4) := ⟨_, rfl⟩
  have hf := jbN_e hf ew6
  have hP : va_P (gD g) vwCl (wS g hs w6 ++ wQ g hq qv) H := by rw [ew6]; exact hP
  have hD : va_D A (wS g hs w6 ++ wQ g hq qv) := by rw [ew6]; exact hD
  refine lv_iconst (v := 1) hx hb dX8_cutsBySpreading_53 (by decide) ?_
  refine lv_istore (lv' := [(5, .int 1), (4, .int z2), (0, .ref (hs 0)), (1, .ref (hq 0)), (2, .int a1), (3, .int a2)]) hx hb dX8_cutsBySpreading_54 hl (by decide) rfl (fun ls hl => ?_)
  refine lv_iconst (v := 0) hx hb dX8_cutsBySpreading_56 (by decide) ?_
  refine lv_istore (lv' := [(6, .int 0), (5, .int 1), (4, .int z2), (0, .ref (hs 0)), (1, .ref (hq 0)), (2, .int a1), (3, .int a2)]) hx hb dX8_cutsBySpreading_57 hl (by decide) rfl (fun ls hl => ?_)
  obtain ⟨o59, hg, hf⟩ := jbB_e hf
  refine hL59 _ z2 1 0 w6 _ _ _ _ hg hP hD hS (lv_sub hl [3, 4, 2, 1, 0] rfl) (fun H locs ls hP hD hS hl => ?_)
  refine lv_iload hx hb dX8_cutsBySpreading_182 (lv_at hl 0 rfl) ?_
  cases hf
  subst hQ
  exact rt_i hx hb hrt hlk rfl hK hP hD hS (Nat.le_of_ble_eq_true rfl) (Nat.le_of_ble_eq_true rfl) dX8_cutsBySpreading_184
def f_X8_clearMarks_L2 (x1 : Int32) (sv : SV) : Option (Sum (Int32 × SV) (Int32 × SV)) :=
  if 30 ≤ x1 then
  (some (.inr (x1, sv)))
  else
  (if jIn x1 30 then
  jbN (sSMarked (upd (sMarked sv) x1.toNatClampNeg (vp_nar .boolean 0)) sv) fun w2 =>
  some (.inl ((x1 + 1), w2))
  else none)
def f_X8_clearMarks (sv : SV) : Option SV :=
  (jbL (fun s => f_X8_clearMarks_L2 (s.1) (s.2)) 5000 (0, sv)).bind fun o2 =>
  some (o2.2)
def rm_X8_clearMarks : Room := { frames := 0, cells := 0, slots := 0, locals := 0 }
theorem hd_X8_clearMarks : yX8_clearMarks.cls = RX8 ∧ yX8_clearMarks.cls ≠ "java/lang/invoke/MethodHandle" ∧ yX8_clearMarks.cls ≠ "java/lang/invoke/VarHandle" ∧ (parseMethodDescriptor yX8_clearMarks.desc).map (fun d => d.parameters.length) = some 0 := by decide +kernel
set_option maxHeartbeats 4000000 in
set_option maxRecDepth 100000 in
theorem c_X8_clearMarks (l : Launch) (g : GG) (hs : Nat → Nat) (sv : SV)   (out : SV) (hf : f_X8_clearMarks sv = some out) : MtV l yX8_clearMarks wsX8_clearMarks rm_X8_clearMarks g (wS g hs sv) [.ref (hs 0)]  (wS g hs out) 0 0 := by
  refine fun sz => mt_of (cc := cX8_clearMarks) (maxL := 2) (ret := none) (own := RX8) (Qc := fun A => va_Qv (fun (_ : Unit) => True) (fun _ t => PosM g A (wS g hs out) t) A) (by decide +kernel) rfl rfl (Nat.le_of_ble_eq_true rfl) ?_ sz
  intro p e s mi below meth c A ls hB hnm hrt hlk hP hD hl
  obtain ⟨hx, hb, hml, hown, hts, hK, hZ, hT, hA, -⟩ := hB
  have hS : va_S A s.heap s.heap [] := va_S.rf
  have hl : lv_has ls 2 [(0, .ref (hs 0))] := hl
  have hinX8 : ∀ w ∈ wsX80, w ∈ wsX8_clearMarks := by decide +kernel
  have k0 := hts (.fieldLink RX8 26 "TerraceQuarry$Survey" "marked" "[Z") (by decide +kernel)
  generalize hQ : MQ below _ _ _ _ _ _ = Q
  unfold f_X8_clearMarks at hf
  have hL2 : ∀ (n : Nat) (x1 : Int32) (sv : SV) (H : Heap) (locs : List Loc) (ls : Array Slot) (o2 : Int32 × SV), jbL (fun s => f_X8_clearMarks_L2 (s.1) (s.2)) n (x1, sv) = some o2 → va_P (gD g) vwCl (wS g hs sv) H → va_D A (wS g hs sv) → va_S A s.heap H locs → lv_has ls 2 [(0, .ref (hs 0)), (1, .int x1)] → (∀ (H : Heap) (locs : List Loc) (ls : Array Slot), va_P (gD g) vwCl (wS g hs (o2.2)) H → va_D A (wS g hs (o2.2)) → va_S A s.heap H locs → lv_has ls 2 [] → W p l e rm_X8_clearMarks s mi [.ref (hs 0)].toArray below meth c H locs 0 0 Q (F0 mi 21 ls [])) → W p l e rm_X8_clearMarks s mi [.ref (hs 0)].toArray below meth c H locs 0 0 Q (F0 mi 2 ls []) := by
    intro n
    induction n with
    | zero => intro x1 sv H locs ls o2 hf; exact absurd hf (jbL_0 _ _ _)
    | succ n ih =>
      intro x1 sv H locs ls o2 hf hP hD hS hl hk
      obtain ⟨r, hf, hr⟩ := jbL_e hf
      have hf : f_X8_clearMarks_L2 x1 sv = some r := hf
      unfold f_X8_clearMarks_L2 at hf
      refine lv_iload_n hx hb dX8_clearMarks_2 rfl (lv_at hl 1 rfl) ?_
      refine lv_bipush (v := 30) hx hb dX8_clearMarks_3 (by decide) ?_
      refine lv_icmp_ge (tgt := 21) hx hb dX8_clearMarks_5 (by decide) (fun hc => ?_) (fun hc => ?_)
      · have hf := jbT hf hc
        cases hf
        obtain rfl := jbR_r hr
        exact hk _ _ _ hP hD hS (lv_sub hl [] rfl)
      · have hf := jbF hf hc
        refine lv_aload_n hx hb dX8_clearMarks_8 rfl (lv_at hl 0 rfl) ?_
        refine va_get (D := gD g) (ci := 8) (v := .ref (hs 5)) (C := RX8) (T := TX8) (N := 5) hx hb hts hinX8 hown hK hP 0 rfl rfl 4 (by decide) k0 (fun _ h9 => h9) rfl dX8_clearMarks_9 ?_
        refine lv_iload_n hx hb dX8_clearMarks_12 rfl (lv_at hl 1 rfl) ?_
        refine lv_iconst (v := 0) hx hb dX8_clearMarks_13 (by decide) ?_
        obtain ⟨h1, hf⟩ := jbA_e hf
        refine va_zast hx hb hK hP hD hS 5 1 rfl rfl h1 dX8_clearMarks_14 (fun H locs hP hD hS => ?_)
        obtain ⟨w2, ew2⟩ : ∃ y, y = (sSMarked (upd (sMarked sv) x1.toNatClampNeg (vp_nar .boolean 0)) sv) := ⟨_, rfl⟩
        have hf := jbN_e hf ew2
        have hP : va_P (gD g) vwCl (wS g hs w2) H := by rw [ew2]; exact hP
        have hD : va_D A (wS g hs w2) := by rw [ew2]; exact hD
        refine lv_iinc (v := (x1 + 1)) (lv' := [(1, .int (x1 + 1)), (0, .ref (hs 0))]) hx hb dX8_clearMarks_15 hl (k := 1) rfl rfl (by decide) rfl (fun ls hl => ?_)
        refine lv_goto (tgt := 2) hx hb dX8_clearMarks_18 (by decide) ?_
        cases hf
        exact ih (x1 + 1) w2 _ _ _ _ hr hP hD hS (lv_sub hl [1, 0] rfl) hk
  refine lv_iconst (v := 0) hx hb dX8_clearMarks_0 (by decide) ?_
  refine lv_istore_n (lv' := [(1, .int 0), (0, .ref (hs 0))]) hx hb dX8_clearMarks_1 rfl hl (by decide) rfl (fun ls hl => ?_)
  obtain ⟨o2, hg, hf⟩ := jbB_e hf
  refine hL2 _ 0 sv _ _ _ _ hg hP hD hS (lv_sub hl [1, 0] rfl) (fun H locs ls hP hD hS hl => ?_)
  cases hf
  subst hQ
  exact rt_v hx hb hrt hlk hK hP hD hS (Nat.le_of_ble_eq_true rfl) (Nat.le_of_ble_eq_true rfl) dX8_clearMarks_21
def f_X8_continuesSeam (qv : QV) (a1 : Int32) (a2 : Int32) : Option Int32 :=
  if a2 = (-1) then
  (some 0)
  else
  ((f_X7_heightAt qv a1).bind fun o1 =>
  if o1 ≤ 0 then
  (some 0)
  else
  ((f_X7_heightAt qv a2).bind fun o3 =>
  if o3 ≤ 0 then
  (some 0)
  else
  ((f_X7_stoneAt qv a1).bind fun o5 =>
  (f_X7_stoneAt qv a2).bind fun o7 =>
  if o5 = o7 then
  (some 1)
  else
  (some 0))))
def rm_X8_continuesSeam : Room := { frames := 1, cells := 0, slots := 0, locals := 21 }
theorem hd_X8_continuesSeam : yX8_continuesSeam.cls ≠ "java/lang/invoke/MethodHandle" ∧ yX8_continuesSeam.cls ≠ "java/lang/invoke/VarHandle" ∧ (parseMethodDescriptor yX8_continuesSeam.desc).map (fun d => d.parameters.length) = some 3 := by decide +kernel
set_option maxHeartbeats 4000000 in
set_option maxRecDepth 100000 in
theorem c_X8_continuesSeam (l : Launch) (g : GG) (hq : Nat → Nat) (qv : QV)  (a1 : Int32) (a2 : Int32) (out : Int32) (hf : f_X8_continuesSeam qv a1 a2 = some out) : MtI l yX8_continuesSeam wsX8_continuesSeam rm_X8_continuesSeam g (wQ g hq qv) [.ref (hq 0), .int a1, .int a2] out (wQ g hq qv) 0 0 := by
  refine fun sz => mt_of (cc := cX8_continuesSeam) (maxL := 3) (ret := (some .boolean)) (own := RX8) (Qc := fun A => va_Qi (fun r (_ : Unit) => r = out) (fun _ t => PosM g A (wQ g hq qv) t) A) (by decide +kernel) rfl rfl (Nat.le_of_ble_eq_true rfl) ?_ sz
  intro p e s mi below meth c A ls hB hnm hrt hlk hP hD hl
  obtain ⟨hx, hb, hml, hown, hts, hK, hZ, hT, hA, -⟩ := hB
  have hS : va_S A s.heap s.heap [] := va_S.rf
  have hl : lv_has ls 3 [(0, .ref (hq 0)), (1, .int a1), (2, .int a2)] := hl
  generalize hQ : MQ below _ _ _ _ _ _ = Q
  unfold f_X8_continuesSeam at hf
  refine lv_iload_n hx hb dX8_continuesSeam_0 rfl (lv_at hl 2 rfl) ?_
  refine lv_iconst (v := (-1)) hx hb dX8_continuesSeam_1 (by decide) ?_
  refine lv_icmp_eq (tgt := 38) hx hb dX8_continuesSeam_2 (by decide) (fun hc => ?_) (fun hc => ?_)
  · have hf := jbT hf hc
    refine lv_iconst (v := 0) hx hb dX8_continuesSeam_38 (by decide) ?_
    cases hf
    subst hQ
    exact rt_i hx hb hrt hlk nar_0 hK hP hD hS (Nat.le_of_ble_eq_true rfl) (Nat.le_of_ble_eq_true rfl) dX8_continuesSeam_39
  · have hf := jbF hf hc
    refine lv_aload_n hx hb dX8_continuesSeam_5 rfl (lv_at hl 0 rfl) ?_
    refine lv_iload_n hx hb dX8_continuesSeam_6 rfl (lv_at hl 1 rfl) ?_
    obtain ⟨o1, g2, hf⟩ := jbB_e hf
    refine cva_i (As := [.int a1]) (rest := []) ⟨hx, hb, hml, hown, hts⟩ (c_X7_heightAt l g hq qv a1 _ g2) (cwV 1 hts gX8_continuesSeam_X7_heightAt rfl rfl rfl hd_X7_heightAt ⟨Nat.le_of_ble_eq_true rfl, Nat.le_of_ble_eq_true rfl⟩) hK hZ hT hA hP hD hS hl.1 (va_recv hK hP (ci := 7) (q0 := 0) rfl rfl) rfl rfl (Nat.le_of_ble_eq_true rfl) ⟨Nat.le_of_ble_eq_true rfl, Nat.le_of_ble_eq_true rfl⟩ dX8_continuesSeam_7 (fun H locs hP hD hS => ?_)
    refine lv_if_le (tgt := 38) hx hb dX8_continuesSeam_10 (by decide) (fun hc => ?_) (fun hc => ?_)
    · have hf := jbT hf hc
      refine lv_iconst (v := 0) hx hb dX8_continuesSeam_38 (by decide) ?_
      cases hf
      subst hQ
      exact rt_i hx hb hrt hlk nar_0 hK hP hD hS (Nat.le_of_ble_eq_true rfl) (Nat.le_of_ble_eq_true rfl) dX8_continuesSeam_39
    · have hf := jbF hf hc
      refine lv_aload_n hx hb dX8_continuesSeam_13 rfl (lv_at hl 0 rfl) ?_
      refine lv_iload_n hx hb dX8_continuesSeam_14 rfl (lv_at hl 2 rfl) ?_
      obtain ⟨o3, g4, hf⟩ := jbB_e hf
      refine cva_i (As := [.int a2]) (rest := []) ⟨hx, hb, hml, hown, hts⟩ (c_X7_heightAt l g hq qv a2 _ g4) (cwV 1 hts gX8_continuesSeam_X7_heightAt rfl rfl rfl hd_X7_heightAt ⟨Nat.le_of_ble_eq_true rfl, Nat.le_of_ble_eq_true rfl⟩) hK hZ hT hA hP hD hS hl.1 (va_recv hK hP (ci := 7) (q0 := 0) rfl rfl) rfl rfl (Nat.le_of_ble_eq_true rfl) ⟨Nat.le_of_ble_eq_true rfl, Nat.le_of_ble_eq_true rfl⟩ dX8_continuesSeam_15 (fun H locs hP hD hS => ?_)
      refine lv_if_le (tgt := 38) hx hb dX8_continuesSeam_18 (by decide) (fun hc => ?_) (fun hc => ?_)
      · have hf := jbT hf hc
        refine lv_iconst (v := 0) hx hb dX8_continuesSeam_38 (by decide) ?_
        cases hf
        subst hQ
        exact rt_i hx hb hrt hlk nar_0 hK hP hD hS (Nat.le_of_ble_eq_true rfl) (Nat.le_of_ble_eq_true rfl) dX8_continuesSeam_39
      · have hf := jbF hf hc
        refine lv_aload_n hx hb dX8_continuesSeam_21 rfl (lv_at hl 0 rfl) ?_
        refine lv_iload_n hx hb dX8_continuesSeam_22 rfl (lv_at hl 1 rfl) ?_
        obtain ⟨o5, g6, hf⟩ := jbB_e hf
        refine cva_i (As := [.int a1]) (rest := []) ⟨hx, hb, hml, hown, hts⟩ (c_X7_stoneAt l g hq qv a1 _ g6) (cwV 1 hts gX8_continuesSeam_X7_stoneAt rfl rfl rfl hd_X7_stoneAt ⟨Nat.le_of_ble_eq_true rfl, Nat.le_of_ble_eq_true rfl⟩) hK hZ hT hA hP hD hS hl.1 (va_recv hK hP (ci := 7) (q0 := 0) rfl rfl) rfl rfl (Nat.le_of_ble_eq_true rfl) ⟨Nat.le_of_ble_eq_true rfl, Nat.le_of_ble_eq_true rfl⟩ dX8_continuesSeam_23 (fun H locs hP hD hS => ?_)
        refine lv_aload_n hx hb dX8_continuesSeam_26 rfl (lv_at hl 0 rfl) ?_
        refine lv_iload_n hx hb dX8_continuesSeam_27 rfl (lv_at hl 2 rfl) ?_
        obtain ⟨o7, g8, hf⟩ := jbB_e hf
        refine cva_i (As := [.int a2]) (rest := [.int o5]) ⟨hx, hb, hml, hown, hts⟩ (c_X7_stoneAt l g hq qv a2 _ g8) (cwV 1 hts gX8_continuesSeam_X7_stoneAt rfl rfl rfl hd_X7_stoneAt ⟨Nat.le_of_ble_eq_true rfl, Nat.le_of_ble_eq_true rfl⟩) hK hZ hT hA hP hD hS hl.1 (va_recv hK hP (ci := 7) (q0 := 0) rfl rfl) rfl rfl (Nat.le_of_ble_eq_true rfl) ⟨Nat.le_of_ble_eq_true rfl, Nat.le_of_ble_eq_true rfl⟩ dX8_continuesSeam_28 (fun H locs hP hD hS => ?_)
        refine lv_icmp_ne (tgt := 38) hx hb dX8_continuesSeam_31 (by decide) (fun hc => ?_) (fun hc => ?_)
        · have hf := jbF hf hc
          refine lv_iconst (v := 0) hx hb dX8_continuesSeam_38 (by decide) ?_
          cases hf
          subst hQ
          exact rt_i hx hb hrt hlk nar_0 hK hP hD hS (Nat.le_of_ble_eq_true rfl) (Nat.le_of_ble_eq_true rfl) dX8_continuesSeam_39
        · have hf := jbT hf hc
          refine lv_iconst (v := 1) hx hb dX8_continuesSeam_34 (by decide) ?_
          refine lv_goto (tgt := 39) hx hb dX8_continuesSeam_35 (by decide) ?_
          cases hf
          subst hQ
          exact rt_i hx hb hrt hlk nar_1 hK hP hD hS (Nat.le_of_ble_eq_true rfl) (Nat.le_of_ble_eq_true rfl) dX8_continuesSeam_39
def f_X8_collectSeam_J131 (sv : SV) (qv : QV) (x3 : Int32) (x4 : Int32) (x5 : Int32) : Option (Sum (Int32 × Int32 × SV) (Int32 × Int32 × SV)) :=
  some (.inl (x3, (x5 + 1), sv))
def f_X8_collectSeam_L57 (qv : QV) (x4 : Int32) (x3 : Int32) (x5 : Int32) (sv : SV) : Option (Sum (Int32 × Int32 × SV) (Int32 × Int32 × SV)) :=
  if 4 ≤ x5 then
  (some (.inr (x3, x5, sv)))
  else
  (if jIn x4 271 then
  (f_X3_neighbour ((sQueue sv) x4.toNatClampNeg) x5).bind fun o9 =>
  if jIn x4 271 then
  (f_X8_continuesSeam qv ((sQueue sv) x4.toNatClampNeg) o9).bind fun o12 =>
  if o12 = 0 then
  (f_X8_collectSeam_J131 sv qv x3 x4 x5)
  else
  (if jIn o9 30 then
  if ((sMarked sv) o9.toNatClampNeg) = 0 then
  (if 271 ≤ x3 then
  (f_X8_collectSeam_J131 sv qv x3 x4 x5)
  else
  (if jIn o9 30 then
  jbN (sSMarked (upd (sMarked sv) o9.toNatClampNeg (vp_nar .boolean 1)) sv) fun w16 =>
  if jIn x3 271 then
  jbN (sSQueue (upd (sQueue w16) x3.toNatClampNeg o9) w16) fun w18 =>
  f_X8_collectSeam_J131 w18 qv (x3 + 1) x4 x5
  else none
  else none))
  else
  (f_X8_collectSeam_J131 sv qv x3 x4 x5)
  else none)
  else none
  else none)
def f_X8_collectSeam_L38 (qv : QV) (x3 : Int32) (x4 : Int32) (sv : SV) : Option (Sum (Int32 × Int32 × SV) (Int32 × Int32 × SV)) :=
  if x3 ≤ x4 then
  (some (.inr (x3, x4, sv)))
  else
  (if 271 ≤ x4 then
  (some (.inr (x3, x4, sv)))
  else
  ((jbL (fun s => f_X8_collectSeam_L57 qv x4 (s.1) (s.2.1) (s.2.2)) 5000 (x3, 0, sv)).bind fun o57 =>
  some (.inl ((o57.1), (x4 + 1), (o57.2.2)))))
def f_X8_collectSeam (sv : SV) (qv : QV) (a1 : Int32) : Option (Int32 × SV) :=
  if jIn a1 30 then
  if ((sMarked sv) a1.toNatClampNeg) = 0 then
  ((f_X7_heightAt qv a1).bind fun o2 =>
  if o2 = 0 then
  (some (0, sv))
  else
  (if jIn a1 30 then
  jbN (sSMarked (upd (sMarked sv) a1.toNatClampNeg (vp_nar .boolean 1)) sv) fun w5 =>
  if jIn 0 271 then
  jbN (sSQueue (upd (sQueue w5) (0 : Int32).toNatClampNeg a1) w5) fun w7 =>
  (jbL (fun s => f_X8_collectSeam_L38 qv (s.1) (s.2.1) (s.2.2)) 5000 (1, 0, w7)).bind fun o38 =>
  some ((o38.1), (o38.2.2))
  else none
  else none))
  else
  (some (0, sv))
  else none
def rm_X8_collectSeam : Room := { frames := 2, cells := 0, slots := 0, locals := 43 }
theorem hd_X8_collectSeam : yX8_collectSeam.cls = RX8 ∧ yX8_collectSeam.cls ≠ "java/lang/invoke/MethodHandle" ∧ yX8_collectSeam.cls ≠ "java/lang/invoke/VarHandle" ∧ (parseMethodDescriptor yX8_collectSeam.desc).map (fun d => d.parameters.length) = some 2 := by decide +kernel
set_option maxHeartbeats 4000000 in
set_option maxRecDepth 100000 in
theorem c_X8_collectSeam (l : Launch) (g : GG) (hs : Nat → Nat) (sv : SV) (hq : Nat → Nat) (qv : QV)  (a1 : Int32) (out : Int32 × SV) (hf : f_X8_collectSeam sv qv a1 = some out) : MtI l yX8_collectSeam wsX8_collectSeam rm_X8_collectSeam g (wS g hs sv ++ wQ g hq qv) [.ref (hs 0), .ref (hq 0), .int a1] (out.1) (wS g hs (out.2) ++ wQ g hq qv) 0 0 := by
  refine fun sz => mt_of (cc := cX8_collectSeam) (maxL := 7) (ret := (some .int)) (own := RX8) (Qc := fun A => va_Qi (fun r (_ : Unit) => r = (out.1)) (fun _ t => PosM g A (wS g hs (out.2) ++ wQ g hq qv) t) A) (by decide +kernel) rfl rfl (Nat.le_of_ble_eq_true rfl) ?_ sz
  intro p e s mi below meth c A ls hB hnm hrt hlk hP hD hl
  obtain ⟨hx, hb, hml, hown, hts, hK, hZ, hT, hA, -⟩ := hB
  have hS : va_S A s.heap s.heap [] := va_S.rf
  have hl : lv_has ls 7 [(0, .ref (hs 0)), (1, .ref (hq 0)), (2, .int a1)] := hl
  have hinX8 : ∀ w ∈ wsX80, w ∈ wsX8_collectSeam := by decide +kernel
  have k0 := hts (.fieldLink RX8 26 "TerraceQuarry$Survey" "marked" "[Z") (by decide +kernel)
  have k1 := hts (.fieldLink RX8 11 "TerraceQuarry$Survey" "queue" "[I") (by decide +kernel)
  generalize hQ : MQ below _ _ _ _ _ _ = Q
  unfold f_X8_collectSeam at hf
  have hL38 : ∀ (n : Nat) (x3 : Int32) (x4 : Int32) (sv : SV) (H : Heap) (locs : List Loc) (ls : Array Slot) (o38 : Int32 × Int32 × SV), jbL (fun s => f_X8_collectSeam_L38 qv (s.1) (s.2.1) (s.2.2)) n (x3, x4, sv) = some o38 → va_P (gD g) vwCl (wS g hs sv ++ wQ g hq qv) H → va_D A (wS g hs sv ++ wQ g hq qv) → va_S A s.heap H locs → lv_has ls 7 [(0, .ref (hs 0)), (1, .ref (hq 0)), (3, .int x3), (4, .int x4)] → (∀ (H : Heap) (locs : List Loc) (ls : Array Slot), va_P (gD g) vwCl (wS g hs (o38.2.2) ++ wQ g hq qv) H → va_D A (wS g hs (o38.2.2) ++ wQ g hq qv) → va_S A s.heap H locs → lv_has ls 7 [(3, .int (o38.1))] → W p l e rm_X8_collectSeam s mi [.ref (hs 0), .ref (hq 0), .int a1].toArray below meth c H locs 0 0 Q (F0 mi 143 ls [])) → W p l e rm_X8_collectSeam s mi [.ref (hs 0), .ref (hq 0), .int a1].toArray below meth c H locs 0 0 Q (F0 mi 38 ls []) := by
    intro n
    induction n with
    | zero => intro x3 x4 sv H locs ls o38 hf; exact absurd hf (jbL_0 _ _ _)
    | succ n ih =>
      intro x3 x4 sv H locs ls o38 hf hP hD hS hl hk
      obtain ⟨r, hf, hr⟩ := jbL_e hf
      have hf : f_X8_collectSeam_L38 qv x3 x4 sv = some r := hf
      unfold f_X8_collectSeam_L38 at hf
      have hL57 : ∀ (x4 : Int32) (n : Nat) (x3 : Int32) (x5 : Int32) (sv : SV) (H : Heap) (locs : List Loc) (ls : Array Slot) (o57 : Int32 × Int32 × SV), jbL (fun s => f_X8_collectSeam_L57 qv x4 (s.1) (s.2.1) (s.2.2)) n (x3, x5, sv) = some o57 → va_P (gD g) vwCl (wS g hs sv ++ wQ g hq qv) H → va_D A (wS g hs sv ++ wQ g hq qv) → va_S A s.heap H locs → lv_has ls 7 [(0, .ref (hs 0)), (1, .ref (hq 0)), (3, .int x3), (4, .int x4), (5, .int x5)] → (∀ (H : Heap) (locs : List Loc) (ls : Array Slot), va_P (gD g) vwCl (wS g hs (o57.2.2) ++ wQ g hq qv) H → va_D A (wS g hs (o57.2.2) ++ wQ g hq qv) → va_S A s.heap H locs → lv_has ls 7 [(0, .ref (hs 0)), (1, .ref (hq 0)), (3, .int (o57.1)), (4, .int x4)] → W p l e rm_X8_collectSeam s mi [.ref (hs 0), .ref (hq 0), .int a1].toArray below meth c H locs 0 0 Q (F0 mi 137 ls [])) → W p l e rm_X8_collectSeam s mi [.ref (hs 0), .ref (hq 0), .int a1].toArray below meth c H locs 0 0 Q (F0 mi 57 ls []) := by
        intro x4 n
        induction n with
        | zero => intro x3 x5 sv H locs ls o57 hf; exact absurd hf (jbL_0 _ _ _)
        | succ n ih =>
          intro x3 x5 sv H locs ls o57 hf hP hD hS hl hk
          obtain ⟨r, hf, hr⟩ := jbL_e hf
          have hf : f_X8_collectSeam_L57 qv x4 x3 x5 sv = some r := hf
          unfold f_X8_collectSeam_L57 at hf
          have hJ131 : ∀ (sv : SV) (x3 : Int32) (x5 : Int32) (H : Heap) (locs : List Loc) (ls : Array Slot) (r : Sum (Int32 × Int32 × SV) (Int32 × Int32 × SV)), f_X8_collectSeam_J131 sv qv x3 x4 x5 = some r → jbR (fun s => f_X8_collectSeam_L57 qv x4 (s.1) (s.2.1) (s.2.2)) n o57 r → va_P (gD g) vwCl (wS g hs sv ++ wQ g hq qv) H → va_D A (wS g hs sv ++ wQ g hq qv) → va_S A s.heap H locs → lv_has ls 7 [(0, .ref (hs 0)), (1, .ref (hq 0)), (3, .int x3), (4, .int x4), (5, .int x5)] → W p l e rm_X8_collectSeam s mi [.ref (hs 0), .ref (hq 0), .int a1].toArray below meth c H locs 0 0 Q (F0 mi 131 ls []) := by
            intro sv x3 x5 H locs ls r hf hr hP hD hS hl
            unfold f_X8_collectSeam_J131 at hf
            refine lv_iinc (v := (x5 + 1)) (lv' := [(5, .int (x5 + 1)), (0, .ref (hs 0)), (1, .ref (hq 0)), (3, .int x3), (4, .int x4)]) hx hb dX8_collectSeam_131 hl (k := 4) rfl rfl (by decide) rfl (fun ls hl => ?_)
            refine lv_goto (tgt := 57) hx hb dX8_collectSeam_134 (by decide) ?_
            cases hf
            exact ih x3 (x5 + 1) sv _ _ _ _ hr hP hD hS (lv_sub hl [1, 2, 3, 4, 0] rfl) hk
          refine lv_iload hx hb dX8_collectSeam_57 (lv_at hl 4 rfl) ?_
          refine lv_iconst (v := 4) hx hb dX8_collectSeam_59 (by decide) ?_
          refine lv_icmp_ge (tgt := 137) hx hb dX8_collectSeam_60 (by decide) (fun hc => ?_) (fun hc => ?_)
          · have hf := jbT hf hc
            cases hf
            obtain rfl := jbR_r hr
            exact hk _ _ _ hP hD hS (lv_sub hl [0, 1, 2, 3] rfl)
          · have hf := jbF hf hc
            refine lv_aload_n hx hb dX8_collectSeam_63 rfl (lv_at hl 0 rfl) ?_
            refine va_get (D := gD g) (ci := 8) (v := .ref (hs 1)) (C := RX8) (T := TX8) (N := 5) hx hb hts hinX8 hown hK hP 0 rfl rfl 0 (by decide) k1 (fun _ h9 => h9) rfl dX8_collectSeam_64 ?_
            refine lv_iload hx hb dX8_collectSeam_67 (lv_at hl 3 rfl) ?_
            obtain ⟨h8, hf⟩ := jbA_e hf
            refine va_iald hx hb hK hP 1 0 rfl rfl h8 dX8_collectSeam_69 ?_
            refine lv_iload hx hb dX8_collectSeam_70 (lv_at hl 4 rfl) ?_
            obtain ⟨o9, g10, hf⟩ := jbB_e hf
            refine csn_i (As := [.int ((sQueue sv) x4.toNatClampNeg), .int x5]) (rest := []) ⟨hx, hb, hml, hown, hts⟩ (c_X3_neighbour l g ((sQueue sv) x4.toNatClampNeg) x5 _ g10) (va_cwS 2 hts gX8_collectSeam_X3_neighbour rfl rfl rfl hd_X3_neighbour ⟨Nat.le_of_ble_eq_true rfl, Nat.le_of_ble_eq_true rfl⟩) hK hZ hT hA hP hD hS hl.1 rfl rfl (Nat.le_of_ble_eq_true rfl) ⟨Nat.le_of_ble_eq_true rfl, Nat.le_of_ble_eq_true rfl⟩ dX8_collectSeam_72 (fun H locs hP hD hS => ?_)
            refine lv_istore (lv' := [(6, .int o9), (0, .ref (hs 0)), (1, .ref (hq 0)), (3, .int x3), (4, .int x4), (5, .int x5)]) hx hb dX8_collectSeam_75 hl (by decide) rfl (fun ls hl => ?_)
            refine lv_aload_n hx hb dX8_collectSeam_77 rfl (lv_at hl 2 rfl) ?_
            refine lv_aload_n hx hb dX8_collectSeam_78 rfl (lv_at hl 1 rfl) ?_
            refine va_get (D := gD g) (ci := 8) (v := .ref (hs 1)) (C := RX8) (T := TX8) (N := 5) hx hb hts hinX8 hown hK hP 0 rfl rfl 0 (by decide) k1 (fun _ h9 => h9) rfl dX8_collectSeam_79 ?_
            refine lv_iload hx hb dX8_collectSeam_82 (lv_at hl 4 rfl) ?_
            obtain ⟨h11, hf⟩ := jbA_e hf
            refine va_iald hx hb hK hP 1 0 rfl rfl h11 dX8_collectSeam_84 ?_
            refine lv_iload hx hb dX8_collectSeam_85 (lv_at hl 0 rfl) ?_
            obtain ⟨o12, g13, hf⟩ := jbB_e hf
            refine cs_i (As := [.ref (hq 0), .int ((sQueue sv) x4.toNatClampNeg), .int o9]) (rest := []) (Wr := [0, 1, 2, 3, 4, 5].filterMap (fun i => ((wS g hs sv ++ wQ g hq qv))[i]?)) ⟨hx, hb, hml, hown, hts⟩ (c_X8_continuesSeam l g hq qv ((sQueue sv) x4.toNatClampNeg) o9 _ g13) (va_cwS 3 hts gX8_collectSeam_X8_continuesSeam rfl rfl rfl hd_X8_continuesSeam ⟨Nat.le_of_ble_eq_true rfl, Nat.le_of_ble_eq_true rfl⟩) hK hZ hT hA hP hD hS hl.1 [6, 7, 8, 9, 10, 11, 12, 13, 14, 15] [0, 1, 2, 3, 4, 5] rfl rfl rfl rfl rfl rfl rfl (Nat.le_of_ble_eq_true rfl) ⟨Nat.le_of_ble_eq_true rfl, Nat.le_of_ble_eq_true rfl⟩ dX8_collectSeam_87 (fun H locs hP hD hS => ?_)
            have hP : va_P (gD g) vwCl (wS g hs sv ++ wQ g hq qv) H := hP.sub [0, 1, 2, 3, 4, 5, 6, 7, 8, 9, 10, 11, 12, 13, 14, 15] rfl
            have hD : va_D A (wS g hs sv ++ wQ g hq qv) := hD.sub [0, 1, 2, 3, 4, 5, 6, 7, 8, 9, 10, 11, 12, 13, 14, 15] rfl rfl
            refine lv_if_eq (tgt := 131) hx hb dX8_collectSeam_90 (by decide) (fun hc => ?_) (fun hc => ?_)
            · have hf := jbT hf hc
              exact hJ131 sv x3 x5 _ _ _ _ hf hr hP hD hS (lv_sub hl [1, 2, 3, 4, 5] rfl)
            · have hf := jbF hf hc
              refine lv_aload_n hx hb dX8_collectSeam_93 rfl (lv_at hl 1 rfl) ?_
              refine va_get (D := gD g) (ci := 8) (v := .ref (hs 5)) (C := RX8) (T := TX8) (N := 5) hx hb hts hinX8 hown hK hP 0 rfl rfl 4 (by decide) k0 (fun _ h9 => h9) rfl dX8_collectSeam_94 ?_
              refine lv_iload hx hb dX8_collectSeam_97 (lv_at hl 0 rfl) ?_
              obtain ⟨h14, hf⟩ := jbA_e hf
              refine va_zald hx hb hK hP 5 1 rfl rfl h14 dX8_collectSeam_99 ?_
              refine lv_if_ne (tgt := 131) hx hb dX8_collectSeam_100 (by decide) (fun hc => ?_) (fun hc => ?_)
              · have hf := jbF hf hc
                exact hJ131 sv x3 x5 _ _ _ _ hf hr hP hD hS (lv_sub hl [1, 2, 3, 4, 5] rfl)
              · have hf := jbT hf hc
                refine lv_iload_n hx hb dX8_collectSeam_103 rfl (lv_at hl 3 rfl) ?_
                refine lv_aload_n hx hb dX8_collectSeam_104 rfl (lv_at hl 1 rfl) ?_
                refine va_get (D := gD g) (ci := 8) (v := .ref (hs 1)) (C := RX8) (T := TX8) (N := 5) hx hb hts hinX8 hown hK hP 0 rfl rfl 0 (by decide) k1 (fun _ h9 => h9) rfl dX8_collectSeam_105 ?_
                refine va_alen (v := 271) hx hb hK hP 1 0 rfl rfl rfl dX8_collectSeam_108 ?_
                refine lv_icmp_ge (tgt := 131) hx hb dX8_collectSeam_109 (by decide) (fun hc => ?_) (fun hc => ?_)
                · have hf := jbT hf hc
                  exact hJ131 sv x3 x5 _ _ _ _ hf hr hP hD hS (lv_sub hl [1, 2, 3, 4, 5] rfl)
                · have hf := jbF hf hc
                  refine lv_aload_n hx hb dX8_collectSeam_112 rfl (lv_at hl 1 rfl) ?_
                  refine va_get (D := gD g) (ci := 8) (v := .ref (hs 5)) (C := RX8) (T := TX8) (N := 5) hx hb hts hinX8 hown hK hP 0 rfl rfl 4 (by decide) k0 (fun _ h9 => h9) rfl dX8_collectSeam_113 ?_
                  refine lv_iload hx hb dX8_collectSeam_116 (lv_at hl 0 rfl) ?_
                  refine lv_iconst (v := 1) hx hb dX8_collectSeam_118 (by decide) ?_
                  obtain ⟨h15, hf⟩ := jbA_e hf
                  refine va_zast hx hb hK hP hD hS 5 1 rfl rfl h15 dX8_collectSeam_119 (fun H locs hP hD hS => ?_)
                  obtain ⟨w16, ew16⟩ : ∃ y, y = (sSMarked (upd (sMarked sv) o9.toNatClampNeg (vp_nar .boolean 1)) sv) := ⟨_, rfl⟩
                  have hf := jbN_e hf ew16
                  have hP : va_P (gD g) vwCl (wS g hs w16 ++ wQ g hq qv) H := by rw [ew16]; exact hP
                  have hD : va_D A (wS g hs w16 ++ wQ g hq qv) := by rw [ew16]; exact hD
                  refine lv_aload_n hx hb dX8_collectSeam_120 rfl (lv_at hl 1 rfl) ?_
                  refine va_get (D := gD g) (ci := 8) (v := .ref (hs 1)) (C := RX8) (T := TX8) (N := 5) hx hb hts hinX8 hown hK hP 0 rfl rfl 0 (by decide) k1 (fun _ h9 => h9) rfl dX8_collectSeam_121 ?_
                  refine lv_iload_n hx hb dX8_collectSeam_124 rfl (lv_at hl 3 rfl) ?_
                  refine lv_iload hx hb dX8_collectSeam_125 (lv_at hl 0 rfl) ?_
                  obtain ⟨h17, hf⟩ := jbA_e hf
                  refine va_iast hx hb hK hP hD hS 1 0 rfl rfl h17 dX8_collectSeam_127 (fun H locs hP hD hS => ?_)
                  obtain ⟨w18, ew18⟩ : ∃ y, y = (sSQueue (upd (sQueue w16) x3.toNatClampNeg o9) w16) := ⟨_, rfl⟩
                  have hf := jbN_e hf ew18
                  have hP : va_P (gD g) vwCl (wS g hs w18 ++ wQ g hq qv) H := by rw [ew18]; exact hP
                  have hD : va_D A (wS g hs w18 ++ wQ g hq qv) := by rw [ew18]; exact hD
                  refine lv_iinc (v := (x3 + 1)) (lv' := [(3, .int (x3 + 1)), (6, .int o9), (0, .ref (hs 0)), (1, .ref (hq 0)), (4, .int x4), (5, .int x5)]) hx hb dX8_collectSeam_128 hl (k := 3) rfl rfl (by decide) rfl (fun ls hl => ?_)
                  exact hJ131 w18 (x3 + 1) x5 _ _ _ _ hf hr hP hD hS (lv_sub hl [2, 3, 0, 4, 5] rfl)
      refine lv_iload hx hb dX8_collectSeam_38 (lv_at hl 3 rfl) ?_
      refine lv_iload_n hx hb dX8_collectSeam_40 rfl (lv_at hl 2 rfl) ?_
      refine lv_icmp_ge (tgt := 143) hx hb dX8_collectSeam_41 (by decide) (fun hc => ?_) (fun hc => ?_)
      · have hf := jbT hf hc
        cases hf
        obtain rfl := jbR_r hr
        exact hk _ _ _ hP hD hS (lv_sub hl [2] rfl)
      · have hf := jbF hf hc
        refine lv_iload hx hb dX8_collectSeam_44 (lv_at hl 3 rfl) ?_
        refine lv_aload_n hx hb dX8_collectSeam_46 rfl (lv_at hl 0 rfl) ?_
        refine va_get (D := gD g) (ci := 8) (v := .ref (hs 1)) (C := RX8) (T := TX8) (N := 5) hx hb hts hinX8 hown hK hP 0 rfl rfl 0 (by decide) k1 (fun _ h9 => h9) rfl dX8_collectSeam_47 ?_
        refine va_alen (v := 271) hx hb hK hP 1 0 rfl rfl rfl dX8_collectSeam_50 ?_
        refine lv_icmp_ge (tgt := 143) hx hb dX8_collectSeam_51 (by decide) (fun hc => ?_) (fun hc => ?_)
        · have hf := jbT hf hc
          cases hf
          obtain rfl := jbR_r hr
          exact hk _ _ _ hP hD hS (lv_sub hl [2] rfl)
        · have hf := jbF hf hc
          refine lv_iconst (v := 0) hx hb dX8_collectSeam_54 (by decide) ?_
          refine lv_istore (lv' := [(5, .int 0), (0, .ref (hs 0)), (1, .ref (hq 0)), (3, .int x3), (4, .int x4)]) hx hb dX8_collectSeam_55 hl (by decide) rfl (fun ls hl => ?_)
          obtain ⟨o57, hg, hf⟩ := jbB_e hf
          refine hL57 x4 _ x3 0 sv _ _ _ _ hg hP hD hS (lv_sub hl [1, 2, 3, 4, 0] rfl) (fun H locs ls hP hD hS hl => ?_)
          refine lv_iinc (v := (x4 + 1)) (lv' := [(4, .int (x4 + 1)), (0, .ref (hs 0)), (1, .ref (hq 0)), (3, .int (o57.1))]) hx hb dX8_collectSeam_137 hl (k := 3) rfl rfl (by decide) rfl (fun ls hl => ?_)
          refine lv_goto (tgt := 38) hx hb dX8_collectSeam_140 (by decide) ?_
          cases hf
          exact ih (o57.1) (x4 + 1) (o57.2.2) _ _ _ _ hr hP hD hS (lv_sub hl [1, 2, 3, 0] rfl) hk
  refine lv_aload_n hx hb dX8_collectSeam_0 rfl (lv_at hl 0 rfl) ?_
  refine va_get (D := gD g) (ci := 8) (v := .ref (hs 5)) (C := RX8) (T := TX8) (N := 5) hx hb hts hinX8 hown hK hP 0 rfl rfl 4 (by decide) k0 (fun _ h9 => h9) rfl dX8_collectSeam_1 ?_
  refine lv_iload_n hx hb dX8_collectSeam_4 rfl (lv_at hl 2 rfl) ?_
  obtain ⟨h1, hf⟩ := jbA_e hf
  refine va_zald hx hb hK hP 5 1 rfl rfl h1 dX8_collectSeam_5 ?_
  refine lv_if_ne (tgt := 17) hx hb dX8_collectSeam_6 (by decide) (fun hc => ?_) (fun hc => ?_)
  · have hf := jbF hf hc
    refine lv_iconst (v := 0) hx hb dX8_collectSeam_17 (by decide) ?_
    cases hf
    subst hQ
    exact rt_i hx hb hrt hlk rfl hK hP hD hS (Nat.le_of_ble_eq_true rfl) (Nat.le_of_ble_eq_true rfl) dX8_collectSeam_18
  · have hf := jbT hf hc
    refine lv_aload_n hx hb dX8_collectSeam_9 rfl (lv_at hl 1 rfl) ?_
    refine lv_iload_n hx hb dX8_collectSeam_10 rfl (lv_at hl 2 rfl) ?_
    obtain ⟨o2, g3, hf⟩ := jbB_e hf
    refine cv_i (As := [.int a1]) (rest := []) (Wr := [0, 1, 2, 3, 4, 5].filterMap (fun i => ((wS g hs sv ++ wQ g hq qv))[i]?)) ⟨hx, hb, hml, hown, hts⟩ (c_X7_heightAt l g hq qv a1 _ g3) (cwV 1 hts gX8_collectSeam_X7_heightAt rfl rfl rfl hd_X7_heightAt ⟨Nat.le_of_ble_eq_true rfl, Nat.le_of_ble_eq_true rfl⟩) hK hZ hT hA hP hD hS hl.1 (va_recv hK hP (ci := 7) (q0 := 6) rfl rfl) [6, 7, 8, 9, 10, 11, 12, 13, 14, 15] [0, 1, 2, 3, 4, 5] rfl rfl rfl rfl rfl rfl rfl (Nat.le_of_ble_eq_true rfl) ⟨Nat.le_of_ble_eq_true rfl, Nat.le_of_ble_eq_true rfl⟩ dX8_collectSeam_11 (fun H locs hP hD hS => ?_)
    have hP : va_P (gD g) vwCl (wS g hs sv ++ wQ g hq qv) H := hP.sub [0, 1, 2, 3, 4, 5, 6, 7, 8, 9, 10, 11, 12, 13, 14, 15] rfl
    have hD : va_D A (wS g hs sv ++ wQ g hq qv) := hD.sub [0, 1, 2, 3, 4, 5, 6, 7, 8, 9, 10, 11, 12, 13, 14, 15] rfl rfl
    refine lv_if_ne (tgt := 19) hx hb dX8_collectSeam_14 (by decide) (fun hc => ?_) (fun hc => ?_)
    · have hf := jbF hf hc
      refine lv_aload_n hx hb dX8_collectSeam_19 rfl (lv_at hl 0 rfl) ?_
      refine va_get (D := gD g) (ci := 8) (v := .ref (hs 5)) (C := RX8) (T := TX8) (N := 5) hx hb hts hinX8 hown hK hP 0 rfl rfl 4 (by decide) k0 (fun _ h9 => h9) rfl dX8_collectSeam_20 ?_
      refine lv_iload_n hx hb dX8_collectSeam_23 rfl (lv_at hl 2 rfl) ?_
      refine lv_iconst (v := 1) hx hb dX8_collectSeam_24 (by decide) ?_
      obtain ⟨h4, hf⟩ := jbA_e hf
      refine va_zast hx hb hK hP hD hS 5 1 rfl rfl h4 dX8_collectSeam_25 (fun H locs hP hD hS => ?_)
      obtain ⟨w5, ew5⟩ : ∃ y, y = (sSMarked (upd (sMarked sv) a1.toNatClampNeg (vp_nar .boolean 1)) sv) := ⟨_, rfl⟩
      have hf := jbN_e hf ew5
      have hP : va_P (gD g) vwCl (wS g hs w5 ++ wQ g hq qv) H := by rw [ew5]; exact hP
      have hD : va_D A (wS g hs w5 ++ wQ g hq qv) := by rw [ew5]; exact hD
      refine lv_aload_n hx hb dX8_collectSeam_26 rfl (lv_at hl 0 rfl) ?_
      refine va_get (D := gD g) (ci := 8) (v := .ref (hs 1)) (C := RX8) (T := TX8) (N := 5) hx hb hts hinX8 hown hK hP 0 rfl rfl 0 (by decide) k1 (fun _ h9 => h9) rfl dX8_collectSeam_27 ?_
      refine lv_iconst (v := 0) hx hb dX8_collectSeam_30 (by decide) ?_
      refine lv_iload_n hx hb dX8_collectSeam_31 rfl (lv_at hl 2 rfl) ?_
      obtain ⟨h6, hf⟩ := jbA_e hf
      refine va_iast hx hb hK hP hD hS 1 0 rfl rfl h6 dX8_collectSeam_32 (fun H locs hP hD hS => ?_)
      obtain ⟨w7, ew7⟩ : ∃ y, y = (sSQueue (upd (sQueue w5) (0 : Int32).toNatClampNeg a1) w5) := ⟨_, rfl⟩
      have hf := jbN_e hf ew7
      have hP : va_P (gD g) vwCl (wS g hs w7 ++ wQ g hq qv) H := by rw [ew7]; exact hP
      have hD : va_D A (wS g hs w7 ++ wQ g hq qv) := by rw [ew7]; exact hD
      refine lv_iconst (v := 1) hx hb dX8_collectSeam_33 (by decide) ?_
      refine lv_istore_n (lv' := [(3, .int 1), (0, .ref (hs 0)), (1, .ref (hq 0)), (2, .int a1)]) hx hb dX8_collectSeam_34 rfl hl (by decide) rfl (fun ls hl => ?_)
      refine lv_iconst (v := 0) hx hb dX8_collectSeam_35 (by decide) ?_
      refine lv_istore (lv' := [(4, .int 0), (3, .int 1), (0, .ref (hs 0)), (1, .ref (hq 0)), (2, .int a1)]) hx hb dX8_collectSeam_36 hl (by decide) rfl (fun ls hl => ?_)
      obtain ⟨o38, hg, hf⟩ := jbB_e hf
      refine hL38 _ 1 0 w7 _ _ _ _ hg hP hD hS (lv_sub hl [2, 3, 1, 0] rfl) (fun H locs ls hP hD hS hl => ?_)
      refine lv_iload_n hx hb dX8_collectSeam_143 rfl (lv_at hl 0 rfl) ?_
      cases hf
      subst hQ
      exact rt_i hx hb hrt hlk rfl hK hP hD hS (Nat.le_of_ble_eq_true rfl) (Nat.le_of_ble_eq_true rfl) dX8_collectSeam_144
    · have hf := jbT hf hc
      refine lv_iconst (v := 0) hx hb dX8_collectSeam_17 (by decide) ?_
      cases hf
      subst hQ
      exact rt_i hx hb hrt hlk rfl hK hP hD hS (Nat.le_of_ble_eq_true rfl) (Nat.le_of_ble_eq_true rfl) dX8_collectSeam_18
def f_X8_sizeOfSeam (sv : SV) (qv : QV) (a1 : Int32) : Option (Int32 × SV) :=
  (f_X8_clearMarks sv).bind fun o1 =>
  (f_X8_collectSeam o1 qv a1).bind fun o3 =>
  some ((o3.1), (o3.2))
def rm_X8_sizeOfSeam : Room := { frames := 3, cells := 0, slots := 0, locals := 69 }
theorem hd_X8_sizeOfSeam : yX8_sizeOfSeam.cls = RX8 ∧ yX8_sizeOfSeam.cls ≠ "java/lang/invoke/MethodHandle" ∧ yX8_sizeOfSeam.cls ≠ "java/lang/invoke/VarHandle" ∧ (parseMethodDescriptor yX8_sizeOfSeam.desc).map (fun d => d.parameters.length) = some 2 := by decide +kernel
set_option maxHeartbeats 4000000 in
set_option maxRecDepth 100000 in
theorem c_X8_sizeOfSeam (l : Launch) (g : GG) (hs : Nat → Nat) (sv : SV) (hq : Nat → Nat) (qv : QV)  (a1 : Int32) (out : Int32 × SV) (hf : f_X8_sizeOfSeam sv qv a1 = some out) : MtI l yX8_sizeOfSeam wsX8_sizeOfSeam rm_X8_sizeOfSeam g (wS g hs sv ++ wQ g hq qv) [.ref (hs 0), .ref (hq 0), .int a1] (out.1) (wS g hs (out.2) ++ wQ g hq qv) 0 0 := by
  refine fun sz => mt_of (cc := cX8_sizeOfSeam) (maxL := 3) (ret := (some .int)) (own := RX8) (Qc := fun A => va_Qi (fun r (_ : Unit) => r = (out.1)) (fun _ t => PosM g A (wS g hs (out.2) ++ wQ g hq qv) t) A) (by decide +kernel) rfl rfl (Nat.le_of_ble_eq_true rfl) ?_ sz
  intro p e s mi below meth c A ls hB hnm hrt hlk hP hD hl
  obtain ⟨hx, hb, hml, hown, hts, hK, hZ, hT, hA, -⟩ := hB
  have hS : va_S A s.heap s.heap [] := va_S.rf
  have hl : lv_has ls 3 [(0, .ref (hs 0)), (1, .ref (hq 0)), (2, .int a1)] := hl
  generalize hQ : MQ below _ _ _ _ _ _ = Q
  unfold f_X8_sizeOfSeam at hf
  refine lv_aload_n hx hb dX8_sizeOfSeam_0 rfl (lv_at hl 0 rfl) ?_
  obtain ⟨o1, g2, hf⟩ := jbB_e hf
  refine cv_v (As := []) (rest := []) (Wr := [6, 7, 8, 9, 10, 11, 12, 13, 14, 15].filterMap (fun i => ((wS g hs sv ++ wQ g hq qv))[i]?)) ⟨hx, hb, hml, hown, hts⟩ (c_X8_clearMarks l g hs sv _ g2) (cwV 0 hts gX8_sizeOfSeam_X8_clearMarks rfl rfl rfl hd_X8_clearMarks ⟨Nat.le_of_ble_eq_true rfl, Nat.le_of_ble_eq_true rfl⟩) hK hZ hT hA hP hD hS hl.1 (va_recv hK hP (ci := 8) (q0 := 0) rfl rfl) [0, 1, 2, 3, 4, 5] [6, 7, 8, 9, 10, 11, 12, 13, 14, 15] rfl rfl rfl rfl rfl rfl rfl (Nat.le_of_ble_eq_true rfl) ⟨Nat.le_of_ble_eq_true rfl, Nat.le_of_ble_eq_true rfl⟩ dX8_sizeOfSeam_1 (fun H locs hP hD hS => ?_)
  have hP : va_P (gD g) vwCl (wS g hs o1 ++ wQ g hq qv) H := hP.sub [10, 11, 12, 13, 14, 15, 0, 1, 2, 3, 4, 5, 6, 7, 8, 9] rfl
  have hD : va_D A (wS g hs o1 ++ wQ g hq qv) := hD.sub [10, 11, 12, 13, 14, 15, 0, 1, 2, 3, 4, 5, 6, 7, 8, 9] rfl rfl
  refine lv_aload_n hx hb dX8_sizeOfSeam_4 rfl (lv_at hl 0 rfl) ?_
  refine lv_aload_n hx hb dX8_sizeOfSeam_5 rfl (lv_at hl 1 rfl) ?_
  refine lv_iload_n hx hb dX8_sizeOfSeam_6 rfl (lv_at hl 2 rfl) ?_
  obtain ⟨o3, g4, hf⟩ := jbB_e hf
  refine cva_i (As := [.ref (hq 0), .int a1]) (rest := []) ⟨hx, hb, hml, hown, hts⟩ (c_X8_collectSeam l g hs o1 hq qv a1 _ g4) (cwV 2 hts gX8_sizeOfSeam_X8_collectSeam rfl rfl rfl hd_X8_collectSeam ⟨Nat.le_of_ble_eq_true rfl, Nat.le_of_ble_eq_true rfl⟩) hK hZ hT hA hP hD hS hl.1 (va_recv hK hP (ci := 8) (q0 := 0) rfl rfl) rfl rfl (Nat.le_of_ble_eq_true rfl) ⟨Nat.le_of_ble_eq_true rfl, Nat.le_of_ble_eq_true rfl⟩ dX8_sizeOfSeam_7 (fun H locs hP hD hS => ?_)
  cases hf
  subst hQ
  exact rt_i hx hb hrt hlk rfl hK hP hD hS (Nat.le_of_ble_eq_true rfl) (Nat.le_of_ble_eq_true rfl) dX8_sizeOfSeam_10
def f_X8_volumeOfSeam_L17 (sv : SV) (qv : QV) (x3 : Int32) (x4 : Int32) (x5 : Int32) : Option (Sum (Int32 × Int32) (Int32 × Int32)) :=
  if x3 ≤ x5 then
  (some (.inr (x4, x5)))
  else
  (if 271 ≤ x5 then
  (some (.inr (x4, x5)))
  else
  (if jIn x5 271 then
  (f_X7_heightAt qv ((sQueue sv) x5.toNatClampNeg)).bind fun o7 =>
  jbN (x4 + o7) fun z9 =>
  some (.inl (z9, (x5 + 1)))
  else none))
def f_X8_volumeOfSeam (sv : SV) (qv : QV) (a1 : Int32) : Option (Int32 × SV) :=
  (f_X8_clearMarks sv).bind fun o1 =>
  (f_X8_collectSeam o1 qv a1).bind fun o3 =>
  jbN (o3.1) fun z5 =>
  (jbL (fun s => f_X8_volumeOfSeam_L17 (o3.2) qv z5 (s.1) (s.2)) 5000 (0, 0)).bind fun o17 =>
  some ((o17.1), (o3.2))
def rm_X8_volumeOfSeam : Room := { frames := 3, cells := 0, slots := 0, locals := 69 }
theorem hd_X8_volumeOfSeam : yX8_volumeOfSeam.cls = RX8 ∧ yX8_volumeOfSeam.cls ≠ "java/lang/invoke/MethodHandle" ∧ yX8_volumeOfSeam.cls ≠ "java/lang/invoke/VarHandle" ∧ (parseMethodDescriptor yX8_volumeOfSeam.desc).map (fun d => d.parameters.length) = some 2 := by decide +kernel
set_option maxHeartbeats 4000000 in
set_option maxRecDepth 100000 in
theorem c_X8_volumeOfSeam (l : Launch) (g : GG) (hs : Nat → Nat) (sv : SV) (hq : Nat → Nat) (qv : QV)  (a1 : Int32) (out : Int32 × SV) (hf : f_X8_volumeOfSeam sv qv a1 = some out) : MtI l yX8_volumeOfSeam wsX8_volumeOfSeam rm_X8_volumeOfSeam g (wS g hs sv ++ wQ g hq qv) [.ref (hs 0), .ref (hq 0), .int a1] (out.1) (wS g hs (out.2) ++ wQ g hq qv) 0 0 := by
  refine fun sz => mt_of (cc := cX8_volumeOfSeam) (maxL := 6) (ret := (some .int)) (own := RX8) (Qc := fun A => va_Qi (fun r (_ : Unit) => r = (out.1)) (fun _ t => PosM g A (wS g hs (out.2) ++ wQ g hq qv) t) A) (by decide +kernel) rfl rfl (Nat.le_of_ble_eq_true rfl) ?_ sz
  intro p e s mi below meth c A ls hB hnm hrt hlk hP hD hl
  obtain ⟨hx, hb, hml, hown, hts, hK, hZ, hT, hA, -⟩ := hB
  have hS : va_S A s.heap s.heap [] := va_S.rf
  have hl : lv_has ls 6 [(0, .ref (hs 0)), (1, .ref (hq 0)), (2, .int a1)] := hl
  have hinX8 : ∀ w ∈ wsX80, w ∈ wsX8_volumeOfSeam := by decide +kernel
  have k0 := hts (.fieldLink RX8 11 "TerraceQuarry$Survey" "queue" "[I") (by decide +kernel)
  generalize hQ : MQ below _ _ _ _ _ _ = Q
  unfold f_X8_volumeOfSeam at hf
  have hL17 : ∀ (sv : SV) (x3 : Int32) (n : Nat) (x4 : Int32) (x5 : Int32) (H : Heap) (locs : List Loc) (ls : Array Slot) (o17 : Int32 × Int32), jbL (fun s => f_X8_volumeOfSeam_L17 sv qv x3 (s.1) (s.2)) n (x4, x5) = some o17 → va_P (gD g) vwCl (wS g hs sv ++ wQ g hq qv) H → va_D A (wS g hs sv ++ wQ g hq qv) → va_S A s.heap H locs → lv_has ls 6 [(0, .ref (hs 0)), (1, .ref (hq 0)), (3, .int x3), (4, .int x4), (5, .int x5)] → (∀ (H : Heap) (locs : List Loc) (ls : Array Slot), va_P (gD g) vwCl (wS g hs sv ++ wQ g hq qv) H → va_D A (wS g hs sv ++ wQ g hq qv) → va_S A s.heap H locs → lv_has ls 6 [(4, .int (o17.1))] → W p l e rm_X8_volumeOfSeam s mi [.ref (hs 0), .ref (hq 0), .int a1].toArray below meth c H locs 0 0 Q (F0 mi 55 ls [])) → W p l e rm_X8_volumeOfSeam s mi [.ref (hs 0), .ref (hq 0), .int a1].toArray below meth c H locs 0 0 Q (F0 mi 17 ls []) := by
    intro sv x3 n
    induction n with
    | zero => intro x4 x5 H locs ls o17 hf; exact absurd hf (jbL_0 _ _ _)
    | succ n ih =>
      intro x4 x5 H locs ls o17 hf hP hD hS hl hk
      obtain ⟨r, hf, hr⟩ := jbL_e hf
      have hf : f_X8_volumeOfSeam_L17 sv qv x3 x4 x5 = some r := hf
      unfold f_X8_volumeOfSeam_L17 at hf
      refine lv_iload hx hb dX8_volumeOfSeam_17 (lv_at hl 4 rfl) ?_
      refine lv_iload_n hx hb dX8_volumeOfSeam_19 rfl (lv_at hl 2 rfl) ?_
      refine lv_icmp_ge (tgt := 55) hx hb dX8_volumeOfSeam_20 (by decide) (fun hc => ?_) (fun hc => ?_)
      · have hf := jbT hf hc
        cases hf
        obtain rfl := jbR_r hr
        exact hk _ _ _ hP hD hS (lv_sub hl [3] rfl)
      · have hf := jbF hf hc
        refine lv_iload hx hb dX8_volumeOfSeam_23 (lv_at hl 4 rfl) ?_
        refine lv_aload_n hx hb dX8_volumeOfSeam_25 rfl (lv_at hl 0 rfl) ?_
        refine va_get (D := gD g) (ci := 8) (v := .ref (hs 1)) (C := RX8) (T := TX8) (N := 5) hx hb hts hinX8 hown hK hP 0 rfl rfl 0 (by decide) k0 (fun _ h9 => h9) rfl dX8_volumeOfSeam_26 ?_
        refine va_alen (v := 271) hx hb hK hP 1 0 rfl rfl rfl dX8_volumeOfSeam_29 ?_
        refine lv_icmp_ge (tgt := 55) hx hb dX8_volumeOfSeam_30 (by decide) (fun hc => ?_) (fun hc => ?_)
        · have hf := jbT hf hc
          cases hf
          obtain rfl := jbR_r hr
          exact hk _ _ _ hP hD hS (lv_sub hl [3] rfl)
        · have hf := jbF hf hc
          refine lv_iload hx hb dX8_volumeOfSeam_33 (lv_at hl 3 rfl) ?_
          refine lv_aload_n hx hb dX8_volumeOfSeam_35 rfl (lv_at hl 1 rfl) ?_
          refine lv_aload_n hx hb dX8_volumeOfSeam_36 rfl (lv_at hl 0 rfl) ?_
          refine va_get (D := gD g) (ci := 8) (v := .ref (hs 1)) (C := RX8) (T := TX8) (N := 5) hx hb hts hinX8 hown hK hP 0 rfl rfl 0 (by decide) k0 (fun _ h9 => h9) rfl dX8_volumeOfSeam_37 ?_
          refine lv_iload hx hb dX8_volumeOfSeam_40 (lv_at hl 4 rfl) ?_
          obtain ⟨h6, hf⟩ := jbA_e hf
          refine va_iald hx hb hK hP 1 0 rfl rfl h6 dX8_volumeOfSeam_42 ?_
          obtain ⟨o7, g8, hf⟩ := jbB_e hf
          refine cv_i (As := [.int ((sQueue sv) x5.toNatClampNeg)]) (rest := [.int x4]) (Wr := [0, 1, 2, 3, 4, 5].filterMap (fun i => ((wS g hs sv ++ wQ g hq qv))[i]?)) ⟨hx, hb, hml, hown, hts⟩ (c_X7_heightAt l g hq qv ((sQueue sv) x5.toNatClampNeg) _ g8) (cwV 1 hts gX8_volumeOfSeam_X7_heightAt rfl rfl rfl hd_X7_heightAt ⟨Nat.le_of_ble_eq_true rfl, Nat.le_of_ble_eq_true rfl⟩) hK hZ hT hA hP hD hS hl.1 (va_recv hK hP (ci := 7) (q0 := 6) rfl rfl) [6, 7, 8, 9, 10, 11, 12, 13, 14, 15] [0, 1, 2, 3, 4, 5] rfl rfl rfl rfl rfl rfl rfl (Nat.le_of_ble_eq_true rfl) ⟨Nat.le_of_ble_eq_true rfl, Nat.le_of_ble_eq_true rfl⟩ dX8_volumeOfSeam_43 (fun H locs hP hD hS => ?_)
          have hP : va_P (gD g) vwCl (wS g hs sv ++ wQ g hq qv) H := hP.sub [0, 1, 2, 3, 4, 5, 6, 7, 8, 9, 10, 11, 12, 13, 14, 15] rfl
          have hD : va_D A (wS g hs sv ++ wQ g hq qv) := hD.sub [0, 1, 2, 3, 4, 5, 6, 7, 8, 9, 10, 11, 12, 13, 14, 15] rfl rfl
          refine lv_iadd hx hb dX8_volumeOfSeam_46 ?_
          refine lv_topi (fun z9 ez9 => ?_)
          have hf := jbN_e hf ez9
          refine lv_istore (lv' := [(4, .int z9), (0, .ref (hs 0)), (1, .ref (hq 0)), (3, .int x3), (5, .int x5)]) hx hb dX8_volumeOfSeam_47 hl (by decide) rfl (fun ls hl => ?_)
          refine lv_iinc (v := (x5 + 1)) (lv' := [(5, .int (x5 + 1)), (4, .int z9), (0, .ref (hs 0)), (1, .ref (hq 0)), (3, .int x3)]) hx hb dX8_volumeOfSeam_49 hl (k := 4) rfl rfl (by decide) rfl (fun ls hl => ?_)
          refine lv_goto (tgt := 17) hx hb dX8_volumeOfSeam_52 (by decide) ?_
          cases hf
          exact ih z9 (x5 + 1) _ _ _ _ hr hP hD hS (lv_sub hl [2, 3, 4, 1, 0] rfl) hk
  refine lv_aload_n hx hb dX8_volumeOfSeam_0 rfl (lv_at hl 0 rfl) ?_
  obtain ⟨o1, g2, hf⟩ := jbB_e hf
  refine cv_v (As := []) (rest := []) (Wr := [6, 7, 8, 9, 10, 11, 12, 13, 14, 15].filterMap (fun i => ((wS g hs sv ++ wQ g hq qv))[i]?)) ⟨hx, hb, hml, hown, hts⟩ (c_X8_clearMarks l g hs sv _ g2) (cwV 0 hts gX8_volumeOfSeam_X8_clearMarks rfl rfl rfl hd_X8_clearMarks ⟨Nat.le_of_ble_eq_true rfl, Nat.le_of_ble_eq_true rfl⟩) hK hZ hT hA hP hD hS hl.1 (va_recv hK hP (ci := 8) (q0 := 0) rfl rfl) [0, 1, 2, 3, 4, 5] [6, 7, 8, 9, 10, 11, 12, 13, 14, 15] rfl rfl rfl rfl rfl rfl rfl (Nat.le_of_ble_eq_true rfl) ⟨Nat.le_of_ble_eq_true rfl, Nat.le_of_ble_eq_true rfl⟩ dX8_volumeOfSeam_1 (fun H locs hP hD hS => ?_)
  have hP : va_P (gD g) vwCl (wS g hs o1 ++ wQ g hq qv) H := hP.sub [10, 11, 12, 13, 14, 15, 0, 1, 2, 3, 4, 5, 6, 7, 8, 9] rfl
  have hD : va_D A (wS g hs o1 ++ wQ g hq qv) := hD.sub [10, 11, 12, 13, 14, 15, 0, 1, 2, 3, 4, 5, 6, 7, 8, 9] rfl rfl
  refine lv_aload_n hx hb dX8_volumeOfSeam_4 rfl (lv_at hl 0 rfl) ?_
  refine lv_aload_n hx hb dX8_volumeOfSeam_5 rfl (lv_at hl 1 rfl) ?_
  refine lv_iload_n hx hb dX8_volumeOfSeam_6 rfl (lv_at hl 2 rfl) ?_
  obtain ⟨o3, g4, hf⟩ := jbB_e hf
  refine cva_i (As := [.ref (hq 0), .int a1]) (rest := []) ⟨hx, hb, hml, hown, hts⟩ (c_X8_collectSeam l g hs o1 hq qv a1 _ g4) (cwV 2 hts gX8_volumeOfSeam_X8_collectSeam rfl rfl rfl hd_X8_collectSeam ⟨Nat.le_of_ble_eq_true rfl, Nat.le_of_ble_eq_true rfl⟩) hK hZ hT hA hP hD hS hl.1 (va_recv hK hP (ci := 8) (q0 := 0) rfl rfl) rfl rfl (Nat.le_of_ble_eq_true rfl) ⟨Nat.le_of_ble_eq_true rfl, Nat.le_of_ble_eq_true rfl⟩ dX8_volumeOfSeam_7 (fun H locs hP hD hS => ?_)
  refine lv_topi (fun z5 ez5 => ?_)
  have hf := jbN_e hf ez5
  refine lv_istore_n (lv' := [(3, .int z5), (0, .ref (hs 0)), (1, .ref (hq 0)), (2, .int a1)]) hx hb dX8_volumeOfSeam_10 rfl hl (by decide) rfl (fun ls hl => ?_)
  refine lv_iconst (v := 0) hx hb dX8_volumeOfSeam_11 (by decide) ?_
  refine lv_istore (lv' := [(4, .int 0), (3, .int z5), (0, .ref (hs 0)), (1, .ref (hq 0)), (2, .int a1)]) hx hb dX8_volumeOfSeam_12 hl (by decide) rfl (fun ls hl => ?_)
  refine lv_iconst (v := 0) hx hb dX8_volumeOfSeam_14 (by decide) ?_
  refine lv_istore (lv' := [(5, .int 0), (4, .int 0), (3, .int z5), (0, .ref (hs 0)), (1, .ref (hq 0)), (2, .int a1)]) hx hb dX8_volumeOfSeam_15 hl (by decide) rfl (fun ls hl => ?_)
  obtain ⟨o17, hg, hf⟩ := jbB_e hf
  refine hL17 (o3.2) z5 _ 0 0 _ _ _ _ hg hP hD hS (lv_sub hl [3, 4, 2, 1, 0] rfl) (fun H locs ls hP hD hS hl => ?_)
  refine lv_iload hx hb dX8_volumeOfSeam_55 (lv_at hl 0 rfl) ?_
  cases hf
  subst hQ
  exact rt_i hx hb hrt hlk rfl hK hP hD hS (Nat.le_of_ble_eq_true rfl) (Nat.le_of_ble_eq_true rfl) dX8_volumeOfSeam_57
def f_X8_seamsBySearch_J26 (sv : SV) (qv : QV) (x2 : Int32) (x3 : Int32) : Option (Sum (Int32 × Int32 × SV) (Int32 × Int32 × SV)) :=
  some (.inl (x2, (x3 + 1), sv))
def f_X8_seamsBySearch_L8 (qv : QV) (x2 : Int32) (x3 : Int32) (sv : SV) : Option (Sum (Int32 × Int32 × SV) (Int32 × Int32 × SV)) :=
  if 30 ≤ x3 then
  (some (.inr (x2, x3, sv)))
  else
  ((f_X8_collectSeam sv qv x3).bind fun o3 =>
  if (o3.1) ≤ 0 then
  (f_X8_seamsBySearch_J26 (o3.2) qv x2 x3)
  else
  (f_X8_seamsBySearch_J26 (o3.2) qv (x2 + 1) x3))
def f_X8_seamsBySearch (sv : SV) (qv : QV) : Option (Int32 × SV) :=
  (f_X8_clearMarks sv).bind fun o1 =>
  (jbL (fun s => f_X8_seamsBySearch_L8 qv (s.1) (s.2.1) (s.2.2)) 5000 (0, 0, o1)).bind fun o8 =>
  some ((o8.1), (o8.2.2))
def rm_X8_seamsBySearch : Room := { frames := 3, cells := 0, slots := 0, locals := 69 }
theorem hd_X8_seamsBySearch : yX8_seamsBySearch.cls = RX8 ∧ yX8_seamsBySearch.cls ≠ "java/lang/invoke/MethodHandle" ∧ yX8_seamsBySearch.cls ≠ "java/lang/invoke/VarHandle" ∧ (parseMethodDescriptor yX8_seamsBySearch.desc).map (fun d => d.parameters.length) = some 1 := by decide +kernel
set_option maxHeartbeats 4000000 in
set_option maxRecDepth 100000 in
theorem c_X8_seamsBySearch (l : Launch) (g : GG) (hs : Nat → Nat) (sv : SV) (hq : Nat → Nat) (qv : QV)   (out : Int32 × SV) (hf : f_X8_seamsBySearch sv qv = some out) : MtI l yX8_seamsBySearch wsX8_seamsBySearch rm_X8_seamsBySearch g (wS g hs sv ++ wQ g hq qv) [.ref (hs 0), .ref (hq 0)] (out.1) (wS g hs (out.2) ++ wQ g hq qv) 0 0 := by
  refine fun sz => mt_of (cc := cX8_seamsBySearch) (maxL := 4) (ret := (some .int)) (own := RX8) (Qc := fun A => va_Qi (fun r (_ : Unit) => r = (out.1)) (fun _ t => PosM g A (wS g hs (out.2) ++ wQ g hq qv) t) A) (by decide +kernel) rfl rfl (Nat.le_of_ble_eq_true rfl) ?_ sz
  intro p e s mi below meth c A ls hB hnm hrt hlk hP hD hl
  obtain ⟨hx, hb, hml, hown, hts, hK, hZ, hT, hA, -⟩ := hB
  have hS : va_S A s.heap s.heap [] := va_S.rf
  have hl : lv_has ls 4 [(0, .ref (hs 0)), (1, .ref (hq 0))] := hl
  generalize hQ : MQ below _ _ _ _ _ _ = Q
  unfold f_X8_seamsBySearch at hf
  have hL8 : ∀ (n : Nat) (x2 : Int32) (x3 : Int32) (sv : SV) (H : Heap) (locs : List Loc) (ls : Array Slot) (o8 : Int32 × Int32 × SV), jbL (fun s => f_X8_seamsBySearch_L8 qv (s.1) (s.2.1) (s.2.2)) n (x2, x3, sv) = some o8 → va_P (gD g) vwCl (wS g hs sv ++ wQ g hq qv) H → va_D A (wS g hs sv ++ wQ g hq qv) → va_S A s.heap H locs → lv_has ls 4 [(0, .ref (hs 0)), (1, .ref (hq 0)), (2, .int x2), (3, .int x3)] → (∀ (H : Heap) (locs : List Loc) (ls : Array Slot), va_P (gD g) vwCl (wS g hs (o8.2.2) ++ wQ g hq qv) H → va_D A (wS g hs (o8.2.2) ++ wQ g hq qv) → va_S A s.heap H locs → lv_has ls 4 [(2, .int (o8.1))] → W p l e rm_X8_seamsBySearch s mi [.ref (hs 0), .ref (hq 0)].toArray below meth c H locs 0 0 Q (F0 mi 32 ls [])) → W p l e rm_X8_seamsBySearch s mi [.ref (hs 0), .ref (hq 0)].toArray below meth c H locs 0 0 Q (F0 mi 8 ls []) := by
    intro n
    induction n with
    | zero => intro x2 x3 sv H locs ls o8 hf; exact absurd hf (jbL_0 _ _ _)
    | succ n ih =>
      intro x2 x3 sv H locs ls o8 hf hP hD hS hl hk
      obtain ⟨r, hf, hr⟩ := jbL_e hf
      have hf : f_X8_seamsBySearch_L8 qv x2 x3 sv = some r := hf
      unfold f_X8_seamsBySearch_L8 at hf
      have hJ26 : ∀ (sv : SV) (x2 : Int32) (x3 : Int32) (H : Heap) (locs : List Loc) (ls : Array Slot) (r : Sum (Int32 × Int32 × SV) (Int32 × Int32 × SV)), f_X8_seamsBySearch_J26 sv qv x2 x3 = some r → jbR (fun s => f_X8_seamsBySearch_L8 qv (s.1) (s.2.1) (s.2.2)) n o8 r → va_P (gD g) vwCl (wS g hs sv ++ wQ g hq qv) H → va_D A (wS g hs sv ++ wQ g hq qv) → va_S A s.heap H locs → lv_has ls 4 [(0, .ref (hs 0)), (1, .ref (hq 0)), (2, .int x2), (3, .int x3)] → W p l e rm_X8_seamsBySearch s mi [.ref (hs 0), .ref (hq 0)].toArray below meth c H locs 0 0 Q (F0 mi 26 ls []) := by
        intro sv x2 x3 H locs ls r hf hr hP hD hS hl
        unfold f_X8_seamsBySearch_J26 at hf
        refine lv_iinc (v := (x3 + 1)) (lv' := [(3, .int (x3 + 1)), (0, .ref (hs 0)), (1, .ref (hq 0)), (2, .int x2)]) hx hb dX8_seamsBySearch_26 hl (k := 3) rfl rfl (by decide) rfl (fun ls hl => ?_)
        refine lv_goto (tgt := 8) hx hb dX8_seamsBySearch_29 (by decide) ?_
        cases hf
        exact ih x2 (x3 + 1) sv _ _ _ _ hr hP hD hS (lv_sub hl [1, 2, 3, 0] rfl) hk
      refine lv_iload_n hx hb dX8_seamsBySearch_8 rfl (lv_at hl 3 rfl) ?_
      refine lv_bipush (v := 30) hx hb dX8_seamsBySearch_9 (by decide) ?_
      refine lv_icmp_ge (tgt := 32) hx hb dX8_seamsBySearch_11 (by decide) (fun hc => ?_) (fun hc => ?_)
      · have hf := jbT hf hc
        cases hf
        obtain rfl := jbR_r hr
        exact hk _ _ _ hP hD hS (lv_sub hl [2] rfl)
      · have hf := jbF hf hc
        refine lv_aload_n hx hb dX8_seamsBySearch_14 rfl (lv_at hl 0 rfl) ?_
        refine lv_aload_n hx hb dX8_seamsBySearch_15 rfl (lv_at hl 1 rfl) ?_
        refine lv_iload_n hx hb dX8_seamsBySearch_16 rfl (lv_at hl 3 rfl) ?_
        obtain ⟨o3, g4, hf⟩ := jbB_e hf
        refine cva_i (As := [.ref (hq 0), .int x3]) (rest := []) ⟨hx, hb, hml, hown, hts⟩ (c_X8_collectSeam l g hs sv hq qv x3 _ g4) (cwV 2 hts gX8_seamsBySearch_X8_collectSeam rfl rfl rfl hd_X8_collectSeam ⟨Nat.le_of_ble_eq_true rfl, Nat.le_of_ble_eq_true rfl⟩) hK hZ hT hA hP hD hS hl.1 (va_recv hK hP (ci := 8) (q0 := 0) rfl rfl) rfl rfl (Nat.le_of_ble_eq_true rfl) ⟨Nat.le_of_ble_eq_true rfl, Nat.le_of_ble_eq_true rfl⟩ dX8_seamsBySearch_17 (fun H locs hP hD hS => ?_)
        refine lv_if_le (tgt := 26) hx hb dX8_seamsBySearch_20 (by decide) (fun hc => ?_) (fun hc => ?_)
        · have hf := jbT hf hc
          exact hJ26 (o3.2) x2 x3 _ _ _ _ hf hr hP hD hS (lv_sub hl [0, 1, 2, 3] rfl)
        · have hf := jbF hf hc
          refine lv_iinc (v := (x2 + 1)) (lv' := [(2, .int (x2 + 1)), (0, .ref (hs 0)), (1, .ref (hq 0)), (3, .int x3)]) hx hb dX8_seamsBySearch_23 hl (k := 2) rfl rfl (by decide) rfl (fun ls hl => ?_)
          exact hJ26 (o3.2) (x2 + 1) x3 _ _ _ _ hf hr hP hD hS (lv_sub hl [1, 2, 0, 3] rfl)
  refine lv_aload_n hx hb dX8_seamsBySearch_0 rfl (lv_at hl 0 rfl) ?_
  obtain ⟨o1, g2, hf⟩ := jbB_e hf
  refine cv_v (As := []) (rest := []) (Wr := [6, 7, 8, 9, 10, 11, 12, 13, 14, 15].filterMap (fun i => ((wS g hs sv ++ wQ g hq qv))[i]?)) ⟨hx, hb, hml, hown, hts⟩ (c_X8_clearMarks l g hs sv _ g2) (cwV 0 hts gX8_seamsBySearch_X8_clearMarks rfl rfl rfl hd_X8_clearMarks ⟨Nat.le_of_ble_eq_true rfl, Nat.le_of_ble_eq_true rfl⟩) hK hZ hT hA hP hD hS hl.1 (va_recv hK hP (ci := 8) (q0 := 0) rfl rfl) [0, 1, 2, 3, 4, 5] [6, 7, 8, 9, 10, 11, 12, 13, 14, 15] rfl rfl rfl rfl rfl rfl rfl (Nat.le_of_ble_eq_true rfl) ⟨Nat.le_of_ble_eq_true rfl, Nat.le_of_ble_eq_true rfl⟩ dX8_seamsBySearch_1 (fun H locs hP hD hS => ?_)
  have hP : va_P (gD g) vwCl (wS g hs o1 ++ wQ g hq qv) H := hP.sub [10, 11, 12, 13, 14, 15, 0, 1, 2, 3, 4, 5, 6, 7, 8, 9] rfl
  have hD : va_D A (wS g hs o1 ++ wQ g hq qv) := hD.sub [10, 11, 12, 13, 14, 15, 0, 1, 2, 3, 4, 5, 6, 7, 8, 9] rfl rfl
  refine lv_iconst (v := 0) hx hb dX8_seamsBySearch_4 (by decide) ?_
  refine lv_istore_n (lv' := [(2, .int 0), (0, .ref (hs 0)), (1, .ref (hq 0))]) hx hb dX8_seamsBySearch_5 rfl hl (by decide) rfl (fun ls hl => ?_)
  refine lv_iconst (v := 0) hx hb dX8_seamsBySearch_6 (by decide) ?_
  refine lv_istore_n (lv' := [(3, .int 0), (2, .int 0), (0, .ref (hs 0)), (1, .ref (hq 0))]) hx hb dX8_seamsBySearch_7 rfl hl (by decide) rfl (fun ls hl => ?_)
  obtain ⟨o8, hg, hf⟩ := jbB_e hf
  refine hL8 _ 0 0 o1 _ _ _ _ hg hP hD hS (lv_sub hl [2, 3, 1, 0] rfl) (fun H locs ls hP hD hS hl => ?_)
  refine lv_iload_n hx hb dX8_seamsBySearch_32 rfl (lv_at hl 0 rfl) ?_
  cases hf
  subst hQ
  exact rt_i hx hb hrt hlk rfl hK hP hD hS (Nat.le_of_ble_eq_true rfl) (Nat.le_of_ble_eq_true rfl) dX8_seamsBySearch_33
def f_X8_relabel_J25 (sv : SV) (x1 : Int32) (x2 : Int32) (x3 : Int32) : Option (Sum (Int32 × SV) (Int32 × SV)) :=
  some (.inl ((x3 + 1), sv))
def f_X8_relabel_L2 (x1 : Int32) (x2 : Int32) (x3 : Int32) (sv : SV) : Option (Sum (Int32 × SV) (Int32 × SV)) :=
  if 30 ≤ x3 then
  (some (.inr (x3, sv)))
  else
  (if jIn x3 30 then
  if ((sLabels sv) x3.toNatClampNeg) = x1 then
  (if jIn x3 30 then
  jbN (sSLabels (upd (sLabels sv) x3.toNatClampNeg x2) sv) fun w3 =>
  f_X8_relabel_J25 w3 x1 x2 x3
  else none)
  else
  (f_X8_relabel_J25 sv x1 x2 x3)
  else none)
def f_X8_relabel (sv : SV) (a0 : Int32) (a1 : Int32) : Option SV :=
  (jbL (fun s => f_X8_relabel_L2 a0 a1 (s.1) (s.2)) 5000 (0, sv)).bind fun o2 =>
  some (o2.2)
def rm_X8_relabel : Room := { frames := 0, cells := 0, slots := 0, locals := 0 }
theorem hd_X8_relabel : yX8_relabel.cls = RX8 ∧ yX8_relabel.cls ≠ "java/lang/invoke/MethodHandle" ∧ yX8_relabel.cls ≠ "java/lang/invoke/VarHandle" ∧ (parseMethodDescriptor yX8_relabel.desc).map (fun d => d.parameters.length) = some 2 := by decide +kernel
set_option maxHeartbeats 4000000 in
set_option maxRecDepth 100000 in
theorem c_X8_relabel (l : Launch) (g : GG) (hs : Nat → Nat) (sv : SV)  (a0 : Int32) (a1 : Int32) (out : SV) (hf : f_X8_relabel sv a0 a1 = some out) : MtV l yX8_relabel wsX8_relabel rm_X8_relabel g (wS g hs sv) [.ref (hs 0), .int a0, .int a1]  (wS g hs out) 0 0 := by
  refine fun sz => mt_of (cc := cX8_relabel) (maxL := 4) (ret := none) (own := RX8) (Qc := fun A => va_Qv (fun (_ : Unit) => True) (fun _ t => PosM g A (wS g hs out) t) A) (by decide +kernel) rfl rfl (Nat.le_of_ble_eq_true rfl) ?_ sz
  intro p e s mi below meth c A ls hB hnm hrt hlk hP hD hl
  obtain ⟨hx, hb, hml, hown, hts, hK, hZ, hT, hA, -⟩ := hB
  have hS : va_S A s.heap s.heap [] := va_S.rf
  have hl : lv_has ls 4 [(0, .ref (hs 0)), (1, .int a0), (2, .int a1)] := hl
  have hinX8 : ∀ w ∈ wsX80, w ∈ wsX8_relabel := by decide +kernel
  have k0 := hts (.fieldLink RX8 20 "TerraceQuarry$Survey" "labels" "[I") (by decide +kernel)
  generalize hQ : MQ below _ _ _ _ _ _ = Q
  unfold f_X8_relabel at hf
  have hL2 : ∀ (x1 : Int32) (x2 : Int32) (n : Nat) (x3 : Int32) (sv : SV) (H : Heap) (locs : List Loc) (ls : Array Slot) (o2 : Int32 × SV), jbL (fun s => f_X8_relabel_L2 x1 x2 (s.1) (s.2)) n (x3, sv) = some o2 → va_P (gD g) vwCl (wS g hs sv) H → va_D A (wS g hs sv) → va_S A s.heap H locs → lv_has ls 4 [(0, .ref (hs 0)), (1, .int x1), (2, .int x2), (3, .int x3)] → (∀ (H : Heap) (locs : List Loc) (ls : Array Slot), va_P (gD g) vwCl (wS g hs (o2.2)) H → va_D A (wS g hs (o2.2)) → va_S A s.heap H locs → lv_has ls 4 [] → W p l e rm_X8_relabel s mi [.ref (hs 0), .int a0, .int a1].toArray below meth c H locs 0 0 Q (F0 mi 31 ls [])) → W p l e rm_X8_relabel s mi [.ref (hs 0), .int a0, .int a1].toArray below meth c H locs 0 0 Q (F0 mi 2 ls []) := by
    intro x1 x2 n
    induction n with
    | zero => intro x3 sv H locs ls o2 hf; exact absurd hf (jbL_0 _ _ _)
    | succ n ih =>
      intro x3 sv H locs ls o2 hf hP hD hS hl hk
      obtain ⟨r, hf, hr⟩ := jbL_e hf
      have hf : f_X8_relabel_L2 x1 x2 x3 sv = some r := hf
      unfold f_X8_relabel_L2 at hf
      have hJ25 : ∀ (sv : SV) (x3 : Int32) (H : Heap) (locs : List Loc) (ls : Array Slot) (r : Sum (Int32 × SV) (Int32 × SV)), f_X8_relabel_J25 sv x1 x2 x3 = some r → jbR (fun s => f_X8_relabel_L2 x1 x2 (s.1) (s.2)) n o2 r → va_P (gD g) vwCl (wS g hs sv) H → va_D A (wS g hs sv) → va_S A s.heap H locs → lv_has ls 4 [(0, .ref (hs 0)), (1, .int x1), (2, .int x2), (3, .int x3)] → W p l e rm_X8_relabel s mi [.ref (hs 0), .int a0, .int a1].toArray below meth c H locs 0 0 Q (F0 mi 25 ls []) := by
        intro sv x3 H locs ls r hf hr hP hD hS hl
        unfold f_X8_relabel_J25 at hf
        refine lv_iinc (v := (x3 + 1)) (lv' := [(3, .int (x3 + 1)), (0, .ref (hs 0)), (1, .int x1), (2, .int x2)]) hx hb dX8_relabel_25 hl (k := 3) rfl rfl (by decide) rfl (fun ls hl => ?_)
        refine lv_goto (tgt := 2) hx hb dX8_relabel_28 (by decide) ?_
        cases hf
        exact ih (x3 + 1) sv _ _ _ _ hr hP hD hS (lv_sub hl [1, 2, 3, 0] rfl) hk
      refine lv_iload_n hx hb dX8_relabel_2 rfl (lv_at hl 3 rfl) ?_
      refine lv_bipush (v := 30) hx hb dX8_relabel_3 (by decide) ?_
      refine lv_icmp_ge (tgt := 31) hx hb dX8_relabel_5 (by decide) (fun hc => ?_) (fun hc => ?_)
      · have hf := jbT hf hc
        cases hf
        obtain rfl := jbR_r hr
        exact hk _ _ _ hP hD hS (lv_sub hl [] rfl)
      · have hf := jbF hf hc
        refine lv_aload_n hx hb dX8_relabel_8 rfl (lv_at hl 0 rfl) ?_
        refine va_get (D := gD g) (ci := 8) (v := .ref (hs 3)) (C := RX8) (T := TX8) (N := 5) hx hb hts hinX8 hown hK hP 0 rfl rfl 2 (by decide) k0 (fun _ h9 => h9) rfl dX8_relabel_9 ?_
        refine lv_iload_n hx hb dX8_relabel_12 rfl (lv_at hl 3 rfl) ?_
        obtain ⟨h1, hf⟩ := jbA_e hf
        refine va_iald hx hb hK hP 3 0 rfl rfl h1 dX8_relabel_13 ?_
        refine lv_iload_n hx hb dX8_relabel_14 rfl (lv_at hl 1 rfl) ?_
        refine lv_icmp_ne (tgt := 25) hx hb dX8_relabel_15 (by decide) (fun hc => ?_) (fun hc => ?_)
        · have hf := jbF hf hc
          exact hJ25 sv x3 _ _ _ _ hf hr hP hD hS (lv_sub hl [0, 1, 2, 3] rfl)
        · have hf := jbT hf hc
          refine lv_aload_n hx hb dX8_relabel_18 rfl (lv_at hl 0 rfl) ?_
          refine va_get (D := gD g) (ci := 8) (v := .ref (hs 3)) (C := RX8) (T := TX8) (N := 5) hx hb hts hinX8 hown hK hP 0 rfl rfl 2 (by decide) k0 (fun _ h9 => h9) rfl dX8_relabel_19 ?_
          refine lv_iload_n hx hb dX8_relabel_22 rfl (lv_at hl 3 rfl) ?_
          refine lv_iload_n hx hb dX8_relabel_23 rfl (lv_at hl 2 rfl) ?_
          obtain ⟨h2, hf⟩ := jbA_e hf
          refine va_iast hx hb hK hP hD hS 3 0 rfl rfl h2 dX8_relabel_24 (fun H locs hP hD hS => ?_)
          obtain ⟨w3, ew3⟩ : ∃ y, y = (sSLabels (upd (sLabels sv) x3.toNatClampNeg x2) sv) := ⟨_, rfl⟩
          have hf := jbN_e hf ew3
          have hP : va_P (gD g) vwCl (wS g hs w3) H := by rw [ew3]; exact hP
          have hD : va_D A (wS g hs w3) := by rw [ew3]; exact hD
          exact hJ25 w3 x3 _ _ _ _ hf hr hP hD hS (lv_sub hl [0, 1, 2, 3] rfl)
  refine lv_iconst (v := 0) hx hb dX8_relabel_0 (by decide) ?_
  refine lv_istore_n (lv' := [(3, .int 0), (0, .ref (hs 0)), (1, .int a0), (2, .int a1)]) hx hb dX8_relabel_1 rfl hl (by decide) rfl (fun ls hl => ?_)
  obtain ⟨o2, hg, hf⟩ := jbB_e hf
  refine hL2 a0 a1 _ 0 sv _ _ _ _ hg hP hD hS (lv_sub hl [1, 2, 3, 0] rfl) (fun H locs ls hP hD hS hl => ?_)
  cases hf
  subst hQ
  exact rt_v hx hb hrt hlk hK hP hD hS (Nat.le_of_ble_eq_true rfl) (Nat.le_of_ble_eq_true rfl) dX8_relabel_31
def f_X8_seamsByMerging_J101 (sv : SV) (qv : QV) (x2 : Int32) (x3 : Int32) (x4 : Int32) : Option (Sum (Int32 × Int32 × SV) (Int32 × Int32 × SV)) :=
  some (.inl (x2, (x4 + 1), sv))
def f_X8_seamsByMerging_L41 (qv : QV) (x3 : Int32) (x2 : Int32) (x4 : Int32) (sv : SV) : Option (Sum (Int32 × Int32 × SV) (Int32 × Int32 × SV)) :=
  if 4 ≤ x4 then
  (some (.inr (x2, x4, sv)))
  else
  ((f_X3_neighbour x3 x4).bind fun o6 =>
  (f_X8_continuesSeam qv x3 o6).bind fun o8 =>
  if o8 = 0 then
  (f_X8_seamsByMerging_J101 sv qv x2 x3 x4)
  else
  (if jIn x3 30 then
  if jIn o6 30 then
  if ((sLabels sv) x3.toNatClampNeg) = ((sLabels sv) o6.toNatClampNeg) then
  (f_X8_seamsByMerging_J101 sv qv x2 x3 x4)
  else
  (if jIn o6 30 then
  if jIn x3 30 then
  (f_X8_relabel sv ((sLabels sv) o6.toNatClampNeg) ((sLabels sv) x3.toNatClampNeg)).bind fun o14 =>
  f_X8_seamsByMerging_J101 o14 qv (x2 + (-1)) x3 x4
  else none
  else none)
  else none
  else none))
def f_X8_seamsByMerging_L32 (qv : QV) (x2 : Int32) (x3 : Int32) (sv : SV) : Option (Sum (Int32 × Int32 × SV) (Int32 × Int32 × SV)) :=
  if 30 ≤ x3 then
  (some (.inr (x2, x3, sv)))
  else
  ((jbL (fun s => f_X8_seamsByMerging_L41 qv x3 (s.1) (s.2.1) (s.2.2)) 5000 (x2, 0, sv)).bind fun o41 =>
  some (.inl ((o41.1), (x3 + 1), (o41.2.2))))
def f_X8_seamsByMerging_L2 (qv : QV) (x2 : Int32) (sv : SV) : Option (Sum (Int32 × SV) (Int32 × SV)) :=
  if 30 ≤ x2 then
  (some (.inr (x2, sv)))
  else
  (if jIn x2 30 then
  jbN (sSLabels (upd (sLabels sv) x2.toNatClampNeg x2) sv) fun w5 =>
  some (.inl ((x2 + 1), w5))
  else none)
def f_X8_seamsByMerging (sv : SV) (qv : QV) : Option (Int32 × SV) :=
  (jbL (fun s => f_X8_seamsByMerging_L2 qv (s.1) (s.2)) 5000 (0, sv)).bind fun o2 =>
  (f_X7_countAt qv 0).bind fun o1 =>
  jbN (30 - o1) fun z3 =>
  (jbL (fun s => f_X8_seamsByMerging_L32 qv (s.1) (s.2.1) (s.2.2)) 5000 (z3, 0, (o2.2))).bind fun o32 =>
  some ((o32.1), (o32.2.2))
def rm_X8_seamsByMerging : Room := { frames := 2, cells := 0, slots := 0, locals := 43 }
theorem hd_X8_seamsByMerging : yX8_seamsByMerging.cls = RX8 ∧ yX8_seamsByMerging.cls ≠ "java/lang/invoke/MethodHandle" ∧ yX8_seamsByMerging.cls ≠ "java/lang/invoke/VarHandle" ∧ (parseMethodDescriptor yX8_seamsByMerging.desc).map (fun d => d.parameters.length) = some 1 := by decide +kernel
set_option maxHeartbeats 4000000 in
set_option maxRecDepth 100000 in
theorem c_X8_seamsByMerging (l : Launch) (g : GG) (hs : Nat → Nat) (sv : SV) (hq : Nat → Nat) (qv : QV)   (out : Int32 × SV) (hf : f_X8_seamsByMerging sv qv = some out) : MtI l yX8_seamsByMerging wsX8_seamsByMerging rm_X8_seamsByMerging g (wS g hs sv ++ wQ g hq qv) [.ref (hs 0), .ref (hq 0)] (out.1) (wS g hs (out.2) ++ wQ g hq qv) 0 0 := by
  refine fun sz => mt_of (cc := cX8_seamsByMerging) (maxL := 6) (ret := (some .int)) (own := RX8) (Qc := fun A => va_Qi (fun r (_ : Unit) => r = (out.1)) (fun _ t => PosM g A (wS g hs (out.2) ++ wQ g hq qv) t) A) (by decide +kernel) rfl rfl (Nat.le_of_ble_eq_true rfl) ?_ sz
  intro p e s mi below meth c A ls hB hnm hrt hlk hP hD hl
  obtain ⟨hx, hb, hml, hown, hts, hK, hZ, hT, hA, -⟩ := hB
  have hS : va_S A s.heap s.heap [] := va_S.rf
  have hl : lv_has ls 6 [(0, .ref (hs 0)), (1, .ref (hq 0))] := hl
  have hinX8 : ∀ w ∈ wsX80, w ∈ wsX8_seamsByMerging := by decide +kernel
  have k0 := hts (.fieldLink RX8 20 "TerraceQuarry$Survey" "labels" "[I") (by decide +kernel)
  generalize hQ : MQ below _ _ _ _ _ _ = Q
  unfold f_X8_seamsByMerging at hf
  have hL32 : ∀ (n : Nat) (x2 : Int32) (x3 : Int32) (sv : SV) (H : Heap) (locs : List Loc) (ls : Array Slot) (o32 : Int32 × Int32 × SV), jbL (fun s => f_X8_seamsByMerging_L32 qv (s.1) (s.2.1) (s.2.2)) n (x2, x3, sv) = some o32 → va_P (gD g) vwCl (wS g hs sv ++ wQ g hq qv) H → va_D A (wS g hs sv ++ wQ g hq qv) → va_S A s.heap H locs → lv_has ls 6 [(0, .ref (hs 0)), (1, .ref (hq 0)), (2, .int x2), (3, .int x3)] → (∀ (H : Heap) (locs : List Loc) (ls : Array Slot), va_P (gD g) vwCl (wS g hs (o32.2.2) ++ wQ g hq qv) H → va_D A (wS g hs (o32.2.2) ++ wQ g hq qv) → va_S A s.heap H locs → lv_has ls 6 [(2, .int (o32.1))] → W p l e rm_X8_seamsByMerging s mi [.ref (hs 0), .ref (hq 0)].toArray below meth c H locs 0 0 Q (F0 mi 113 ls [])) → W p l e rm_X8_seamsByMerging s mi [.ref (hs 0), .ref (hq 0)].toArray below meth c H locs 0 0 Q (F0 mi 32 ls []) := by
    intro n
    induction n with
    | zero => intro x2 x3 sv H locs ls o32 hf; exact absurd hf (jbL_0 _ _ _)
    | succ n ih =>
      intro x2 x3 sv H locs ls o32 hf hP hD hS hl hk
      obtain ⟨r, hf, hr⟩ := jbL_e hf
      have hf : f_X8_seamsByMerging_L32 qv x2 x3 sv = some r := hf
      unfold f_X8_seamsByMerging_L32 at hf
      have hL41 : ∀ (x3 : Int32) (n : Nat) (x2 : Int32) (x4 : Int32) (sv : SV) (H : Heap) (locs : List Loc) (ls : Array Slot) (o41 : Int32 × Int32 × SV), jbL (fun s => f_X8_seamsByMerging_L41 qv x3 (s.1) (s.2.1) (s.2.2)) n (x2, x4, sv) = some o41 → va_P (gD g) vwCl (wS g hs sv ++ wQ g hq qv) H → va_D A (wS g hs sv ++ wQ g hq qv) → va_S A s.heap H locs → lv_has ls 6 [(0, .ref (hs 0)), (1, .ref (hq 0)), (2, .int x2), (3, .int x3), (4, .int x4)] → (∀ (H : Heap) (locs : List Loc) (ls : Array Slot), va_P (gD g) vwCl (wS g hs (o41.2.2) ++ wQ g hq qv) H → va_D A (wS g hs (o41.2.2) ++ wQ g hq qv) → va_S A s.heap H locs → lv_has ls 6 [(0, .ref (hs 0)), (1, .ref (hq 0)), (2, .int (o41.1)), (3, .int x3)] → W p l e rm_X8_seamsByMerging s mi [.ref (hs 0), .ref (hq 0)].toArray below meth c H locs 0 0 Q (F0 mi 107 ls [])) → W p l e rm_X8_seamsByMerging s mi [.ref (hs 0), .ref (hq 0)].toArray below meth c H locs 0 0 Q (F0 mi 41 ls []) := by
        intro x3 n
        induction n with
        | zero => intro x2 x4 sv H locs ls o41 hf; exact absurd hf (jbL_0 _ _ _)
        | succ n ih =>
          intro x2 x4 sv H locs ls o41 hf hP hD hS hl hk
          obtain ⟨r, hf, hr⟩ := jbL_e hf
          have hf : f_X8_seamsByMerging_L41 qv x3 x2 x4 sv = some r := hf
          unfold f_X8_seamsByMerging_L41 at hf
          have hJ101 : ∀ (sv : SV) (x2 : Int32) (x4 : Int32) (H : Heap) (locs : List Loc) (ls : Array Slot) (r : Sum (Int32 × Int32 × SV) (Int32 × Int32 × SV)), f_X8_seamsByMerging_J101 sv qv x2 x3 x4 = some r → jbR (fun s => f_X8_seamsByMerging_L41 qv x3 (s.1) (s.2.1) (s.2.2)) n o41 r → va_P (gD g) vwCl (wS g hs sv ++ wQ g hq qv) H → va_D A (wS g hs sv ++ wQ g hq qv) → va_S A s.heap H locs → lv_has ls 6 [(0, .ref (hs 0)), (1, .ref (hq 0)), (2, .int x2), (3, .int x3), (4, .int x4)] → W p l e rm_X8_seamsByMerging s mi [.ref (hs 0), .ref (hq 0)].toArray below meth c H locs 0 0 Q (F0 mi 101 ls []) := by
            intro sv x2 x4 H locs ls r hf hr hP hD hS hl
            unfold f_X8_seamsByMerging_J101 at hf
            refine lv_iinc (v := (x4 + 1)) (lv' := [(4, .int (x4 + 1)), (0, .ref (hs 0)), (1, .ref (hq 0)), (2, .int x2), (3, .int x3)]) hx hb dX8_seamsByMerging_101 hl (k := 4) rfl rfl (by decide) rfl (fun ls hl => ?_)
            refine lv_goto (tgt := 41) hx hb dX8_seamsByMerging_104 (by decide) ?_
            cases hf
            exact ih x2 (x4 + 1) sv _ _ _ _ hr hP hD hS (lv_sub hl [1, 2, 3, 4, 0] rfl) hk
          refine lv_iload hx hb dX8_seamsByMerging_41 (lv_at hl 4 rfl) ?_
          refine lv_iconst (v := 4) hx hb dX8_seamsByMerging_43 (by decide) ?_
          refine lv_icmp_ge (tgt := 107) hx hb dX8_seamsByMerging_44 (by decide) (fun hc => ?_) (fun hc => ?_)
          · have hf := jbT hf hc
            cases hf
            obtain rfl := jbR_r hr
            exact hk _ _ _ hP hD hS (lv_sub hl [0, 1, 2, 3] rfl)
          · have hf := jbF hf hc
            refine lv_iload_n hx hb dX8_seamsByMerging_47 rfl (lv_at hl 3 rfl) ?_
            refine lv_iload hx hb dX8_seamsByMerging_48 (lv_at hl 4 rfl) ?_
            obtain ⟨o6, g7, hf⟩ := jbB_e hf
            refine csn_i (As := [.int x3, .int x4]) (rest := []) ⟨hx, hb, hml, hown, hts⟩ (c_X3_neighbour l g x3 x4 _ g7) (va_cwS 2 hts gX8_seamsByMerging_X3_neighbour rfl rfl rfl hd_X3_neighbour ⟨Nat.le_of_ble_eq_true rfl, Nat.le_of_ble_eq_true rfl⟩) hK hZ hT hA hP hD hS hl.1 rfl rfl (Nat.le_of_ble_eq_true rfl) ⟨Nat.le_of_ble_eq_true rfl, Nat.le_of_ble_eq_true rfl⟩ dX8_seamsByMerging_50 (fun H locs hP hD hS => ?_)
            refine lv_istore (lv' := [(5, .int o6), (0, .ref (hs 0)), (1, .ref (hq 0)), (2, .int x2), (3, .int x3), (4, .int x4)]) hx hb dX8_seamsByMerging_53 hl (by decide) rfl (fun ls hl => ?_)
            refine lv_aload_n hx hb dX8_seamsByMerging_55 rfl (lv_at hl 2 rfl) ?_
            refine lv_iload_n hx hb dX8_seamsByMerging_56 rfl (lv_at hl 4 rfl) ?_
            refine lv_iload hx hb dX8_seamsByMerging_57 (lv_at hl 0 rfl) ?_
            obtain ⟨o8, g9, hf⟩ := jbB_e hf
            refine cs_i (As := [.ref (hq 0), .int x3, .int o6]) (rest := []) (Wr := [0, 1, 2, 3, 4, 5].filterMap (fun i => ((wS g hs sv ++ wQ g hq qv))[i]?)) ⟨hx, hb, hml, hown, hts⟩ (c_X8_continuesSeam l g hq qv x3 o6 _ g9) (va_cwS 3 hts gX8_seamsByMerging_X8_continuesSeam rfl rfl rfl hd_X8_continuesSeam ⟨Nat.le_of_ble_eq_true rfl, Nat.le_of_ble_eq_true rfl⟩) hK hZ hT hA hP hD hS hl.1 [6, 7, 8, 9, 10, 11, 12, 13, 14, 15] [0, 1, 2, 3, 4, 5] rfl rfl rfl rfl rfl rfl rfl (Nat.le_of_ble_eq_true rfl) ⟨Nat.le_of_ble_eq_true rfl, Nat.le_of_ble_eq_true rfl⟩ dX8_seamsByMerging_59 (fun H locs hP hD hS => ?_)
            have hP : va_P (gD g) vwCl (wS g hs sv ++ wQ g hq qv) H := hP.sub [0, 1, 2, 3, 4, 5, 6, 7, 8, 9, 10, 11, 12, 13, 14, 15] rfl
            have hD : va_D A (wS g hs sv ++ wQ g hq qv) := hD.sub [0, 1, 2, 3, 4, 5, 6, 7, 8, 9, 10, 11, 12, 13, 14, 15] rfl rfl
            refine lv_if_eq (tgt := 101) hx hb dX8_seamsByMerging_62 (by decide) (fun hc => ?_) (fun hc => ?_)
            · have hf := jbT hf hc
              exact hJ101 sv x2 x4 _ _ _ _ hf hr hP hD hS (lv_sub hl [1, 2, 3, 4, 5] rfl)
            · have hf := jbF hf hc
              refine lv_aload_n hx hb dX8_seamsByMerging_65 rfl (lv_at hl 1 rfl) ?_
              refine va_get (D := gD g) (ci := 8) (v := .ref (hs 3)) (C := RX8) (T := TX8) (N := 5) hx hb hts hinX8 hown hK hP 0 rfl rfl 2 (by decide) k0 (fun _ h9 => h9) rfl dX8_seamsByMerging_66 ?_
              refine lv_iload_n hx hb dX8_seamsByMerging_69 rfl (lv_at hl 4 rfl) ?_
              obtain ⟨h10, hf⟩ := jbA_e hf
              refine va_iald hx hb hK hP 3 0 rfl rfl h10 dX8_seamsByMerging_70 ?_
              refine lv_aload_n hx hb dX8_seamsByMerging_71 rfl (lv_at hl 1 rfl) ?_
              refine va_get (D := gD g) (ci := 8) (v := .ref (hs 3)) (C := RX8) (T := TX8) (N := 5) hx hb hts hinX8 hown hK hP 0 rfl rfl 2 (by decide) k0 (fun _ h9 => h9) rfl dX8_seamsByMerging_72 ?_
              refine lv_iload hx hb dX8_seamsByMerging_75 (lv_at hl 0 rfl) ?_
              obtain ⟨h11, hf⟩ := jbA_e hf
              refine va_iald hx hb hK hP 3 0 rfl rfl h11 dX8_seamsByMerging_77 ?_
              refine lv_icmp_eq (tgt := 101) hx hb dX8_seamsByMerging_78 (by decide) (fun hc => ?_) (fun hc => ?_)
              · have hf := jbT hf hc
                exact hJ101 sv x2 x4 _ _ _ _ hf hr hP hD hS (lv_sub hl [1, 2, 3, 4, 5] rfl)
              · have hf := jbF hf hc
                refine lv_aload_n hx hb dX8_seamsByMerging_81 rfl (lv_at hl 1 rfl) ?_
                refine lv_aload_n hx hb dX8_seamsByMerging_82 rfl (lv_at hl 1 rfl) ?_
                refine va_get (D := gD g) (ci := 8) (v := .ref (hs 3)) (C := RX8) (T := TX8) (N := 5) hx hb hts hinX8 hown hK hP 0 rfl rfl 2 (by decide) k0 (fun _ h9 => h9) rfl dX8_seamsByMerging_83 ?_
                refine lv_iload hx hb dX8_seamsByMerging_86 (lv_at hl 0 rfl) ?_
                obtain ⟨h12, hf⟩ := jbA_e hf
                refine va_iald hx hb hK hP 3 0 rfl rfl h12 dX8_seamsByMerging_88 ?_
                refine lv_aload_n hx hb dX8_seamsByMerging_89 rfl (lv_at hl 1 rfl) ?_
                refine va_get (D := gD g) (ci := 8) (v := .ref (hs 3)) (C := RX8) (T := TX8) (N := 5) hx hb hts hinX8 hown hK hP 0 rfl rfl 2 (by decide) k0 (fun _ h9 => h9) rfl dX8_seamsByMerging_90 ?_
                refine lv_iload_n hx hb dX8_seamsByMerging_93 rfl (lv_at hl 4 rfl) ?_
                obtain ⟨h13, hf⟩ := jbA_e hf
                refine va_iald hx hb hK hP 3 0 rfl rfl h13 dX8_seamsByMerging_94 ?_
                obtain ⟨o14, g15, hf⟩ := jbB_e hf
                refine cv_v (As := [.int ((sLabels sv) o6.toNatClampNeg), .int ((sLabels sv) x3.toNatClampNeg)]) (rest := []) (Wr := [6, 7, 8, 9, 10, 11, 12, 13, 14, 15].filterMap (fun i => ((wS g hs sv ++ wQ g hq qv))[i]?)) ⟨hx, hb, hml, hown, hts⟩ (c_X8_relabel l g hs sv ((sLabels sv) o6.toNatClampNeg) ((sLabels sv) x3.toNatClampNeg) _ g15) (cwV 2 hts gX8_seamsByMerging_X8_relabel rfl rfl rfl hd_X8_relabel ⟨Nat.le_of_ble_eq_true rfl, Nat.le_of_ble_eq_true rfl⟩) hK hZ hT hA hP hD hS hl.1 (va_recv hK hP (ci := 8) (q0 := 0) rfl rfl) [0, 1, 2, 3, 4, 5] [6, 7, 8, 9, 10, 11, 12, 13, 14, 15] rfl rfl rfl rfl rfl rfl rfl (Nat.le_of_ble_eq_true rfl) ⟨Nat.le_of_ble_eq_true rfl, Nat.le_of_ble_eq_true rfl⟩ dX8_seamsByMerging_95 (fun H locs hP hD hS => ?_)
                have hP : va_P (gD g) vwCl (wS g hs o14 ++ wQ g hq qv) H := hP.sub [10, 11, 12, 13, 14, 15, 0, 1, 2, 3, 4, 5, 6, 7, 8, 9] rfl
                have hD : va_D A (wS g hs o14 ++ wQ g hq qv) := hD.sub [10, 11, 12, 13, 14, 15, 0, 1, 2, 3, 4, 5, 6, 7, 8, 9] rfl rfl
                refine lv_iinc (v := (x2 + (-1))) (lv' := [(2, .int (x2 + (-1))), (5, .int o6), (0, .ref (hs 0)), (1, .ref (hq 0)), (3, .int x3), (4, .int x4)]) hx hb dX8_seamsByMerging_98 hl (k := 3) rfl rfl (by decide) rfl (fun ls hl => ?_)
                exact hJ101 o14 (x2 + (-1)) x4 _ _ _ _ hf hr hP hD hS (lv_sub hl [2, 3, 0, 4, 5] rfl)
      refine lv_iload_n hx hb dX8_seamsByMerging_32 rfl (lv_at hl 3 rfl) ?_
      refine lv_bipush (v := 30) hx hb dX8_seamsByMerging_33 (by decide) ?_
      refine lv_icmp_ge (tgt := 113) hx hb dX8_seamsByMerging_35 (by decide) (fun hc => ?_) (fun hc => ?_)
      · have hf := jbT hf hc
        cases hf
        obtain rfl := jbR_r hr
        exact hk _ _ _ hP hD hS (lv_sub hl [2] rfl)
      · have hf := jbF hf hc
        refine lv_iconst (v := 0) hx hb dX8_seamsByMerging_38 (by decide) ?_
        refine lv_istore (lv' := [(4, .int 0), (0, .ref (hs 0)), (1, .ref (hq 0)), (2, .int x2), (3, .int x3)]) hx hb dX8_seamsByMerging_39 hl (by decide) rfl (fun ls hl => ?_)
        obtain ⟨o41, hg, hf⟩ := jbB_e hf
        refine hL41 x3 _ x2 0 sv _ _ _ _ hg hP hD hS (lv_sub hl [1, 2, 3, 4, 0] rfl) (fun H locs ls hP hD hS hl => ?_)
        refine lv_iinc (v := (x3 + 1)) (lv' := [(3, .int (x3 + 1)), (0, .ref (hs 0)), (1, .ref (hq 0)), (2, .int (o41.1))]) hx hb dX8_seamsByMerging_107 hl (k := 3) rfl rfl (by decide) rfl (fun ls hl => ?_)
        refine lv_goto (tgt := 32) hx hb dX8_seamsByMerging_110 (by decide) ?_
        cases hf
        exact ih (o41.1) (x3 + 1) (o41.2.2) _ _ _ _ hr hP hD hS (lv_sub hl [1, 2, 3, 0] rfl) hk
  have hL2 : ∀ (n : Nat) (x2 : Int32) (sv : SV) (H : Heap) (locs : List Loc) (ls : Array Slot) (o2 : Int32 × SV), jbL (fun s => f_X8_seamsByMerging_L2 qv (s.1) (s.2)) n (x2, sv) = some o2 → va_P (gD g) vwCl (wS g hs sv ++ wQ g hq qv) H → va_D A (wS g hs sv ++ wQ g hq qv) → va_S A s.heap H locs → lv_has ls 6 [(0, .ref (hs 0)), (1, .ref (hq 0)), (2, .int x2)] → (∀ (H : Heap) (locs : List Loc) (ls : Array Slot), va_P (gD g) vwCl (wS g hs (o2.2) ++ wQ g hq qv) H → va_D A (wS g hs (o2.2) ++ wQ g hq qv) → va_S A s.heap H locs → lv_has ls 6 [(0, .ref (hs 0)), (1, .ref (hq 0))] → W p l e rm_X8_seamsByMerging s mi [.ref (hs 0), .ref (hq 0)].toArray below meth c H locs 0 0 Q (F0 mi 21 ls [])) → W p l e rm_X8_seamsByMerging s mi [.ref (hs 0), .ref (hq 0)].toArray below meth c H locs 0 0 Q (F0 mi 2 ls []) := by
    intro n
    induction n with
    | zero => intro x2 sv H locs ls o2 hf; exact absurd hf (jbL_0 _ _ _)
    | succ n ih =>
      intro x2 sv H locs ls o2 hf hP hD hS hl hk
      obtain ⟨r, hf, hr⟩ := jbL_e hf
      have hf : f_X8_seamsByMerging_L2 qv x2 sv = some r := hf
      unfold f_X8_seamsByMerging_L2 at hf
      refine lv_iload_n hx hb dX8_seamsByMerging_2 rfl (lv_at hl 2 rfl) ?_
      refine lv_bipush (v := 30) hx hb dX8_seamsByMerging_3 (by decide) ?_
      refine lv_icmp_ge (tgt := 21) hx hb dX8_seamsByMerging_5 (by decide) (fun hc => ?_) (fun hc => ?_)
      · have hf := jbT hf hc
        cases hf
        obtain rfl := jbR_r hr
        exact hk _ _ _ hP hD hS (lv_sub hl [0, 1] rfl)
      · have hf := jbF hf hc
        refine lv_aload_n hx hb dX8_seamsByMerging_8 rfl (lv_at hl 0 rfl) ?_
        refine va_get (D := gD g) (ci := 8) (v := .ref (hs 3)) (C := RX8) (T := TX8) (N := 5) hx hb hts hinX8 hown hK hP 0 rfl rfl 2 (by decide) k0 (fun _ h9 => h9) rfl dX8_seamsByMerging_9 ?_
        refine lv_iload_n hx hb dX8_seamsByMerging_12 rfl (lv_at hl 2 rfl) ?_
        refine lv_iload_n hx hb dX8_seamsByMerging_13 rfl (lv_at hl 2 rfl) ?_
        obtain ⟨h4, hf⟩ := jbA_e hf
        refine va_iast hx hb hK hP hD hS 3 0 rfl rfl h4 dX8_seamsByMerging_14 (fun H locs hP hD hS => ?_)
        obtain ⟨w5, ew5⟩ : ∃ y, y = (sSLabels (upd (sLabels sv) x2.toNatClampNeg x2) sv) := ⟨_, rfl⟩
        have hf := jbN_e hf ew5
        have hP : va_P (gD g) vwCl (wS g hs w5 ++ wQ g hq qv) H := by rw [ew5]; exact hP
        have hD : va_D A (wS g hs w5 ++ wQ g hq qv) := by rw [ew5]; exact hD
        refine lv_iinc (v := (x2 + 1)) (lv' := [(2, .int (x2 + 1)), (0, .ref (hs 0)), (1, .ref (hq 0))]) hx hb dX8_seamsByMerging_15 hl (k := 2) rfl rfl (by decide) rfl (fun ls hl => ?_)
        refine lv_goto (tgt := 2) hx hb dX8_seamsByMerging_18 (by decide) ?_
        cases hf
        exact ih (x2 + 1) w5 _ _ _ _ hr hP hD hS (lv_sub hl [1, 2, 0] rfl) hk
  refine lv_iconst (v := 0) hx hb dX8_seamsByMerging_0 (by decide) ?_
  refine lv_istore_n (lv' := [(2, .int 0), (0, .ref (hs 0)), (1, .ref (hq 0))]) hx hb dX8_seamsByMerging_1 rfl hl (by decide) rfl (fun ls hl => ?_)
  obtain ⟨o2, hg, hf⟩ := jbB_e hf
  refine hL2 _ 0 sv _ _ _ _ hg hP hD hS (lv_sub hl [1, 2, 0] rfl) (fun H locs ls hP hD hS hl => ?_)
  refine lv_bipush (v := 30) hx hb dX8_seamsByMerging_21 (by decide) ?_
  refine lv_aload_n hx hb dX8_seamsByMerging_23 rfl (lv_at hl 1 rfl) ?_
  refine lv_iconst (v := 0) hx hb dX8_seamsByMerging_24 (by decide) ?_
  obtain ⟨o1, g2, hf⟩ := jbB_e hf
  refine cv_i (As := [.int 0]) (rest := [.int 30]) (Wr := [0, 1, 2, 3, 4, 5].filterMap (fun i => ((wS g hs (o2.2) ++ wQ g hq qv))[i]?)) ⟨hx, hb, hml, hown, hts⟩ (c_X7_countAt l g hq qv 0 _ g2) (cwV 1 hts gX8_seamsByMerging_X7_countAt rfl rfl rfl hd_X7_countAt ⟨Nat.le_of_ble_eq_true rfl, Nat.le_of_ble_eq_true rfl⟩) hK hZ hT hA hP hD hS hl.1 (va_recv hK hP (ci := 7) (q0 := 6) rfl rfl) [6, 7, 8, 9, 10, 11, 12, 13, 14, 15] [0, 1, 2, 3, 4, 5] rfl rfl rfl rfl rfl rfl rfl (Nat.le_of_ble_eq_true rfl) ⟨Nat.le_of_ble_eq_true rfl, Nat.le_of_ble_eq_true rfl⟩ dX8_seamsByMerging_25 (fun H locs hP hD hS => ?_)
  have hP : va_P (gD g) vwCl (wS g hs (o2.2) ++ wQ g hq qv) H := hP.sub [0, 1, 2, 3, 4, 5, 6, 7, 8, 9, 10, 11, 12, 13, 14, 15] rfl
  have hD : va_D A (wS g hs (o2.2) ++ wQ g hq qv) := hD.sub [0, 1, 2, 3, 4, 5, 6, 7, 8, 9, 10, 11, 12, 13, 14, 15] rfl rfl
  refine lv_isub hx hb dX8_seamsByMerging_28 ?_
  refine lv_topi (fun z3 ez3 => ?_)
  have hf := jbN_e hf ez3
  refine lv_istore_n (lv' := [(2, .int z3), (0, .ref (hs 0)), (1, .ref (hq 0))]) hx hb dX8_seamsByMerging_29 rfl hl (by decide) rfl (fun ls hl => ?_)
  refine lv_iconst (v := 0) hx hb dX8_seamsByMerging_30 (by decide) ?_
  refine lv_istore_n (lv' := [(3, .int 0), (2, .int z3), (0, .ref (hs 0)), (1, .ref (hq 0))]) hx hb dX8_seamsByMerging_31 rfl hl (by decide) rfl (fun ls hl => ?_)
  obtain ⟨o32, hg, hf⟩ := jbB_e hf
  refine hL32 _ z3 0 (o2.2) _ _ _ _ hg hP hD hS (lv_sub hl [2, 3, 1, 0] rfl) (fun H locs ls hP hD hS hl => ?_)
  refine lv_iload_n hx hb dX8_seamsByMerging_113 rfl (lv_at hl 0 rfl) ?_
  cases hf
  subst hQ
  exact rt_i hx hb hrt hlk rfl hK hP hD hS (Nat.le_of_ble_eq_true rfl) (Nat.le_of_ble_eq_true rfl) dX8_seamsByMerging_114
def f_X8_canWalk (qv : QV) (a1 : Int32) (a2 : Int32) : Option Int32 :=
  if a2 = (-1) then
  (some 0)
  else
  ((f_X7_hasLedgeAt qv a2).bind fun o1 =>
  if o1 = 0 then
  ((f_X7_heightAt qv a1).bind fun o3 =>
  (f_X7_heightAt qv a2).bind fun o5 =>
  if 1 < (jAbs (o3 - o5)) then
  (some 0)
  else
  (some 1))
  else
  (some 0))
def rm_X8_canWalk : Room := { frames := 1, cells := 0, slots := 0, locals := 25 }
theorem hd_X8_canWalk : yX8_canWalk.cls ≠ "java/lang/invoke/MethodHandle" ∧ yX8_canWalk.cls ≠ "java/lang/invoke/VarHandle" ∧ (parseMethodDescriptor yX8_canWalk.desc).map (fun d => d.parameters.length) = some 3 := by decide +kernel
set_option maxHeartbeats 4000000 in
set_option maxRecDepth 100000 in
theorem c_X8_canWalk (l : Launch) (g : GG) (hq : Nat → Nat) (qv : QV)  (a1 : Int32) (a2 : Int32) (out : Int32) (hf : f_X8_canWalk qv a1 a2 = some out) : MtI l yX8_canWalk wsX8_canWalk rm_X8_canWalk g (wQ g hq qv) [.ref (hq 0), .int a1, .int a2] out (wQ g hq qv) 0 0 := by
  refine fun sz => mt_of (cc := cX8_canWalk) (maxL := 3) (ret := (some .boolean)) (own := RX8) (Qc := fun A => va_Qi (fun r (_ : Unit) => r = out) (fun _ t => PosM g A (wQ g hq qv) t) A) (by decide +kernel) rfl rfl (Nat.le_of_ble_eq_true rfl) ?_ sz
  intro p e s mi below meth c A ls hB hnm hrt hlk hP hD hl
  obtain ⟨hx, hb, hml, hown, hts, hK, hZ, hT, hA, -⟩ := hB
  have hS : va_S A s.heap s.heap [] := va_S.rf
  have hl : lv_has ls 3 [(0, .ref (hq 0)), (1, .int a1), (2, .int a2)] := hl
  have k0 := hts (.methodLink RX8 73 Lib.Math.abs.name) (by decide +kernel)
  have k1 := hts (.static Lib.Math.abs.name) (by decide +kernel)
  have k2 := hts (.initialized "java/lang/Math") (by decide +kernel)
  have k3 := hts (.code Lib.Math.abs.name Lib.Math.abs.code 1 (some .int)) (by decide +kernel)
  generalize hQ : MQ below _ _ _ _ _ _ = Q
  unfold f_X8_canWalk at hf
  refine lv_iload_n hx hb dX8_canWalk_0 rfl (lv_at hl 2 rfl) ?_
  refine lv_iconst (v := (-1)) hx hb dX8_canWalk_1 (by decide) ?_
  refine lv_icmp_eq (tgt := 35) hx hb dX8_canWalk_2 (by decide) (fun hc => ?_) (fun hc => ?_)
  · have hf := jbT hf hc
    refine lv_iconst (v := 0) hx hb dX8_canWalk_35 (by decide) ?_
    cases hf
    subst hQ
    exact rt_i hx hb hrt hlk nar_0 hK hP hD hS (Nat.le_of_ble_eq_true rfl) (Nat.le_of_ble_eq_true rfl) dX8_canWalk_36
  · have hf := jbF hf hc
    refine lv_aload_n hx hb dX8_canWalk_5 rfl (lv_at hl 0 rfl) ?_
    refine lv_iload_n hx hb dX8_canWalk_6 rfl (lv_at hl 2 rfl) ?_
    obtain ⟨o1, g2, hf⟩ := jbB_e hf
    refine cva_i (As := [.int a2]) (rest := []) ⟨hx, hb, hml, hown, hts⟩ (c_X7_hasLedgeAt l g hq qv a2 _ g2) (cwV 1 hts gX8_canWalk_X7_hasLedgeAt rfl rfl rfl hd_X7_hasLedgeAt ⟨Nat.le_of_ble_eq_true rfl, Nat.le_of_ble_eq_true rfl⟩) hK hZ hT hA hP hD hS hl.1 (va_recv hK hP (ci := 7) (q0 := 0) rfl rfl) rfl rfl (Nat.le_of_ble_eq_true rfl) ⟨Nat.le_of_ble_eq_true rfl, Nat.le_of_ble_eq_true rfl⟩ dX8_canWalk_7 (fun H locs hP hD hS => ?_)
    refine lv_if_ne (tgt := 35) hx hb dX8_canWalk_10 (by decide) (fun hc => ?_) (fun hc => ?_)
    · have hf := jbF hf hc
      refine lv_iconst (v := 0) hx hb dX8_canWalk_35 (by decide) ?_
      cases hf
      subst hQ
      exact rt_i hx hb hrt hlk nar_0 hK hP hD hS (Nat.le_of_ble_eq_true rfl) (Nat.le_of_ble_eq_true rfl) dX8_canWalk_36
    · have hf := jbT hf hc
      refine lv_aload_n hx hb dX8_canWalk_13 rfl (lv_at hl 0 rfl) ?_
      refine lv_iload_n hx hb dX8_canWalk_14 rfl (lv_at hl 1 rfl) ?_
      obtain ⟨o3, g4, hf⟩ := jbB_e hf
      refine cva_i (As := [.int a1]) (rest := []) ⟨hx, hb, hml, hown, hts⟩ (c_X7_heightAt l g hq qv a1 _ g4) (cwV 1 hts gX8_canWalk_X7_heightAt rfl rfl rfl hd_X7_heightAt ⟨Nat.le_of_ble_eq_true rfl, Nat.le_of_ble_eq_true rfl⟩) hK hZ hT hA hP hD hS hl.1 (va_recv hK hP (ci := 7) (q0 := 0) rfl rfl) rfl rfl (Nat.le_of_ble_eq_true rfl) ⟨Nat.le_of_ble_eq_true rfl, Nat.le_of_ble_eq_true rfl⟩ dX8_canWalk_15 (fun H locs hP hD hS => ?_)
      refine lv_aload_n hx hb dX8_canWalk_18 rfl (lv_at hl 0 rfl) ?_
      refine lv_iload_n hx hb dX8_canWalk_19 rfl (lv_at hl 2 rfl) ?_
      obtain ⟨o5, g6, hf⟩ := jbB_e hf
      refine cva_i (As := [.int a2]) (rest := [.int o3]) ⟨hx, hb, hml, hown, hts⟩ (c_X7_heightAt l g hq qv a2 _ g6) (cwV 1 hts gX8_canWalk_X7_heightAt rfl rfl rfl hd_X7_heightAt ⟨Nat.le_of_ble_eq_true rfl, Nat.le_of_ble_eq_true rfl⟩) hK hZ hT hA hP hD hS hl.1 (va_recv hK hP (ci := 7) (q0 := 0) rfl rfl) rfl rfl (Nat.le_of_ble_eq_true rfl) ⟨Nat.le_of_ble_eq_true rfl, Nat.le_of_ble_eq_true rfl⟩ dX8_canWalk_20 (fun H locs hP hD hS => ?_)
      refine lv_isub hx hb dX8_canWalk_23 ?_
      refine va_mabs hx hb (hml.trans hl.1.symm) hown k0 k1 k2 k3 (Nat.le_of_ble_eq_true rfl) (Nat.le_of_ble_eq_true rfl) (Nat.le_of_ble_eq_true rfl) (Nat.le_of_ble_eq_true rfl) dX8_canWalk_24 ?_
      refine lv_iconst (v := 1) hx hb dX8_canWalk_27 (by decide) ?_
      refine lv_icmp_gt (tgt := 35) hx hb dX8_canWalk_28 (by decide) (fun hc => ?_) (fun hc => ?_)
      · have hf := jbT hf hc
        refine lv_iconst (v := 0) hx hb dX8_canWalk_35 (by decide) ?_
        cases hf
        subst hQ
        exact rt_i hx hb hrt hlk nar_0 hK hP hD hS (Nat.le_of_ble_eq_true rfl) (Nat.le_of_ble_eq_true rfl) dX8_canWalk_36
      · have hf := jbF hf hc
        refine lv_iconst (v := 1) hx hb dX8_canWalk_31 (by decide) ?_
        refine lv_goto (tgt := 36) hx hb dX8_canWalk_32 (by decide) ?_
        cases hf
        subst hQ
        exact rt_i hx hb hrt hlk nar_1 hK hP hD hS (Nat.le_of_ble_eq_true rfl) (Nat.le_of_ble_eq_true rfl) dX8_canWalk_36
def f_X8_shortestPath_J164 (sv : SV) (qv : QV) (x3 : Int32) (x4 : Int32) (x5 : Int32) (x6 : Int32) : Option (Sum (Int32 × Int32 × SV) (Int32 × Int32 × SV)) :=
  some (.inl (x4, (x6 + 1), sv))
def f_X8_shortestPath_L74 (qv : QV) (x3 : Int32) (x5 : Int32) (x4 : Int32) (x6 : Int32) (sv : SV) : Option (Sum (Int32 × Int32 × SV) (Int32 × Int32 × SV)) :=
  if 4 ≤ x6 then
  (some (.inr (x4, x6, sv)))
  else
  (if jIn x5 271 then
  (f_X3_neighbour ((sQueue sv) x5.toNatClampNeg) x6).bind fun o11 =>
  if jIn x5 271 then
  (f_X8_canWalk qv ((sQueue sv) x5.toNatClampNeg) o11).bind fun o14 =>
  if o14 = 0 then
  (f_X8_shortestPath_J164 sv qv x3 x4 x5 x6)
  else
  (if jIn o11 30 then
  if ((sLengths sv) o11.toNatClampNeg) = (-1) then
  (if 271 ≤ x4 then
  (f_X8_shortestPath_J164 sv qv x3 x4 x5 x6)
  else
  (if jIn x5 271 then
  if jIn ((sQueue sv) x5.toNatClampNeg) 30 then
  if jIn o11 30 then
  jbN (sSLengths (upd (sLengths sv) o11.toNatClampNeg (((sLengths sv) ((sQueue sv) x5.toNatClampNeg).toNatClampNeg) + 1)) sv) fun w20 =>
  if jIn x4 271 then
  jbN (sSQueue (upd (sQueue w20) x4.toNatClampNeg o11) w20) fun w22 =>
  f_X8_shortestPath_J164 w22 qv x3 (x4 + 1) x5 x6
  else none
  else none
  else none
  else none))
  else
  (f_X8_shortestPath_J164 sv qv x3 x4 x5 x6)
  else none)
  else none
  else none)
def f_X8_shortestPath_L54 (qv : QV) (x3 : Int32) (x4 : Int32) (x5 : Int32) (sv : SV) : Option (Sum (Int32 × Int32 × SV) (Int32 × Int32 × SV)) :=
  if x4 ≤ x5 then
  (some (.inr (x4, x5, sv)))
  else
  (if 271 ≤ x5 then
  (some (.inr (x4, x5, sv)))
  else
  ((jbL (fun s => f_X8_shortestPath_L74 qv x3 x5 (s.1) (s.2.1) (s.2.2)) 5000 (x4, 0, sv)).bind fun o74 =>
  some (.inl ((o74.1), (x5 + 1), (o74.2.2)))))
def f_X8_shortestPath_L3 (qv : QV) (x2 : Int32) (x3 : Int32) (x4 : Int32) (sv : SV) : Option (Sum (Int32 × SV) (Int32 × SV)) :=
  if 30 ≤ x4 then
  (some (.inr (x4, sv)))
  else
  (if jIn x4 30 then
  jbN (sSLengths (upd (sLengths sv) x4.toNatClampNeg (-1)) sv) fun w9 =>
  some (.inl ((x4 + 1), w9))
  else none)
def f_X8_shortestPath (sv : SV) (qv : QV) (a1 : Int32) (a2 : Int32) : Option (Int32 × SV) :=
  (jbL (fun s => f_X8_shortestPath_L3 qv a1 a2 (s.1) (s.2)) 5000 (0, sv)).bind fun o3 =>
  (f_X7_hasLedgeAt qv a1).bind fun o1 =>
  if o1 = 0 then
  (if jIn a1 30 then
  jbN (sSLengths (upd (sLengths (o3.2)) a1.toNatClampNeg 0) (o3.2)) fun w4 =>
  if jIn 0 271 then
  jbN (sSQueue (upd (sQueue w4) (0 : Int32).toNatClampNeg a1) w4) fun w6 =>
  (jbL (fun s => f_X8_shortestPath_L54 qv a2 (s.1) (s.2.1) (s.2.2)) 5000 (1, 0, w6)).bind fun o54 =>
  if jIn a2 30 then
  some (((sLengths (o54.2.2)) a2.toNatClampNeg), (o54.2.2))
  else none
  else none
  else none)
  else
  (some ((-1), (o3.2)))
def rm_X8_shortestPath : Room := { frames := 2, cells := 0, slots := 0, locals := 47 }
theorem hd_X8_shortestPath : yX8_shortestPath.cls = RX8 ∧ yX8_shortestPath.cls ≠ "java/lang/invoke/MethodHandle" ∧ yX8_shortestPath.cls ≠ "java/lang/invoke/VarHandle" ∧ (parseMethodDescriptor yX8_shortestPath.desc).map (fun d => d.parameters.length) = some 3 := by decide +kernel
set_option maxHeartbeats 4000000 in
set_option maxRecDepth 100000 in
theorem c_X8_shortestPath (l : Launch) (g : GG) (hs : Nat → Nat) (sv : SV) (hq : Nat → Nat) (qv : QV)  (a1 : Int32) (a2 : Int32) (out : Int32 × SV) (hf : f_X8_shortestPath sv qv a1 a2 = some out) : MtI l yX8_shortestPath wsX8_shortestPath rm_X8_shortestPath g (wS g hs sv ++ wQ g hq qv) [.ref (hs 0), .ref (hq 0), .int a1, .int a2] (out.1) (wS g hs (out.2) ++ wQ g hq qv) 0 0 := by
  refine fun sz => mt_of (cc := cX8_shortestPath) (maxL := 8) (ret := (some .int)) (own := RX8) (Qc := fun A => va_Qi (fun r (_ : Unit) => r = (out.1)) (fun _ t => PosM g A (wS g hs (out.2) ++ wQ g hq qv) t) A) (by decide +kernel) rfl rfl (Nat.le_of_ble_eq_true rfl) ?_ sz
  intro p e s mi below meth c A ls hB hnm hrt hlk hP hD hl
  obtain ⟨hx, hb, hml, hown, hts, hK, hZ, hT, hA, -⟩ := hB
  have hS : va_S A s.heap s.heap [] := va_S.rf
  have hl : lv_has ls 8 [(0, .ref (hs 0)), (1, .ref (hq 0)), (2, .int a1), (3, .int a2)] := hl
  have hinX8 : ∀ w ∈ wsX80, w ∈ wsX8_shortestPath := by decide +kernel
  have k0 := hts (.fieldLink RX8 23 "TerraceQuarry$Survey" "lengths" "[I") (by decide +kernel)
  have k1 := hts (.fieldLink RX8 11 "TerraceQuarry$Survey" "queue" "[I") (by decide +kernel)
  generalize hQ : MQ below _ _ _ _ _ _ = Q
  unfold f_X8_shortestPath at hf
  have hL54 : ∀ (x3 : Int32) (n : Nat) (x4 : Int32) (x5 : Int32) (sv : SV) (H : Heap) (locs : List Loc) (ls : Array Slot) (o54 : Int32 × Int32 × SV), jbL (fun s => f_X8_shortestPath_L54 qv x3 (s.1) (s.2.1) (s.2.2)) n (x4, x5, sv) = some o54 → va_P (gD g) vwCl (wS g hs sv ++ wQ g hq qv) H → va_D A (wS g hs sv ++ wQ g hq qv) → va_S A s.heap H locs → lv_has ls 8 [(0, .ref (hs 0)), (1, .ref (hq 0)), (3, .int x3), (4, .int x4), (5, .int x5)] → (∀ (H : Heap) (locs : List Loc) (ls : Array Slot), va_P (gD g) vwCl (wS g hs (o54.2.2) ++ wQ g hq qv) H → va_D A (wS g hs (o54.2.2) ++ wQ g hq qv) → va_S A s.heap H locs → lv_has ls 8 [(0, .ref (hs 0)), (3, .int x3)] → W p l e rm_X8_shortestPath s mi [.ref (hs 0), .ref (hq 0), .int a1, .int a2].toArray below meth c H locs 0 0 Q (F0 mi 176 ls [])) → W p l e rm_X8_shortestPath s mi [.ref (hs 0), .ref (hq 0), .int a1, .int a2].toArray below meth c H locs 0 0 Q (F0 mi 54 ls []) := by
    intro x3 n
    induction n with
    | zero => intro x4 x5 sv H locs ls o54 hf; exact absurd hf (jbL_0 _ _ _)
    | succ n ih =>
      intro x4 x5 sv H locs ls o54 hf hP hD hS hl hk
      obtain ⟨r, hf, hr⟩ := jbL_e hf
      have hf : f_X8_shortestPath_L54 qv x3 x4 x5 sv = some r := hf
      unfold f_X8_shortestPath_L54 at hf
      have hL74 : ∀ (x3 : Int32) (x5 : Int32) (n : Nat) (x4 : Int32) (x6 : Int32) (sv : SV) (H : Heap) (locs : List Loc) (ls : Array Slot) (o74 : Int32 × Int32 × SV), jbL (fun s => f_X8_shortestPath_L74 qv x3 x5 (s.1) (s.2.1) (s.2.2)) n (x4, x6, sv) = some o74 → va_P (gD g) vwCl (wS g hs sv ++ wQ g hq qv) H → va_D A (wS g hs sv ++ wQ g hq qv) → va_S A s.heap H locs → lv_has ls 8 [(0, .ref (hs 0)), (1, .ref (hq 0)), (3, .int x3), (4, .int x4), (5, .int x5), (6, .int x6)] → (∀ (H : Heap) (locs : List Loc) (ls : Array Slot), va_P (gD g) vwCl (wS g hs (o74.2.2) ++ wQ g hq qv) H → va_D A (wS g hs (o74.2.2) ++ wQ g hq qv) → va_S A s.heap H locs → lv_has ls 8 [(0, .ref (hs 0)), (1, .ref (hq 0)), (3, .int x3), (4, .int (o74.1)), (5, .int x5)] → W p l e rm_X8_shortestPath s mi [.ref (hs 0), .ref (hq 0), .int a1, .int a2].toArray below meth c H locs 0 0 Q (F0 mi 170 ls [])) → W p l e rm_X8_shortestPath s mi [.ref (hs 0), .ref (hq 0), .int a1, .int a2].toArray below meth c H locs 0 0 Q (F0 mi 74 ls []) := by
        intro x3 x5 n
        induction n with
        | zero => intro x4 x6 sv H locs ls o74 hf; exact absurd hf (jbL_0 _ _ _)
        | succ n ih =>
          intro x4 x6 sv H locs ls o74 hf hP hD hS hl hk
          obtain ⟨r, hf, hr⟩ := jbL_e hf
          have hf : f_X8_shortestPath_L74 qv x3 x5 x4 x6 sv = some r := hf
          unfold f_X8_shortestPath_L74 at hf
          have hJ164 : ∀ (sv : SV) (x4 : Int32) (x6 : Int32) (H : Heap) (locs : List Loc) (ls : Array Slot) (r : Sum (Int32 × Int32 × SV) (Int32 × Int32 × SV)), f_X8_shortestPath_J164 sv qv x3 x4 x5 x6 = some r → jbR (fun s => f_X8_shortestPath_L74 qv x3 x5 (s.1) (s.2.1) (s.2.2)) n o74 r → va_P (gD g) vwCl (wS g hs sv ++ wQ g hq qv) H → va_D A (wS g hs sv ++ wQ g hq qv) → va_S A s.heap H locs → lv_has ls 8 [(0, .ref (hs 0)), (1, .ref (hq 0)), (3, .int x3), (4, .int x4), (5, .int x5), (6, .int x6)] → W p l e rm_X8_shortestPath s mi [.ref (hs 0), .ref (hq 0), .int a1, .int a2].toArray below meth c H locs 0 0 Q (F0 mi 164 ls []) := by
            intro sv x4 x6 H locs ls r hf hr hP hD hS hl
            unfold f_X8_shortestPath_J164 at hf
            refine lv_iinc (v := (x6 + 1)) (lv' := [(6, .int (x6 + 1)), (0, .ref (hs 0)), (1, .ref (hq 0)), (3, .int x3), (4, .int x4), (5, .int x5)]) hx hb dX8_shortestPath_164 hl (k := 5) rfl rfl (by decide) rfl (fun ls hl => ?_)
            refine lv_goto (tgt := 74) hx hb dX8_shortestPath_167 (by decide) ?_
            cases hf
            exact ih x4 (x6 + 1) sv _ _ _ _ hr hP hD hS (lv_sub hl [1, 2, 3, 4, 5, 0] rfl) hk
          refine lv_iload hx hb dX8_shortestPath_74 (lv_at hl 5 rfl) ?_
          refine lv_iconst (v := 4) hx hb dX8_shortestPath_76 (by decide) ?_
          refine lv_icmp_ge (tgt := 170) hx hb dX8_shortestPath_77 (by decide) (fun hc => ?_) (fun hc => ?_)
          · have hf := jbT hf hc
            cases hf
            obtain rfl := jbR_r hr
            exact hk _ _ _ hP hD hS (lv_sub hl [0, 1, 2, 3, 4] rfl)
          · have hf := jbF hf hc
            refine lv_aload_n hx hb dX8_shortestPath_80 rfl (lv_at hl 0 rfl) ?_
            refine va_get (D := gD g) (ci := 8) (v := .ref (hs 1)) (C := RX8) (T := TX8) (N := 5) hx hb hts hinX8 hown hK hP 0 rfl rfl 0 (by decide) k1 (fun _ h9 => h9) rfl dX8_shortestPath_81 ?_
            refine lv_iload hx hb dX8_shortestPath_84 (lv_at hl 4 rfl) ?_
            obtain ⟨h10, hf⟩ := jbA_e hf
            refine va_iald hx hb hK hP 1 0 rfl rfl h10 dX8_shortestPath_86 ?_
            refine lv_iload hx hb dX8_shortestPath_87 (lv_at hl 5 rfl) ?_
            obtain ⟨o11, g12, hf⟩ := jbB_e hf
            refine csn_i (As := [.int ((sQueue sv) x5.toNatClampNeg), .int x6]) (rest := []) ⟨hx, hb, hml, hown, hts⟩ (c_X3_neighbour l g ((sQueue sv) x5.toNatClampNeg) x6 _ g12) (va_cwS 2 hts gX8_shortestPath_X3_neighbour rfl rfl rfl hd_X3_neighbour ⟨Nat.le_of_ble_eq_true rfl, Nat.le_of_ble_eq_true rfl⟩) hK hZ hT hA hP hD hS hl.1 rfl rfl (Nat.le_of_ble_eq_true rfl) ⟨Nat.le_of_ble_eq_true rfl, Nat.le_of_ble_eq_true rfl⟩ dX8_shortestPath_89 (fun H locs hP hD hS => ?_)
            refine lv_istore (lv' := [(7, .int o11), (0, .ref (hs 0)), (1, .ref (hq 0)), (3, .int x3), (4, .int x4), (5, .int x5), (6, .int x6)]) hx hb dX8_shortestPath_92 hl (by decide) rfl (fun ls hl => ?_)
            refine lv_aload_n hx hb dX8_shortestPath_94 rfl (lv_at hl 2 rfl) ?_
            refine lv_aload_n hx hb dX8_shortestPath_95 rfl (lv_at hl 1 rfl) ?_
            refine va_get (D := gD g) (ci := 8) (v := .ref (hs 1)) (C := RX8) (T := TX8) (N := 5) hx hb hts hinX8 hown hK hP 0 rfl rfl 0 (by decide) k1 (fun _ h9 => h9) rfl dX8_shortestPath_96 ?_
            refine lv_iload hx hb dX8_shortestPath_99 (lv_at hl 5 rfl) ?_
            obtain ⟨h13, hf⟩ := jbA_e hf
            refine va_iald hx hb hK hP 1 0 rfl rfl h13 dX8_shortestPath_101 ?_
            refine lv_iload hx hb dX8_shortestPath_102 (lv_at hl 0 rfl) ?_
            obtain ⟨o14, g15, hf⟩ := jbB_e hf
            refine cs_i (As := [.ref (hq 0), .int ((sQueue sv) x5.toNatClampNeg), .int o11]) (rest := []) (Wr := [0, 1, 2, 3, 4, 5].filterMap (fun i => ((wS g hs sv ++ wQ g hq qv))[i]?)) ⟨hx, hb, hml, hown, hts⟩ (c_X8_canWalk l g hq qv ((sQueue sv) x5.toNatClampNeg) o11 _ g15) (va_cwS 3 hts gX8_shortestPath_X8_canWalk rfl rfl rfl hd_X8_canWalk ⟨Nat.le_of_ble_eq_true rfl, Nat.le_of_ble_eq_true rfl⟩) hK hZ hT hA hP hD hS hl.1 [6, 7, 8, 9, 10, 11, 12, 13, 14, 15] [0, 1, 2, 3, 4, 5] rfl rfl rfl rfl rfl rfl rfl (Nat.le_of_ble_eq_true rfl) ⟨Nat.le_of_ble_eq_true rfl, Nat.le_of_ble_eq_true rfl⟩ dX8_shortestPath_104 (fun H locs hP hD hS => ?_)
            have hP : va_P (gD g) vwCl (wS g hs sv ++ wQ g hq qv) H := hP.sub [0, 1, 2, 3, 4, 5, 6, 7, 8, 9, 10, 11, 12, 13, 14, 15] rfl
            have hD : va_D A (wS g hs sv ++ wQ g hq qv) := hD.sub [0, 1, 2, 3, 4, 5, 6, 7, 8, 9, 10, 11, 12, 13, 14, 15] rfl rfl
            refine lv_if_eq (tgt := 164) hx hb dX8_shortestPath_107 (by decide) (fun hc => ?_) (fun hc => ?_)
            · have hf := jbT hf hc
              exact hJ164 sv x4 x6 _ _ _ _ hf hr hP hD hS (lv_sub hl [1, 2, 3, 4, 5, 6] rfl)
            · have hf := jbF hf hc
              refine lv_aload_n hx hb dX8_shortestPath_110 rfl (lv_at hl 1 rfl) ?_
              refine va_get (D := gD g) (ci := 8) (v := .ref (hs 4)) (C := RX8) (T := TX8) (N := 5) hx hb hts hinX8 hown hK hP 0 rfl rfl 3 (by decide) k0 (fun _ h9 => h9) rfl dX8_shortestPath_111 ?_
              refine lv_iload hx hb dX8_shortestPath_114 (lv_at hl 0 rfl) ?_
              obtain ⟨h16, hf⟩ := jbA_e hf
              refine va_iald hx hb hK hP 4 0 rfl rfl h16 dX8_shortestPath_116 ?_
              refine lv_iconst (v := (-1)) hx hb dX8_shortestPath_117 (by decide) ?_
              refine lv_icmp_ne (tgt := 164) hx hb dX8_shortestPath_118 (by decide) (fun hc => ?_) (fun hc => ?_)
              · have hf := jbF hf hc
                exact hJ164 sv x4 x6 _ _ _ _ hf hr hP hD hS (lv_sub hl [1, 2, 3, 4, 5, 6] rfl)
              · have hf := jbT hf hc
                refine lv_iload hx hb dX8_shortestPath_121 (lv_at hl 4 rfl) ?_
                refine lv_aload_n hx hb dX8_shortestPath_123 rfl (lv_at hl 1 rfl) ?_
                refine va_get (D := gD g) (ci := 8) (v := .ref (hs 1)) (C := RX8) (T := TX8) (N := 5) hx hb hts hinX8 hown hK hP 0 rfl rfl 0 (by decide) k1 (fun _ h9 => h9) rfl dX8_shortestPath_124 ?_
                refine va_alen (v := 271) hx hb hK hP 1 0 rfl rfl rfl dX8_shortestPath_127 ?_
                refine lv_icmp_ge (tgt := 164) hx hb dX8_shortestPath_128 (by decide) (fun hc => ?_) (fun hc => ?_)
                · have hf := jbT hf hc
                  exact hJ164 sv x4 x6 _ _ _ _ hf hr hP hD hS (lv_sub hl [1, 2, 3, 4, 5, 6] rfl)
                · have hf := jbF hf hc
                  refine lv_aload_n hx hb dX8_shortestPath_131 rfl (lv_at hl 1 rfl) ?_
                  refine va_get (D := gD g) (ci := 8) (v := .ref (hs 4)) (C := RX8) (T := TX8) (N := 5) hx hb hts hinX8 hown hK hP 0 rfl rfl 3 (by decide) k0 (fun _ h9 => h9) rfl dX8_shortestPath_132 ?_
                  refine lv_iload hx hb dX8_shortestPath_135 (lv_at hl 0 rfl) ?_
                  refine lv_aload_n hx hb dX8_shortestPath_137 rfl (lv_at hl 1 rfl) ?_
                  refine va_get (D := gD g) (ci := 8) (v := .ref (hs 4)) (C := RX8) (T := TX8) (N := 5) hx hb hts hinX8 hown hK hP 0 rfl rfl 3 (by decide) k0 (fun _ h9 => h9) rfl dX8_shortestPath_138 ?_
                  refine lv_aload_n hx hb dX8_shortestPath_141 rfl (lv_at hl 1 rfl) ?_
                  refine va_get (D := gD g) (ci := 8) (v := .ref (hs 1)) (C := RX8) (T := TX8) (N := 5) hx hb hts hinX8 hown hK hP 0 rfl rfl 0 (by decide) k1 (fun _ h9 => h9) rfl dX8_shortestPath_142 ?_
                  refine lv_iload hx hb dX8_shortestPath_145 (lv_at hl 5 rfl) ?_
                  obtain ⟨h17, hf⟩ := jbA_e hf
                  refine va_iald hx hb hK hP 1 0 rfl rfl h17 dX8_shortestPath_147 ?_
                  obtain ⟨h18, hf⟩ := jbA_e hf
                  refine va_iald hx hb hK hP 4 0 rfl rfl h18 dX8_shortestPath_148 ?_
                  refine lv_iconst (v := 1) hx hb dX8_shortestPath_149 (by decide) ?_
                  refine lv_iadd hx hb dX8_shortestPath_150 ?_
                  obtain ⟨h19, hf⟩ := jbA_e hf
                  refine va_iast hx hb hK hP hD hS 4 0 rfl rfl h19 dX8_shortestPath_151 (fun H locs hP hD hS => ?_)
                  obtain ⟨w20, ew20⟩ : ∃ y, y = (sSLengths (upd (sLengths sv) o11.toNatClampNeg (((sLengths sv) ((sQueue sv) x5.toNatClampNeg).toNatClampNeg) + 1)) sv) := ⟨_, rfl⟩
                  have hf := jbN_e hf ew20
                  have hP : va_P (gD g) vwCl (wS g hs w20 ++ wQ g hq qv) H := by rw [ew20]; exact hP
                  have hD : va_D A (wS g hs w20 ++ wQ g hq qv) := by rw [ew20]; exact hD
                  refine lv_aload_n hx hb dX8_shortestPath_152 rfl (lv_at hl 1 rfl) ?_
                  refine va_get (D := gD g) (ci := 8) (v := .ref (hs 1)) (C := RX8) (T := TX8) (N := 5) hx hb hts hinX8 hown hK hP 0 rfl rfl 0 (by decide) k1 (fun _ h9 => h9) rfl dX8_shortestPath_153 ?_
                  refine lv_iload hx hb dX8_shortestPath_156 (lv_at hl 4 rfl) ?_
                  refine lv_iload hx hb dX8_shortestPath_158 (lv_at hl 0 rfl) ?_
                  obtain ⟨h21, hf⟩ := jbA_e hf
                  refine va_iast hx hb hK hP hD hS 1 0 rfl rfl h21 dX8_shortestPath_160 (fun H locs hP hD hS => ?_)
                  obtain ⟨w22, ew22⟩ : ∃ y, y = (sSQueue (upd (sQueue w20) x4.toNatClampNeg o11) w20) := ⟨_, rfl⟩
                  have hf := jbN_e hf ew22
                  have hP : va_P (gD g) vwCl (wS g hs w22 ++ wQ g hq qv) H := by rw [ew22]; exact hP
                  have hD : va_D A (wS g hs w22 ++ wQ g hq qv) := by rw [ew22]; exact hD
                  refine lv_iinc (v := (x4 + 1)) (lv' := [(4, .int (x4 + 1)), (7, .int o11), (0, .ref (hs 0)), (1, .ref (hq 0)), (3, .int x3), (5, .int x5), (6, .int x6)]) hx hb dX8_shortestPath_161 hl (k := 4) rfl rfl (by decide) rfl (fun ls hl => ?_)
                  exact hJ164 w22 (x4 + 1) x6 _ _ _ _ hf hr hP hD hS (lv_sub hl [2, 3, 4, 0, 5, 6] rfl)
      refine lv_iload hx hb dX8_shortestPath_54 (lv_at hl 4 rfl) ?_
      refine lv_iload hx hb dX8_shortestPath_56 (lv_at hl 3 rfl) ?_
      refine lv_icmp_ge (tgt := 176) hx hb dX8_shortestPath_58 (by decide) (fun hc => ?_) (fun hc => ?_)
      · have hf := jbT hf hc
        cases hf
        obtain rfl := jbR_r hr
        exact hk _ _ _ hP hD hS (lv_sub hl [0, 2] rfl)
      · have hf := jbF hf hc
        refine lv_iload hx hb dX8_shortestPath_61 (lv_at hl 4 rfl) ?_
        refine lv_aload_n hx hb dX8_shortestPath_63 rfl (lv_at hl 0 rfl) ?_
        refine va_get (D := gD g) (ci := 8) (v := .ref (hs 1)) (C := RX8) (T := TX8) (N := 5) hx hb hts hinX8 hown hK hP 0 rfl rfl 0 (by decide) k1 (fun _ h9 => h9) rfl dX8_shortestPath_64 ?_
        refine va_alen (v := 271) hx hb hK hP 1 0 rfl rfl rfl dX8_shortestPath_67 ?_
        refine lv_icmp_ge (tgt := 176) hx hb dX8_shortestPath_68 (by decide) (fun hc => ?_) (fun hc => ?_)
        · have hf := jbT hf hc
          cases hf
          obtain rfl := jbR_r hr
          exact hk _ _ _ hP hD hS (lv_sub hl [0, 2] rfl)
        · have hf := jbF hf hc
          refine lv_iconst (v := 0) hx hb dX8_shortestPath_71 (by decide) ?_
          refine lv_istore (lv' := [(6, .int 0), (0, .ref (hs 0)), (1, .ref (hq 0)), (3, .int x3), (4, .int x4), (5, .int x5)]) hx hb dX8_shortestPath_72 hl (by decide) rfl (fun ls hl => ?_)
          obtain ⟨o74, hg, hf⟩ := jbB_e hf
          refine hL74 x3 x5 _ x4 0 sv _ _ _ _ hg hP hD hS (lv_sub hl [1, 2, 3, 4, 5, 0] rfl) (fun H locs ls hP hD hS hl => ?_)
          refine lv_iinc (v := (x5 + 1)) (lv' := [(5, .int (x5 + 1)), (0, .ref (hs 0)), (1, .ref (hq 0)), (3, .int x3), (4, .int (o74.1))]) hx hb dX8_shortestPath_170 hl (k := 4) rfl rfl (by decide) rfl (fun ls hl => ?_)
          refine lv_goto (tgt := 54) hx hb dX8_shortestPath_173 (by decide) ?_
          cases hf
          exact ih (o74.1) (x5 + 1) (o74.2.2) _ _ _ _ hr hP hD hS (lv_sub hl [1, 2, 3, 4, 0] rfl) hk
  have hL3 : ∀ (x2 : Int32) (x3 : Int32) (n : Nat) (x4 : Int32) (sv : SV) (H : Heap) (locs : List Loc) (ls : Array Slot) (o3 : Int32 × SV), jbL (fun s => f_X8_shortestPath_L3 qv x2 x3 (s.1) (s.2)) n (x4, sv) = some o3 → va_P (gD g) vwCl (wS g hs sv ++ wQ g hq qv) H → va_D A (wS g hs sv ++ wQ g hq qv) → va_S A s.heap H locs → lv_has ls 8 [(0, .ref (hs 0)), (1, .ref (hq 0)), (2, .int x2), (3, .int x3), (4, .int x4)] → (∀ (H : Heap) (locs : List Loc) (ls : Array Slot), va_P (gD g) vwCl (wS g hs (o3.2) ++ wQ g hq qv) H → va_D A (wS g hs (o3.2) ++ wQ g hq qv) → va_S A s.heap H locs → lv_has ls 8 [(0, .ref (hs 0)), (1, .ref (hq 0)), (2, .int x2), (3, .int x3)] → W p l e rm_X8_shortestPath s mi [.ref (hs 0), .ref (hq 0), .int a1, .int a2].toArray below meth c H locs 0 0 Q (F0 mi 24 ls [])) → W p l e rm_X8_shortestPath s mi [.ref (hs 0), .ref (hq 0), .int a1, .int a2].toArray below meth c H locs 0 0 Q (F0 mi 3 ls []) := by
    intro x2 x3 n
    induction n with
    | zero => intro x4 sv H locs ls o3 hf; exact absurd hf (jbL_0 _ _ _)
    | succ n ih =>
      intro x4 sv H locs ls o3 hf hP hD hS hl hk
      obtain ⟨r, hf, hr⟩ := jbL_e hf
      have hf : f_X8_shortestPath_L3 qv x2 x3 x4 sv = some r := hf
      unfold f_X8_shortestPath_L3 at hf
      refine lv_iload hx hb dX8_shortestPath_3 (lv_at hl 4 rfl) ?_
      refine lv_bipush (v := 30) hx hb dX8_shortestPath_5 (by decide) ?_
      refine lv_icmp_ge (tgt := 24) hx hb dX8_shortestPath_7 (by decide) (fun hc => ?_) (fun hc => ?_)
      · have hf := jbT hf hc
        cases hf
        obtain rfl := jbR_r hr
        exact hk _ _ _ hP hD hS (lv_sub hl [0, 1, 2, 3] rfl)
      · have hf := jbF hf hc
        refine lv_aload_n hx hb dX8_shortestPath_10 rfl (lv_at hl 0 rfl) ?_
        refine va_get (D := gD g) (ci := 8) (v := .ref (hs 4)) (C := RX8) (T := TX8) (N := 5) hx hb hts hinX8 hown hK hP 0 rfl rfl 3 (by decide) k0 (fun _ h9 => h9) rfl dX8_shortestPath_11 ?_
        refine lv_iload hx hb dX8_shortestPath_14 (lv_at hl 4 rfl) ?_
        refine lv_iconst (v := (-1)) hx hb dX8_shortestPath_16 (by decide) ?_
        obtain ⟨h8, hf⟩ := jbA_e hf
        refine va_iast hx hb hK hP hD hS 4 0 rfl rfl h8 dX8_shortestPath_17 (fun H locs hP hD hS => ?_)
        obtain ⟨w9, ew9⟩ : ∃ y, y = (sSLengths (upd (sLengths sv) x4.toNatClampNeg (-1)) sv) := ⟨_, rfl⟩
        have hf := jbN_e hf ew9
        have hP : va_P (gD g) vwCl (wS g hs w9 ++ wQ g hq qv) H := by rw [ew9]; exact hP
        have hD : va_D A (wS g hs w9 ++ wQ g hq qv) := by rw [ew9]; exact hD
        refine lv_iinc (v := (x4 + 1)) (lv' := [(4, .int (x4 + 1)), (0, .ref (hs 0)), (1, .ref (hq 0)), (2, .int x2), (3, .int x3)]) hx hb dX8_shortestPath_18 hl (k := 4) rfl rfl (by decide) rfl (fun ls hl => ?_)
        refine lv_goto (tgt := 3) hx hb dX8_shortestPath_21 (by decide) ?_
        cases hf
        exact ih (x4 + 1) w9 _ _ _ _ hr hP hD hS (lv_sub hl [1, 2, 3, 4, 0] rfl) hk
  refine lv_iconst (v := 0) hx hb dX8_shortestPath_0 (by decide) ?_
  refine lv_istore (lv' := [(4, .int 0), (0, .ref (hs 0)), (1, .ref (hq 0)), (2, .int a1), (3, .int a2)]) hx hb dX8_shortestPath_1 hl (by decide) rfl (fun ls hl => ?_)
  obtain ⟨o3, hg, hf⟩ := jbB_e hf
  refine hL3 a1 a2 _ 0 sv _ _ _ _ hg hP hD hS (lv_sub hl [1, 2, 3, 4, 0] rfl) (fun H locs ls hP hD hS hl => ?_)
  refine lv_aload_n hx hb dX8_shortestPath_24 rfl (lv_at hl 1 rfl) ?_
  refine lv_iload_n hx hb dX8_shortestPath_25 rfl (lv_at hl 2 rfl) ?_
  obtain ⟨o1, g2, hf⟩ := jbB_e hf
  refine cv_i (As := [.int a1]) (rest := []) (Wr := [0, 1, 2, 3, 4, 5].filterMap (fun i => ((wS g hs (o3.2) ++ wQ g hq qv))[i]?)) ⟨hx, hb, hml, hown, hts⟩ (c_X7_hasLedgeAt l g hq qv a1 _ g2) (cwV 1 hts gX8_shortestPath_X7_hasLedgeAt rfl rfl rfl hd_X7_hasLedgeAt ⟨Nat.le_of_ble_eq_true rfl, Nat.le_of_ble_eq_true rfl⟩) hK hZ hT hA hP hD hS hl.1 (va_recv hK hP (ci := 7) (q0 := 6) rfl rfl) [6, 7, 8, 9, 10, 11, 12, 13, 14, 15] [0, 1, 2, 3, 4, 5] rfl rfl rfl rfl rfl rfl rfl (Nat.le_of_ble_eq_true rfl) ⟨Nat.le_of_ble_eq_true rfl, Nat.le_of_ble_eq_true rfl⟩ dX8_shortestPath_26 (fun H locs hP hD hS => ?_)
  have hP : va_P (gD g) vwCl (wS g hs (o3.2) ++ wQ g hq qv) H := hP.sub [0, 1, 2, 3, 4, 5, 6, 7, 8, 9, 10, 11, 12, 13, 14, 15] rfl
  have hD : va_D A (wS g hs (o3.2) ++ wQ g hq qv) := hD.sub [0, 1, 2, 3, 4, 5, 6, 7, 8, 9, 10, 11, 12, 13, 14, 15] rfl rfl
  refine lv_if_eq (tgt := 34) hx hb dX8_shortestPath_29 (by decide) (fun hc => ?_) (fun hc => ?_)
  · have hf := jbT hf hc
    refine lv_aload_n hx hb dX8_shortestPath_34 rfl (lv_at hl 0 rfl) ?_
    refine va_get (D := gD g) (ci := 8) (v := .ref (hs 4)) (C := RX8) (T := TX8) (N := 5) hx hb hts hinX8 hown hK hP 0 rfl rfl 3 (by decide) k0 (fun _ h9 => h9) rfl dX8_shortestPath_35 ?_
    refine lv_iload_n hx hb dX8_shortestPath_38 rfl (lv_at hl 2 rfl) ?_
    refine lv_iconst (v := 0) hx hb dX8_shortestPath_39 (by decide) ?_
    obtain ⟨h3, hf⟩ := jbA_e hf
    refine va_iast hx hb hK hP hD hS 4 0 rfl rfl h3 dX8_shortestPath_40 (fun H locs hP hD hS => ?_)
    obtain ⟨w4, ew4⟩ : ∃ y, y = (sSLengths (upd (sLengths (o3.2)) a1.toNatClampNeg 0) (o3.2)) := ⟨_, rfl⟩
    have hf := jbN_e hf ew4
    have hP : va_P (gD g) vwCl (wS g hs w4 ++ wQ g hq qv) H := by rw [ew4]; exact hP
    have hD : va_D A (wS g hs w4 ++ wQ g hq qv) := by rw [ew4]; exact hD
    refine lv_aload_n hx hb dX8_shortestPath_41 rfl (lv_at hl 0 rfl) ?_
    refine va_get (D := gD g) (ci := 8) (v := .ref (hs 1)) (C := RX8) (T := TX8) (N := 5) hx hb hts hinX8 hown hK hP 0 rfl rfl 0 (by decide) k1 (fun _ h9 => h9) rfl dX8_shortestPath_42 ?_
    refine lv_iconst (v := 0) hx hb dX8_shortestPath_45 (by decide) ?_
    refine lv_iload_n hx hb dX8_shortestPath_46 rfl (lv_at hl 2 rfl) ?_
    obtain ⟨h5, hf⟩ := jbA_e hf
    refine va_iast hx hb hK hP hD hS 1 0 rfl rfl h5 dX8_shortestPath_47 (fun H locs hP hD hS => ?_)
    obtain ⟨w6, ew6⟩ : ∃ y, y = (sSQueue (upd (sQueue w4) (0 : Int32).toNatClampNeg a1) w4) := ⟨_, rfl⟩
    have hf := jbN_e hf ew6
    have hP : va_P (gD g) vwCl (wS g hs w6 ++ wQ g hq qv) H := by rw [ew6]; exact hP
    have hD : va_D A (wS g hs w6 ++ wQ g hq qv) := by rw [ew6]; exact hD
    refine lv_iconst (v := 1) hx hb dX8_shortestPath_48 (by decide) ?_
    refine lv_istore (lv' := [(4, .int 1), (0, .ref (hs 0)), (1, .ref (hq 0)), (2, .int a1), (3, .int a2)]) hx hb dX8_shortestPath_49 hl (by decide) rfl (fun ls hl => ?_)
    refine lv_iconst (v := 0) hx hb dX8_shortestPath_51 (by decide) ?_
    refine lv_istore (lv' := [(5, .int 0), (4, .int 1), (0, .ref (hs 0)), (1, .ref (hq 0)), (2, .int a1), (3, .int a2)]) hx hb dX8_shortestPath_52 hl (by decide) rfl (fun ls hl => ?_)
    obtain ⟨o54, hg, hf⟩ := jbB_e hf
    refine hL54 a2 _ 1 0 w6 _ _ _ _ hg hP hD hS (lv_sub hl [2, 3, 5, 1, 0] rfl) (fun H locs ls hP hD hS hl => ?_)
    refine lv_aload_n hx hb dX8_shortestPath_176 rfl (lv_at hl 0 rfl) ?_
    refine va_get (D := gD g) (ci := 8) (v := .ref (hs 4)) (C := RX8) (T := TX8) (N := 5) hx hb hts hinX8 hown hK hP 0 rfl rfl 3 (by decide) k0 (fun _ h9 => h9) rfl dX8_shortestPath_177 ?_
    refine lv_iload_n hx hb dX8_shortestPath_180 rfl (lv_at hl 1 rfl) ?_
    obtain ⟨h7, hf⟩ := jbA_e hf
    refine va_iald hx hb hK hP 4 0 rfl rfl h7 dX8_shortestPath_181 ?_
    cases hf
    subst hQ
    exact rt_i hx hb hrt hlk rfl hK hP hD hS (Nat.le_of_ble_eq_true rfl) (Nat.le_of_ble_eq_true rfl) dX8_shortestPath_182
  · have hf := jbF hf hc
    refine lv_iconst (v := (-1)) hx hb dX8_shortestPath_32 (by decide) ?_
    cases hf
    subst hQ
    exact rt_i hx hb hrt hlk rfl hK hP hD hS (Nat.le_of_ble_eq_true rfl) (Nat.le_of_ble_eq_true rfl) dX8_shortestPath_33
