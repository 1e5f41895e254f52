def rm_L_areCellsRight : Room := { frames := 12, cells := 298, slots := 1792, locals := 216 }
theorem hd_L_areCellsRight : yL_areCellsRight.cls ≠ "java/lang/invoke/MethodHandle" ∧ yL_areCellsRight.cls ≠ "java/lang/invoke/VarHandle" ∧ (parseMethodDescriptor yL_areCellsRight.desc).map (fun d => d.parameters.length) = some 2 := by decide +kernel
set_option maxHeartbeats 4000000 in
set_option maxRecDepth 100000 in
theorem c_L_areCellsRight (l : Launch) (hlt : l.stackTraces = false) (g : GG) (ha : Nat → Nat → Nat) (tv : TV) (qv : QV) (sv : SV) (a1 : Int32) (out : Int32 × SV) (hf : f_L_areCellsRight qv sv a1 = some out) : MtI l yL_areCellsRight wsL_areCellsRight rm_L_areCellsRight g (wT g ha tv ++ wQ g (ha 1) qv ++ wS g (ha 3) sv) [.ref (ha 0 0), .int a1] (out.1) (wT g ha tv ++ wQ g (ha 1) qv ++ wS g (ha 3) (out.2)) 298 1792 := by
  refine fun sz => mt_of (cc := cL_areCellsRight) (maxL := 14) (ret := (some .boolean)) (own := RL) (Qc := fun A => va_Qi (fun r (_ : Unit) => r = (out.1)) (fun _ t => PosM g A (wT g ha tv ++ wQ g (ha 1) qv ++ wS g (ha 3) (out.2)) t) A) (by decide +kernel) rfl rfl (Nat.le_of_ble_eq_true rfl) ?_ sz
  intro p e s mi below meth c A ls hB hnm hrt hlk hP hD hl
  obtain ⟨hx, hb, hml, hown, hts, hK, hZ, hT, hA, -⟩ := hB
  have hS : va_S A s.heap s.heap [] := va_S.rf
  have hl : lv_has ls 14 [(0, .ref (ha 0 0)), (1, .int a1)] := hl
  have k0 := hts (.arrayClass .int) (by decide +kernel)
  have k1 := hts (.constantDouble RL 177 4629137466983448576) (by decide +kernel)
  have k2 := hts (.methodLink RL 158 Lib.Math.min.name) (by decide +kernel)
  have k3 := hts (.static Lib.Math.min.name) (by decide +kernel)
  have k4 := hts (.initialized "java/lang/Math") (by decide +kernel)
  have k5 := hts (.code Lib.Math.min.name Lib.Math.min.code 2 (some .int)) (by decide +kernel)
  have k6 := hts (.methodLink RL 114 Lib.Math.max.name) (by decide +kernel)
  have k7 := hts (.static Lib.Math.max.name) (by decide +kernel)
  have k8 := hts (.code Lib.Math.max.name Lib.Math.max.code 2 (some .int)) (by decide +kernel)
  generalize hQ : MQ below _ _ _ _ _ _ = Q
  unfold f_L_areCellsRight at hf
  have hJ606 : ∀ (b1 : Nat) (u1 : (Nat → Int32)) (sv : SV) (H : Heap) (locs : List Loc) (ls : Array Slot), f_L_areCellsRight_J606 u1 qv sv = some out → va_P (gD g) vwCl (wA g b1 u1 10 ++ wT g ha tv ++ wQ g (ha 1) qv ++ wS g (ha 3) sv) H → va_D A (wA g b1 u1 10 ++ wT g ha tv ++ wQ g (ha 1) qv ++ wS g (ha 3) sv) → va_S A s.heap H locs → lv_has ls 14 [] → W p l e rm_L_areCellsRight s mi [.ref (ha 0 0), .int a1].toArray below meth c H locs (298) (1792) Q (F0 mi 606 ls []) := by
    intro b1 u1 sv H locs ls hf hP hD hS hl
    unfold f_L_areCellsRight_J606 at hf
    refine lv_iconst (v := 1) hx hb dL_areCellsRight_606 (by decide) ?_
    refine lv_goto (tgt := 611) hx hb dL_areCellsRight_607 (by decide) ?_
    have hP : va_P (gD g) vwCl (wT g ha tv ++ wQ g (ha 1) qv ++ wS g (ha 3) sv) H := wp_Pl (wp_P (wp_of fun f => by simp only [List.countP_append, List.countP_cons, List.countP_nil] <;> omega) hP : va_P (gD g) vwCl ((wT g ha tv ++ wQ g (ha 1) qv ++ wS g (ha 3) sv) ++ (wA g b1 u1 10)) H)
    have hD : va_D A (wT g ha tv ++ wQ g (ha 1) qv ++ wS g (ha 3) sv) := wp_Dl (wp_D (wp_of fun f => by simp only [List.countP_append, List.countP_cons, List.countP_nil] <;> omega) hD : va_D A ((wT g ha tv ++ wQ g (ha 1) qv ++ wS g (ha 3) sv) ++ (wA g b1 u1 10)))
    cases hf
    subst hQ
    exact rt_i hx hb hrt hlk nar_1 hK hP hD hS (Nat.le_of_ble_eq_true rfl) (Nat.le_of_ble_eq_true rfl) dL_areCellsRight_611
  have hJ575 : ∀ (b1 : Nat) (u1 : (Nat → Int32)) (sv : SV) (x7 : Int32) (y0 : Int32) (H : Heap) (locs : List Loc) (ls : Array Slot), f_L_areCellsRight_J575 u1 qv sv x7 y0 = some out → va_P (gD g) vwCl (wA g b1 u1 10 ++ wT g ha tv ++ wQ g (ha 1) qv ++ wS g (ha 3) sv) H → va_D A (wA g b1 u1 10 ++ wT g ha tv ++ wQ g (ha 1) qv ++ wS g (ha 3) sv) → va_S A s.heap H locs → lv_has ls 14 [(0, .ref (ha 0 0)), (7, .int x7)] → W p l e rm_L_areCellsRight s mi [.ref (ha 0 0), .int a1].toArray below meth c H locs (298) (1792) Q (F0 mi 575 ls [.int y0]) := by
    intro b1 u1 sv x7 y0 H locs ls hf hP hD hS hl
    unfold f_L_areCellsRight_J575 at hf
    refine lv_istore (lv' := [(6, .int y0), (0, .ref (ha 0 0)), (7, .int x7)]) hx hb dL_areCellsRight_575 hl (by decide) rfl (fun ls hl => ?_)
    refine lv_iload hx hb dL_areCellsRight_577 (lv_at hl 0 rfl) ?_
    refine lv_if_eq (tgt := 610) hx hb dL_areCellsRight_579 (by decide) (fun hc => ?_) (fun hc => ?_)
    · have hf := jbT hf hc
      refine lv_iconst (v := 0) hx hb dL_areCellsRight_610 (by decide) ?_
      have hP : va_P (gD g) vwCl (wT g ha tv ++ wQ g (ha 1) qv ++ wS g (ha 3) sv) H := wp_Pl (wp_P (wp_of fun f => by simp only [List.countP_append, List.countP_cons, List.countP_nil] <;> omega) hP : va_P (gD g) vwCl ((wT g ha tv ++ wQ g (ha 1) qv ++ wS g (ha 3) sv) ++ (wA g b1 u1 10)) H)
      have hD : va_D A (wT g ha tv ++ wQ g (ha 1) qv ++ wS g (ha 3) sv) := wp_Dl (wp_D (wp_of fun f => by simp only [List.countP_append, List.countP_cons, List.countP_nil] <;> omega) hD : va_D A ((wT g ha tv ++ wQ g (ha 1) qv ++ wS g (ha 3) sv) ++ (wA g b1 u1 10)))
      cases hf
      subst hQ
      exact rt_i hx hb hrt hlk nar_0 hK hP hD hS (Nat.le_of_ble_eq_true rfl) (Nat.le_of_ble_eq_true rfl) dL_areCellsRight_611
    · have hf := jbF hf hc
      refine lv_aload_n hx hb dL_areCellsRight_582 rfl (lv_at hl 1 rfl) ?_
      obtain ⟨o71, g72, hf⟩ := jbB_e hf
      refine cpv_i (As := []) (rest := []) (Wr := (wA g b1 u1 10 ++ wS g (ha 3) sv)) (Wn := (wA g b1 u1 10 ++ wT g ha tv ++ wQ g (ha 1) qv ++ wS g (ha 3) sv)) ⟨hx, hb, hml, hown, hts⟩ (c_X10_cutTotal l hlt g ha tv qv _ (show f_X10_cutTotal tv qv = some o71 from g72)) (cwV 0 hts gL_areCellsRight_X10_cutTotal rfl rfl rfl hd_X10_cutTotal ⟨(Nat.le_of_ble_eq_true rfl), (Nat.le_of_ble_eq_true rfl)⟩) hK hZ hT hA hP hD hS hl.1 (va_recv hK hP (ci := 9) (q0 := 1) rfl rfl) (wp_of fun f => by simp only [List.countP_append, List.countP_cons, List.countP_nil] <;> omega) (wp_of fun f => by simp only [List.countP_append, List.countP_cons, List.countP_nil] <;> omega) rfl rfl (Nat.le_of_ble_eq_true rfl) ⟨(Nat.le_of_ble_eq_true rfl), (Nat.le_of_ble_eq_true rfl)⟩ dL_areCellsRight_583 (fun H locs hP hD hS => ?_)
      refine lv_if_eq (tgt := 606) hx hb dL_areCellsRight_586 (by decide) (fun hc => ?_) (fun hc => ?_)
      · have hf := jbT hf hc
        exact hJ606 b1 u1 sv _ _ _ hf hP hD hS (lv_sub hl [] rfl)
      · have hf := jbF hf hc
        refine lv_aload_n hx hb dL_areCellsRight_589 rfl (lv_at hl 1 rfl) ?_
        obtain ⟨o73, g74, hf⟩ := jbB_e hf
        rcases o73 with x9 | o73
        · have hf := jbM_l hf
          cases hf
        have hf := jbM_r hf
        refine cpv_f (As := []) (rest := []) (Wr := (wA g b1 u1 10 ++ wS g (ha 3) sv)) (Wn := (wA g b1 u1 10 ++ wT g ha tv ++ wQ g (ha 1) qv ++ wS g (ha 3) sv)) ⟨hx, hb, hml, hown, hts⟩ (cn_X10_liftedShare l hlt g ha tv qv _ (show f_X10_liftedShare tv qv = some (.inr o73) from g74)) (cwV 0 hts gL_areCellsRight_X10_liftedShare rfl rfl rfl hd_X10_liftedShare ⟨(Nat.le_of_ble_eq_true rfl), (Nat.le_of_ble_eq_true rfl)⟩) hK hZ hT hA hP hD hS hl.1 (va_recv hK hP (ci := 9) (q0 := 1) rfl rfl) (wp_of fun f => by simp only [List.countP_append, List.countP_cons, List.countP_nil] <;> omega) (wp_of fun f => by simp only [List.countP_append, List.countP_cons, List.countP_nil] <;> omega) rfl rfl (Nat.le_of_ble_eq_true rfl) ⟨(Nat.le_of_ble_eq_true rfl), (Nat.le_of_ble_eq_true rfl)⟩ dL_areCellsRight_590 (fun H locs hP hD hS => ?_)
        refine lv_iload hx hb dL_areCellsRight_593 (lv_at hl 2 rfl) ?_
        refine lv_i2f hx hb dL_areCellsRight_595 ?_
        refine lv_aload_n hx hb dL_areCellsRight_596 rfl (lv_at hl 1 rfl) ?_
        obtain ⟨o75, g76, hf⟩ := jbB_e hf
        refine cpv_i (As := []) (rest := [.float (FP.i2f x7), .float o73]) (Wr := (wA g b1 u1 10 ++ wS g (ha 3) sv)) (Wn := (wA g b1 u1 10 ++ wT g ha tv ++ wQ g (ha 1) qv ++ wS g (ha 3) sv)) ⟨hx, hb, hml, hown, hts⟩ (c_X10_cutTotal l hlt g ha tv qv _ (show f_X10_cutTotal tv qv = some o75 from g76)) (cwV 0 hts gL_areCellsRight_X10_cutTotal rfl rfl rfl hd_X10_cutTotal ⟨(Nat.le_of_ble_eq_true rfl), (Nat.le_of_ble_eq_true rfl)⟩) hK hZ hT hA hP hD hS hl.1 (va_recv hK hP (ci := 9) (q0 := 1) rfl rfl) (wp_of fun f => by simp only [List.countP_append, List.countP_cons, List.countP_nil] <;> omega) (wp_of fun f => by simp only [List.countP_append, List.countP_cons, List.countP_nil] <;> omega) rfl rfl (Nat.le_of_ble_eq_true rfl) ⟨(Nat.le_of_ble_eq_true rfl), (Nat.le_of_ble_eq_true rfl)⟩ dL_areCellsRight_597 (fun H locs hP hD hS => ?_)
        refine lv_i2f hx hb dL_areCellsRight_600 ?_
        obtain ⟨h77, hf⟩ := jbA_e hf
        refine lv_fdiv hx hb dL_areCellsRight_601 h77 ?_
        refine lv_fcmp hx hb dL_areCellsRight_602 ?_
        refine lv_if_ne (tgt := 610) hx hb dL_areCellsRight_603 (by decide) (fun hc => ?_) (fun hc => ?_)
        · have hf := jbF hf hc
          refine lv_iconst (v := 0) hx hb dL_areCellsRight_610 (by decide) ?_
          have hP : va_P (gD g) vwCl (wT g ha tv ++ wQ g (ha 1) qv ++ wS g (ha 3) sv) H := wp_Pl (wp_P (wp_of fun f => by simp only [List.countP_append, List.countP_cons, List.countP_nil] <;> omega) hP : va_P (gD g) vwCl ((wT g ha tv ++ wQ g (ha 1) qv ++ wS g (ha 3) sv) ++ (wA g b1 u1 10)) H)
          have hD : va_D A (wT g ha tv ++ wQ g (ha 1) qv ++ wS g (ha 3) sv) := wp_Dl (wp_D (wp_of fun f => by simp only [List.countP_append, List.countP_cons, List.countP_nil] <;> omega) hD : va_D A ((wT g ha tv ++ wQ g (ha 1) qv ++ wS g (ha 3) sv) ++ (wA g b1 u1 10)))
          cases hf
          subst hQ
          exact rt_i hx hb hrt hlk nar_0 hK hP hD hS (Nat.le_of_ble_eq_true rfl) (Nat.le_of_ble_eq_true rfl) dL_areCellsRight_611
        · have hf := jbT hf hc
          exact hJ606 b1 u1 sv _ _ _ hf hP hD hS (lv_sub hl [] rfl)
  have hJ574 : ∀ (b1 : Nat) (u1 : (Nat → Int32)) (sv : SV) (x7 : Int32) (H : Heap) (locs : List Loc) (ls : Array Slot), f_L_areCellsRight_J574 u1 qv sv x7 = some out → va_P (gD g) vwCl (wA g b1 u1 10 ++ wT g ha tv ++ wQ g (ha 1) qv ++ wS g (ha 3) sv) H → va_D A (wA g b1 u1 10 ++ wT g ha tv ++ wQ g (ha 1) qv ++ wS g (ha 3) sv) → va_S A s.heap H locs → lv_has ls 14 [(0, .ref (ha 0 0)), (7, .int x7)] → W p l e rm_L_areCellsRight s mi [.ref (ha 0 0), .int a1].toArray below meth c H locs (298) (1792) Q (F0 mi 574 ls []) := by
    intro b1 u1 sv x7 H locs ls hf hP hD hS hl
    unfold f_L_areCellsRight_J574 at hf
    refine lv_iconst (v := 0) hx hb dL_areCellsRight_574 (by decide) ?_
    exact hJ575 b1 u1 sv x7 0 _ _ _ hf hP hD hS (lv_sub hl [0, 1] rfl)
  have hL488 : ∀ (b1 : Nat) (u1 : (Nat → Int32)) (sv : SV) (x2 : Int32) (x3 : Int32) (x4 : Int32) (n488 : Nat) (x6 : Int32) (x7 : Int32) (H : Heap) (locs : List Loc) (ls : Array Slot) (o488 : Int32 × Int32), jbL (fun s => f_L_areCellsRight_L488 u1 qv sv x2 x3 x4 (s.1) (s.2)) n488 (x6, x7) = some o488 → va_P (gD g) vwCl (wA g b1 u1 10 ++ wT g ha tv ++ wQ g (ha 1) qv ++ wS g (ha 3) sv) H → va_D A (wA g b1 u1 10 ++ wT g ha tv ++ wQ g (ha 1) qv ++ wS g (ha 3) sv) → va_S A s.heap H locs → lv_has ls 14 [(0, .ref (ha 0 0)), (2, .int x2), (3, .int x3), (4, .int x4), (5, .ref b1), (6, .int x6), (7, .int x7)] → (∀ (H : Heap) (locs : List Loc) (ls : Array Slot), va_P (gD g) vwCl (wA g b1 u1 10 ++ wT g ha tv ++ wQ g (ha 1) qv ++ wS g (ha 3) sv) H → va_D A (wA g b1 u1 10 ++ wT g ha tv ++ wQ g (ha 1) qv ++ wS g (ha 3) sv) → va_S A s.heap H locs → lv_has ls 14 [(0, .ref (ha 0 0)), (2, .int x2), (3, .int x3), (4, .int x4), (6, .int (o488.1))] → W p l e rm_L_areCellsRight s mi [.ref (ha 0 0), .int a1].toArray below meth c H locs (298) (1792) Q (F0 mi 527 ls [])) → W p l e rm_L_areCellsRight s mi [.ref (ha 0 0), .int a1].toArray below meth c H locs (298) (1792) Q (F0 mi 488 ls []) := by
    intro b1 u1 sv x2 x3 x4 n488
    induction n488 with
    | zero => intro x6 x7 H locs ls o488 hf; exact absurd hf (jbL_0 _ _ _)
    | succ n488 ih =>
      intro x6 x7 H locs ls o488 hf hP hD hS hl hk
      obtain ⟨r, hf, hr⟩ := jbL_e hf
      have hf : f_L_areCellsRight_L488 u1 qv sv x2 x3 x4 x6 x7 = some r := hf
      unfold f_L_areCellsRight_L488 at hf
      have hJ519 : ∀ (x7 : Int32) (y0 : Int32) (H : Heap) (locs : List Loc) (ls : Array Slot) (r : Sum (Int32 × Int32) (Int32 × Int32)), f_L_areCellsRight_J519 u1 qv sv x2 x3 x4 x7 y0 = some r → jbR (fun s => f_L_areCellsRight_L488 u1 qv sv x2 x3 x4 (s.1) (s.2)) n488 o488 r → va_P (gD g) vwCl (wA g b1 u1 10 ++ wT g ha tv ++ wQ g (ha 1) qv ++ wS g (ha 3) sv) H → va_D A (wA g b1 u1 10 ++ wT g ha tv ++ wQ g (ha 1) qv ++ wS g (ha 3) sv) → va_S A s.heap H locs → lv_has ls 14 [(0, .ref (ha 0 0)), (2, .int x2), (3, .int x3), (4, .int x4), (5, .ref b1), (7, .int x7)] → W p l e rm_L_areCellsRight s mi [.ref (ha 0 0), .int a1].toArray below meth c H locs (298) (1792) Q (F0 mi 519 ls [.int y0]) := by
        intro x7 y0 H locs ls r hf hr hP hD hS hl
        unfold f_L_areCellsRight_J519 at hf
        refine lv_istore (lv' := [(6, .int y0), (0, .ref (ha 0 0)), (2, .int x2), (3, .int x3), (4, .int x4), (5, .ref b1), (7, .int x7)]) hx hb dL_areCellsRight_519 hl (by decide) rfl (fun ls hl => ?_)
        refine lv_iinc (v := (x7 + 1)) (lv' := [(7, .int (x7 + 1)), (6, .int y0), (0, .ref (ha 0 0)), (2, .int x2), (3, .int x3), (4, .int x4), (5, .ref b1)]) hx hb dL_areCellsRight_521 hl (k := 6) rfl rfl (by decide) rfl (fun ls hl => ?_)
        refine lv_goto (tgt := 488) hx hb dL_areCellsRight_524 (by decide) ?_
        cases hf
        exact ih y0 (x7 + 1) _ _ _ _ hr hP hD hS (lv_sub hl [2, 3, 4, 5, 6, 1, 0] rfl) hk
      have hJ518 : ∀ (x7 : Int32) (H : Heap) (locs : List Loc) (ls : Array Slot) (r : Sum (Int32 × Int32) (Int32 × Int32)), f_L_areCellsRight_J518 u1 qv sv x2 x3 x4 x7 = some r → jbR (fun s => f_L_areCellsRight_L488 u1 qv sv x2 x3 x4 (s.1) (s.2)) n488 o488 r → va_P (gD g) vwCl (wA g b1 u1 10 ++ wT g ha tv ++ wQ g (ha 1) qv ++ wS g (ha 3) sv) H → va_D A (wA g b1 u1 10 ++ wT g ha tv ++ wQ g (ha 1) qv ++ wS g (ha 3) sv) → va_S A s.heap H locs → lv_has ls 14 [(0, .ref (ha 0 0)), (2, .int x2), (3, .int x3), (4, .int x4), (5, .ref b1), (7, .int x7)] → W p l e rm_L_areCellsRight s mi [.ref (ha 0 0), .int a1].toArray below meth c H locs (298) (1792) Q (F0 mi 518 ls []) := by
        intro x7 H locs ls r hf hr hP hD hS hl
        unfold f_L_areCellsRight_J518 at hf
        refine lv_iconst (v := 0) hx hb dL_areCellsRight_518 (by decide) ?_
        exact hJ519 x7 0 _ _ _ _ hf hr hP hD hS (lv_sub hl [0, 1, 2, 3, 4, 5] rfl)
      refine lv_iload hx hb dL_areCellsRight_488 (lv_at hl 6 rfl) ?_
      refine lv_bipush (v := 10) hx hb dL_areCellsRight_490 (by decide) ?_
      refine lv_icmp_ge (tgt := 527) hx hb dL_areCellsRight_492 (by decide) (fun hc => ?_) (fun hc => ?_)
      · have hf := jbT hf hc
        cases hf
        obtain rfl := jbR_r hr
        exact hk _ _ _ hP hD hS (lv_sub hl [0, 1, 2, 3, 5] rfl)
      · have hf := jbF hf hc
        refine lv_iload hx hb dL_areCellsRight_495 (lv_at hl 5 rfl) ?_
        refine lv_if_eq (tgt := 518) hx hb dL_areCellsRight_497 (by decide) (fun hc => ?_) (fun hc => ?_)
        · have hf := jbT hf hc
          exact hJ518 x7 _ _ _ _ hf hr hP hD hS (lv_sub hl [0, 1, 2, 3, 4, 6] rfl)
        · have hf := jbF hf hc
          refine lv_aload_n hx hb dL_areCellsRight_500 rfl (lv_at hl 0 rfl) ?_
          refine lv_iload hx hb dL_areCellsRight_501 (lv_at hl 6 rfl) ?_
          obtain ⟨o68, g69, hf⟩ := jbB_e hf
          rcases o68 with x9 | o68
          · have hf := jbM_l hf
            cases hf
          have hf := jbM_r hf
          refine cpv_i (As := [.int x7]) (rest := []) (Wr := (wA g b1 u1 10 ++ wS g (ha 3) sv)) (Wn := (wA g b1 u1 10 ++ wT g ha tv ++ wQ g (ha 1) qv ++ wS g (ha 3) sv)) ⟨hx, hb, hml, hown, hts⟩ (cn_X10_cellsAt l hlt g ha tv qv x7 _ (show f_X10_cellsAt tv qv x7 = some (.inr o68) from g69)) (cwV 1 hts gL_areCellsRight_X10_cellsAt rfl rfl rfl hd_X10_cellsAt ⟨(Nat.le_of_ble_eq_true rfl), (Nat.le_of_ble_eq_true rfl)⟩) hK hZ hT hA hP hD hS hl.1 (va_recv hK hP (ci := 9) (q0 := 1) rfl rfl) (wp_of fun f => by simp only [List.countP_append, List.countP_cons, List.countP_nil] <;> omega) (wp_of fun f => by simp only [List.countP_append, List.countP_cons, List.countP_nil] <;> omega) rfl rfl (Nat.le_of_ble_eq_true rfl) ⟨(Nat.le_of_ble_eq_true rfl), (Nat.le_of_ble_eq_true rfl)⟩ dL_areCellsRight_503 (fun H locs hP hD hS => ?_)
          refine lv_aload hx hb dL_areCellsRight_506 (lv_at hl 4 rfl) ?_
          refine lv_iload hx hb dL_areCellsRight_508 (lv_at hl 6 rfl) ?_
          obtain ⟨h70, hf⟩ := jbA_e hf
          refine va_iald hx hb hK hP 0 0 rfl rfl h70 dL_areCellsRight_510 ?_
          refine lv_icmp_ne (tgt := 518) hx hb dL_areCellsRight_511 (by decide) (fun hc => ?_) (fun hc => ?_)
          · have hf := jbF hf hc
            exact hJ518 x7 _ _ _ _ hf hr hP hD hS (lv_sub hl [0, 1, 2, 3, 4, 6] rfl)
          · have hf := jbT hf hc
            refine lv_iconst (v := 1) hx hb dL_areCellsRight_514 (by decide) ?_
            refine lv_goto (tgt := 519) hx hb dL_areCellsRight_515 (by decide) ?_
            exact hJ519 x7 1 _ _ _ _ hf hr hP hD hS (lv_sub hl [0, 1, 2, 3, 4, 6] rfl)
  have hL117 : ∀ (b1 : Nat) (x1 : Int32) (n117 : Nat) (cc117 sc117 : Nat) (x2 : Int32) (x3 : Int32) (x4 : Int32) (x6 : Int32) (x7 : Int32) (u1 : (Nat → Int32)) (sv : SV) (H : Heap) (locs : List Loc) (ls : Array Slot) (o117 : Int32 × Int32 × Int32 × Int32 × Int32 × (Nat → Int32) × SV), cc117 + 9 * n117 ≤ 298 → sc117 + 54 * n117 ≤ 1792 → jbL (fun s => f_L_areCellsRight_L117 qv x1 (s.1) (s.2.1) (s.2.2.1) (s.2.2.2.1) (s.2.2.2.2.1) (s.2.2.2.2.2.1) (s.2.2.2.2.2.2)) n117 (x2, x3, x4, x6, x7, u1, sv) = some o117 → va_P (gD g) vwCl (wA g b1 u1 10 ++ wT g ha tv ++ wQ g (ha 1) qv ++ wS g (ha 3) sv) H → va_D A (wA g b1 u1 10 ++ wT g ha tv ++ wQ g (ha 1) qv ++ wS g (ha 3) sv) → va_S A s.heap H locs → lv_has ls 14 [(0, .ref (ha 0 0)), (1, .int x1), (2, .int x2), (3, .int x3), (4, .int x4), (5, .ref b1), (6, .int x6), (7, .int x7)] → (∀ (H : Heap) (locs : List Loc) (ls : Array Slot), va_P (gD g) vwCl (wA g b1 (o117.2.2.2.2.2.1) 10 ++ wT g ha tv ++ wQ g (ha 1) qv ++ wS g (ha 3) (o117.2.2.2.2.2.2)) H → va_D A (wA g b1 (o117.2.2.2.2.2.1) 10 ++ wT g ha tv ++ wQ g (ha 1) qv ++ wS g (ha 3) (o117.2.2.2.2.2.2)) → va_S A s.heap H locs → lv_has ls 14 [(0, .ref (ha 0 0)), (2, .int (o117.1)), (3, .int (o117.2.1)), (4, .int (o117.2.2.1)), (5, .ref b1), (6, .int (o117.2.2.2.1))] → W p l e rm_L_areCellsRight s mi [.ref (ha 0 0), .int a1].toArray below meth c H locs (298) (1792) Q (F0 mi 485 ls [])) → W p l e rm_L_areCellsRight s mi [.ref (ha 0 0), .int a1].toArray below meth c H locs (cc117) (sc117) Q (F0 mi 117 ls []) := by
    intro b1 x1 n117
    induction n117 with
    | zero => intro cc117 sc117 x2 x3 x4 x6 x7 u1 sv H locs ls o117 hcc117 hsc117 hf; exact absurd hf (jbL_0 _ _ _)
    | succ n117 ih =>
      intro cc117 sc117 x2 x3 x4 x6 x7 u1 sv H locs ls o117 hcc117 hsc117 hf hP hD hS hl hk
      obtain ⟨r, hf, hr⟩ := jbL_e hf
      have hf : f_L_areCellsRight_L117 qv x1 x2 x3 x4 x6 x7 u1 sv = some r := hf
      unfold f_L_areCellsRight_L117 at hf
      have hJ477 : ∀ (u1 : (Nat → Int32)) (sv : SV) (x2 : Int32) (x3 : Int32) (x4 : Int32) (x7 : Int32) (y0 : Int32) (H : Heap) (locs : List Loc) (ls : Array Slot) (r : Sum (Int32 × Int32 × Int32 × Int32 × Int32 × (Nat → Int32) × SV) (Int32 × Int32 × Int32 × Int32 × Int32 × (Nat → Int32) × SV)), f_L_areCellsRight_J477 u1 qv sv x1 x2 x3 x4 x7 y0 = some r → jbR (fun s => f_L_areCellsRight_L117 qv x1 (s.1) (s.2.1) (s.2.2.1) (s.2.2.2.1) (s.2.2.2.2.1) (s.2.2.2.2.2.1) (s.2.2.2.2.2.2)) n117 o117 r → va_P (gD g) vwCl (wA g b1 u1 10 ++ wT g ha tv ++ wQ g (ha 1) qv ++ wS g (ha 3) sv) H → va_D A (wA g b1 u1 10 ++ wT g ha tv ++ wQ g (ha 1) qv ++ wS g (ha 3) sv) → va_S A s.heap H locs → lv_has ls 14 [(0, .ref (ha 0 0)), (1, .int x1), (2, .int x2), (3, .int x3), (4, .int x4), (5, .ref b1), (7, .int x7)] → W p l e rm_L_areCellsRight s mi [.ref (ha 0 0), .int a1].toArray below meth c H locs (cc117 + 9) (sc117 + 54) Q (F0 mi 477 ls [.int y0]) := by
        intro u1 sv x2 x3 x4 x7 y0 H locs ls r hf hr hP hD hS hl
        unfold f_L_areCellsRight_J477 at hf
        refine lv_istore (lv' := [(6, .int y0), (0, .ref (ha 0 0)), (1, .int x1), (2, .int x2), (3, .int x3), (4, .int x4), (5, .ref b1), (7, .int x7)]) hx hb dL_areCellsRight_477 hl (by decide) rfl (fun ls hl => ?_)
        refine lv_iinc (v := (x7 + 1)) (lv' := [(7, .int (x7 + 1)), (6, .int y0), (0, .ref (ha 0 0)), (1, .int x1), (2, .int x2), (3, .int x3), (4, .int x4), (5, .ref b1)]) hx hb dL_areCellsRight_479 hl (k := 7) rfl rfl (by decide) rfl (fun ls hl => ?_)
        refine lv_goto (tgt := 117) hx hb dL_areCellsRight_482 (by decide) ?_
        cases hf
        exact ih _ _ x2 x3 x4 y0 (x7 + 1) u1 sv _ _ _ _ (by omega) (by omega) hr hP hD hS (lv_sub hl [2, 3, 4, 5, 6, 7, 1, 0] rfl) hk
      have hJ476 : ∀ (u1 : (Nat → Int32)) (sv : SV) (x2 : Int32) (x3 : Int32) (x4 : Int32) (x7 : Int32) (H : Heap) (locs : List Loc) (ls : Array Slot) (r : Sum (Int32 × Int32 × Int32 × Int32 × Int32 × (Nat → Int32) × SV) (Int32 × Int32 × Int32 × Int32 × Int32 × (Nat → Int32) × SV)), f_L_areCellsRight_J476 u1 qv sv x1 x2 x3 x4 x7 = some r → jbR (fun s => f_L_areCellsRight_L117 qv x1 (s.1) (s.2.1) (s.2.2.1) (s.2.2.2.1) (s.2.2.2.2.1) (s.2.2.2.2.2.1) (s.2.2.2.2.2.2)) n117 o117 r → va_P (gD g) vwCl (wA g b1 u1 10 ++ wT g ha tv ++ wQ g (ha 1) qv ++ wS g (ha 3) sv) H → va_D A (wA g b1 u1 10 ++ wT g ha tv ++ wQ g (ha 1) qv ++ wS g (ha 3) sv) → va_S A s.heap H locs → lv_has ls 14 [(0, .ref (ha 0 0)), (1, .int x1), (2, .int x2), (3, .int x3), (4, .int x4), (5, .ref b1), (7, .int x7)] → W p l e rm_L_areCellsRight s mi [.ref (ha 0 0), .int a1].toArray below meth c H locs (cc117 + 9) (sc117 + 54) Q (F0 mi 476 ls []) := by
        intro u1 sv x2 x3 x4 x7 H locs ls r hf hr hP hD hS hl
        unfold f_L_areCellsRight_J476 at hf
        refine lv_iconst (v := 0) hx hb dL_areCellsRight_476 (by decide) ?_
        exact hJ477 u1 sv x2 x3 x4 x7 0 _ _ _ _ hf hr hP hD hS (lv_sub hl [0, 1, 2, 3, 4, 5, 6] rfl)
      have hJ469 : ∀ (u1 : (Nat → Int32)) (sv : SV) (x2 : Int32) (x3 : Int32) (x4 : Int32) (x7 : Int32) (y0 : Int32) (y1 : Int32) (H : Heap) (locs : List Loc) (ls : Array Slot) (r : Sum (Int32 × Int32 × Int32 × Int32 × Int32 × (Nat → Int32) × SV) (Int32 × Int32 × Int32 × Int32 × Int32 × (Nat → Int32) × SV)), f_L_areCellsRight_J469 u1 qv sv x1 x2 x3 x4 x7 y0 y1 = some r → jbR (fun s => f_L_areCellsRight_L117 qv x1 (s.1) (s.2.1) (s.2.2.1) (s.2.2.2.1) (s.2.2.2.2.1) (s.2.2.2.2.2.1) (s.2.2.2.2.2.2)) n117 o117 r → va_P (gD g) vwCl (wA g b1 u1 10 ++ wT g ha tv ++ wQ g (ha 1) qv ++ wS g (ha 3) sv) H → va_D A (wA g b1 u1 10 ++ wT g ha tv ++ wQ g (ha 1) qv ++ wS g (ha 3) sv) → va_S A s.heap H locs → lv_has ls 14 [(0, .ref (ha 0 0)), (1, .int x1), (2, .int x2), (3, .int x3), (4, .int x4), (5, .ref b1), (7, .int x7)] → W p l e rm_L_areCellsRight s mi [.ref (ha 0 0), .int a1].toArray below meth c H locs (cc117 + 9) (sc117 + 54) Q (F0 mi 469 ls [.int y0, .int y1]) := by
        intro u1 sv x2 x3 x4 x7 y0 y1 H locs ls r hf hr hP hD hS hl
        unfold f_L_areCellsRight_J469 at hf
        refine lv_icmp_ne (tgt := 476) hx hb dL_areCellsRight_469 (by decide) (fun hc => ?_) (fun hc => ?_)
        · have hf := jbF hf hc
          exact hJ476 u1 sv x2 x3 x4 x7 _ _ _ _ hf hr hP hD hS (lv_sub hl [0, 1, 2, 3, 4, 5, 6] rfl)
        · have hf := jbT hf hc
          refine lv_iconst (v := 1) hx hb dL_areCellsRight_472 (by decide) ?_
          refine lv_goto (tgt := 477) hx hb dL_areCellsRight_473 (by decide) ?_
          exact hJ477 u1 sv x2 x3 x4 x7 1 _ _ _ _ hf hr hP hD hS (lv_sub hl [0, 1, 2, 3, 4, 5, 6] rfl)
      have hJ441 : ∀ (u1 : (Nat → Int32)) (sv : SV) (x2 : Int32) (x3 : Int32) (x4 : Int32) (x7 : Int32) (y0 : Int32) (H : Heap) (locs : List Loc) (ls : Array Slot) (r : Sum (Int32 × Int32 × Int32 × Int32 × Int32 × (Nat → Int32) × SV) (Int32 × Int32 × Int32 × Int32 × Int32 × (Nat → Int32) × SV)), f_L_areCellsRight_J441 u1 qv sv x1 x2 x3 x4 x7 y0 = some r → jbR (fun s => f_L_areCellsRight_L117 qv x1 (s.1) (s.2.1) (s.2.2.1) (s.2.2.2.1) (s.2.2.2.2.1) (s.2.2.2.2.2.1) (s.2.2.2.2.2.2)) n117 o117 r → va_P (gD g) vwCl (wA g b1 u1 10 ++ wT g ha tv ++ wQ g (ha 1) qv ++ wS g (ha 3) sv) H → va_D A (wA g b1 u1 10 ++ wT g ha tv ++ wQ g (ha 1) qv ++ wS g (ha 3) sv) → va_S A s.heap H locs → lv_has ls 14 [(0, .ref (ha 0 0)), (1, .int x1), (2, .int x2), (3, .int x3), (4, .int x4), (5, .ref b1), (7, .int x7)] → W p l e rm_L_areCellsRight s mi [.ref (ha 0 0), .int a1].toArray below meth c H locs (cc117 + 6) (sc117 + 36) Q (F0 mi 441 ls [.int y0]) := by
        intro u1 sv x2 x3 x4 x7 y0 H locs ls r hf hr hP hD hS hl
        unfold f_L_areCellsRight_J441 at hf
        refine lv_aload_n hx hb dL_areCellsRight_441 rfl (lv_at hl 0 rfl) ?_
        refine lv_iconst (v := 1) hx hb dL_areCellsRight_442 (by decide) ?_
        refine lv_iload hx hb dL_areCellsRight_443 (lv_at hl 6 rfl) ?_
        refine lv_bipush (v := 6) hx hb dL_areCellsRight_445 (by decide) ?_
        refine lv_idiv hx hb dL_areCellsRight_447 (by decide) ?_
        refine lv_iload hx hb dL_areCellsRight_448 (lv_at hl 6 rfl) ?_
        refine lv_bipush (v := 6) hx hb dL_areCellsRight_450 (by decide) ?_
        refine lv_irem hx hb dL_areCellsRight_452 (by decide) ?_
        refine lv_iconst (v := 0) hx hb dL_areCellsRight_453 (by decide) ?_
        refine lv_iconst (v := 0) hx hb dL_areCellsRight_454 (by decide) ?_
        obtain ⟨o66, g67, hf⟩ := jbB_e hf
        refine cws_i (As := [.ref (ha 0 0), .int 1, .int (x7 / 6), .int (x7 - x7 / 6 * 6), .int 0, .int 0]) (rest := [.int y0]) (Wr := (wA g b1 u1 10)) (Wn := (wA g b1 u1 10 ++ wT g ha tv ++ wQ g (ha 1) qv ++ wS g (ha 3) (o66.2))) ⟨hx, hb, hml, hown, hts⟩ (c_L_ask l hlt g ha tv qv sv 1 (x7 / 6) (x7 - x7 / 6 * 6) 0 0 _ g67) (vx_cwSW 6 hts gL_areCellsRight_L_ask rfl rfl rfl hd_L_ask ⟨(Nat.le_of_ble_eq_true rfl), (Nat.le_of_ble_eq_true rfl)⟩) hK hZ hT hA hP hD hS hl.1 (wp_of fun f => by simp only [List.countP_append, List.countP_cons, List.countP_nil] <;> omega) (wp_of fun f => by simp only [List.countP_append, List.countP_cons, List.countP_nil] <;> omega) rfl rfl (Nat.le_of_ble_eq_true rfl) ⟨(show cc117 + 6 + 3 ≤ 298 by omega), (show sc117 + 36 + 18 ≤ 1792 by omega)⟩ dL_areCellsRight_455 (fun H locs hP hD hS => ?_)
        refine lv_sipush (v := (-2004)) hx hb dL_areCellsRight_458 (by decide) ?_
        refine lv_icmp_ne (tgt := 468) hx hb dL_areCellsRight_461 (by decide) (fun hc => ?_) (fun hc => ?_)
        · have hf := jbF hf hc
          refine lv_iconst (v := 0) hx hb dL_areCellsRight_468 (by decide) ?_
          exact hJ469 u1 (o66.2) x2 x3 x4 x7 0 y0 _ _ _ _ hf hr hP hD hS (lv_sub hl [0, 1, 2, 3, 4, 5, 6] rfl)
        · have hf := jbT hf hc
          refine lv_iconst (v := 1) hx hb dL_areCellsRight_464 (by decide) ?_
          refine lv_goto (tgt := 469) hx hb dL_areCellsRight_465 (by decide) ?_
          exact hJ469 u1 (o66.2) x2 x3 x4 x7 1 y0 _ _ _ _ hf hr hP hD hS (lv_sub hl [0, 1, 2, 3, 4, 5, 6] rfl)
      have hL269 : ∀ (b1 : Nat) (u1 : (Nat → Int32)) (sv : SV) (x1 : Int32) (x2 : Int32) (x3 : Int32) (x4 : Int32) (x6 : Int32) (x7 : Int32) (x9 : Int32) (x10 : Int32) (x11 : Int32) (n269 : Nat) (x12 : Int32) (x13 : Int32) (H : Heap) (locs : List Loc) (ls : Array Slot) (o269 : Int32 × Int32), jbL (fun s => f_L_areCellsRight_L269 u1 qv sv x1 x2 x3 x4 x6 x7 x9 x10 x11 (s.1) (s.2)) n269 (x12, x13) = some o269 → va_P (gD g) vwCl (wA g b1 u1 10 ++ wT g ha tv ++ wQ g (ha 1) qv ++ wS g (ha 3) sv) H → va_D A (wA g b1 u1 10 ++ wT g ha tv ++ wQ g (ha 1) qv ++ wS g (ha 3) sv) → va_S A s.heap H locs → lv_has ls 14 [(0, .ref (ha 0 0)), (1, .int x1), (2, .int x2), (3, .int x3), (4, .int x4), (5, .ref b1), (6, .int x6), (7, .int x7), (9, .int x9), (10, .int x10), (11, .int x11), (12, .int x12), (13, .int x13)] → (∀ (H : Heap) (locs : List Loc) (ls : Array Slot), va_P (gD g) vwCl (wA g b1 u1 10 ++ wT g ha tv ++ wQ g (ha 1) qv ++ wS g (ha 3) sv) H → va_D A (wA g b1 u1 10 ++ wT g ha tv ++ wQ g (ha 1) qv ++ wS g (ha 3) sv) → va_S A s.heap H locs → lv_has ls 14 [(0, .ref (ha 0 0)), (1, .int x1), (2, .int x2), (3, .int x3), (4, .int x4), (5, .ref b1), (6, .int x6), (7, .int x7), (9, .int x9), (10, .int x10), (11, .int x11), (12, .int (o269.1))] → W p l e rm_L_areCellsRight s mi [.ref (ha 0 0), .int a1].toArray below meth c H locs (cc117) (sc117) Q (F0 mi 321 ls [])) → W p l e rm_L_areCellsRight s mi [.ref (ha 0 0), .int a1].toArray below meth c H locs (cc117) (sc117) Q (F0 mi 269 ls []) := by
        intro b1 u1 sv x1 x2 x3 x4 x6 x7 x9 x10 x11 n269
        induction n269 with
        | zero => intro x12 x13 H locs ls o269 hf; exact absurd hf (jbL_0 _ _ _)
        | succ n269 ih =>
          intro x12 x13 H locs ls o269 hf hP hD hS hl hk
          obtain ⟨r, hf, hr⟩ := jbL_e hf
          have hf : f_L_areCellsRight_L269 u1 qv sv x1 x2 x3 x4 x6 x7 x9 x10 x11 x12 x13 = some r := hf
          unfold f_L_areCellsRight_L269 at hf
          refine lv_iload hx hb dL_areCellsRight_269 (lv_at hl 12 rfl) ?_
          refine lv_bipush (v := 30) hx hb dL_areCellsRight_271 (by decide) ?_
          refine lv_icmp_ge (tgt := 321) hx hb dL_areCellsRight_273 (by decide) (fun hc => ?_) (fun hc => ?_)
          · have hf := jbT hf hc
            cases hf
            obtain rfl := jbR_r hr
            exact hk _ _ _ hP hD hS (lv_sub hl [0, 1, 2, 3, 4, 5, 6, 7, 8, 9, 10, 11] rfl)
          · have hf := jbF hf hc
            refine lv_iload hx hb dL_areCellsRight_276 (lv_at hl 11 rfl) ?_
            refine lv_iconst (v := 0) hx hb dL_areCellsRight_278 (by decide) ?_
            refine lv_aload_n hx hb dL_areCellsRight_279 rfl (lv_at hl 0 rfl) ?_
            refine lv_iload hx hb dL_areCellsRight_280 (lv_at hl 12 rfl) ?_
            refine lv_bipush (v := 6) hx hb dL_areCellsRight_282 (by decide) ?_
            refine lv_idiv hx hb dL_areCellsRight_284 (by decide) ?_
            refine lv_iload hx hb dL_areCellsRight_285 (lv_at hl 12 rfl) ?_
            refine lv_bipush (v := 6) hx hb dL_areCellsRight_287 (by decide) ?_
            refine lv_irem hx hb dL_areCellsRight_289 (by decide) ?_
            obtain ⟨o59, g60, hf⟩ := jbB_e hf
            rcases o59 with x9 | o59
            · have hf := jbM_l hf
              cases hf
            have hf := jbM_r hf
            refine cpv_i (As := [.int (x13 / 6), .int (x13 - x13 / 6 * 6)]) (rest := [.int 0, .int x12]) (Wr := (wA g b1 u1 10 ++ wS g (ha 3) sv)) (Wn := (wA g b1 u1 10 ++ wT g ha tv ++ wQ g (ha 1) qv ++ wS g (ha 3) sv)) ⟨hx, hb, hml, hown, hts⟩ (cn_X10_height l hlt g ha tv qv (x13 / 6) (x13 - x13 / 6 * 6) _ (show f_X10_height tv qv (x13 / 6) (x13 - x13 / 6 * 6) = some (.inr o59) from g60)) (cwV 2 hts gL_areCellsRight_X10_height rfl rfl rfl hd_X10_height ⟨(Nat.le_of_ble_eq_true rfl), (Nat.le_of_ble_eq_true rfl)⟩) hK hZ hT hA hP hD hS hl.1 (va_recv hK hP (ci := 9) (q0 := 1) rfl rfl) (wp_of fun f => by simp only [List.countP_append, List.countP_cons, List.countP_nil] <;> omega) (wp_of fun f => by simp only [List.countP_append, List.countP_cons, List.countP_nil] <;> omega) rfl rfl (Nat.le_of_ble_eq_true rfl) ⟨(show cc117 + 0 ≤ 298 by omega), (show sc117 + 0 ≤ 1792 by omega)⟩ dL_areCellsRight_290 (fun H locs hP hD hS => ?_)
            refine lv_iload hx hb dL_areCellsRight_293 (lv_at hl 10 rfl) ?_
            refine lv_isub hx hb dL_areCellsRight_295 ?_
            refine lv_aload_n hx hb dL_areCellsRight_296 rfl (lv_at hl 0 rfl) ?_
            obtain ⟨o61, g62, hf⟩ := jbB_e hf
            refine cpv_i (As := []) (rest := [.int (o59 - x11), .int 0, .int x12]) (Wr := (wA g b1 u1 10 ++ wS g (ha 3) sv)) (Wn := (wA g b1 u1 10 ++ wT g ha tv ++ wQ g (ha 1) qv ++ wS g (ha 3) sv)) ⟨hx, hb, hml, hown, hts⟩ (c_X10_stepLimit l hlt g ha tv qv _ (show f_X10_stepLimit tv qv = some o61 from g62)) (cwV 0 hts gL_areCellsRight_X10_stepLimit rfl rfl rfl hd_X10_stepLimit ⟨(Nat.le_of_ble_eq_true rfl), (Nat.le_of_ble_eq_true rfl)⟩) hK hZ hT hA hP hD hS hl.1 (va_recv hK hP (ci := 9) (q0 := 1) rfl rfl) (wp_of fun f => by simp only [List.countP_append, List.countP_cons, List.countP_nil] <;> omega) (wp_of fun f => by simp only [List.countP_append, List.countP_cons, List.countP_nil] <;> omega) rfl rfl (Nat.le_of_ble_eq_true rfl) ⟨(show cc117 + 0 ≤ 298 by omega), (show sc117 + 0 ≤ 1792 by omega)⟩ dL_areCellsRight_297 (fun H locs hP hD hS => ?_)
            refine lv_iload hx hb dL_areCellsRight_300 (lv_at hl 7 rfl) ?_
            refine lv_iload hx hb dL_areCellsRight_302 (lv_at hl 12 rfl) ?_
            obtain ⟨o63, g64, hf⟩ := jbB_e hf
            refine csn_i (As := [.int x7, .int x13]) (rest := [.int o61, .int (o59 - x11), .int 0, .int x12]) ⟨hx, hb, hml, hown, hts⟩ (c_L_far l g x7 x13 _ g64) (va_cwS 2 hts gL_areCellsRight_L_far rfl rfl rfl hd_L_far ⟨(Nat.le_of_ble_eq_true rfl), (Nat.le_of_ble_eq_true rfl)⟩) hK hZ hT hA hP hD hS hl.1 rfl rfl (Nat.le_of_ble_eq_true rfl) ⟨(show cc117 + 0 ≤ 298 by omega), (show sc117 + 0 ≤ 1792 by omega)⟩ dL_areCellsRight_304 (fun H locs hP hD hS => ?_)
            refine lv_imul hx hb dL_areCellsRight_307 ?_
            refine lv_isub hx hb dL_areCellsRight_308 ?_
            refine va_mmax hx hb (hml.trans hl.1.symm) hown k6 k7 k4 k8 (Nat.le_of_ble_eq_true rfl) (Nat.le_of_ble_eq_true rfl) (show cc117 ≤ 298 by omega) (show sc117 ≤ 1792 by omega) dL_areCellsRight_309 ?_
            refine lv_iadd hx hb dL_areCellsRight_312 ?_
            refine lv_topi (fun z65 ez65 => ?_)
            have hf := jbN_e hf ez65
            refine lv_istore (lv' := [(12, .int z65), (0, .ref (ha 0 0)), (1, .int x1), (2, .int x2), (3, .int x3), (4, .int x4), (5, .ref b1), (6, .int x6), (7, .int x7), (9, .int x9), (10, .int x10), (11, .int x11), (13, .int x13)]) hx hb dL_areCellsRight_313 hl (by decide) rfl (fun ls hl => ?_)
            refine lv_iinc (v := (x13 + 1)) (lv' := [(13, .int (x13 + 1)), (12, .int z65), (0, .ref (ha 0 0)), (1, .int x1), (2, .int x2), (3, .int x3), (4, .int x4), (5, .ref b1), (6, .int x6), (7, .int x7), (9, .int x9), (10, .int x10), (11, .int x11)]) hx hb dL_areCellsRight_315 hl (k := 12) rfl rfl (by decide) rfl (fun ls hl => ?_)
            refine lv_goto (tgt := 269) hx hb dL_areCellsRight_318 (by decide) ?_
            cases hf
            exact ih z65 (x13 + 1) _ _ _ _ hr hP hD hS (lv_sub hl [2, 3, 4, 5, 6, 7, 8, 9, 10, 11, 12, 1, 0] rfl) hk
      have hJ245 : ∀ (u1 : (Nat → Int32)) (sv : SV) (x2 : Int32) (x3 : Int32) (x4 : Int32) (x6 : Int32) (x7 : Int32) (x8 : Int32) (x9 : Int32) (y0 : Int32) (H : Heap) (locs : List Loc) (ls : Array Slot) (r : Sum (Int32 × Int32 × Int32 × Int32 × Int32 × (Nat → Int32) × SV) (Int32 × Int32 × Int32 × Int32 × Int32 × (Nat → Int32) × SV)), f_L_areCellsRight_J245 u1 qv sv x1 x2 x3 x4 x6 x7 x8 x9 y0 = some r → jbR (fun s => f_L_areCellsRight_L117 qv x1 (s.1) (s.2.1) (s.2.2.1) (s.2.2.2.1) (s.2.2.2.2.1) (s.2.2.2.2.2.1) (s.2.2.2.2.2.2)) n117 o117 r → va_P (gD g) vwCl (wA g b1 u1 10 ++ wT g ha tv ++ wQ g (ha 1) qv ++ wS g (ha 3) sv) H → va_D A (wA g b1 u1 10 ++ wT g ha tv ++ wQ g (ha 1) qv ++ wS g (ha 3) sv) → va_S A s.heap H locs → lv_has ls 14 [(0, .ref (ha 0 0)), (1, .int x1), (2, .int x2), (3, .int x3), (4, .int x4), (5, .ref b1), (6, .int x6), (7, .int x7), (8, .int x8), (9, .int x9)] → W p l e rm_L_areCellsRight s mi [.ref (ha 0 0), .int a1].toArray below meth c H locs (cc117) (sc117) Q (F0 mi 245 ls [.int y0]) := by
        intro u1 sv x2 x3 x4 x6 x7 x8 x9 y0 H locs ls r hf hr hP hD hS hl
        unfold f_L_areCellsRight_J245 at hf
        refine lv_istore (lv' := [(10, .int y0), (0, .ref (ha 0 0)), (1, .int x1), (2, .int x2), (3, .int x3), (4, .int x4), (5, .ref b1), (6, .int x6), (7, .int x7), (8, .int x8), (9, .int x9)]) hx hb dL_areCellsRight_245 hl (by decide) rfl (fun ls hl => ?_)
        refine lv_iload_n hx hb dL_areCellsRight_247 rfl (lv_at hl 4 rfl) ?_
        refine lv_iload hx hb dL_areCellsRight_248 (lv_at hl 0 rfl) ?_
        obtain ⟨o43, g44, hf⟩ := jbB_e hf
        refine csn_i (As := [.int y0]) (rest := [.int x3]) ⟨hx, hb, hml, hown, hts⟩ (c_L_told l g y0 _ g44) (va_cwS 1 hts gL_areCellsRight_L_told rfl rfl rfl hd_L_told ⟨(Nat.le_of_ble_eq_true rfl), (Nat.le_of_ble_eq_true rfl)⟩) hK hZ hT hA hP hD hS hl.1 rfl rfl (Nat.le_of_ble_eq_true rfl) ⟨(show cc117 + 0 ≤ 298 by omega), (show sc117 + 0 ≤ 1792 by omega)⟩ dL_areCellsRight_250 (fun H locs hP hD hS => ?_)
        refine lv_iadd hx hb dL_areCellsRight_253 ?_
        refine lv_topi (fun z45 ez45 => ?_)
        have hf := jbN_e hf ez45
        refine lv_istore_n (lv' := [(3, .int z45), (10, .int y0), (0, .ref (ha 0 0)), (1, .int x1), (2, .int x2), (4, .int x4), (5, .ref b1), (6, .int x6), (7, .int x7), (8, .int x8), (9, .int x9)]) hx hb dL_areCellsRight_254 rfl hl (by decide) rfl (fun ls hl => ?_)
        refine lv_iload_n hx hb dL_areCellsRight_255 rfl (lv_at hl 3 rfl) ?_
        refine lv_iload hx hb dL_areCellsRight_256 (lv_at hl 9 rfl) ?_
        refine va_mmin hx hb (hml.trans hl.1.symm) hown k2 k3 k4 k5 (Nat.le_of_ble_eq_true rfl) (Nat.le_of_ble_eq_true rfl) (show cc117 ≤ 298 by omega) (show sc117 ≤ 1792 by omega) dL_areCellsRight_258 ?_
        refine lv_topi (fun z46 ez46 => ?_)
        have hf := jbN_e hf ez46
        refine lv_istore (lv' := [(11, .int z46), (3, .int z45), (10, .int y0), (0, .ref (ha 0 0)), (1, .int x1), (2, .int x2), (4, .int x4), (5, .ref b1), (6, .int x6), (7, .int x7), (8, .int x8), (9, .int x9)]) hx hb dL_areCellsRight_261 hl (by decide) rfl (fun ls hl => ?_)
        refine lv_iconst (v := 0) hx hb dL_areCellsRight_263 (by decide) ?_
        refine lv_istore (lv' := [(12, .int 0), (11, .int z46), (3, .int z45), (10, .int y0), (0, .ref (ha 0 0)), (1, .int x1), (2, .int x2), (4, .int x4), (5, .ref b1), (6, .int x6), (7, .int x7), (8, .int x8), (9, .int x9)]) hx hb dL_areCellsRight_264 hl (by decide) rfl (fun ls hl => ?_)
        refine lv_iconst (v := 0) hx hb dL_areCellsRight_266 (by decide) ?_
        refine lv_istore (lv' := [(13, .int 0), (12, .int 0), (11, .int z46), (3, .int z45), (10, .int y0), (0, .ref (ha 0 0)), (1, .int x1), (2, .int x2), (4, .int x4), (5, .ref b1), (6, .int x6), (7, .int x7), (8, .int x8), (9, .int x9)]) hx hb dL_areCellsRight_267 hl (by decide) rfl (fun ls hl => ?_)
        obtain ⟨o269, hg, hf⟩ := jbB_e hf
        refine hL269 b1 u1 sv x1 x2 z45 x4 x6 x7 x9 y0 z46 _ 0 0 _ _ _ _ hg hP hD hS (lv_sub hl [5, 6, 7, 3, 8, 9, 10, 11, 13, 4, 2, 1, 0] rfl) (fun H locs ls hP hD hS hl => ?_)
        refine lv_iload hx hb dL_areCellsRight_321 (lv_at hl 6 rfl) ?_
        refine lv_if_eq (tgt := 476) hx hb dL_areCellsRight_323 (by decide) (fun hc => ?_) (fun hc => ?_)
        · have hf := jbT hf hc
          refine W.widen (k := cc117 + 9) (n := sc117 + 54) (by omega) (by omega) ?_
          exact hJ476 u1 sv x2 z45 x4 x7 _ _ _ _ hf hr hP hD hS (lv_sub hl [0, 1, 2, 3, 4, 5, 7] rfl)
        · have hf := jbF hf hc
          refine lv_aload_n hx hb dL_areCellsRight_326 rfl (lv_at hl 0 rfl) ?_
          refine lv_iload hx hb dL_areCellsRight_327 (lv_at hl 7 rfl) ?_
          refine lv_bipush (v := 6) hx hb dL_areCellsRight_329 (by decide) ?_
          refine lv_idiv hx hb dL_areCellsRight_331 (by decide) ?_
          refine lv_iload hx hb dL_areCellsRight_332 (lv_at hl 7 rfl) ?_
          refine lv_bipush (v := 6) hx hb dL_areCellsRight_334 (by decide) ?_
          refine lv_irem hx hb dL_areCellsRight_336 (by decide) ?_
          obtain ⟨o47, g48, hf⟩ := jbB_e hf
          rcases o47 with x9 | o47
          · have hf := jbM_l hf
            cases hf
          have hf := jbM_r hf
          refine cpv_i (As := [.int (x7 / 6), .int (x7 - x7 / 6 * 6)]) (rest := []) (Wr := (wA g b1 u1 10 ++ wS g (ha 3) sv)) (Wn := (wA g b1 u1 10 ++ wT g ha tv ++ wQ g (ha 1) qv ++ wS g (ha 3) sv)) ⟨hx, hb, hml, hown, hts⟩ (cn_X10_steepestStep l hlt g ha tv qv (x7 / 6) (x7 - x7 / 6 * 6) _ (show f_X10_steepestStep tv qv (x7 / 6) (x7 - x7 / 6 * 6) = some (.inr o47) from g48)) (cwV 2 hts gL_areCellsRight_X10_steepestStep rfl rfl rfl hd_X10_steepestStep ⟨(Nat.le_of_ble_eq_true rfl), (Nat.le_of_ble_eq_true rfl)⟩) hK hZ hT hA hP hD hS hl.1 (va_recv hK hP (ci := 9) (q0 := 1) rfl rfl) (wp_of fun f => by simp only [List.countP_append, List.countP_cons, List.countP_nil] <;> omega) (wp_of fun f => by simp only [List.countP_append, List.countP_cons, List.countP_nil] <;> omega) rfl rfl (Nat.le_of_ble_eq_true rfl) ⟨(show cc117 + 0 ≤ 298 by omega), (show sc117 + 0 ≤ 1792 by omega)⟩ dL_areCellsRight_337 (fun H locs hP hD hS => ?_)
          refine lv_iload hx hb dL_areCellsRight_340 (lv_at hl 8 rfl) ?_
          refine lv_icmp_ne (tgt := 476) hx hb dL_areCellsRight_342 (by decide) (fun hc => ?_) (fun hc => ?_)
          · have hf := jbF hf hc
            refine W.widen (k := cc117 + 9) (n := sc117 + 54) (by omega) (by omega) ?_
            exact hJ476 u1 sv x2 z45 x4 x7 _ _ _ _ hf hr hP hD hS (lv_sub hl [0, 1, 2, 3, 4, 5, 7] rfl)
          · have hf := jbT hf hc
            refine lv_iload hx hb dL_areCellsRight_345 (lv_at hl 8 rfl) ?_
            refine lv_aload_n hx hb dL_areCellsRight_347 rfl (lv_at hl 0 rfl) ?_
            obtain ⟨o49, g50, hf⟩ := jbB_e hf
            refine cpv_i (As := []) (rest := [.int x9]) (Wr := (wA g b1 u1 10 ++ wS g (ha 3) sv)) (Wn := (wA g b1 u1 10 ++ wT g ha tv ++ wQ g (ha 1) qv ++ wS g (ha 3) sv)) ⟨hx, hb, hml, hown, hts⟩ (c_X10_stepLimit l hlt g ha tv qv _ (show f_X10_stepLimit tv qv = some o49 from g50)) (cwV 0 hts gL_areCellsRight_X10_stepLimit rfl rfl rfl hd_X10_stepLimit ⟨(Nat.le_of_ble_eq_true rfl), (Nat.le_of_ble_eq_true rfl)⟩) hK hZ hT hA hP hD hS hl.1 (va_recv hK hP (ci := 9) (q0 := 1) rfl rfl) (wp_of fun f => by simp only [List.countP_append, List.countP_cons, List.countP_nil] <;> omega) (wp_of fun f => by simp only [List.countP_append, List.countP_cons, List.countP_nil] <;> omega) rfl rfl (Nat.le_of_ble_eq_true rfl) ⟨(show cc117 + 0 ≤ 298 by omega), (show sc117 + 0 ≤ 1792 by omega)⟩ dL_areCellsRight_348 (fun H locs hP hD hS => ?_)
            refine lv_icmp_gt (tgt := 476) hx hb dL_areCellsRight_351 (by decide) (fun hc => ?_) (fun hc => ?_)
            · have hf := jbT hf hc
              refine W.widen (k := cc117 + 9) (n := sc117 + 54) (by omega) (by omega) ?_
              exact hJ476 u1 sv x2 z45 x4 x7 _ _ _ _ hf hr hP hD hS (lv_sub hl [0, 1, 2, 3, 4, 5, 7] rfl)
            · have hf := jbF hf hc
              refine lv_aload_n hx hb dL_areCellsRight_354 rfl (lv_at hl 0 rfl) ?_
              refine lv_iload hx hb dL_areCellsRight_355 (lv_at hl 7 rfl) ?_
              refine lv_bipush (v := 6) hx hb dL_areCellsRight_357 (by decide) ?_
              refine lv_idiv hx hb dL_areCellsRight_359 (by decide) ?_
              refine lv_iload hx hb dL_areCellsRight_360 (lv_at hl 7 rfl) ?_
              refine lv_bipush (v := 6) hx hb dL_areCellsRight_362 (by decide) ?_
              refine lv_irem hx hb dL_areCellsRight_364 (by decide) ?_
              obtain ⟨o51, g52, hf⟩ := jbB_e hf
              rcases o51 with x9 | o51
              · have hf := jbM_l hf
                cases hf
              have hf := jbM_r hf
              refine cpv_i (As := [.int (x7 / 6), .int (x7 - x7 / 6 * 6)]) (rest := []) (Wr := (wA g b1 u1 10 ++ wS g (ha 3) sv)) (Wn := (wA g b1 u1 10 ++ wT g ha tv ++ wQ g (ha 1) qv ++ wS g (ha 3) sv)) ⟨hx, hb, hml, hown, hts⟩ (cn_X10_canCut l hlt g ha tv qv (x7 / 6) (x7 - x7 / 6 * 6) _ (show f_X10_canCut tv qv (x7 / 6) (x7 - x7 / 6 * 6) = some (.inr o51) from g52)) (cwV 2 hts gL_areCellsRight_X10_canCut rfl rfl rfl hd_X10_canCut ⟨(Nat.le_of_ble_eq_true rfl), (Nat.le_of_ble_eq_true rfl)⟩) hK hZ hT hA hP hD hS hl.1 (va_recv hK hP (ci := 9) (q0 := 1) rfl rfl) (wp_of fun f => by simp only [List.countP_append, List.countP_cons, List.countP_nil] <;> omega) (wp_of fun f => by simp only [List.countP_append, List.countP_cons, List.countP_nil] <;> omega) rfl rfl (Nat.le_of_ble_eq_true rfl) ⟨(show cc117 + 0 ≤ 298 by omega), (show sc117 + 0 ≤ 1792 by omega)⟩ dL_areCellsRight_365 (fun H locs hP hD hS => ?_)
              refine lv_iload hx hb dL_areCellsRight_368 (lv_at hl 9 rfl) ?_
              refine lv_icmp_ne (tgt := 476) hx hb dL_areCellsRight_370 (by decide) (fun hc => ?_) (fun hc => ?_)
              · have hf := jbF hf hc
                refine W.widen (k := cc117 + 9) (n := sc117 + 54) (by omega) (by omega) ?_
                exact hJ476 u1 sv x2 z45 x4 x7 _ _ _ _ hf hr hP hD hS (lv_sub hl [0, 1, 2, 3, 4, 5, 7] rfl)
              · have hf := jbT hf hc
                refine lv_aload_n hx hb dL_areCellsRight_373 rfl (lv_at hl 0 rfl) ?_
                refine lv_iconst (v := 3) hx hb dL_areCellsRight_374 (by decide) ?_
                refine lv_iload hx hb dL_areCellsRight_375 (lv_at hl 7 rfl) ?_
                refine lv_bipush (v := 6) hx hb dL_areCellsRight_377 (by decide) ?_
                refine lv_idiv hx hb dL_areCellsRight_379 (by decide) ?_
                refine lv_iload hx hb dL_areCellsRight_380 (lv_at hl 7 rfl) ?_
                refine lv_bipush (v := 6) hx hb dL_areCellsRight_382 (by decide) ?_
                refine lv_irem hx hb dL_areCellsRight_384 (by decide) ?_
                refine lv_iload hx hb dL_areCellsRight_385 (lv_at hl 10 rfl) ?_
                refine lv_iconst (v := 0) hx hb dL_areCellsRight_387 (by decide) ?_
                obtain ⟨o53, g54, hf⟩ := jbB_e hf
                refine cws_i (As := [.ref (ha 0 0), .int 3, .int (x7 / 6), .int (x7 - x7 / 6 * 6), .int z46, .int 0]) (rest := []) (Wr := (wA g b1 u1 10)) (Wn := (wA g b1 u1 10 ++ wT g ha tv ++ wQ g (ha 1) qv ++ wS g (ha 3) (o53.2))) ⟨hx, hb, hml, hown, hts⟩ (c_L_ask l hlt g ha tv qv sv 3 (x7 / 6) (x7 - x7 / 6 * 6) z46 0 _ g54) (vx_cwSW 6 hts gL_areCellsRight_L_ask rfl rfl rfl hd_L_ask ⟨(Nat.le_of_ble_eq_true rfl), (Nat.le_of_ble_eq_true rfl)⟩) hK hZ hT hA hP hD hS hl.1 (wp_of fun f => by simp only [List.countP_append, List.countP_cons, List.countP_nil] <;> omega) (wp_of fun f => by simp only [List.countP_append, List.countP_cons, List.countP_nil] <;> omega) rfl rfl (Nat.le_of_ble_eq_true rfl) ⟨(show cc117 + 3 ≤ 298 by omega), (show sc117 + 18 ≤ 1792 by omega)⟩ dL_areCellsRight_388 (fun H locs hP hD hS => ?_)
                refine lv_iload hx hb dL_areCellsRight_391 (lv_at hl 11 rfl) ?_
                refine lv_icmp_ne (tgt := 476) hx hb dL_areCellsRight_393 (by decide) (fun hc => ?_) (fun hc => ?_)
                · have hf := jbF hf hc
                  refine W.widen (k := cc117 + 9) (n := sc117 + 54) (by omega) (by omega) ?_
                  exact hJ476 u1 (o53.2) x2 z45 x4 x7 _ _ _ _ hf hr hP hD hS (lv_sub hl [0, 1, 2, 3, 4, 5, 7] rfl)
                · have hf := jbT hf hc
                  refine lv_aload_n hx hb dL_areCellsRight_396 rfl (lv_at hl 0 rfl) ?_
                  refine lv_iconst (v := 4) hx hb dL_areCellsRight_397 (by decide) ?_
                  refine lv_iload hx hb dL_areCellsRight_398 (lv_at hl 7 rfl) ?_
                  refine lv_bipush (v := 6) hx hb dL_areCellsRight_400 (by decide) ?_
                  refine lv_idiv hx hb dL_areCellsRight_402 (by decide) ?_
                  refine lv_iload hx hb dL_areCellsRight_403 (lv_at hl 7 rfl) ?_
                  refine lv_bipush (v := 6) hx hb dL_areCellsRight_405 (by decide) ?_
                  refine lv_irem hx hb dL_areCellsRight_407 (by decide) ?_
                  refine lv_iload hx hb dL_areCellsRight_408 (lv_at hl 10 rfl) ?_
                  refine lv_iconst (v := 0) hx hb dL_areCellsRight_410 (by decide) ?_
                  obtain ⟨o55, g56, hf⟩ := jbB_e hf
                  refine cws_i (As := [.ref (ha 0 0), .int 4, .int (x7 / 6), .int (x7 - x7 / 6 * 6), .int z46, .int 0]) (rest := []) (Wr := (wA g b1 u1 10)) (Wn := (wA g b1 u1 10 ++ wT g ha tv ++ wQ g (ha 1) qv ++ wS g (ha 3) (o55.2))) ⟨hx, hb, hml, hown, hts⟩ (c_L_ask l hlt g ha tv qv (o53.2) 4 (x7 / 6) (x7 - x7 / 6 * 6) z46 0 _ g56) (vx_cwSW 6 hts gL_areCellsRight_L_ask rfl rfl rfl hd_L_ask ⟨(Nat.le_of_ble_eq_true rfl), (Nat.le_of_ble_eq_true rfl)⟩) hK hZ hT hA hP hD hS hl.1 (wp_of fun f => by simp only [List.countP_append, List.countP_cons, List.countP_nil] <;> omega) (wp_of fun f => by simp only [List.countP_append, List.countP_cons, List.countP_nil] <;> omega) rfl rfl (Nat.le_of_ble_eq_true rfl) ⟨(show cc117 + 3 + 3 ≤ 298 by omega), (show sc117 + 18 + 18 ≤ 1792 by omega)⟩ dL_areCellsRight_411 (fun H locs hP hD hS => ?_)
                  refine lv_iload hx hb dL_areCellsRight_414 (lv_at hl 11 rfl) ?_
                  refine lv_icmp_ne (tgt := 476) hx hb dL_areCellsRight_416 (by decide) (fun hc => ?_) (fun hc => ?_)
                  · have hf := jbF hf hc
                    refine W.widen (k := cc117 + 9) (n := sc117 + 54) (by omega) (by omega) ?_
                    exact hJ476 u1 (o55.2) x2 z45 x4 x7 _ _ _ _ hf hr hP hD hS (lv_sub hl [0, 1, 2, 3, 4, 5, 7] rfl)
                  · have hf := jbT hf hc
                    refine lv_aload_n hx hb dL_areCellsRight_419 rfl (lv_at hl 0 rfl) ?_
                    refine lv_iload hx hb dL_areCellsRight_420 (lv_at hl 7 rfl) ?_
                    refine lv_bipush (v := 6) hx hb dL_areCellsRight_422 (by decide) ?_
                    refine lv_idiv hx hb dL_areCellsRight_424 (by decide) ?_
                    refine lv_iload hx hb dL_areCellsRight_425 (lv_at hl 7 rfl) ?_
                    refine lv_bipush (v := 6) hx hb dL_areCellsRight_427 (by decide) ?_
                    refine lv_irem hx hb dL_areCellsRight_429 (by decide) ?_
                    obtain ⟨o57, g58, hf⟩ := jbB_e hf
                    rcases o57 with x9 | o57
                    · have hf := jbM_l hf
                      cases hf
                    have hf := jbM_r hf
                    refine cpv_i (As := [.int (x7 / 6), .int (x7 - x7 / 6 * 6)]) (rest := []) (Wr := (wA g b1 u1 10 ++ wS g (ha 3) (o55.2))) (Wn := (wA g b1 u1 10 ++ wT g ha tv ++ wQ g (ha 1) qv ++ wS g (ha 3) (o55.2))) ⟨hx, hb, hml, hown, hts⟩ (cn_X10_looseBlocks l hlt g ha tv qv (x7 / 6) (x7 - x7 / 6 * 6) _ (show f_X10_looseBlocks tv qv (x7 / 6) (x7 - x7 / 6 * 6) = some (.inr o57) from g58)) (cwV 2 hts gL_areCellsRight_X10_looseBlocks rfl rfl rfl hd_X10_looseBlocks ⟨(Nat.le_of_ble_eq_true rfl), (Nat.le_of_ble_eq_true rfl)⟩) hK hZ hT hA hP hD hS hl.1 (va_recv hK hP (ci := 9) (q0 := 1) rfl rfl) (wp_of fun f => by simp only [List.countP_append, List.countP_cons, List.countP_nil] <;> omega) (wp_of fun f => by simp only [List.countP_append, List.countP_cons, List.countP_nil] <;> omega) rfl rfl (Nat.le_of_ble_eq_true rfl) ⟨(show cc117 + 6 + 0 ≤ 298 by omega), (show sc117 + 36 + 0 ≤ 1792 by omega)⟩ dL_areCellsRight_430 (fun H locs hP hD hS => ?_)
                    refine lv_if_ne (tgt := 440) hx hb dL_areCellsRight_433 (by decide) (fun hc => ?_) (fun hc => ?_)
                    · have hf := jbF hf hc
                      refine lv_iconst (v := 0) hx hb dL_areCellsRight_440 (by decide) ?_
                      exact hJ441 u1 (o55.2) x2 z45 x4 x7 0 _ _ _ _ hf hr hP hD hS (lv_sub hl [0, 1, 2, 3, 4, 5, 7] rfl)
                    · have hf := jbT hf hc
                      refine lv_iconst (v := 1) hx hb dL_areCellsRight_436 (by decide) ?_
                      refine lv_goto (tgt := 441) hx hb dL_areCellsRight_437 (by decide) ?_
                      exact hJ441 u1 (o55.2) x2 z45 x4 x7 1 _ _ _ _ hf hr hP hD hS (lv_sub hl [0, 1, 2, 3, 4, 5, 7] rfl)
      have hJ244 : ∀ (u1 : (Nat → Int32)) (sv : SV) (x2 : Int32) (x3 : Int32) (x4 : Int32) (x6 : Int32) (x7 : Int32) (x8 : Int32) (x9 : Int32) (H : Heap) (locs : List Loc) (ls : Array Slot) (r : Sum (Int32 × Int32 × Int32 × Int32 × Int32 × (Nat → Int32) × SV) (Int32 × Int32 × Int32 × Int32 × Int32 × (Nat → Int32) × SV)), f_L_areCellsRight_J244 u1 qv sv x1 x2 x3 x4 x6 x7 x8 x9 = some r → jbR (fun s => f_L_areCellsRight_L117 qv x1 (s.1) (s.2.1) (s.2.2.1) (s.2.2.2.1) (s.2.2.2.2.1) (s.2.2.2.2.2.1) (s.2.2.2.2.2.2)) n117 o117 r → va_P (gD g) vwCl (wA g b1 u1 10 ++ wT g ha tv ++ wQ g (ha 1) qv ++ wS g (ha 3) sv) H → va_D A (wA g b1 u1 10 ++ wT g ha tv ++ wQ g (ha 1) qv ++ wS g (ha 3) sv) → va_S A s.heap H locs → lv_has ls 14 [(0, .ref (ha 0 0)), (1, .int x1), (2, .int x2), (3, .int x3), (4, .int x4), (5, .ref b1), (6, .int x6), (7, .int x7), (8, .int x8), (9, .int x9)] → W p l e rm_L_areCellsRight s mi [.ref (ha 0 0), .int a1].toArray below meth c H locs (cc117) (sc117) Q (F0 mi 244 ls []) := by
        intro u1 sv x2 x3 x4 x6 x7 x8 x9 H locs ls r hf hr hP hD hS hl
        unfold f_L_areCellsRight_J244 at hf
        refine lv_iconst (v := 0) hx hb dL_areCellsRight_244 (by decide) ?_
        exact hJ245 u1 sv x2 x3 x4 x6 x7 x8 x9 0 _ _ _ _ hf hr hP hD hS (lv_sub hl [0, 1, 2, 3, 4, 5, 6, 7, 8, 9] rfl)
      refine lv_iload hx hb dL_areCellsRight_117 (lv_at hl 7 rfl) ?_
      refine lv_bipush (v := 30) hx hb dL_areCellsRight_119 (by decide) ?_
      refine lv_icmp_ge (tgt := 485) hx hb dL_areCellsRight_121 (by decide) (fun hc => ?_) (fun hc => ?_)
      · have hf := jbT hf hc
        cases hf
        obtain rfl := jbR_r hr
        refine W.widen (k := 298) (n := 1792) (by omega) (by omega) ?_
        exact hk _ _ _ hP hD hS (lv_sub hl [0, 2, 3, 4, 5, 6] rfl)
      · have hf := jbF hf hc
        refine lv_aload_n hx hb dL_areCellsRight_124 rfl (lv_at hl 0 rfl) ?_
        refine lv_iload hx hb dL_areCellsRight_125 (lv_at hl 7 rfl) ?_
        refine lv_bipush (v := 6) hx hb dL_areCellsRight_127 (by decide) ?_
        refine lv_idiv hx hb dL_areCellsRight_129 (by decide) ?_
        refine lv_iload hx hb dL_areCellsRight_130 (lv_at hl 7 rfl) ?_
        refine lv_bipush (v := 6) hx hb dL_areCellsRight_132 (by decide) ?_
        refine lv_irem hx hb dL_areCellsRight_134 (by decide) ?_
        obtain ⟨o24, g25, hf⟩ := jbB_e hf
        rcases o24 with x9 | o24
        · have hf := jbM_l hf
          cases hf
        have hf := jbM_r hf
        refine cpv_i (As := [.int (x7 / 6), .int (x7 - x7 / 6 * 6)]) (rest := []) (Wr := (wA g b1 u1 10 ++ wS g (ha 3) sv)) (Wn := (wA g b1 u1 10 ++ wT g ha tv ++ wQ g (ha 1) qv ++ wS g (ha 3) sv)) ⟨hx, hb, hml, hown, hts⟩ (cn_X10_height l hlt g ha tv qv (x7 / 6) (x7 - x7 / 6 * 6) _ (show f_X10_height tv qv (x7 / 6) (x7 - x7 / 6 * 6) = some (.inr o24) from g25)) (cwV 2 hts gL_areCellsRight_X10_height rfl rfl rfl hd_X10_height ⟨(Nat.le_of_ble_eq_true rfl), (Nat.le_of_ble_eq_true rfl)⟩) hK hZ hT hA hP hD hS hl.1 (va_recv hK hP (ci := 9) (q0 := 1) rfl rfl) (wp_of fun f => by simp only [List.countP_append, List.countP_cons, List.countP_nil] <;> omega) (wp_of fun f => by simp only [List.countP_append, List.countP_cons, List.countP_nil] <;> omega) rfl rfl (Nat.le_of_ble_eq_true rfl) ⟨(show cc117 + 0 ≤ 298 by omega), (show sc117 + 0 ≤ 1792 by omega)⟩ dL_areCellsRight_135 (fun H locs hP hD hS => ?_)
        refine lv_istore (lv' := [(8, .int o24), (0, .ref (ha 0 0)), (1, .int x1), (2, .int x2), (3, .int x3), (4, .int x4), (5, .ref b1), (6, .int x6), (7, .int x7)]) hx hb dL_areCellsRight_138 hl (by decide) rfl (fun ls hl => ?_)
        refine lv_aload_n hx hb dL_areCellsRight_140 rfl (lv_at hl 1 rfl) ?_
        refine lv_iload hx hb dL_areCellsRight_141 (lv_at hl 8 rfl) ?_
        refine lv_iload hx hb dL_areCellsRight_143 (lv_at hl 0 rfl) ?_
        obtain ⟨o26, g27, hf⟩ := jbB_e hf
        refine cps_i (As := [.ref (ha 0 0), .int x7, .int o24]) (rest := []) (Wr := (wA g b1 u1 10 ++ wS g (ha 3) sv)) (Wn := (wA g b1 u1 10 ++ wT g ha tv ++ wQ g (ha 1) qv ++ wS g (ha 3) sv)) ⟨hx, hb, hml, hown, hts⟩ (c_L_steepest l hlt g ha tv qv x7 o24 _ g27) (va_cwS 3 hts gL_areCellsRight_L_steepest rfl rfl rfl hd_L_steepest ⟨(Nat.le_of_ble_eq_true rfl), (Nat.le_of_ble_eq_true rfl)⟩) hK hZ hT hA hP hD hS hl.1 (wp_of fun f => by simp only [List.countP_append, List.countP_cons, List.countP_nil] <;> omega) (wp_of fun f => by simp only [List.countP_append, List.countP_cons, List.countP_nil] <;> omega) rfl rfl (Nat.le_of_ble_eq_true rfl) ⟨(show cc117 + 0 ≤ 298 by omega), (show sc117 + 0 ≤ 1792 by omega)⟩ dL_areCellsRight_145 (fun H locs hP hD hS => ?_)
        refine lv_istore (lv' := [(9, .int o26), (8, .int o24), (0, .ref (ha 0 0)), (1, .int x1), (2, .int x2), (3, .int x3), (4, .int x4), (5, .ref b1), (6, .int x6), (7, .int x7)]) hx hb dL_areCellsRight_148 hl (by decide) rfl (fun ls hl => ?_)
        refine lv_iload_n hx hb dL_areCellsRight_150 rfl (lv_at hl 4 rfl) ?_
        refine lv_iload hx hb dL_areCellsRight_151 (lv_at hl 1 rfl) ?_
        refine lv_iadd hx hb dL_areCellsRight_153 ?_
        refine lv_topi (fun z28 ez28 => ?_)
        have hf := jbN_e hf ez28
        refine lv_istore_n (lv' := [(2, .int z28), (9, .int o26), (8, .int o24), (0, .ref (ha 0 0)), (1, .int x1), (3, .int x3), (4, .int x4), (5, .ref b1), (6, .int x6), (7, .int x7)]) hx hb dL_areCellsRight_154 rfl hl (by decide) rfl (fun ls hl => ?_)
        refine lv_aload hx hb dL_areCellsRight_155 (lv_at hl 7 rfl) ?_
        refine lv_iload hx hb dL_areCellsRight_157 (lv_at hl 2 rfl) ?_
        refine lv_dup2_11 hx hb dL_areCellsRight_159 rfl rfl ?_
        obtain ⟨h29, hf⟩ := jbA_e hf
        refine va_iald hx hb hK hP 0 0 rfl rfl h29 dL_areCellsRight_160 ?_
        refine lv_iconst (v := 1) hx hb dL_areCellsRight_161 (by decide) ?_
        refine lv_iadd hx hb dL_areCellsRight_162 ?_
        obtain ⟨h30, hf⟩ := jbA_e hf
        refine va_iast hx hb hK hP hD hS 0 0 rfl rfl h30 dL_areCellsRight_163 (fun H locs hP hD hS => ?_)
        obtain ⟨w31, ew31⟩ : ∃ y, y = (upd u1 o24.toNatClampNeg ((u1 o24.toNatClampNeg) + 1)) := ⟨_, rfl⟩
        have hf := jbN_e hf ew31
        have hP : va_P (gD g) vwCl (wA g b1 w31 10 ++ wT g ha tv ++ wQ g (ha 1) qv ++ wS g (ha 3) sv) H := by rw [ew31]; exact hP
        have hD : va_D A (wA g b1 w31 10 ++ wT g ha tv ++ wQ g (ha 1) qv ++ wS g (ha 3) sv) := by rw [ew31]; exact hD
        refine lv_iload hx hb dL_areCellsRight_164 (lv_at hl 6 rfl) ?_
        refine lv_aload_n hx hb dL_areCellsRight_166 rfl (lv_at hl 3 rfl) ?_
        refine lv_iload hx hb dL_areCellsRight_167 (lv_at hl 9 rfl) ?_
        refine lv_bipush (v := 6) hx hb dL_areCellsRight_169 (by decide) ?_
        refine lv_idiv hx hb dL_areCellsRight_171 (by decide) ?_
        refine lv_iload hx hb dL_areCellsRight_172 (lv_at hl 9 rfl) ?_
        refine lv_bipush (v := 6) hx hb dL_areCellsRight_174 (by decide) ?_
        refine lv_irem hx hb dL_areCellsRight_176 (by decide) ?_
        obtain ⟨o32, g33, hf⟩ := jbB_e hf
        rcases o32 with x9 | o32
        · have hf := jbM_l hf
          cases hf
        have hf := jbM_r hf
        refine cpv_i (As := [.int (x7 / 6), .int (x7 - x7 / 6 * 6)]) (rest := [.int x4]) (Wr := (wA g b1 w31 10 ++ wS g (ha 3) sv)) (Wn := (wA g b1 w31 10 ++ wT g ha tv ++ wQ g (ha 1) qv ++ wS g (ha 3) sv)) ⟨hx, hb, hml, hown, hts⟩ (cn_X10_looseBlocks l hlt g ha tv qv (x7 / 6) (x7 - x7 / 6 * 6) _ (show f_X10_looseBlocks tv qv (x7 / 6) (x7 - x7 / 6 * 6) = some (.inr o32) from g33)) (cwV 2 hts gL_areCellsRight_X10_looseBlocks rfl rfl rfl hd_X10_looseBlocks ⟨(Nat.le_of_ble_eq_true rfl), (Nat.le_of_ble_eq_true rfl)⟩) hK hZ hT hA hP hD hS hl.1 (va_recv hK hP (ci := 9) (q0 := 1) rfl rfl) (wp_of fun f => by simp only [List.countP_append, List.countP_cons, List.countP_nil] <;> omega) (wp_of fun f => by simp only [List.countP_append, List.countP_cons, List.countP_nil] <;> omega) rfl rfl (Nat.le_of_ble_eq_true rfl) ⟨(show cc117 + 0 ≤ 298 by omega), (show sc117 + 0 ≤ 1792 by omega)⟩ dL_areCellsRight_177 (fun H locs hP hD hS => ?_)
        refine lv_iadd hx hb dL_areCellsRight_180 ?_
        refine lv_topi (fun z34 ez34 => ?_)
        have hf := jbN_e hf ez34
        refine lv_istore (lv' := [(4, .int z34), (2, .int z28), (9, .int o26), (8, .int o24), (0, .ref (ha 0 0)), (1, .int x1), (3, .int x3), (5, .ref b1), (6, .int x6), (7, .int x7)]) hx hb dL_areCellsRight_181 hl (by decide) rfl (fun ls hl => ?_)
        refine lv_aload_n hx hb dL_areCellsRight_183 rfl (lv_at hl 4 rfl) ?_
        refine lv_iload hx hb dL_areCellsRight_184 (lv_at hl 9 rfl) ?_
        refine lv_bipush (v := 6) hx hb dL_areCellsRight_186 (by decide) ?_
        refine lv_idiv hx hb dL_areCellsRight_188 (by decide) ?_
        refine lv_iload hx hb dL_areCellsRight_189 (lv_at hl 9 rfl) ?_
        refine lv_bipush (v := 6) hx hb dL_areCellsRight_191 (by decide) ?_
        refine lv_irem hx hb dL_areCellsRight_193 (by decide) ?_
        obtain ⟨o35, g36, hf⟩ := jbB_e hf
        rcases o35 with x9 | o35
        · have hf := jbM_l hf
          cases hf
        have hf := jbM_r hf
        refine cpv_i (As := [.int (x7 / 6), .int (x7 - x7 / 6 * 6)]) (rest := []) (Wr := (wA g b1 w31 10 ++ wS g (ha 3) sv)) (Wn := (wA g b1 w31 10 ++ wT g ha tv ++ wQ g (ha 1) qv ++ wS g (ha 3) sv)) ⟨hx, hb, hml, hown, hts⟩ (cn_X10_isLedge l hlt g ha tv qv (x7 / 6) (x7 - x7 / 6 * 6) _ (show f_X10_isLedge tv qv (x7 / 6) (x7 - x7 / 6 * 6) = some (.inr o35) from g36)) (cwV 2 hts gL_areCellsRight_X10_isLedge rfl rfl rfl hd_X10_isLedge ⟨(Nat.le_of_ble_eq_true rfl), (Nat.le_of_ble_eq_true rfl)⟩) hK hZ hT hA hP hD hS hl.1 (va_recv hK hP (ci := 9) (q0 := 1) rfl rfl) (wp_of fun f => by simp only [List.countP_append, List.countP_cons, List.countP_nil] <;> omega) (wp_of fun f => by simp only [List.countP_append, List.countP_cons, List.countP_nil] <;> omega) rfl rfl (Nat.le_of_ble_eq_true rfl) ⟨(show cc117 + 0 ≤ 298 by omega), (show sc117 + 0 ≤ 1792 by omega)⟩ dL_areCellsRight_194 (fun H locs hP hD hS => ?_)
        refine lv_if_ne (tgt := 244) hx hb dL_areCellsRight_197 (by decide) (fun hc => ?_) (fun hc => ?_)
        · have hf := jbF hf hc
          exact hJ244 w31 sv z28 x3 z34 x6 x7 o24 o26 _ _ _ _ hf hr hP hD hS (lv_sub hl [4, 5, 1, 6, 0, 7, 8, 9, 3, 2] rfl)
        · have hf := jbT hf hc
          refine lv_iload hx hb dL_areCellsRight_200 (lv_at hl 3 rfl) ?_
          refine lv_if_le (tgt := 244) hx hb dL_areCellsRight_202 (by decide) (fun hc => ?_) (fun hc => ?_)
          · have hf := jbT hf hc
            exact hJ244 w31 sv z28 x3 z34 x6 x7 o24 o26 _ _ _ _ hf hr hP hD hS (lv_sub hl [4, 5, 1, 6, 0, 7, 8, 9, 3, 2] rfl)
          · have hf := jbF hf hc
            refine lv_aload_n hx hb dL_areCellsRight_205 rfl (lv_at hl 4 rfl) ?_
            refine lv_iload hx hb dL_areCellsRight_206 (lv_at hl 9 rfl) ?_
            refine lv_bipush (v := 6) hx hb dL_areCellsRight_208 (by decide) ?_
            refine lv_idiv hx hb dL_areCellsRight_210 (by decide) ?_
            refine lv_iload hx hb dL_areCellsRight_211 (lv_at hl 9 rfl) ?_
            refine lv_bipush (v := 6) hx hb dL_areCellsRight_213 (by decide) ?_
            refine lv_irem hx hb dL_areCellsRight_215 (by decide) ?_
            obtain ⟨o37, g38, hf⟩ := jbB_e hf
            rcases o37 with x9 | o37
            · have hf := jbM_l hf
              cases hf
            have hf := jbM_r hf
            refine cpv_i (As := [.int (x7 / 6), .int (x7 - x7 / 6 * 6)]) (rest := []) (Wr := (wA g b1 w31 10 ++ wS g (ha 3) sv)) (Wn := (wA g b1 w31 10 ++ wT g ha tv ++ wQ g (ha 1) qv ++ wS g (ha 3) sv)) ⟨hx, hb, hml, hown, hts⟩ (cn_X10_looseBlocks l hlt g ha tv qv (x7 / 6) (x7 - x7 / 6 * 6) _ (show f_X10_looseBlocks tv qv (x7 / 6) (x7 - x7 / 6 * 6) = some (.inr o37) from g38)) (cwV 2 hts gL_areCellsRight_X10_looseBlocks rfl rfl rfl hd_X10_looseBlocks ⟨(Nat.le_of_ble_eq_true rfl), (Nat.le_of_ble_eq_true rfl)⟩) hK hZ hT hA hP hD hS hl.1 (va_recv hK hP (ci := 9) (q0 := 1) rfl rfl) (wp_of fun f => by simp only [List.countP_append, List.countP_cons, List.countP_nil] <;> omega) (wp_of fun f => by simp only [List.countP_append, List.countP_cons, List.countP_nil] <;> omega) rfl rfl (Nat.le_of_ble_eq_true rfl) ⟨(show cc117 + 0 ≤ 298 by omega), (show sc117 + 0 ≤ 1792 by omega)⟩ dL_areCellsRight_216 (fun H locs hP hD hS => ?_)
            refine lv_iconst (v := 3) hx hb dL_areCellsRight_219 (by decide) ?_
            refine lv_icmp_ge (tgt := 244) hx hb dL_areCellsRight_220 (by decide) (fun hc => ?_) (fun hc => ?_)
            · have hf := jbT hf hc
              exact hJ244 w31 sv z28 x3 z34 x6 x7 o24 o26 _ _ _ _ hf hr hP hD hS (lv_sub hl [4, 5, 1, 6, 0, 7, 8, 9, 3, 2] rfl)
            · have hf := jbF hf hc
              refine lv_aload_n hx hb dL_areCellsRight_223 rfl (lv_at hl 4 rfl) ?_
              refine lv_iload hx hb dL_areCellsRight_224 (lv_at hl 9 rfl) ?_
              refine lv_iload hx hb dL_areCellsRight_226 (lv_at hl 3 rfl) ?_
              refine lv_iconst (v := 1) hx hb dL_areCellsRight_228 (by decide) ?_
              refine lv_isub hx hb dL_areCellsRight_229 ?_
              obtain ⟨o39, g40, hf⟩ := jbB_e hf
              refine cps_i (As := [.ref (ha 0 0), .int x7, .int (o24 - 1)]) (rest := []) (Wr := (wA g b1 w31 10 ++ wS g (ha 3) sv)) (Wn := (wA g b1 w31 10 ++ wT g ha tv ++ wQ g (ha 1) qv ++ wS g (ha 3) sv)) ⟨hx, hb, hml, hown, hts⟩ (c_L_steepest l hlt g ha tv qv x7 (o24 - 1) _ g40) (va_cwS 3 hts gL_areCellsRight_L_steepest rfl rfl rfl hd_L_steepest ⟨(Nat.le_of_ble_eq_true rfl), (Nat.le_of_ble_eq_true rfl)⟩) hK hZ hT hA hP hD hS hl.1 (wp_of fun f => by simp only [List.countP_append, List.countP_cons, List.countP_nil] <;> omega) (wp_of fun f => by simp only [List.countP_append, List.countP_cons, List.countP_nil] <;> omega) rfl rfl (Nat.le_of_ble_eq_true rfl) ⟨(show cc117 + 0 ≤ 298 by omega), (show sc117 + 0 ≤ 1792 by omega)⟩ dL_areCellsRight_230 (fun H locs hP hD hS => ?_)
              refine lv_aload_n hx hb dL_areCellsRight_233 rfl (lv_at hl 4 rfl) ?_
              obtain ⟨o41, g42, hf⟩ := jbB_e hf
              refine cpv_i (As := []) (rest := [.int o39]) (Wr := (wA g b1 w31 10 ++ wS g (ha 3) sv)) (Wn := (wA g b1 w31 10 ++ wT g ha tv ++ wQ g (ha 1) qv ++ wS g (ha 3) sv)) ⟨hx, hb, hml, hown, hts⟩ (c_X10_stepLimit l hlt g ha tv qv _ (show f_X10_stepLimit tv qv = some o41 from g42)) (cwV 0 hts gL_areCellsRight_X10_stepLimit rfl rfl rfl hd_X10_stepLimit ⟨(Nat.le_of_ble_eq_true rfl), (Nat.le_of_ble_eq_true rfl)⟩) hK hZ hT hA hP hD hS hl.1 (va_recv hK hP (ci := 9) (q0 := 1) rfl rfl) (wp_of fun f => by simp only [List.countP_append, List.countP_cons, List.countP_nil] <;> omega) (wp_of fun f => by simp only [List.countP_append, List.countP_cons, List.countP_nil] <;> omega) rfl rfl (Nat.le_of_ble_eq_true rfl) ⟨(show cc117 + 0 ≤ 298 by omega), (show sc117 + 0 ≤ 1792 by omega)⟩ dL_areCellsRight_234 (fun H locs hP hD hS => ?_)
              refine lv_icmp_gt (tgt := 244) hx hb dL_areCellsRight_237 (by decide) (fun hc => ?_) (fun hc => ?_)
              · have hf := jbT hf hc
                exact hJ244 w31 sv z28 x3 z34 x6 x7 o24 o26 _ _ _ _ hf hr hP hD hS (lv_sub hl [4, 5, 1, 6, 0, 7, 8, 9, 3, 2] rfl)
              · have hf := jbF hf hc
                refine lv_iconst (v := 1) hx hb dL_areCellsRight_240 (by decide) ?_
                refine lv_goto (tgt := 245) hx hb dL_areCellsRight_241 (by decide) ?_
                exact hJ245 w31 sv z28 x3 z34 x6 x7 o24 o26 1 _ _ _ _ hf hr hP hD hS (lv_sub hl [4, 5, 1, 6, 0, 7, 8, 9, 3, 2] rfl)
  have hJ112 : ∀ (b1 : Nat) (u1 : (Nat → Int32)) (sv : SV) (x1 : Int32) (x2 : Int32) (x3 : Int32) (x4 : Int32) (y0 : Int32) (H : Heap) (locs : List Loc) (ls : Array Slot), f_L_areCellsRight_J112 u1 qv sv x1 x2 x3 x4 y0 = some out → va_P (gD g) vwCl (wA g b1 u1 10 ++ wT g ha tv ++ wQ g (ha 1) qv ++ wS g (ha 3) sv) H → va_D A (wA g b1 u1 10 ++ wT g ha tv ++ wQ g (ha 1) qv ++ wS g (ha 3) sv) → va_S A s.heap H locs → lv_has ls 14 [(0, .ref (ha 0 0)), (1, .int x1), (2, .int x2), (3, .int x3), (4, .int x4), (5, .ref b1)] → W p l e rm_L_areCellsRight s mi [.ref (ha 0 0), .int a1].toArray below meth c H locs (19) (118) Q (F0 mi 112 ls [.int y0]) := by
    intro b1 u1 sv x1 x2 x3 x4 y0 H locs ls hf hP hD hS hl
    unfold f_L_areCellsRight_J112 at hf
    refine lv_istore (lv' := [(6, .int y0), (0, .ref (ha 0 0)), (1, .int x1), (2, .int x2), (3, .int x3), (4, .int x4), (5, .ref b1)]) hx hb dL_areCellsRight_112 hl (by decide) rfl (fun ls hl => ?_)
    refine lv_iconst (v := 0) hx hb dL_areCellsRight_114 (by decide) ?_
    refine lv_istore (lv' := [(7, .int 0), (6, .int y0), (0, .ref (ha 0 0)), (1, .int x1), (2, .int x2), (3, .int x3), (4, .int x4), (5, .ref b1)]) hx hb dL_areCellsRight_115 hl (by decide) rfl (fun ls hl => ?_)
    obtain ⟨o117, hg, hf⟩ := jbB_e hf
    refine hL117 b1 x1 _ _ _ x2 x3 x4 y0 0 u1 sv _ _ _ _ (Nat.le_of_ble_eq_true rfl) (Nat.le_of_ble_eq_true rfl) hg hP hD hS (lv_sub hl [2, 3, 4, 5, 6, 7, 1, 0] rfl) (fun H locs ls hP hD hS hl => ?_)
    refine lv_iconst (v := 0) hx hb dL_areCellsRight_485 (by decide) ?_
    refine lv_istore (lv' := [(7, .int 0), (0, .ref (ha 0 0)), (2, .int (o117.1)), (3, .int (o117.2.1)), (4, .int (o117.2.2.1)), (5, .ref b1), (6, .int (o117.2.2.2.1))]) hx hb dL_areCellsRight_486 hl (by decide) rfl (fun ls hl => ?_)
    obtain ⟨o488, hg, hf⟩ := jbB_e hf
    refine hL488 b1 (o117.2.2.2.2.2.1) (o117.2.2.2.2.2.2) (o117.1) (o117.2.1) (o117.2.2.1) _ (o117.2.2.2.1) 0 _ _ _ _ hg hP hD hS (lv_sub hl [1, 2, 3, 4, 5, 6, 0] rfl) (fun H locs ls hP hD hS hl => ?_)
    refine lv_aload_n hx hb dL_areCellsRight_527 rfl (lv_at hl 0 rfl) ?_
    obtain ⟨o14, g15, hf⟩ := jbB_e hf
    refine cpv_i (As := []) (rest := []) (Wr := (wA g b1 (o117.2.2.2.2.2.1) 10 ++ wS g (ha 3) (o117.2.2.2.2.2.2))) (Wn := (wA g b1 (o117.2.2.2.2.2.1) 10 ++ wT g ha tv ++ wQ g (ha 1) qv ++ wS g (ha 3) (o117.2.2.2.2.2.2))) ⟨hx, hb, hml, hown, hts⟩ (c_X10_cutTotal l hlt g ha tv qv _ (show f_X10_cutTotal tv qv = some o14 from g15)) (cwV 0 hts gL_areCellsRight_X10_cutTotal rfl rfl rfl hd_X10_cutTotal ⟨(Nat.le_of_ble_eq_true rfl), (Nat.le_of_ble_eq_true rfl)⟩) hK hZ hT hA hP hD hS hl.1 (va_recv hK hP (ci := 9) (q0 := 1) rfl rfl) (wp_of fun f => by simp only [List.countP_append, List.countP_cons, List.countP_nil] <;> omega) (wp_of fun f => by simp only [List.countP_append, List.countP_cons, List.countP_nil] <;> omega) rfl rfl (Nat.le_of_ble_eq_true rfl) ⟨(Nat.le_of_ble_eq_true rfl), (Nat.le_of_ble_eq_true rfl)⟩ dL_areCellsRight_528 (fun H locs hP hD hS => ?_)
    refine lv_iload hx hb dL_areCellsRight_531 (lv_at hl 3 rfl) ?_
    refine lv_isub hx hb dL_areCellsRight_533 ?_
    refine lv_topi (fun z16 ez16 => ?_)
    have hf := jbN_e hf ez16
    refine lv_istore (lv' := [(7, .int z16), (0, .ref (ha 0 0)), (2, .int (o117.1)), (3, .int (o117.2.1)), (4, .int (o117.2.2.1)), (6, .int (o488.1))]) hx hb dL_areCellsRight_534 hl (by decide) rfl (fun ls hl => ?_)
    refine lv_iload hx hb dL_areCellsRight_536 (lv_at hl 5 rfl) ?_
    refine lv_if_eq (tgt := 574) hx hb dL_areCellsRight_538 (by decide) (fun hc => ?_) (fun hc => ?_)
    · have hf := jbT hf hc
      exact hJ574 b1 (o117.2.2.2.2.2.1) (o117.2.2.2.2.2.2) z16 _ _ _ hf hP hD hS (lv_sub hl [1, 0] rfl)
    · have hf := jbF hf hc
      refine lv_aload_n hx hb dL_areCellsRight_541 rfl (lv_at hl 1 rfl) ?_
      obtain ⟨o17, g18, hf⟩ := jbB_e hf
      refine cpv_i (As := []) (rest := []) (Wr := (wA g b1 (o117.2.2.2.2.2.1) 10 ++ wS g (ha 3) (o117.2.2.2.2.2.2))) (Wn := (wA g b1 (o117.2.2.2.2.2.1) 10 ++ wT g ha tv ++ wQ g (ha 1) qv ++ wS g (ha 3) (o117.2.2.2.2.2.2))) ⟨hx, hb, hml, hown, hts⟩ (c_X10_cuttableCells l hlt g ha tv qv _ (show f_X10_cuttableCells tv qv = some o17 from g18)) (cwV 0 hts gL_areCellsRight_X10_cuttableCells rfl rfl rfl hd_X10_cuttableCells ⟨(Nat.le_of_ble_eq_true rfl), (Nat.le_of_ble_eq_true rfl)⟩) hK hZ hT hA hP hD hS hl.1 (va_recv hK hP (ci := 9) (q0 := 1) rfl rfl) (wp_of fun f => by simp only [List.countP_append, List.countP_cons, List.countP_nil] <;> omega) (wp_of fun f => by simp only [List.countP_append, List.countP_cons, List.countP_nil] <;> omega) rfl rfl (Nat.le_of_ble_eq_true rfl) ⟨(Nat.le_of_ble_eq_true rfl), (Nat.le_of_ble_eq_true rfl)⟩ dL_areCellsRight_542 (fun H locs hP hD hS => ?_)
      refine lv_iload_n hx hb dL_areCellsRight_545 rfl (lv_at hl 3 rfl) ?_
      refine lv_icmp_ne (tgt := 574) hx hb dL_areCellsRight_546 (by decide) (fun hc => ?_) (fun hc => ?_)
      · have hf := jbF hf hc
        exact hJ574 b1 (o117.2.2.2.2.2.1) (o117.2.2.2.2.2.2) z16 _ _ _ hf hP hD hS (lv_sub hl [1, 0] rfl)
      · have hf := jbT hf hc
        refine lv_aload_n hx hb dL_areCellsRight_549 rfl (lv_at hl 1 rfl) ?_
        obtain ⟨o19, g20, hf⟩ := jbB_e hf
        refine cpv_d (As := []) (rest := []) (Wr := (wA g b1 (o117.2.2.2.2.2.1) 10 ++ wS g (ha 3) (o117.2.2.2.2.2.2))) (Wn := (wA g b1 (o117.2.2.2.2.2.1) 10 ++ wT g ha tv ++ wQ g (ha 1) qv ++ wS g (ha 3) (o117.2.2.2.2.2.2))) ⟨hx, hb, hml, hown, hts⟩ (c_X10_meanHeight l hlt g ha tv qv _ (show f_X10_meanHeight tv qv = some o19 from g20)) (cwV 0 hts gL_areCellsRight_X10_meanHeight rfl rfl rfl hd_X10_meanHeight ⟨(Nat.le_of_ble_eq_true rfl), (Nat.le_of_ble_eq_true rfl)⟩) hK hZ hT hA hP hD hS hl.1 (va_recv hK hP (ci := 9) (q0 := 1) rfl rfl) (wp_of fun f => by simp only [List.countP_append, List.countP_cons, List.countP_nil] <;> omega) (wp_of fun f => by simp only [List.countP_append, List.countP_cons, List.countP_nil] <;> omega) rfl rfl (Nat.le_of_ble_eq_true rfl) ⟨(Nat.le_of_ble_eq_true rfl), (Nat.le_of_ble_eq_true rfl)⟩ dL_areCellsRight_550 (fun H locs hP hD hS => ?_)
        refine lv_iload_n hx hb dL_areCellsRight_553 rfl (lv_at hl 2 rfl) ?_
        refine lv_i2d hx hb dL_areCellsRight_554 ?_
        refine lv_ldc2d (v := 4629137466983448576) hx hb hown k1 dL_areCellsRight_555 ?_
        obtain ⟨h21, hf⟩ := jbA_e hf
        refine lv_ddiv hx hb dL_areCellsRight_558 h21 ?_
        refine lv_dcmp hx hb dL_areCellsRight_559 ?_
        refine lv_if_ne (tgt := 574) hx hb dL_areCellsRight_560 (by decide) (fun hc => ?_) (fun hc => ?_)
        · have hf := jbF hf hc
          exact hJ574 b1 (o117.2.2.2.2.2.1) (o117.2.2.2.2.2.2) z16 _ _ _ hf hP hD hS (lv_sub hl [1, 0] rfl)
        · have hf := jbT hf hc
          refine lv_aload_n hx hb dL_areCellsRight_563 rfl (lv_at hl 1 rfl) ?_
          obtain ⟨o22, g23, hf⟩ := jbB_e hf
          refine cpv_i (As := []) (rest := []) (Wr := (wA g b1 (o117.2.2.2.2.2.1) 10)) (Wn := (wA g b1 (o117.2.2.2.2.2.1) 10 ++ wT g ha tv ++ wQ g (ha 1) qv ++ wS g (ha 3) (o22.2))) ⟨hx, hb, hml, hown, hts⟩ (c_X10_isConsistent l hlt g ha tv qv (o117.2.2.2.2.2.2) _ (show f_X10_isConsistent tv qv (o117.2.2.2.2.2.2) = some o22 from g23)) (cwV 0 hts gL_areCellsRight_X10_isConsistent rfl rfl rfl hd_X10_isConsistent ⟨(Nat.le_of_ble_eq_true rfl), (Nat.le_of_ble_eq_true rfl)⟩) hK hZ hT hA hP hD hS hl.1 (va_recv hK hP (ci := 9) (q0 := 1) rfl rfl) (wp_of fun f => by simp only [List.countP_append, List.countP_cons, List.countP_nil] <;> omega) (wp_of fun f => by simp only [List.countP_append, List.countP_cons, List.countP_nil] <;> omega) rfl rfl (Nat.le_of_ble_eq_true rfl) ⟨(Nat.le_of_ble_eq_true rfl), (Nat.le_of_ble_eq_true rfl)⟩ dL_areCellsRight_564 (fun H locs hP hD hS => ?_)
          refine lv_if_eq (tgt := 574) hx hb dL_areCellsRight_567 (by decide) (fun hc => ?_) (fun hc => ?_)
          · have hf := jbT hf hc
            exact hJ574 b1 (o117.2.2.2.2.2.1) (o22.2) z16 _ _ _ hf hP hD hS (lv_sub hl [1, 0] rfl)
          · have hf := jbF hf hc
            refine lv_iconst (v := 1) hx hb dL_areCellsRight_570 (by decide) ?_
            refine lv_goto (tgt := 575) hx hb dL_areCellsRight_571 (by decide) ?_
            exact hJ575 b1 (o117.2.2.2.2.2.1) (o22.2) z16 1 _ _ _ hf hP hD hS (lv_sub hl [1, 0] rfl)
  have hJ111 : ∀ (b1 : Nat) (u1 : (Nat → Int32)) (sv : SV) (x1 : Int32) (x2 : Int32) (x3 : Int32) (x4 : Int32) (H : Heap) (locs : List Loc) (ls : Array Slot), f_L_areCellsRight_J111 u1 qv sv x1 x2 x3 x4 = some out → va_P (gD g) vwCl (wA g b1 u1 10 ++ wT g ha tv ++ wQ g (ha 1) qv ++ wS g (ha 3) sv) H → va_D A (wA g b1 u1 10 ++ wT g ha tv ++ wQ g (ha 1) qv ++ wS g (ha 3) sv) → va_S A s.heap H locs → lv_has ls 14 [(0, .ref (ha 0 0)), (1, .int x1), (2, .int x2), (3, .int x3), (4, .int x4), (5, .ref b1)] → W p l e rm_L_areCellsRight s mi [.ref (ha 0 0), .int a1].toArray below meth c H locs (19) (118) Q (F0 mi 111 ls []) := by
    intro b1 u1 sv x1 x2 x3 x4 H locs ls hf hP hD hS hl
    unfold f_L_areCellsRight_J111 at hf
    refine lv_iconst (v := 0) hx hb dL_areCellsRight_111 (by decide) ?_
    exact hJ112 b1 u1 sv x1 x2 x3 x4 0 _ _ _ hf hP hD hS (lv_sub hl [0, 1, 2, 3, 4, 5] rfl)
  refine lv_iconst (v := 0) hx hb dL_areCellsRight_0 (by decide) ?_
  refine lv_istore_n (lv' := [(2, .int 0), (0, .ref (ha 0 0)), (1, .int a1)]) hx hb dL_areCellsRight_1 rfl hl (by decide) rfl (fun ls hl => ?_)
  refine lv_iconst (v := 0) hx hb dL_areCellsRight_2 (by decide) ?_
  refine lv_istore_n (lv' := [(3, .int 0), (2, .int 0), (0, .ref (ha 0 0)), (1, .int a1)]) hx hb dL_areCellsRight_3 rfl hl (by decide) rfl (fun ls hl => ?_)
  refine lv_iconst (v := 0) hx hb dL_areCellsRight_4 (by decide) ?_
  refine lv_istore (lv' := [(4, .int 0), (3, .int 0), (2, .int 0), (0, .ref (ha 0 0)), (1, .int a1)]) hx hb dL_areCellsRight_5 hl (by decide) rfl (fun ls hl => ?_)
  refine lv_bipush (v := 10) hx hb dL_areCellsRight_7 (by decide) ?_
  refine va_newa (atype := .int) (a0 := (10, .inl (fun _ => 0))) hx hb k0 rfl hK hP hD hS hA (fun _ => rfl) (by decide) (show (10 : Int32).toNatClampNeg = 10 from by decide) (by decide) (Nat.le_of_ble_eq_true rfl) (Nat.le_of_ble_eq_true rfl) dL_areCellsRight_9 (fun b1 cA9 H hK9 hP hD hS => ?_)
  have e9 := ar_id hK9 0 rfl
  rw [e9] at hP hD
  have hP : va_P (gD g) vwCl (wA g b1 (fun _ => (0 : Int32)) 10 ++ (wT g ha tv ++ wQ g (ha 1) qv ++ wS g (ha 3) sv)) H := wp_P List.perm_append_comm hP
  have hD : va_D A (wA g b1 (fun _ => (0 : Int32)) 10 ++ (wT g ha tv ++ wQ g (ha 1) qv ++ wS g (ha 3) sv)) := wp_D List.perm_append_comm hD
  obtain ⟨w1, ew1⟩ : ∃ y, y = (fun _ => (0 : Int32)) := ⟨_, rfl⟩
  have hf := jbN_e hf ew1
  rw [← ew1] at hP hD
  have hP : va_P (gD g) vwCl (wA g b1 w1 10 ++ wT g ha tv ++ wQ g (ha 1) qv ++ wS g (ha 3) sv) H := hP
  have hD : va_D A (wA g b1 w1 10 ++ wT g ha tv ++ wQ g (ha 1) qv ++ wS g (ha 3) sv) := hD
  refine lv_astore (lv' := [(5, .ref b1), (4, .int 0), (3, .int 0), (2, .int 0), (0, .ref (ha 0 0)), (1, .int a1)]) hx hb dL_areCellsRight_11 hl (by decide) rfl (fun ls hl => ?_)
  refine lv_aload_n hx hb dL_areCellsRight_13 rfl (lv_at hl 4 rfl) ?_
  refine lv_iconst (v := 0) hx hb dL_areCellsRight_14 (by decide) ?_
  refine lv_iconst (v := 5) hx hb dL_areCellsRight_15 (by decide) ?_
  refine lv_iconst (v := 0) hx hb dL_areCellsRight_16 (by decide) ?_
  refine lv_iconst (v := 0) hx hb dL_areCellsRight_17 (by decide) ?_
  refine lv_iconst (v := 0) hx hb dL_areCellsRight_18 (by decide) ?_
  obtain ⟨o2, g3, hf⟩ := jbB_e hf
  refine cws_i (As := [.ref (ha 0 0), .int 0, .int 5, .int 0, .int 0, .int 0]) (rest := []) (Wr := (wA g b1 w1 10)) (Wn := (wA g b1 w1 10 ++ wT g ha tv ++ wQ g (ha 1) qv ++ wS g (ha 3) (o2.2))) ⟨hx, hb, hml, hown, hts⟩ (c_L_ask l hlt g ha tv qv sv 0 5 0 0 0 _ g3) (vx_cwSW 6 hts gL_areCellsRight_L_ask rfl rfl rfl hd_L_ask ⟨(Nat.le_of_ble_eq_true rfl), (Nat.le_of_ble_eq_true rfl)⟩) hK hZ hT hA hP hD hS hl.1 (wp_of fun f => by simp only [List.countP_append, List.countP_cons, List.countP_nil] <;> omega) (wp_of fun f => by simp only [List.countP_append, List.countP_cons, List.countP_nil] <;> omega) rfl rfl (Nat.le_of_ble_eq_true rfl) ⟨(Nat.le_of_ble_eq_true rfl), (Nat.le_of_ble_eq_true rfl)⟩ dL_areCellsRight_19 (fun H locs hP hD hS => ?_)
  refine lv_sipush (v := (-2002)) hx hb dL_areCellsRight_22 (by decide) ?_
  refine lv_icmp_ne (tgt := 111) hx hb dL_areCellsRight_25 (by decide) (fun hc => ?_) (fun hc => ?_)
  · have hf := jbF hf hc
    refine W.widen (k := 19) (n := 118) (by omega) (by omega) ?_
    exact hJ111 b1 w1 (o2.2) a1 0 0 0 _ _ _ hf hP hD hS (lv_sub hl [4, 5, 3, 2, 1, 0] rfl)
  · have hf := jbT hf hc
    refine lv_aload_n hx hb dL_areCellsRight_28 rfl (lv_at hl 4 rfl) ?_
    refine lv_iconst (v := 0) hx hb dL_areCellsRight_29 (by decide) ?_
    refine lv_iconst (v := 0) hx hb dL_areCellsRight_30 (by decide) ?_
    refine lv_iconst (v := (-1)) hx hb dL_areCellsRight_31 (by decide) ?_
    refine lv_iconst (v := 0) hx hb dL_areCellsRight_32 (by decide) ?_
    refine lv_iconst (v := 0) hx hb dL_areCellsRight_33 (by decide) ?_
    obtain ⟨o4, g5, hf⟩ := jbB_e hf
    refine cws_i (As := [.ref (ha 0 0), .int 0, .int 0, .int (-1), .int 0, .int 0]) (rest := []) (Wr := (wA g b1 w1 10)) (Wn := (wA g b1 w1 10 ++ wT g ha tv ++ wQ g (ha 1) qv ++ wS g (ha 3) (o4.2))) ⟨hx, hb, hml, hown, hts⟩ (c_L_ask l hlt g ha tv qv (o2.2) 0 0 (-1) 0 0 _ g5) (vx_cwSW 6 hts gL_areCellsRight_L_ask rfl rfl rfl hd_L_ask ⟨(Nat.le_of_ble_eq_true rfl), (Nat.le_of_ble_eq_true rfl)⟩) hK hZ hT hA hP hD hS hl.1 (wp_of fun f => by simp only [List.countP_append, List.countP_cons, List.countP_nil] <;> omega) (wp_of fun f => by simp only [List.countP_append, List.countP_cons, List.countP_nil] <;> omega) rfl rfl (Nat.le_of_ble_eq_true rfl) ⟨(Nat.le_of_ble_eq_true rfl), (Nat.le_of_ble_eq_true rfl)⟩ dL_areCellsRight_34 (fun H locs hP hD hS => ?_)
    refine lv_sipush (v := (-2002)) hx hb dL_areCellsRight_37 (by decide) ?_
    refine lv_icmp_ne (tgt := 111) hx hb dL_areCellsRight_40 (by decide) (fun hc => ?_) (fun hc => ?_)
    · have hf := jbF hf hc
      refine W.widen (k := 19) (n := 118) (by omega) (by omega) ?_
      exact hJ111 b1 w1 (o4.2) a1 0 0 0 _ _ _ hf hP hD hS (lv_sub hl [4, 5, 3, 2, 1, 0] rfl)
    · have hf := jbT hf hc
      refine lv_aload_n hx hb dL_areCellsRight_43 rfl (lv_at hl 4 rfl) ?_
      refine lv_iconst (v := 2) hx hb dL_areCellsRight_44 (by decide) ?_
      refine lv_bipush (v := 10) hx hb dL_areCellsRight_45 (by decide) ?_
      refine lv_iconst (v := 0) hx hb dL_areCellsRight_47 (by decide) ?_
      refine lv_iconst (v := 0) hx hb dL_areCellsRight_48 (by decide) ?_
      refine lv_iconst (v := 0) hx hb dL_areCellsRight_49 (by decide) ?_
      obtain ⟨o6, g7, hf⟩ := jbB_e hf
      refine cws_i (As := [.ref (ha 0 0), .int 2, .int 10, .int 0, .int 0, .int 0]) (rest := []) (Wr := (wA g b1 w1 10)) (Wn := (wA g b1 w1 10 ++ wT g ha tv ++ wQ g (ha 1) qv ++ wS g (ha 3) (o6.2))) ⟨hx, hb, hml, hown, hts⟩ (c_L_ask l hlt g ha tv qv (o4.2) 2 10 0 0 0 _ g7) (vx_cwSW 6 hts gL_areCellsRight_L_ask rfl rfl rfl hd_L_ask ⟨(Nat.le_of_ble_eq_true rfl), (Nat.le_of_ble_eq_true rfl)⟩) hK hZ hT hA hP hD hS hl.1 (wp_of fun f => by simp only [List.countP_append, List.countP_cons, List.countP_nil] <;> omega) (wp_of fun f => by simp only [List.countP_append, List.countP_cons, List.countP_nil] <;> omega) rfl rfl (Nat.le_of_ble_eq_true rfl) ⟨(Nat.le_of_ble_eq_true rfl), (Nat.le_of_ble_eq_true rfl)⟩ dL_areCellsRight_50 (fun H locs hP hD hS => ?_)
      refine lv_sipush (v := (-2003)) hx hb dL_areCellsRight_53 (by decide) ?_
      refine lv_icmp_ne (tgt := 111) hx hb dL_areCellsRight_56 (by decide) (fun hc => ?_) (fun hc => ?_)
      · have hf := jbF hf hc
        refine W.widen (k := 19) (n := 118) (by omega) (by omega) ?_
        exact hJ111 b1 w1 (o6.2) a1 0 0 0 _ _ _ hf hP hD hS (lv_sub hl [4, 5, 3, 2, 1, 0] rfl)
      · have hf := jbT hf hc
        refine lv_aload_n hx hb dL_areCellsRight_59 rfl (lv_at hl 4 rfl) ?_
        refine lv_iconst (v := 3) hx hb dL_areCellsRight_60 (by decide) ?_
        refine lv_iconst (v := 0) hx hb dL_areCellsRight_61 (by decide) ?_
        refine lv_iconst (v := 0) hx hb dL_areCellsRight_62 (by decide) ?_
        refine lv_bipush (v := 10) hx hb dL_areCellsRight_63 (by decide) ?_
        refine lv_iconst (v := 0) hx hb dL_areCellsRight_65 (by decide) ?_
        obtain ⟨o8, g9, hf⟩ := jbB_e hf
        refine cws_i (As := [.ref (ha 0 0), .int 3, .int 0, .int 0, .int 10, .int 0]) (rest := []) (Wr := (wA g b1 w1 10)) (Wn := (wA g b1 w1 10 ++ wT g ha tv ++ wQ g (ha 1) qv ++ wS g (ha 3) (o8.2))) ⟨hx, hb, hml, hown, hts⟩ (c_L_ask l hlt g ha tv qv (o6.2) 3 0 0 10 0 _ g9) (vx_cwSW 6 hts gL_areCellsRight_L_ask rfl rfl rfl hd_L_ask ⟨(Nat.le_of_ble_eq_true rfl), (Nat.le_of_ble_eq_true rfl)⟩) hK hZ hT hA hP hD hS hl.1 (wp_of fun f => by simp only [List.countP_append, List.countP_cons, List.countP_nil] <;> omega) (wp_of fun f => by simp only [List.countP_append, List.countP_cons, List.countP_nil] <;> omega) rfl rfl (Nat.le_of_ble_eq_true rfl) ⟨(Nat.le_of_ble_eq_true rfl), (Nat.le_of_ble_eq_true rfl)⟩ dL_areCellsRight_66 (fun H locs hP hD hS => ?_)
        refine lv_sipush (v := (-2003)) hx hb dL_areCellsRight_69 (by decide) ?_
        refine lv_icmp_ne (tgt := 111) hx hb dL_areCellsRight_72 (by decide) (fun hc => ?_) (fun hc => ?_)
        · have hf := jbF hf hc
          refine W.widen (k := 19) (n := 118) (by omega) (by omega) ?_
          exact hJ111 b1 w1 (o8.2) a1 0 0 0 _ _ _ hf hP hD hS (lv_sub hl [4, 5, 3, 2, 1, 0] rfl)
        · have hf := jbT hf hc
          refine lv_aload_n hx hb dL_areCellsRight_75 rfl (lv_at hl 4 rfl) ?_
          refine lv_iconst (v := 4) hx hb dL_areCellsRight_76 (by decide) ?_
          refine lv_iconst (v := 0) hx hb dL_areCellsRight_77 (by decide) ?_
          refine lv_bipush (v := 6) hx hb dL_areCellsRight_78 (by decide) ?_
          refine lv_iconst (v := 0) hx hb dL_areCellsRight_80 (by decide) ?_
          refine lv_iconst (v := 0) hx hb dL_areCellsRight_81 (by decide) ?_
          obtain ⟨o10, g11, hf⟩ := jbB_e hf
          refine cws_i (As := [.ref (ha 0 0), .int 4, .int 0, .int 6, .int 0, .int 0]) (rest := []) (Wr := (wA g b1 w1 10)) (Wn := (wA g b1 w1 10 ++ wT g ha tv ++ wQ g (ha 1) qv ++ wS g (ha 3) (o10.2))) ⟨hx, hb, hml, hown, hts⟩ (c_L_ask l hlt g ha tv qv (o8.2) 4 0 6 0 0 _ g11) (vx_cwSW 6 hts gL_areCellsRight_L_ask rfl rfl rfl hd_L_ask ⟨(Nat.le_of_ble_eq_true rfl), (Nat.le_of_ble_eq_true rfl)⟩) hK hZ hT hA hP hD hS hl.1 (wp_of fun f => by simp only [List.countP_append, List.countP_cons, List.countP_nil] <;> omega) (wp_of fun f => by simp only [List.countP_append, List.countP_cons, List.countP_nil] <;> omega) rfl rfl (Nat.le_of_ble_eq_true rfl) ⟨(Nat.le_of_ble_eq_true rfl), (Nat.le_of_ble_eq_true rfl)⟩ dL_areCellsRight_82 (fun H locs hP hD hS => ?_)
          refine lv_sipush (v := (-2002)) hx hb dL_areCellsRight_85 (by decide) ?_
          refine lv_icmp_ne (tgt := 111) hx hb dL_areCellsRight_88 (by decide) (fun hc => ?_) (fun hc => ?_)
          · have hf := jbF hf hc
            refine W.widen (k := 19) (n := 118) (by omega) (by omega) ?_
            exact hJ111 b1 w1 (o10.2) a1 0 0 0 _ _ _ hf hP hD hS (lv_sub hl [4, 5, 3, 2, 1, 0] rfl)
          · have hf := jbT hf hc
            refine lv_aload_n hx hb dL_areCellsRight_91 rfl (lv_at hl 4 rfl) ?_
            refine lv_bipush (v := 8) hx hb dL_areCellsRight_92 (by decide) ?_
            refine lv_iconst (v := 4) hx hb dL_areCellsRight_94 (by decide) ?_
            refine lv_iconst (v := 0) hx hb dL_areCellsRight_95 (by decide) ?_
            refine lv_iconst (v := 0) hx hb dL_areCellsRight_96 (by decide) ?_
            refine lv_iconst (v := 0) hx hb dL_areCellsRight_97 (by decide) ?_
            obtain ⟨o12, g13, hf⟩ := jbB_e hf
            refine cws_i (As := [.ref (ha 0 0), .int 8, .int 4, .int 0, .int 0, .int 0]) (rest := []) (Wr := (wA g b1 w1 10)) (Wn := (wA g b1 w1 10 ++ wT g ha tv ++ wQ g (ha 1) qv ++ wS g (ha 3) (o12.2))) ⟨hx, hb, hml, hown, hts⟩ (c_L_ask l hlt g ha tv qv (o10.2) 8 4 0 0 0 _ g13) (vx_cwSW 6 hts gL_areCellsRight_L_ask rfl rfl rfl hd_L_ask ⟨(Nat.le_of_ble_eq_true rfl), (Nat.le_of_ble_eq_true rfl)⟩) hK hZ hT hA hP hD hS hl.1 (wp_of fun f => by simp only [List.countP_append, List.countP_cons, List.countP_nil] <;> omega) (wp_of fun f => by simp only [List.countP_append, List.countP_cons, List.countP_nil] <;> omega) rfl rfl (Nat.le_of_ble_eq_true rfl) ⟨(Nat.le_of_ble_eq_true rfl), (Nat.le_of_ble_eq_true rfl)⟩ dL_areCellsRight_98 (fun H locs hP hD hS => ?_)
            refine lv_sipush (v := (-2003)) hx hb dL_areCellsRight_101 (by decide) ?_
            refine lv_icmp_ne (tgt := 111) hx hb dL_areCellsRight_104 (by decide) (fun hc => ?_) (fun hc => ?_)
            · have hf := jbF hf hc
              exact hJ111 b1 w1 (o12.2) a1 0 0 0 _ _ _ hf hP hD hS (lv_sub hl [4, 5, 3, 2, 1, 0] rfl)
            · have hf := jbT hf hc
              refine lv_iconst (v := 1) hx hb dL_areCellsRight_107 (by decide) ?_
              refine lv_goto (tgt := 112) hx hb dL_areCellsRight_108 (by decide) ?_
              exact hJ112 b1 w1 (o12.2) a1 0 0 0 1 _ _ _ hf hP hD hS (lv_sub hl [4, 5, 3, 2, 1, 0] rfl)
