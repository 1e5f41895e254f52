def rm_L_steepest : Room := { frames := 10, cells := 0, slots := 0, locals := 162 }
theorem hd_L_steepest : yL_steepest.cls ≠ "java/lang/invoke/MethodHandle" ∧ yL_steepest.cls ≠ "java/lang/invoke/VarHandle" ∧ (parseMethodDescriptor yL_steepest.desc).map (fun d => d.parameters.length) = some 3 := by decide +kernel
set_option maxHeartbeats 4000000 in
set_option maxRecDepth 100000 in
theorem c_L_steepest (l : Launch) (hlt : l.stackTraces = false) (g : GG) (ha : Nat → Nat → Nat) (tv : TV) (qv : QV) (a1 : Int32) (a2 : Int32) (out : Int32) (hf : f_L_steepest qv a1 a2 = some out) : MtI l yL_steepest wsL_steepest rm_L_steepest g (wT g ha tv ++ wQ g (ha 1) qv) [.ref (ha 0 0), .int a1, .int a2] out (wT g ha tv ++ wQ g (ha 1) qv) 0 0 := by
  refine fun sz => mt_of (cc := cL_steepest) (maxL := 6) (ret := (some .int)) (own := RL) (Qc := fun A => va_Qi (fun r (_ : Unit) => r = out) (fun _ t => PosM g A (wT g ha tv ++ wQ g (ha 1) qv) t) A) (by decide +kernel) rfl rfl (Nat.le_of_ble_eq_true rfl) ?_ sz
  intro p e s mi below meth c A ls hB hnm hrt hlk hP hD hl
  obtain ⟨hx, hb, hml, hown, hts, hK, hZ, hT, hA, -⟩ := hB
  have hS : va_S A s.heap s.heap [] := va_S.rf
  have hl : lv_has ls 6 [(0, .ref (ha 0 0)), (1, .int a1), (2, .int a2)] := hl
  have k0 := hts (.methodLink RL 151 Lib.Math.abs.name) (by decide +kernel)
  have k1 := hts (.static Lib.Math.abs.name) (by decide +kernel)
  have k2 := hts (.initialized "java/lang/Math") (by decide +kernel)
  have k3 := hts (.code Lib.Math.abs.name Lib.Math.abs.code 1 (some .int)) (by decide +kernel)
  have k4 := hts (.methodLink RL 114 Lib.Math.max.name) (by decide +kernel)
  have k5 := hts (.static Lib.Math.max.name) (by decide +kernel)
  have k6 := hts (.code Lib.Math.max.name Lib.Math.max.code 2 (some .int)) (by decide +kernel)
  generalize hQ : MQ below _ _ _ _ _ _ = Q
  unfold f_L_steepest at hf
  have hL5 : ∀ (x1 : Int32) (x2 : Int32) (n5 : Nat) (x3 : Int32) (x4 : Int32) (H : Heap) (locs : List Loc) (ls : Array Slot) (o5 : Int32 × Int32), jbL (fun s => f_L_steepest_L5 qv x1 x2 (s.1) (s.2)) n5 (x3, x4) = some o5 → va_P (gD g) vwCl (wT g ha tv ++ wQ g (ha 1) qv) H → va_D A (wT g ha tv ++ wQ g (ha 1) qv) → va_S A s.heap H locs → lv_has ls 6 [(0, .ref (ha 0 0)), (1, .int x1), (2, .int x2), (3, .int x3), (4, .int x4)] → (∀ (H : Heap) (locs : List Loc) (ls : Array Slot), va_P (gD g) vwCl (wT g ha tv ++ wQ g (ha 1) qv) H → va_D A (wT g ha tv ++ wQ g (ha 1) qv) → va_S A s.heap H locs → lv_has ls 6 [(3, .int (o5.1))] → W p l e rm_L_steepest s mi [.ref (ha 0 0), .int a1, .int a2].toArray below meth c H locs (0) (0) Q (F0 mi 81 ls [])) → W p l e rm_L_steepest s mi [.ref (ha 0 0), .int a1, .int a2].toArray below meth c H locs (0) (0) Q (F0 mi 5 ls []) := by
    intro x1 x2 n5
    induction n5 with
    | zero => intro x3 x4 H locs ls o5 hf; exact absurd hf (jbL_0 _ _ _)
    | succ n5 ih =>
      intro x3 x4 H locs ls o5 hf hP hD hS hl hk
      obtain ⟨r, hf, hr⟩ := jbL_e hf
      have hf : f_L_steepest_L5 qv x1 x2 x3 x4 = some r := hf
      unfold f_L_steepest_L5 at hf
      have hJ74 : ∀ (x4 : Int32) (y0 : Int32) (H : Heap) (locs : List Loc) (ls : Array Slot) (r : Sum (Int32 × Int32) (Int32 × Int32)), f_L_steepest_J74 qv x1 x2 x4 y0 = some r → jbR (fun s => f_L_steepest_L5 qv x1 x2 (s.1) (s.2)) n5 o5 r → va_P (gD g) vwCl (wT g ha tv ++ wQ g (ha 1) qv) H → va_D A (wT g ha tv ++ wQ g (ha 1) qv) → va_S A s.heap H locs → lv_has ls 6 [(0, .ref (ha 0 0)), (1, .int x1), (2, .int x2), (4, .int x4)] → W p l e rm_L_steepest s mi [.ref (ha 0 0), .int a1, .int a2].toArray below meth c H locs (0) (0) Q (F0 mi 74 ls [.int y0]) := by
        intro x4 y0 H locs ls r hf hr hP hD hS hl
        unfold f_L_steepest_J74 at hf
        refine lv_istore_n (lv' := [(3, .int y0), (0, .ref (ha 0 0)), (1, .int x1), (2, .int x2), (4, .int x4)]) hx hb dL_steepest_74 rfl hl (by decide) rfl (fun ls hl => ?_)
        refine lv_iinc (v := (x4 + 1)) (lv' := [(4, .int (x4 + 1)), (3, .int y0), (0, .ref (ha 0 0)), (1, .int x1), (2, .int x2)]) hx hb dL_steepest_75 hl (k := 4) rfl rfl (by decide) rfl (fun ls hl => ?_)
        refine lv_goto (tgt := 5) hx hb dL_steepest_78 (by decide) ?_
        cases hf
        exact ih y0 (x4 + 1) _ _ _ _ hr hP hD hS (lv_sub hl [2, 3, 4, 1, 0] rfl) hk
      refine lv_iload hx hb dL_steepest_5 (lv_at hl 4 rfl) ?_
      refine lv_bipush (v := 30) hx hb dL_steepest_7 (by decide) ?_
      refine lv_icmp_ge (tgt := 81) hx hb dL_steepest_9 (by decide) (fun hc => ?_) (fun hc => ?_)
      · have hf := jbT hf hc
        cases hf
        obtain rfl := jbR_r hr
        exact hk _ _ _ hP hD hS (lv_sub hl [3] rfl)
      · have hf := jbF hf hc
        refine lv_iload_n hx hb dL_steepest_12 rfl (lv_at hl 1 rfl) ?_
        refine lv_bipush (v := 6) hx hb dL_steepest_13 (by decide) ?_
        refine lv_idiv hx hb dL_steepest_15 (by decide) ?_
        refine lv_iload hx hb dL_steepest_16 (lv_at hl 4 rfl) ?_
        refine lv_bipush (v := 6) hx hb dL_steepest_18 (by decide) ?_
        refine lv_idiv hx hb dL_steepest_20 (by decide) ?_
        refine lv_isub hx hb dL_steepest_21 ?_
        refine va_mabs hx hb (hml.trans hl.1.symm) hown k0 k1 k2 k3 (Nat.le_of_ble_eq_true rfl) (Nat.le_of_ble_eq_true rfl) (Nat.le_of_ble_eq_true rfl) (Nat.le_of_ble_eq_true rfl) dL_steepest_22 ?_
        refine lv_iload_n hx hb dL_steepest_25 rfl (lv_at hl 1 rfl) ?_
        refine lv_bipush (v := 6) hx hb dL_steepest_26 (by decide) ?_
        refine lv_irem hx hb dL_steepest_28 (by decide) ?_
        refine lv_iload hx hb dL_steepest_29 (lv_at hl 4 rfl) ?_
        refine lv_bipush (v := 6) hx hb dL_steepest_31 (by decide) ?_
        refine lv_irem hx hb dL_steepest_33 (by decide) ?_
        refine lv_isub hx hb dL_steepest_34 ?_
        refine va_mabs hx hb (hml.trans hl.1.symm) hown k0 k1 k2 k3 (Nat.le_of_ble_eq_true rfl) (Nat.le_of_ble_eq_true rfl) (Nat.le_of_ble_eq_true rfl) (Nat.le_of_ble_eq_true rfl) dL_steepest_35 ?_
        refine lv_iadd hx hb dL_steepest_38 ?_
        refine lv_topi (fun z1 ez1 => ?_)
        have hf := jbN_e hf ez1
        refine lv_istore (lv' := [(5, .int z1), (0, .ref (ha 0 0)), (1, .int x1), (2, .int x2), (3, .int x3), (4, .int x4)]) hx hb dL_steepest_39 hl (by decide) rfl (fun ls hl => ?_)
        refine lv_iload hx hb dL_steepest_41 (lv_at hl 0 rfl) ?_
        refine lv_iconst (v := 1) hx hb dL_steepest_43 (by decide) ?_
        refine lv_icmp_ne (tgt := 73) hx hb dL_steepest_44 (by decide) (fun hc => ?_) (fun hc => ?_)
        · have hf := jbF hf hc
          refine lv_iload_n hx hb dL_steepest_73 rfl (lv_at hl 4 rfl) ?_
          exact hJ74 x4 x3 _ _ _ _ hf hr hP hD hS (lv_sub hl [1, 2, 3, 5] rfl)
        · have hf := jbT hf hc
          refine lv_iload_n hx hb dL_steepest_47 rfl (lv_at hl 4 rfl) ?_
          refine lv_iload_n hx hb dL_steepest_48 rfl (lv_at hl 3 rfl) ?_
          refine lv_aload_n hx hb dL_steepest_49 rfl (lv_at hl 1 rfl) ?_
          refine lv_iload hx hb dL_steepest_50 (lv_at hl 5 rfl) ?_
          refine lv_bipush (v := 6) hx hb dL_steepest_52 (by decide) ?_
          refine lv_idiv hx hb dL_steepest_54 (by decide) ?_
          refine lv_iload hx hb dL_steepest_55 (lv_at hl 5 rfl) ?_
          refine lv_bipush (v := 6) hx hb dL_steepest_57 (by decide) ?_
          refine lv_irem hx hb dL_steepest_59 (by decide) ?_
          obtain ⟨o2, g3, hf⟩ := jbB_e hf
          rcases o2 with x9 | o2
          · have hf := jbM_l hf
            cases hf
          have hf := jbM_r hf
          refine cpv_i (As := [.int (x4 / 6), .int (x4 - x4 / 6 * 6)]) (rest := [.int x2, .int x3]) (Wr := []) (Wn := (wT g ha tv ++ wQ g (ha 1) qv)) ⟨hx, hb, hml, hown, hts⟩ (cn_X10_height l hlt g ha tv qv (x4 / 6) (x4 - x4 / 6 * 6) _ (show f_X10_height tv qv (x4 / 6) (x4 - x4 / 6 * 6) = some (.inr o2) from g3)) (cwV 2 hts gL_steepest_X10_height rfl rfl rfl hd_X10_height ⟨(Nat.le_of_ble_eq_true rfl), (Nat.le_of_ble_eq_true rfl)⟩) hK hZ hT hA hP hD hS hl.1 (va_recv hK hP (ci := 9) (q0 := 0) rfl rfl) (wp_of fun f => by simp only [List.countP_append, List.countP_cons, List.countP_nil] <;> omega) (wp_of fun f => by simp only [List.countP_append, List.countP_cons, List.countP_nil] <;> omega) rfl rfl (Nat.le_of_ble_eq_true rfl) ⟨(Nat.le_of_ble_eq_true rfl), (Nat.le_of_ble_eq_true rfl)⟩ dL_steepest_60 (fun H locs hP hD hS => ?_)
          refine lv_isub hx hb dL_steepest_63 ?_
          refine va_mabs hx hb (hml.trans hl.1.symm) hown k0 k1 k2 k3 (Nat.le_of_ble_eq_true rfl) (Nat.le_of_ble_eq_true rfl) (Nat.le_of_ble_eq_true rfl) (Nat.le_of_ble_eq_true rfl) dL_steepest_64 ?_
          refine va_mmax hx hb (hml.trans hl.1.symm) hown k4 k5 k2 k6 (Nat.le_of_ble_eq_true rfl) (Nat.le_of_ble_eq_true rfl) (Nat.le_of_ble_eq_true rfl) (Nat.le_of_ble_eq_true rfl) dL_steepest_67 ?_
          refine lv_goto (tgt := 74) hx hb dL_steepest_70 (by decide) ?_
          exact hJ74 x4 (jMax x3 (jAbs (x2 - o2))) _ _ _ _ hf hr hP hD hS (lv_sub hl [1, 2, 3, 5] rfl)
  refine lv_iconst (v := 0) hx hb dL_steepest_0 (by decide) ?_
  refine lv_istore_n (lv' := [(3, .int 0), (0, .ref (ha 0 0)), (1, .int a1), (2, .int a2)]) hx hb dL_steepest_1 rfl hl (by decide) rfl (fun ls hl => ?_)
  refine lv_iconst (v := 0) hx hb dL_steepest_2 (by decide) ?_
  refine lv_istore (lv' := [(4, .int 0), (3, .int 0), (0, .ref (ha 0 0)), (1, .int a1), (2, .int a2)]) hx hb dL_steepest_3 hl (by decide) rfl (fun ls hl => ?_)
  obtain ⟨o5, hg, hf⟩ := jbB_e hf
  refine hL5 a1 a2 _ 0 0 _ _ _ _ hg hP hD hS (lv_sub hl [2, 3, 4, 1, 0] rfl) (fun H locs ls hP hD hS hl => ?_)
  refine lv_iload_n hx hb dL_steepest_81 rfl (lv_at hl 0 rfl) ?_
  cases hf
  subst hQ
  exact rt_i hx hb hrt hlk rfl hK hP hD hS (Nat.le_of_ble_eq_true rfl) (Nat.le_of_ble_eq_true rfl) dL_steepest_82
