def rm_L_areWinchesRight : Room := { frames := 13, cells := 1973, slots := 34112, locals := 240 }
theorem hd_L_areWinchesRight : yL_areWinchesRight.cls ≠ "java/lang/invoke/MethodHandle" ∧ yL_areWinchesRight.cls ≠ "java/lang/invoke/VarHandle" ∧ (parseMethodDescriptor yL_areWinchesRight.desc).map (fun d => d.parameters.length) = some 1 := by decide +kernel
set_option maxHeartbeats 4000000 in
set_option maxRecDepth 100000 in
theorem c_L_areWinchesRight (l : Launch) (hlt : l.stackTraces = false) (g : GG) (ha : Nat → Nat → Nat) (hd : Nat → Nat → Nat) (hs : Nat → Nat) (ep fc : Int32) (qv : QV) (sv : SV) (ov : OV) (hv : HV) (svd : (Option QV))  (out : Int32 × QV × SV × OV × HV × (Option QV)) (hf : f_L_areWinchesRight qv sv ov hv svd = some out) : MzI (RT := (Nat → Nat → Nat) × (Nat → Nat)) l yL_areWinchesRight wsL_areWinchesRight rm_L_areWinchesRight g (wT g ha ((svd).map (fun _ => hs 0), ep, fc) ++ wQ g (ha 1) qv ++ wS g (ha 3) sv ++ wO g (ha 6) ov ++ wH g (ha 4) hd hv ++ wSv g hs svd) [.ref (ha 0 0)] (fun _ => True) (fun _ => (out.1)) (fun z => (wT g ha (((out.2.2.2.2.2)).map (fun _ => z.2 0), ep, fc) ++ wQ g (ha 1) (out.2.1) ++ wS g (ha 3) (out.2.2.1) ++ wO g (ha 6) (out.2.2.2.1) ++ wH g (ha 4) z.1 (out.2.2.2.2.1) ++ wSv g z.2 (out.2.2.2.2.2))) 1973 34112 := by
  refine fun sz => mt_of (cc := cL_areWinchesRight) (maxL := 11) (ret := (some .boolean)) (own := RL) (Qc := fun A => va_Qi (fun r (z : (Nat → Nat → Nat) × (Nat → Nat)) => True ∧ r = (out.1)) (fun z t => PosM g A (wT g ha (((out.2.2.2.2.2)).map (fun _ => z.2 0), ep, fc) ++ wQ g (ha 1) (out.2.1) ++ wS g (ha 3) (out.2.2.1) ++ wO g (ha 6) (out.2.2.2.1) ++ wH g (ha 4) z.1 (out.2.2.2.2.1) ++ wSv g z.2 (out.2.2.2.2.2)) t) A) (by decide +kernel) rfl rfl (Nat.le_of_ble_eq_true rfl) ?_ sz
  intro p e s mi below meth c A ls hB hnm hrt hlk hP hD hl
  obtain ⟨hx, hb, hml, hown, hts, hK, hZ, hT, hA, -⟩ := hB
  have hS : va_S A s.heap s.heap [] := va_S.rf
  have hl : lv_has ls 11 [(0, .ref (ha 0 0))] := hl
  have k0 := hts (.arrayClass .int) (by decide +kernel)
  generalize hQ : MQ below _ _ _ _ _ _ = Q
  unfold f_L_areWinchesRight at hf
  have hL315 : ∀ (b1 : Nat) (u1 : (Nat → Int32)) (qv : QV) (sv : SV) (ov : OV) (hv : HV) (svd : (Option QV)) (x3 : Int32) (x4 : Int32) (n315 : Nat) (x2 : Int32) (x6 : Int32) (hd : Nat → Nat → Nat) (hs : Nat → Nat) (H : Heap) (locs : List Loc) (ls : Array Slot) (o315 : Int32 × Int32), jbL (fun s => f_L_areWinchesRight_L315 u1 qv sv ov hv svd x3 x4 (s.1) (s.2)) n315 (x2, x6) = some o315 → va_P (gD g) vwCl (wA g b1 u1 30 ++ wT g ha ((svd).map (fun _ => hs 0), ep, fc) ++ wQ g (ha 1) qv ++ wS g (ha 3) sv ++ wO g (ha 6) ov ++ wH g (ha 4) hd hv ++ wSv g hs svd) H → va_D A (wA g b1 u1 30 ++ wT g ha ((svd).map (fun _ => hs 0), ep, fc) ++ wQ g (ha 1) qv ++ wS g (ha 3) sv ++ wO g (ha 6) ov ++ wH g (ha 4) hd hv ++ wSv g hs svd) → va_S A s.heap H locs → lv_has ls 11 [(0, .ref (ha 0 0)), (2, .int x2), (3, .int x3), (4, .int x4), (6, .int x6)] → (∀ (hd : Nat → Nat → Nat) (hs : Nat → Nat) (H : Heap) (locs : List Loc) (ls : Array Slot), va_P (gD g) vwCl (wA g b1 u1 30 ++ wT g ha ((svd).map (fun _ => hs 0), ep, fc) ++ wQ g (ha 1) qv ++ wS g (ha 3) sv ++ wO g (ha 6) ov ++ wH g (ha 4) hd hv ++ wSv g hs svd) H → va_D A (wA g b1 u1 30 ++ wT g ha ((svd).map (fun _ => hs 0), ep, fc) ++ wQ g (ha 1) qv ++ wS g (ha 3) sv ++ wO g (ha 6) ov ++ wH g (ha 4) hd hv ++ wSv g hs svd) → va_S A s.heap H locs → lv_has ls 11 [(0, .ref (ha 0 0)), (2, .int (o315.1)), (3, .int x3), (4, .int x4)] → W p l e rm_L_areWinchesRight s mi [.ref (ha 0 0)].toArray below meth c H locs (1787) (32996) Q (F0 mi 341 ls [])) → W p l e rm_L_areWinchesRight s mi [.ref (ha 0 0)].toArray below meth c H locs (1787) (32996) Q (F0 mi 315 ls []) := by
    intro b1 u1 qv sv ov hv svd x3 x4 n315
    induction n315 with
    | zero => intro x2 x6 hd hs H locs ls o315 hf; exact absurd hf (jbL_0 _ _ _)
    | succ n315 ih =>
      intro x2 x6 hd hs H locs ls o315 hf hP hD hS hl hk
      obtain ⟨r, hf, hr⟩ := jbL_e hf
      have hf : f_L_areWinchesRight_L315 u1 qv sv ov hv svd x3 x4 x2 x6 = some r := hf
      unfold f_L_areWinchesRight_L315 at hf
      refine lv_iload hx hb dL_areWinchesRight_315 (lv_at hl 4 rfl) ?_
      refine lv_iconst (v := 4) hx hb dL_areWinchesRight_317 (by decide) ?_
      refine lv_icmp_ge (tgt := 341) hx hb dL_areWinchesRight_318 (by decide) (fun hc => ?_) (fun hc => ?_)
      · have hf := jbT hf hc
        cases hf
        obtain rfl := jbR_r hr
        exact hk _ _ _ _ _ hP hD hS (lv_sub hl [0, 1, 2, 3] rfl)
      · have hf := jbF hf hc
        refine lv_iload_n hx hb dL_areWinchesRight_321 rfl (lv_at hl 1 rfl) ?_
        refine lv_aload_n hx hb dL_areWinchesRight_322 rfl (lv_at hl 0 rfl) ?_
        refine lv_iload hx hb dL_areWinchesRight_323 (lv_at hl 4 rfl) ?_
        obtain ⟨o41, g42, hf⟩ := jbB_e hf
        rcases o41 with x9 | o41
        · have hf := jbM_l hf
          cases hf
        have hf := jbM_r hf
        refine cpv_i (As := [.int x6]) (rest := [.int x2]) (Wr := (wA g b1 u1 30 ++ wS g (ha 3) sv ++ wO g (ha 6) ov ++ wH g (ha 4) hd hv ++ wSv g hs svd)) (Wn := (wA g b1 u1 30 ++ wT g ha ((svd).map (fun _ => hs 0), ep, fc) ++ wQ g (ha 1) qv ++ wS g (ha 3) sv ++ wO g (ha 6) ov ++ wH g (ha 4) hd hv ++ wSv g hs svd)) ⟨hx, hb, hml, hown, hts⟩ (cn_X10_inYard l hlt g ha ((svd).map (fun _ => hs 0), ep, fc) qv x6 _ (show f_X10_inYard ((svd).map (fun _ => hs 0), ep, fc) qv x6 = some (.inr o41) from g42)) (cwV 1 hts gL_areWinchesRight_X10_inYard rfl rfl rfl hd_X10_inYard ⟨(Nat.le_of_ble_eq_true rfl), (Nat.le_of_ble_eq_true rfl)⟩) hK hZ hT hA hP hD hS hl.1 (va_recv hK hP (ci := 9) (q0 := 1) rfl rfl) (wp_of fun f => by simp only [List.countP_append, List.countP_cons, List.countP_nil] <;> omega) (wp_of fun f => by simp only [List.countP_append, List.countP_cons, List.countP_nil] <;> omega) rfl rfl (Nat.le_of_ble_eq_true rfl) ⟨(Nat.le_of_ble_eq_true rfl), (Nat.le_of_ble_eq_true rfl)⟩ dL_areWinchesRight_325 (fun H locs hP hD hS => ?_)
        refine lv_iconst (v := 2) hx hb dL_areWinchesRight_328 (by decide) ?_
        refine lv_iload hx hb dL_areWinchesRight_329 (lv_at hl 4 rfl) ?_
        refine lv_iadd hx hb dL_areWinchesRight_331 ?_
        refine lv_imul hx hb dL_areWinchesRight_332 ?_
        refine lv_iadd hx hb dL_areWinchesRight_333 ?_
        refine lv_topi (fun z43 ez43 => ?_)
        have hf := jbN_e hf ez43
        refine lv_istore_n (lv' := [(2, .int z43), (0, .ref (ha 0 0)), (3, .int x3), (4, .int x4), (6, .int x6)]) hx hb dL_areWinchesRight_334 rfl hl (by decide) rfl (fun ls hl => ?_)
        refine lv_iinc (v := (x6 + 1)) (lv' := [(6, .int (x6 + 1)), (2, .int z43), (0, .ref (ha 0 0)), (3, .int x3), (4, .int x4)]) hx hb dL_areWinchesRight_335 hl (k := 4) rfl rfl (by decide) rfl (fun ls hl => ?_)
        refine lv_goto (tgt := 315) hx hb dL_areWinchesRight_338 (by decide) ?_
        cases hf
        exact ih z43 (x6 + 1) _ _ _ _ _ _ hr hP hD hS (lv_sub hl [2, 1, 3, 4, 0] rfl) hk
  have hL229 : ∀ (b1 : Nat) (u1 : (Nat → Int32)) (qv : QV) (ov : OV) (hv : HV) (svd : (Option QV)) (x2 : Int32) (x3 : Int32) (n229 : Nat) (cc229 sc229 : Nat) (x4 : Int32) (x6 : Int32) (sv : SV) (hd : Nat → Nat → Nat) (hs : Nat → Nat) (H : Heap) (locs : List Loc) (ls : Array Slot) (o229 : Int32 × Int32 × SV), cc229 + 3 * n229 ≤ 1787 → sc229 + 18 * n229 ≤ 32996 → jbL (fun s => f_L_areWinchesRight_L229 u1 qv ov hv svd x2 x3 (s.1) (s.2.1) (s.2.2)) n229 (x4, x6, sv) = some o229 → va_P (gD g) vwCl (wA g b1 u1 30 ++ wT g ha ((svd).map (fun _ => hs 0), ep, fc) ++ wQ g (ha 1) qv ++ wS g (ha 3) sv ++ wO g (ha 6) ov ++ wH g (ha 4) hd hv ++ wSv g hs svd) H → va_D A (wA g b1 u1 30 ++ wT g ha ((svd).map (fun _ => hs 0), ep, fc) ++ wQ g (ha 1) qv ++ wS g (ha 3) sv ++ wO g (ha 6) ov ++ wH g (ha 4) hd hv ++ wSv g hs svd) → va_S A s.heap H locs → lv_has ls 11 [(0, .ref (ha 0 0)), (2, .int x2), (3, .int x3), (4, .int x4), (5, .ref b1), (6, .int x6)] → (∀ (hd : Nat → Nat → Nat) (hs : Nat → Nat) (H : Heap) (locs : List Loc) (ls : Array Slot), va_P (gD g) vwCl (wA g b1 u1 30 ++ wT g ha ((svd).map (fun _ => hs 0), ep, fc) ++ wQ g (ha 1) qv ++ wS g (ha 3) (o229.2.2) ++ wO g (ha 6) ov ++ wH g (ha 4) hd hv ++ wSv g hs svd) H → va_D A (wA g b1 u1 30 ++ wT g ha ((svd).map (fun _ => hs 0), ep, fc) ++ wQ g (ha 1) qv ++ wS g (ha 3) (o229.2.2) ++ wO g (ha 6) ov ++ wH g (ha 4) hd hv ++ wSv g hs svd) → va_S A s.heap H locs → lv_has ls 11 [(0, .ref (ha 0 0)), (2, .int x2), (3, .int x3), (4, .int (o229.1))] → W p l e rm_L_areWinchesRight s mi [.ref (ha 0 0)].toArray below meth c H locs (1787) (32996) Q (F0 mi 312 ls [])) → W p l e rm_L_areWinchesRight s mi [.ref (ha 0 0)].toArray below meth c H locs (cc229) (sc229) Q (F0 mi 229 ls []) := by
    intro b1 u1 qv ov hv svd x2 x3 n229
    induction n229 with
    | zero => intro cc229 sc229 x4 x6 sv hd hs H locs ls o229 hcc229 hsc229 hf; exact absurd hf (jbL_0 _ _ _)
    | succ n229 ih =>
      intro cc229 sc229 x4 x6 sv hd hs H locs ls o229 hcc229 hsc229 hf hP hD hS hl hk
      obtain ⟨r, hf, hr⟩ := jbL_e hf
      have hf : f_L_areWinchesRight_L229 u1 qv ov hv svd x2 x3 x4 x6 sv = some r := hf
      unfold f_L_areWinchesRight_L229 at hf
      have hJ304 : ∀ (sv : SV) (x6 : Int32) (y0 : Int32) (hd : Nat → Nat → Nat) (hs : Nat → Nat) (H : Heap) (locs : List Loc) (ls : Array Slot) (r : Sum (Int32 × Int32 × SV) (Int32 × Int32 × SV)), f_L_areWinchesRight_J304 u1 qv sv ov hv svd x2 x3 x6 y0 = some r → jbR (fun s => f_L_areWinchesRight_L229 u1 qv ov hv svd x2 x3 (s.1) (s.2.1) (s.2.2)) n229 o229 r → va_P (gD g) vwCl (wA g b1 u1 30 ++ wT g ha ((svd).map (fun _ => hs 0), ep, fc) ++ wQ g (ha 1) qv ++ wS g (ha 3) sv ++ wO g (ha 6) ov ++ wH g (ha 4) hd hv ++ wSv g hs svd) H → va_D A (wA g b1 u1 30 ++ wT g ha ((svd).map (fun _ => hs 0), ep, fc) ++ wQ g (ha 1) qv ++ wS g (ha 3) sv ++ wO g (ha 6) ov ++ wH g (ha 4) hd hv ++ wSv g hs svd) → va_S A s.heap H locs → lv_has ls 11 [(0, .ref (ha 0 0)), (2, .int x2), (3, .int x3), (5, .ref b1), (6, .int x6)] → W p l e rm_L_areWinchesRight s mi [.ref (ha 0 0)].toArray below meth c H locs (cc229 + 3) (sc229 + 18) Q (F0 mi 304 ls [.int y0]) := by
        intro sv x6 y0 hd hs H locs ls r hf hr hP hD hS hl
        unfold f_L_areWinchesRight_J304 at hf
        refine lv_istore (lv' := [(4, .int y0), (0, .ref (ha 0 0)), (2, .int x2), (3, .int x3), (5, .ref b1), (6, .int x6)]) hx hb dL_areWinchesRight_304 hl (by decide) rfl (fun ls hl => ?_)
        refine lv_iinc (v := (x6 + 1)) (lv' := [(6, .int (x6 + 1)), (4, .int y0), (0, .ref (ha 0 0)), (2, .int x2), (3, .int x3), (5, .ref b1)]) hx hb dL_areWinchesRight_306 hl (k := 5) rfl rfl (by decide) rfl (fun ls hl => ?_)
        refine lv_goto (tgt := 229) hx hb dL_areWinchesRight_309 (by decide) ?_
        cases hf
        exact ih _ _ y0 (x6 + 1) sv _ _ _ _ _ _ (by omega) (by omega) hr hP hD hS (lv_sub hl [2, 3, 4, 1, 5, 0] rfl) hk
      have hJ303 : ∀ (sv : SV) (x6 : Int32) (hd : Nat → Nat → Nat) (hs : Nat → Nat) (H : Heap) (locs : List Loc) (ls : Array Slot) (r : Sum (Int32 × Int32 × SV) (Int32 × Int32 × SV)), f_L_areWinchesRight_J303 u1 qv sv ov hv svd x2 x3 x6 = some r → jbR (fun s => f_L_areWinchesRight_L229 u1 qv ov hv svd x2 x3 (s.1) (s.2.1) (s.2.2)) n229 o229 r → va_P (gD g) vwCl (wA g b1 u1 30 ++ wT g ha ((svd).map (fun _ => hs 0), ep, fc) ++ wQ g (ha 1) qv ++ wS g (ha 3) sv ++ wO g (ha 6) ov ++ wH g (ha 4) hd hv ++ wSv g hs svd) H → va_D A (wA g b1 u1 30 ++ wT g ha ((svd).map (fun _ => hs 0), ep, fc) ++ wQ g (ha 1) qv ++ wS g (ha 3) sv ++ wO g (ha 6) ov ++ wH g (ha 4) hd hv ++ wSv g hs svd) → va_S A s.heap H locs → lv_has ls 11 [(0, .ref (ha 0 0)), (2, .int x2), (3, .int x3), (5, .ref b1), (6, .int x6)] → W p l e rm_L_areWinchesRight s mi [.ref (ha 0 0)].toArray below meth c H locs (cc229 + 3) (sc229 + 18) Q (F0 mi 303 ls []) := by
        intro sv x6 hd hs H locs ls r hf hr hP hD hS hl
        unfold f_L_areWinchesRight_J303 at hf
        refine lv_iconst (v := 0) hx hb dL_areWinchesRight_303 (by decide) ?_
        exact hJ304 sv x6 0 _ _ _ _ _ _ hf hr hP hD hS (lv_sub hl [0, 1, 2, 3, 4] rfl)
      have hJ299 : ∀ (sv : SV) (x6 : Int32) (hd : Nat → Nat → Nat) (hs : Nat → Nat) (H : Heap) (locs : List Loc) (ls : Array Slot) (r : Sum (Int32 × Int32 × SV) (Int32 × Int32 × SV)), f_L_areWinchesRight_J299 u1 qv sv ov hv svd x2 x3 x6 = some r → jbR (fun s => f_L_areWinchesRight_L229 u1 qv ov hv svd x2 x3 (s.1) (s.2.1) (s.2.2)) n229 o229 r → va_P (gD g) vwCl (wA g b1 u1 30 ++ wT g ha ((svd).map (fun _ => hs 0), ep, fc) ++ wQ g (ha 1) qv ++ wS g (ha 3) sv ++ wO g (ha 6) ov ++ wH g (ha 4) hd hv ++ wSv g hs svd) H → va_D A (wA g b1 u1 30 ++ wT g ha ((svd).map (fun _ => hs 0), ep, fc) ++ wQ g (ha 1) qv ++ wS g (ha 3) sv ++ wO g (ha 6) ov ++ wH g (ha 4) hd hv ++ wSv g hs svd) → va_S A s.heap H locs → lv_has ls 11 [(0, .ref (ha 0 0)), (2, .int x2), (3, .int x3), (5, .ref b1), (6, .int x6)] → W p l e rm_L_areWinchesRight s mi [.ref (ha 0 0)].toArray below meth c H locs (cc229 + 3) (sc229 + 18) Q (F0 mi 299 ls []) := by
        intro sv x6 hd hs H locs ls r hf hr hP hD hS hl
        unfold f_L_areWinchesRight_J299 at hf
        refine lv_iconst (v := 1) hx hb dL_areWinchesRight_299 (by decide) ?_
        refine lv_goto (tgt := 304) hx hb dL_areWinchesRight_300 (by decide) ?_
        exact hJ304 sv x6 1 _ _ _ _ _ _ hf hr hP hD hS (lv_sub hl [0, 1, 2, 3, 4] rfl)
      refine lv_iload hx hb dL_areWinchesRight_229 (lv_at hl 5 rfl) ?_
      refine lv_bipush (v := 30) hx hb dL_areWinchesRight_231 (by decide) ?_
      refine lv_icmp_ge (tgt := 312) hx hb dL_areWinchesRight_233 (by decide) (fun hc => ?_) (fun hc => ?_)
      · have hf := jbT hf hc
        cases hf
        obtain rfl := jbR_r hr
        refine W.widen (k := 1787) (n := 32996) (by omega) (by omega) ?_
        exact hk _ _ _ _ _ hP hD hS (lv_sub hl [0, 1, 2, 3] rfl)
      · have hf := jbF hf hc
        refine lv_aload_n hx hb dL_areWinchesRight_236 rfl (lv_at hl 0 rfl) ?_
        refine lv_bipush (v := 7) hx hb dL_areWinchesRight_237 (by decide) ?_
        refine lv_iload hx hb dL_areWinchesRight_239 (lv_at hl 5 rfl) ?_
        refine lv_bipush (v := 6) hx hb dL_areWinchesRight_241 (by decide) ?_
        refine lv_idiv hx hb dL_areWinchesRight_243 (by decide) ?_
        refine lv_iload hx hb dL_areWinchesRight_244 (lv_at hl 5 rfl) ?_
        refine lv_bipush (v := 6) hx hb dL_areWinchesRight_246 (by decide) ?_
        refine lv_irem hx hb dL_areWinchesRight_248 (by decide) ?_
        refine lv_iconst (v := 0) hx hb dL_areWinchesRight_249 (by decide) ?_
        refine lv_iconst (v := 0) hx hb dL_areWinchesRight_250 (by decide) ?_
        obtain ⟨o36, g37, hf⟩ := jbB_e hf
        refine cws_i (As := [.ref (ha 0 0), .int 7, .int (x6 / 6), .int (x6 - x6 / 6 * 6), .int 0, .int 0]) (rest := []) (Wr := (wA g b1 u1 30 ++ wO g (ha 6) ov ++ wH g (ha 4) hd hv ++ wSv g hs svd)) (Wn := (wA g b1 u1 30 ++ wT g ha ((svd).map (fun _ => hs 0), ep, fc) ++ wQ g (ha 1) qv ++ wS g (ha 3) (o36.2) ++ wO g (ha 6) ov ++ wH g (ha 4) hd hv ++ wSv g hs svd)) ⟨hx, hb, hml, hown, hts⟩ (c_L_ask l hlt g ha ((svd).map (fun _ => hs 0), ep, fc) qv sv 7 (x6 / 6) (x6 - x6 / 6 * 6) 0 0 _ g37) (vx_cwSW 6 hts gL_areWinchesRight_L_ask rfl rfl rfl hd_L_ask ⟨(Nat.le_of_ble_eq_true rfl), (Nat.le_of_ble_eq_true rfl)⟩) hK hZ hT hA hP hD hS hl.1 (wp_of fun f => by simp only [List.countP_append, List.countP_cons, List.countP_nil] <;> omega) (wp_of fun f => by simp only [List.countP_append, List.countP_cons, List.countP_nil] <;> omega) rfl rfl (Nat.le_of_ble_eq_true rfl) ⟨(show cc229 + 3 ≤ 1973 by omega), (show sc229 + 18 ≤ 34112 by omega)⟩ dL_areWinchesRight_251 (fun H locs hP hD hS => ?_)
        refine lv_topi (fun z38 ez38 => ?_)
        have hf := jbN_e hf ez38
        refine lv_istore (lv' := [(7, .int z38), (0, .ref (ha 0 0)), (2, .int x2), (3, .int x3), (4, .int x4), (5, .ref b1), (6, .int x6)]) hx hb dL_areWinchesRight_254 hl (by decide) rfl (fun ls hl => ?_)
        refine lv_iload hx hb dL_areWinchesRight_256 (lv_at hl 4 rfl) ?_
        refine lv_if_eq (tgt := 303) hx hb dL_areWinchesRight_258 (by decide) (fun hc => ?_) (fun hc => ?_)
        · have hf := jbT hf hc
          exact hJ303 (o36.2) x6 _ _ _ _ _ _ hf hr hP hD hS (lv_sub hl [1, 2, 3, 5, 6] rfl)
        · have hf := jbF hf hc
          refine lv_aload hx hb dL_areWinchesRight_261 (lv_at hl 5 rfl) ?_
          refine lv_iload hx hb dL_areWinchesRight_263 (lv_at hl 6 rfl) ?_
          obtain ⟨h39, hf⟩ := jbA_e hf
          refine va_iald hx hb hK hP 0 0 rfl rfl h39 dL_areWinchesRight_265 ?_
          refine lv_if_ne (tgt := 280) hx hb dL_areWinchesRight_266 (by decide) (fun hc => ?_) (fun hc => ?_)
          · have hf := jbF hf hc
            refine lv_iload hx hb dL_areWinchesRight_280 (lv_at hl 0 rfl) ?_
            refine lv_if_lt (tgt := 303) hx hb dL_areWinchesRight_282 (by decide) (fun hc => ?_) (fun hc => ?_)
            · have hf := jbT hf hc
              exact hJ303 (o36.2) x6 _ _ _ _ _ _ hf hr hP hD hS (lv_sub hl [1, 2, 3, 5, 6] rfl)
            · have hf := jbF hf hc
              refine lv_aload hx hb dL_areWinchesRight_285 (lv_at hl 5 rfl) ?_
              refine lv_iload hx hb dL_areWinchesRight_287 (lv_at hl 6 rfl) ?_
              obtain ⟨h40, hf⟩ := jbA_e hf
              refine va_iald hx hb hK hP 0 0 rfl rfl h40 dL_areWinchesRight_289 ?_
              refine lv_iload hx hb dL_areWinchesRight_290 (lv_at hl 0 rfl) ?_
              refine lv_ishr hx hb dL_areWinchesRight_292 ?_
              refine lv_iconst (v := 2) hx hb dL_areWinchesRight_293 (by decide) ?_
              refine lv_irem hx hb dL_areWinchesRight_294 (by decide) ?_
              refine lv_iconst (v := 1) hx hb dL_areWinchesRight_295 (by decide) ?_
              refine lv_icmp_ne (tgt := 303) hx hb dL_areWinchesRight_296 (by decide) (fun hc => ?_) (fun hc => ?_)
              · have hf := jbF hf hc
                exact hJ303 (o36.2) x6 _ _ _ _ _ _ hf hr hP hD hS (lv_sub hl [1, 2, 3, 5, 6] rfl)
              · have hf := jbT hf hc
                exact hJ299 (o36.2) x6 _ _ _ _ _ _ hf hr hP hD hS (lv_sub hl [1, 2, 3, 5, 6] rfl)
          · have hf := jbT hf hc
            refine lv_iload hx hb dL_areWinchesRight_269 (lv_at hl 0 rfl) ?_
            refine lv_sipush (v := (-2004)) hx hb dL_areWinchesRight_271 (by decide) ?_
            refine lv_icmp_ne (tgt := 303) hx hb dL_areWinchesRight_274 (by decide) (fun hc => ?_) (fun hc => ?_)
            · have hf := jbF hf hc
              exact hJ303 (o36.2) x6 _ _ _ _ _ _ hf hr hP hD hS (lv_sub hl [1, 2, 3, 5, 6] rfl)
            · have hf := jbT hf hc
              refine lv_goto (tgt := 299) hx hb dL_areWinchesRight_277 (by decide) ?_
              exact hJ299 (o36.2) x6 _ _ _ _ _ _ hf hr hP hD hS (lv_sub hl [1, 2, 3, 5, 6] rfl)
  have hL80 : ∀ (b1 : Nat) (sv : SV) (ov : OV) (svd : (Option QV)) (x1 : Int32) (x2 : Int32) (x3 : Int32) (n80 : Nat) (cc80 sc80 : Nat) (x4 : Int32) (x6 : Int32) (u1 : (Nat → Int32)) (qv : QV) (hv : HV) (hd : Nat → Nat → Nat) (hs : Nat → Nat) (H : Heap) (locs : List Loc) (ls : Array Slot) (o80 : Int32 × Int32 × (Nat → Int32) × QV × HV), cc80 + 372 * n80 ≤ 1694 → sc80 + 7750 * n80 ≤ 32438 → jbL (fun s => f_L_areWinchesRight_L80 sv ov svd x1 x2 x3 (s.1) (s.2.1) (s.2.2.1) (s.2.2.2.1) (s.2.2.2.2)) n80 (x4, x6, u1, qv, hv) = some o80 → va_P (gD g) vwCl (wA g b1 u1 30 ++ wT g ha ((svd).map (fun _ => hs 0), ep, fc) ++ wQ g (ha 1) qv ++ wS g (ha 3) sv ++ wO g (ha 6) ov ++ wH g (ha 4) hd hv ++ wSv g hs svd) H → va_D A (wA g b1 u1 30 ++ wT g ha ((svd).map (fun _ => hs 0), ep, fc) ++ wQ g (ha 1) qv ++ wS g (ha 3) sv ++ wO g (ha 6) ov ++ wH g (ha 4) hd hv ++ wSv g hs svd) → va_S A s.heap H locs → lv_has ls 11 [(0, .ref (ha 0 0)), (1, .int x1), (2, .int x2), (3, .int x3), (4, .int x4), (5, .ref b1), (6, .int x6)] → (∀ (hd : Nat → Nat → Nat) (hs : Nat → Nat) (H : Heap) (locs : List Loc) (ls : Array Slot), va_P (gD g) vwCl (wA g b1 (o80.2.2.1) 30 ++ wT g ha ((svd).map (fun _ => hs 0), ep, fc) ++ wQ g (ha 1) (o80.2.2.2.1) ++ wS g (ha 3) sv ++ wO g (ha 6) ov ++ wH g (ha 4) hd (o80.2.2.2.2) ++ wSv g hs svd) H → va_D A (wA g b1 (o80.2.2.1) 30 ++ wT g ha ((svd).map (fun _ => hs 0), ep, fc) ++ wQ g (ha 1) (o80.2.2.2.1) ++ wS g (ha 3) sv ++ wO g (ha 6) ov ++ wH g (ha 4) hd (o80.2.2.2.2) ++ wSv g hs svd) → va_S A s.heap H locs → lv_has ls 11 [(0, .ref (ha 0 0)), (2, .int x2), (3, .int x3), (4, .int (o80.1)), (5, .ref b1)] → W p l e rm_L_areWinchesRight s mi [.ref (ha 0 0)].toArray below meth c H locs (1694) (32438) Q (F0 mi 226 ls [])) → W p l e rm_L_areWinchesRight s mi [.ref (ha 0 0)].toArray below meth c H locs (cc80) (sc80) Q (F0 mi 80 ls []) := by
    intro b1 sv ov svd x1 x2 x3 n80
    induction n80 with
    | zero => intro cc80 sc80 x4 x6 u1 qv hv hd hs H locs ls o80 hcc80 hsc80 hf; exact absurd hf (jbL_0 _ _ _)
    | succ n80 ih =>
      intro cc80 sc80 x4 x6 u1 qv hv hd hs H locs ls o80 hcc80 hsc80 hf hP hD hS hl hk
      obtain ⟨r, hf, hr⟩ := jbL_e hf
      have hf : f_L_areWinchesRight_L80 sv ov svd x1 x2 x3 x4 x6 u1 qv hv = some r := hf
      unfold f_L_areWinchesRight_L80 at hf
      have hJ218 : ∀ (u1 : (Nat → Int32)) (qv : QV) (hv : HV) (x6 : Int32) (y0 : Int32) (hd : Nat → Nat → Nat) (hs : Nat → Nat) (H : Heap) (locs : List Loc) (ls : Array Slot) (r : Sum (Int32 × Int32 × (Nat → Int32) × QV × HV) (Int32 × Int32 × (Nat → Int32) × QV × HV)), f_L_areWinchesRight_J218 u1 qv sv ov hv svd x1 x2 x3 x6 y0 = some r → jbR (fun s => f_L_areWinchesRight_L80 sv ov svd x1 x2 x3 (s.1) (s.2.1) (s.2.2.1) (s.2.2.2.1) (s.2.2.2.2)) n80 o80 r → va_P (gD g) vwCl (wA g b1 u1 30 ++ wT g ha ((svd).map (fun _ => hs 0), ep, fc) ++ wQ g (ha 1) qv ++ wS g (ha 3) sv ++ wO g (ha 6) ov ++ wH g (ha 4) hd hv ++ wSv g hs svd) H → va_D A (wA g b1 u1 30 ++ wT g ha ((svd).map (fun _ => hs 0), ep, fc) ++ wQ g (ha 1) qv ++ wS g (ha 3) sv ++ wO g (ha 6) ov ++ wH g (ha 4) hd hv ++ wSv g hs svd) → va_S A s.heap H locs → lv_has ls 11 [(0, .ref (ha 0 0)), (1, .int x1), (2, .int x2), (3, .int x3), (5, .ref b1), (6, .int x6)] → W p l e rm_L_areWinchesRight s mi [.ref (ha 0 0)].toArray below meth c H locs (cc80 + 372) (sc80 + 7750) Q (F0 mi 218 ls [.int y0]) := by
        intro u1 qv hv x6 y0 hd hs H locs ls r hf hr hP hD hS hl
        unfold f_L_areWinchesRight_J218 at hf
        refine lv_istore (lv' := [(4, .int y0), (0, .ref (ha 0 0)), (1, .int x1), (2, .int x2), (3, .int x3), (5, .ref b1), (6, .int x6)]) hx hb dL_areWinchesRight_218 hl (by decide) rfl (fun ls hl => ?_)
        refine lv_iinc (v := (x6 + 1)) (lv' := [(6, .int (x6 + 1)), (4, .int y0), (0, .ref (ha 0 0)), (1, .int x1), (2, .int x2), (3, .int x3), (5, .ref b1)]) hx hb dL_areWinchesRight_220 hl (k := 6) rfl rfl (by decide) rfl (fun ls hl => ?_)
        refine lv_goto (tgt := 80) hx hb dL_areWinchesRight_223 (by decide) ?_
        cases hf
        exact ih _ _ y0 (x6 + 1) u1 qv hv _ _ _ _ _ _ (by omega) (by omega) hr hP hD hS (lv_sub hl [2, 3, 4, 5, 1, 6, 0] rfl) hk
      have hJ217 : ∀ (u1 : (Nat → Int32)) (qv : QV) (hv : HV) (x6 : Int32) (hd : Nat → Nat → Nat) (hs : Nat → Nat) (H : Heap) (locs : List Loc) (ls : Array Slot) (r : Sum (Int32 × Int32 × (Nat → Int32) × QV × HV) (Int32 × Int32 × (Nat → Int32) × QV × HV)), f_L_areWinchesRight_J217 u1 qv sv ov hv svd x1 x2 x3 x6 = some r → jbR (fun s => f_L_areWinchesRight_L80 sv ov svd x1 x2 x3 (s.1) (s.2.1) (s.2.2.1) (s.2.2.2.1) (s.2.2.2.2)) n80 o80 r → va_P (gD g) vwCl (wA g b1 u1 30 ++ wT g ha ((svd).map (fun _ => hs 0), ep, fc) ++ wQ g (ha 1) qv ++ wS g (ha 3) sv ++ wO g (ha 6) ov ++ wH g (ha 4) hd hv ++ wSv g hs svd) H → va_D A (wA g b1 u1 30 ++ wT g ha ((svd).map (fun _ => hs 0), ep, fc) ++ wQ g (ha 1) qv ++ wS g (ha 3) sv ++ wO g (ha 6) ov ++ wH g (ha 4) hd hv ++ wSv g hs svd) → va_S A s.heap H locs → lv_has ls 11 [(0, .ref (ha 0 0)), (1, .int x1), (2, .int x2), (3, .int x3), (5, .ref b1), (6, .int x6)] → W p l e rm_L_areWinchesRight s mi [.ref (ha 0 0)].toArray below meth c H locs (cc80 + 372) (sc80 + 7750) Q (F0 mi 217 ls []) := by
        intro u1 qv hv x6 hd hs H locs ls r hf hr hP hD hS hl
        unfold f_L_areWinchesRight_J217 at hf
        refine lv_iconst (v := 0) hx hb dL_areWinchesRight_217 (by decide) ?_
        exact hJ218 u1 qv hv x6 0 _ _ _ _ _ _ hf hr hP hD hS (lv_sub hl [0, 1, 2, 3, 4, 5] rfl)
      have hL92 : ∀ (b1 : Nat) (sv : SV) (ov : OV) (svd : (Option QV)) (x1 : Int32) (x2 : Int32) (x3 : Int32) (x6 : Int32) (n92 : Nat) (cc92 sc92 : Nat) (x4 : Int32) (x7 : Int32) (x8 : Int32) (u1 : (Nat → Int32)) (qv : QV) (hv : HV) (hd : Nat → Nat → Nat) (hs : Nat → Nat) (H : Heap) (locs : List Loc) (ls : Array Slot) (o92 : Int32 × Int32 × Int32 × (Nat → Int32) × QV × HV), cc92 + 12 * n92 ≤ cc80 + 372 → sc92 + 250 * n92 ≤ sc80 + 7750 → jbL (fun s => f_L_areWinchesRight_L92 sv ov svd x1 x2 x3 x6 (s.1) (s.2.1) (s.2.2.1) (s.2.2.2.1) (s.2.2.2.2.1) (s.2.2.2.2.2)) n92 (x4, x7, x8, u1, qv, hv) = some o92 → va_P (gD g) vwCl (wA g b1 u1 30 ++ wT g ha ((svd).map (fun _ => hs 0), ep, fc) ++ wQ g (ha 1) qv ++ wS g (ha 3) sv ++ wO g (ha 6) ov ++ wH g (ha 4) hd hv ++ wSv g hs svd) H → va_D A (wA g b1 u1 30 ++ wT g ha ((svd).map (fun _ => hs 0), ep, fc) ++ wQ g (ha 1) qv ++ wS g (ha 3) sv ++ wO g (ha 6) ov ++ wH g (ha 4) hd hv ++ wSv g hs svd) → va_S A s.heap H locs → lv_has ls 11 [(0, .ref (ha 0 0)), (1, .int x1), (2, .int x2), (3, .int x3), (4, .int x4), (5, .ref b1), (6, .int x6), (7, .int x7), (8, .int x8)] → (∀ (hd : Nat → Nat → Nat) (hs : Nat → Nat) (H : Heap) (locs : List Loc) (ls : Array Slot), va_P (gD g) vwCl (wA g b1 (o92.2.2.2.1) 30 ++ wT g ha ((svd).map (fun _ => hs 0), ep, fc) ++ wQ g (ha 1) (o92.2.2.2.2.1) ++ wS g (ha 3) sv ++ wO g (ha 6) ov ++ wH g (ha 4) hd (o92.2.2.2.2.2) ++ wSv g hs svd) H → va_D A (wA g b1 (o92.2.2.2.1) 30 ++ wT g ha ((svd).map (fun _ => hs 0), ep, fc) ++ wQ g (ha 1) (o92.2.2.2.2.1) ++ wS g (ha 3) sv ++ wO g (ha 6) ov ++ wH g (ha 4) hd (o92.2.2.2.2.2) ++ wSv g hs svd) → va_S A s.heap H locs → lv_has ls 11 [(0, .ref (ha 0 0)), (1, .int x1), (2, .int x2), (3, .int x3), (4, .int (o92.1)), (5, .ref b1), (6, .int x6), (7, .int (o92.2.1))] → W p l e rm_L_areWinchesRight s mi [.ref (ha 0 0)].toArray below meth c H locs (cc80 + 372) (sc80 + 7750) Q (F0 mi 197 ls [])) → W p l e rm_L_areWinchesRight s mi [.ref (ha 0 0)].toArray below meth c H locs (cc92) (sc92) Q (F0 mi 92 ls []) := by
        intro b1 sv ov svd x1 x2 x3 x6 n92
        induction n92 with
        | zero => intro cc92 sc92 x4 x7 x8 u1 qv hv hd hs H locs ls o92 hcc92 hsc92 hf; exact absurd hf (jbL_0 _ _ _)
        | succ n92 ih =>
          intro cc92 sc92 x4 x7 x8 u1 qv hv hd hs H locs ls o92 hcc92 hsc92 hf hP hD hS hl hk
          obtain ⟨r, hf, hr⟩ := jbL_e hf
          have hf : f_L_areWinchesRight_L92 sv ov svd x1 x2 x3 x6 x4 x7 x8 u1 qv hv = some r := hf
          unfold f_L_areWinchesRight_L92 at hf
          have hJ189 : ∀ (u1 : (Nat → Int32)) (qv : QV) (hv : HV) (x7 : Int32) (x8 : Int32) (y0 : Int32) (hd : Nat → Nat → Nat) (hs : Nat → Nat) (H : Heap) (locs : List Loc) (ls : Array Slot) (r : Sum (Int32 × Int32 × Int32 × (Nat → Int32) × QV × HV) (Int32 × Int32 × Int32 × (Nat → Int32) × QV × HV)), f_L_areWinchesRight_J189 u1 qv sv ov hv svd x1 x2 x3 x6 x7 x8 y0 = some r → jbR (fun s => f_L_areWinchesRight_L92 sv ov svd x1 x2 x3 x6 (s.1) (s.2.1) (s.2.2.1) (s.2.2.2.1) (s.2.2.2.2.1) (s.2.2.2.2.2)) n92 o92 r → va_P (gD g) vwCl (wA g b1 u1 30 ++ wT g ha ((svd).map (fun _ => hs 0), ep, fc) ++ wQ g (ha 1) qv ++ wS g (ha 3) sv ++ wO g (ha 6) ov ++ wH g (ha 4) hd hv ++ wSv g hs svd) H → va_D A (wA g b1 u1 30 ++ wT g ha ((svd).map (fun _ => hs 0), ep, fc) ++ wQ g (ha 1) qv ++ wS g (ha 3) sv ++ wO g (ha 6) ov ++ wH g (ha 4) hd hv ++ wSv g hs svd) → va_S A s.heap H locs → lv_has ls 11 [(0, .ref (ha 0 0)), (1, .int x1), (2, .int x2), (3, .int x3), (5, .ref b1), (6, .int x6), (7, .int x7), (8, .int x8)] → W p l e rm_L_areWinchesRight s mi [.ref (ha 0 0)].toArray below meth c H locs (cc92 + 12) (sc92 + 250) Q (F0 mi 189 ls [.int y0]) := by
            intro u1 qv hv x7 x8 y0 hd hs H locs ls r hf hr hP hD hS hl
            unfold f_L_areWinchesRight_J189 at hf
            refine lv_istore (lv' := [(4, .int y0), (0, .ref (ha 0 0)), (1, .int x1), (2, .int x2), (3, .int x3), (5, .ref b1), (6, .int x6), (7, .int x7), (8, .int x8)]) hx hb dL_areWinchesRight_189 hl (by decide) rfl (fun ls hl => ?_)
            refine lv_iinc (v := (x8 + 1)) (lv' := [(8, .int (x8 + 1)), (4, .int y0), (0, .ref (ha 0 0)), (1, .int x1), (2, .int x2), (3, .int x3), (5, .ref b1), (6, .int x6), (7, .int x7)]) hx hb dL_areWinchesRight_191 hl (k := 8) rfl rfl (by decide) rfl (fun ls hl => ?_)
            refine lv_goto (tgt := 92) hx hb dL_areWinchesRight_194 (by decide) ?_
            cases hf
            exact ih _ _ y0 x7 (x8 + 1) u1 qv hv _ _ _ _ _ _ (by omega) (by omega) hr hP hD hS (lv_sub hl [2, 3, 4, 5, 1, 6, 7, 8, 0] rfl) hk
          have hJ188 : ∀ (u1 : (Nat → Int32)) (qv : QV) (hv : HV) (x7 : Int32) (x8 : Int32) (hd : Nat → Nat → Nat) (hs : Nat → Nat) (H : Heap) (locs : List Loc) (ls : Array Slot) (r : Sum (Int32 × Int32 × Int32 × (Nat → Int32) × QV × HV) (Int32 × Int32 × Int32 × (Nat → Int32) × QV × HV)), f_L_areWinchesRight_J188 u1 qv sv ov hv svd x1 x2 x3 x6 x7 x8 = some r → jbR (fun s => f_L_areWinchesRight_L92 sv ov svd x1 x2 x3 x6 (s.1) (s.2.1) (s.2.2.1) (s.2.2.2.1) (s.2.2.2.2.1) (s.2.2.2.2.2)) n92 o92 r → va_P (gD g) vwCl (wA g b1 u1 30 ++ wT g ha ((svd).map (fun _ => hs 0), ep, fc) ++ wQ g (ha 1) qv ++ wS g (ha 3) sv ++ wO g (ha 6) ov ++ wH g (ha 4) hd hv ++ wSv g hs svd) H → va_D A (wA g b1 u1 30 ++ wT g ha ((svd).map (fun _ => hs 0), ep, fc) ++ wQ g (ha 1) qv ++ wS g (ha 3) sv ++ wO g (ha 6) ov ++ wH g (ha 4) hd hv ++ wSv g hs svd) → va_S A s.heap H locs → lv_has ls 11 [(0, .ref (ha 0 0)), (1, .int x1), (2, .int x2), (3, .int x3), (5, .ref b1), (6, .int x6), (7, .int x7), (8, .int x8)] → W p l e rm_L_areWinchesRight s mi [.ref (ha 0 0)].toArray below meth c H locs (cc92 + 12) (sc92 + 250) Q (F0 mi 188 ls []) := by
            intro u1 qv hv x7 x8 hd hs H locs ls r hf hr hP hD hS hl
            unfold f_L_areWinchesRight_J188 at hf
            refine lv_iconst (v := 0) hx hb dL_areWinchesRight_188 (by decide) ?_
            exact hJ189 u1 qv hv x7 x8 0 _ _ _ _ _ _ hf hr hP hD hS (lv_sub hl [0, 1, 2, 3, 4, 5, 6, 7] rfl)
          have hJ162 : ∀ (u1 : (Nat → Int32)) (qv : QV) (hv : HV) (x4 : Int32) (x7 : Int32) (x8 : Int32) (x9 : Int32) (y0 : Int32) (y1 : Int32) (y2 : Int32) (hd : Nat → Nat → Nat) (hs : Nat → Nat) (H : Heap) (locs : List Loc) (ls : Array Slot) (r : Sum (Int32 × Int32 × Int32 × (Nat → Int32) × QV × HV) (Int32 × Int32 × Int32 × (Nat → Int32) × QV × HV)), f_L_areWinchesRight_J162 u1 qv sv ov hv svd x1 x2 x3 x4 x6 x7 x8 x9 y0 y1 y2 = some r → jbR (fun s => f_L_areWinchesRight_L92 sv ov svd x1 x2 x3 x6 (s.1) (s.2.1) (s.2.2.1) (s.2.2.2.1) (s.2.2.2.2.1) (s.2.2.2.2.2)) n92 o92 r → va_P (gD g) vwCl (wA g b1 u1 30 ++ wT g ha ((svd).map (fun _ => hs 0), ep, fc) ++ wQ g (ha 1) qv ++ wS g (ha 3) sv ++ wO g (ha 6) ov ++ wH g (ha 4) hd hv ++ wSv g hs svd) H → va_D A (wA g b1 u1 30 ++ wT g ha ((svd).map (fun _ => hs 0), ep, fc) ++ wQ g (ha 1) qv ++ wS g (ha 3) sv ++ wO g (ha 6) ov ++ wH g (ha 4) hd hv ++ wSv g hs svd) → va_S A s.heap H locs → lv_has ls 11 [(0, .ref (ha 0 0)), (1, .int x1), (2, .int x2), (3, .int x3), (4, .int x4), (5, .ref b1), (6, .int x6), (7, .int x7), (8, .int x8), (9, .int x9)] → W p l e rm_L_areWinchesRight s mi [.ref (ha 0 0)].toArray below meth c H locs (cc92 + 11) (sc92 + 244) Q (F0 mi 162 ls [.int y0, .int y1, .int y2, .ref b1]) := by
            intro u1 qv hv x4 x7 x8 x9 y0 y1 y2 hd hs H locs ls r hf hr hP hD hS hl
            unfold f_L_areWinchesRight_J162 at hf
            refine lv_iadd hx hb dL_areWinchesRight_162 ?_
            obtain ⟨h30, hf⟩ := jbA_e hf
            refine va_iast hx hb hK hP hD hS 0 0 rfl rfl h30 dL_areWinchesRight_163 (fun H locs hP hD hS => ?_)
            obtain ⟨w31, ew31⟩ : ∃ y, y = (upd u1 y2.toNatClampNeg (y1 + y0)) := ⟨_, rfl⟩
            have hf := jbN_e hf ew31
            have hP : va_P (gD g) vwCl (wA g b1 w31 30 ++ wT g ha ((svd).map (fun _ => hs 0), ep, fc) ++ wQ g (ha 1) qv ++ wS g (ha 3) sv ++ wO g (ha 6) ov ++ wH g (ha 4) hd hv ++ wSv g hs svd) H := by rw [ew31]; exact hP
            have hD : va_D A (wA g b1 w31 30 ++ wT g ha ((svd).map (fun _ => hs 0), ep, fc) ++ wQ g (ha 1) qv ++ wS g (ha 3) sv ++ wO g (ha 6) ov ++ wH g (ha 4) hd hv ++ wSv g hs svd) := by rw [ew31]; exact hD
            refine lv_aload_n hx hb dL_areWinchesRight_164 rfl (lv_at hl 0 rfl) ?_
            obtain ⟨o32, g33, hf⟩ := jbB_e hf
            rcases o32 with x9 | o32
            · have hf := jbM_l hf
              cases hf
            have hf := jbM_r hf
            refine cxpv_v (As := []) (rest := []) (Wr := (wA g b1 w31 30 ++ wS g (ha 3) sv ++ wO g (ha 6) ov)) (Wn := fun u9 => (wA g b1 w31 30 ++ wT g ha ((svd).map (fun _ => hs 0), ep, fc) ++ wQ g (ha 1) u9 ++ wS g (ha 3) sv ++ wO g (ha 6) ov ++ wH g (ha 4) hd (hv.1, hv.2.1, 0) ++ wSv g hs svd)) (WnX := fun _ => (wA g b1 w31 30 ++ wT g ha ((svd).map (fun _ => hs 0), ep, fc) ++ wQ g (ha 1) qv ++ wS g (ha 3) sv ++ wO g (ha 6) ov ++ wH g (ha 4) hd hv ++ wSv g hs svd)) ⟨hx, hb, hml, hown, hts⟩ (c_X10_restore l hlt g ha hd ep fc qv hv hs svd _ g33) (cwV 0 hts gL_areWinchesRight_X10_restore rfl rfl rfl hd_X10_restore ⟨(Nat.le_of_ble_eq_true rfl), (Nat.le_of_ble_eq_true rfl)⟩) hK hZ hT hA hP hD hS hl.1 (va_recv hK hP (ci := 9) (q0 := 1) rfl rfl) (wp_of fun f => by simp only [List.countP_append, List.countP_cons, List.countP_nil] <;> omega) (fun _ => (wp_of fun f => by simp only [List.countP_append, List.countP_cons, List.countP_nil] <;> omega)) (fun _ => (wp_of fun f => by simp only [List.countP_append, List.countP_cons, List.countP_nil] <;> omega)) rfl rfl (Nat.le_of_ble_eq_true rfl) ⟨(show cc92 + 11 + 1 ≤ 1973 by omega), (show sc92 + 244 + 6 ≤ 34112 by omega)⟩ dL_areWinchesRight_165 (fun _ _ _ _ _ ho _ _ _ _ _ _ => nomatch ho) (fun u9 H locs ho hP hD hS => ?_)
            cases ho
            refine lv_iload hx hb dL_areWinchesRight_168 (lv_at hl 4 rfl) ?_
            refine lv_if_eq (tgt := 188) hx hb dL_areWinchesRight_170 (by decide) (fun hc => ?_) (fun hc => ?_)
            · have hf := jbT hf hc
              exact hJ188 w31 o32 (hv.1, hv.2.1, 0) x7 x8 _ _ _ _ _ _ hf hr hP hD hS (lv_sub hl [0, 1, 2, 3, 5, 6, 7, 8] rfl)
            · have hf := jbF hf hc
              refine lv_iload hx hb dL_areWinchesRight_173 (lv_at hl 9 rfl) ?_
              refine lv_aload_n hx hb dL_areWinchesRight_175 rfl (lv_at hl 0 rfl) ?_
              refine lv_iload hx hb dL_areWinchesRight_176 (lv_at hl 6 rfl) ?_
              obtain ⟨o34, g35, hf⟩ := jbB_e hf
              rcases o34 with x9 | o34
              · have hf := jbM_l hf
                cases hf
              have hf := jbM_r hf
              refine cpv_i (As := [.int x6]) (rest := [.int x9]) (Wr := (wA g b1 w31 30 ++ wS g (ha 3) sv ++ wO g (ha 6) ov ++ wH g (ha 4) hd (hv.1, hv.2.1, 0) ++ wSv g hs svd)) (Wn := (wA g b1 w31 30 ++ wT g ha ((svd).map (fun _ => hs 0), ep, fc) ++ wQ g (ha 1) o32 ++ wS g (ha 3) sv ++ wO g (ha 6) ov ++ wH g (ha 4) hd (hv.1, hv.2.1, 0) ++ wSv g hs svd)) ⟨hx, hb, hml, hown, hts⟩ (cn_X10_liftableCells l hlt g ha ((svd).map (fun _ => hs 0), ep, fc) o32 x6 _ (show f_X10_liftableCells ((svd).map (fun _ => hs 0), ep, fc) o32 x6 = some (.inr o34) from g35)) (cwV 1 hts gL_areWinchesRight_X10_liftableCells rfl rfl rfl hd_X10_liftableCells ⟨(Nat.le_of_ble_eq_true rfl), (Nat.le_of_ble_eq_true rfl)⟩) hK hZ hT hA hP hD hS hl.1 (va_recv hK hP (ci := 9) (q0 := 1) rfl rfl) (wp_of fun f => by simp only [List.countP_append, List.countP_cons, List.countP_nil] <;> omega) (wp_of fun f => by simp only [List.countP_append, List.countP_cons, List.countP_nil] <;> omega) rfl rfl (Nat.le_of_ble_eq_true rfl) ⟨(show cc92 + 12 + 0 ≤ 1973 by omega), (show sc92 + 250 + 0 ≤ 34112 by omega)⟩ dL_areWinchesRight_178 (fun H locs hP hD hS => ?_)
              refine lv_icmp_ne (tgt := 188) hx hb dL_areWinchesRight_181 (by decide) (fun hc => ?_) (fun hc => ?_)
              · have hf := jbF hf hc
                exact hJ188 w31 o32 (hv.1, hv.2.1, 0) x7 x8 _ _ _ _ _ _ hf hr hP hD hS (lv_sub hl [0, 1, 2, 3, 5, 6, 7, 8] rfl)
              · have hf := jbT hf hc
                refine lv_iconst (v := 1) hx hb dL_areWinchesRight_184 (by decide) ?_
                refine lv_goto (tgt := 189) hx hb dL_areWinchesRight_185 (by decide) ?_
                exact hJ189 w31 o32 (hv.1, hv.2.1, 0) x7 x8 1 _ _ _ _ _ _ hf hr hP hD hS (lv_sub hl [0, 1, 2, 3, 5, 6, 7, 8] rfl)
          have hJ140 : ∀ (u1 : (Nat → Int32)) (qv : QV) (hv : HV) (x4 : Int32) (x8 : Int32) (x9 : Int32) (x10 : Int32) (y0 : Int32) (y1 : Int32) (hd : Nat → Nat → Nat) (hs : Nat → Nat) (H : Heap) (locs : List Loc) (ls : Array Slot) (r : Sum (Int32 × Int32 × Int32 × (Nat → Int32) × QV × HV) (Int32 × Int32 × Int32 × (Nat → Int32) × QV × HV)), f_L_areWinchesRight_J140 u1 qv sv ov hv svd x1 x2 x3 x4 x6 x8 x9 x10 y0 y1 = some r → jbR (fun s => f_L_areWinchesRight_L92 sv ov svd x1 x2 x3 x6 (s.1) (s.2.1) (s.2.2.1) (s.2.2.2.1) (s.2.2.2.2.1) (s.2.2.2.2.2)) n92 o92 r → va_P (gD g) vwCl (wA g b1 u1 30 ++ wT g ha ((svd).map (fun _ => hs 0), ep, fc) ++ wQ g (ha 1) qv ++ wS g (ha 3) sv ++ wO g (ha 6) ov ++ wH g (ha 4) hd hv ++ wSv g hs svd) H → va_D A (wA g b1 u1 30 ++ wT g ha ((svd).map (fun _ => hs 0), ep, fc) ++ wQ g (ha 1) qv ++ wS g (ha 3) sv ++ wO g (ha 6) ov ++ wH g (ha 4) hd hv ++ wSv g hs svd) → va_S A s.heap H locs → lv_has ls 11 [(0, .ref (ha 0 0)), (1, .int x1), (2, .int x2), (3, .int x3), (4, .int x4), (5, .ref b1), (6, .int x6), (8, .int x8), (9, .int x9), (10, .int x10)] → W p l e rm_L_areWinchesRight s mi [.ref (ha 0 0)].toArray below meth c H locs (cc92 + 11) (sc92 + 244) Q (F0 mi 140 ls [.int y0, .int y1]) := by
            intro u1 qv hv x4 x8 x9 x10 y0 y1 hd hs H locs ls r hf hr hP hD hS hl
            unfold f_L_areWinchesRight_J140 at hf
            refine lv_iadd hx hb dL_areWinchesRight_140 ?_
            refine lv_topi (fun z28 ez28 => ?_)
            have hf := jbN_e hf ez28
            refine lv_istore (lv' := [(7, .int z28), (0, .ref (ha 0 0)), (1, .int x1), (2, .int x2), (3, .int x3), (4, .int x4), (5, .ref b1), (6, .int x6), (8, .int x8), (9, .int x9), (10, .int x10)]) hx hb dL_areWinchesRight_141 hl (by decide) rfl (fun ls hl => ?_)
            refine lv_aload hx hb dL_areWinchesRight_143 (lv_at hl 6 rfl) ?_
            refine lv_iload hx hb dL_areWinchesRight_145 (lv_at hl 8 rfl) ?_
            refine lv_dup2_11 hx hb dL_areWinchesRight_147 rfl rfl ?_
            obtain ⟨h29, hf⟩ := jbA_e hf
            refine va_iald hx hb hK hP 0 0 rfl rfl h29 dL_areWinchesRight_148 ?_
            refine lv_iload hx hb dL_areWinchesRight_149 (lv_at hl 10 rfl) ?_
            refine lv_if_lt (tgt := 161) hx hb dL_areWinchesRight_151 (by decide) (fun hc => ?_) (fun hc => ?_)
            · have hf := jbT hf hc
              refine lv_iconst (v := 0) hx hb dL_areWinchesRight_161 (by decide) ?_
              exact hJ162 u1 qv hv x4 z28 x8 x9 0 (u1 x8.toNatClampNeg) x8 _ _ _ _ _ _ hf hr hP hD hS (lv_sub hl [1, 2, 3, 4, 5, 6, 7, 0, 8, 9] rfl)
            · have hf := jbF hf hc
              refine lv_iconst (v := 1) hx hb dL_areWinchesRight_154 (by decide) ?_
              refine lv_iload hx hb dL_areWinchesRight_155 (lv_at hl 7 rfl) ?_
              refine lv_ishl hx hb dL_areWinchesRight_157 ?_
              refine lv_goto (tgt := 162) hx hb dL_areWinchesRight_158 (by decide) ?_
              exact hJ162 u1 qv hv x4 z28 x8 x9 ((1 : Int32) <<< (x6 &&& 31)) (u1 x8.toNatClampNeg) x8 _ _ _ _ _ _ hf hr hP hD hS (lv_sub hl [1, 2, 3, 4, 5, 6, 7, 0, 8, 9] rfl)
          refine lv_iload hx hb dL_areWinchesRight_92 (lv_at hl 8 rfl) ?_
          refine lv_bipush (v := 30) hx hb dL_areWinchesRight_94 (by decide) ?_
          refine lv_icmp_ge (tgt := 197) hx hb dL_areWinchesRight_96 (by decide) (fun hc => ?_) (fun hc => ?_)
          · have hf := jbT hf hc
            cases hf
            obtain rfl := jbR_r hr
            refine W.widen (k := cc80 + 372) (n := sc80 + 7750) (by omega) (by omega) ?_
            exact hk _ _ _ _ _ hP hD hS (lv_sub hl [0, 1, 2, 3, 4, 5, 6, 7] rfl)
          · have hf := jbF hf hc
            refine lv_aload_n hx hb dL_areWinchesRight_99 rfl (lv_at hl 0 rfl) ?_
            refine lv_iload hx hb dL_areWinchesRight_100 (lv_at hl 6 rfl) ?_
            obtain ⟨o22, g23, hf⟩ := jbB_e hf
            rcases o22 with x9 | o22
            · have hf := jbM_l hf
              cases hf
            have hf := jbM_r hf
            refine cpv_i (As := [.int x6]) (rest := []) (Wr := (wA g b1 u1 30 ++ wS g (ha 3) sv ++ wO g (ha 6) ov ++ wH g (ha 4) hd hv ++ wSv g hs svd)) (Wn := (wA g b1 u1 30 ++ wT g ha ((svd).map (fun _ => hs 0), ep, fc) ++ wQ g (ha 1) qv ++ wS g (ha 3) sv ++ wO g (ha 6) ov ++ wH g (ha 4) hd hv ++ wSv g hs svd)) ⟨hx, hb, hml, hown, hts⟩ (cn_X10_liftableCells l hlt g ha ((svd).map (fun _ => hs 0), ep, fc) qv x6 _ (show f_X10_liftableCells ((svd).map (fun _ => hs 0), ep, fc) qv x6 = some (.inr o22) from g23)) (cwV 1 hts gL_areWinchesRight_X10_liftableCells rfl rfl rfl hd_X10_liftableCells ⟨(Nat.le_of_ble_eq_true rfl), (Nat.le_of_ble_eq_true rfl)⟩) hK hZ hT hA hP hD hS hl.1 (va_recv hK hP (ci := 9) (q0 := 1) rfl rfl) (wp_of fun f => by simp only [List.countP_append, List.countP_cons, List.countP_nil] <;> omega) (wp_of fun f => by simp only [List.countP_append, List.countP_cons, List.countP_nil] <;> omega) rfl rfl (Nat.le_of_ble_eq_true rfl) ⟨(show cc92 + 0 ≤ 1973 by omega), (show sc92 + 0 ≤ 34112 by omega)⟩ dL_areWinchesRight_102 (fun H locs hP hD hS => ?_)
            refine lv_istore (lv' := [(9, .int o22), (0, .ref (ha 0 0)), (1, .int x1), (2, .int x2), (3, .int x3), (4, .int x4), (5, .ref b1), (6, .int x6), (7, .int x7), (8, .int x8)]) hx hb dL_areWinchesRight_105 hl (by decide) rfl (fun ls hl => ?_)
            refine lv_aload_n hx hb dL_areWinchesRight_107 rfl (lv_at hl 1 rfl) ?_
            refine lv_bipush (v := 6) hx hb dL_areWinchesRight_108 (by decide) ?_
            refine lv_iload hx hb dL_areWinchesRight_110 (lv_at hl 9 rfl) ?_
            refine lv_bipush (v := 6) hx hb dL_areWinchesRight_112 (by decide) ?_
            refine lv_idiv hx hb dL_areWinchesRight_114 (by decide) ?_
            refine lv_iload hx hb dL_areWinchesRight_115 (lv_at hl 9 rfl) ?_
            refine lv_bipush (v := 6) hx hb dL_areWinchesRight_117 (by decide) ?_
            refine lv_irem hx hb dL_areWinchesRight_119 (by decide) ?_
            refine lv_iload hx hb dL_areWinchesRight_120 (lv_at hl 7 rfl) ?_
            refine lv_iconst (v := 0) hx hb dL_areWinchesRight_122 (by decide) ?_
            obtain ⟨o24, g25, hf⟩ := jbB_e hf
            refine czws_i (As := [.ref (ha 0 0), .int 6, .int (x8 / 6), .int (x8 - x8 / 6 * 6), .int x6, .int 0]) (rest := []) (Wr := (wA g b1 u1 30 ++ wS g (ha 3) sv ++ wO g (ha 6) ov ++ wSv g hs svd)) (Wn := fun hd26 => (wA g b1 u1 30 ++ wT g ha ((svd).map (fun _ => hs 0), ep, fc) ++ wQ g (ha 1) (o24.2.1) ++ wS g (ha 3) sv ++ wO g (ha 6) ov ++ wH g (ha 4) hd26 (o24.2.2) ++ wSv g hs svd)) ⟨hx, hb, hml, hown, hts⟩ (c_L_deed l hlt g ha hd ((svd).map (fun _ => hs 0), ep, fc) qv hv 6 (x8 / 6) (x8 - x8 / 6 * 6) x6 0 _ g25) (vx_cwSW 6 hts gL_areWinchesRight_L_deed rfl rfl rfl hd_L_deed ⟨(Nat.le_of_ble_eq_true rfl), (Nat.le_of_ble_eq_true rfl)⟩) hK hZ hT hA hP hD hS hl.1 (wp_of fun f => by simp only [List.countP_append, List.countP_cons, List.countP_nil] <;> omega) (fun _ => (wp_of fun f => by simp only [List.countP_append, List.countP_cons, List.countP_nil] <;> omega)) rfl rfl (Nat.le_of_ble_eq_true rfl) ⟨(show cc92 + 11 ≤ 1973 by omega), (show sc92 + 244 ≤ 34112 by omega)⟩ dL_areWinchesRight_123 (fun hd26 H locs _ hP hD hS => ?_)
            refine lv_topi (fun z27 ez27 => ?_)
            have hf := jbN_e hf ez27
            refine lv_istore (lv' := [(10, .int z27), (9, .int o22), (0, .ref (ha 0 0)), (1, .int x1), (2, .int x2), (3, .int x3), (4, .int x4), (5, .ref b1), (6, .int x6), (7, .int x7), (8, .int x8)]) hx hb dL_areWinchesRight_126 hl (by decide) rfl (fun ls hl => ?_)
            refine lv_iload hx hb dL_areWinchesRight_128 (lv_at hl 9 rfl) ?_
            refine lv_iload hx hb dL_areWinchesRight_130 (lv_at hl 0 rfl) ?_
            refine lv_if_lt (tgt := 139) hx hb dL_areWinchesRight_132 (by decide) (fun hc => ?_) (fun hc => ?_)
            · have hf := jbT hf hc
              refine lv_iconst (v := 0) hx hb dL_areWinchesRight_139 (by decide) ?_
              exact hJ140 u1 (o24.2.1) (o24.2.2) x4 x8 o22 z27 0 x7 _ _ _ _ _ _ hf hr hP hD hS (lv_sub hl [2, 3, 4, 5, 6, 7, 8, 10, 1, 0] rfl)
            · have hf := jbF hf hc
              refine lv_iconst (v := 1) hx hb dL_areWinchesRight_135 (by decide) ?_
              refine lv_goto (tgt := 140) hx hb dL_areWinchesRight_136 (by decide) ?_
              exact hJ140 u1 (o24.2.1) (o24.2.2) x4 x8 o22 z27 1 x7 _ _ _ _ _ _ hf hr hP hD hS (lv_sub hl [2, 3, 4, 5, 6, 7, 8, 10, 1, 0] rfl)
      refine lv_iload hx hb dL_areWinchesRight_80 (lv_at hl 6 rfl) ?_
      refine lv_iload_n hx hb dL_areWinchesRight_82 rfl (lv_at hl 1 rfl) ?_
      refine lv_icmp_ge (tgt := 226) hx hb dL_areWinchesRight_83 (by decide) (fun hc => ?_) (fun hc => ?_)
      · have hf := jbT hf hc
        cases hf
        obtain rfl := jbR_r hr
        refine W.widen (k := 1694) (n := 32438) (by omega) (by omega) ?_
        exact hk _ _ _ _ _ hP hD hS (lv_sub hl [0, 2, 3, 4, 5] rfl)
      · have hf := jbF hf hc
        refine lv_iconst (v := 0) hx hb dL_areWinchesRight_86 (by decide) ?_
        refine lv_istore (lv' := [(7, .int 0), (0, .ref (ha 0 0)), (1, .int x1), (2, .int x2), (3, .int x3), (4, .int x4), (5, .ref b1), (6, .int x6)]) hx hb dL_areWinchesRight_87 hl (by decide) rfl (fun ls hl => ?_)
        refine lv_iconst (v := 0) hx hb dL_areWinchesRight_89 (by decide) ?_
        refine lv_istore (lv' := [(8, .int 0), (7, .int 0), (0, .ref (ha 0 0)), (1, .int x1), (2, .int x2), (3, .int x3), (4, .int x4), (5, .ref b1), (6, .int x6)]) hx hb dL_areWinchesRight_90 hl (by decide) rfl (fun ls hl => ?_)
        obtain ⟨o92, hg, hf⟩ := jbB_e hf
        refine hL92 b1 sv ov svd x1 x2 x3 x6 _ _ _ x4 0 0 u1 qv hv _ _ _ _ _ _ (by omega) (by omega) hg hP hD hS (lv_sub hl [2, 3, 4, 5, 6, 7, 8, 1, 0] rfl) (fun hd hs H locs ls hP hD hS hl => ?_)
        have hP : va_P (gD g) vwCl (wA g b1 (o92.2.2.2.1) 30 ++ wT g ha ((svd).map (fun _ => hs 0), ep, fc) ++ wQ g (ha 1) (o92.2.2.2.2.1) ++ wS g (ha 3) sv ++ wO g (ha 6) ov ++ wH g (ha 4) hd (o92.2.2.2.2.2) ++ wSv g hs svd) H := hP
        have hD : va_D A (wA g b1 (o92.2.2.2.1) 30 ++ wT g ha ((svd).map (fun _ => hs 0), ep, fc) ++ wQ g (ha 1) (o92.2.2.2.2.1) ++ wS g (ha 3) sv ++ wO g (ha 6) ov ++ wH g (ha 4) hd (o92.2.2.2.2.2) ++ wSv g hs svd) := hD
        refine lv_iload hx hb dL_areWinchesRight_197 (lv_at hl 4 rfl) ?_
        refine lv_if_eq (tgt := 217) hx hb dL_areWinchesRight_199 (by decide) (fun hc => ?_) (fun hc => ?_)
        · have hf := jbT hf hc
          exact hJ217 (o92.2.2.2.1) (o92.2.2.2.2.1) (o92.2.2.2.2.2) x6 _ _ _ _ _ _ hf hr hP hD hS (lv_sub hl [0, 1, 2, 3, 5, 6] rfl)
        · have hf := jbF hf hc
          refine lv_aload_n hx hb dL_areWinchesRight_202 rfl (lv_at hl 0 rfl) ?_
          refine lv_iload hx hb dL_areWinchesRight_203 (lv_at hl 6 rfl) ?_
          obtain ⟨o20, g21, hf⟩ := jbB_e hf
          rcases o20 with x9 | o20
          · have hf := jbM_l hf
            cases hf
          have hf := jbM_r hf
          refine cpv_i (As := [.int x6]) (rest := []) (Wr := (wA g b1 (o92.2.2.2.1) 30 ++ wS g (ha 3) sv ++ wO g (ha 6) ov ++ wH g (ha 4) hd (o92.2.2.2.2.2) ++ wSv g hs svd)) (Wn := (wA g b1 (o92.2.2.2.1) 30 ++ wT g ha ((svd).map (fun _ => hs 0), ep, fc) ++ wQ g (ha 1) (o92.2.2.2.2.1) ++ wS g (ha 3) sv ++ wO g (ha 6) ov ++ wH g (ha 4) hd (o92.2.2.2.2.2) ++ wSv g hs svd)) ⟨hx, hb, hml, hown, hts⟩ (cn_X10_liftableCells l hlt g ha ((svd).map (fun _ => hs 0), ep, fc) (o92.2.2.2.2.1) x6 _ (show f_X10_liftableCells ((svd).map (fun _ => hs 0), ep, fc) (o92.2.2.2.2.1) x6 = some (.inr o20) from g21)) (cwV 1 hts gL_areWinchesRight_X10_liftableCells rfl rfl rfl hd_X10_liftableCells ⟨(Nat.le_of_ble_eq_true rfl), (Nat.le_of_ble_eq_true rfl)⟩) hK hZ hT hA hP hD hS hl.1 (va_recv hK hP (ci := 9) (q0 := 1) rfl rfl) (wp_of fun f => by simp only [List.countP_append, List.countP_cons, List.countP_nil] <;> omega) (wp_of fun f => by simp only [List.countP_append, List.countP_cons, List.countP_nil] <;> omega) rfl rfl (Nat.le_of_ble_eq_true rfl) ⟨(show cc80 + 372 + 0 ≤ 1973 by omega), (show sc80 + 7750 + 0 ≤ 34112 by omega)⟩ dL_areWinchesRight_205 (fun H locs hP hD hS => ?_)
          refine lv_iload hx hb dL_areWinchesRight_208 (lv_at hl 7 rfl) ?_
          refine lv_icmp_ne (tgt := 217) hx hb dL_areWinchesRight_210 (by decide) (fun hc => ?_) (fun hc => ?_)
          · have hf := jbF hf hc
            exact hJ217 (o92.2.2.2.1) (o92.2.2.2.2.1) (o92.2.2.2.2.2) x6 _ _ _ _ _ _ hf hr hP hD hS (lv_sub hl [0, 1, 2, 3, 5, 6] rfl)
          · have hf := jbT hf hc
            refine lv_iconst (v := 1) hx hb dL_areWinchesRight_213 (by decide) ?_
            refine lv_goto (tgt := 218) hx hb dL_areWinchesRight_214 (by decide) ?_
            exact hJ218 (o92.2.2.2.1) (o92.2.2.2.2.1) (o92.2.2.2.2.2) x6 1 _ _ _ _ _ _ hf hr hP hD hS (lv_sub hl [0, 1, 2, 3, 5, 6] rfl)
  have hJ65 : ∀ (qv : QV) (sv : SV) (ov : OV) (hv : HV) (svd : (Option QV)) (x1 : Int32) (x2 : Int32) (x3 : Int32) (y0 : Int32) (hd : Nat → Nat → Nat) (hs : Nat → Nat) (H : Heap) (locs : List Loc) (ls : Array Slot), f_L_areWinchesRight_J65 qv sv ov hv svd x1 x2 x3 y0 = some out → va_P (gD g) vwCl (wT g ha ((svd).map (fun _ => hs 0), ep, fc) ++ wQ g (ha 1) qv ++ wS g (ha 3) sv ++ wO g (ha 6) ov ++ wH g (ha 4) hd hv ++ wSv g hs svd) H → va_D A (wT g ha ((svd).map (fun _ => hs 0), ep, fc) ++ wQ g (ha 1) qv ++ wS g (ha 3) sv ++ wO g (ha 6) ov ++ wH g (ha 4) hd hv ++ wSv g hs svd) → va_S A s.heap H locs → lv_has ls 11 [(0, .ref (ha 0 0)), (1, .int x1), (2, .int x2), (3, .int x3)] → W p l e rm_L_areWinchesRight s mi [.ref (ha 0 0)].toArray below meth c H locs (195) (1170) Q (F0 mi 65 ls [.int y0]) := by
    intro qv sv ov hv svd x1 x2 x3 y0 hd hs H locs ls hf hP hD hS hl
    unfold f_L_areWinchesRight_J65 at hf
    refine lv_istore (lv' := [(4, .int y0), (0, .ref (ha 0 0)), (1, .int x1), (2, .int x2), (3, .int x3)]) hx hb dL_areWinchesRight_65 hl (by decide) rfl (fun ls hl => ?_)
    refine lv_aload_n hx hb dL_areWinchesRight_67 rfl (lv_at hl 1 rfl) ?_
    obtain ⟨o12, g13, hf⟩ := jbB_e hf
    refine czv_v (As := []) (rest := []) (Wr := (wS g (ha 3) sv ++ wO g (ha 6) ov ++ wH g (ha 4) hd hv)) (Wn := fun hs14 => (wT g ha (some (hs14 0), ep, fc) ++ wQ g (ha 1) qv ++ wS g (ha 3) sv ++ wO g (ha 6) ov ++ wH g (ha 4) hd hv ++ wSv g hs14 (some o12))) ⟨hx, hb, hml, hown, hts⟩ (c_X10_save l g ha ep fc qv hs svd _ g13) (cwV 0 hts gL_areWinchesRight_X10_save rfl rfl rfl hd_X10_save ⟨(Nat.le_of_ble_eq_true rfl), (Nat.le_of_ble_eq_true rfl)⟩) hK hZ hT hA hP hD hS hl.1 (va_recv hK hP (ci := 9) (q0 := 0) rfl rfl) (wp_of fun f => by simp only [List.countP_append, List.countP_cons, List.countP_nil] <;> omega) (fun hs14 => (by show (_ ++ (_ ++ wSv g hs14 (some o12))).Perm _; exact (wp_of fun f => by simp only [List.countP_append, List.countP_cons, List.countP_nil] <;> omega))) rfl rfl (Nat.le_of_ble_eq_true rfl) ⟨(Nat.le_of_ble_eq_true rfl), (Nat.le_of_ble_eq_true rfl)⟩ dL_areWinchesRight_68 (fun hs14 H locs _ hP hD hS => ?_)
    refine lv_bipush (v := 30) hx hb dL_areWinchesRight_71 (by decide) ?_
    refine va_newa (atype := .int) (a0 := (30, .inl (fun _ => 0))) hx hb k0 rfl hK hP hD hS hA (fun _ => rfl) (by decide) (show (30 : Int32).toNatClampNeg = 30 from by decide) (by decide) (Nat.le_of_ble_eq_true rfl) (Nat.le_of_ble_eq_true rfl) dL_areWinchesRight_73 (fun b1 cA9 H hK9 hP hD hS => ?_)
    have e9 := ar_id hK9 0 rfl
    rw [e9] at hP hD
    have hP : va_P (gD g) vwCl (wA g b1 (fun _ => (0 : Int32)) 30 ++ (wT g ha (some (hs14 0), ep, fc) ++ wQ g (ha 1) qv ++ wS g (ha 3) sv ++ wO g (ha 6) ov ++ wH g (ha 4) hd hv ++ wSv g hs14 (some o12))) H := wp_P List.perm_append_comm hP
    have hD : va_D A (wA g b1 (fun _ => (0 : Int32)) 30 ++ (wT g ha (some (hs14 0), ep, fc) ++ wQ g (ha 1) qv ++ wS g (ha 3) sv ++ wO g (ha 6) ov ++ wH g (ha 4) hd hv ++ wSv g hs14 (some o12))) := wp_D List.perm_append_comm hD
    obtain ⟨w15, ew15⟩ : ∃ y, y = (fun _ => (0 : Int32)) := ⟨_, rfl⟩
    have hf := jbN_e hf ew15
    rw [← ew15] at hP hD
    have hP : va_P (gD g) vwCl (wA g b1 w15 30 ++ wT g ha (some (hs14 0), ep, fc) ++ wQ g (ha 1) qv ++ wS g (ha 3) sv ++ wO g (ha 6) ov ++ wH g (ha 4) hd hv ++ wSv g hs14 (some o12)) H := hP
    have hD : va_D A (wA g b1 w15 30 ++ wT g ha (some (hs14 0), ep, fc) ++ wQ g (ha 1) qv ++ wS g (ha 3) sv ++ wO g (ha 6) ov ++ wH g (ha 4) hd hv ++ wSv g hs14 (some o12)) := hD
    refine lv_astore (lv' := [(5, .ref b1), (4, .int y0), (0, .ref (ha 0 0)), (1, .int x1), (2, .int x2), (3, .int x3)]) hx hb dL_areWinchesRight_75 hl (by decide) rfl (fun ls hl => ?_)
    refine lv_iconst (v := 0) hx hb dL_areWinchesRight_77 (by decide) ?_
    refine lv_istore (lv' := [(6, .int 0), (5, .ref b1), (4, .int y0), (0, .ref (ha 0 0)), (1, .int x1), (2, .int x2), (3, .int x3)]) hx hb dL_areWinchesRight_78 hl (by decide) rfl (fun ls hl => ?_)
    obtain ⟨o80, hg, hf⟩ := jbB_e hf
    refine hL80 b1 sv ov (some o12) x1 x2 x3 _ _ _ y0 0 w15 qv hv _ _ _ _ _ _ (Nat.le_of_ble_eq_true rfl) (Nat.le_of_ble_eq_true rfl) hg hP hD hS (lv_sub hl [3, 4, 5, 6, 2, 1, 0] rfl) (fun hd hs H locs ls hP hD hS hl => ?_)
    have hP : va_P (gD g) vwCl (wA g b1 (o80.2.2.1) 30 ++ wT g ha (some (hs 0), ep, fc) ++ wQ g (ha 1) (o80.2.2.2.1) ++ wS g (ha 3) sv ++ wO g (ha 6) ov ++ wH g (ha 4) hd (o80.2.2.2.2) ++ wSv g hs (some o12)) H := hP
    have hD : va_D A (wA g b1 (o80.2.2.1) 30 ++ wT g ha (some (hs 0), ep, fc) ++ wQ g (ha 1) (o80.2.2.2.1) ++ wS g (ha 3) sv ++ wO g (ha 6) ov ++ wH g (ha 4) hd (o80.2.2.2.2) ++ wSv g hs (some o12)) := hD
    refine lv_iconst (v := 0) hx hb dL_areWinchesRight_226 (by decide) ?_
    refine lv_istore (lv' := [(6, .int 0), (0, .ref (ha 0 0)), (2, .int x2), (3, .int x3), (4, .int (o80.1)), (5, .ref b1)]) hx hb dL_areWinchesRight_227 hl (by decide) rfl (fun ls hl => ?_)
    obtain ⟨o229, hg, hf⟩ := jbB_e hf
    refine hL229 b1 (o80.2.2.1) (o80.2.2.2.1) ov (o80.2.2.2.2) (some o12) x2 x3 _ _ _ (o80.1) 0 sv _ _ _ _ _ _ (Nat.le_of_ble_eq_true rfl) (Nat.le_of_ble_eq_true rfl) hg hP hD hS (lv_sub hl [1, 2, 3, 4, 5, 0] rfl) (fun hd hs H locs ls hP hD hS hl => ?_)
    have hP : va_P (gD g) vwCl (wA g b1 (o80.2.2.1) 30 ++ wT g ha (some (hs 0), ep, fc) ++ wQ g (ha 1) (o80.2.2.2.1) ++ wS g (ha 3) (o229.2.2) ++ wO g (ha 6) ov ++ wH g (ha 4) hd (o80.2.2.2.2) ++ wSv g hs (some o12)) H := hP
    have hD : va_D A (wA g b1 (o80.2.2.1) 30 ++ wT g ha (some (hs 0), ep, fc) ++ wQ g (ha 1) (o80.2.2.2.1) ++ wS g (ha 3) (o229.2.2) ++ wO g (ha 6) ov ++ wH g (ha 4) hd (o80.2.2.2.2) ++ wSv g hs (some o12)) := hD
    refine lv_iconst (v := 0) hx hb dL_areWinchesRight_312 (by decide) ?_
    refine lv_istore (lv' := [(6, .int 0), (0, .ref (ha 0 0)), (2, .int x2), (3, .int x3), (4, .int (o229.1))]) hx hb dL_areWinchesRight_313 hl (by decide) rfl (fun ls hl => ?_)
    obtain ⟨o315, hg, hf⟩ := jbB_e hf
    refine hL315 b1 (o80.2.2.1) (o80.2.2.2.1) (o229.2.2) ov (o80.2.2.2.2) (some o12) x3 (o229.1) _ x2 0 _ _ _ _ _ _ hg hP hD hS (lv_sub hl [1, 2, 3, 4, 0] rfl) (fun hd hs H locs ls hP hD hS hl => ?_)
    have hP : va_P (gD g) vwCl (wA g b1 (o80.2.2.1) 30 ++ wT g ha (some (hs 0), ep, fc) ++ wQ g (ha 1) (o80.2.2.2.1) ++ wS g (ha 3) (o229.2.2) ++ wO g (ha 6) ov ++ wH g (ha 4) hd (o80.2.2.2.2) ++ wSv g hs (some o12)) H := hP
    have hD : va_D A (wA g b1 (o80.2.2.1) 30 ++ wT g ha (some (hs 0), ep, fc) ++ wQ g (ha 1) (o80.2.2.2.1) ++ wS g (ha 3) (o229.2.2) ++ wO g (ha 6) ov ++ wH g (ha 4) hd (o80.2.2.2.2) ++ wSv g hs (some o12)) := hD
    refine lv_iload hx hb dL_areWinchesRight_341 (lv_at hl 3 rfl) ?_
    refine lv_if_eq (tgt := 366) hx hb dL_areWinchesRight_343 (by decide) (fun hc => ?_) (fun hc => ?_)
    · have hf := jbT hf hc
      refine lv_iconst (v := 0) hx hb dL_areWinchesRight_366 (by decide) ?_
      have hP : va_P (gD g) vwCl (wT g ha (some (hs 0), ep, fc) ++ wQ g (ha 1) (o80.2.2.2.1) ++ wS g (ha 3) (o229.2.2) ++ wO g (ha 6) ov ++ wH g (ha 4) hd (o80.2.2.2.2) ++ wSv g hs (some o12)) H := wp_Pl (wp_P (wp_of fun f => by simp only [List.countP_append, List.countP_cons, List.countP_nil] <;> omega) hP : va_P (gD g) vwCl ((wT g ha (some (hs 0), ep, fc) ++ wQ g (ha 1) (o80.2.2.2.1) ++ wS g (ha 3) (o229.2.2) ++ wO g (ha 6) ov ++ wH g (ha 4) hd (o80.2.2.2.2) ++ wSv g hs (some o12)) ++ (wA g b1 (o80.2.2.1) 30)) H)
      have hD : va_D A (wT g ha (some (hs 0), ep, fc) ++ wQ g (ha 1) (o80.2.2.2.1) ++ wS g (ha 3) (o229.2.2) ++ wO g (ha 6) ov ++ wH g (ha 4) hd (o80.2.2.2.2) ++ wSv g hs (some o12)) := wp_Dl (wp_D (wp_of fun f => by simp only [List.countP_append, List.countP_cons, List.countP_nil] <;> omega) hD : va_D A ((wT g ha (some (hs 0), ep, fc) ++ wQ g (ha 1) (o80.2.2.2.1) ++ wS g (ha 3) (o229.2.2) ++ wO g (ha 6) ov ++ wH g (ha 4) hd (o80.2.2.2.2) ++ wSv g hs (some o12)) ++ (wA g b1 (o80.2.2.1) 30)))
      cases hf
      subst hQ
      exact rz_i (RT := (Nat → Nat → Nat) × (Nat → Nat)) (PR := fun _ => True) (rv := fun _ => 0) (W1 := fun z => (wT g ha (some (z.2 0), ep, fc) ++ wQ g (ha 1) (o80.2.2.2.1) ++ wS g (ha 3) (o229.2.2) ++ wO g (ha 6) ov ++ wH g (ha 4) z.1 (o80.2.2.2.2) ++ wSv g z.2 (some o12))) (hd, hs) trivial rfl hx hb hrt hlk nar_0 hK hP hD hS (Nat.le_of_ble_eq_true rfl) (Nat.le_of_ble_eq_true rfl) dL_areWinchesRight_367
    · have hf := jbF hf hc
      refine lv_aload_n hx hb dL_areWinchesRight_346 rfl (lv_at hl 0 rfl) ?_
      obtain ⟨o16, g17, hf⟩ := jbB_e hf
      refine cpv_i (As := []) (rest := []) (Wr := (wA g b1 (o80.2.2.1) 30 ++ wS g (ha 3) (o229.2.2) ++ wO g (ha 6) ov ++ wH g (ha 4) hd (o80.2.2.2.2) ++ wSv g hs (some o12))) (Wn := (wA g b1 (o80.2.2.1) 30 ++ wT g ha (some (hs 0), ep, fc) ++ wQ g (ha 1) (o80.2.2.2.1) ++ wS g (ha 3) (o229.2.2) ++ wO g (ha 6) ov ++ wH g (ha 4) hd (o80.2.2.2.2) ++ wSv g hs (some o12))) ⟨hx, hb, hml, hown, hts⟩ (c_X10_yardWeight l hlt g ha (some (hs 0), ep, fc) (o80.2.2.2.1) _ (show f_X10_yardWeight (some (hs 0), ep, fc) (o80.2.2.2.1) = some o16 from g17)) (cwV 0 hts gL_areWinchesRight_X10_yardWeight rfl rfl rfl hd_X10_yardWeight ⟨(Nat.le_of_ble_eq_true rfl), (Nat.le_of_ble_eq_true rfl)⟩) hK hZ hT hA hP hD hS hl.1 (va_recv hK hP (ci := 9) (q0 := 1) rfl rfl) (wp_of fun f => by simp only [List.countP_append, List.countP_cons, List.countP_nil] <;> omega) (wp_of fun f => by simp only [List.countP_append, List.countP_cons, List.countP_nil] <;> omega) rfl rfl (Nat.le_of_ble_eq_true rfl) ⟨(Nat.le_of_ble_eq_true rfl), (Nat.le_of_ble_eq_true rfl)⟩ dL_areWinchesRight_347 (fun H locs hP hD hS => ?_)
      refine lv_iload_n hx hb dL_areWinchesRight_350 rfl (lv_at hl 1 rfl) ?_
      refine lv_icmp_ne (tgt := 366) hx hb dL_areWinchesRight_351 (by decide) (fun hc => ?_) (fun hc => ?_)
      · have hf := jbF hf hc
        refine lv_iconst (v := 0) hx hb dL_areWinchesRight_366 (by decide) ?_
        have hP : va_P (gD g) vwCl (wT g ha (some (hs 0), ep, fc) ++ wQ g (ha 1) (o80.2.2.2.1) ++ wS g (ha 3) (o229.2.2) ++ wO g (ha 6) ov ++ wH g (ha 4) hd (o80.2.2.2.2) ++ wSv g hs (some o12)) H := wp_Pl (wp_P (wp_of fun f => by simp only [List.countP_append, List.countP_cons, List.countP_nil] <;> omega) hP : va_P (gD g) vwCl ((wT g ha (some (hs 0), ep, fc) ++ wQ g (ha 1) (o80.2.2.2.1) ++ wS g (ha 3) (o229.2.2) ++ wO g (ha 6) ov ++ wH g (ha 4) hd (o80.2.2.2.2) ++ wSv g hs (some o12)) ++ (wA g b1 (o80.2.2.1) 30)) H)
        have hD : va_D A (wT g ha (some (hs 0), ep, fc) ++ wQ g (ha 1) (o80.2.2.2.1) ++ wS g (ha 3) (o229.2.2) ++ wO g (ha 6) ov ++ wH g (ha 4) hd (o80.2.2.2.2) ++ wSv g hs (some o12)) := wp_Dl (wp_D (wp_of fun f => by simp only [List.countP_append, List.countP_cons, List.countP_nil] <;> omega) hD : va_D A ((wT g ha (some (hs 0), ep, fc) ++ wQ g (ha 1) (o80.2.2.2.1) ++ wS g (ha 3) (o229.2.2) ++ wO g (ha 6) ov ++ wH g (ha 4) hd (o80.2.2.2.2) ++ wSv g hs (some o12)) ++ (wA g b1 (o80.2.2.1) 30)))
        cases hf
        subst hQ
        exact rz_i (RT := (Nat → Nat → Nat) × (Nat → Nat)) (PR := fun _ => True) (rv := fun _ => 0) (W1 := fun z => (wT g ha (some (z.2 0), ep, fc) ++ wQ g (ha 1) (o80.2.2.2.1) ++ wS g (ha 3) (o229.2.2) ++ wO g (ha 6) ov ++ wH g (ha 4) z.1 (o80.2.2.2.2) ++ wSv g z.2 (some o12))) (hd, hs) trivial rfl hx hb hrt hlk nar_0 hK hP hD hS (Nat.le_of_ble_eq_true rfl) (Nat.le_of_ble_eq_true rfl) dL_areWinchesRight_367
      · have hf := jbT hf hc
        refine lv_aload_n hx hb dL_areWinchesRight_354 rfl (lv_at hl 0 rfl) ?_
        obtain ⟨o18, g19, hf⟩ := jbB_e hf
        refine cps_i (As := [.ref (ha 0 0)]) (rest := []) (Wr := (wA g b1 (o80.2.2.1) 30 ++ wH g (ha 4) hd (o80.2.2.2.2) ++ wSv g hs (some o12))) (Wn := (wA g b1 (o80.2.2.1) 30 ++ wT g ha (some (hs 0), ep, fc) ++ wQ g (ha 1) (o80.2.2.2.1) ++ wS g (ha 3) (o18.2.1) ++ wO g (ha 6) (o18.2.2) ++ wH g (ha 4) hd (o80.2.2.2.2) ++ wSv g hs (some o12))) ⟨hx, hb, hml, hown, hts⟩ (c_L_looks l hlt g ha (some (hs 0), ep, fc) (o80.2.2.2.1) (o229.2.2) ov  _ g19) (va_cwS 1 hts gL_areWinchesRight_L_looks rfl rfl rfl hd_L_looks ⟨(Nat.le_of_ble_eq_true rfl), (Nat.le_of_ble_eq_true rfl)⟩) hK hZ hT hA hP hD hS hl.1 (wp_of fun f => by simp only [List.countP_append, List.countP_cons, List.countP_nil] <;> omega) (wp_of fun f => by simp only [List.countP_append, List.countP_cons, List.countP_nil] <;> omega) rfl rfl (Nat.le_of_ble_eq_true rfl) ⟨(Nat.le_of_ble_eq_true rfl), (Nat.le_of_ble_eq_true rfl)⟩ dL_areWinchesRight_355 (fun H locs hP hD hS => ?_)
        refine lv_iload_n hx hb dL_areWinchesRight_358 rfl (lv_at hl 2 rfl) ?_
        refine lv_icmp_ne (tgt := 366) hx hb dL_areWinchesRight_359 (by decide) (fun hc => ?_) (fun hc => ?_)
        · have hf := jbF hf hc
          refine lv_iconst (v := 0) hx hb dL_areWinchesRight_366 (by decide) ?_
          have hP : va_P (gD g) vwCl (wT g ha (some (hs 0), ep, fc) ++ wQ g (ha 1) (o80.2.2.2.1) ++ wS g (ha 3) (o18.2.1) ++ wO g (ha 6) (o18.2.2) ++ wH g (ha 4) hd (o80.2.2.2.2) ++ wSv g hs (some o12)) H := wp_Pl (wp_P (wp_of fun f => by simp only [List.countP_append, List.countP_cons, List.countP_nil] <;> omega) hP : va_P (gD g) vwCl ((wT g ha (some (hs 0), ep, fc) ++ wQ g (ha 1) (o80.2.2.2.1) ++ wS g (ha 3) (o18.2.1) ++ wO g (ha 6) (o18.2.2) ++ wH g (ha 4) hd (o80.2.2.2.2) ++ wSv g hs (some o12)) ++ (wA g b1 (o80.2.2.1) 30)) H)
          have hD : va_D A (wT g ha (some (hs 0), ep, fc) ++ wQ g (ha 1) (o80.2.2.2.1) ++ wS g (ha 3) (o18.2.1) ++ wO g (ha 6) (o18.2.2) ++ wH g (ha 4) hd (o80.2.2.2.2) ++ wSv g hs (some o12)) := wp_Dl (wp_D (wp_of fun f => by simp only [List.countP_append, List.countP_cons, List.countP_nil] <;> omega) hD : va_D A ((wT g ha (some (hs 0), ep, fc) ++ wQ g (ha 1) (o80.2.2.2.1) ++ wS g (ha 3) (o18.2.1) ++ wO g (ha 6) (o18.2.2) ++ wH g (ha 4) hd (o80.2.2.2.2) ++ wSv g hs (some o12)) ++ (wA g b1 (o80.2.2.1) 30)))
          cases hf
          subst hQ
          exact rz_i (RT := (Nat → Nat → Nat) × (Nat → Nat)) (PR := fun _ => True) (rv := fun _ => 0) (W1 := fun z => (wT g ha (some (z.2 0), ep, fc) ++ wQ g (ha 1) (o80.2.2.2.1) ++ wS g (ha 3) (o18.2.1) ++ wO g (ha 6) (o18.2.2) ++ wH g (ha 4) z.1 (o80.2.2.2.2) ++ wSv g z.2 (some o12))) (hd, hs) trivial rfl hx hb hrt hlk nar_0 hK hP hD hS (Nat.le_of_ble_eq_true rfl) (Nat.le_of_ble_eq_true rfl) dL_areWinchesRight_367
        · have hf := jbT hf hc
          refine lv_iconst (v := 1) hx hb dL_areWinchesRight_362 (by decide) ?_
          refine lv_goto (tgt := 367) hx hb dL_areWinchesRight_363 (by decide) ?_
          have hP : va_P (gD g) vwCl (wT g ha (some (hs 0), ep, fc) ++ wQ g (ha 1) (o80.2.2.2.1) ++ wS g (ha 3) (o18.2.1) ++ wO g (ha 6) (o18.2.2) ++ wH g (ha 4) hd (o80.2.2.2.2) ++ wSv g hs (some o12)) H := wp_Pl (wp_P (wp_of fun f => by simp only [List.countP_append, List.countP_cons, List.countP_nil] <;> omega) hP : va_P (gD g) vwCl ((wT g ha (some (hs 0), ep, fc) ++ wQ g (ha 1) (o80.2.2.2.1) ++ wS g (ha 3) (o18.2.1) ++ wO g (ha 6) (o18.2.2) ++ wH g (ha 4) hd (o80.2.2.2.2) ++ wSv g hs (some o12)) ++ (wA g b1 (o80.2.2.1) 30)) H)
          have hD : va_D A (wT g ha (some (hs 0), ep, fc) ++ wQ g (ha 1) (o80.2.2.2.1) ++ wS g (ha 3) (o18.2.1) ++ wO g (ha 6) (o18.2.2) ++ wH g (ha 4) hd (o80.2.2.2.2) ++ wSv g hs (some o12)) := wp_Dl (wp_D (wp_of fun f => by simp only [List.countP_append, List.countP_cons, List.countP_nil] <;> omega) hD : va_D A ((wT g ha (some (hs 0), ep, fc) ++ wQ g (ha 1) (o80.2.2.2.1) ++ wS g (ha 3) (o18.2.1) ++ wO g (ha 6) (o18.2.2) ++ wH g (ha 4) hd (o80.2.2.2.2) ++ wSv g hs (some o12)) ++ (wA g b1 (o80.2.2.1) 30)))
          cases hf
          subst hQ
          exact rz_i (RT := (Nat → Nat → Nat) × (Nat → Nat)) (PR := fun _ => True) (rv := fun _ => 1) (W1 := fun z => (wT g ha (some (z.2 0), ep, fc) ++ wQ g (ha 1) (o80.2.2.2.1) ++ wS g (ha 3) (o18.2.1) ++ wO g (ha 6) (o18.2.2) ++ wH g (ha 4) z.1 (o80.2.2.2.2) ++ wSv g z.2 (some o12))) (hd, hs) trivial rfl hx hb hrt hlk nar_1 hK hP hD hS (Nat.le_of_ble_eq_true rfl) (Nat.le_of_ble_eq_true rfl) dL_areWinchesRight_367
  have hJ64 : ∀ (qv : QV) (sv : SV) (ov : OV) (hv : HV) (svd : (Option QV)) (x1 : Int32) (x2 : Int32) (x3 : Int32) (hd : Nat → Nat → Nat) (hs : Nat → Nat) (H : Heap) (locs : List Loc) (ls : Array Slot), f_L_areWinchesRight_J64 qv sv ov hv svd x1 x2 x3 = some out → va_P (gD g) vwCl (wT g ha ((svd).map (fun _ => hs 0), ep, fc) ++ wQ g (ha 1) qv ++ wS g (ha 3) sv ++ wO g (ha 6) ov ++ wH g (ha 4) hd hv ++ wSv g hs svd) H → va_D A (wT g ha ((svd).map (fun _ => hs 0), ep, fc) ++ wQ g (ha 1) qv ++ wS g (ha 3) sv ++ wO g (ha 6) ov ++ wH g (ha 4) hd hv ++ wSv g hs svd) → va_S A s.heap H locs → lv_has ls 11 [(0, .ref (ha 0 0)), (1, .int x1), (2, .int x2), (3, .int x3)] → W p l e rm_L_areWinchesRight s mi [.ref (ha 0 0)].toArray below meth c H locs (195) (1170) Q (F0 mi 64 ls []) := by
    intro qv sv ov hv svd x1 x2 x3 hd hs H locs ls hf hP hD hS hl
    unfold f_L_areWinchesRight_J64 at hf
    refine lv_iconst (v := 0) hx hb dL_areWinchesRight_64 (by decide) ?_
    exact hJ65 qv sv ov hv svd x1 x2 x3 0 _ _ _ _ _ hf hP hD hS (lv_sub hl [0, 1, 2, 3] rfl)
  refine lv_aload_n hx hb dL_areWinchesRight_0 rfl (lv_at hl 0 rfl) ?_
  obtain ⟨o1, g2, hf⟩ := jbB_e hf
  refine cpv_i (As := []) (rest := []) (Wr := (wS g (ha 3) sv ++ wO g (ha 6) ov ++ wH g (ha 4) hd hv ++ wSv g hs svd)) (Wn := (wT g ha ((svd).map (fun _ => hs 0), ep, fc) ++ wQ g (ha 1) qv ++ wS g (ha 3) sv ++ wO g (ha 6) ov ++ wH g (ha 4) hd hv ++ wSv g hs svd)) ⟨hx, hb, hml, hown, hts⟩ (c_X10_winchCount l hlt g ha ((svd).map (fun _ => hs 0), ep, fc) qv _ (show f_X10_winchCount ((svd).map (fun _ => hs 0), ep, fc) qv = some o1 from g2)) (cwV 0 hts gL_areWinchesRight_X10_winchCount rfl rfl rfl hd_X10_winchCount ⟨(Nat.le_of_ble_eq_true rfl), (Nat.le_of_ble_eq_true rfl)⟩) hK hZ hT hA hP hD hS hl.1 (va_recv hK hP (ci := 9) (q0 := 0) rfl rfl) (wp_of fun f => by simp only [List.countP_append, List.countP_cons, List.countP_nil] <;> omega) (wp_of fun f => by simp only [List.countP_append, List.countP_cons, List.countP_nil] <;> omega) rfl rfl (Nat.le_of_ble_eq_true rfl) ⟨(Nat.le_of_ble_eq_true rfl), (Nat.le_of_ble_eq_true rfl)⟩ dL_areWinchesRight_1 (fun H locs hP hD hS => ?_)
  refine lv_istore_n (lv' := [(1, .int o1), (0, .ref (ha 0 0))]) hx hb dL_areWinchesRight_4 rfl hl (by decide) rfl (fun ls hl => ?_)
  refine lv_iconst (v := 0) hx hb dL_areWinchesRight_5 (by decide) ?_
  refine lv_istore_n (lv' := [(2, .int 0), (1, .int o1), (0, .ref (ha 0 0))]) hx hb dL_areWinchesRight_6 rfl hl (by decide) rfl (fun ls hl => ?_)
  refine lv_aload_n hx hb dL_areWinchesRight_7 rfl (lv_at hl 2 rfl) ?_
  obtain ⟨o3, g4, hf⟩ := jbB_e hf
  refine cps_i (As := [.ref (ha 0 0)]) (rest := []) (Wr := (wH g (ha 4) hd hv ++ wSv g hs svd)) (Wn := (wT g ha ((svd).map (fun _ => hs 0), ep, fc) ++ wQ g (ha 1) qv ++ wS g (ha 3) (o3.2.1) ++ wO g (ha 6) (o3.2.2) ++ wH g (ha 4) hd hv ++ wSv g hs svd)) ⟨hx, hb, hml, hown, hts⟩ (c_L_looks l hlt g ha ((svd).map (fun _ => hs 0), ep, fc) qv sv ov  _ g4) (va_cwS 1 hts gL_areWinchesRight_L_looks rfl rfl rfl hd_L_looks ⟨(Nat.le_of_ble_eq_true rfl), (Nat.le_of_ble_eq_true rfl)⟩) hK hZ hT hA hP hD hS hl.1 (wp_of fun f => by simp only [List.countP_append, List.countP_cons, List.countP_nil] <;> omega) (wp_of fun f => by simp only [List.countP_append, List.countP_cons, List.countP_nil] <;> omega) rfl rfl (Nat.le_of_ble_eq_true rfl) ⟨(Nat.le_of_ble_eq_true rfl), (Nat.le_of_ble_eq_true rfl)⟩ dL_areWinchesRight_8 (fun H locs hP hD hS => ?_)
  refine lv_topi (fun z5 ez5 => ?_)
  have hf := jbN_e hf ez5
  refine lv_istore_n (lv' := [(3, .int z5), (2, .int 0), (1, .int o1), (0, .ref (ha 0 0))]) hx hb dL_areWinchesRight_11 rfl hl (by decide) rfl (fun ls hl => ?_)
  refine lv_aload_n hx hb dL_areWinchesRight_12 rfl (lv_at hl 3 rfl) ?_
  refine lv_bipush (v := 6) hx hb dL_areWinchesRight_13 (by decide) ?_
  refine lv_iload_n hx hb dL_areWinchesRight_15 rfl (lv_at hl 2 rfl) ?_
  refine lv_iconst (v := 0) hx hb dL_areWinchesRight_16 (by decide) ?_
  refine lv_iconst (v := 0) hx hb dL_areWinchesRight_17 (by decide) ?_
  refine lv_iconst (v := 0) hx hb dL_areWinchesRight_18 (by decide) ?_
  obtain ⟨o6, g7, hf⟩ := jbB_e hf
  refine cws_i (As := [.ref (ha 0 0), .int 6, .int o1, .int 0, .int 0, .int 0]) (rest := []) (Wr := (wO g (ha 6) (o3.2.2) ++ wH g (ha 4) hd hv ++ wSv g hs svd)) (Wn := (wT g ha ((svd).map (fun _ => hs 0), ep, fc) ++ wQ g (ha 1) qv ++ wS g (ha 3) (o6.2) ++ wO g (ha 6) (o3.2.2) ++ wH g (ha 4) hd hv ++ wSv g hs svd)) ⟨hx, hb, hml, hown, hts⟩ (c_L_ask l hlt g ha ((svd).map (fun _ => hs 0), ep, fc) qv (o3.2.1) 6 o1 0 0 0 _ g7) (vx_cwSW 6 hts gL_areWinchesRight_L_ask rfl rfl rfl hd_L_ask ⟨(Nat.le_of_ble_eq_true rfl), (Nat.le_of_ble_eq_true rfl)⟩) hK hZ hT hA hP hD hS hl.1 (wp_of fun f => by simp only [List.countP_append, List.countP_cons, List.countP_nil] <;> omega) (wp_of fun f => by simp only [List.countP_append, List.countP_cons, List.countP_nil] <;> omega) rfl rfl (Nat.le_of_ble_eq_true rfl) ⟨(Nat.le_of_ble_eq_true rfl), (Nat.le_of_ble_eq_true rfl)⟩ dL_areWinchesRight_19 (fun H locs hP hD hS => ?_)
  refine lv_sipush (v := (-2002)) hx hb dL_areWinchesRight_22 (by decide) ?_
  refine lv_icmp_ne (tgt := 64) hx hb dL_areWinchesRight_25 (by decide) (fun hc => ?_) (fun hc => ?_)
  · have hf := jbF hf hc
    refine W.widen (k := 195) (n := 1170) (by omega) (by omega) ?_
    exact hJ64 qv (o6.2) (o3.2.2) hv svd o1 0 z5 _ _ _ _ _ hf hP hD hS (lv_sub hl [3, 2, 1, 0] rfl)
  · have hf := jbT hf hc
    refine lv_aload_n hx hb dL_areWinchesRight_28 rfl (lv_at hl 3 rfl) ?_
    refine lv_bipush (v := 6) hx hb dL_areWinchesRight_29 (by decide) ?_
    refine lv_iconst (v := (-1)) hx hb dL_areWinchesRight_31 (by decide) ?_
    refine lv_iconst (v := 0) hx hb dL_areWinchesRight_32 (by decide) ?_
    refine lv_iconst (v := 0) hx hb dL_areWinchesRight_33 (by decide) ?_
    refine lv_iconst (v := 0) hx hb dL_areWinchesRight_34 (by decide) ?_
    obtain ⟨o8, g9, hf⟩ := jbB_e hf
    refine cws_i (As := [.ref (ha 0 0), .int 6, .int (-1), .int 0, .int 0, .int 0]) (rest := []) (Wr := (wO g (ha 6) (o3.2.2) ++ wH g (ha 4) hd hv ++ wSv g hs svd)) (Wn := (wT g ha ((svd).map (fun _ => hs 0), ep, fc) ++ wQ g (ha 1) qv ++ wS g (ha 3) (o8.2) ++ wO g (ha 6) (o3.2.2) ++ wH g (ha 4) hd hv ++ wSv g hs svd)) ⟨hx, hb, hml, hown, hts⟩ (c_L_ask l hlt g ha ((svd).map (fun _ => hs 0), ep, fc) qv (o6.2) 6 (-1) 0 0 0 _ g9) (vx_cwSW 6 hts gL_areWinchesRight_L_ask rfl rfl rfl hd_L_ask ⟨(Nat.le_of_ble_eq_true rfl), (Nat.le_of_ble_eq_true rfl)⟩) hK hZ hT hA hP hD hS hl.1 (wp_of fun f => by simp only [List.countP_append, List.countP_cons, List.countP_nil] <;> omega) (wp_of fun f => by simp only [List.countP_append, List.countP_cons, List.countP_nil] <;> omega) rfl rfl (Nat.le_of_ble_eq_true rfl) ⟨(Nat.le_of_ble_eq_true rfl), (Nat.le_of_ble_eq_true rfl)⟩ dL_areWinchesRight_35 (fun H locs hP hD hS => ?_)
    refine lv_sipush (v := (-2002)) hx hb dL_areWinchesRight_38 (by decide) ?_
    refine lv_icmp_ne (tgt := 64) hx hb dL_areWinchesRight_41 (by decide) (fun hc => ?_) (fun hc => ?_)
    · have hf := jbF hf hc
      refine W.widen (k := 195) (n := 1170) (by omega) (by omega) ?_
      exact hJ64 qv (o8.2) (o3.2.2) hv svd o1 0 z5 _ _ _ _ _ hf hP hD hS (lv_sub hl [3, 2, 1, 0] rfl)
    · have hf := jbT hf hc
      refine lv_aload_n hx hb dL_areWinchesRight_44 rfl (lv_at hl 3 rfl) ?_
      refine lv_bipush (v := 7) hx hb dL_areWinchesRight_45 (by decide) ?_
      refine lv_iconst (v := 5) hx hb dL_areWinchesRight_47 (by decide) ?_
      refine lv_iconst (v := 0) hx hb dL_areWinchesRight_48 (by decide) ?_
      refine lv_iconst (v := 0) hx hb dL_areWinchesRight_49 (by decide) ?_
      refine lv_iconst (v := 0) hx hb dL_areWinchesRight_50 (by decide) ?_
      obtain ⟨o10, g11, hf⟩ := jbB_e hf
      refine cws_i (As := [.ref (ha 0 0), .int 7, .int 5, .int 0, .int 0, .int 0]) (rest := []) (Wr := (wO g (ha 6) (o3.2.2) ++ wH g (ha 4) hd hv ++ wSv g hs svd)) (Wn := (wT g ha ((svd).map (fun _ => hs 0), ep, fc) ++ wQ g (ha 1) qv ++ wS g (ha 3) (o10.2) ++ wO g (ha 6) (o3.2.2) ++ wH g (ha 4) hd hv ++ wSv g hs svd)) ⟨hx, hb, hml, hown, hts⟩ (c_L_ask l hlt g ha ((svd).map (fun _ => hs 0), ep, fc) qv (o8.2) 7 5 0 0 0 _ g11) (vx_cwSW 6 hts gL_areWinchesRight_L_ask rfl rfl rfl hd_L_ask ⟨(Nat.le_of_ble_eq_true rfl), (Nat.le_of_ble_eq_true rfl)⟩) hK hZ hT hA hP hD hS hl.1 (wp_of fun f => by simp only [List.countP_append, List.countP_cons, List.countP_nil] <;> omega) (wp_of fun f => by simp only [List.countP_append, List.countP_cons, List.countP_nil] <;> omega) rfl rfl (Nat.le_of_ble_eq_true rfl) ⟨(Nat.le_of_ble_eq_true rfl), (Nat.le_of_ble_eq_true rfl)⟩ dL_areWinchesRight_51 (fun H locs hP hD hS => ?_)
      refine lv_sipush (v := (-2002)) hx hb dL_areWinchesRight_54 (by decide) ?_
      refine lv_icmp_ne (tgt := 64) hx hb dL_areWinchesRight_57 (by decide) (fun hc => ?_) (fun hc => ?_)
      · have hf := jbF hf hc
        exact hJ64 qv (o10.2) (o3.2.2) hv svd o1 0 z5 _ _ _ _ _ hf hP hD hS (lv_sub hl [3, 2, 1, 0] rfl)
      · have hf := jbT hf hc
        refine lv_iconst (v := 1) hx hb dL_areWinchesRight_60 (by decide) ?_
        refine lv_goto (tgt := 65) hx hb dL_areWinchesRight_61 (by decide) ?_
        exact hJ65 qv (o10.2) (o3.2.2) hv svd o1 0 z5 1 _ _ _ _ _ hf hP hD hS (lv_sub hl [3, 2, 1, 0] rfl)
