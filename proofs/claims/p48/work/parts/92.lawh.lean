def rm_L_arePathsRight : Room := { frames := 12, cells := 100, slots := 624, locals := 216 }
theorem hd_L_arePathsRight : yL_arePathsRight.cls ≠ "java/lang/invoke/MethodHandle" ∧ yL_arePathsRight.cls ≠ "java/lang/invoke/VarHandle" ∧ (parseMethodDescriptor yL_arePathsRight.desc).map (fun d => d.parameters.length) = some 2 := by decide +kernel
set_option maxHeartbeats 4000000 in
set_option maxRecDepth 100000 in
theorem c_L_arePathsRight (l : Launch) (hlt : l.stackTraces = false) (g : GG) (ha : Nat → Nat → Nat) (tv : TV) (qv : QV) (sv : SV) (a1 : Int32) (out : Int32 × SV) (hf : f_L_arePathsRight qv sv a1 = some out) : MtI l yL_arePathsRight wsL_arePathsRight rm_L_arePathsRight g (wT g ha tv ++ wQ g (ha 1) qv ++ wS g (ha 3) sv) [.ref (ha 0 0), .int a1] (out.1) (wT g ha tv ++ wQ g (ha 1) qv ++ wS g (ha 3) (out.2)) 100 624 := by
  refine fun sz => mt_of (cc := cL_arePathsRight) (maxL := 8) (ret := (some .boolean)) (own := RL) (Qc := fun A => va_Qi (fun r (_ : Unit) => r = (out.1)) (fun _ t => PosM g A (wT g ha tv ++ wQ g (ha 1) qv ++ wS g (ha 3) (out.2)) t) A) (by decide +kernel) rfl rfl (Nat.le_of_ble_eq_true rfl) ?_ sz
  intro p e s mi below meth c A ls hB hnm hrt hlk hP hD hl
  obtain ⟨hx, hb, hml, hown, hts, hK, hZ, hT, hA, -⟩ := hB
  have hS : va_S A s.heap s.heap [] := va_S.rf
  have hl : lv_has ls 8 [(0, .ref (ha 0 0)), (1, .int a1)] := hl
  have k0 := hts (.arrayClass .int) (by decide +kernel)
  have k1 := hts (.methodLink RL 151 Lib.Math.abs.name) (by decide +kernel)
  have k2 := hts (.static Lib.Math.abs.name) (by decide +kernel)
  have k3 := hts (.initialized "java/lang/Math") (by decide +kernel)
  have k4 := hts (.code Lib.Math.abs.name Lib.Math.abs.code 1 (some .int)) (by decide +kernel)
  have k5 := hts (.methodLink RL 158 Lib.Math.min.name) (by decide +kernel)
  have k6 := hts (.static Lib.Math.min.name) (by decide +kernel)
  have k7 := hts (.code Lib.Math.min.name Lib.Math.min.code 2 (some .int)) (by decide +kernel)
  generalize hQ : MQ below _ _ _ _ _ _ = Q
  unfold f_L_arePathsRight at hf
  have hL233 : ∀ (b1 : Nat) (u1 : (Nat → Int32)) (x1 : Int32) (n233 : Nat) (cc233 sc233 : Nat) (x3 : Int32) (x4 : Int32) (sv : SV) (H : Heap) (locs : List Loc) (ls : Array Slot) (o233 : Int32 × Int32 × SV), cc233 + 3 * n233 ≤ 100 → sc233 + 18 * n233 ≤ 624 → jbL (fun s => f_L_arePathsRight_L233 u1 qv x1 (s.1) (s.2.1) (s.2.2)) n233 (x3, x4, sv) = some o233 → va_P (gD g) vwCl (wA g b1 u1 30 ++ wT g ha tv ++ wQ g (ha 1) qv ++ wS g (ha 3) sv) H → va_D A (wA g b1 u1 30 ++ wT g ha tv ++ wQ g (ha 1) qv ++ wS g (ha 3) sv) → va_S A s.heap H locs → lv_has ls 8 [(0, .ref (ha 0 0)), (1, .int x1), (2, .ref b1), (3, .int x3), (4, .int x4)] → (∀ (H : Heap) (locs : List Loc) (ls : Array Slot), va_P (gD g) vwCl (wA g b1 u1 30 ++ wT g ha tv ++ wQ g (ha 1) qv ++ wS g (ha 3) (o233.2.2)) H → va_D A (wA g b1 u1 30 ++ wT g ha tv ++ wQ g (ha 1) qv ++ wS g (ha 3) (o233.2.2)) → va_S A s.heap H locs → lv_has ls 8 [(3, .int (o233.1))] → W p l e rm_L_arePathsRight s mi [.ref (ha 0 0), .int a1].toArray below meth c H locs (100) (624) Q (F0 mi 301 ls [])) → W p l e rm_L_arePathsRight s mi [.ref (ha 0 0), .int a1].toArray below meth c H locs (cc233) (sc233) Q (F0 mi 233 ls []) := by
    intro b1 u1 x1 n233
    induction n233 with
    | zero => intro cc233 sc233 x3 x4 sv H locs ls o233 hcc233 hsc233 hf; exact absurd hf (jbL_0 _ _ _)
    | succ n233 ih =>
      intro cc233 sc233 x3 x4 sv H locs ls o233 hcc233 hsc233 hf hP hD hS hl hk
      obtain ⟨r, hf, hr⟩ := jbL_e hf
      have hf : f_L_arePathsRight_L233 u1 qv x1 x3 x4 sv = some r := hf
      unfold f_L_arePathsRight_L233 at hf
      have hJ294 : ∀ (sv : SV) (x4 : Int32) (y0 : Int32) (H : Heap) (locs : List Loc) (ls : Array Slot) (r : Sum (Int32 × Int32 × SV) (Int32 × Int32 × SV)), f_L_arePathsRight_J294 u1 qv sv x1 x4 y0 = some r → jbR (fun s => f_L_arePathsRight_L233 u1 qv x1 (s.1) (s.2.1) (s.2.2)) n233 o233 r → va_P (gD g) vwCl (wA g b1 u1 30 ++ wT g ha tv ++ wQ g (ha 1) qv ++ wS g (ha 3) sv) H → va_D A (wA g b1 u1 30 ++ wT g ha tv ++ wQ g (ha 1) qv ++ wS g (ha 3) sv) → va_S A s.heap H locs → lv_has ls 8 [(0, .ref (ha 0 0)), (1, .int x1), (2, .ref b1), (4, .int x4)] → W p l e rm_L_arePathsRight s mi [.ref (ha 0 0), .int a1].toArray below meth c H locs (cc233 + 3) (sc233 + 18) Q (F0 mi 294 ls [.int y0]) := by
        intro sv x4 y0 H locs ls r hf hr hP hD hS hl
        unfold f_L_arePathsRight_J294 at hf
        refine lv_istore_n (lv' := [(3, .int y0), (0, .ref (ha 0 0)), (1, .int x1), (2, .ref b1), (4, .int x4)]) hx hb dL_arePathsRight_294 rfl hl (by decide) rfl (fun ls hl => ?_)
        refine lv_iinc (v := (x4 + 1)) (lv' := [(4, .int (x4 + 1)), (3, .int y0), (0, .ref (ha 0 0)), (1, .int x1), (2, .ref b1)]) hx hb dL_arePathsRight_295 hl (k := 4) rfl rfl (by decide) rfl (fun ls hl => ?_)
        refine lv_goto (tgt := 233) hx hb dL_arePathsRight_298 (by decide) ?_
        cases hf
        exact ih _ _ y0 (x4 + 1) sv _ _ _ _ (by omega) (by omega) hr hP hD hS (lv_sub hl [2, 3, 4, 1, 0] rfl) hk
      have hJ293 : ∀ (sv : SV) (x4 : Int32) (H : Heap) (locs : List Loc) (ls : Array Slot) (r : Sum (Int32 × Int32 × SV) (Int32 × Int32 × SV)), f_L_arePathsRight_J293 u1 qv sv x1 x4 = some r → jbR (fun s => f_L_arePathsRight_L233 u1 qv x1 (s.1) (s.2.1) (s.2.2)) n233 o233 r → va_P (gD g) vwCl (wA g b1 u1 30 ++ wT g ha tv ++ wQ g (ha 1) qv ++ wS g (ha 3) sv) H → va_D A (wA g b1 u1 30 ++ wT g ha tv ++ wQ g (ha 1) qv ++ wS g (ha 3) sv) → va_S A s.heap H locs → lv_has ls 8 [(0, .ref (ha 0 0)), (1, .int x1), (2, .ref b1), (4, .int x4)] → W p l e rm_L_arePathsRight s mi [.ref (ha 0 0), .int a1].toArray below meth c H locs (cc233 + 3) (sc233 + 18) Q (F0 mi 293 ls []) := by
        intro sv x4 H locs ls r hf hr hP hD hS hl
        unfold f_L_arePathsRight_J293 at hf
        refine lv_iconst (v := 0) hx hb dL_arePathsRight_293 (by decide) ?_
        exact hJ294 sv x4 0 _ _ _ _ hf hr hP hD hS (lv_sub hl [0, 1, 2, 3] rfl)
      have hJ286 : ∀ (sv : SV) (x4 : Int32) (y0 : Int32) (y1 : Int32) (H : Heap) (locs : List Loc) (ls : Array Slot) (r : Sum (Int32 × Int32 × SV) (Int32 × Int32 × SV)), f_L_arePathsRight_J286 u1 qv sv x1 x4 y0 y1 = some r → jbR (fun s => f_L_arePathsRight_L233 u1 qv x1 (s.1) (s.2.1) (s.2.2)) n233 o233 r → va_P (gD g) vwCl (wA g b1 u1 30 ++ wT g ha tv ++ wQ g (ha 1) qv ++ wS g (ha 3) sv) H → va_D A (wA g b1 u1 30 ++ wT g ha tv ++ wQ g (ha 1) qv ++ wS g (ha 3) sv) → va_S A s.heap H locs → lv_has ls 8 [(0, .ref (ha 0 0)), (1, .int x1), (2, .ref b1), (4, .int x4)] → W p l e rm_L_arePathsRight s mi [.ref (ha 0 0), .int a1].toArray below meth c H locs (cc233 + 3) (sc233 + 18) Q (F0 mi 286 ls [.int y0, .int y1]) := by
        intro sv x4 y0 y1 H locs ls r hf hr hP hD hS hl
        unfold f_L_arePathsRight_J286 at hf
        refine lv_icmp_ne (tgt := 293) hx hb dL_arePathsRight_286 (by decide) (fun hc => ?_) (fun hc => ?_)
        · have hf := jbF hf hc
          exact hJ293 sv x4 _ _ _ _ hf hr hP hD hS (lv_sub hl [0, 1, 2, 3] rfl)
        · have hf := jbT hf hc
          refine lv_iconst (v := 1) hx hb dL_arePathsRight_289 (by decide) ?_
          refine lv_goto (tgt := 294) hx hb dL_arePathsRight_290 (by decide) ?_
          exact hJ294 sv x4 1 _ _ _ _ hf hr hP hD hS (lv_sub hl [0, 1, 2, 3] rfl)
      refine lv_iload hx hb dL_arePathsRight_233 (lv_at hl 4 rfl) ?_
      refine lv_bipush (v := 30) hx hb dL_arePathsRight_235 (by decide) ?_
      refine lv_icmp_ge (tgt := 301) hx hb dL_arePathsRight_237 (by decide) (fun hc => ?_) (fun hc => ?_)
      · have hf := jbT hf hc
        cases hf
        obtain rfl := jbR_r hr
        refine W.widen (k := 100) (n := 624) (by omega) (by omega) ?_
        exact hk _ _ _ hP hD hS (lv_sub hl [3] rfl)
      · have hf := jbF hf hc
        refine lv_iload_n hx hb dL_arePathsRight_240 rfl (lv_at hl 3 rfl) ?_
        refine lv_if_eq (tgt := 293) hx hb dL_arePathsRight_241 (by decide) (fun hc => ?_) (fun hc => ?_)
        · have hf := jbT hf hc
          refine W.widen (k := cc233 + 3) (n := sc233 + 18) (by omega) (by omega) ?_
          exact hJ293 sv x4 _ _ _ _ hf hr hP hD hS (lv_sub hl [0, 1, 2, 4] rfl)
        · have hf := jbF hf hc
          refine lv_aload_n hx hb dL_arePathsRight_244 rfl (lv_at hl 0 rfl) ?_
          refine lv_iconst (v := 5) hx hb dL_arePathsRight_245 (by decide) ?_
          refine lv_iload_n hx hb dL_arePathsRight_246 rfl (lv_at hl 1 rfl) ?_
          refine lv_bipush (v := 6) hx hb dL_arePathsRight_247 (by decide) ?_
          refine lv_idiv hx hb dL_arePathsRight_249 (by decide) ?_
          refine lv_iload_n hx hb dL_arePathsRight_250 rfl (lv_at hl 1 rfl) ?_
          refine lv_bipush (v := 6) hx hb dL_arePathsRight_251 (by decide) ?_
          refine lv_irem hx hb dL_arePathsRight_253 (by decide) ?_
          refine lv_iload hx hb dL_arePathsRight_254 (lv_at hl 4 rfl) ?_
          refine lv_bipush (v := 6) hx hb dL_arePathsRight_256 (by decide) ?_
          refine lv_idiv hx hb dL_arePathsRight_258 (by decide) ?_
          refine lv_iload hx hb dL_arePathsRight_259 (lv_at hl 4 rfl) ?_
          refine lv_bipush (v := 6) hx hb dL_arePathsRight_261 (by decide) ?_
          refine lv_irem hx hb dL_arePathsRight_263 (by decide) ?_
          obtain ⟨o26, g27, hf⟩ := jbB_e hf
          refine cws_i (As := [.ref (ha 0 0), .int 5, .int (x1 / 6), .int (x1 - x1 / 6 * 6), .int (x4 / 6), .int (x4 - x4 / 6 * 6)]) (rest := []) (Wr := (wA g b1 u1 30)) (Wn := (wA g b1 u1 30 ++ wT g ha tv ++ wQ g (ha 1) qv ++ wS g (ha 3) (o26.2))) ⟨hx, hb, hml, hown, hts⟩ (c_L_ask l hlt g ha tv qv sv 5 (x1 / 6) (x1 - x1 / 6 * 6) (x4 / 6) (x4 - x4 / 6 * 6) _ g27) (vx_cwSW 6 hts gL_arePathsRight_L_ask rfl rfl rfl hd_L_ask ⟨(Nat.le_of_ble_eq_true rfl), (Nat.le_of_ble_eq_true rfl)⟩) hK hZ hT hA hP hD hS hl.1 (wp_of fun f => by simp only [List.countP_append, List.countP_cons, List.countP_nil] <;> omega) (wp_of fun f => by simp only [List.countP_append, List.countP_cons, List.countP_nil] <;> omega) rfl rfl (Nat.le_of_ble_eq_true rfl) ⟨(show cc233 + 3 ≤ 100 by omega), (show sc233 + 18 ≤ 624 by omega)⟩ dL_arePathsRight_264 (fun H locs hP hD hS => ?_)
          refine lv_aload_n hx hb dL_arePathsRight_267 rfl (lv_at hl 2 rfl) ?_
          refine lv_iload hx hb dL_arePathsRight_268 (lv_at hl 4 rfl) ?_
          obtain ⟨h28, hf⟩ := jbA_e hf
          refine va_iald hx hb hK hP 0 0 rfl rfl h28 dL_arePathsRight_270 ?_
          refine lv_bipush (v := 98) hx hb dL_arePathsRight_271 (by decide) ?_
          refine lv_icmp_le (tgt := 282) hx hb dL_arePathsRight_273 (by decide) (fun hc => ?_) (fun hc => ?_)
          · have hf := jbT hf hc
            refine lv_aload_n hx hb dL_arePathsRight_282 rfl (lv_at hl 2 rfl) ?_
            refine lv_iload hx hb dL_arePathsRight_283 (lv_at hl 4 rfl) ?_
            obtain ⟨h29, hf⟩ := jbA_e hf
            refine va_iald hx hb hK hP 0 0 rfl rfl h29 dL_arePathsRight_285 ?_
            exact hJ286 (o26.2) x4 (u1 x4.toNatClampNeg) (o26.1) _ _ _ _ hf hr hP hD hS (lv_sub hl [0, 1, 2, 4] rfl)
          · have hf := jbF hf hc
            refine lv_sipush (v := (-2004)) hx hb dL_arePathsRight_276 (by decide) ?_
            refine lv_goto (tgt := 286) hx hb dL_arePathsRight_279 (by decide) ?_
            exact hJ286 (o26.2) x4 (-2004) (o26.1) _ _ _ _ hf hr hP hD hS (lv_sub hl [0, 1, 2, 4] rfl)
  have hJ229 : ∀ (b1 : Nat) (u1 : (Nat → Int32)) (sv : SV) (x1 : Int32) (y0 : Int32) (H : Heap) (locs : List Loc) (ls : Array Slot), f_L_arePathsRight_J229 u1 qv sv x1 y0 = some out → va_P (gD g) vwCl (wA g b1 u1 30 ++ wT g ha tv ++ wQ g (ha 1) qv ++ wS g (ha 3) sv) H → va_D A (wA g b1 u1 30 ++ wT g ha tv ++ wQ g (ha 1) qv ++ wS g (ha 3) sv) → va_S A s.heap H locs → lv_has ls 8 [(0, .ref (ha 0 0)), (1, .int x1), (2, .ref b1)] → W p l e rm_L_arePathsRight s mi [.ref (ha 0 0), .int a1].toArray below meth c H locs (7) (66) Q (F0 mi 229 ls [.int y0]) := by
    intro b1 u1 sv x1 y0 H locs ls hf hP hD hS hl
    unfold f_L_arePathsRight_J229 at hf
    refine lv_istore_n (lv' := [(3, .int y0), (0, .ref (ha 0 0)), (1, .int x1), (2, .ref b1)]) hx hb dL_arePathsRight_229 rfl hl (by decide) rfl (fun ls hl => ?_)
    refine lv_iconst (v := 0) hx hb dL_arePathsRight_230 (by decide) ?_
    refine lv_istore (lv' := [(4, .int 0), (3, .int y0), (0, .ref (ha 0 0)), (1, .int x1), (2, .ref b1)]) hx hb dL_arePathsRight_231 hl (by decide) rfl (fun ls hl => ?_)
    obtain ⟨o233, hg, hf⟩ := jbB_e hf
    refine hL233 b1 u1 x1 _ _ _ y0 0 sv _ _ _ _ (Nat.le_of_ble_eq_true rfl) (Nat.le_of_ble_eq_true rfl) hg hP hD hS (lv_sub hl [2, 3, 4, 1, 0] rfl) (fun H locs ls hP hD hS hl => ?_)
    refine lv_iload_n hx hb dL_arePathsRight_301 rfl (lv_at hl 0 rfl) ?_
    obtain ⟨h25, hf⟩ := jbA_e hf
    have hP : va_P (gD g) vwCl (wT g ha tv ++ wQ g (ha 1) qv ++ wS g (ha 3) (o233.2.2)) H := wp_Pl (wp_P (wp_of fun f => by simp only [List.countP_append, List.countP_cons, List.countP_nil] <;> omega) hP : va_P (gD g) vwCl ((wT g ha tv ++ wQ g (ha 1) qv ++ wS g (ha 3) (o233.2.2)) ++ (wA g b1 u1 30)) H)
    have hD : va_D A (wT g ha tv ++ wQ g (ha 1) qv ++ wS g (ha 3) (o233.2.2)) := wp_Dl (wp_D (wp_of fun f => by simp only [List.countP_append, List.countP_cons, List.countP_nil] <;> omega) hD : va_D A ((wT g ha tv ++ wQ g (ha 1) qv ++ wS g (ha 3) (o233.2.2)) ++ (wA g b1 u1 30)))
    cases hf
    subst hQ
    exact rt_i hx hb hrt hlk (nar_z h25) hK hP hD hS (Nat.le_of_ble_eq_true rfl) (Nat.le_of_ble_eq_true rfl) dL_arePathsRight_302
  have hJ228 : ∀ (b1 : Nat) (u1 : (Nat → Int32)) (sv : SV) (x1 : Int32) (H : Heap) (locs : List Loc) (ls : Array Slot), f_L_arePathsRight_J228 u1 qv sv x1 = some out → va_P (gD g) vwCl (wA g b1 u1 30 ++ wT g ha tv ++ wQ g (ha 1) qv ++ wS g (ha 3) sv) H → va_D A (wA g b1 u1 30 ++ wT g ha tv ++ wQ g (ha 1) qv ++ wS g (ha 3) sv) → va_S A s.heap H locs → lv_has ls 8 [(0, .ref (ha 0 0)), (1, .int x1), (2, .ref b1)] → W p l e rm_L_arePathsRight s mi [.ref (ha 0 0), .int a1].toArray below meth c H locs (7) (66) Q (F0 mi 228 ls []) := by
    intro b1 u1 sv x1 H locs ls hf hP hD hS hl
    unfold f_L_arePathsRight_J228 at hf
    refine lv_iconst (v := 0) hx hb dL_arePathsRight_228 (by decide) ?_
    exact hJ229 b1 u1 sv x1 0 _ _ _ hf hP hD hS (lv_sub hl [0, 1, 2] rfl)
  have hL50 : ∀ (b1 : Nat) (sv : SV) (x1 : Int32) (n50 : Nat) (x3 : Int32) (u1 : (Nat → Int32)) (H : Heap) (locs : List Loc) (ls : Array Slot) (o50 : Int32 × (Nat → Int32)), jbL (fun s => f_L_arePathsRight_L50 qv sv x1 (s.1) (s.2)) n50 (x3, u1) = some o50 → va_P (gD g) vwCl (wA g b1 u1 30 ++ wT g ha tv ++ wQ g (ha 1) qv ++ wS g (ha 3) sv) H → va_D A (wA g b1 u1 30 ++ wT g ha tv ++ wQ g (ha 1) qv ++ wS g (ha 3) sv) → va_S A s.heap H locs → lv_has ls 8 [(0, .ref (ha 0 0)), (1, .int x1), (2, .ref b1), (3, .int x3)] → (∀ (H : Heap) (locs : List Loc) (ls : Array Slot), va_P (gD g) vwCl (wA g b1 (o50.2) 30 ++ wT g ha tv ++ wQ g (ha 1) qv ++ wS g (ha 3) sv) H → va_D A (wA g b1 (o50.2) 30 ++ wT g ha tv ++ wQ g (ha 1) qv ++ wS g (ha 3) sv) → va_S A s.heap H locs → lv_has ls 8 [(0, .ref (ha 0 0)), (1, .int x1), (2, .ref b1)] → W p l e rm_L_arePathsRight s mi [.ref (ha 0 0), .int a1].toArray below meth c H locs (1) (30) Q (F0 mi 193 ls [])) → W p l e rm_L_arePathsRight s mi [.ref (ha 0 0), .int a1].toArray below meth c H locs (1) (30) Q (F0 mi 50 ls []) := by
    intro b1 sv x1 n50
    induction n50 with
    | zero => intro x3 u1 H locs ls o50 hf; exact absurd hf (jbL_0 _ _ _)
    | succ n50 ih =>
      intro x3 u1 H locs ls o50 hf hP hD hS hl hk
      obtain ⟨r, hf, hr⟩ := jbL_e hf
      have hf : f_L_arePathsRight_L50 qv sv x1 x3 u1 = some r := hf
      unfold f_L_arePathsRight_L50 at hf
      have hL59 : ∀ (b1 : Nat) (sv : SV) (x1 : Int32) (x3 : Int32) (n59 : Nat) (x4 : Int32) (u1 : (Nat → Int32)) (H : Heap) (locs : List Loc) (ls : Array Slot) (o59 : Int32 × (Nat → Int32)), jbL (fun s => f_L_arePathsRight_L59 qv sv x1 x3 (s.1) (s.2)) n59 (x4, u1) = some o59 → va_P (gD g) vwCl (wA g b1 u1 30 ++ wT g ha tv ++ wQ g (ha 1) qv ++ wS g (ha 3) sv) H → va_D A (wA g b1 u1 30 ++ wT g ha tv ++ wQ g (ha 1) qv ++ wS g (ha 3) sv) → va_S A s.heap H locs → lv_has ls 8 [(0, .ref (ha 0 0)), (1, .int x1), (2, .ref b1), (3, .int x3), (4, .int x4)] → (∀ (H : Heap) (locs : List Loc) (ls : Array Slot), va_P (gD g) vwCl (wA g b1 (o59.2) 30 ++ wT g ha tv ++ wQ g (ha 1) qv ++ wS g (ha 3) sv) H → va_D A (wA g b1 (o59.2) 30 ++ wT g ha tv ++ wQ g (ha 1) qv ++ wS g (ha 3) sv) → va_S A s.heap H locs → lv_has ls 8 [(0, .ref (ha 0 0)), (1, .int x1), (2, .ref b1), (3, .int x3)] → W p l e rm_L_arePathsRight s mi [.ref (ha 0 0), .int a1].toArray below meth c H locs (1) (30) Q (F0 mi 187 ls [])) → W p l e rm_L_arePathsRight s mi [.ref (ha 0 0), .int a1].toArray below meth c H locs (1) (30) Q (F0 mi 59 ls []) := by
        intro b1 sv x1 x3 n59
        induction n59 with
        | zero => intro x4 u1 H locs ls o59 hf; exact absurd hf (jbL_0 _ _ _)
        | succ n59 ih =>
          intro x4 u1 H locs ls o59 hf hP hD hS hl hk
          obtain ⟨r, hf, hr⟩ := jbL_e hf
          have hf : f_L_arePathsRight_L59 qv sv x1 x3 x4 u1 = some r := hf
          unfold f_L_arePathsRight_L59 at hf
          have hJ180 : ∀ (u1 : (Nat → Int32)) (x4 : Int32) (y0 : Int32) (y1 : Int32) (H : Heap) (locs : List Loc) (ls : Array Slot) (r : Sum (Int32 × (Nat → Int32)) (Int32 × (Nat → Int32))), f_L_arePathsRight_J180 u1 qv sv x1 x3 x4 y0 y1 = some r → jbR (fun s => f_L_arePathsRight_L59 qv sv x1 x3 (s.1) (s.2)) n59 o59 r → va_P (gD g) vwCl (wA g b1 u1 30 ++ wT g ha tv ++ wQ g (ha 1) qv ++ wS g (ha 3) sv) H → va_D A (wA g b1 u1 30 ++ wT g ha tv ++ wQ g (ha 1) qv ++ wS g (ha 3) sv) → va_S A s.heap H locs → lv_has ls 8 [(0, .ref (ha 0 0)), (1, .int x1), (2, .ref b1), (3, .int x3), (4, .int x4)] → W p l e rm_L_arePathsRight s mi [.ref (ha 0 0), .int a1].toArray below meth c H locs (1) (30) Q (F0 mi 180 ls [.int y0, .int y1, .ref b1]) := by
            intro u1 x4 y0 y1 H locs ls r hf hr hP hD hS hl
            unfold f_L_arePathsRight_J180 at hf
            obtain ⟨h23, hf⟩ := jbA_e hf
            refine va_iast hx hb hK hP hD hS 0 0 rfl rfl h23 dL_arePathsRight_180 (fun H locs hP hD hS => ?_)
            obtain ⟨w24, ew24⟩ : ∃ y, y = (upd u1 y1.toNatClampNeg y0) := ⟨_, rfl⟩
            have hf := jbN_e hf ew24
            have hP : va_P (gD g) vwCl (wA g b1 w24 30 ++ wT g ha tv ++ wQ g (ha 1) qv ++ wS g (ha 3) sv) H := by rw [ew24]; exact hP
            have hD : va_D A (wA g b1 w24 30 ++ wT g ha tv ++ wQ g (ha 1) qv ++ wS g (ha 3) sv) := by rw [ew24]; exact hD
            refine lv_iinc (v := (x4 + 1)) (lv' := [(4, .int (x4 + 1)), (0, .ref (ha 0 0)), (1, .int x1), (2, .ref b1), (3, .int x3)]) hx hb dL_arePathsRight_181 hl (k := 4) rfl rfl (by decide) rfl (fun ls hl => ?_)
            refine lv_goto (tgt := 59) hx hb dL_arePathsRight_184 (by decide) ?_
            cases hf
            exact ih (x4 + 1) w24 _ _ _ _ hr hP hD hS (lv_sub hl [1, 2, 3, 4, 0] rfl) hk
          have hJ150 : ∀ (u1 : (Nat → Int32)) (x4 : Int32) (x5 : Int32) (x6 : Int32) (y0 : Int32) (H : Heap) (locs : List Loc) (ls : Array Slot) (r : Sum (Int32 × (Nat → Int32)) (Int32 × (Nat → Int32))), f_L_arePathsRight_J150 u1 qv sv x1 x3 x4 x5 x6 y0 = some r → jbR (fun s => f_L_arePathsRight_L59 qv sv x1 x3 (s.1) (s.2)) n59 o59 r → va_P (gD g) vwCl (wA g b1 u1 30 ++ wT g ha tv ++ wQ g (ha 1) qv ++ wS g (ha 3) sv) H → va_D A (wA g b1 u1 30 ++ wT g ha tv ++ wQ g (ha 1) qv ++ wS g (ha 3) sv) → va_S A s.heap H locs → lv_has ls 8 [(0, .ref (ha 0 0)), (1, .int x1), (2, .ref b1), (3, .int x3), (4, .int x4), (5, .int x5), (6, .int x6)] → W p l e rm_L_arePathsRight s mi [.ref (ha 0 0), .int a1].toArray below meth c H locs (1) (30) Q (F0 mi 150 ls [.int y0]) := by
            intro u1 x4 x5 x6 y0 H locs ls r hf hr hP hD hS hl
            unfold f_L_arePathsRight_J150 at hf
            refine lv_istore (lv' := [(7, .int y0), (0, .ref (ha 0 0)), (1, .int x1), (2, .ref b1), (3, .int x3), (4, .int x4), (5, .int x5), (6, .int x6)]) hx hb dL_arePathsRight_150 hl (by decide) rfl (fun ls hl => ?_)
            refine lv_aload_n hx hb dL_arePathsRight_152 rfl (lv_at hl 3 rfl) ?_
            refine lv_iload hx hb dL_arePathsRight_153 (lv_at hl 7 rfl) ?_
            refine lv_iload hx hb dL_arePathsRight_155 (lv_at hl 0 rfl) ?_
            refine lv_if_eq (tgt := 176) hx hb dL_arePathsRight_157 (by decide) (fun hc => ?_) (fun hc => ?_)
            · have hf := jbT hf hc
              refine lv_aload_n hx hb dL_arePathsRight_176 rfl (lv_at hl 3 rfl) ?_
              refine lv_iload hx hb dL_arePathsRight_177 (lv_at hl 7 rfl) ?_
              obtain ⟨h20, hf⟩ := jbA_e hf
              refine va_iald hx hb hK hP 0 0 rfl rfl h20 dL_arePathsRight_179 ?_
              exact hJ180 u1 x4 (u1 x6.toNatClampNeg) x6 _ _ _ _ hf hr hP hD hS (lv_sub hl [1, 2, 3, 4, 5] rfl)
            · have hf := jbF hf hc
              refine lv_aload_n hx hb dL_arePathsRight_160 rfl (lv_at hl 3 rfl) ?_
              refine lv_iload hx hb dL_arePathsRight_161 (lv_at hl 7 rfl) ?_
              obtain ⟨h21, hf⟩ := jbA_e hf
              refine va_iald hx hb hK hP 0 0 rfl rfl h21 dL_arePathsRight_163 ?_
              refine lv_aload_n hx hb dL_arePathsRight_164 rfl (lv_at hl 3 rfl) ?_
              refine lv_iload hx hb dL_arePathsRight_165 (lv_at hl 6 rfl) ?_
              obtain ⟨h22, hf⟩ := jbA_e hf
              refine va_iald hx hb hK hP 0 0 rfl rfl h22 dL_arePathsRight_167 ?_
              refine lv_iconst (v := 1) hx hb dL_arePathsRight_168 (by decide) ?_
              refine lv_iadd hx hb dL_arePathsRight_169 ?_
              refine va_mmin hx hb (hml.trans hl.1.symm) hown k5 k6 k3 k7 (Nat.le_of_ble_eq_true rfl) (Nat.le_of_ble_eq_true rfl) (Nat.le_of_ble_eq_true rfl) (Nat.le_of_ble_eq_true rfl) dL_arePathsRight_170 ?_
              refine lv_goto (tgt := 180) hx hb dL_arePathsRight_173 (by decide) ?_
              exact hJ180 u1 x4 (jMin (u1 x6.toNatClampNeg) ((u1 x5.toNatClampNeg) + 1)) x6 _ _ _ _ hf hr hP hD hS (lv_sub hl [1, 2, 3, 4, 5] rfl)
          have hJ149 : ∀ (u1 : (Nat → Int32)) (x4 : Int32) (x5 : Int32) (x6 : Int32) (H : Heap) (locs : List Loc) (ls : Array Slot) (r : Sum (Int32 × (Nat → Int32)) (Int32 × (Nat → Int32))), f_L_arePathsRight_J149 u1 qv sv x1 x3 x4 x5 x6 = some r → jbR (fun s => f_L_arePathsRight_L59 qv sv x1 x3 (s.1) (s.2)) n59 o59 r → va_P (gD g) vwCl (wA g b1 u1 30 ++ wT g ha tv ++ wQ g (ha 1) qv ++ wS g (ha 3) sv) H → va_D A (wA g b1 u1 30 ++ wT g ha tv ++ wQ g (ha 1) qv ++ wS g (ha 3) sv) → va_S A s.heap H locs → lv_has ls 8 [(0, .ref (ha 0 0)), (1, .int x1), (2, .ref b1), (3, .int x3), (4, .int x4), (5, .int x5), (6, .int x6)] → W p l e rm_L_arePathsRight s mi [.ref (ha 0 0), .int a1].toArray below meth c H locs (1) (30) Q (F0 mi 149 ls []) := by
            intro u1 x4 x5 x6 H locs ls r hf hr hP hD hS hl
            unfold f_L_arePathsRight_J149 at hf
            refine lv_iconst (v := 0) hx hb dL_arePathsRight_149 (by decide) ?_
            exact hJ150 u1 x4 x5 x6 0 _ _ _ _ hf hr hP hD hS (lv_sub hl [0, 1, 2, 3, 4, 5, 6] rfl)
          refine lv_iload hx hb dL_arePathsRight_59 (lv_at hl 4 rfl) ?_
          refine lv_sipush (v := 900) hx hb dL_arePathsRight_61 (by decide) ?_
          refine lv_icmp_ge (tgt := 187) hx hb dL_arePathsRight_64 (by decide) (fun hc => ?_) (fun hc => ?_)
          · have hf := jbT hf hc
            cases hf
            obtain rfl := jbR_r hr
            exact hk _ _ _ hP hD hS (lv_sub hl [0, 1, 2, 3] rfl)
          · have hf := jbF hf hc
            refine lv_iload hx hb dL_arePathsRight_67 (lv_at hl 4 rfl) ?_
            refine lv_bipush (v := 30) hx hb dL_arePathsRight_69 (by decide) ?_
            refine lv_idiv hx hb dL_arePathsRight_71 (by decide) ?_
            refine lv_topi (fun z10 ez10 => ?_)
            have hf := jbN_e hf ez10
            refine lv_istore (lv' := [(5, .int z10), (0, .ref (ha 0 0)), (1, .int x1), (2, .ref b1), (3, .int x3), (4, .int x4)]) hx hb dL_arePathsRight_72 hl (by decide) rfl (fun ls hl => ?_)
            refine lv_iload hx hb dL_arePathsRight_74 (lv_at hl 5 rfl) ?_
            refine lv_bipush (v := 30) hx hb dL_arePathsRight_76 (by decide) ?_
            refine lv_irem hx hb dL_arePathsRight_78 (by decide) ?_
            refine lv_topi (fun z11 ez11 => ?_)
            have hf := jbN_e hf ez11
            refine lv_istore (lv' := [(6, .int z11), (5, .int z10), (0, .ref (ha 0 0)), (1, .int x1), (2, .ref b1), (3, .int x3), (4, .int x4)]) hx hb dL_arePathsRight_79 hl (by decide) rfl (fun ls hl => ?_)
            refine lv_iload hx hb dL_arePathsRight_81 (lv_at hl 1 rfl) ?_
            refine lv_iload hx hb dL_arePathsRight_83 (lv_at hl 0 rfl) ?_
            obtain ⟨o12, g13, hf⟩ := jbB_e hf
            refine csn_i (As := [.int z10, .int z11]) (rest := []) ⟨hx, hb, hml, hown, hts⟩ (c_L_far l g z10 z11 _ g13) (va_cwS 2 hts gL_arePathsRight_L_far rfl rfl rfl hd_L_far ⟨(Nat.le_of_ble_eq_true rfl), (Nat.le_of_ble_eq_true rfl)⟩) hK hZ hT hA hP hD hS hl.1 rfl rfl (Nat.le_of_ble_eq_true rfl) ⟨(Nat.le_of_ble_eq_true rfl), (Nat.le_of_ble_eq_true rfl)⟩ dL_arePathsRight_85 (fun H locs hP hD hS => ?_)
            refine lv_iconst (v := 1) hx hb dL_arePathsRight_88 (by decide) ?_
            refine lv_icmp_ne (tgt := 149) hx hb dL_arePathsRight_89 (by decide) (fun hc => ?_) (fun hc => ?_)
            · have hf := jbF hf hc
              exact hJ149 u1 x4 z10 z11 _ _ _ _ hf hr hP hD hS (lv_sub hl [2, 3, 4, 5, 6, 1, 0] rfl)
            · have hf := jbT hf hc
              refine lv_aload_n hx hb dL_arePathsRight_92 rfl (lv_at hl 2 rfl) ?_
              refine lv_iload hx hb dL_arePathsRight_93 (lv_at hl 0 rfl) ?_
              refine lv_bipush (v := 6) hx hb dL_arePathsRight_95 (by decide) ?_
              refine lv_idiv hx hb dL_arePathsRight_97 (by decide) ?_
              refine lv_iload hx hb dL_arePathsRight_98 (lv_at hl 0 rfl) ?_
              refine lv_bipush (v := 6) hx hb dL_arePathsRight_100 (by decide) ?_
              refine lv_irem hx hb dL_arePathsRight_102 (by decide) ?_
              obtain ⟨o14, g15, hf⟩ := jbB_e hf
              rcases o14 with x9 | o14
              · have hf := jbM_l hf
                cases hf
              have hf := jbM_r hf
              refine cpv_i (As := [.int (z11 / 6), .int (z11 - z11 / 6 * 6)]) (rest := []) (Wr := (wA g b1 u1 30 ++ wS g (ha 3) sv)) (Wn := (wA g b1 u1 30 ++ wT g ha tv ++ wQ g (ha 1) qv ++ wS g (ha 3) sv)) ⟨hx, hb, hml, hown, hts⟩ (cn_X10_isLedge l hlt g ha tv qv (z11 / 6) (z11 - z11 / 6 * 6) _ (show f_X10_isLedge tv qv (z11 / 6) (z11 - z11 / 6 * 6) = some (.inr o14) from g15)) (cwV 2 hts gL_arePathsRight_X10_isLedge rfl rfl rfl hd_X10_isLedge ⟨(Nat.le_of_ble_eq_true rfl), (Nat.le_of_ble_eq_true rfl)⟩) hK hZ hT hA hP hD hS hl.1 (va_recv hK hP (ci := 9) (q0 := 1) rfl rfl) (wp_of fun f => by simp only [List.countP_append, List.countP_cons, List.countP_nil] <;> omega) (wp_of fun f => by simp only [List.countP_append, List.countP_cons, List.countP_nil] <;> omega) rfl rfl (Nat.le_of_ble_eq_true rfl) ⟨(Nat.le_of_ble_eq_true rfl), (Nat.le_of_ble_eq_true rfl)⟩ dL_arePathsRight_103 (fun H locs hP hD hS => ?_)
              refine lv_if_ne (tgt := 149) hx hb dL_arePathsRight_106 (by decide) (fun hc => ?_) (fun hc => ?_)
              · have hf := jbF hf hc
                exact hJ149 u1 x4 z10 z11 _ _ _ _ hf hr hP hD hS (lv_sub hl [2, 3, 4, 5, 6, 1, 0] rfl)
              · have hf := jbT hf hc
                refine lv_aload_n hx hb dL_arePathsRight_109 rfl (lv_at hl 2 rfl) ?_
                refine lv_iload hx hb dL_arePathsRight_110 (lv_at hl 1 rfl) ?_
                refine lv_bipush (v := 6) hx hb dL_arePathsRight_112 (by decide) ?_
                refine lv_idiv hx hb dL_arePathsRight_114 (by decide) ?_
                refine lv_iload hx hb dL_arePathsRight_115 (lv_at hl 1 rfl) ?_
                refine lv_bipush (v := 6) hx hb dL_arePathsRight_117 (by decide) ?_
                refine lv_irem hx hb dL_arePathsRight_119 (by decide) ?_
                obtain ⟨o16, g17, hf⟩ := jbB_e hf
                rcases o16 with x9 | o16
                · have hf := jbM_l hf
                  cases hf
                have hf := jbM_r hf
                refine cpv_i (As := [.int (z10 / 6), .int (z10 - z10 / 6 * 6)]) (rest := []) (Wr := (wA g b1 u1 30 ++ wS g (ha 3) sv)) (Wn := (wA g b1 u1 30 ++ wT g ha tv ++ wQ g (ha 1) qv ++ wS g (ha 3) sv)) ⟨hx, hb, hml, hown, hts⟩ (cn_X10_height l hlt g ha tv qv (z10 / 6) (z10 - z10 / 6 * 6) _ (show f_X10_height tv qv (z10 / 6) (z10 - z10 / 6 * 6) = some (.inr o16) from g17)) (cwV 2 hts gL_arePathsRight_X10_height rfl rfl rfl hd_X10_height ⟨(Nat.le_of_ble_eq_true rfl), (Nat.le_of_ble_eq_true rfl)⟩) hK hZ hT hA hP hD hS hl.1 (va_recv hK hP (ci := 9) (q0 := 1) rfl rfl) (wp_of fun f => by simp only [List.countP_append, List.countP_cons, List.countP_nil] <;> omega) (wp_of fun f => by simp only [List.countP_append, List.countP_cons, List.countP_nil] <;> omega) rfl rfl (Nat.le_of_ble_eq_true rfl) ⟨(Nat.le_of_ble_eq_true rfl), (Nat.le_of_ble_eq_true rfl)⟩ dL_arePathsRight_120 (fun H locs hP hD hS => ?_)
                refine lv_aload_n hx hb dL_arePathsRight_123 rfl (lv_at hl 2 rfl) ?_
                refine lv_iload hx hb dL_arePathsRight_124 (lv_at hl 0 rfl) ?_
                refine lv_bipush (v := 6) hx hb dL_arePathsRight_126 (by decide) ?_
                refine lv_idiv hx hb dL_arePathsRight_128 (by decide) ?_
                refine lv_iload hx hb dL_arePathsRight_129 (lv_at hl 0 rfl) ?_
                refine lv_bipush (v := 6) hx hb dL_arePathsRight_131 (by decide) ?_
                refine lv_irem hx hb dL_arePathsRight_133 (by decide) ?_
                obtain ⟨o18, g19, hf⟩ := jbB_e hf
                rcases o18 with x9 | o18
                · have hf := jbM_l hf
                  cases hf
                have hf := jbM_r hf
                refine cpv_i (As := [.int (z11 / 6), .int (z11 - z11 / 6 * 6)]) (rest := [.int o16]) (Wr := (wA g b1 u1 30 ++ wS g (ha 3) sv)) (Wn := (wA g b1 u1 30 ++ wT g ha tv ++ wQ g (ha 1) qv ++ wS g (ha 3) sv)) ⟨hx, hb, hml, hown, hts⟩ (cn_X10_height l hlt g ha tv qv (z11 / 6) (z11 - z11 / 6 * 6) _ (show f_X10_height tv qv (z11 / 6) (z11 - z11 / 6 * 6) = some (.inr o18) from g19)) (cwV 2 hts gL_arePathsRight_X10_height rfl rfl rfl hd_X10_height ⟨(Nat.le_of_ble_eq_true rfl), (Nat.le_of_ble_eq_true rfl)⟩) hK hZ hT hA hP hD hS hl.1 (va_recv hK hP (ci := 9) (q0 := 1) rfl rfl) (wp_of fun f => by simp only [List.countP_append, List.countP_cons, List.countP_nil] <;> omega) (wp_of fun f => by simp only [List.countP_append, List.countP_cons, List.countP_nil] <;> omega) rfl rfl (Nat.le_of_ble_eq_true rfl) ⟨(Nat.le_of_ble_eq_true rfl), (Nat.le_of_ble_eq_true rfl)⟩ dL_arePathsRight_134 (fun H locs hP hD hS => ?_)
                refine lv_isub hx hb dL_arePathsRight_137 ?_
                refine va_mabs hx hb (hml.trans hl.1.symm) hown k1 k2 k3 k4 (Nat.le_of_ble_eq_true rfl) (Nat.le_of_ble_eq_true rfl) (Nat.le_of_ble_eq_true rfl) (Nat.le_of_ble_eq_true rfl) dL_arePathsRight_138 ?_
                refine lv_iconst (v := 1) hx hb dL_arePathsRight_141 (by decide) ?_
                refine lv_icmp_gt (tgt := 149) hx hb dL_arePathsRight_142 (by decide) (fun hc => ?_) (fun hc => ?_)
                · have hf := jbT hf hc
                  exact hJ149 u1 x4 z10 z11 _ _ _ _ hf hr hP hD hS (lv_sub hl [2, 3, 4, 5, 6, 1, 0] rfl)
                · have hf := jbF hf hc
                  refine lv_iconst (v := 1) hx hb dL_arePathsRight_145 (by decide) ?_
                  refine lv_goto (tgt := 150) hx hb dL_arePathsRight_146 (by decide) ?_
                  exact hJ150 u1 x4 z10 z11 1 _ _ _ _ hf hr hP hD hS (lv_sub hl [2, 3, 4, 5, 6, 1, 0] rfl)
      refine lv_iload_n hx hb dL_arePathsRight_50 rfl (lv_at hl 3 rfl) ?_
      refine lv_bipush (v := 30) hx hb dL_arePathsRight_51 (by decide) ?_
      refine lv_icmp_ge (tgt := 193) hx hb dL_arePathsRight_53 (by decide) (fun hc => ?_) (fun hc => ?_)
      · have hf := jbT hf hc
        cases hf
        obtain rfl := jbR_r hr
        exact hk _ _ _ hP hD hS (lv_sub hl [0, 1, 2] rfl)
      · have hf := jbF hf hc
        refine lv_iconst (v := 0) hx hb dL_arePathsRight_56 (by decide) ?_
        refine lv_istore (lv' := [(4, .int 0), (0, .ref (ha 0 0)), (1, .int x1), (2, .ref b1), (3, .int x3)]) hx hb dL_arePathsRight_57 hl (by decide) rfl (fun ls hl => ?_)
        obtain ⟨o59, hg, hf⟩ := jbB_e hf
        refine hL59 b1 sv x1 x3 _ 0 u1 _ _ _ _ hg hP hD hS (lv_sub hl [1, 2, 3, 4, 0] rfl) (fun H locs ls hP hD hS hl => ?_)
        refine lv_iinc (v := (x3 + 1)) (lv' := [(3, .int (x3 + 1)), (0, .ref (ha 0 0)), (1, .int x1), (2, .ref b1)]) hx hb dL_arePathsRight_187 hl (k := 3) rfl rfl (by decide) rfl (fun ls hl => ?_)
        refine lv_goto (tgt := 50) hx hb dL_arePathsRight_190 (by decide) ?_
        cases hf
        exact ih (x3 + 1) (o59.2) _ _ _ _ hr hP hD hS (lv_sub hl [1, 2, 3, 0] rfl) hk
  have hL7 : ∀ (b1 : Nat) (sv : SV) (x1 : Int32) (n7 : Nat) (x3 : Int32) (u1 : (Nat → Int32)) (H : Heap) (locs : List Loc) (ls : Array Slot) (o7 : Int32 × (Nat → Int32)), jbL (fun s => f_L_arePathsRight_L7 qv sv x1 (s.1) (s.2)) n7 (x3, u1) = some o7 → va_P (gD g) vwCl (wA g b1 u1 30 ++ wT g ha tv ++ wQ g (ha 1) qv ++ wS g (ha 3) sv) H → va_D A (wA g b1 u1 30 ++ wT g ha tv ++ wQ g (ha 1) qv ++ wS g (ha 3) sv) → va_S A s.heap H locs → lv_has ls 8 [(0, .ref (ha 0 0)), (1, .int x1), (2, .ref b1), (3, .int x3)] → (∀ (H : Heap) (locs : List Loc) (ls : Array Slot), va_P (gD g) vwCl (wA g b1 (o7.2) 30 ++ wT g ha tv ++ wQ g (ha 1) qv ++ wS g (ha 3) sv) H → va_D A (wA g b1 (o7.2) 30 ++ wT g ha tv ++ wQ g (ha 1) qv ++ wS g (ha 3) sv) → va_S A s.heap H locs → lv_has ls 8 [(0, .ref (ha 0 0)), (1, .int x1), (2, .ref b1)] → W p l e rm_L_arePathsRight s mi [.ref (ha 0 0), .int a1].toArray below meth c H locs (1) (30) Q (F0 mi 48 ls [])) → W p l e rm_L_arePathsRight s mi [.ref (ha 0 0), .int a1].toArray below meth c H locs (1) (30) Q (F0 mi 7 ls []) := by
    intro b1 sv x1 n7
    induction n7 with
    | zero => intro x3 u1 H locs ls o7 hf; exact absurd hf (jbL_0 _ _ _)
    | succ n7 ih =>
      intro x3 u1 H locs ls o7 hf hP hD hS hl hk
      obtain ⟨r, hf, hr⟩ := jbL_e hf
      have hf : f_L_arePathsRight_L7 qv sv x1 x3 u1 = some r := hf
      unfold f_L_arePathsRight_L7 at hf
      have hJ41 : ∀ (u1 : (Nat → Int32)) (x3 : Int32) (y0 : Int32) (y1 : Int32) (H : Heap) (locs : List Loc) (ls : Array Slot) (r : Sum (Int32 × (Nat → Int32)) (Int32 × (Nat → Int32))), f_L_arePathsRight_J41 u1 qv sv x1 x3 y0 y1 = some r → jbR (fun s => f_L_arePathsRight_L7 qv sv x1 (s.1) (s.2)) n7 o7 r → va_P (gD g) vwCl (wA g b1 u1 30 ++ wT g ha tv ++ wQ g (ha 1) qv ++ wS g (ha 3) sv) H → va_D A (wA g b1 u1 30 ++ wT g ha tv ++ wQ g (ha 1) qv ++ wS g (ha 3) sv) → va_S A s.heap H locs → lv_has ls 8 [(0, .ref (ha 0 0)), (1, .int x1), (2, .ref b1), (3, .int x3)] → W p l e rm_L_arePathsRight s mi [.ref (ha 0 0), .int a1].toArray below meth c H locs (1) (30) Q (F0 mi 41 ls [.int y0, .int y1, .ref b1]) := by
        intro u1 x3 y0 y1 H locs ls r hf hr hP hD hS hl
        unfold f_L_arePathsRight_J41 at hf
        obtain ⟨h8, hf⟩ := jbA_e hf
        refine va_iast hx hb hK hP hD hS 0 0 rfl rfl h8 dL_arePathsRight_41 (fun H locs hP hD hS => ?_)
        obtain ⟨w9, ew9⟩ : ∃ y, y = (upd u1 y1.toNatClampNeg y0) := ⟨_, rfl⟩
        have hf := jbN_e hf ew9
        have hP : va_P (gD g) vwCl (wA g b1 w9 30 ++ wT g ha tv ++ wQ g (ha 1) qv ++ wS g (ha 3) sv) H := by rw [ew9]; exact hP
        have hD : va_D A (wA g b1 w9 30 ++ wT g ha tv ++ wQ g (ha 1) qv ++ wS g (ha 3) sv) := by rw [ew9]; exact hD
        refine lv_iinc (v := (x3 + 1)) (lv' := [(3, .int (x3 + 1)), (0, .ref (ha 0 0)), (1, .int x1), (2, .ref b1)]) hx hb dL_arePathsRight_42 hl (k := 3) rfl rfl (by decide) rfl (fun ls hl => ?_)
        refine lv_goto (tgt := 7) hx hb dL_arePathsRight_45 (by decide) ?_
        cases hf
        exact ih (x3 + 1) w9 _ _ _ _ hr hP hD hS (lv_sub hl [1, 2, 3, 0] rfl) hk
      have hJ39 : ∀ (u1 : (Nat → Int32)) (x3 : Int32) (y0 : Int32) (H : Heap) (locs : List Loc) (ls : Array Slot) (r : Sum (Int32 × (Nat → Int32)) (Int32 × (Nat → Int32))), f_L_arePathsRight_J39 u1 qv sv x1 x3 y0 = some r → jbR (fun s => f_L_arePathsRight_L7 qv sv x1 (s.1) (s.2)) n7 o7 r → va_P (gD g) vwCl (wA g b1 u1 30 ++ wT g ha tv ++ wQ g (ha 1) qv ++ wS g (ha 3) sv) H → va_D A (wA g b1 u1 30 ++ wT g ha tv ++ wQ g (ha 1) qv ++ wS g (ha 3) sv) → va_S A s.heap H locs → lv_has ls 8 [(0, .ref (ha 0 0)), (1, .int x1), (2, .ref b1), (3, .int x3)] → W p l e rm_L_arePathsRight s mi [.ref (ha 0 0), .int a1].toArray below meth c H locs (1) (30) Q (F0 mi 39 ls [.int y0, .ref b1]) := by
        intro u1 x3 y0 H locs ls r hf hr hP hD hS hl
        unfold f_L_arePathsRight_J39 at hf
        refine lv_bipush (v := 99) hx hb dL_arePathsRight_39 (by decide) ?_
        exact hJ41 u1 x3 99 y0 _ _ _ _ hf hr hP hD hS (lv_sub hl [0, 1, 2, 3] rfl)
      refine lv_iload_n hx hb dL_arePathsRight_7 rfl (lv_at hl 3 rfl) ?_
      refine lv_bipush (v := 30) hx hb dL_arePathsRight_8 (by decide) ?_
      refine lv_icmp_ge (tgt := 48) hx hb dL_arePathsRight_10 (by decide) (fun hc => ?_) (fun hc => ?_)
      · have hf := jbT hf hc
        cases hf
        obtain rfl := jbR_r hr
        exact hk _ _ _ hP hD hS (lv_sub hl [0, 1, 2] rfl)
      · have hf := jbF hf hc
        refine lv_aload_n hx hb dL_arePathsRight_13 rfl (lv_at hl 2 rfl) ?_
        refine lv_iload_n hx hb dL_arePathsRight_14 rfl (lv_at hl 3 rfl) ?_
        refine lv_iload_n hx hb dL_arePathsRight_15 rfl (lv_at hl 3 rfl) ?_
        refine lv_iload_n hx hb dL_arePathsRight_16 rfl (lv_at hl 1 rfl) ?_
        refine lv_icmp_ne (tgt := 39) hx hb dL_arePathsRight_17 (by decide) (fun hc => ?_) (fun hc => ?_)
        · have hf := jbF hf hc
          exact hJ39 u1 x3 x3 _ _ _ _ hf hr hP hD hS (lv_sub hl [0, 1, 2, 3] rfl)
        · have hf := jbT hf hc
          refine lv_aload_n hx hb dL_arePathsRight_20 rfl (lv_at hl 0 rfl) ?_
          refine lv_iload_n hx hb dL_arePathsRight_21 rfl (lv_at hl 3 rfl) ?_
          refine lv_bipush (v := 6) hx hb dL_arePathsRight_22 (by decide) ?_
          refine lv_idiv hx hb dL_arePathsRight_24 (by decide) ?_
          refine lv_iload_n hx hb dL_arePathsRight_25 rfl (lv_at hl 3 rfl) ?_
          refine lv_bipush (v := 6) hx hb dL_arePathsRight_26 (by decide) ?_
          refine lv_irem hx hb dL_arePathsRight_28 (by decide) ?_
          obtain ⟨o6, g7, hf⟩ := jbB_e hf
          rcases o6 with x9 | o6
          · have hf := jbM_l hf
            cases hf
          have hf := jbM_r hf
          refine cpv_i (As := [.int (x3 / 6), .int (x3 - x3 / 6 * 6)]) (rest := [.int x3, .ref b1]) (Wr := (wA g b1 u1 30 ++ wS g (ha 3) sv)) (Wn := (wA g b1 u1 30 ++ wT g ha tv ++ wQ g (ha 1) qv ++ wS g (ha 3) sv)) ⟨hx, hb, hml, hown, hts⟩ (cn_X10_isLedge l hlt g ha tv qv (x3 / 6) (x3 - x3 / 6 * 6) _ (show f_X10_isLedge tv qv (x3 / 6) (x3 - x3 / 6 * 6) = some (.inr o6) from g7)) (cwV 2 hts gL_arePathsRight_X10_isLedge rfl rfl rfl hd_X10_isLedge ⟨(Nat.le_of_ble_eq_true rfl), (Nat.le_of_ble_eq_true rfl)⟩) hK hZ hT hA hP hD hS hl.1 (va_recv hK hP (ci := 9) (q0 := 1) rfl rfl) (wp_of fun f => by simp only [List.countP_append, List.countP_cons, List.countP_nil] <;> omega) (wp_of fun f => by simp only [List.countP_append, List.countP_cons, List.countP_nil] <;> omega) rfl rfl (Nat.le_of_ble_eq_true rfl) ⟨(Nat.le_of_ble_eq_true rfl), (Nat.le_of_ble_eq_true rfl)⟩ dL_arePathsRight_29 (fun H locs hP hD hS => ?_)
          refine lv_if_ne (tgt := 39) hx hb dL_arePathsRight_32 (by decide) (fun hc => ?_) (fun hc => ?_)
          · have hf := jbF hf hc
            exact hJ39 u1 x3 x3 _ _ _ _ hf hr hP hD hS (lv_sub hl [0, 1, 2, 3] rfl)
          · have hf := jbT hf hc
            refine lv_iconst (v := 0) hx hb dL_arePathsRight_35 (by decide) ?_
            refine lv_goto (tgt := 41) hx hb dL_arePathsRight_36 (by decide) ?_
            exact hJ41 u1 x3 0 x3 _ _ _ _ hf hr hP hD hS (lv_sub hl [0, 1, 2, 3] rfl)
  refine lv_bipush (v := 30) hx hb dL_arePathsRight_0 (by decide) ?_
  refine va_newa (atype := .int) (a0 := (30, .inl (fun _ => 0))) hx hb k0 rfl hK hP hD hS hA (fun _ => rfl) (by decide) (show (30 : Int32).toNatClampNeg = 30 from by decide) (by decide) (Nat.le_of_ble_eq_true rfl) (Nat.le_of_ble_eq_true rfl) dL_arePathsRight_2 (fun b1 cA9 H hK9 hP hD hS => ?_)
  have e9 := ar_id hK9 0 rfl
  rw [e9] at hP hD
  have hP : va_P (gD g) vwCl (wA g b1 (fun _ => (0 : Int32)) 30 ++ (wT g ha tv ++ wQ g (ha 1) qv ++ wS g (ha 3) sv)) H := wp_P List.perm_append_comm hP
  have hD : va_D A (wA g b1 (fun _ => (0 : Int32)) 30 ++ (wT g ha tv ++ wQ g (ha 1) qv ++ wS g (ha 3) sv)) := wp_D List.perm_append_comm hD
  obtain ⟨w1, ew1⟩ : ∃ y, y = (fun _ => (0 : Int32)) := ⟨_, rfl⟩
  have hf := jbN_e hf ew1
  rw [← ew1] at hP hD
  have hP : va_P (gD g) vwCl (wA g b1 w1 30 ++ wT g ha tv ++ wQ g (ha 1) qv ++ wS g (ha 3) sv) H := hP
  have hD : va_D A (wA g b1 w1 30 ++ wT g ha tv ++ wQ g (ha 1) qv ++ wS g (ha 3) sv) := hD
  refine lv_astore_n (lv' := [(2, .ref b1), (0, .ref (ha 0 0)), (1, .int a1)]) hx hb dL_arePathsRight_4 rfl hl (by decide) rfl (fun ls hl => ?_)
  refine lv_iconst (v := 0) hx hb dL_arePathsRight_5 (by decide) ?_
  refine lv_istore_n (lv' := [(3, .int 0), (2, .ref b1), (0, .ref (ha 0 0)), (1, .int a1)]) hx hb dL_arePathsRight_6 rfl hl (by decide) rfl (fun ls hl => ?_)
  obtain ⟨o7, hg, hf⟩ := jbB_e hf
  refine hL7 b1 sv a1 _ 0 w1 _ _ _ _ hg hP hD hS (lv_sub hl [2, 3, 1, 0] rfl) (fun H locs ls hP hD hS hl => ?_)
  refine lv_iconst (v := 0) hx hb dL_arePathsRight_48 (by decide) ?_
  refine lv_istore_n (lv' := [(3, .int 0), (0, .ref (ha 0 0)), (1, .int a1), (2, .ref b1)]) hx hb dL_arePathsRight_49 rfl hl (by decide) rfl (fun ls hl => ?_)
  obtain ⟨o50, hg, hf⟩ := jbB_e hf
  refine hL50 b1 sv a1 _ 0 (o7.2) _ _ _ _ hg hP hD hS (lv_sub hl [1, 2, 3, 0] rfl) (fun H locs ls hP hD hS hl => ?_)
  refine lv_aload_n hx hb dL_arePathsRight_193 rfl (lv_at hl 0 rfl) ?_
  refine lv_iconst (v := 5) hx hb dL_arePathsRight_194 (by decide) ?_
  refine lv_iconst (v := 0) hx hb dL_arePathsRight_195 (by decide) ?_
  refine lv_iconst (v := 0) hx hb dL_arePathsRight_196 (by decide) ?_
  refine lv_iconst (v := 5) hx hb dL_arePathsRight_197 (by decide) ?_
  refine lv_iconst (v := 0) hx hb dL_arePathsRight_198 (by decide) ?_
  obtain ⟨o2, g3, hf⟩ := jbB_e hf
  refine cws_i (As := [.ref (ha 0 0), .int 5, .int 0, .int 0, .int 5, .int 0]) (rest := []) (Wr := (wA g b1 (o50.2) 30)) (Wn := (wA g b1 (o50.2) 30 ++ wT g ha tv ++ wQ g (ha 1) qv ++ wS g (ha 3) (o2.2))) ⟨hx, hb, hml, hown, hts⟩ (c_L_ask l hlt g ha tv qv sv 5 0 0 5 0 _ g3) (vx_cwSW 6 hts gL_arePathsRight_L_ask rfl rfl rfl hd_L_ask ⟨(Nat.le_of_ble_eq_true rfl), (Nat.le_of_ble_eq_true rfl)⟩) hK hZ hT hA hP hD hS hl.1 (wp_of fun f => by simp only [List.countP_append, List.countP_cons, List.countP_nil] <;> omega) (wp_of fun f => by simp only [List.countP_append, List.countP_cons, List.countP_nil] <;> omega) rfl rfl (Nat.le_of_ble_eq_true rfl) ⟨(Nat.le_of_ble_eq_true rfl), (Nat.le_of_ble_eq_true rfl)⟩ dL_arePathsRight_199 (fun H locs hP hD hS => ?_)
  refine lv_sipush (v := (-2002)) hx hb dL_arePathsRight_202 (by decide) ?_
  refine lv_icmp_ne (tgt := 228) hx hb dL_arePathsRight_205 (by decide) (fun hc => ?_) (fun hc => ?_)
  · have hf := jbF hf hc
    refine W.widen (k := 7) (n := 66) (by omega) (by omega) ?_
    exact hJ228 b1 (o50.2) (o2.2) a1 _ _ _ hf hP hD hS (lv_sub hl [0, 1, 2] rfl)
  · have hf := jbT hf hc
    refine lv_aload_n hx hb dL_arePathsRight_208 rfl (lv_at hl 0 rfl) ?_
    refine lv_iconst (v := 5) hx hb dL_arePathsRight_209 (by decide) ?_
    refine lv_iconst (v := 0) hx hb dL_arePathsRight_210 (by decide) ?_
    refine lv_bipush (v := 6) hx hb dL_arePathsRight_211 (by decide) ?_
    refine lv_iconst (v := 0) hx hb dL_arePathsRight_213 (by decide) ?_
    refine lv_iconst (v := 0) hx hb dL_arePathsRight_214 (by decide) ?_
    obtain ⟨o4, g5, hf⟩ := jbB_e hf
    refine cws_i (As := [.ref (ha 0 0), .int 5, .int 0, .int 6, .int 0, .int 0]) (rest := []) (Wr := (wA g b1 (o50.2) 30)) (Wn := (wA g b1 (o50.2) 30 ++ wT g ha tv ++ wQ g (ha 1) qv ++ wS g (ha 3) (o4.2))) ⟨hx, hb, hml, hown, hts⟩ (c_L_ask l hlt g ha tv qv (o2.2) 5 0 6 0 0 _ g5) (vx_cwSW 6 hts gL_arePathsRight_L_ask rfl rfl rfl hd_L_ask ⟨(Nat.le_of_ble_eq_true rfl), (Nat.le_of_ble_eq_true rfl)⟩) hK hZ hT hA hP hD hS hl.1 (wp_of fun f => by simp only [List.countP_append, List.countP_cons, List.countP_nil] <;> omega) (wp_of fun f => by simp only [List.countP_append, List.countP_cons, List.countP_nil] <;> omega) rfl rfl (Nat.le_of_ble_eq_true rfl) ⟨(Nat.le_of_ble_eq_true rfl), (Nat.le_of_ble_eq_true rfl)⟩ dL_arePathsRight_215 (fun H locs hP hD hS => ?_)
    refine lv_sipush (v := (-2002)) hx hb dL_arePathsRight_218 (by decide) ?_
    refine lv_icmp_ne (tgt := 228) hx hb dL_arePathsRight_221 (by decide) (fun hc => ?_) (fun hc => ?_)
    · have hf := jbF hf hc
      exact hJ228 b1 (o50.2) (o4.2) a1 _ _ _ hf hP hD hS (lv_sub hl [0, 1, 2] rfl)
    · have hf := jbT hf hc
      refine lv_iconst (v := 1) hx hb dL_arePathsRight_224 (by decide) ?_
      refine lv_goto (tgt := 229) hx hb dL_arePathsRight_225 (by decide) ?_
      exact hJ229 b1 (o50.2) (o4.2) a1 1 _ _ _ hf hP hD hS (lv_sub hl [0, 1, 2] rfl)
