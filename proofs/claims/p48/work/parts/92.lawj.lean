def rm_L_areLinesRight : Room := { frames := 10, cells := 0, slots := 0, locals := 162 }
theorem hd_L_areLinesRight : yL_areLinesRight.cls ≠ "java/lang/invoke/MethodHandle" ∧ yL_areLinesRight.cls ≠ "java/lang/invoke/VarHandle" ∧ (parseMethodDescriptor yL_areLinesRight.desc).map (fun d => d.parameters.length) = some 1 := by decide +kernel
set_option maxHeartbeats 4000000 in
set_option maxRecDepth 100000 in
theorem c_L_areLinesRight (l : Launch) (hlt : l.stackTraces = false) (g : GG) (ha : Nat → Nat → Nat) (tv : TV) (qv : QV) (ov : OV)  (out : Int32 × OV) (hf : f_L_areLinesRight qv ov = some out) : MtI l yL_areLinesRight wsL_areLinesRight rm_L_areLinesRight g (wT g ha tv ++ wQ g (ha 1) qv ++ wO g (ha 6) ov) [.ref (ha 0 0)] (out.1) (wT g ha tv ++ wQ g (ha 1) qv ++ wO g (ha 6) (out.2)) 0 0 := by
  refine fun sz => mt_of (cc := cL_areLinesRight) (maxL := 9) (ret := (some .boolean)) (own := RL) (Qc := fun A => va_Qi (fun r (_ : Unit) => r = (out.1)) (fun _ t => PosM g A (wT g ha tv ++ wQ g (ha 1) qv ++ wO g (ha 6) (out.2)) t) A) (by decide +kernel) rfl rfl (Nat.le_of_ble_eq_true rfl) ?_ sz
  intro p e s mi below meth c A ls hB hnm hrt hlk hP hD hl
  obtain ⟨hx, hb, hml, hown, hts, hK, hZ, hT, hA, -⟩ := hB
  have hS : va_S A s.heap s.heap [] := va_S.rf
  have hl : lv_has ls 9 [(0, .ref (ha 0 0))] := hl
  generalize hQ : MQ below _ _ _ _ _ _ = Q
  unfold f_L_areLinesRight at hf
  have hL6 : ∀ (n6 : Nat) (x1 : Int32) (x2 : Int32) (x3 : Int32) (ov : OV) (H : Heap) (locs : List Loc) (ls : Array Slot) (o6 : Int32 × Int32 × Int32 × OV), jbL (fun s => f_L_areLinesRight_L6 qv (s.1) (s.2.1) (s.2.2.1) (s.2.2.2)) n6 (x1, x2, x3, ov) = some o6 → va_P (gD g) vwCl (wT g ha tv ++ wQ g (ha 1) qv ++ wO g (ha 6) ov) H → va_D A (wT g ha tv ++ wQ g (ha 1) qv ++ wO g (ha 6) ov) → va_S A s.heap H locs → lv_has ls 9 [(0, .ref (ha 0 0)), (1, .int x1), (2, .int x2), (3, .int x3)] → (∀ (H : Heap) (locs : List Loc) (ls : Array Slot), va_P (gD g) vwCl (wT g ha tv ++ wQ g (ha 1) qv ++ wO g (ha 6) (o6.2.2.2)) H → va_D A (wT g ha tv ++ wQ g (ha 1) qv ++ wO g (ha 6) (o6.2.2.2)) → va_S A s.heap H locs → lv_has ls 9 [(0, .ref (ha 0 0)), (1, .int (o6.1)), (2, .int (o6.2.1))] → W p l e rm_L_areLinesRight s mi [.ref (ha 0 0)].toArray below meth c H locs (0) (0) Q (F0 mi 259 ls [])) → W p l e rm_L_areLinesRight s mi [.ref (ha 0 0)].toArray below meth c H locs (0) (0) Q (F0 mi 6 ls []) := by
    intro n6
    induction n6 with
    | zero => intro x1 x2 x3 ov H locs ls o6 hf; exact absurd hf (jbL_0 _ _ _)
    | succ n6 ih =>
      intro x1 x2 x3 ov H locs ls o6 hf hP hD hS hl hk
      obtain ⟨r, hf, hr⟩ := jbL_e hf
      have hf : f_L_areLinesRight_L6 qv x1 x2 x3 ov = some r := hf
      unfold f_L_areLinesRight_L6 at hf
      have hJ252 : ∀ (ov : OV) (x2 : Int32) (x3 : Int32) (y0 : Int32) (H : Heap) (locs : List Loc) (ls : Array Slot) (r : Sum (Int32 × Int32 × Int32 × OV) (Int32 × Int32 × Int32 × OV)), f_L_areLinesRight_J252 qv ov x2 x3 y0 = some r → jbR (fun s => f_L_areLinesRight_L6 qv (s.1) (s.2.1) (s.2.2.1) (s.2.2.2)) n6 o6 r → va_P (gD g) vwCl (wT g ha tv ++ wQ g (ha 1) qv ++ wO g (ha 6) ov) H → va_D A (wT g ha tv ++ wQ g (ha 1) qv ++ wO g (ha 6) ov) → va_S A s.heap H locs → lv_has ls 9 [(0, .ref (ha 0 0)), (2, .int x2), (3, .int x3)] → W p l e rm_L_areLinesRight s mi [.ref (ha 0 0)].toArray below meth c H locs (0) (0) Q (F0 mi 252 ls [.int y0]) := by
        intro ov x2 x3 y0 H locs ls r hf hr hP hD hS hl
        unfold f_L_areLinesRight_J252 at hf
        refine lv_istore_n (lv' := [(1, .int y0), (0, .ref (ha 0 0)), (2, .int x2), (3, .int x3)]) hx hb dL_areLinesRight_252 rfl hl (by decide) rfl (fun ls hl => ?_)
        refine lv_iinc (v := (x3 + 1)) (lv' := [(3, .int (x3 + 1)), (1, .int y0), (0, .ref (ha 0 0)), (2, .int x2)]) hx hb dL_areLinesRight_253 hl (k := 3) rfl rfl (by decide) rfl (fun ls hl => ?_)
        refine lv_goto (tgt := 6) hx hb dL_areLinesRight_256 (by decide) ?_
        cases hf
        exact ih y0 x2 (x3 + 1) ov _ _ _ _ hr hP hD hS (lv_sub hl [2, 1, 3, 0] rfl) hk
      have hJ251 : ∀ (ov : OV) (x2 : Int32) (x3 : Int32) (H : Heap) (locs : List Loc) (ls : Array Slot) (r : Sum (Int32 × Int32 × Int32 × OV) (Int32 × Int32 × Int32 × OV)), f_L_areLinesRight_J251 qv ov x2 x3 = some r → jbR (fun s => f_L_areLinesRight_L6 qv (s.1) (s.2.1) (s.2.2.1) (s.2.2.2)) n6 o6 r → va_P (gD g) vwCl (wT g ha tv ++ wQ g (ha 1) qv ++ wO g (ha 6) ov) H → va_D A (wT g ha tv ++ wQ g (ha 1) qv ++ wO g (ha 6) ov) → va_S A s.heap H locs → lv_has ls 9 [(0, .ref (ha 0 0)), (2, .int x2), (3, .int x3)] → W p l e rm_L_areLinesRight s mi [.ref (ha 0 0)].toArray below meth c H locs (0) (0) Q (F0 mi 251 ls []) := by
        intro ov x2 x3 H locs ls r hf hr hP hD hS hl
        unfold f_L_areLinesRight_J251 at hf
        refine lv_iconst (v := 0) hx hb dL_areLinesRight_251 (by decide) ?_
        exact hJ252 ov x2 x3 0 _ _ _ _ hf hr hP hD hS (lv_sub hl [0, 1, 2] rfl)
      have hL24 : ∀ (ov : OV) (x3 : Int32) (x4 : Int32) (n24 : Nat) (x1 : Int32) (x2 : Int32) (x5 : Int32) (x6 : Int32) (H : Heap) (locs : List Loc) (ls : Array Slot) (o24 : Int32 × Int32 × Int32 × Int32), jbL (fun s => f_L_areLinesRight_L24 qv ov x3 x4 (s.1) (s.2.1) (s.2.2.1) (s.2.2.2)) n24 (x1, x2, x5, x6) = some o24 → va_P (gD g) vwCl (wT g ha tv ++ wQ g (ha 1) qv ++ wO g (ha 6) ov) H → va_D A (wT g ha tv ++ wQ g (ha 1) qv ++ wO g (ha 6) ov) → va_S A s.heap H locs → lv_has ls 9 [(0, .ref (ha 0 0)), (1, .int x1), (2, .int x2), (3, .int x3), (4, .int x4), (5, .int x5), (6, .int x6)] → (∀ (H : Heap) (locs : List Loc) (ls : Array Slot), va_P (gD g) vwCl (wT g ha tv ++ wQ g (ha 1) qv ++ wO g (ha 6) ov) H → va_D A (wT g ha tv ++ wQ g (ha 1) qv ++ wO g (ha 6) ov) → va_S A s.heap H locs → lv_has ls 9 [(0, .ref (ha 0 0)), (1, .int (o24.1)), (2, .int (o24.2.1)), (3, .int x3), (4, .int x4), (5, .int (o24.2.2.1))] → W p l e rm_L_areLinesRight s mi [.ref (ha 0 0)].toArray below meth c H locs (0) (0) Q (F0 mi 236 ls [])) → W p l e rm_L_areLinesRight s mi [.ref (ha 0 0)].toArray below meth c H locs (0) (0) Q (F0 mi 24 ls []) := by
        intro ov x3 x4 n24
        induction n24 with
        | zero => intro x1 x2 x5 x6 H locs ls o24 hf; exact absurd hf (jbL_0 _ _ _)
        | succ n24 ih =>
          intro x1 x2 x5 x6 H locs ls o24 hf hP hD hS hl hk
          obtain ⟨r, hf, hr⟩ := jbL_e hf
          have hf : f_L_areLinesRight_L24 qv ov x3 x4 x1 x2 x5 x6 = some r := hf
          unfold f_L_areLinesRight_L24 at hf
          have hL188 : ∀ (ov : OV) (x2 : Int32) (x3 : Int32) (x4 : Int32) (x6 : Int32) (n188 : Nat) (x1 : Int32) (x5 : Int32) (x8 : Int32) (H : Heap) (locs : List Loc) (ls : Array Slot) (o188 : Int32 × Int32 × Int32), jbL (fun s => f_L_areLinesRight_L188 qv ov x2 x3 x4 x6 (s.1) (s.2.1) (s.2.2)) n188 (x1, x5, x8) = some o188 → va_P (gD g) vwCl (wT g ha tv ++ wQ g (ha 1) qv ++ wO g (ha 6) ov) H → va_D A (wT g ha tv ++ wQ g (ha 1) qv ++ wO g (ha 6) ov) → va_S A s.heap H locs → lv_has ls 9 [(0, .ref (ha 0 0)), (1, .int x1), (2, .int x2), (3, .int x3), (4, .int x4), (5, .int x5), (6, .int x6), (8, .int x8)] → (∀ (H : Heap) (locs : List Loc) (ls : Array Slot), va_P (gD g) vwCl (wT g ha tv ++ wQ g (ha 1) qv ++ wO g (ha 6) ov) H → va_D A (wT g ha tv ++ wQ g (ha 1) qv ++ wO g (ha 6) ov) → va_S A s.heap H locs → lv_has ls 9 [(0, .ref (ha 0 0)), (1, .int (o188.1)), (2, .int x2), (3, .int x3), (4, .int x4), (5, .int (o188.2.1)), (6, .int x6)] → W p l e rm_L_areLinesRight s mi [.ref (ha 0 0)].toArray below meth c H locs (0) (0) Q (F0 mi 230 ls [])) → W p l e rm_L_areLinesRight s mi [.ref (ha 0 0)].toArray below meth c H locs (0) (0) Q (F0 mi 188 ls []) := by
            intro ov x2 x3 x4 x6 n188
            induction n188 with
            | zero => intro x1 x5 x8 H locs ls o188 hf; exact absurd hf (jbL_0 _ _ _)
            | succ n188 ih =>
              intro x1 x5 x8 H locs ls o188 hf hP hD hS hl hk
              obtain ⟨r, hf, hr⟩ := jbL_e hf
              have hf : f_L_areLinesRight_L188 qv ov x2 x3 x4 x6 x1 x5 x8 = some r := hf
              unfold f_L_areLinesRight_L188 at hf
              have hJ223 : ∀ (x5 : Int32) (x8 : Int32) (y0 : Int32) (H : Heap) (locs : List Loc) (ls : Array Slot) (r : Sum (Int32 × Int32 × Int32) (Int32 × Int32 × Int32)), f_L_areLinesRight_J223 qv ov x2 x3 x4 x5 x6 x8 y0 = some r → jbR (fun s => f_L_areLinesRight_L188 qv ov x2 x3 x4 x6 (s.1) (s.2.1) (s.2.2)) n188 o188 r → va_P (gD g) vwCl (wT g ha tv ++ wQ g (ha 1) qv ++ wO g (ha 6) ov) H → va_D A (wT g ha tv ++ wQ g (ha 1) qv ++ wO g (ha 6) ov) → va_S A s.heap H locs → lv_has ls 9 [(0, .ref (ha 0 0)), (2, .int x2), (3, .int x3), (4, .int x4), (5, .int x5), (6, .int x6), (8, .int x8)] → W p l e rm_L_areLinesRight s mi [.ref (ha 0 0)].toArray below meth c H locs (0) (0) Q (F0 mi 223 ls [.int y0]) := by
                intro x5 x8 y0 H locs ls r hf hr hP hD hS hl
                unfold f_L_areLinesRight_J223 at hf
                refine lv_istore_n (lv' := [(1, .int y0), (0, .ref (ha 0 0)), (2, .int x2), (3, .int x3), (4, .int x4), (5, .int x5), (6, .int x6), (8, .int x8)]) hx hb dL_areLinesRight_223 rfl hl (by decide) rfl (fun ls hl => ?_)
                refine lv_iinc (v := (x8 + 1)) (lv' := [(8, .int (x8 + 1)), (1, .int y0), (0, .ref (ha 0 0)), (2, .int x2), (3, .int x3), (4, .int x4), (5, .int x5), (6, .int x6)]) hx hb dL_areLinesRight_224 hl (k := 7) rfl rfl (by decide) rfl (fun ls hl => ?_)
                refine lv_goto (tgt := 188) hx hb dL_areLinesRight_227 (by decide) ?_
                cases hf
                exact ih y0 x5 (x8 + 1) _ _ _ _ hr hP hD hS (lv_sub hl [2, 1, 3, 4, 5, 6, 7, 0] rfl) hk
              refine lv_iload_n hx hb dL_areLinesRight_188 rfl (lv_at hl 1 rfl) ?_
              refine lv_if_eq (tgt := 230) hx hb dL_areLinesRight_189 (by decide) (fun hc => ?_) (fun hc => ?_)
              · have hf := jbT hf hc
                cases hf
                obtain rfl := jbR_r hr
                exact hk _ _ _ hP hD hS (lv_sub hl [0, 1, 2, 3, 4, 5, 6] rfl)
              · have hf := jbF hf hc
                refine lv_iload hx hb dL_areLinesRight_192 (lv_at hl 7 rfl) ?_
                refine lv_aload_n hx hb dL_areLinesRight_194 rfl (lv_at hl 0 rfl) ?_
                refine lv_iload_n hx hb dL_areLinesRight_195 rfl (lv_at hl 3 rfl) ?_
                refine lv_iload hx hb dL_areLinesRight_196 (lv_at hl 6 rfl) ?_
                obtain ⟨o28, g29, hf⟩ := jbB_e hf
                rcases o28 with x9 | o28
                · have hf := jbM_l hf
                  cases hf
                have hf := jbM_r hf
                refine cpv_i (As := [.int x3, .int x6]) (rest := [.int x8]) (Wr := (wO g (ha 6) ov)) (Wn := (wT g ha tv ++ wQ g (ha 1) qv ++ wO g (ha 6) ov)) ⟨hx, hb, hml, hown, hts⟩ (cn_X10_looseBlocks l hlt g ha tv qv x3 x6 _ (show f_X10_looseBlocks tv qv x3 x6 = some (.inr o28) from g29)) (cwV 2 hts gL_areLinesRight_X10_looseBlocks rfl rfl rfl hd_X10_looseBlocks ⟨(Nat.le_of_ble_eq_true rfl), (Nat.le_of_ble_eq_true rfl)⟩) hK hZ hT hA hP hD hS hl.1 (va_recv hK hP (ci := 9) (q0 := 0) rfl rfl) (wp_of fun f => by simp only [List.countP_append, List.countP_cons, List.countP_nil] <;> omega) (wp_of fun f => by simp only [List.countP_append, List.countP_cons, List.countP_nil] <;> omega) rfl rfl (Nat.le_of_ble_eq_true rfl) ⟨(Nat.le_of_ble_eq_true rfl), (Nat.le_of_ble_eq_true rfl)⟩ dL_areLinesRight_198 (fun H locs hP hD hS => ?_)
                refine lv_icmp_ge (tgt := 230) hx hb dL_areLinesRight_201 (by decide) (fun hc => ?_) (fun hc => ?_)
                · have hf := jbT hf hc
                  cases hf
                  obtain rfl := jbR_r hr
                  exact hk _ _ _ hP hD hS (lv_sub hl [0, 1, 2, 3, 4, 5, 6] rfl)
                · have hf := jbF hf hc
                  refine lv_aload_n hx hb dL_areLinesRight_204 rfl (lv_at hl 0 rfl) ?_
                  refine lv_iload hx hb dL_areLinesRight_205 (lv_at hl 5 rfl) ?_
                  refine lv_iinc (v := (x5 + 1)) (lv' := [(5, .int (x5 + 1)), (0, .ref (ha 0 0)), (1, .int x1), (2, .int x2), (3, .int x3), (4, .int x4), (6, .int x6), (8, .int x8)]) hx hb dL_areLinesRight_207 hl (k := 5) rfl rfl (by decide) rfl (fun ls hl => ?_)
                  obtain ⟨o30, g31, hf⟩ := jbB_e hf
                  rcases o30 with x9 | o30
                  · have hf := jbM_l hf
                    cases hf
                  have hf := jbM_r hf
                  refine cpv_i (As := [.int x5]) (rest := []) (Wr := (wQ g (ha 1) qv)) (Wn := (wT g ha tv ++ wQ g (ha 1) qv ++ wO g (ha 6) ov)) ⟨hx, hb, hml, hown, hts⟩ (cn_X10_outputAt l hlt g ha tv ov x5 _ (show f_X10_outputAt tv ov x5 = some (.inr o30) from g31)) (cwV 1 hts gL_areLinesRight_X10_outputAt rfl rfl rfl hd_X10_outputAt ⟨(Nat.le_of_ble_eq_true rfl), (Nat.le_of_ble_eq_true rfl)⟩) hK hZ hT hA hP hD hS hl.1 (va_recv hK hP (ci := 9) (q0 := 0) rfl rfl) (wp_of fun f => by simp only [List.countP_append, List.countP_cons, List.countP_nil] <;> omega) (wp_of fun f => by simp only [List.countP_append, List.countP_cons, List.countP_nil] <;> omega) rfl rfl (Nat.le_of_ble_eq_true rfl) ⟨(Nat.le_of_ble_eq_true rfl), (Nat.le_of_ble_eq_true rfl)⟩ dL_areLinesRight_210 (fun H locs hP hD hS => ?_)
                  refine lv_bipush (v := 46) hx hb dL_areLinesRight_213 (by decide) ?_
                  refine lv_icmp_ne (tgt := 222) hx hb dL_areLinesRight_215 (by decide) (fun hc => ?_) (fun hc => ?_)
                  · have hf := jbF hf hc
                    refine lv_iconst (v := 0) hx hb dL_areLinesRight_222 (by decide) ?_
                    exact hJ223 (x5 + 1) x8 0 _ _ _ _ hf hr hP hD hS (lv_sub hl [1, 3, 4, 5, 0, 6, 7] rfl)
                  · have hf := jbT hf hc
                    refine lv_iconst (v := 1) hx hb dL_areLinesRight_218 (by decide) ?_
                    refine lv_goto (tgt := 223) hx hb dL_areLinesRight_219 (by decide) ?_
                    exact hJ223 (x5 + 1) x8 1 _ _ _ _ hf hr hP hD hS (lv_sub hl [1, 3, 4, 5, 0, 6, 7] rfl)
          have hJ165 : ∀ (x1 : Int32) (x2 : Int32) (x5 : Int32) (x6 : Int32) (y0 : Int32) (H : Heap) (locs : List Loc) (ls : Array Slot) (r : Sum (Int32 × Int32 × Int32 × Int32) (Int32 × Int32 × Int32 × Int32)), f_L_areLinesRight_J165 qv ov x1 x2 x3 x4 x5 x6 y0 = some r → jbR (fun s => f_L_areLinesRight_L24 qv ov x3 x4 (s.1) (s.2.1) (s.2.2.1) (s.2.2.2)) n24 o24 r → va_P (gD g) vwCl (wT g ha tv ++ wQ g (ha 1) qv ++ wO g (ha 6) ov) H → va_D A (wT g ha tv ++ wQ g (ha 1) qv ++ wO g (ha 6) ov) → va_S A s.heap H locs → lv_has ls 9 [(0, .ref (ha 0 0)), (1, .int x1), (2, .int x2), (3, .int x3), (4, .int x4), (5, .int x5), (6, .int x6)] → W p l e rm_L_areLinesRight s mi [.ref (ha 0 0)].toArray below meth c H locs (0) (0) Q (F0 mi 165 ls [.int y0]) := by
            intro x1 x2 x5 x6 y0 H locs ls r hf hr hP hD hS hl
            unfold f_L_areLinesRight_J165 at hf
            refine lv_istore (lv' := [(7, .int y0), (0, .ref (ha 0 0)), (1, .int x1), (2, .int x2), (3, .int x3), (4, .int x4), (5, .int x5), (6, .int x6)]) hx hb dL_areLinesRight_165 hl (by decide) rfl (fun ls hl => ?_)
            refine lv_iload_n hx hb dL_areLinesRight_167 rfl (lv_at hl 3 rfl) ?_
            refine lv_iload hx hb dL_areLinesRight_168 (lv_at hl 0 rfl) ?_
            obtain ⟨o22, g23, hf⟩ := jbB_e hf
            refine csn_i (As := [.int y0]) (rest := [.int x2]) ⟨hx, hb, hml, hown, hts⟩ (c_L_told l g y0 _ g23) (va_cwS 1 hts gL_areLinesRight_L_told rfl rfl rfl hd_L_told ⟨(Nat.le_of_ble_eq_true rfl), (Nat.le_of_ble_eq_true rfl)⟩) hK hZ hT hA hP hD hS hl.1 rfl rfl (Nat.le_of_ble_eq_true rfl) ⟨(Nat.le_of_ble_eq_true rfl), (Nat.le_of_ble_eq_true rfl)⟩ dL_areLinesRight_170 (fun H locs hP hD hS => ?_)
            refine lv_iadd hx hb dL_areLinesRight_173 ?_
            refine lv_topi (fun z24 ez24 => ?_)
            have hf := jbN_e hf ez24
            refine lv_istore_n (lv' := [(2, .int z24), (7, .int y0), (0, .ref (ha 0 0)), (1, .int x1), (3, .int x3), (4, .int x4), (5, .int x5), (6, .int x6)]) hx hb dL_areLinesRight_174 rfl hl (by decide) rfl (fun ls hl => ?_)
            refine lv_iload hx hb dL_areLinesRight_175 (lv_at hl 6 rfl) ?_
            refine lv_iload hx hb dL_areLinesRight_177 (lv_at hl 1 rfl) ?_
            obtain ⟨o25, g26, hf⟩ := jbB_e hf
            refine csn_i (As := [.int y0]) (rest := [.int x5]) ⟨hx, hb, hml, hown, hts⟩ (c_L_told l g y0 _ g26) (va_cwS 1 hts gL_areLinesRight_L_told rfl rfl rfl hd_L_told ⟨(Nat.le_of_ble_eq_true rfl), (Nat.le_of_ble_eq_true rfl)⟩) hK hZ hT hA hP hD hS hl.1 rfl rfl (Nat.le_of_ble_eq_true rfl) ⟨(Nat.le_of_ble_eq_true rfl), (Nat.le_of_ble_eq_true rfl)⟩ dL_areLinesRight_179 (fun H locs hP hD hS => ?_)
            refine lv_iadd hx hb dL_areLinesRight_182 ?_
            refine lv_topi (fun z27 ez27 => ?_)
            have hf := jbN_e hf ez27
            refine lv_istore (lv' := [(5, .int z27), (2, .int z24), (7, .int y0), (0, .ref (ha 0 0)), (1, .int x1), (3, .int x3), (4, .int x4), (6, .int x6)]) hx hb dL_areLinesRight_183 hl (by decide) rfl (fun ls hl => ?_)
            refine lv_iconst (v := 0) hx hb dL_areLinesRight_185 (by decide) ?_
            refine lv_istore (lv' := [(8, .int 0), (5, .int z27), (2, .int z24), (7, .int y0), (0, .ref (ha 0 0)), (1, .int x1), (3, .int x3), (4, .int x4), (6, .int x6)]) hx hb dL_areLinesRight_186 hl (by decide) rfl (fun ls hl => ?_)
            obtain ⟨o188, hg, hf⟩ := jbB_e hf
            refine hL188 ov z24 x3 x4 x6 _ x1 z27 0 _ _ _ _ hg hP hD hS (lv_sub hl [4, 5, 2, 6, 7, 1, 8, 0] rfl) (fun H locs ls hP hD hS hl => ?_)
            refine lv_iinc (v := (x6 + 1)) (lv' := [(6, .int (x6 + 1)), (0, .ref (ha 0 0)), (1, .int (o188.1)), (2, .int z24), (3, .int x3), (4, .int x4), (5, .int (o188.2.1))]) hx hb dL_areLinesRight_230 hl (k := 6) rfl rfl (by decide) rfl (fun ls hl => ?_)
            refine lv_goto (tgt := 24) hx hb dL_areLinesRight_233 (by decide) ?_
            cases hf
            exact ih (o188.1) z24 (o188.2.1) (x6 + 1) _ _ _ _ hr hP hD hS (lv_sub hl [1, 2, 3, 4, 5, 6, 0] rfl) hk
          have hJ164 : ∀ (x1 : Int32) (x2 : Int32) (x5 : Int32) (x6 : Int32) (H : Heap) (locs : List Loc) (ls : Array Slot) (r : Sum (Int32 × Int32 × Int32 × Int32) (Int32 × Int32 × Int32 × Int32)), f_L_areLinesRight_J164 qv ov x1 x2 x3 x4 x5 x6 = some r → jbR (fun s => f_L_areLinesRight_L24 qv ov x3 x4 (s.1) (s.2.1) (s.2.2.1) (s.2.2.2)) n24 o24 r → va_P (gD g) vwCl (wT g ha tv ++ wQ g (ha 1) qv ++ wO g (ha 6) ov) H → va_D A (wT g ha tv ++ wQ g (ha 1) qv ++ wO g (ha 6) ov) → va_S A s.heap H locs → lv_has ls 9 [(0, .ref (ha 0 0)), (1, .int x1), (2, .int x2), (3, .int x3), (4, .int x4), (5, .int x5), (6, .int x6)] → W p l e rm_L_areLinesRight s mi [.ref (ha 0 0)].toArray below meth c H locs (0) (0) Q (F0 mi 164 ls []) := by
            intro x1 x2 x5 x6 H locs ls r hf hr hP hD hS hl
            unfold f_L_areLinesRight_J164 at hf
            refine lv_iconst (v := 0) hx hb dL_areLinesRight_164 (by decide) ?_
            exact hJ165 x1 x2 x5 x6 0 _ _ _ _ hf hr hP hD hS (lv_sub hl [0, 1, 2, 3, 4, 5, 6] rfl)
          have hJ137 : ∀ (x2 : Int32) (x5 : Int32) (x6 : Int32) (y0 : Int32) (H : Heap) (locs : List Loc) (ls : Array Slot) (r : Sum (Int32 × Int32 × Int32 × Int32) (Int32 × Int32 × Int32 × Int32)), f_L_areLinesRight_J137 qv ov x2 x3 x4 x5 x6 y0 = some r → jbR (fun s => f_L_areLinesRight_L24 qv ov x3 x4 (s.1) (s.2.1) (s.2.2.1) (s.2.2.2)) n24 o24 r → va_P (gD g) vwCl (wT g ha tv ++ wQ g (ha 1) qv ++ wO g (ha 6) ov) H → va_D A (wT g ha tv ++ wQ g (ha 1) qv ++ wO g (ha 6) ov) → va_S A s.heap H locs → lv_has ls 9 [(0, .ref (ha 0 0)), (2, .int x2), (3, .int x3), (4, .int x4), (5, .int x5), (6, .int x6)] → W p l e rm_L_areLinesRight s mi [.ref (ha 0 0)].toArray below meth c H locs (0) (0) Q (F0 mi 137 ls [.int y0]) := by
            intro x2 x5 x6 y0 H locs ls r hf hr hP hD hS hl
            unfold f_L_areLinesRight_J137 at hf
            refine lv_istore_n (lv' := [(1, .int y0), (0, .ref (ha 0 0)), (2, .int x2), (3, .int x3), (4, .int x4), (5, .int x5), (6, .int x6)]) hx hb dL_areLinesRight_137 rfl hl (by decide) rfl (fun ls hl => ?_)
            refine lv_iload_n hx hb dL_areLinesRight_138 rfl (lv_at hl 0 rfl) ?_
            refine lv_if_eq (tgt := 164) hx hb dL_areLinesRight_139 (by decide) (fun hc => ?_) (fun hc => ?_)
            · have hf := jbT hf hc
              exact hJ164 y0 x2 x5 x6 _ _ _ _ hf hr hP hD hS (lv_sub hl [1, 0, 2, 3, 4, 5, 6] rfl)
            · have hf := jbF hf hc
              refine lv_iload hx hb dL_areLinesRight_142 (lv_at hl 5 rfl) ?_
              refine lv_iload hx hb dL_areLinesRight_144 (lv_at hl 4 rfl) ?_
              refine lv_icmp_ge (tgt := 164) hx hb dL_areLinesRight_146 (by decide) (fun hc => ?_) (fun hc => ?_)
              · have hf := jbT hf hc
                exact hJ164 y0 x2 x5 x6 _ _ _ _ hf hr hP hD hS (lv_sub hl [1, 0, 2, 3, 4, 5, 6] rfl)
              · have hf := jbF hf hc
                refine lv_aload_n hx hb dL_areLinesRight_149 rfl (lv_at hl 1 rfl) ?_
                refine lv_iload hx hb dL_areLinesRight_150 (lv_at hl 5 rfl) ?_
                obtain ⟨o20, g21, hf⟩ := jbB_e hf
                rcases o20 with x9 | o20
                · have hf := jbM_l hf
                  cases hf
                have hf := jbM_r hf
                refine cpv_i (As := [.int x5]) (rest := []) (Wr := (wQ g (ha 1) qv)) (Wn := (wT g ha tv ++ wQ g (ha 1) qv ++ wO g (ha 6) ov)) ⟨hx, hb, hml, hown, hts⟩ (cn_X10_outputAt l hlt g ha tv ov x5 _ (show f_X10_outputAt tv ov x5 = some (.inr o20) from g21)) (cwV 1 hts gL_areLinesRight_X10_outputAt rfl rfl rfl hd_X10_outputAt ⟨(Nat.le_of_ble_eq_true rfl), (Nat.le_of_ble_eq_true rfl)⟩) hK hZ hT hA hP hD hS hl.1 (va_recv hK hP (ci := 9) (q0 := 0) rfl rfl) (wp_of fun f => by simp only [List.countP_append, List.countP_cons, List.countP_nil] <;> omega) (wp_of fun f => by simp only [List.countP_append, List.countP_cons, List.countP_nil] <;> omega) rfl rfl (Nat.le_of_ble_eq_true rfl) ⟨(Nat.le_of_ble_eq_true rfl), (Nat.le_of_ble_eq_true rfl)⟩ dL_areLinesRight_152 (fun H locs hP hD hS => ?_)
                refine lv_bipush (v := 94) hx hb dL_areLinesRight_155 (by decide) ?_
                refine lv_icmp_ne (tgt := 164) hx hb dL_areLinesRight_157 (by decide) (fun hc => ?_) (fun hc => ?_)
                · have hf := jbF hf hc
                  exact hJ164 y0 x2 x5 x6 _ _ _ _ hf hr hP hD hS (lv_sub hl [1, 0, 2, 3, 4, 5, 6] rfl)
                · have hf := jbT hf hc
                  refine lv_iconst (v := 1) hx hb dL_areLinesRight_160 (by decide) ?_
                  refine lv_goto (tgt := 165) hx hb dL_areLinesRight_161 (by decide) ?_
                  exact hJ165 y0 x2 x5 x6 1 _ _ _ _ hf hr hP hD hS (lv_sub hl [1, 0, 2, 3, 4, 5, 6] rfl)
          have hJ136 : ∀ (x2 : Int32) (x5 : Int32) (x6 : Int32) (H : Heap) (locs : List Loc) (ls : Array Slot) (r : Sum (Int32 × Int32 × Int32 × Int32) (Int32 × Int32 × Int32 × Int32)), f_L_areLinesRight_J136 qv ov x2 x3 x4 x5 x6 = some r → jbR (fun s => f_L_areLinesRight_L24 qv ov x3 x4 (s.1) (s.2.1) (s.2.2.1) (s.2.2.2)) n24 o24 r → va_P (gD g) vwCl (wT g ha tv ++ wQ g (ha 1) qv ++ wO g (ha 6) ov) H → va_D A (wT g ha tv ++ wQ g (ha 1) qv ++ wO g (ha 6) ov) → va_S A s.heap H locs → lv_has ls 9 [(0, .ref (ha 0 0)), (2, .int x2), (3, .int x3), (4, .int x4), (5, .int x5), (6, .int x6)] → W p l e rm_L_areLinesRight s mi [.ref (ha 0 0)].toArray below meth c H locs (0) (0) Q (F0 mi 136 ls []) := by
            intro x2 x5 x6 H locs ls r hf hr hP hD hS hl
            unfold f_L_areLinesRight_J136 at hf
            refine lv_iconst (v := 0) hx hb dL_areLinesRight_136 (by decide) ?_
            exact hJ137 x2 x5 x6 0 _ _ _ _ hf hr hP hD hS (lv_sub hl [0, 1, 2, 3, 4, 5] rfl)
          have hJ132 : ∀ (x2 : Int32) (x5 : Int32) (x6 : Int32) (H : Heap) (locs : List Loc) (ls : Array Slot) (r : Sum (Int32 × Int32 × Int32 × Int32) (Int32 × Int32 × Int32 × Int32)), f_L_areLinesRight_J132 qv ov x2 x3 x4 x5 x6 = some r → jbR (fun s => f_L_areLinesRight_L24 qv ov x3 x4 (s.1) (s.2.1) (s.2.2.1) (s.2.2.2)) n24 o24 r → va_P (gD g) vwCl (wT g ha tv ++ wQ g (ha 1) qv ++ wO g (ha 6) ov) H → va_D A (wT g ha tv ++ wQ g (ha 1) qv ++ wO g (ha 6) ov) → va_S A s.heap H locs → lv_has ls 9 [(0, .ref (ha 0 0)), (2, .int x2), (3, .int x3), (4, .int x4), (5, .int x5), (6, .int x6)] → W p l e rm_L_areLinesRight s mi [.ref (ha 0 0)].toArray below meth c H locs (0) (0) Q (F0 mi 132 ls []) := by
            intro x2 x5 x6 H locs ls r hf hr hP hD hS hl
            unfold f_L_areLinesRight_J132 at hf
            refine lv_iconst (v := 1) hx hb dL_areLinesRight_132 (by decide) ?_
            refine lv_goto (tgt := 137) hx hb dL_areLinesRight_133 (by decide) ?_
            exact hJ137 x2 x5 x6 1 _ _ _ _ hf hr hP hD hS (lv_sub hl [0, 1, 2, 3, 4, 5] rfl)
          have hJ103 : ∀ (x2 : Int32) (x5 : Int32) (x6 : Int32) (y0 : Int32) (H : Heap) (locs : List Loc) (ls : Array Slot) (r : Sum (Int32 × Int32 × Int32 × Int32) (Int32 × Int32 × Int32 × Int32)), f_L_areLinesRight_J103 qv ov x2 x3 x4 x5 x6 y0 = some r → jbR (fun s => f_L_areLinesRight_L24 qv ov x3 x4 (s.1) (s.2.1) (s.2.2.1) (s.2.2.2)) n24 o24 r → va_P (gD g) vwCl (wT g ha tv ++ wQ g (ha 1) qv ++ wO g (ha 6) ov) H → va_D A (wT g ha tv ++ wQ g (ha 1) qv ++ wO g (ha 6) ov) → va_S A s.heap H locs → lv_has ls 9 [(0, .ref (ha 0 0)), (2, .int x2), (3, .int x3), (4, .int x4), (5, .int x5), (6, .int x6)] → W p l e rm_L_areLinesRight s mi [.ref (ha 0 0)].toArray below meth c H locs (0) (0) Q (F0 mi 103 ls [.int y0]) := by
            intro x2 x5 x6 y0 H locs ls r hf hr hP hD hS hl
            unfold f_L_areLinesRight_J103 at hf
            refine lv_istore_n (lv' := [(1, .int y0), (0, .ref (ha 0 0)), (2, .int x2), (3, .int x3), (4, .int x4), (5, .int x5), (6, .int x6)]) hx hb dL_areLinesRight_103 rfl hl (by decide) rfl (fun ls hl => ?_)
            refine lv_iload_n hx hb dL_areLinesRight_104 rfl (lv_at hl 0 rfl) ?_
            refine lv_if_eq (tgt := 136) hx hb dL_areLinesRight_105 (by decide) (fun hc => ?_) (fun hc => ?_)
            · have hf := jbT hf hc
              exact hJ136 x2 x5 x6 _ _ _ _ hf hr hP hD hS (lv_sub hl [1, 2, 3, 4, 5, 6] rfl)
            · have hf := jbF hf hc
              refine lv_aload_n hx hb dL_areLinesRight_108 rfl (lv_at hl 1 rfl) ?_
              refine lv_iload_n hx hb dL_areLinesRight_109 rfl (lv_at hl 3 rfl) ?_
              refine lv_iload hx hb dL_areLinesRight_110 (lv_at hl 6 rfl) ?_
              obtain ⟨o16, g17, hf⟩ := jbB_e hf
              rcases o16 with x9 | o16
              · have hf := jbM_l hf
                cases hf
              have hf := jbM_r hf
              refine cpv_i (As := [.int x3, .int x6]) (rest := []) (Wr := (wO g (ha 6) ov)) (Wn := (wT g ha tv ++ wQ g (ha 1) qv ++ wO g (ha 6) ov)) ⟨hx, hb, hml, hown, hts⟩ (cn_X10_isLedge l hlt g ha tv qv x3 x6 _ (show f_X10_isLedge tv qv x3 x6 = some (.inr o16) from g17)) (cwV 2 hts gL_areLinesRight_X10_isLedge rfl rfl rfl hd_X10_isLedge ⟨(Nat.le_of_ble_eq_true rfl), (Nat.le_of_ble_eq_true rfl)⟩) hK hZ hT hA hP hD hS hl.1 (va_recv hK hP (ci := 9) (q0 := 0) rfl rfl) (wp_of fun f => by simp only [List.countP_append, List.countP_cons, List.countP_nil] <;> omega) (wp_of fun f => by simp only [List.countP_append, List.countP_cons, List.countP_nil] <;> omega) rfl rfl (Nat.le_of_ble_eq_true rfl) ⟨(Nat.le_of_ble_eq_true rfl), (Nat.le_of_ble_eq_true rfl)⟩ dL_areLinesRight_112 (fun H locs hP hD hS => ?_)
              refine lv_if_eq (tgt := 132) hx hb dL_areLinesRight_115 (by decide) (fun hc => ?_) (fun hc => ?_)
              · have hf := jbT hf hc
                exact hJ132 x2 x5 x6 _ _ _ _ hf hr hP hD hS (lv_sub hl [1, 2, 3, 4, 5, 6] rfl)
              · have hf := jbF hf hc
                refine lv_aload_n hx hb dL_areLinesRight_118 rfl (lv_at hl 1 rfl) ?_
                refine lv_iload hx hb dL_areLinesRight_119 (lv_at hl 5 rfl) ?_
                refine lv_iinc (v := (x5 + 1)) (lv' := [(5, .int (x5 + 1)), (1, .int y0), (0, .ref (ha 0 0)), (2, .int x2), (3, .int x3), (4, .int x4), (6, .int x6)]) hx hb dL_areLinesRight_121 hl (k := 5) rfl rfl (by decide) rfl (fun ls hl => ?_)
                obtain ⟨o18, g19, hf⟩ := jbB_e hf
                rcases o18 with x9 | o18
                · have hf := jbM_l hf
                  cases hf
                have hf := jbM_r hf
                refine cpv_i (As := [.int x5]) (rest := []) (Wr := (wQ g (ha 1) qv)) (Wn := (wT g ha tv ++ wQ g (ha 1) qv ++ wO g (ha 6) ov)) ⟨hx, hb, hml, hown, hts⟩ (cn_X10_outputAt l hlt g ha tv ov x5 _ (show f_X10_outputAt tv ov x5 = some (.inr o18) from g19)) (cwV 1 hts gL_areLinesRight_X10_outputAt rfl rfl rfl hd_X10_outputAt ⟨(Nat.le_of_ble_eq_true rfl), (Nat.le_of_ble_eq_true rfl)⟩) hK hZ hT hA hP hD hS hl.1 (va_recv hK hP (ci := 9) (q0 := 0) rfl rfl) (wp_of fun f => by simp only [List.countP_append, List.countP_cons, List.countP_nil] <;> omega) (wp_of fun f => by simp only [List.countP_append, List.countP_cons, List.countP_nil] <;> omega) rfl rfl (Nat.le_of_ble_eq_true rfl) ⟨(Nat.le_of_ble_eq_true rfl), (Nat.le_of_ble_eq_true rfl)⟩ dL_areLinesRight_124 (fun H locs hP hD hS => ?_)
                refine lv_bipush (v := 61) hx hb dL_areLinesRight_127 (by decide) ?_
                refine lv_icmp_ne (tgt := 136) hx hb dL_areLinesRight_129 (by decide) (fun hc => ?_) (fun hc => ?_)
                · have hf := jbF hf hc
                  exact hJ136 x2 (x5 + 1) x6 _ _ _ _ hf hr hP hD hS (lv_sub hl [2, 3, 4, 5, 0, 6] rfl)
                · have hf := jbT hf hc
                  exact hJ132 x2 (x5 + 1) x6 _ _ _ _ hf hr hP hD hS (lv_sub hl [2, 3, 4, 5, 0, 6] rfl)
          have hJ102 : ∀ (x2 : Int32) (x5 : Int32) (x6 : Int32) (H : Heap) (locs : List Loc) (ls : Array Slot) (r : Sum (Int32 × Int32 × Int32 × Int32) (Int32 × Int32 × Int32 × Int32)), f_L_areLinesRight_J102 qv ov x2 x3 x4 x5 x6 = some r → jbR (fun s => f_L_areLinesRight_L24 qv ov x3 x4 (s.1) (s.2.1) (s.2.2.1) (s.2.2.2)) n24 o24 r → va_P (gD g) vwCl (wT g ha tv ++ wQ g (ha 1) qv ++ wO g (ha 6) ov) H → va_D A (wT g ha tv ++ wQ g (ha 1) qv ++ wO g (ha 6) ov) → va_S A s.heap H locs → lv_has ls 9 [(0, .ref (ha 0 0)), (2, .int x2), (3, .int x3), (4, .int x4), (5, .int x5), (6, .int x6)] → W p l e rm_L_areLinesRight s mi [.ref (ha 0 0)].toArray below meth c H locs (0) (0) Q (F0 mi 102 ls []) := by
            intro x2 x5 x6 H locs ls r hf hr hP hD hS hl
            unfold f_L_areLinesRight_J102 at hf
            refine lv_iconst (v := 0) hx hb dL_areLinesRight_102 (by decide) ?_
            exact hJ103 x2 x5 x6 0 _ _ _ _ hf hr hP hD hS (lv_sub hl [0, 1, 2, 3, 4, 5] rfl)
          have hJ54 : ∀ (x2 : Int32) (x5 : Int32) (x6 : Int32) (H : Heap) (locs : List Loc) (ls : Array Slot) (r : Sum (Int32 × Int32 × Int32 × Int32) (Int32 × Int32 × Int32 × Int32)), f_L_areLinesRight_J54 qv ov x2 x3 x4 x5 x6 = some r → jbR (fun s => f_L_areLinesRight_L24 qv ov x3 x4 (s.1) (s.2.1) (s.2.2.1) (s.2.2.2)) n24 o24 r → va_P (gD g) vwCl (wT g ha tv ++ wQ g (ha 1) qv ++ wO g (ha 6) ov) H → va_D A (wT g ha tv ++ wQ g (ha 1) qv ++ wO g (ha 6) ov) → va_S A s.heap H locs → lv_has ls 9 [(0, .ref (ha 0 0)), (2, .int x2), (3, .int x3), (4, .int x4), (5, .int x5), (6, .int x6)] → W p l e rm_L_areLinesRight s mi [.ref (ha 0 0)].toArray below meth c H locs (0) (0) Q (F0 mi 54 ls []) := by
            intro x2 x5 x6 H locs ls r hf hr hP hD hS hl
            unfold f_L_areLinesRight_J54 at hf
            refine lv_aload_n hx hb dL_areLinesRight_54 rfl (lv_at hl 0 rfl) ?_
            refine lv_iload hx hb dL_areLinesRight_55 (lv_at hl 4 rfl) ?_
            refine lv_iinc (v := (x5 + 1)) (lv' := [(5, .int (x5 + 1)), (0, .ref (ha 0 0)), (2, .int x2), (3, .int x3), (4, .int x4), (6, .int x6)]) hx hb dL_areLinesRight_57 hl (k := 4) rfl rfl (by decide) rfl (fun ls hl => ?_)
            obtain ⟨o8, g9, hf⟩ := jbB_e hf
            rcases o8 with x9 | o8
            · have hf := jbM_l hf
              cases hf
            have hf := jbM_r hf
            refine cpv_i (As := [.int x5]) (rest := []) (Wr := (wQ g (ha 1) qv)) (Wn := (wT g ha tv ++ wQ g (ha 1) qv ++ wO g (ha 6) ov)) ⟨hx, hb, hml, hown, hts⟩ (cn_X10_outputAt l hlt g ha tv ov x5 _ (show f_X10_outputAt tv ov x5 = some (.inr o8) from g9)) (cwV 1 hts gL_areLinesRight_X10_outputAt rfl rfl rfl hd_X10_outputAt ⟨(Nat.le_of_ble_eq_true rfl), (Nat.le_of_ble_eq_true rfl)⟩) hK hZ hT hA hP hD hS hl.1 (va_recv hK hP (ci := 9) (q0 := 0) rfl rfl) (wp_of fun f => by simp only [List.countP_append, List.countP_cons, List.countP_nil] <;> omega) (wp_of fun f => by simp only [List.countP_append, List.countP_cons, List.countP_nil] <;> omega) rfl rfl (Nat.le_of_ble_eq_true rfl) ⟨(Nat.le_of_ble_eq_true rfl), (Nat.le_of_ble_eq_true rfl)⟩ dL_areLinesRight_60 (fun H locs hP hD hS => ?_)
            refine lv_bipush (v := 48) hx hb dL_areLinesRight_63 (by decide) ?_
            refine lv_aload_n hx hb dL_areLinesRight_65 rfl (lv_at hl 1 rfl) ?_
            refine lv_iload_n hx hb dL_areLinesRight_66 rfl (lv_at hl 3 rfl) ?_
            refine lv_iload hx hb dL_areLinesRight_67 (lv_at hl 5 rfl) ?_
            obtain ⟨o10, g11, hf⟩ := jbB_e hf
            rcases o10 with x9 | o10
            · have hf := jbM_l hf
              cases hf
            have hf := jbM_r hf
            refine cpv_i (As := [.int x3, .int x6]) (rest := [.int 48, .int o8]) (Wr := (wO g (ha 6) ov)) (Wn := (wT g ha tv ++ wQ g (ha 1) qv ++ wO g (ha 6) ov)) ⟨hx, hb, hml, hown, hts⟩ (cn_X10_height l hlt g ha tv qv x3 x6 _ (show f_X10_height tv qv x3 x6 = some (.inr o10) from g11)) (cwV 2 hts gL_areLinesRight_X10_height rfl rfl rfl hd_X10_height ⟨(Nat.le_of_ble_eq_true rfl), (Nat.le_of_ble_eq_true rfl)⟩) hK hZ hT hA hP hD hS hl.1 (va_recv hK hP (ci := 9) (q0 := 0) rfl rfl) (wp_of fun f => by simp only [List.countP_append, List.countP_cons, List.countP_nil] <;> omega) (wp_of fun f => by simp only [List.countP_append, List.countP_cons, List.countP_nil] <;> omega) rfl rfl (Nat.le_of_ble_eq_true rfl) ⟨(Nat.le_of_ble_eq_true rfl), (Nat.le_of_ble_eq_true rfl)⟩ dL_areLinesRight_69 (fun H locs hP hD hS => ?_)
            refine lv_iadd hx hb dL_areLinesRight_72 ?_
            refine lv_icmp_ne (tgt := 102) hx hb dL_areLinesRight_73 (by decide) (fun hc => ?_) (fun hc => ?_)
            · have hf := jbF hf hc
              exact hJ102 x2 (x5 + 1) x6 _ _ _ _ hf hr hP hD hS (lv_sub hl [1, 2, 3, 4, 0, 5] rfl)
            · have hf := jbT hf hc
              refine lv_aload_n hx hb dL_areLinesRight_76 rfl (lv_at hl 1 rfl) ?_
              refine lv_iload hx hb dL_areLinesRight_77 (lv_at hl 0 rfl) ?_
              refine lv_iinc (v := ((x5 + 1) + 1)) (lv' := [(5, .int ((x5 + 1) + 1)), (0, .ref (ha 0 0)), (2, .int x2), (3, .int x3), (4, .int x4), (6, .int x6)]) hx hb dL_areLinesRight_79 hl (k := 0) rfl rfl (by decide) rfl (fun ls hl => ?_)
              obtain ⟨o12, g13, hf⟩ := jbB_e hf
              rcases o12 with x9 | o12
              · have hf := jbM_l hf
                cases hf
              have hf := jbM_r hf
              refine cpv_i (As := [.int (x5 + 1)]) (rest := []) (Wr := (wQ g (ha 1) qv)) (Wn := (wT g ha tv ++ wQ g (ha 1) qv ++ wO g (ha 6) ov)) ⟨hx, hb, hml, hown, hts⟩ (cn_X10_outputAt l hlt g ha tv ov (x5 + 1) _ (show f_X10_outputAt tv ov (x5 + 1) = some (.inr o12) from g13)) (cwV 1 hts gL_areLinesRight_X10_outputAt rfl rfl rfl hd_X10_outputAt ⟨(Nat.le_of_ble_eq_true rfl), (Nat.le_of_ble_eq_true rfl)⟩) hK hZ hT hA hP hD hS hl.1 (va_recv hK hP (ci := 9) (q0 := 0) rfl rfl) (wp_of fun f => by simp only [List.countP_append, List.countP_cons, List.countP_nil] <;> omega) (wp_of fun f => by simp only [List.countP_append, List.countP_cons, List.countP_nil] <;> omega) rfl rfl (Nat.le_of_ble_eq_true rfl) ⟨(Nat.le_of_ble_eq_true rfl), (Nat.le_of_ble_eq_true rfl)⟩ dL_areLinesRight_82 (fun H locs hP hD hS => ?_)
              refine lv_bipush (v := 97) hx hb dL_areLinesRight_85 (by decide) ?_
              refine lv_aload_n hx hb dL_areLinesRight_87 rfl (lv_at hl 1 rfl) ?_
              refine lv_iload_n hx hb dL_areLinesRight_88 rfl (lv_at hl 3 rfl) ?_
              refine lv_iload hx hb dL_areLinesRight_89 (lv_at hl 5 rfl) ?_
              obtain ⟨o14, g15, hf⟩ := jbB_e hf
              rcases o14 with x9 | o14
              · have hf := jbM_l hf
                cases hf
              have hf := jbM_r hf
              refine cpv_i (As := [.int x3, .int x6]) (rest := [.int 97, .int o12]) (Wr := (wO g (ha 6) ov)) (Wn := (wT g ha tv ++ wQ g (ha 1) qv ++ wO g (ha 6) ov)) ⟨hx, hb, hml, hown, hts⟩ (cn_X10_stone l hlt g ha tv qv x3 x6 _ (show f_X10_stone tv qv x3 x6 = some (.inr o14) from g15)) (cwV 2 hts gL_areLinesRight_X10_stone rfl rfl rfl hd_X10_stone ⟨(Nat.le_of_ble_eq_true rfl), (Nat.le_of_ble_eq_true rfl)⟩) hK hZ hT hA hP hD hS hl.1 (va_recv hK hP (ci := 9) (q0 := 0) rfl rfl) (wp_of fun f => by simp only [List.countP_append, List.countP_cons, List.countP_nil] <;> omega) (wp_of fun f => by simp only [List.countP_append, List.countP_cons, List.countP_nil] <;> omega) rfl rfl (Nat.le_of_ble_eq_true rfl) ⟨(Nat.le_of_ble_eq_true rfl), (Nat.le_of_ble_eq_true rfl)⟩ dL_areLinesRight_91 (fun H locs hP hD hS => ?_)
              refine lv_iadd hx hb dL_areLinesRight_94 ?_
              refine lv_icmp_ne (tgt := 102) hx hb dL_areLinesRight_95 (by decide) (fun hc => ?_) (fun hc => ?_)
              · have hf := jbF hf hc
                exact hJ102 x2 ((x5 + 1) + 1) x6 _ _ _ _ hf hr hP hD hS (lv_sub hl [1, 2, 3, 4, 0, 5] rfl)
              · have hf := jbT hf hc
                refine lv_iconst (v := 1) hx hb dL_areLinesRight_98 (by decide) ?_
                refine lv_goto (tgt := 103) hx hb dL_areLinesRight_99 (by decide) ?_
                exact hJ103 x2 ((x5 + 1) + 1) x6 1 _ _ _ _ hf hr hP hD hS (lv_sub hl [1, 2, 3, 4, 0, 5] rfl)
          refine lv_iload hx hb dL_areLinesRight_24 (lv_at hl 6 rfl) ?_
          refine lv_bipush (v := 6) hx hb dL_areLinesRight_26 (by decide) ?_
          refine lv_icmp_ge (tgt := 236) hx hb dL_areLinesRight_28 (by decide) (fun hc => ?_) (fun hc => ?_)
          · have hf := jbT hf hc
            cases hf
            obtain rfl := jbR_r hr
            exact hk _ _ _ hP hD hS (lv_sub hl [0, 1, 2, 3, 4, 5] rfl)
          · have hf := jbF hf hc
            refine lv_iload_n hx hb dL_areLinesRight_31 rfl (lv_at hl 1 rfl) ?_
            refine lv_if_eq (tgt := 236) hx hb dL_areLinesRight_32 (by decide) (fun hc => ?_) (fun hc => ?_)
            · have hf := jbT hf hc
              cases hf
              obtain rfl := jbR_r hr
              exact hk _ _ _ hP hD hS (lv_sub hl [0, 1, 2, 3, 4, 5] rfl)
            · have hf := jbF hf hc
              refine lv_iload hx hb dL_areLinesRight_35 (lv_at hl 6 rfl) ?_
              refine lv_if_eq (tgt := 54) hx hb dL_areLinesRight_37 (by decide) (fun hc => ?_) (fun hc => ?_)
              · have hf := jbT hf hc
                exact hJ54 x2 x5 x6 _ _ _ _ hf hr hP hD hS (lv_sub hl [0, 2, 3, 4, 5, 6] rfl)
              · have hf := jbF hf hc
                refine lv_aload_n hx hb dL_areLinesRight_40 rfl (lv_at hl 0 rfl) ?_
                refine lv_iload hx hb dL_areLinesRight_41 (lv_at hl 5 rfl) ?_
                refine lv_iinc (v := (x5 + 1)) (lv' := [(5, .int (x5 + 1)), (0, .ref (ha 0 0)), (1, .int x1), (2, .int x2), (3, .int x3), (4, .int x4), (6, .int x6)]) hx hb dL_areLinesRight_43 hl (k := 5) rfl rfl (by decide) rfl (fun ls hl => ?_)
                obtain ⟨o6, g7, hf⟩ := jbB_e hf
                rcases o6 with x9 | o6
                · have hf := jbM_l hf
                  cases hf
                have hf := jbM_r hf
                refine cpv_i (As := [.int x5]) (rest := []) (Wr := (wQ g (ha 1) qv)) (Wn := (wT g ha tv ++ wQ g (ha 1) qv ++ wO g (ha 6) ov)) ⟨hx, hb, hml, hown, hts⟩ (cn_X10_outputAt l hlt g ha tv ov x5 _ (show f_X10_outputAt tv ov x5 = some (.inr o6) from g7)) (cwV 1 hts gL_areLinesRight_X10_outputAt rfl rfl rfl hd_X10_outputAt ⟨(Nat.le_of_ble_eq_true rfl), (Nat.le_of_ble_eq_true rfl)⟩) hK hZ hT hA hP hD hS hl.1 (va_recv hK hP (ci := 9) (q0 := 0) rfl rfl) (wp_of fun f => by simp only [List.countP_append, List.countP_cons, List.countP_nil] <;> omega) (wp_of fun f => by simp only [List.countP_append, List.countP_cons, List.countP_nil] <;> omega) rfl rfl (Nat.le_of_ble_eq_true rfl) ⟨(Nat.le_of_ble_eq_true rfl), (Nat.le_of_ble_eq_true rfl)⟩ dL_areLinesRight_46 (fun H locs hP hD hS => ?_)
                refine lv_bipush (v := 32) hx hb dL_areLinesRight_49 (by decide) ?_
                refine lv_icmp_ne (tgt := 102) hx hb dL_areLinesRight_51 (by decide) (fun hc => ?_) (fun hc => ?_)
                · have hf := jbF hf hc
                  exact hJ102 x2 (x5 + 1) x6 _ _ _ _ hf hr hP hD hS (lv_sub hl [1, 3, 4, 5, 0, 6] rfl)
                · have hf := jbT hf hc
                  exact hJ54 x2 (x5 + 1) x6 _ _ _ _ hf hr hP hD hS (lv_sub hl [1, 3, 4, 5, 0, 6] rfl)
      refine lv_iload_n hx hb dL_areLinesRight_6 rfl (lv_at hl 3 rfl) ?_
      refine lv_iconst (v := 5) hx hb dL_areLinesRight_7 (by decide) ?_
      refine lv_icmp_ge (tgt := 259) hx hb dL_areLinesRight_8 (by decide) (fun hc => ?_) (fun hc => ?_)
      · have hf := jbT hf hc
        cases hf
        obtain rfl := jbR_r hr
        exact hk _ _ _ hP hD hS (lv_sub hl [0, 1, 2] rfl)
      · have hf := jbF hf hc
        refine lv_aload_n hx hb dL_areLinesRight_11 rfl (lv_at hl 0 rfl) ?_
        refine lv_iload_n hx hb dL_areLinesRight_12 rfl (lv_at hl 3 rfl) ?_
        obtain ⟨o3, g4, hf⟩ := jbB_e hf
        rcases o3 with x9 | o3
        · have hf := jbM_l hf
          cases hf
        have hf := jbM_r hf
        refine cpv_i (As := [.int x3]) (rest := []) (Wr := []) (Wn := (wT g ha tv ++ wQ g (ha 1) qv ++ wO g (ha 6) (o3.2))) ⟨hx, hb, hml, hown, hts⟩ (cn_X10_writeRow l hlt g ha tv qv ov x3 _ (show f_X10_writeRow tv qv ov x3 = some (.inr o3) from g4)) (cwV 1 hts gL_areLinesRight_X10_writeRow rfl rfl rfl hd_X10_writeRow ⟨(Nat.le_of_ble_eq_true rfl), (Nat.le_of_ble_eq_true rfl)⟩) hK hZ hT hA hP hD hS hl.1 (va_recv hK hP (ci := 9) (q0 := 0) rfl rfl) (wp_of fun f => by simp only [List.countP_append, List.countP_cons, List.countP_nil] <;> omega) (wp_of fun f => by simp only [List.countP_append, List.countP_cons, List.countP_nil] <;> omega) rfl rfl (Nat.le_of_ble_eq_true rfl) ⟨(Nat.le_of_ble_eq_true rfl), (Nat.le_of_ble_eq_true rfl)⟩ dL_areLinesRight_13 (fun H locs hP hD hS => ?_)
        refine lv_topi (fun z5 ez5 => ?_)
        have hf := jbN_e hf ez5
        refine lv_istore (lv' := [(4, .int z5), (0, .ref (ha 0 0)), (1, .int x1), (2, .int x2), (3, .int x3)]) hx hb dL_areLinesRight_16 hl (by decide) rfl (fun ls hl => ?_)
        refine lv_iconst (v := 0) hx hb dL_areLinesRight_18 (by decide) ?_
        refine lv_istore (lv' := [(5, .int 0), (4, .int z5), (0, .ref (ha 0 0)), (1, .int x1), (2, .int x2), (3, .int x3)]) hx hb dL_areLinesRight_19 hl (by decide) rfl (fun ls hl => ?_)
        refine lv_iconst (v := 0) hx hb dL_areLinesRight_21 (by decide) ?_
        refine lv_istore (lv' := [(6, .int 0), (5, .int 0), (4, .int z5), (0, .ref (ha 0 0)), (1, .int x1), (2, .int x2), (3, .int x3)]) hx hb dL_areLinesRight_22 hl (by decide) rfl (fun ls hl => ?_)
        obtain ⟨o24, hg, hf⟩ := jbB_e hf
        refine hL24 (o3.2) x3 z5 _ x1 x2 0 0 _ _ _ _ hg hP hD hS (lv_sub hl [3, 4, 5, 6, 2, 1, 0] rfl) (fun H locs ls hP hD hS hl => ?_)
        refine lv_iload_n hx hb dL_areLinesRight_236 rfl (lv_at hl 1 rfl) ?_
        refine lv_if_eq (tgt := 251) hx hb dL_areLinesRight_237 (by decide) (fun hc => ?_) (fun hc => ?_)
        · have hf := jbT hf hc
          exact hJ251 (o3.2) (o24.2.1) x3 _ _ _ _ hf hr hP hD hS (lv_sub hl [0, 2, 3] rfl)
        · have hf := jbF hf hc
          refine lv_iload hx hb dL_areLinesRight_240 (lv_at hl 5 rfl) ?_
          refine lv_iload hx hb dL_areLinesRight_242 (lv_at hl 4 rfl) ?_
          refine lv_icmp_ne (tgt := 251) hx hb dL_areLinesRight_244 (by decide) (fun hc => ?_) (fun hc => ?_)
          · have hf := jbF hf hc
            exact hJ251 (o3.2) (o24.2.1) x3 _ _ _ _ hf hr hP hD hS (lv_sub hl [0, 2, 3] rfl)
          · have hf := jbT hf hc
            refine lv_iconst (v := 1) hx hb dL_areLinesRight_247 (by decide) ?_
            refine lv_goto (tgt := 252) hx hb dL_areLinesRight_248 (by decide) ?_
            exact hJ252 (o3.2) (o24.2.1) x3 1 _ _ _ _ hf hr hP hD hS (lv_sub hl [0, 2, 3] rfl)
  refine lv_iconst (v := 1) hx hb dL_areLinesRight_0 (by decide) ?_
  refine lv_istore_n (lv' := [(1, .int 1), (0, .ref (ha 0 0))]) hx hb dL_areLinesRight_1 rfl hl (by decide) rfl (fun ls hl => ?_)
  refine lv_iconst (v := 0) hx hb dL_areLinesRight_2 (by decide) ?_
  refine lv_istore_n (lv' := [(2, .int 0), (1, .int 1), (0, .ref (ha 0 0))]) hx hb dL_areLinesRight_3 rfl hl (by decide) rfl (fun ls hl => ?_)
  refine lv_iconst (v := 0) hx hb dL_areLinesRight_4 (by decide) ?_
  refine lv_istore_n (lv' := [(3, .int 0), (2, .int 0), (1, .int 1), (0, .ref (ha 0 0))]) hx hb dL_areLinesRight_5 rfl hl (by decide) rfl (fun ls hl => ?_)
  obtain ⟨o6, hg, hf⟩ := jbB_e hf
  refine hL6 _ 1 0 0 ov _ _ _ _ hg hP hD hS (lv_sub hl [3, 2, 1, 0] rfl) (fun H locs ls hP hD hS hl => ?_)
  refine lv_iload_n hx hb dL_areLinesRight_259 rfl (lv_at hl 1 rfl) ?_
  refine lv_if_eq (tgt := 275) hx hb dL_areLinesRight_260 (by decide) (fun hc => ?_) (fun hc => ?_)
  · have hf := jbT hf hc
    refine lv_iconst (v := 0) hx hb dL_areLinesRight_275 (by decide) ?_
    cases hf
    subst hQ
    exact rt_i hx hb hrt hlk nar_0 hK hP hD hS (Nat.le_of_ble_eq_true rfl) (Nat.le_of_ble_eq_true rfl) dL_areLinesRight_276
  · have hf := jbF hf hc
    refine lv_iload_n hx hb dL_areLinesRight_263 rfl (lv_at hl 2 rfl) ?_
    refine lv_aload_n hx hb dL_areLinesRight_264 rfl (lv_at hl 0 rfl) ?_
    obtain ⟨o1, g2, hf⟩ := jbB_e hf
    refine cpv_i (As := []) (rest := [.int (o6.2.1)]) (Wr := (wO g (ha 6) (o6.2.2.2))) (Wn := (wT g ha tv ++ wQ g (ha 1) qv ++ wO g (ha 6) (o6.2.2.2))) ⟨hx, hb, hml, hown, hts⟩ (c_X10_winchCount l hlt g ha tv qv _ (show f_X10_winchCount tv qv = some o1 from g2)) (cwV 0 hts gL_areLinesRight_X10_winchCount rfl rfl rfl hd_X10_winchCount ⟨(Nat.le_of_ble_eq_true rfl), (Nat.le_of_ble_eq_true rfl)⟩) hK hZ hT hA hP hD hS hl.1 (va_recv hK hP (ci := 9) (q0 := 0) rfl rfl) (wp_of fun f => by simp only [List.countP_append, List.countP_cons, List.countP_nil] <;> omega) (wp_of fun f => by simp only [List.countP_append, List.countP_cons, List.countP_nil] <;> omega) rfl rfl (Nat.le_of_ble_eq_true rfl) ⟨(Nat.le_of_ble_eq_true rfl), (Nat.le_of_ble_eq_true rfl)⟩ dL_areLinesRight_265 (fun H locs hP hD hS => ?_)
    refine lv_icmp_ne (tgt := 275) hx hb dL_areLinesRight_268 (by decide) (fun hc => ?_) (fun hc => ?_)
    · have hf := jbF hf hc
      refine lv_iconst (v := 0) hx hb dL_areLinesRight_275 (by decide) ?_
      cases hf
      subst hQ
      exact rt_i hx hb hrt hlk nar_0 hK hP hD hS (Nat.le_of_ble_eq_true rfl) (Nat.le_of_ble_eq_true rfl) dL_areLinesRight_276
    · have hf := jbT hf hc
      refine lv_iconst (v := 1) hx hb dL_areLinesRight_271 (by decide) ?_
      refine lv_goto (tgt := 276) hx hb dL_areLinesRight_272 (by decide) ?_
      cases hf
      subst hQ
      exact rt_i hx hb hrt hlk nar_1 hK hP hD hS (Nat.le_of_ble_eq_true rfl) (Nat.le_of_ble_eq_true rfl) dL_areLinesRight_276
