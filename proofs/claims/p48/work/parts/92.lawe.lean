def rm_L_looks : Room := { frames := 12, cells := 186, slots := 1116, locals := 216 }
theorem hd_L_looks : yL_looks.cls ≠ "java/lang/invoke/MethodHandle" ∧ yL_looks.cls ≠ "java/lang/invoke/VarHandle" ∧ (parseMethodDescriptor yL_looks.desc).map (fun d => d.parameters.length) = some 1 := by decide +kernel
set_option maxHeartbeats 4000000 in
set_option maxRecDepth 100000 in
theorem c_L_looks (l : Launch) (hlt : l.stackTraces = false) (g : GG) (ha : Nat → Nat → Nat) (tv : TV) (qv : QV) (sv : SV) (ov : OV)  (out : Int32 × SV × OV) (hf : f_L_looks qv sv ov = some out) : MtI l yL_looks wsL_looks rm_L_looks g (wT g ha tv ++ wQ g (ha 1) qv ++ wS g (ha 3) sv ++ wO g (ha 6) ov) [.ref (ha 0 0)] (out.1) (wT g ha tv ++ wQ g (ha 1) qv ++ wS g (ha 3) (out.2.1) ++ wO g (ha 6) (out.2.2)) 186 1116 := by
  refine fun sz => mt_of (cc := cL_looks) (maxL := 5) (ret := (some .int)) (own := RL) (Qc := fun A => va_Qi (fun r (_ : Unit) => r = (out.1)) (fun _ t => PosM g A (wT g ha tv ++ wQ g (ha 1) qv ++ wS g (ha 3) (out.2.1) ++ wO g (ha 6) (out.2.2)) t) A) (by decide +kernel) rfl rfl (Nat.le_of_ble_eq_true rfl) ?_ sz
  intro p e s mi below meth c A ls hB hnm hrt hlk hP hD hl
  obtain ⟨hx, hb, hml, hown, hts, hK, hZ, hT, hA, -⟩ := hB
  have hS : va_S A s.heap s.heap [] := va_S.rf
  have hl : lv_has ls 5 [(0, .ref (ha 0 0))] := hl
  generalize hQ : MQ below _ _ _ _ _ _ = Q
  unfold f_L_looks at hf
  have hL188 : ∀ (sv : SV) (n188 : Nat) (x1 : Int32) (x2 : Int32) (ov : OV) (H : Heap) (locs : List Loc) (ls : Array Slot) (o188 : Int32 × Int32 × OV), jbL (fun s => f_L_looks_L188 qv sv (s.1) (s.2.1) (s.2.2)) n188 (x1, x2, ov) = some o188 → va_P (gD g) vwCl (wT g ha tv ++ wQ g (ha 1) qv ++ wS g (ha 3) sv ++ wO g (ha 6) ov) H → va_D A (wT g ha tv ++ wQ g (ha 1) qv ++ wS g (ha 3) sv ++ wO g (ha 6) ov) → va_S A s.heap H locs → lv_has ls 5 [(0, .ref (ha 0 0)), (1, .int x1), (2, .int x2)] → (∀ (H : Heap) (locs : List Loc) (ls : Array Slot), va_P (gD g) vwCl (wT g ha tv ++ wQ g (ha 1) qv ++ wS g (ha 3) sv ++ wO g (ha 6) (o188.2.2)) H → va_D A (wT g ha tv ++ wQ g (ha 1) qv ++ wS g (ha 3) sv ++ wO g (ha 6) (o188.2.2)) → va_S A s.heap H locs → lv_has ls 5 [(1, .int (o188.1))] → W p l e rm_L_looks s mi [.ref (ha 0 0)].toArray below meth c H locs (186) (1116) Q (F0 mi 232 ls [])) → W p l e rm_L_looks s mi [.ref (ha 0 0)].toArray below meth c H locs (186) (1116) Q (F0 mi 188 ls []) := by
    intro sv n188
    induction n188 with
    | zero => intro x1 x2 ov H locs ls o188 hf; exact absurd hf (jbL_0 _ _ _)
    | succ n188 ih =>
      intro x1 x2 ov H locs ls o188 hf hP hD hS hl hk
      obtain ⟨r, hf, hr⟩ := jbL_e hf
      have hf : f_L_looks_L188 qv sv x1 x2 ov = some r := hf
      unfold f_L_looks_L188 at hf
      have hL202 : ∀ (sv : SV) (ov : OV) (x2 : Int32) (x3 : Int32) (n202 : Nat) (x1 : Int32) (x4 : Int32) (H : Heap) (locs : List Loc) (ls : Array Slot) (o202 : Int32 × Int32), jbL (fun s => f_L_looks_L202 qv sv ov x2 x3 (s.1) (s.2)) n202 (x1, x4) = some o202 → va_P (gD g) vwCl (wT g ha tv ++ wQ g (ha 1) qv ++ wS g (ha 3) sv ++ wO g (ha 6) ov) H → va_D A (wT g ha tv ++ wQ g (ha 1) qv ++ wS g (ha 3) sv ++ wO g (ha 6) ov) → va_S A s.heap H locs → lv_has ls 5 [(0, .ref (ha 0 0)), (1, .int x1), (2, .int x2), (3, .int x3), (4, .int x4)] → (∀ (H : Heap) (locs : List Loc) (ls : Array Slot), va_P (gD g) vwCl (wT g ha tv ++ wQ g (ha 1) qv ++ wS g (ha 3) sv ++ wO g (ha 6) ov) H → va_D A (wT g ha tv ++ wQ g (ha 1) qv ++ wS g (ha 3) sv ++ wO g (ha 6) ov) → va_S A s.heap H locs → lv_has ls 5 [(0, .ref (ha 0 0)), (1, .int (o202.1)), (2, .int x2)] → W p l e rm_L_looks s mi [.ref (ha 0 0)].toArray below meth c H locs (186) (1116) Q (F0 mi 226 ls [])) → W p l e rm_L_looks s mi [.ref (ha 0 0)].toArray below meth c H locs (186) (1116) Q (F0 mi 202 ls []) := by
        intro sv ov x2 x3 n202
        induction n202 with
        | zero => intro x1 x4 H locs ls o202 hf; exact absurd hf (jbL_0 _ _ _)
        | succ n202 ih =>
          intro x1 x4 H locs ls o202 hf hP hD hS hl hk
          obtain ⟨r, hf, hr⟩ := jbL_e hf
          have hf : f_L_looks_L202 qv sv ov x2 x3 x1 x4 = some r := hf
          unfold f_L_looks_L202 at hf
          refine lv_iload hx hb dL_looks_202 (lv_at hl 4 rfl) ?_
          refine lv_iload_n hx hb dL_looks_204 rfl (lv_at hl 3 rfl) ?_
          refine lv_icmp_ge (tgt := 226) hx hb dL_looks_205 (by decide) (fun hc => ?_) (fun hc => ?_)
          · have hf := jbT hf hc
            cases hf
            obtain rfl := jbR_r hr
            exact hk _ _ _ hP hD hS (lv_sub hl [0, 1, 2] rfl)
          · have hf := jbF hf hc
            refine lv_bipush (v := 31) hx hb dL_looks_208 (by decide) ?_
            refine lv_iload_n hx hb dL_looks_210 rfl (lv_at hl 1 rfl) ?_
            refine lv_imul hx hb dL_looks_211 ?_
            refine lv_aload_n hx hb dL_looks_212 rfl (lv_at hl 0 rfl) ?_
            refine lv_iload hx hb dL_looks_213 (lv_at hl 4 rfl) ?_
            obtain ⟨o34, g35, hf⟩ := jbB_e hf
            rcases o34 with x9 | o34
            · have hf := jbM_l hf
              cases hf
            have hf := jbM_r hf
            refine cpv_i (As := [.int x4]) (rest := [.int (31 * x1)]) (Wr := (wQ g (ha 1) qv ++ wS g (ha 3) sv)) (Wn := (wT g ha tv ++ wQ g (ha 1) qv ++ wS g (ha 3) sv ++ wO g (ha 6) ov)) ⟨hx, hb, hml, hown, hts⟩ (cn_X10_outputAt l hlt g ha tv ov x4 _ (show f_X10_outputAt tv ov x4 = some (.inr o34) from g35)) (cwV 1 hts gL_looks_X10_outputAt rfl rfl rfl hd_X10_outputAt ⟨(Nat.le_of_ble_eq_true rfl), (Nat.le_of_ble_eq_true rfl)⟩) hK hZ hT hA hP hD hS hl.1 (va_recv hK hP (ci := 9) (q0 := 0) rfl rfl) (wp_of fun f => by simp only [List.countP_append, List.countP_cons, List.countP_nil] <;> omega) (wp_of fun f => by simp only [List.countP_append, List.countP_cons, List.countP_nil] <;> omega) rfl rfl (Nat.le_of_ble_eq_true rfl) ⟨(Nat.le_of_ble_eq_true rfl), (Nat.le_of_ble_eq_true rfl)⟩ dL_looks_215 (fun H locs hP hD hS => ?_)
            refine lv_iadd hx hb dL_looks_218 ?_
            refine lv_topi (fun z36 ez36 => ?_)
            have hf := jbN_e hf ez36
            refine lv_istore_n (lv' := [(1, .int z36), (0, .ref (ha 0 0)), (2, .int x2), (3, .int x3), (4, .int x4)]) hx hb dL_looks_219 rfl hl (by decide) rfl (fun ls hl => ?_)
            refine lv_iinc (v := (x4 + 1)) (lv' := [(4, .int (x4 + 1)), (1, .int z36), (0, .ref (ha 0 0)), (2, .int x2), (3, .int x3)]) hx hb dL_looks_220 hl (k := 4) rfl rfl (by decide) rfl (fun ls hl => ?_)
            refine lv_goto (tgt := 202) hx hb dL_looks_223 (by decide) ?_
            cases hf
            exact ih z36 (x4 + 1) _ _ _ _ hr hP hD hS (lv_sub hl [2, 1, 3, 4, 0] rfl) hk
      refine lv_iload_n hx hb dL_looks_188 rfl (lv_at hl 2 rfl) ?_
      refine lv_iconst (v := 5) hx hb dL_looks_189 (by decide) ?_
      refine lv_icmp_ge (tgt := 232) hx hb dL_looks_190 (by decide) (fun hc => ?_) (fun hc => ?_)
      · have hf := jbT hf hc
        cases hf
        obtain rfl := jbR_r hr
        exact hk _ _ _ hP hD hS (lv_sub hl [1] rfl)
      · have hf := jbF hf hc
        refine lv_aload_n hx hb dL_looks_193 rfl (lv_at hl 0 rfl) ?_
        refine lv_iload_n hx hb dL_looks_194 rfl (lv_at hl 2 rfl) ?_
        obtain ⟨o31, g32, hf⟩ := jbB_e hf
        rcases o31 with x9 | o31
        · have hf := jbM_l hf
          cases hf
        have hf := jbM_r hf
        refine cpv_i (As := [.int x2]) (rest := []) (Wr := (wS g (ha 3) sv)) (Wn := (wT g ha tv ++ wQ g (ha 1) qv ++ wS g (ha 3) sv ++ wO g (ha 6) (o31.2))) ⟨hx, hb, hml, hown, hts⟩ (cn_X10_writeRow l hlt g ha tv qv ov x2 _ (show f_X10_writeRow tv qv ov x2 = some (.inr o31) from g32)) (cwV 1 hts gL_looks_X10_writeRow rfl rfl rfl hd_X10_writeRow ⟨(Nat.le_of_ble_eq_true rfl), (Nat.le_of_ble_eq_true rfl)⟩) hK hZ hT hA hP hD hS hl.1 (va_recv hK hP (ci := 9) (q0 := 0) rfl rfl) (wp_of fun f => by simp only [List.countP_append, List.countP_cons, List.countP_nil] <;> omega) (wp_of fun f => by simp only [List.countP_append, List.countP_cons, List.countP_nil] <;> omega) rfl rfl (Nat.le_of_ble_eq_true rfl) ⟨(Nat.le_of_ble_eq_true rfl), (Nat.le_of_ble_eq_true rfl)⟩ dL_looks_195 (fun H locs hP hD hS => ?_)
        refine lv_topi (fun z33 ez33 => ?_)
        have hf := jbN_e hf ez33
        refine lv_istore_n (lv' := [(3, .int z33), (0, .ref (ha 0 0)), (1, .int x1), (2, .int x2)]) hx hb dL_looks_198 rfl hl (by decide) rfl (fun ls hl => ?_)
        refine lv_iconst (v := 0) hx hb dL_looks_199 (by decide) ?_
        refine lv_istore (lv' := [(4, .int 0), (3, .int z33), (0, .ref (ha 0 0)), (1, .int x1), (2, .int x2)]) hx hb dL_looks_200 hl (by decide) rfl (fun ls hl => ?_)
        obtain ⟨o202, hg, hf⟩ := jbB_e hf
        refine hL202 sv (o31.2) x2 z33 _ x1 0 _ _ _ _ hg hP hD hS (lv_sub hl [2, 3, 4, 1, 0] rfl) (fun H locs ls hP hD hS hl => ?_)
        refine lv_iinc (v := (x2 + 1)) (lv' := [(2, .int (x2 + 1)), (0, .ref (ha 0 0)), (1, .int (o202.1))]) hx hb dL_looks_226 hl (k := 2) rfl rfl (by decide) rfl (fun ls hl => ?_)
        refine lv_goto (tgt := 188) hx hb dL_looks_229 (by decide) ?_
        cases hf
        exact ih (o202.1) (x2 + 1) (o31.2) _ _ _ _ hr hP hD hS (lv_sub hl [1, 2, 0] rfl) hk
  have hL164 : ∀ (sv : SV) (ov : OV) (n164 : Nat) (x1 : Int32) (x2 : Int32) (H : Heap) (locs : List Loc) (ls : Array Slot) (o164 : Int32 × Int32), jbL (fun s => f_L_looks_L164 qv sv ov (s.1) (s.2)) n164 (x1, x2) = some o164 → va_P (gD g) vwCl (wT g ha tv ++ wQ g (ha 1) qv ++ wS g (ha 3) sv ++ wO g (ha 6) ov) H → va_D A (wT g ha tv ++ wQ g (ha 1) qv ++ wS g (ha 3) sv ++ wO g (ha 6) ov) → va_S A s.heap H locs → lv_has ls 5 [(0, .ref (ha 0 0)), (1, .int x1), (2, .int x2)] → (∀ (H : Heap) (locs : List Loc) (ls : Array Slot), va_P (gD g) vwCl (wT g ha tv ++ wQ g (ha 1) qv ++ wS g (ha 3) sv ++ wO g (ha 6) ov) H → va_D A (wT g ha tv ++ wQ g (ha 1) qv ++ wS g (ha 3) sv ++ wO g (ha 6) ov) → va_S A s.heap H locs → lv_has ls 5 [(0, .ref (ha 0 0)), (1, .int (o164.1))] → W p l e rm_L_looks s mi [.ref (ha 0 0)].toArray below meth c H locs (186) (1116) Q (F0 mi 186 ls [])) → W p l e rm_L_looks s mi [.ref (ha 0 0)].toArray below meth c H locs (186) (1116) Q (F0 mi 164 ls []) := by
    intro sv ov n164
    induction n164 with
    | zero => intro x1 x2 H locs ls o164 hf; exact absurd hf (jbL_0 _ _ _)
    | succ n164 ih =>
      intro x1 x2 H locs ls o164 hf hP hD hS hl hk
      obtain ⟨r, hf, hr⟩ := jbL_e hf
      have hf : f_L_looks_L164 qv sv ov x1 x2 = some r := hf
      unfold f_L_looks_L164 at hf
      refine lv_iload_n hx hb dL_looks_164 rfl (lv_at hl 2 rfl) ?_
      refine lv_iconst (v := 4) hx hb dL_looks_165 (by decide) ?_
      refine lv_icmp_ge (tgt := 186) hx hb dL_looks_166 (by decide) (fun hc => ?_) (fun hc => ?_)
      · have hf := jbT hf hc
        cases hf
        obtain rfl := jbR_r hr
        exact hk _ _ _ hP hD hS (lv_sub hl [0, 1] rfl)
      · have hf := jbF hf hc
        refine lv_bipush (v := 31) hx hb dL_looks_169 (by decide) ?_
        refine lv_iload_n hx hb dL_looks_171 rfl (lv_at hl 1 rfl) ?_
        refine lv_imul hx hb dL_looks_172 ?_
        refine lv_aload_n hx hb dL_looks_173 rfl (lv_at hl 0 rfl) ?_
        refine lv_iload_n hx hb dL_looks_174 rfl (lv_at hl 2 rfl) ?_
        obtain ⟨o28, g29, hf⟩ := jbB_e hf
        rcases o28 with x9 | o28
        · have hf := jbM_l hf
          cases hf
        have hf := jbM_r hf
        refine cpv_i (As := [.int x2]) (rest := [.int (31 * x1)]) (Wr := (wS g (ha 3) sv ++ wO g (ha 6) ov)) (Wn := (wT g ha tv ++ wQ g (ha 1) qv ++ wS g (ha 3) sv ++ wO g (ha 6) ov)) ⟨hx, hb, hml, hown, hts⟩ (cn_X10_inYard l hlt g ha tv qv x2 _ (show f_X10_inYard tv qv x2 = some (.inr o28) from g29)) (cwV 1 hts gL_looks_X10_inYard rfl rfl rfl hd_X10_inYard ⟨(Nat.le_of_ble_eq_true rfl), (Nat.le_of_ble_eq_true rfl)⟩) hK hZ hT hA hP hD hS hl.1 (va_recv hK hP (ci := 9) (q0 := 0) rfl rfl) (wp_of fun f => by simp only [List.countP_append, List.countP_cons, List.countP_nil] <;> omega) (wp_of fun f => by simp only [List.countP_append, List.countP_cons, List.countP_nil] <;> omega) rfl rfl (Nat.le_of_ble_eq_true rfl) ⟨(Nat.le_of_ble_eq_true rfl), (Nat.le_of_ble_eq_true rfl)⟩ dL_looks_175 (fun H locs hP hD hS => ?_)
        refine lv_iadd hx hb dL_looks_178 ?_
        refine lv_topi (fun z30 ez30 => ?_)
        have hf := jbN_e hf ez30
        refine lv_istore_n (lv' := [(1, .int z30), (0, .ref (ha 0 0)), (2, .int x2)]) hx hb dL_looks_179 rfl hl (by decide) rfl (fun ls hl => ?_)
        refine lv_iinc (v := (x2 + 1)) (lv' := [(2, .int (x2 + 1)), (1, .int z30), (0, .ref (ha 0 0))]) hx hb dL_looks_180 hl (k := 2) rfl rfl (by decide) rfl (fun ls hl => ?_)
        refine lv_goto (tgt := 164) hx hb dL_looks_183 (by decide) ?_
        cases hf
        exact ih z30 (x2 + 1) _ _ _ _ hr hP hD hS (lv_sub hl [2, 1, 0] rfl) hk
  have hL40 : ∀ (ov : OV) (n40 : Nat) (cc40 sc40 : Nat) (x1 : Int32) (x2 : Int32) (sv : SV) (H : Heap) (locs : List Loc) (ls : Array Slot) (o40 : Int32 × Int32 × SV), cc40 + 6 * n40 ≤ 186 → sc40 + 36 * n40 ≤ 1116 → jbL (fun s => f_L_looks_L40 qv ov (s.1) (s.2.1) (s.2.2)) n40 (x1, x2, sv) = some o40 → va_P (gD g) vwCl (wT g ha tv ++ wQ g (ha 1) qv ++ wS g (ha 3) sv ++ wO g (ha 6) ov) H → va_D A (wT g ha tv ++ wQ g (ha 1) qv ++ wS g (ha 3) sv ++ wO g (ha 6) ov) → va_S A s.heap H locs → lv_has ls 5 [(0, .ref (ha 0 0)), (1, .int x1), (2, .int x2)] → (∀ (H : Heap) (locs : List Loc) (ls : Array Slot), va_P (gD g) vwCl (wT g ha tv ++ wQ g (ha 1) qv ++ wS g (ha 3) (o40.2.2) ++ wO g (ha 6) ov) H → va_D A (wT g ha tv ++ wQ g (ha 1) qv ++ wS g (ha 3) (o40.2.2) ++ wO g (ha 6) ov) → va_S A s.heap H locs → lv_has ls 5 [(0, .ref (ha 0 0)), (1, .int (o40.1))] → W p l e rm_L_looks s mi [.ref (ha 0 0)].toArray below meth c H locs (186) (1116) Q (F0 mi 162 ls [])) → W p l e rm_L_looks s mi [.ref (ha 0 0)].toArray below meth c H locs (cc40) (sc40) Q (F0 mi 40 ls []) := by
    intro ov n40
    induction n40 with
    | zero => intro cc40 sc40 x1 x2 sv H locs ls o40 hcc40 hsc40 hf; exact absurd hf (jbL_0 _ _ _)
    | succ n40 ih =>
      intro cc40 sc40 x1 x2 sv H locs ls o40 hcc40 hsc40 hf hP hD hS hl hk
      obtain ⟨r, hf, hr⟩ := jbL_e hf
      have hf : f_L_looks_L40 qv ov x1 x2 sv = some r := hf
      unfold f_L_looks_L40 at hf
      refine lv_iload_n hx hb dL_looks_40 rfl (lv_at hl 2 rfl) ?_
      refine lv_bipush (v := 30) hx hb dL_looks_41 (by decide) ?_
      refine lv_icmp_ge (tgt := 162) hx hb dL_looks_43 (by decide) (fun hc => ?_) (fun hc => ?_)
      · have hf := jbT hf hc
        cases hf
        obtain rfl := jbR_r hr
        refine W.widen (k := 186) (n := 1116) (by omega) (by omega) ?_
        exact hk _ _ _ hP hD hS (lv_sub hl [0, 1] rfl)
      · have hf := jbF hf hc
        refine lv_bipush (v := 31) hx hb dL_looks_46 (by decide) ?_
        refine lv_bipush (v := 31) hx hb dL_looks_48 (by decide) ?_
        refine lv_bipush (v := 31) hx hb dL_looks_50 (by decide) ?_
        refine lv_iload_n hx hb dL_looks_52 rfl (lv_at hl 1 rfl) ?_
        refine lv_imul hx hb dL_looks_53 ?_
        refine lv_aload_n hx hb dL_looks_54 rfl (lv_at hl 0 rfl) ?_
        refine lv_iload_n hx hb dL_looks_55 rfl (lv_at hl 2 rfl) ?_
        refine lv_bipush (v := 6) hx hb dL_looks_56 (by decide) ?_
        refine lv_idiv hx hb dL_looks_58 (by decide) ?_
        refine lv_iload_n hx hb dL_looks_59 rfl (lv_at hl 2 rfl) ?_
        refine lv_bipush (v := 6) hx hb dL_looks_60 (by decide) ?_
        refine lv_irem hx hb dL_looks_62 (by decide) ?_
        obtain ⟨o12, g13, hf⟩ := jbB_e hf
        rcases o12 with x9 | o12
        · have hf := jbM_l hf
          cases hf
        have hf := jbM_r hf
        refine cpv_i (As := [.int (x2 / 6), .int (x2 - x2 / 6 * 6)]) (rest := [.int (31 * x1), .int 31, .int 31]) (Wr := (wS g (ha 3) sv ++ wO g (ha 6) ov)) (Wn := (wT g ha tv ++ wQ g (ha 1) qv ++ wS g (ha 3) sv ++ wO g (ha 6) ov)) ⟨hx, hb, hml, hown, hts⟩ (cn_X10_height l hlt g ha tv qv (x2 / 6) (x2 - x2 / 6 * 6) _ (show f_X10_height tv qv (x2 / 6) (x2 - x2 / 6 * 6) = some (.inr o12) from g13)) (cwV 2 hts gL_looks_X10_height rfl rfl rfl hd_X10_height ⟨(Nat.le_of_ble_eq_true rfl), (Nat.le_of_ble_eq_true rfl)⟩) hK hZ hT hA hP hD hS hl.1 (va_recv hK hP (ci := 9) (q0 := 0) rfl rfl) (wp_of fun f => by simp only [List.countP_append, List.countP_cons, List.countP_nil] <;> omega) (wp_of fun f => by simp only [List.countP_append, List.countP_cons, List.countP_nil] <;> omega) rfl rfl (Nat.le_of_ble_eq_true rfl) ⟨(show cc40 + 0 ≤ 186 by omega), (show sc40 + 0 ≤ 1116 by omega)⟩ dL_looks_63 (fun H locs hP hD hS => ?_)
        refine lv_iadd hx hb dL_looks_66 ?_
        refine lv_imul hx hb dL_looks_67 ?_
        refine lv_aload_n hx hb dL_looks_68 rfl (lv_at hl 0 rfl) ?_
        refine lv_iload_n hx hb dL_looks_69 rfl (lv_at hl 2 rfl) ?_
        refine lv_bipush (v := 6) hx hb dL_looks_70 (by decide) ?_
        refine lv_idiv hx hb dL_looks_72 (by decide) ?_
        refine lv_iload_n hx hb dL_looks_73 rfl (lv_at hl 2 rfl) ?_
        refine lv_bipush (v := 6) hx hb dL_looks_74 (by decide) ?_
        refine lv_irem hx hb dL_looks_76 (by decide) ?_
        obtain ⟨o14, g15, hf⟩ := jbB_e hf
        rcases o14 with x9 | o14
        · have hf := jbM_l hf
          cases hf
        have hf := jbM_r hf
        refine cpv_i (As := [.int (x2 / 6), .int (x2 - x2 / 6 * 6)]) (rest := [.int (31 * ((31 * x1) + o12)), .int 31]) (Wr := (wS g (ha 3) sv ++ wO g (ha 6) ov)) (Wn := (wT g ha tv ++ wQ g (ha 1) qv ++ wS g (ha 3) sv ++ wO g (ha 6) ov)) ⟨hx, hb, hml, hown, hts⟩ (cn_X10_stone l hlt g ha tv qv (x2 / 6) (x2 - x2 / 6 * 6) _ (show f_X10_stone tv qv (x2 / 6) (x2 - x2 / 6 * 6) = some (.inr o14) from g15)) (cwV 2 hts gL_looks_X10_stone rfl rfl rfl hd_X10_stone ⟨(Nat.le_of_ble_eq_true rfl), (Nat.le_of_ble_eq_true rfl)⟩) hK hZ hT hA hP hD hS hl.1 (va_recv hK hP (ci := 9) (q0 := 0) rfl rfl) (wp_of fun f => by simp only [List.countP_append, List.countP_cons, List.countP_nil] <;> omega) (wp_of fun f => by simp only [List.countP_append, List.countP_cons, List.countP_nil] <;> omega) rfl rfl (Nat.le_of_ble_eq_true rfl) ⟨(show cc40 + 0 ≤ 186 by omega), (show sc40 + 0 ≤ 1116 by omega)⟩ dL_looks_77 (fun H locs hP hD hS => ?_)
        refine lv_iadd hx hb dL_looks_80 ?_
        refine lv_imul hx hb dL_looks_81 ?_
        refine lv_aload_n hx hb dL_looks_82 rfl (lv_at hl 0 rfl) ?_
        refine lv_iload_n hx hb dL_looks_83 rfl (lv_at hl 2 rfl) ?_
        refine lv_bipush (v := 6) hx hb dL_looks_84 (by decide) ?_
        refine lv_idiv hx hb dL_looks_86 (by decide) ?_
        refine lv_iload_n hx hb dL_looks_87 rfl (lv_at hl 2 rfl) ?_
        refine lv_bipush (v := 6) hx hb dL_looks_88 (by decide) ?_
        refine lv_irem hx hb dL_looks_90 (by decide) ?_
        obtain ⟨o16, g17, hf⟩ := jbB_e hf
        rcases o16 with x9 | o16
        · have hf := jbM_l hf
          cases hf
        have hf := jbM_r hf
        refine cpv_i (As := [.int (x2 / 6), .int (x2 - x2 / 6 * 6)]) (rest := [.int (31 * ((31 * ((31 * x1) + o12)) + o14))]) (Wr := (wS g (ha 3) sv ++ wO g (ha 6) ov)) (Wn := (wT g ha tv ++ wQ g (ha 1) qv ++ wS g (ha 3) sv ++ wO g (ha 6) ov)) ⟨hx, hb, hml, hown, hts⟩ (cn_X10_isLedge l hlt g ha tv qv (x2 / 6) (x2 - x2 / 6 * 6) _ (show f_X10_isLedge tv qv (x2 / 6) (x2 - x2 / 6 * 6) = some (.inr o16) from g17)) (cwV 2 hts gL_looks_X10_isLedge rfl rfl rfl hd_X10_isLedge ⟨(Nat.le_of_ble_eq_true rfl), (Nat.le_of_ble_eq_true rfl)⟩) hK hZ hT hA hP hD hS hl.1 (va_recv hK hP (ci := 9) (q0 := 0) rfl rfl) (wp_of fun f => by simp only [List.countP_append, List.countP_cons, List.countP_nil] <;> omega) (wp_of fun f => by simp only [List.countP_append, List.countP_cons, List.countP_nil] <;> omega) rfl rfl (Nat.le_of_ble_eq_true rfl) ⟨(show cc40 + 0 ≤ 186 by omega), (show sc40 + 0 ≤ 1116 by omega)⟩ dL_looks_91 (fun H locs hP hD hS => ?_)
        obtain ⟨o18, g19, hf⟩ := jbB_e hf
        refine csn_i (As := [.int o16]) (rest := [.int (31 * ((31 * ((31 * x1) + o12)) + o14))]) ⟨hx, hb, hml, hown, hts⟩ (c_L_told l g o16 _ g19) (va_cwS 1 hts gL_looks_L_told rfl rfl rfl hd_L_told ⟨(Nat.le_of_ble_eq_true rfl), (Nat.le_of_ble_eq_true rfl)⟩) hK hZ hT hA hP hD hS hl.1 rfl rfl (Nat.le_of_ble_eq_true rfl) ⟨(show cc40 + 0 ≤ 186 by omega), (show sc40 + 0 ≤ 1116 by omega)⟩ dL_looks_94 (fun H locs hP hD hS => ?_)
        refine lv_iadd hx hb dL_looks_97 ?_
        refine lv_topi (fun z20 ez20 => ?_)
        have hf := jbN_e hf ez20
        refine lv_istore_n (lv' := [(1, .int z20), (0, .ref (ha 0 0)), (2, .int x2)]) hx hb dL_looks_98 rfl hl (by decide) rfl (fun ls hl => ?_)
        refine lv_bipush (v := 31) hx hb dL_looks_99 (by decide) ?_
        refine lv_bipush (v := 31) hx hb dL_looks_101 (by decide) ?_
        refine lv_bipush (v := 31) hx hb dL_looks_103 (by decide) ?_
        refine lv_iload_n hx hb dL_looks_105 rfl (lv_at hl 0 rfl) ?_
        refine lv_imul hx hb dL_looks_106 ?_
        refine lv_aload_n hx hb dL_looks_107 rfl (lv_at hl 1 rfl) ?_
        refine lv_iload_n hx hb dL_looks_108 rfl (lv_at hl 2 rfl) ?_
        refine lv_bipush (v := 6) hx hb dL_looks_109 (by decide) ?_
        refine lv_idiv hx hb dL_looks_111 (by decide) ?_
        refine lv_iload_n hx hb dL_looks_112 rfl (lv_at hl 2 rfl) ?_
        refine lv_bipush (v := 6) hx hb dL_looks_113 (by decide) ?_
        refine lv_irem hx hb dL_looks_115 (by decide) ?_
        obtain ⟨o21, g22, hf⟩ := jbB_e hf
        rcases o21 with x9 | o21
        · have hf := jbM_l hf
          cases hf
        have hf := jbM_r hf
        refine cpv_i (As := [.int (x2 / 6), .int (x2 - x2 / 6 * 6)]) (rest := [.int (31 * z20), .int 31, .int 31]) (Wr := (wS g (ha 3) sv ++ wO g (ha 6) ov)) (Wn := (wT g ha tv ++ wQ g (ha 1) qv ++ wS g (ha 3) sv ++ wO g (ha 6) ov)) ⟨hx, hb, hml, hown, hts⟩ (cn_X10_looseBlocks l hlt g ha tv qv (x2 / 6) (x2 - x2 / 6 * 6) _ (show f_X10_looseBlocks tv qv (x2 / 6) (x2 - x2 / 6 * 6) = some (.inr o21) from g22)) (cwV 2 hts gL_looks_X10_looseBlocks rfl rfl rfl hd_X10_looseBlocks ⟨(Nat.le_of_ble_eq_true rfl), (Nat.le_of_ble_eq_true rfl)⟩) hK hZ hT hA hP hD hS hl.1 (va_recv hK hP (ci := 9) (q0 := 0) rfl rfl) (wp_of fun f => by simp only [List.countP_append, List.countP_cons, List.countP_nil] <;> omega) (wp_of fun f => by simp only [List.countP_append, List.countP_cons, List.countP_nil] <;> omega) rfl rfl (Nat.le_of_ble_eq_true rfl) ⟨(show cc40 + 0 ≤ 186 by omega), (show sc40 + 0 ≤ 1116 by omega)⟩ dL_looks_116 (fun H locs hP hD hS => ?_)
        refine lv_iadd hx hb dL_looks_119 ?_
        refine lv_imul hx hb dL_looks_120 ?_
        refine lv_aload_n hx hb dL_looks_121 rfl (lv_at hl 1 rfl) ?_
        refine lv_iconst (v := 1) hx hb dL_looks_122 (by decide) ?_
        refine lv_iload_n hx hb dL_looks_123 rfl (lv_at hl 2 rfl) ?_
        refine lv_bipush (v := 6) hx hb dL_looks_124 (by decide) ?_
        refine lv_idiv hx hb dL_looks_126 (by decide) ?_
        refine lv_iload_n hx hb dL_looks_127 rfl (lv_at hl 2 rfl) ?_
        refine lv_bipush (v := 6) hx hb dL_looks_128 (by decide) ?_
        refine lv_irem hx hb dL_looks_130 (by decide) ?_
        refine lv_iconst (v := 0) hx hb dL_looks_131 (by decide) ?_
        refine lv_iconst (v := 0) hx hb dL_looks_132 (by decide) ?_
        obtain ⟨o23, g24, hf⟩ := jbB_e hf
        refine cws_i (As := [.ref (ha 0 0), .int 1, .int (x2 / 6), .int (x2 - x2 / 6 * 6), .int 0, .int 0]) (rest := [.int (31 * ((31 * z20) + o21)), .int 31]) (Wr := (wO g (ha 6) ov)) (Wn := (wT g ha tv ++ wQ g (ha 1) qv ++ wS g (ha 3) (o23.2) ++ wO g (ha 6) ov)) ⟨hx, hb, hml, hown, hts⟩ (c_L_ask l hlt g ha tv qv sv 1 (x2 / 6) (x2 - x2 / 6 * 6) 0 0 _ g24) (vx_cwSW 6 hts gL_looks_L_ask rfl rfl rfl hd_L_ask ⟨(Nat.le_of_ble_eq_true rfl), (Nat.le_of_ble_eq_true rfl)⟩) hK hZ hT hA hP hD hS hl.1 (wp_of fun f => by simp only [List.countP_append, List.countP_cons, List.countP_nil] <;> omega) (wp_of fun f => by simp only [List.countP_append, List.countP_cons, List.countP_nil] <;> omega) rfl rfl (Nat.le_of_ble_eq_true rfl) ⟨(show cc40 + 3 ≤ 186 by omega), (show sc40 + 18 ≤ 1116 by omega)⟩ dL_looks_133 (fun H locs hP hD hS => ?_)
        refine lv_iadd hx hb dL_looks_136 ?_
        refine lv_imul hx hb dL_looks_137 ?_
        refine lv_aload_n hx hb dL_looks_138 rfl (lv_at hl 1 rfl) ?_
        refine lv_bipush (v := 7) hx hb dL_looks_139 (by decide) ?_
        refine lv_iload_n hx hb dL_looks_141 rfl (lv_at hl 2 rfl) ?_
        refine lv_bipush (v := 6) hx hb dL_looks_142 (by decide) ?_
        refine lv_idiv hx hb dL_looks_144 (by decide) ?_
        refine lv_iload_n hx hb dL_looks_145 rfl (lv_at hl 2 rfl) ?_
        refine lv_bipush (v := 6) hx hb dL_looks_146 (by decide) ?_
        refine lv_irem hx hb dL_looks_148 (by decide) ?_
        refine lv_iconst (v := 0) hx hb dL_looks_149 (by decide) ?_
        refine lv_iconst (v := 0) hx hb dL_looks_150 (by decide) ?_
        obtain ⟨o25, g26, hf⟩ := jbB_e hf
        refine cws_i (As := [.ref (ha 0 0), .int 7, .int (x2 / 6), .int (x2 - x2 / 6 * 6), .int 0, .int 0]) (rest := [.int (31 * ((31 * ((31 * z20) + o21)) + (o23.1)))]) (Wr := (wO g (ha 6) ov)) (Wn := (wT g ha tv ++ wQ g (ha 1) qv ++ wS g (ha 3) (o25.2) ++ wO g (ha 6) ov)) ⟨hx, hb, hml, hown, hts⟩ (c_L_ask l hlt g ha tv qv (o23.2) 7 (x2 / 6) (x2 - x2 / 6 * 6) 0 0 _ g26) (vx_cwSW 6 hts gL_looks_L_ask rfl rfl rfl hd_L_ask ⟨(Nat.le_of_ble_eq_true rfl), (Nat.le_of_ble_eq_true rfl)⟩) hK hZ hT hA hP hD hS hl.1 (wp_of fun f => by simp only [List.countP_append, List.countP_cons, List.countP_nil] <;> omega) (wp_of fun f => by simp only [List.countP_append, List.countP_cons, List.countP_nil] <;> omega) rfl rfl (Nat.le_of_ble_eq_true rfl) ⟨(show cc40 + 3 + 3 ≤ 186 by omega), (show sc40 + 18 + 18 ≤ 1116 by omega)⟩ dL_looks_151 (fun H locs hP hD hS => ?_)
        refine lv_iadd hx hb dL_looks_154 ?_
        refine lv_topi (fun z27 ez27 => ?_)
        have hf := jbN_e hf ez27
        refine lv_istore_n (lv' := [(1, .int z27), (0, .ref (ha 0 0)), (2, .int x2)]) hx hb dL_looks_155 rfl hl (by decide) rfl (fun ls hl => ?_)
        refine lv_iinc (v := (x2 + 1)) (lv' := [(2, .int (x2 + 1)), (1, .int z27), (0, .ref (ha 0 0))]) hx hb dL_looks_156 hl (k := 2) rfl rfl (by decide) rfl (fun ls hl => ?_)
        refine lv_goto (tgt := 40) hx hb dL_looks_159 (by decide) ?_
        cases hf
        exact ih _ _ z27 (x2 + 1) (o25.2) _ _ _ _ (by omega) (by omega) hr hP hD hS (lv_sub hl [2, 1, 0] rfl) hk
  refine lv_bipush (v := 31) hx hb dL_looks_0 (by decide) ?_
  refine lv_bipush (v := 31) hx hb dL_looks_2 (by decide) ?_
  refine lv_bipush (v := 31) hx hb dL_looks_4 (by decide) ?_
  refine lv_bipush (v := 31) hx hb dL_looks_6 (by decide) ?_
  refine lv_aload_n hx hb dL_looks_8 rfl (lv_at hl 0 rfl) ?_
  obtain ⟨o1, g2, hf⟩ := jbB_e hf
  refine cpv_i (As := []) (rest := [.int 31, .int 31, .int 31, .int 31]) (Wr := (wS g (ha 3) sv ++ wO g (ha 6) ov)) (Wn := (wT g ha tv ++ wQ g (ha 1) qv ++ wS g (ha 3) sv ++ wO g (ha 6) ov)) ⟨hx, hb, hml, hown, hts⟩ (c_X10_stepLimit l hlt g ha tv qv _ (show f_X10_stepLimit tv qv = some o1 from g2)) (cwV 0 hts gL_looks_X10_stepLimit rfl rfl rfl hd_X10_stepLimit ⟨(Nat.le_of_ble_eq_true rfl), (Nat.le_of_ble_eq_true rfl)⟩) hK hZ hT hA hP hD hS hl.1 (va_recv hK hP (ci := 9) (q0 := 0) rfl rfl) (wp_of fun f => by simp only [List.countP_append, List.countP_cons, List.countP_nil] <;> omega) (wp_of fun f => by simp only [List.countP_append, List.countP_cons, List.countP_nil] <;> omega) rfl rfl (Nat.le_of_ble_eq_true rfl) ⟨(Nat.le_of_ble_eq_true rfl), (Nat.le_of_ble_eq_true rfl)⟩ dL_looks_9 (fun H locs hP hD hS => ?_)
  refine lv_imul hx hb dL_looks_12 ?_
  refine lv_aload_n hx hb dL_looks_13 rfl (lv_at hl 0 rfl) ?_
  obtain ⟨o3, g4, hf⟩ := jbB_e hf
  refine cpv_i (As := []) (rest := [.int (31 * o1), .int 31, .int 31, .int 31]) (Wr := (wS g (ha 3) sv ++ wO g (ha 6) ov)) (Wn := (wT g ha tv ++ wQ g (ha 1) qv ++ wS g (ha 3) sv ++ wO g (ha 6) ov)) ⟨hx, hb, hml, hown, hts⟩ (c_X10_rubble l hlt g ha tv qv _ (show f_X10_rubble tv qv = some o3 from g4)) (cwV 0 hts gL_looks_X10_rubble rfl rfl rfl hd_X10_rubble ⟨(Nat.le_of_ble_eq_true rfl), (Nat.le_of_ble_eq_true rfl)⟩) hK hZ hT hA hP hD hS hl.1 (va_recv hK hP (ci := 9) (q0 := 0) rfl rfl) (wp_of fun f => by simp only [List.countP_append, List.countP_cons, List.countP_nil] <;> omega) (wp_of fun f => by simp only [List.countP_append, List.countP_cons, List.countP_nil] <;> omega) rfl rfl (Nat.le_of_ble_eq_true rfl) ⟨(Nat.le_of_ble_eq_true rfl), (Nat.le_of_ble_eq_true rfl)⟩ dL_looks_14 (fun H locs hP hD hS => ?_)
  refine lv_iadd hx hb dL_looks_17 ?_
  refine lv_imul hx hb dL_looks_18 ?_
  refine lv_aload_n hx hb dL_looks_19 rfl (lv_at hl 0 rfl) ?_
  obtain ⟨o5, g6, hf⟩ := jbB_e hf
  refine cpv_i (As := []) (rest := [.int (31 * ((31 * o1) + o3)), .int 31, .int 31]) (Wr := (wS g (ha 3) sv ++ wO g (ha 6) ov)) (Wn := (wT g ha tv ++ wQ g (ha 1) qv ++ wS g (ha 3) sv ++ wO g (ha 6) ov)) ⟨hx, hb, hml, hown, hts⟩ (c_X10_cutTotal l hlt g ha tv qv _ (show f_X10_cutTotal tv qv = some o5 from g6)) (cwV 0 hts gL_looks_X10_cutTotal rfl rfl rfl hd_X10_cutTotal ⟨(Nat.le_of_ble_eq_true rfl), (Nat.le_of_ble_eq_true rfl)⟩) hK hZ hT hA hP hD hS hl.1 (va_recv hK hP (ci := 9) (q0 := 0) rfl rfl) (wp_of fun f => by simp only [List.countP_append, List.countP_cons, List.countP_nil] <;> omega) (wp_of fun f => by simp only [List.countP_append, List.countP_cons, List.countP_nil] <;> omega) rfl rfl (Nat.le_of_ble_eq_true rfl) ⟨(Nat.le_of_ble_eq_true rfl), (Nat.le_of_ble_eq_true rfl)⟩ dL_looks_20 (fun H locs hP hD hS => ?_)
  refine lv_iadd hx hb dL_looks_23 ?_
  refine lv_imul hx hb dL_looks_24 ?_
  refine lv_aload_n hx hb dL_looks_25 rfl (lv_at hl 0 rfl) ?_
  obtain ⟨o7, g8, hf⟩ := jbB_e hf
  refine cpv_l (As := []) (rest := [.int (31 * ((31 * ((31 * o1) + o3)) + o5)), .int 31]) (Wr := (wS g (ha 3) sv ++ wO g (ha 6) ov)) (Wn := (wT g ha tv ++ wQ g (ha 1) qv ++ wS g (ha 3) sv ++ wO g (ha 6) ov)) ⟨hx, hb, hml, hown, hts⟩ (c_X10_workTotal l hlt g ha tv qv _ (show f_X10_workTotal tv qv = some o7 from g8)) (cwV 0 hts gL_looks_X10_workTotal rfl rfl rfl hd_X10_workTotal ⟨(Nat.le_of_ble_eq_true rfl), (Nat.le_of_ble_eq_true rfl)⟩) hK hZ hT hA hP hD hS hl.1 (va_recv hK hP (ci := 9) (q0 := 0) rfl rfl) (wp_of fun f => by simp only [List.countP_append, List.countP_cons, List.countP_nil] <;> omega) (wp_of fun f => by simp only [List.countP_append, List.countP_cons, List.countP_nil] <;> omega) rfl rfl (Nat.le_of_ble_eq_true rfl) ⟨(Nat.le_of_ble_eq_true rfl), (Nat.le_of_ble_eq_true rfl)⟩ dL_looks_26 (fun H locs hP hD hS => ?_)
  refine lv_l2i (v := o7.toInt32) hx hb dL_looks_29 rfl ?_
  refine lv_iadd hx hb dL_looks_30 ?_
  refine lv_imul hx hb dL_looks_31 ?_
  refine lv_aload_n hx hb dL_looks_32 rfl (lv_at hl 0 rfl) ?_
  obtain ⟨o9, g10, hf⟩ := jbB_e hf
  refine cpv_i (As := []) (rest := [.int (31 * ((31 * ((31 * ((31 * o1) + o3)) + o5)) + (o7.toInt32)))]) (Wr := (wS g (ha 3) sv ++ wO g (ha 6) ov)) (Wn := (wT g ha tv ++ wQ g (ha 1) qv ++ wS g (ha 3) sv ++ wO g (ha 6) ov)) ⟨hx, hb, hml, hown, hts⟩ (c_X10_winchCount l hlt g ha tv qv _ (show f_X10_winchCount tv qv = some o9 from g10)) (cwV 0 hts gL_looks_X10_winchCount rfl rfl rfl hd_X10_winchCount ⟨(Nat.le_of_ble_eq_true rfl), (Nat.le_of_ble_eq_true rfl)⟩) hK hZ hT hA hP hD hS hl.1 (va_recv hK hP (ci := 9) (q0 := 0) rfl rfl) (wp_of fun f => by simp only [List.countP_append, List.countP_cons, List.countP_nil] <;> omega) (wp_of fun f => by simp only [List.countP_append, List.countP_cons, List.countP_nil] <;> omega) rfl rfl (Nat.le_of_ble_eq_true rfl) ⟨(Nat.le_of_ble_eq_true rfl), (Nat.le_of_ble_eq_true rfl)⟩ dL_looks_33 (fun H locs hP hD hS => ?_)
  refine lv_iadd hx hb dL_looks_36 ?_
  refine lv_topi (fun z11 ez11 => ?_)
  have hf := jbN_e hf ez11
  refine lv_istore_n (lv' := [(1, .int z11), (0, .ref (ha 0 0))]) hx hb dL_looks_37 rfl hl (by decide) rfl (fun ls hl => ?_)
  refine lv_iconst (v := 0) hx hb dL_looks_38 (by decide) ?_
  refine lv_istore_n (lv' := [(2, .int 0), (1, .int z11), (0, .ref (ha 0 0))]) hx hb dL_looks_39 rfl hl (by decide) rfl (fun ls hl => ?_)
  obtain ⟨o40, hg, hf⟩ := jbB_e hf
  refine hL40 ov _ _ _ z11 0 sv _ _ _ _ (Nat.le_of_ble_eq_true rfl) (Nat.le_of_ble_eq_true rfl) hg hP hD hS (lv_sub hl [2, 1, 0] rfl) (fun H locs ls hP hD hS hl => ?_)
  refine lv_iconst (v := 0) hx hb dL_looks_162 (by decide) ?_
  refine lv_istore_n (lv' := [(2, .int 0), (0, .ref (ha 0 0)), (1, .int (o40.1))]) hx hb dL_looks_163 rfl hl (by decide) rfl (fun ls hl => ?_)
  obtain ⟨o164, hg, hf⟩ := jbB_e hf
  refine hL164 (o40.2.2) ov _ (o40.1) 0 _ _ _ _ hg hP hD hS (lv_sub hl [1, 2, 0] rfl) (fun H locs ls hP hD hS hl => ?_)
  refine lv_iconst (v := 0) hx hb dL_looks_186 (by decide) ?_
  refine lv_istore_n (lv' := [(2, .int 0), (0, .ref (ha 0 0)), (1, .int (o164.1))]) hx hb dL_looks_187 rfl hl (by decide) rfl (fun ls hl => ?_)
  obtain ⟨o188, hg, hf⟩ := jbB_e hf
  refine hL188 (o40.2.2) _ (o164.1) 0 ov _ _ _ _ hg hP hD hS (lv_sub hl [1, 2, 0] rfl) (fun H locs ls hP hD hS hl => ?_)
  refine lv_iload_n hx hb dL_looks_232 rfl (lv_at hl 0 rfl) ?_
  cases hf
  subst hQ
  exact rt_i hx hb hrt hlk rfl hK hP hD hS (Nat.le_of_ble_eq_true rfl) (Nat.le_of_ble_eq_true rfl) dL_looks_233
