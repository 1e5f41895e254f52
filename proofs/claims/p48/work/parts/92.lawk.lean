def rm_L_lay : Room := { frames := 12, cells := 1166, slots := 25864, locals := 215 }
theorem hd_L_lay : yL_lay.cls ≠ "java/lang/invoke/MethodHandle" ∧ yL_lay.cls ≠ "java/lang/invoke/VarHandle" ∧ (parseMethodDescriptor yL_lay.desc).map (fun d => d.parameters.length) = some 2 := by decide +kernel
set_option maxHeartbeats 4000000 in
set_option maxRecDepth 100000 in
theorem c_L_lay (l : Launch) (hlt : l.stackTraces = false) (g : GG) (ha : Nat → Nat → Nat) (hd : Nat → Nat → Nat) (tv : TV) (qv : QV) (hv : HV)  (out : QV × HV) (hf : f_L_lay g qv hv = some out) : MzV (RT := Nat → Nat → Nat) l yL_lay wsL_lay rm_L_lay g (wT g ha tv ++ wQ g (ha 1) qv ++ wH g (ha 4) hd hv) [.ref (ha 0 0), .ref (gS g 5 0)] (fun _ => True) (fun z => (wT g ha tv ++ wQ g (ha 1) (out.1) ++ wH g (ha 4) z (out.2))) 1166 25864 := by
  refine fun sz => mt_of (cc := cL_lay) (maxL := 4) (ret := none) (own := RL) (Qc := fun A => va_Qv (fun (z : Nat → Nat → Nat) => True) (fun z t => PosM g A (wT g ha tv ++ wQ g (ha 1) (out.1) ++ wH g (ha 4) z (out.2)) t) A) (by decide +kernel) rfl rfl (Nat.le_of_ble_eq_true rfl) ?_ sz
  intro p e s mi below meth c A ls hB hnm hrt hlk hP hD hl
  obtain ⟨hx, hb, hml, hown, hts, hK, hZ, hT, hA, -⟩ := hB
  have hS : va_S A s.heap s.heap [] := va_S.rf
  have hl : lv_has ls 4 [(0, .ref (ha 0 0)), (1, .ref (gS g 5 0))] := hl
  generalize hQ : MQ below _ _ _ _ _ _ = Q
  unfold f_L_lay at hf
  have hL233 : ∀ (n233 : Nat) (cc233 sc233 : Nat) (x2 : Int32) (x3 : Int32) (qv : QV) (hv : HV) (hd : Nat → Nat → Nat) (H : Heap) (locs : List Loc) (ls : Array Slot) (o233 : Int32 × Int32 × QV × HV), cc233 + 11 * n233 ≤ 1166 → sc233 + 244 * n233 ≤ 25864 → jbL (fun s => f_L_lay_L233 g (s.1) (s.2.1) (s.2.2.1) (s.2.2.2)) n233 (x2, x3, qv, hv) = some o233 → va_P (gD g) vwCl (wT g ha tv ++ wQ g (ha 1) qv ++ wH g (ha 4) hd hv) H → va_D A (wT g ha tv ++ wQ g (ha 1) qv ++ wH g (ha 4) hd hv) → va_S A s.heap H locs → lv_has ls 4 [(0, .ref (ha 0 0)), (1, .ref (gS g 5 0)), (2, .int x2), (3, .int x3)] → (∀ (hd : Nat → Nat → Nat) (H : Heap) (locs : List Loc) (ls : Array Slot), va_P (gD g) vwCl (wT g ha tv ++ wQ g (ha 1) (o233.2.2.1) ++ wH g (ha 4) hd (o233.2.2.2)) H → va_D A (wT g ha tv ++ wQ g (ha 1) (o233.2.2.1) ++ wH g (ha 4) hd (o233.2.2.2)) → va_S A s.heap H locs → lv_has ls 4 [] → W p l e rm_L_lay s mi [.ref (ha 0 0), .ref (gS g 5 0)].toArray below meth c H locs (1166) (25864) Q (F0 mi 291 ls [])) → W p l e rm_L_lay s mi [.ref (ha 0 0), .ref (gS g 5 0)].toArray below meth c H locs (cc233) (sc233) Q (F0 mi 233 ls []) := by
    intro n233
    induction n233 with
    | zero => intro cc233 sc233 x2 x3 qv hv hd H locs ls o233 hcc233 hsc233 hf; exact absurd hf (jbL_0 _ _ _)
    | succ n233 ih =>
      intro cc233 sc233 x2 x3 qv hv hd H locs ls o233 hcc233 hsc233 hf hP hD hS hl hk
      obtain ⟨r, hf, hr⟩ := jbL_e hf
      have hf : f_L_lay_L233 g x2 x3 qv hv = some r := hf
      unfold f_L_lay_L233 at hf
      refine lv_iload_n hx hb dL_lay_233 rfl (lv_at hl 3 rfl) ?_
      refine lv_aload_n hx hb dL_lay_234 rfl (lv_at hl 1 rfl) ?_
      refine lv_iconst (v := 3) hx hb dL_lay_235 (by decide) ?_
      refine lv_bipush (v := 20) hx hb dL_lay_236 (by decide) ?_
      obtain ⟨o49, g50, hf⟩ := jbB_e hf
      refine csn_i (As := [.ref (gS g 5 0), .int 3, .int 20]) (rest := [.int x3]) ⟨hx, hb, hml, hown, hts⟩ (c_L_pick l g 3 20 _ g50) (va_cwS 3 hts gL_lay_L_pick rfl rfl rfl hd_L_pick ⟨(Nat.le_of_ble_eq_true rfl), (Nat.le_of_ble_eq_true rfl)⟩) hK hZ hT hA hP hD hS hl.1 rfl rfl (Nat.le_of_ble_eq_true rfl) ⟨(show cc233 + 0 ≤ 1166 by omega), (show sc233 + 0 ≤ 25864 by omega)⟩ dL_lay_238 (fun H locs hP hD hS => ?_)
      refine lv_icmp_ge (tgt := 291) hx hb dL_lay_241 (by decide) (fun hc => ?_) (fun hc => ?_)
      · have hf := jbT hf hc
        cases hf
        obtain rfl := jbR_r hr
        refine W.widen (k := 1166) (n := 25864) (by omega) (by omega) ?_
        exact hk _ _ _ _ hP hD hS (lv_sub hl [] rfl)
      · have hf := jbF hf hc
        refine lv_iload_n hx hb dL_lay_244 rfl (lv_at hl 2 rfl) ?_
        refine lv_aload_n hx hb dL_lay_245 rfl (lv_at hl 0 rfl) ?_
        refine lv_bipush (v := 6) hx hb dL_lay_246 (by decide) ?_
        refine lv_aload_n hx hb dL_lay_248 rfl (lv_at hl 1 rfl) ?_
        refine lv_sipush (v := 231) hx hb dL_lay_249 (by decide) ?_
        refine lv_iload_n hx hb dL_lay_252 rfl (lv_at hl 3 rfl) ?_
        refine lv_iadd hx hb dL_lay_253 ?_
        refine lv_iconst (v := 5) hx hb dL_lay_254 (by decide) ?_
        obtain ⟨o51, g52, hf⟩ := jbB_e hf
        refine csn_i (As := [.ref (gS g 5 0), .int (231 + x3), .int 5]) (rest := [.int 6, .ref (ha 0 0), .int x2]) ⟨hx, hb, hml, hown, hts⟩ (c_L_pick l g (231 + x3) 5 _ g52) (va_cwS 3 hts gL_lay_L_pick rfl rfl rfl hd_L_pick ⟨(Nat.le_of_ble_eq_true rfl), (Nat.le_of_ble_eq_true rfl)⟩) hK hZ hT hA hP hD hS hl.1 rfl rfl (Nat.le_of_ble_eq_true rfl) ⟨(show cc233 + 0 ≤ 1166 by omega), (show sc233 + 0 ≤ 25864 by omega)⟩ dL_lay_255 (fun H locs hP hD hS => ?_)
        refine lv_aload_n hx hb dL_lay_258 rfl (lv_at hl 1 rfl) ?_
        refine lv_sipush (v := 251) hx hb dL_lay_259 (by decide) ?_
        refine lv_iload_n hx hb dL_lay_262 rfl (lv_at hl 3 rfl) ?_
        refine lv_iadd hx hb dL_lay_263 ?_
        refine lv_bipush (v := 6) hx hb dL_lay_264 (by decide) ?_
        obtain ⟨o53, g54, hf⟩ := jbB_e hf
        refine csn_i (As := [.ref (gS g 5 0), .int (251 + x3), .int 6]) (rest := [.int o51, .int 6, .ref (ha 0 0), .int x2]) ⟨hx, hb, hml, hown, hts⟩ (c_L_pick l g (251 + x3) 6 _ g54) (va_cwS 3 hts gL_lay_L_pick rfl rfl rfl hd_L_pick ⟨(Nat.le_of_ble_eq_true rfl), (Nat.le_of_ble_eq_true rfl)⟩) hK hZ hT hA hP hD hS hl.1 rfl rfl (Nat.le_of_ble_eq_true rfl) ⟨(show cc233 + 0 ≤ 1166 by omega), (show sc233 + 0 ≤ 25864 by omega)⟩ dL_lay_266 (fun H locs hP hD hS => ?_)
        refine lv_aload_n hx hb dL_lay_269 rfl (lv_at hl 1 rfl) ?_
        refine lv_sipush (v := 271) hx hb dL_lay_270 (by decide) ?_
        refine lv_iload_n hx hb dL_lay_273 rfl (lv_at hl 3 rfl) ?_
        refine lv_iadd hx hb dL_lay_274 ?_
        refine lv_iconst (v := 3) hx hb dL_lay_275 (by decide) ?_
        obtain ⟨o55, g56, hf⟩ := jbB_e hf
        refine csn_i (As := [.ref (gS g 5 0), .int (271 + x3), .int 3]) (rest := [.int o53, .int o51, .int 6, .ref (ha 0 0), .int x2]) ⟨hx, hb, hml, hown, hts⟩ (c_L_pick l g (271 + x3) 3 _ g56) (va_cwS 3 hts gL_lay_L_pick rfl rfl rfl hd_L_pick ⟨(Nat.le_of_ble_eq_true rfl), (Nat.le_of_ble_eq_true rfl)⟩) hK hZ hT hA hP hD hS hl.1 rfl rfl (Nat.le_of_ble_eq_true rfl) ⟨(show cc233 + 0 ≤ 1166 by omega), (show sc233 + 0 ≤ 25864 by omega)⟩ dL_lay_276 (fun H locs hP hD hS => ?_)
        refine lv_iconst (v := 0) hx hb dL_lay_279 (by decide) ?_
        obtain ⟨o57, g58, hf⟩ := jbB_e hf
        refine czws_i (As := [.ref (ha 0 0), .int 6, .int o51, .int o53, .int o55, .int 0]) (rest := [.int x2]) (Wr := []) (Wn := fun hd59 => (wT g ha tv ++ wQ g (ha 1) (o57.2.1) ++ wH g (ha 4) hd59 (o57.2.2))) ⟨hx, hb, hml, hown, hts⟩ (c_L_deed l hlt g ha hd tv qv hv 6 o51 o53 o55 0 _ g58) (vx_cwSW 6 hts gL_lay_L_deed rfl rfl rfl hd_L_deed ⟨(Nat.le_of_ble_eq_true rfl), (Nat.le_of_ble_eq_true rfl)⟩) hK hZ hT hA hP hD hS hl.1 (wp_of fun f => by simp only [List.countP_append, List.countP_cons, List.countP_nil] <;> omega) (fun _ => (wp_of fun f => by simp only [List.countP_append, List.countP_cons, List.countP_nil] <;> omega)) rfl rfl (Nat.le_of_ble_eq_true rfl) ⟨(show cc233 + 11 ≤ 1166 by omega), (show sc233 + 244 ≤ 25864 by omega)⟩ dL_lay_280 (fun hd59 H locs _ hP hD hS => ?_)
        refine lv_iadd hx hb dL_lay_283 ?_
        refine lv_topi (fun z60 ez60 => ?_)
        have hf := jbN_e hf ez60
        refine lv_istore_n (lv' := [(2, .int z60), (0, .ref (ha 0 0)), (1, .ref (gS g 5 0)), (3, .int x3)]) hx hb dL_lay_284 rfl hl (by decide) rfl (fun ls hl => ?_)
        refine lv_iinc (v := (x3 + 1)) (lv' := [(3, .int (x3 + 1)), (2, .int z60), (0, .ref (ha 0 0)), (1, .ref (gS g 5 0))]) hx hb dL_lay_285 hl (k := 3) rfl rfl (by decide) rfl (fun ls hl => ?_)
        refine lv_goto (tgt := 233) hx hb dL_lay_288 (by decide) ?_
        cases hf
        exact ih _ _ z60 (x3 + 1) (o57.2.1) (o57.2.2) _ _ _ _ _ (by omega) (by omega) hr hP hD hS (lv_sub hl [2, 3, 1, 0] rfl) hk
  have hL118 : ∀ (n118 : Nat) (cc118 sc118 : Nat) (x2 : Int32) (x3 : Int32) (qv : QV) (hv : HV) (hd : Nat → Nat → Nat) (H : Heap) (locs : List Loc) (ls : Array Slot) (o118 : Int32 × Int32 × QV × HV), cc118 + 22 * n118 ≤ 935 → sc118 + 488 * n118 ≤ 20740 → jbL (fun s => f_L_lay_L118 g (s.1) (s.2.1) (s.2.2.1) (s.2.2.2)) n118 (x2, x3, qv, hv) = some o118 → va_P (gD g) vwCl (wT g ha tv ++ wQ g (ha 1) qv ++ wH g (ha 4) hd hv) H → va_D A (wT g ha tv ++ wQ g (ha 1) qv ++ wH g (ha 4) hd hv) → va_S A s.heap H locs → lv_has ls 4 [(0, .ref (ha 0 0)), (1, .ref (gS g 5 0)), (2, .int x2), (3, .int x3)] → (∀ (hd : Nat → Nat → Nat) (H : Heap) (locs : List Loc) (ls : Array Slot), va_P (gD g) vwCl (wT g ha tv ++ wQ g (ha 1) (o118.2.2.1) ++ wH g (ha 4) hd (o118.2.2.2)) H → va_D A (wT g ha tv ++ wQ g (ha 1) (o118.2.2.1) ++ wH g (ha 4) hd (o118.2.2.2)) → va_S A s.heap H locs → lv_has ls 4 [(0, .ref (ha 0 0)), (1, .ref (gS g 5 0)), (2, .int (o118.1))] → W p l e rm_L_lay s mi [.ref (ha 0 0), .ref (gS g 5 0)].toArray below meth c H locs (935) (20740) Q (F0 mi 231 ls [])) → W p l e rm_L_lay s mi [.ref (ha 0 0), .ref (gS g 5 0)].toArray below meth c H locs (cc118) (sc118) Q (F0 mi 118 ls []) := by
    intro n118
    induction n118 with
    | zero => intro cc118 sc118 x2 x3 qv hv hd H locs ls o118 hcc118 hsc118 hf; exact absurd hf (jbL_0 _ _ _)
    | succ n118 ih =>
      intro cc118 sc118 x2 x3 qv hv hd H locs ls o118 hcc118 hsc118 hf hP hD hS hl hk
      obtain ⟨r, hf, hr⟩ := jbL_e hf
      have hf : f_L_lay_L118 g x2 x3 qv hv = some r := hf
      unfold f_L_lay_L118 at hf
      refine lv_iload_n hx hb dL_lay_118 rfl (lv_at hl 3 rfl) ?_
      refine lv_aload_n hx hb dL_lay_119 rfl (lv_at hl 1 rfl) ?_
      refine lv_iconst (v := 2) hx hb dL_lay_120 (by decide) ?_
      refine lv_iconst (v := 5) hx hb dL_lay_121 (by decide) ?_
      obtain ⟨o25, g26, hf⟩ := jbB_e hf
      refine csn_i (As := [.ref (gS g 5 0), .int 2, .int 5]) (rest := [.int x3]) ⟨hx, hb, hml, hown, hts⟩ (c_L_pick l g 2 5 _ g26) (va_cwS 3 hts gL_lay_L_pick rfl rfl rfl hd_L_pick ⟨(Nat.le_of_ble_eq_true rfl), (Nat.le_of_ble_eq_true rfl)⟩) hK hZ hT hA hP hD hS hl.1 rfl rfl (Nat.le_of_ble_eq_true rfl) ⟨(show cc118 + 0 ≤ 1166 by omega), (show sc118 + 0 ≤ 25864 by omega)⟩ dL_lay_122 (fun H locs hP hD hS => ?_)
      refine lv_icmp_ge (tgt := 231) hx hb dL_lay_125 (by decide) (fun hc => ?_) (fun hc => ?_)
      · have hf := jbT hf hc
        cases hf
        obtain rfl := jbR_r hr
        refine W.widen (k := 935) (n := 20740) (by omega) (by omega) ?_
        exact hk _ _ _ _ hP hD hS (lv_sub hl [0, 1, 2] rfl)
      · have hf := jbF hf hc
        refine lv_iload_n hx hb dL_lay_128 rfl (lv_at hl 2 rfl) ?_
        refine lv_aload_n hx hb dL_lay_129 rfl (lv_at hl 0 rfl) ?_
        refine lv_iconst (v := 5) hx hb dL_lay_130 (by decide) ?_
        refine lv_aload_n hx hb dL_lay_131 rfl (lv_at hl 1 rfl) ?_
        refine lv_sipush (v := 191) hx hb dL_lay_132 (by decide) ?_
        refine lv_iload_n hx hb dL_lay_135 rfl (lv_at hl 3 rfl) ?_
        refine lv_iadd hx hb dL_lay_136 ?_
        refine lv_iconst (v := 5) hx hb dL_lay_137 (by decide) ?_
        obtain ⟨o27, g28, hf⟩ := jbB_e hf
        refine csn_i (As := [.ref (gS g 5 0), .int (191 + x3), .int 5]) (rest := [.int 5, .ref (ha 0 0), .int x2]) ⟨hx, hb, hml, hown, hts⟩ (c_L_pick l g (191 + x3) 5 _ g28) (va_cwS 3 hts gL_lay_L_pick rfl rfl rfl hd_L_pick ⟨(Nat.le_of_ble_eq_true rfl), (Nat.le_of_ble_eq_true rfl)⟩) hK hZ hT hA hP hD hS hl.1 rfl rfl (Nat.le_of_ble_eq_true rfl) ⟨(show cc118 + 0 ≤ 1166 by omega), (show sc118 + 0 ≤ 25864 by omega)⟩ dL_lay_138 (fun H locs hP hD hS => ?_)
        refine lv_aload_n hx hb dL_lay_141 rfl (lv_at hl 1 rfl) ?_
        refine lv_sipush (v := 196) hx hb dL_lay_142 (by decide) ?_
        refine lv_iload_n hx hb dL_lay_145 rfl (lv_at hl 3 rfl) ?_
        refine lv_iadd hx hb dL_lay_146 ?_
        refine lv_bipush (v := 6) hx hb dL_lay_147 (by decide) ?_
        obtain ⟨o29, g30, hf⟩ := jbB_e hf
        refine csn_i (As := [.ref (gS g 5 0), .int (196 + x3), .int 6]) (rest := [.int o27, .int 5, .ref (ha 0 0), .int x2]) ⟨hx, hb, hml, hown, hts⟩ (c_L_pick l g (196 + x3) 6 _ g30) (va_cwS 3 hts gL_lay_L_pick rfl rfl rfl hd_L_pick ⟨(Nat.le_of_ble_eq_true rfl), (Nat.le_of_ble_eq_true rfl)⟩) hK hZ hT hA hP hD hS hl.1 rfl rfl (Nat.le_of_ble_eq_true rfl) ⟨(show cc118 + 0 ≤ 1166 by omega), (show sc118 + 0 ≤ 25864 by omega)⟩ dL_lay_149 (fun H locs hP hD hS => ?_)
        refine lv_iconst (v := 2) hx hb dL_lay_152 (by decide) ?_
        refine lv_aload_n hx hb dL_lay_153 rfl (lv_at hl 1 rfl) ?_
        refine lv_sipush (v := 201) hx hb dL_lay_154 (by decide) ?_
        refine lv_iload_n hx hb dL_lay_157 rfl (lv_at hl 3 rfl) ?_
        refine lv_iadd hx hb dL_lay_158 ?_
        refine lv_bipush (v := 8) hx hb dL_lay_159 (by decide) ?_
        obtain ⟨o31, g32, hf⟩ := jbB_e hf
        refine csn_i (As := [.ref (gS g 5 0), .int (201 + x3), .int 8]) (rest := [.int 2, .int o29, .int o27, .int 5, .ref (ha 0 0), .int x2]) ⟨hx, hb, hml, hown, hts⟩ (c_L_pick l g (201 + x3) 8 _ g32) (va_cwS 3 hts gL_lay_L_pick rfl rfl rfl hd_L_pick ⟨(Nat.le_of_ble_eq_true rfl), (Nat.le_of_ble_eq_true rfl)⟩) hK hZ hT hA hP hD hS hl.1 rfl rfl (Nat.le_of_ble_eq_true rfl) ⟨(show cc118 + 0 ≤ 1166 by omega), (show sc118 + 0 ≤ 25864 by omega)⟩ dL_lay_161 (fun H locs hP hD hS => ?_)
        refine lv_iadd hx hb dL_lay_164 ?_
        refine lv_iconst (v := 1) hx hb dL_lay_165 (by decide) ?_
        refine lv_aload_n hx hb dL_lay_166 rfl (lv_at hl 1 rfl) ?_
        refine lv_sipush (v := 206) hx hb dL_lay_167 (by decide) ?_
        refine lv_iload_n hx hb dL_lay_170 rfl (lv_at hl 3 rfl) ?_
        refine lv_iadd hx hb dL_lay_171 ?_
        refine lv_bipush (v := 6) hx hb dL_lay_172 (by decide) ?_
        obtain ⟨o33, g34, hf⟩ := jbB_e hf
        refine csn_i (As := [.ref (gS g 5 0), .int (206 + x3), .int 6]) (rest := [.int 1, .int (2 + o31), .int o29, .int o27, .int 5, .ref (ha 0 0), .int x2]) ⟨hx, hb, hml, hown, hts⟩ (c_L_pick l g (206 + x3) 6 _ g34) (va_cwS 3 hts gL_lay_L_pick rfl rfl rfl hd_L_pick ⟨(Nat.le_of_ble_eq_true rfl), (Nat.le_of_ble_eq_true rfl)⟩) hK hZ hT hA hP hD hS hl.1 rfl rfl (Nat.le_of_ble_eq_true rfl) ⟨(show cc118 + 0 ≤ 1166 by omega), (show sc118 + 0 ≤ 25864 by omega)⟩ dL_lay_174 (fun H locs hP hD hS => ?_)
        refine lv_iadd hx hb dL_lay_177 ?_
        obtain ⟨o35, g36, hf⟩ := jbB_e hf
        refine czws_i (As := [.ref (ha 0 0), .int 5, .int o27, .int o29, .int (2 + o31), .int (1 + o33)]) (rest := [.int x2]) (Wr := []) (Wn := fun hd37 => (wT g ha tv ++ wQ g (ha 1) (o35.2.1) ++ wH g (ha 4) hd37 (o35.2.2))) ⟨hx, hb, hml, hown, hts⟩ (c_L_deed l hlt g ha hd tv qv hv 5 o27 o29 (2 + o31) (1 + o33) _ g36) (vx_cwSW 6 hts gL_lay_L_deed rfl rfl rfl hd_L_deed ⟨(Nat.le_of_ble_eq_true rfl), (Nat.le_of_ble_eq_true rfl)⟩) hK hZ hT hA hP hD hS hl.1 (wp_of fun f => by simp only [List.countP_append, List.countP_cons, List.countP_nil] <;> omega) (fun _ => (wp_of fun f => by simp only [List.countP_append, List.countP_cons, List.countP_nil] <;> omega)) rfl rfl (Nat.le_of_ble_eq_true rfl) ⟨(show cc118 + 11 ≤ 1166 by omega), (show sc118 + 244 ≤ 25864 by omega)⟩ dL_lay_178 (fun hd37 H locs _ hP hD hS => ?_)
        refine lv_iadd hx hb dL_lay_181 ?_
        refine lv_topi (fun z38 ez38 => ?_)
        have hf := jbN_e hf ez38
        refine lv_istore_n (lv' := [(2, .int z38), (0, .ref (ha 0 0)), (1, .ref (gS g 5 0)), (3, .int x3)]) hx hb dL_lay_182 rfl hl (by decide) rfl (fun ls hl => ?_)
        refine lv_iload_n hx hb dL_lay_183 rfl (lv_at hl 0 rfl) ?_
        refine lv_aload_n hx hb dL_lay_184 rfl (lv_at hl 2 rfl) ?_
        refine lv_sipush (v := 211) hx hb dL_lay_185 (by decide) ?_
        refine lv_iload_n hx hb dL_lay_188 rfl (lv_at hl 3 rfl) ?_
        refine lv_iadd hx hb dL_lay_189 ?_
        refine lv_iconst (v := 2) hx hb dL_lay_190 (by decide) ?_
        obtain ⟨o39, g40, hf⟩ := jbB_e hf
        refine csn_i (As := [.ref (gS g 5 0), .int (211 + x3), .int 2]) (rest := [.int z38]) ⟨hx, hb, hml, hown, hts⟩ (c_L_pick l g (211 + x3) 2 _ g40) (va_cwS 3 hts gL_lay_L_pick rfl rfl rfl hd_L_pick ⟨(Nat.le_of_ble_eq_true rfl), (Nat.le_of_ble_eq_true rfl)⟩) hK hZ hT hA hP hD hS hl.1 rfl rfl (Nat.le_of_ble_eq_true rfl) ⟨(show cc118 + 11 + 0 ≤ 1166 by omega), (show sc118 + 244 + 0 ≤ 25864 by omega)⟩ dL_lay_191 (fun H locs hP hD hS => ?_)
        refine lv_aload_n hx hb dL_lay_194 rfl (lv_at hl 1 rfl) ?_
        refine lv_iconst (v := 3) hx hb dL_lay_195 (by decide) ?_
        refine lv_aload_n hx hb dL_lay_196 rfl (lv_at hl 2 rfl) ?_
        refine lv_sipush (v := 216) hx hb dL_lay_197 (by decide) ?_
        refine lv_iload_n hx hb dL_lay_200 rfl (lv_at hl 3 rfl) ?_
        refine lv_iadd hx hb dL_lay_201 ?_
        refine lv_iconst (v := 5) hx hb dL_lay_202 (by decide) ?_
        obtain ⟨o41, g42, hf⟩ := jbB_e hf
        refine csn_i (As := [.ref (gS g 5 0), .int (216 + x3), .int 5]) (rest := [.int 3, .ref (ha 0 0), .int o39, .int z38]) ⟨hx, hb, hml, hown, hts⟩ (c_L_pick l g (216 + x3) 5 _ g42) (va_cwS 3 hts gL_lay_L_pick rfl rfl rfl hd_L_pick ⟨(Nat.le_of_ble_eq_true rfl), (Nat.le_of_ble_eq_true rfl)⟩) hK hZ hT hA hP hD hS hl.1 rfl rfl (Nat.le_of_ble_eq_true rfl) ⟨(show cc118 + 11 + 0 ≤ 1166 by omega), (show sc118 + 244 + 0 ≤ 25864 by omega)⟩ dL_lay_203 (fun H locs hP hD hS => ?_)
        refine lv_aload_n hx hb dL_lay_206 rfl (lv_at hl 2 rfl) ?_
        refine lv_sipush (v := 221) hx hb dL_lay_207 (by decide) ?_
        refine lv_iload_n hx hb dL_lay_210 rfl (lv_at hl 3 rfl) ?_
        refine lv_iadd hx hb dL_lay_211 ?_
        refine lv_bipush (v := 6) hx hb dL_lay_212 (by decide) ?_
        obtain ⟨o43, g44, hf⟩ := jbB_e hf
        refine csn_i (As := [.ref (gS g 5 0), .int (221 + x3), .int 6]) (rest := [.int o41, .int 3, .ref (ha 0 0), .int o39, .int z38]) ⟨hx, hb, hml, hown, hts⟩ (c_L_pick l g (221 + x3) 6 _ g44) (va_cwS 3 hts gL_lay_L_pick rfl rfl rfl hd_L_pick ⟨(Nat.le_of_ble_eq_true rfl), (Nat.le_of_ble_eq_true rfl)⟩) hK hZ hT hA hP hD hS hl.1 rfl rfl (Nat.le_of_ble_eq_true rfl) ⟨(show cc118 + 11 + 0 ≤ 1166 by omega), (show sc118 + 244 + 0 ≤ 25864 by omega)⟩ dL_lay_214 (fun H locs hP hD hS => ?_)
        refine lv_iconst (v := 0) hx hb dL_lay_217 (by decide) ?_
        refine lv_iconst (v := 0) hx hb dL_lay_218 (by decide) ?_
        obtain ⟨o45, g46, hf⟩ := jbB_e hf
        refine czws_i (As := [.ref (ha 0 0), .int 3, .int o41, .int o43, .int 0, .int 0]) (rest := [.int o39, .int z38]) (Wr := []) (Wn := fun hd47 => (wT g ha tv ++ wQ g (ha 1) (o45.2.1) ++ wH g (ha 4) hd47 (o45.2.2))) ⟨hx, hb, hml, hown, hts⟩ (c_L_deed l hlt g ha hd37 tv (o35.2.1) (o35.2.2) 3 o41 o43 0 0 _ g46) (vx_cwSW 6 hts gL_lay_L_deed rfl rfl rfl hd_L_deed ⟨(Nat.le_of_ble_eq_true rfl), (Nat.le_of_ble_eq_true rfl)⟩) hK hZ hT hA hP hD hS hl.1 (wp_of fun f => by simp only [List.countP_append, List.countP_cons, List.countP_nil] <;> omega) (fun _ => (wp_of fun f => by simp only [List.countP_append, List.countP_cons, List.countP_nil] <;> omega)) rfl rfl (Nat.le_of_ble_eq_true rfl) ⟨(show cc118 + 11 + 11 ≤ 1166 by omega), (show sc118 + 244 + 244 ≤ 25864 by omega)⟩ dL_lay_219 (fun hd47 H locs _ hP hD hS => ?_)
        refine lv_imul hx hb dL_lay_222 ?_
        refine lv_iadd hx hb dL_lay_223 ?_
        refine lv_topi (fun z48 ez48 => ?_)
        have hf := jbN_e hf ez48
        refine lv_istore_n (lv' := [(2, .int z48), (0, .ref (ha 0 0)), (1, .ref (gS g 5 0)), (3, .int x3)]) hx hb dL_lay_224 rfl hl (by decide) rfl (fun ls hl => ?_)
        refine lv_iinc (v := (x3 + 1)) (lv' := [(3, .int (x3 + 1)), (2, .int z48), (0, .ref (ha 0 0)), (1, .ref (gS g 5 0))]) hx hb dL_lay_225 hl (k := 3) rfl rfl (by decide) rfl (fun ls hl => ?_)
        refine lv_goto (tgt := 118) hx hb dL_lay_228 (by decide) ?_
        cases hf
        exact ih _ _ z48 (x3 + 1) (o45.2.1) (o45.2.2) _ _ _ _ _ (by omega) (by omega) hr hP hD hS (lv_sub hl [2, 3, 1, 0] rfl) hk
  have hL69 : ∀ (n69 : Nat) (cc69 sc69 : Nat) (x2 : Int32) (x3 : Int32) (qv : QV) (hv : HV) (hd : Nat → Nat → Nat) (H : Heap) (locs : List Loc) (ls : Array Slot) (o69 : Int32 × Int32 × QV × HV), cc69 + 11 * n69 ≤ 803 → sc69 + 244 * n69 ≤ 17812 → jbL (fun s => f_L_lay_L69 g (s.1) (s.2.1) (s.2.2.1) (s.2.2.2)) n69 (x2, x3, qv, hv) = some o69 → va_P (gD g) vwCl (wT g ha tv ++ wQ g (ha 1) qv ++ wH g (ha 4) hd hv) H → va_D A (wT g ha tv ++ wQ g (ha 1) qv ++ wH g (ha 4) hd hv) → va_S A s.heap H locs → lv_has ls 4 [(0, .ref (ha 0 0)), (1, .ref (gS g 5 0)), (2, .int x2), (3, .int x3)] → (∀ (hd : Nat → Nat → Nat) (H : Heap) (locs : List Loc) (ls : Array Slot), va_P (gD g) vwCl (wT g ha tv ++ wQ g (ha 1) (o69.2.2.1) ++ wH g (ha 4) hd (o69.2.2.2)) H → va_D A (wT g ha tv ++ wQ g (ha 1) (o69.2.2.1) ++ wH g (ha 4) hd (o69.2.2.2)) → va_S A s.heap H locs → lv_has ls 4 [(0, .ref (ha 0 0)), (1, .ref (gS g 5 0)), (2, .int (o69.1))] → W p l e rm_L_lay s mi [.ref (ha 0 0), .ref (gS g 5 0)].toArray below meth c H locs (803) (17812) Q (F0 mi 116 ls [])) → W p l e rm_L_lay s mi [.ref (ha 0 0), .ref (gS g 5 0)].toArray below meth c H locs (cc69) (sc69) Q (F0 mi 69 ls []) := by
    intro n69
    induction n69 with
    | zero => intro cc69 sc69 x2 x3 qv hv hd H locs ls o69 hcc69 hsc69 hf; exact absurd hf (jbL_0 _ _ _)
    | succ n69 ih =>
      intro cc69 sc69 x2 x3 qv hv hd H locs ls o69 hcc69 hsc69 hf hP hD hS hl hk
      obtain ⟨r, hf, hr⟩ := jbL_e hf
      have hf : f_L_lay_L69 g x2 x3 qv hv = some r := hf
      unfold f_L_lay_L69 at hf
      refine lv_iload_n hx hb dL_lay_69 rfl (lv_at hl 3 rfl) ?_
      refine lv_aload_n hx hb dL_lay_70 rfl (lv_at hl 1 rfl) ?_
      refine lv_iconst (v := 1) hx hb dL_lay_71 (by decide) ?_
      refine lv_bipush (v := 40) hx hb dL_lay_72 (by decide) ?_
      obtain ⟨o15, g16, hf⟩ := jbB_e hf
      refine csn_i (As := [.ref (gS g 5 0), .int 1, .int 40]) (rest := [.int x3]) ⟨hx, hb, hml, hown, hts⟩ (c_L_pick l g 1 40 _ g16) (va_cwS 3 hts gL_lay_L_pick rfl rfl rfl hd_L_pick ⟨(Nat.le_of_ble_eq_true rfl), (Nat.le_of_ble_eq_true rfl)⟩) hK hZ hT hA hP hD hS hl.1 rfl rfl (Nat.le_of_ble_eq_true rfl) ⟨(show cc69 + 0 ≤ 1166 by omega), (show sc69 + 0 ≤ 25864 by omega)⟩ dL_lay_74 (fun H locs hP hD hS => ?_)
      refine lv_icmp_ge (tgt := 116) hx hb dL_lay_77 (by decide) (fun hc => ?_) (fun hc => ?_)
      · have hf := jbT hf hc
        cases hf
        obtain rfl := jbR_r hr
        refine W.widen (k := 803) (n := 17812) (by omega) (by omega) ?_
        exact hk _ _ _ _ hP hD hS (lv_sub hl [0, 1, 2] rfl)
      · have hf := jbF hf hc
        refine lv_iload_n hx hb dL_lay_80 rfl (lv_at hl 2 rfl) ?_
        refine lv_aload_n hx hb dL_lay_81 rfl (lv_at hl 0 rfl) ?_
        refine lv_iconst (v := 1) hx hb dL_lay_82 (by decide) ?_
        refine lv_aload_n hx hb dL_lay_83 rfl (lv_at hl 1 rfl) ?_
        refine lv_bipush (v := 91) hx hb dL_lay_84 (by decide) ?_
        refine lv_iload_n hx hb dL_lay_86 rfl (lv_at hl 3 rfl) ?_
        refine lv_iadd hx hb dL_lay_87 ?_
        refine lv_iconst (v := 5) hx hb dL_lay_88 (by decide) ?_
        obtain ⟨o17, g18, hf⟩ := jbB_e hf
        refine csn_i (As := [.ref (gS g 5 0), .int (91 + x3), .int 5]) (rest := [.int 1, .ref (ha 0 0), .int x2]) ⟨hx, hb, hml, hown, hts⟩ (c_L_pick l g (91 + x3) 5 _ g18) (va_cwS 3 hts gL_lay_L_pick rfl rfl rfl hd_L_pick ⟨(Nat.le_of_ble_eq_true rfl), (Nat.le_of_ble_eq_true rfl)⟩) hK hZ hT hA hP hD hS hl.1 rfl rfl (Nat.le_of_ble_eq_true rfl) ⟨(show cc69 + 0 ≤ 1166 by omega), (show sc69 + 0 ≤ 25864 by omega)⟩ dL_lay_89 (fun H locs hP hD hS => ?_)
        refine lv_aload_n hx hb dL_lay_92 rfl (lv_at hl 1 rfl) ?_
        refine lv_sipush (v := 141) hx hb dL_lay_93 (by decide) ?_
        refine lv_iload_n hx hb dL_lay_96 rfl (lv_at hl 3 rfl) ?_
        refine lv_iadd hx hb dL_lay_97 ?_
        refine lv_bipush (v := 6) hx hb dL_lay_98 (by decide) ?_
        obtain ⟨o19, g20, hf⟩ := jbB_e hf
        refine csn_i (As := [.ref (gS g 5 0), .int (141 + x3), .int 6]) (rest := [.int o17, .int 1, .ref (ha 0 0), .int x2]) ⟨hx, hb, hml, hown, hts⟩ (c_L_pick l g (141 + x3) 6 _ g20) (va_cwS 3 hts gL_lay_L_pick rfl rfl rfl hd_L_pick ⟨(Nat.le_of_ble_eq_true rfl), (Nat.le_of_ble_eq_true rfl)⟩) hK hZ hT hA hP hD hS hl.1 rfl rfl (Nat.le_of_ble_eq_true rfl) ⟨(show cc69 + 0 ≤ 1166 by omega), (show sc69 + 0 ≤ 25864 by omega)⟩ dL_lay_100 (fun H locs hP hD hS => ?_)
        refine lv_iconst (v := 0) hx hb dL_lay_103 (by decide) ?_
        refine lv_iconst (v := 0) hx hb dL_lay_104 (by decide) ?_
        obtain ⟨o21, g22, hf⟩ := jbB_e hf
        refine czws_i (As := [.ref (ha 0 0), .int 1, .int o17, .int o19, .int 0, .int 0]) (rest := [.int x2]) (Wr := []) (Wn := fun hd23 => (wT g ha tv ++ wQ g (ha 1) (o21.2.1) ++ wH g (ha 4) hd23 (o21.2.2))) ⟨hx, hb, hml, hown, hts⟩ (c_L_deed l hlt g ha hd tv qv hv 1 o17 o19 0 0 _ g22) (vx_cwSW 6 hts gL_lay_L_deed rfl rfl rfl hd_L_deed ⟨(Nat.le_of_ble_eq_true rfl), (Nat.le_of_ble_eq_true rfl)⟩) hK hZ hT hA hP hD hS hl.1 (wp_of fun f => by simp only [List.countP_append, List.countP_cons, List.countP_nil] <;> omega) (fun _ => (wp_of fun f => by simp only [List.countP_append, List.countP_cons, List.countP_nil] <;> omega)) rfl rfl (Nat.le_of_ble_eq_true rfl) ⟨(show cc69 + 11 ≤ 1166 by omega), (show sc69 + 244 ≤ 25864 by omega)⟩ dL_lay_105 (fun hd23 H locs _ hP hD hS => ?_)
        refine lv_iadd hx hb dL_lay_108 ?_
        refine lv_topi (fun z24 ez24 => ?_)
        have hf := jbN_e hf ez24
        refine lv_istore_n (lv' := [(2, .int z24), (0, .ref (ha 0 0)), (1, .ref (gS g 5 0)), (3, .int x3)]) hx hb dL_lay_109 rfl hl (by decide) rfl (fun ls hl => ?_)
        refine lv_iinc (v := (x3 + 1)) (lv' := [(3, .int (x3 + 1)), (2, .int z24), (0, .ref (ha 0 0)), (1, .ref (gS g 5 0))]) hx hb dL_lay_110 hl (k := 3) rfl rfl (by decide) rfl (fun ls hl => ?_)
        refine lv_goto (tgt := 69) hx hb dL_lay_113 (by decide) ?_
        cases hf
        exact ih _ _ z24 (x3 + 1) (o21.2.1) (o21.2.2) _ _ _ _ _ (by omega) (by omega) hr hP hD hS (lv_sub hl [2, 3, 1, 0] rfl) hk
  have hL19 : ∀ (n19 : Nat) (cc19 sc19 : Nat) (x2 : Int32) (x3 : Int32) (qv : QV) (hv : HV) (hd : Nat → Nat → Nat) (H : Heap) (locs : List Loc) (ls : Array Slot) (o19 : Int32 × Int32 × QV × HV), cc19 + 11 * n19 ≤ 352 → sc19 + 244 * n19 ≤ 7808 → jbL (fun s => f_L_lay_L19 g (s.1) (s.2.1) (s.2.2.1) (s.2.2.2)) n19 (x2, x3, qv, hv) = some o19 → va_P (gD g) vwCl (wT g ha tv ++ wQ g (ha 1) qv ++ wH g (ha 4) hd hv) H → va_D A (wT g ha tv ++ wQ g (ha 1) qv ++ wH g (ha 4) hd hv) → va_S A s.heap H locs → lv_has ls 4 [(0, .ref (ha 0 0)), (1, .ref (gS g 5 0)), (2, .int x2), (3, .int x3)] → (∀ (hd : Nat → Nat → Nat) (H : Heap) (locs : List Loc) (ls : Array Slot), va_P (gD g) vwCl (wT g ha tv ++ wQ g (ha 1) (o19.2.2.1) ++ wH g (ha 4) hd (o19.2.2.2)) H → va_D A (wT g ha tv ++ wQ g (ha 1) (o19.2.2.1) ++ wH g (ha 4) hd (o19.2.2.2)) → va_S A s.heap H locs → lv_has ls 4 [(0, .ref (ha 0 0)), (1, .ref (gS g 5 0)), (2, .int (o19.1))] → W p l e rm_L_lay s mi [.ref (ha 0 0), .ref (gS g 5 0)].toArray below meth c H locs (352) (7808) Q (F0 mi 67 ls [])) → W p l e rm_L_lay s mi [.ref (ha 0 0), .ref (gS g 5 0)].toArray below meth c H locs (cc19) (sc19) Q (F0 mi 19 ls []) := by
    intro n19
    induction n19 with
    | zero => intro cc19 sc19 x2 x3 qv hv hd H locs ls o19 hcc19 hsc19 hf; exact absurd hf (jbL_0 _ _ _)
    | succ n19 ih =>
      intro cc19 sc19 x2 x3 qv hv hd H locs ls o19 hcc19 hsc19 hf hP hD hS hl hk
      obtain ⟨r, hf, hr⟩ := jbL_e hf
      have hf : f_L_lay_L19 g x2 x3 qv hv = some r := hf
      unfold f_L_lay_L19 at hf
      refine lv_iload_n hx hb dL_lay_19 rfl (lv_at hl 3 rfl) ?_
      refine lv_bipush (v := 30) hx hb dL_lay_20 (by decide) ?_
      refine lv_icmp_ge (tgt := 67) hx hb dL_lay_22 (by decide) (fun hc => ?_) (fun hc => ?_)
      · have hf := jbT hf hc
        cases hf
        obtain rfl := jbR_r hr
        refine W.widen (k := 352) (n := 7808) (by omega) (by omega) ?_
        exact hk _ _ _ _ hP hD hS (lv_sub hl [0, 1, 2] rfl)
      · have hf := jbF hf hc
        refine lv_iload_n hx hb dL_lay_25 rfl (lv_at hl 2 rfl) ?_
        refine lv_aload_n hx hb dL_lay_26 rfl (lv_at hl 1 rfl) ?_
        refine lv_bipush (v := 11) hx hb dL_lay_27 (by decide) ?_
        refine lv_iload_n hx hb dL_lay_29 rfl (lv_at hl 3 rfl) ?_
        refine lv_iadd hx hb dL_lay_30 ?_
        refine lv_iconst (v := 2) hx hb dL_lay_31 (by decide) ?_
        obtain ⟨o7, g8, hf⟩ := jbB_e hf
        refine csn_i (As := [.ref (gS g 5 0), .int (11 + x3), .int 2]) (rest := [.int x2]) ⟨hx, hb, hml, hown, hts⟩ (c_L_pick l g (11 + x3) 2 _ g8) (va_cwS 3 hts gL_lay_L_pick rfl rfl rfl hd_L_pick ⟨(Nat.le_of_ble_eq_true rfl), (Nat.le_of_ble_eq_true rfl)⟩) hK hZ hT hA hP hD hS hl.1 rfl rfl (Nat.le_of_ble_eq_true rfl) ⟨(show cc19 + 0 ≤ 1166 by omega), (show sc19 + 0 ≤ 25864 by omega)⟩ dL_lay_32 (fun H locs hP hD hS => ?_)
        refine lv_aload_n hx hb dL_lay_35 rfl (lv_at hl 0 rfl) ?_
        refine lv_iconst (v := 0) hx hb dL_lay_36 (by decide) ?_
        refine lv_iload_n hx hb dL_lay_37 rfl (lv_at hl 3 rfl) ?_
        refine lv_bipush (v := 6) hx hb dL_lay_38 (by decide) ?_
        refine lv_idiv hx hb dL_lay_40 (by decide) ?_
        refine lv_iload_n hx hb dL_lay_41 rfl (lv_at hl 3 rfl) ?_
        refine lv_bipush (v := 6) hx hb dL_lay_42 (by decide) ?_
        refine lv_irem hx hb dL_lay_44 (by decide) ?_
        refine lv_aload_n hx hb dL_lay_45 rfl (lv_at hl 1 rfl) ?_
        refine lv_bipush (v := 51) hx hb dL_lay_46 (by decide) ?_
        refine lv_iload_n hx hb dL_lay_48 rfl (lv_at hl 3 rfl) ?_
        refine lv_iadd hx hb dL_lay_49 ?_
        refine lv_iconst (v := 4) hx hb dL_lay_50 (by decide) ?_
        obtain ⟨o9, g10, hf⟩ := jbB_e hf
        refine csn_i (As := [.ref (gS g 5 0), .int (51 + x3), .int 4]) (rest := [.int (x3 - x3 / 6 * 6), .int (x3 / 6), .int 0, .ref (ha 0 0), .int o7, .int x2]) ⟨hx, hb, hml, hown, hts⟩ (c_L_pick l g (51 + x3) 4 _ g10) (va_cwS 3 hts gL_lay_L_pick rfl rfl rfl hd_L_pick ⟨(Nat.le_of_ble_eq_true rfl), (Nat.le_of_ble_eq_true rfl)⟩) hK hZ hT hA hP hD hS hl.1 rfl rfl (Nat.le_of_ble_eq_true rfl) ⟨(show cc19 + 0 ≤ 1166 by omega), (show sc19 + 0 ≤ 25864 by omega)⟩ dL_lay_51 (fun H locs hP hD hS => ?_)
        refine lv_iconst (v := 0) hx hb dL_lay_54 (by decide) ?_
        obtain ⟨o11, g12, hf⟩ := jbB_e hf
        refine czws_i (As := [.ref (ha 0 0), .int 0, .int (x3 / 6), .int (x3 - x3 / 6 * 6), .int o9, .int 0]) (rest := [.int o7, .int x2]) (Wr := []) (Wn := fun hd13 => (wT g ha tv ++ wQ g (ha 1) (o11.2.1) ++ wH g (ha 4) hd13 (o11.2.2))) ⟨hx, hb, hml, hown, hts⟩ (c_L_deed l hlt g ha hd tv qv hv 0 (x3 / 6) (x3 - x3 / 6 * 6) o9 0 _ g12) (vx_cwSW 6 hts gL_lay_L_deed rfl rfl rfl hd_L_deed ⟨(Nat.le_of_ble_eq_true rfl), (Nat.le_of_ble_eq_true rfl)⟩) hK hZ hT hA hP hD hS hl.1 (wp_of fun f => by simp only [List.countP_append, List.countP_cons, List.countP_nil] <;> omega) (fun _ => (wp_of fun f => by simp only [List.countP_append, List.countP_cons, List.countP_nil] <;> omega)) rfl rfl (Nat.le_of_ble_eq_true rfl) ⟨(show cc19 + 11 ≤ 1166 by omega), (show sc19 + 244 ≤ 25864 by omega)⟩ dL_lay_55 (fun hd13 H locs _ hP hD hS => ?_)
        refine lv_imul hx hb dL_lay_58 ?_
        refine lv_iadd hx hb dL_lay_59 ?_
        refine lv_topi (fun z14 ez14 => ?_)
        have hf := jbN_e hf ez14
        refine lv_istore_n (lv' := [(2, .int z14), (0, .ref (ha 0 0)), (1, .ref (gS g 5 0)), (3, .int x3)]) hx hb dL_lay_60 rfl hl (by decide) rfl (fun ls hl => ?_)
        refine lv_iinc (v := (x3 + 1)) (lv' := [(3, .int (x3 + 1)), (2, .int z14), (0, .ref (ha 0 0)), (1, .ref (gS g 5 0))]) hx hb dL_lay_61 hl (k := 3) rfl rfl (by decide) rfl (fun ls hl => ?_)
        refine lv_goto (tgt := 19) hx hb dL_lay_64 (by decide) ?_
        cases hf
        exact ih _ _ z14 (x3 + 1) (o11.2.1) (o11.2.2) _ _ _ _ _ (by omega) (by omega) hr hP hD hS (lv_sub hl [2, 3, 1, 0] rfl) hk
  refine lv_aload_n hx hb dL_lay_0 rfl (lv_at hl 0 rfl) ?_
  refine lv_iconst (v := 4) hx hb dL_lay_1 (by decide) ?_
  refine lv_iconst (v := 1) hx hb dL_lay_2 (by decide) ?_
  refine lv_aload_n hx hb dL_lay_3 rfl (lv_at hl 1 rfl) ?_
  refine lv_iconst (v := 0) hx hb dL_lay_4 (by decide) ?_
  refine lv_iconst (v := 4) hx hb dL_lay_5 (by decide) ?_
  obtain ⟨o1, g2, hf⟩ := jbB_e hf
  refine csn_i (As := [.ref (gS g 5 0), .int 0, .int 4]) (rest := [.int 1, .int 4, .ref (ha 0 0)]) ⟨hx, hb, hml, hown, hts⟩ (c_L_pick l g 0 4 _ g2) (va_cwS 3 hts gL_lay_L_pick rfl rfl rfl hd_L_pick ⟨(Nat.le_of_ble_eq_true rfl), (Nat.le_of_ble_eq_true rfl)⟩) hK hZ hT hA hP hD hS hl.1 rfl rfl (Nat.le_of_ble_eq_true rfl) ⟨(Nat.le_of_ble_eq_true rfl), (Nat.le_of_ble_eq_true rfl)⟩ dL_lay_6 (fun H locs hP hD hS => ?_)
  refine lv_iadd hx hb dL_lay_9 ?_
  refine lv_iconst (v := 0) hx hb dL_lay_10 (by decide) ?_
  refine lv_iconst (v := 0) hx hb dL_lay_11 (by decide) ?_
  refine lv_iconst (v := 0) hx hb dL_lay_12 (by decide) ?_
  obtain ⟨o3, g4, hf⟩ := jbB_e hf
  refine czws_i (As := [.ref (ha 0 0), .int 4, .int (1 + o1), .int 0, .int 0, .int 0]) (rest := []) (Wr := []) (Wn := fun hd5 => (wT g ha tv ++ wQ g (ha 1) (o3.2.1) ++ wH g (ha 4) hd5 (o3.2.2))) ⟨hx, hb, hml, hown, hts⟩ (c_L_deed l hlt g ha hd tv qv hv 4 (1 + o1) 0 0 0 _ g4) (vx_cwSW 6 hts gL_lay_L_deed rfl rfl rfl hd_L_deed ⟨(Nat.le_of_ble_eq_true rfl), (Nat.le_of_ble_eq_true rfl)⟩) hK hZ hT hA hP hD hS hl.1 (wp_of fun f => by simp only [List.countP_append, List.countP_cons, List.countP_nil] <;> omega) (fun _ => (wp_of fun f => by simp only [List.countP_append, List.countP_cons, List.countP_nil] <;> omega)) rfl rfl (Nat.le_of_ble_eq_true rfl) ⟨(Nat.le_of_ble_eq_true rfl), (Nat.le_of_ble_eq_true rfl)⟩ dL_lay_13 (fun hd5 H locs _ hP hD hS => ?_)
  refine lv_topi (fun z6 ez6 => ?_)
  have hf := jbN_e hf ez6
  refine lv_istore_n (lv' := [(2, .int z6), (0, .ref (ha 0 0)), (1, .ref (gS g 5 0))]) hx hb dL_lay_16 rfl hl (by decide) rfl (fun ls hl => ?_)
  refine lv_iconst (v := 0) hx hb dL_lay_17 (by decide) ?_
  refine lv_istore_n (lv' := [(3, .int 0), (2, .int z6), (0, .ref (ha 0 0)), (1, .ref (gS g 5 0))]) hx hb dL_lay_18 rfl hl (by decide) rfl (fun ls hl => ?_)
  obtain ⟨o19, hg, hf⟩ := jbB_e hf
  refine hL19 _ _ _ z6 0 (o3.2.1) (o3.2.2) _ _ _ _ _ (Nat.le_of_ble_eq_true rfl) (Nat.le_of_ble_eq_true rfl) hg hP hD hS (lv_sub hl [2, 3, 1, 0] rfl) (fun hd H locs ls hP hD hS hl => ?_)
  refine lv_iconst (v := 0) hx hb dL_lay_67 (by decide) ?_
  refine lv_istore_n (lv' := [(3, .int 0), (0, .ref (ha 0 0)), (1, .ref (gS g 5 0)), (2, .int (o19.1))]) hx hb dL_lay_68 rfl hl (by decide) rfl (fun ls hl => ?_)
  obtain ⟨o69, hg, hf⟩ := jbB_e hf
  refine hL69 _ _ _ (o19.1) 0 (o19.2.2.1) (o19.2.2.2) _ _ _ _ _ (Nat.le_of_ble_eq_true rfl) (Nat.le_of_ble_eq_true rfl) hg hP hD hS (lv_sub hl [1, 2, 3, 0] rfl) (fun hd H locs ls hP hD hS hl => ?_)
  refine lv_iconst (v := 0) hx hb dL_lay_116 (by decide) ?_
  refine lv_istore_n (lv' := [(3, .int 0), (0, .ref (ha 0 0)), (1, .ref (gS g 5 0)), (2, .int (o69.1))]) hx hb dL_lay_117 rfl hl (by decide) rfl (fun ls hl => ?_)
  obtain ⟨o118, hg, hf⟩ := jbB_e hf
  refine hL118 _ _ _ (o69.1) 0 (o69.2.2.1) (o69.2.2.2) _ _ _ _ _ (Nat.le_of_ble_eq_true rfl) (Nat.le_of_ble_eq_true rfl) hg hP hD hS (lv_sub hl [1, 2, 3, 0] rfl) (fun hd H locs ls hP hD hS hl => ?_)
  refine lv_iconst (v := 0) hx hb dL_lay_231 (by decide) ?_
  refine lv_istore_n (lv' := [(3, .int 0), (0, .ref (ha 0 0)), (1, .ref (gS g 5 0)), (2, .int (o118.1))]) hx hb dL_lay_232 rfl hl (by decide) rfl (fun ls hl => ?_)
  obtain ⟨o233, hg, hf⟩ := jbB_e hf
  refine hL233 _ _ _ (o118.1) 0 (o118.2.2.1) (o118.2.2.2) _ _ _ _ _ (Nat.le_of_ble_eq_true rfl) (Nat.le_of_ble_eq_true rfl) hg hP hD hS (lv_sub hl [1, 2, 3, 0] rfl) (fun hd H locs ls hP hD hS hl => ?_)
  cases hf
  subst hQ
  exact rz_v (RT := Nat → Nat → Nat) (PR := fun _ => True) (W1 := fun z => (wT g ha tv ++ wQ g (ha 1) (o233.2.2.1) ++ wH g (ha 4) z (o233.2.2.2))) hd trivial hx hb hrt hlk hK hP hD hS (Nat.le_of_ble_eq_true rfl) (Nat.le_of_ble_eq_true rfl) dL_lay_291
def rm_L_any : Room := { frames := 12, cells := 11, slots := 244, locals := 215 }
theorem hd_L_any : yL_any.cls ≠ "java/lang/invoke/MethodHandle" ∧ yL_any.cls ≠ "java/lang/invoke/VarHandle" ∧ (parseMethodDescriptor yL_any.desc).map (fun d => d.parameters.length) = some 3 := by decide +kernel
set_option maxHeartbeats 4000000 in
set_option maxRecDepth 100000 in
theorem c_L_any (l : Launch) (hlt : l.stackTraces = false) (g : GG) (ha : Nat → Nat → Nat) (hd : Nat → Nat → Nat) (tv : TV) (qv : QV) (hv : HV) (a2 : Int32) (out : Int32 × QV × HV) (hf : f_L_any g qv hv a2 = some out) : MzI (RT := Nat → Nat → Nat) l yL_any wsL_any rm_L_any g (wT g ha tv ++ wQ g (ha 1) qv ++ wH g (ha 4) hd hv) [.ref (ha 0 0), .ref (gS g 5 0), .int a2] (fun _ => True) (fun _ => (out.1)) (fun z => (wT g ha tv ++ wQ g (ha 1) (out.2.1) ++ wH g (ha 4) z (out.2.2))) 11 244 := by
  refine fun sz => mt_of (cc := cL_any) (maxL := 5) (ret := (some .int)) (own := RL) (Qc := fun A => va_Qi (fun r (z : Nat → Nat → Nat) => True ∧ r = (out.1)) (fun z t => PosM g A (wT g ha tv ++ wQ g (ha 1) (out.2.1) ++ wH g (ha 4) z (out.2.2)) t) A) (by decide +kernel) rfl rfl (Nat.le_of_ble_eq_true rfl) ?_ sz
  intro p e s mi below meth c A ls hB hnm hrt hlk hP hD hl
  obtain ⟨hx, hb, hml, hown, hts, hK, hZ, hT, hA, -⟩ := hB
  have hS : va_S A s.heap s.heap [] := va_S.rf
  have hl : lv_has ls 5 [(0, .ref (ha 0 0)), (1, .ref (gS g 5 0)), (2, .int a2)] := hl
  have k0 := hts (.methodLink RL 114 Lib.Math.max.name) (by decide +kernel)
  have k1 := hts (.static Lib.Math.max.name) (by decide +kernel)
  have k2 := hts (.initialized "java/lang/Math") (by decide +kernel)
  have k3 := hts (.code Lib.Math.max.name Lib.Math.max.code 2 (some .int)) (by decide +kernel)
  generalize hQ : MQ below _ _ _ _ _ _ = Q
  unfold f_L_any at hf
  refine lv_aload_n hx hb dL_any_0 rfl (lv_at hl 1 rfl) ?_
  refine lv_iload_n hx hb dL_any_1 rfl (lv_at hl 2 rfl) ?_
  refine lv_iconst (v := 1) hx hb dL_any_2 (by decide) ?_
  refine lv_iadd hx hb dL_any_3 ?_
  refine lv_iconst (v := 5) hx hb dL_any_4 (by decide) ?_
  obtain ⟨o1, g2, hf⟩ := jbB_e hf
  refine csn_i (As := [.ref (gS g 5 0), .int (a2 + 1), .int 5]) (rest := []) ⟨hx, hb, hml, hown, hts⟩ (c_L_pick l g (a2 + 1) 5 _ g2) (va_cwS 3 hts gL_any_L_pick rfl rfl rfl hd_L_pick ⟨(Nat.le_of_ble_eq_true rfl), (Nat.le_of_ble_eq_true rfl)⟩) hK hZ hT hA hP hD hS hl.1 rfl rfl (Nat.le_of_ble_eq_true rfl) ⟨(Nat.le_of_ble_eq_true rfl), (Nat.le_of_ble_eq_true rfl)⟩ dL_any_5 (fun H locs hP hD hS => ?_)
  refine lv_istore_n (lv' := [(3, .int o1), (0, .ref (ha 0 0)), (1, .ref (gS g 5 0)), (2, .int a2)]) hx hb dL_any_8 rfl hl (by decide) rfl (fun ls hl => ?_)
  refine lv_aload_n hx hb dL_any_9 rfl (lv_at hl 2 rfl) ?_
  refine lv_iload_n hx hb dL_any_10 rfl (lv_at hl 3 rfl) ?_
  refine lv_iconst (v := 2) hx hb dL_any_11 (by decide) ?_
  refine lv_iadd hx hb dL_any_12 ?_
  refine lv_bipush (v := 6) hx hb dL_any_13 (by decide) ?_
  obtain ⟨o3, g4, hf⟩ := jbB_e hf
  refine csn_i (As := [.ref (gS g 5 0), .int (a2 + 2), .int 6]) (rest := []) ⟨hx, hb, hml, hown, hts⟩ (c_L_pick l g (a2 + 2) 6 _ g4) (va_cwS 3 hts gL_any_L_pick rfl rfl rfl hd_L_pick ⟨(Nat.le_of_ble_eq_true rfl), (Nat.le_of_ble_eq_true rfl)⟩) hK hZ hT hA hP hD hS hl.1 rfl rfl (Nat.le_of_ble_eq_true rfl) ⟨(Nat.le_of_ble_eq_true rfl), (Nat.le_of_ble_eq_true rfl)⟩ dL_any_15 (fun H locs hP hD hS => ?_)
  refine lv_istore (lv' := [(4, .int o3), (3, .int o1), (0, .ref (ha 0 0)), (1, .ref (gS g 5 0)), (2, .int a2)]) hx hb dL_any_18 hl (by decide) rfl (fun ls hl => ?_)
  refine lv_aload_n hx hb dL_any_20 rfl (lv_at hl 3 rfl) ?_
  refine lv_iload_n hx hb dL_any_21 rfl (lv_at hl 4 rfl) ?_
  refine lv_bipush (v := 24) hx hb dL_any_22 (by decide) ?_
  obtain ⟨o5, g6, hf⟩ := jbB_e hf
  refine csn_i (As := [.ref (gS g 5 0), .int a2, .int 24]) (rest := []) ⟨hx, hb, hml, hown, hts⟩ (c_L_pick l g a2 24 _ g6) (va_cwS 3 hts gL_any_L_pick rfl rfl rfl hd_L_pick ⟨(Nat.le_of_ble_eq_true rfl), (Nat.le_of_ble_eq_true rfl)⟩) hK hZ hT hA hP hD hS hl.1 rfl rfl (Nat.le_of_ble_eq_true rfl) ⟨(Nat.le_of_ble_eq_true rfl), (Nat.le_of_ble_eq_true rfl)⟩ dL_any_24 (fun H locs hP hD hS => ?_)
  by_cases hc7 : o5 = 0
  · have hf := jbT hf hc7
    refine lv_tableIn (tgt := 108) hx hb dL_any_27 (by rw [hc7]; decide) (by rw [hc7]; decide) (by rw [hc7]; rfl) (by decide) ?_
    refine lv_aload_n hx hb dL_any_108 rfl (lv_at hl 2 rfl) ?_
    refine lv_iconst (v := 0) hx hb dL_any_109 (by decide) ?_
    refine lv_iload_n hx hb dL_any_110 rfl (lv_at hl 1 rfl) ?_
    refine lv_iload hx hb dL_any_111 (lv_at hl 0 rfl) ?_
    refine lv_aload_n hx hb dL_any_113 rfl (lv_at hl 3 rfl) ?_
    refine lv_iload_n hx hb dL_any_114 rfl (lv_at hl 4 rfl) ?_
    refine lv_iconst (v := 3) hx hb dL_any_115 (by decide) ?_
    refine lv_iadd hx hb dL_any_116 ?_
    refine lv_iconst (v := 4) hx hb dL_any_117 (by decide) ?_
    obtain ⟨o8, g9, hf⟩ := jbB_e hf
    refine csn_i (As := [.ref (gS g 5 0), .int (a2 + 3), .int 4]) (rest := [.int o3, .int o1, .int 0, .ref (ha 0 0)]) ⟨hx, hb, hml, hown, hts⟩ (c_L_pick l g (a2 + 3) 4 _ g9) (va_cwS 3 hts gL_any_L_pick rfl rfl rfl hd_L_pick ⟨(Nat.le_of_ble_eq_true rfl), (Nat.le_of_ble_eq_true rfl)⟩) hK hZ hT hA hP hD hS hl.1 rfl rfl (Nat.le_of_ble_eq_true rfl) ⟨(Nat.le_of_ble_eq_true rfl), (Nat.le_of_ble_eq_true rfl)⟩ dL_any_118 (fun H locs hP hD hS => ?_)
    refine lv_iconst (v := 0) hx hb dL_any_121 (by decide) ?_
    obtain ⟨o10, g11, hf⟩ := jbB_e hf
    refine czws_i (As := [.ref (ha 0 0), .int 0, .int o1, .int o3, .int o8, .int 0]) (rest := []) (Wr := []) (Wn := fun hd12 => (wT g ha tv ++ wQ g (ha 1) (o10.2.1) ++ wH g (ha 4) hd12 (o10.2.2))) ⟨hx, hb, hml, hown, hts⟩ (c_L_deed l hlt g ha hd tv qv hv 0 o1 o3 o8 0 _ g11) (vx_cwSW 6 hts gL_any_L_deed rfl rfl rfl hd_L_deed ⟨(Nat.le_of_ble_eq_true rfl), (Nat.le_of_ble_eq_true rfl)⟩) hK hZ hT hA hP hD hS hl.1 (wp_of fun f => by simp only [List.countP_append, List.countP_cons, List.countP_nil] <;> omega) (fun _ => (wp_of fun f => by simp only [List.countP_append, List.countP_cons, List.countP_nil] <;> omega)) rfl rfl (Nat.le_of_ble_eq_true rfl) ⟨(Nat.le_of_ble_eq_true rfl), (Nat.le_of_ble_eq_true rfl)⟩ dL_any_122 (fun hd12 H locs _ hP hD hS => ?_)
    cases hf
    subst hQ
    exact rz_i (RT := Nat → Nat → Nat) (PR := fun _ => True) (rv := fun _ => (o10.1)) (W1 := fun z => (wT g ha tv ++ wQ g (ha 1) (o10.2.1) ++ wH g (ha 4) z (o10.2.2))) hd12 trivial rfl hx hb hrt hlk rfl hK hP hD hS (Nat.le_of_ble_eq_true rfl) (Nat.le_of_ble_eq_true rfl) dL_any_125
  have hf := jbF hf hc7
  by_cases hc13 : o5 = 1
  · have hf := jbT hf hc13
    refine lv_tableIn (tgt := 108) hx hb dL_any_27 (by rw [hc13]; decide) (by rw [hc13]; decide) (by rw [hc13]; rfl) (by decide) ?_
    refine lv_aload_n hx hb dL_any_108 rfl (lv_at hl 2 rfl) ?_
    refine lv_iconst (v := 0) hx hb dL_any_109 (by decide) ?_
    refine lv_iload_n hx hb dL_any_110 rfl (lv_at hl 1 rfl) ?_
    refine lv_iload hx hb dL_any_111 (lv_at hl 0 rfl) ?_
    refine lv_aload_n hx hb dL_any_113 rfl (lv_at hl 3 rfl) ?_
    refine lv_iload_n hx hb dL_any_114 rfl (lv_at hl 4 rfl) ?_
    refine lv_iconst (v := 3) hx hb dL_any_115 (by decide) ?_
    refine lv_iadd hx hb dL_any_116 ?_
    refine lv_iconst (v := 4) hx hb dL_any_117 (by decide) ?_
    obtain ⟨o14, g15, hf⟩ := jbB_e hf
    refine csn_i (As := [.ref (gS g 5 0), .int (a2 + 3), .int 4]) (rest := [.int o3, .int o1, .int 0, .ref (ha 0 0)]) ⟨hx, hb, hml, hown, hts⟩ (c_L_pick l g (a2 + 3) 4 _ g15) (va_cwS 3 hts gL_any_L_pick rfl rfl rfl hd_L_pick ⟨(Nat.le_of_ble_eq_true rfl), (Nat.le_of_ble_eq_true rfl)⟩) hK hZ hT hA hP hD hS hl.1 rfl rfl (Nat.le_of_ble_eq_true rfl) ⟨(Nat.le_of_ble_eq_true rfl), (Nat.le_of_ble_eq_true rfl)⟩ dL_any_118 (fun H locs hP hD hS => ?_)
    refine lv_iconst (v := 0) hx hb dL_any_121 (by decide) ?_
    obtain ⟨o16, g17, hf⟩ := jbB_e hf
    refine czws_i (As := [.ref (ha 0 0), .int 0, .int o1, .int o3, .int o14, .int 0]) (rest := []) (Wr := []) (Wn := fun hd18 => (wT g ha tv ++ wQ g (ha 1) (o16.2.1) ++ wH g (ha 4) hd18 (o16.2.2))) ⟨hx, hb, hml, hown, hts⟩ (c_L_deed l hlt g ha hd tv qv hv 0 o1 o3 o14 0 _ g17) (vx_cwSW 6 hts gL_any_L_deed rfl rfl rfl hd_L_deed ⟨(Nat.le_of_ble_eq_true rfl), (Nat.le_of_ble_eq_true rfl)⟩) hK hZ hT hA hP hD hS hl.1 (wp_of fun f => by simp only [List.countP_append, List.countP_cons, List.countP_nil] <;> omega) (fun _ => (wp_of fun f => by simp only [List.countP_append, List.countP_cons, List.countP_nil] <;> omega)) rfl rfl (Nat.le_of_ble_eq_true rfl) ⟨(Nat.le_of_ble_eq_true rfl), (Nat.le_of_ble_eq_true rfl)⟩ dL_any_122 (fun hd18 H locs _ hP hD hS => ?_)
    cases hf
    subst hQ
    exact rz_i (RT := Nat → Nat → Nat) (PR := fun _ => True) (rv := fun _ => (o16.1)) (W1 := fun z => (wT g ha tv ++ wQ g (ha 1) (o16.2.1) ++ wH g (ha 4) z (o16.2.2))) hd18 trivial rfl hx hb hrt hlk rfl hK hP hD hS (Nat.le_of_ble_eq_true rfl) (Nat.le_of_ble_eq_true rfl) dL_any_125
  have hf := jbF hf hc13
  by_cases hc19 : o5 = 2
  · have hf := jbT hf hc19
    refine lv_tableIn (tgt := 126) hx hb dL_any_27 (by rw [hc19]; decide) (by rw [hc19]; decide) (by rw [hc19]; rfl) (by decide) ?_
    refine lv_aload_n hx hb dL_any_126 rfl (lv_at hl 2 rfl) ?_
    refine lv_iconst (v := 3) hx hb dL_any_127 (by decide) ?_
    refine lv_iload_n hx hb dL_any_128 rfl (lv_at hl 1 rfl) ?_
    refine lv_iload hx hb dL_any_129 (lv_at hl 0 rfl) ?_
    refine lv_iconst (v := 0) hx hb dL_any_131 (by decide) ?_
    refine lv_iconst (v := 0) hx hb dL_any_132 (by decide) ?_
    obtain ⟨o20, g21, hf⟩ := jbB_e hf
    refine czws_i (As := [.ref (ha 0 0), .int 3, .int o1, .int o3, .int 0, .int 0]) (rest := []) (Wr := []) (Wn := fun hd22 => (wT g ha tv ++ wQ g (ha 1) (o20.2.1) ++ wH g (ha 4) hd22 (o20.2.2))) ⟨hx, hb, hml, hown, hts⟩ (c_L_deed l hlt g ha hd tv qv hv 3 o1 o3 0 0 _ g21) (vx_cwSW 6 hts gL_any_L_deed rfl rfl rfl hd_L_deed ⟨(Nat.le_of_ble_eq_true rfl), (Nat.le_of_ble_eq_true rfl)⟩) hK hZ hT hA hP hD hS hl.1 (wp_of fun f => by simp only [List.countP_append, List.countP_cons, List.countP_nil] <;> omega) (fun _ => (wp_of fun f => by simp only [List.countP_append, List.countP_cons, List.countP_nil] <;> omega)) rfl rfl (Nat.le_of_ble_eq_true rfl) ⟨(Nat.le_of_ble_eq_true rfl), (Nat.le_of_ble_eq_true rfl)⟩ dL_any_133 (fun hd22 H locs _ hP hD hS => ?_)
    cases hf
    subst hQ
    exact rz_i (RT := Nat → Nat → Nat) (PR := fun _ => True) (rv := fun _ => (o20.1)) (W1 := fun z => (wT g ha tv ++ wQ g (ha 1) (o20.2.1) ++ wH g (ha 4) z (o20.2.2))) hd22 trivial rfl hx hb hrt hlk rfl hK hP hD hS (Nat.le_of_ble_eq_true rfl) (Nat.le_of_ble_eq_true rfl) dL_any_136
  have hf := jbF hf hc19
  by_cases hc23 : o5 = 3
  · have hf := jbT hf hc23
    refine lv_tableIn (tgt := 126) hx hb dL_any_27 (by rw [hc23]; decide) (by rw [hc23]; decide) (by rw [hc23]; rfl) (by decide) ?_
    refine lv_aload_n hx hb dL_any_126 rfl (lv_at hl 2 rfl) ?_
    refine lv_iconst (v := 3) hx hb dL_any_127 (by decide) ?_
    refine lv_iload_n hx hb dL_any_128 rfl (lv_at hl 1 rfl) ?_
    refine lv_iload hx hb dL_any_129 (lv_at hl 0 rfl) ?_
    refine lv_iconst (v := 0) hx hb dL_any_131 (by decide) ?_
    refine lv_iconst (v := 0) hx hb dL_any_132 (by decide) ?_
    obtain ⟨o24, g25, hf⟩ := jbB_e hf
    refine czws_i (As := [.ref (ha 0 0), .int 3, .int o1, .int o3, .int 0, .int 0]) (rest := []) (Wr := []) (Wn := fun hd26 => (wT g ha tv ++ wQ g (ha 1) (o24.2.1) ++ wH g (ha 4) hd26 (o24.2.2))) ⟨hx, hb, hml, hown, hts⟩ (c_L_deed l hlt g ha hd tv qv hv 3 o1 o3 0 0 _ g25) (vx_cwSW 6 hts gL_any_L_deed rfl rfl rfl hd_L_deed ⟨(Nat.le_of_ble_eq_true rfl), (Nat.le_of_ble_eq_true rfl)⟩) hK hZ hT hA hP hD hS hl.1 (wp_of fun f => by simp only [List.countP_append, List.countP_cons, List.countP_nil] <;> omega) (fun _ => (wp_of fun f => by simp only [List.countP_append, List.countP_cons, List.countP_nil] <;> omega)) rfl rfl (Nat.le_of_ble_eq_true rfl) ⟨(Nat.le_of_ble_eq_true rfl), (Nat.le_of_ble_eq_true rfl)⟩ dL_any_133 (fun hd26 H locs _ hP hD hS => ?_)
    cases hf
    subst hQ
    exact rz_i (RT := Nat → Nat → Nat) (PR := fun _ => True) (rv := fun _ => (o24.1)) (W1 := fun z => (wT g ha tv ++ wQ g (ha 1) (o24.2.1) ++ wH g (ha 4) z (o24.2.2))) hd26 trivial rfl hx hb hrt hlk rfl hK hP hD hS (Nat.le_of_ble_eq_true rfl) (Nat.le_of_ble_eq_true rfl) dL_any_136
  have hf := jbF hf hc23
  by_cases hc27 : o5 = 4
  · have hf := jbT hf hc27
    refine lv_tableIn (tgt := 126) hx hb dL_any_27 (by rw [hc27]; decide) (by rw [hc27]; decide) (by rw [hc27]; rfl) (by decide) ?_
    refine lv_aload_n hx hb dL_any_126 rfl (lv_at hl 2 rfl) ?_
    refine lv_iconst (v := 3) hx hb dL_any_127 (by decide) ?_
    refine lv_iload_n hx hb dL_any_128 rfl (lv_at hl 1 rfl) ?_
    refine lv_iload hx hb dL_any_129 (lv_at hl 0 rfl) ?_
    refine lv_iconst (v := 0) hx hb dL_any_131 (by decide) ?_
    refine lv_iconst (v := 0) hx hb dL_any_132 (by decide) ?_
    obtain ⟨o28, g29, hf⟩ := jbB_e hf
    refine czws_i (As := [.ref (ha 0 0), .int 3, .int o1, .int o3, .int 0, .int 0]) (rest := []) (Wr := []) (Wn := fun hd30 => (wT g ha tv ++ wQ g (ha 1) (o28.2.1) ++ wH g (ha 4) hd30 (o28.2.2))) ⟨hx, hb, hml, hown, hts⟩ (c_L_deed l hlt g ha hd tv qv hv 3 o1 o3 0 0 _ g29) (vx_cwSW 6 hts gL_any_L_deed rfl rfl rfl hd_L_deed ⟨(Nat.le_of_ble_eq_true rfl), (Nat.le_of_ble_eq_true rfl)⟩) hK hZ hT hA hP hD hS hl.1 (wp_of fun f => by simp only [List.countP_append, List.countP_cons, List.countP_nil] <;> omega) (fun _ => (wp_of fun f => by simp only [List.countP_append, List.countP_cons, List.countP_nil] <;> omega)) rfl rfl (Nat.le_of_ble_eq_true rfl) ⟨(Nat.le_of_ble_eq_true rfl), (Nat.le_of_ble_eq_true rfl)⟩ dL_any_133 (fun hd30 H locs _ hP hD hS => ?_)
    cases hf
    subst hQ
    exact rz_i (RT := Nat → Nat → Nat) (PR := fun _ => True) (rv := fun _ => (o28.1)) (W1 := fun z => (wT g ha tv ++ wQ g (ha 1) (o28.2.1) ++ wH g (ha 4) z (o28.2.2))) hd30 trivial rfl hx hb hrt hlk rfl hK hP hD hS (Nat.le_of_ble_eq_true rfl) (Nat.le_of_ble_eq_true rfl) dL_any_136
  have hf := jbF hf hc27
  by_cases hc31 : o5 = 5
  · have hf := jbT hf hc31
    refine lv_tableIn (tgt := 137) hx hb dL_any_27 (by rw [hc31]; decide) (by rw [hc31]; decide) (by rw [hc31]; rfl) (by decide) ?_
    refine lv_aload_n hx hb dL_any_137 rfl (lv_at hl 2 rfl) ?_
    refine lv_iconst (v := 4) hx hb dL_any_138 (by decide) ?_
    refine lv_iconst (v := 1) hx hb dL_any_139 (by decide) ?_
    refine lv_aload_n hx hb dL_any_140 rfl (lv_at hl 3 rfl) ?_
    refine lv_iload_n hx hb dL_any_141 rfl (lv_at hl 4 rfl) ?_
    refine lv_iconst (v := 3) hx hb dL_any_142 (by decide) ?_
    refine lv_iadd hx hb dL_any_143 ?_
    refine lv_iconst (v := 4) hx hb dL_any_144 (by decide) ?_
    obtain ⟨o32, g33, hf⟩ := jbB_e hf
    refine csn_i (As := [.ref (gS g 5 0), .int (a2 + 3), .int 4]) (rest := [.int 1, .int 4, .ref (ha 0 0)]) ⟨hx, hb, hml, hown, hts⟩ (c_L_pick l g (a2 + 3) 4 _ g33) (va_cwS 3 hts gL_any_L_pick rfl rfl rfl hd_L_pick ⟨(Nat.le_of_ble_eq_true rfl), (Nat.le_of_ble_eq_true rfl)⟩) hK hZ hT hA hP hD hS hl.1 rfl rfl (Nat.le_of_ble_eq_true rfl) ⟨(Nat.le_of_ble_eq_true rfl), (Nat.le_of_ble_eq_true rfl)⟩ dL_any_145 (fun H locs hP hD hS => ?_)
    refine lv_iadd hx hb dL_any_148 ?_
    refine lv_iconst (v := 0) hx hb dL_any_149 (by decide) ?_
    refine lv_iconst (v := 0) hx hb dL_any_150 (by decide) ?_
    refine lv_iconst (v := 0) hx hb dL_any_151 (by decide) ?_
    obtain ⟨o34, g35, hf⟩ := jbB_e hf
    refine czws_i (As := [.ref (ha 0 0), .int 4, .int (1 + o32), .int 0, .int 0, .int 0]) (rest := []) (Wr := []) (Wn := fun hd36 => (wT g ha tv ++ wQ g (ha 1) (o34.2.1) ++ wH g (ha 4) hd36 (o34.2.2))) ⟨hx, hb, hml, hown, hts⟩ (c_L_deed l hlt g ha hd tv qv hv 4 (1 + o32) 0 0 0 _ g35) (vx_cwSW 6 hts gL_any_L_deed rfl rfl rfl hd_L_deed ⟨(Nat.le_of_ble_eq_true rfl), (Nat.le_of_ble_eq_true rfl)⟩) hK hZ hT hA hP hD hS hl.1 (wp_of fun f => by simp only [List.countP_append, List.countP_cons, List.countP_nil] <;> omega) (fun _ => (wp_of fun f => by simp only [List.countP_append, List.countP_cons, List.countP_nil] <;> omega)) rfl rfl (Nat.le_of_ble_eq_true rfl) ⟨(Nat.le_of_ble_eq_true rfl), (Nat.le_of_ble_eq_true rfl)⟩ dL_any_152 (fun hd36 H locs _ hP hD hS => ?_)
    cases hf
    subst hQ
    exact rz_i (RT := Nat → Nat → Nat) (PR := fun _ => True) (rv := fun _ => (o34.1)) (W1 := fun z => (wT g ha tv ++ wQ g (ha 1) (o34.2.1) ++ wH g (ha 4) z (o34.2.2))) hd36 trivial rfl hx hb hrt hlk rfl hK hP hD hS (Nat.le_of_ble_eq_true rfl) (Nat.le_of_ble_eq_true rfl) dL_any_155
  have hf := jbF hf hc31
  by_cases hc37 : o5 = 6
  · have hf := jbT hf hc37
    refine lv_tableIn (tgt := 137) hx hb dL_any_27 (by rw [hc37]; decide) (by rw [hc37]; decide) (by rw [hc37]; rfl) (by decide) ?_
    refine lv_aload_n hx hb dL_any_137 rfl (lv_at hl 2 rfl) ?_
    refine lv_iconst (v := 4) hx hb dL_any_138 (by decide) ?_
    refine lv_iconst (v := 1) hx hb dL_any_139 (by decide) ?_
    refine lv_aload_n hx hb dL_any_140 rfl (lv_at hl 3 rfl) ?_
    refine lv_iload_n hx hb dL_any_141 rfl (lv_at hl 4 rfl) ?_
    refine lv_iconst (v := 3) hx hb dL_any_142 (by decide) ?_
    refine lv_iadd hx hb dL_any_143 ?_
    refine lv_iconst (v := 4) hx hb dL_any_144 (by decide) ?_
    obtain ⟨o38, g39, hf⟩ := jbB_e hf
    refine csn_i (As := [.ref (gS g 5 0), .int (a2 + 3), .int 4]) (rest := [.int 1, .int 4, .ref (ha 0 0)]) ⟨hx, hb, hml, hown, hts⟩ (c_L_pick l g (a2 + 3) 4 _ g39) (va_cwS 3 hts gL_any_L_pick rfl rfl rfl hd_L_pick ⟨(Nat.le_of_ble_eq_true rfl), (Nat.le_of_ble_eq_true rfl)⟩) hK hZ hT hA hP hD hS hl.1 rfl rfl (Nat.le_of_ble_eq_true rfl) ⟨(Nat.le_of_ble_eq_true rfl), (Nat.le_of_ble_eq_true rfl)⟩ dL_any_145 (fun H locs hP hD hS => ?_)
    refine lv_iadd hx hb dL_any_148 ?_
    refine lv_iconst (v := 0) hx hb dL_any_149 (by decide) ?_
    refine lv_iconst (v := 0) hx hb dL_any_150 (by decide) ?_
    refine lv_iconst (v := 0) hx hb dL_any_151 (by decide) ?_
    obtain ⟨o40, g41, hf⟩ := jbB_e hf
    refine czws_i (As := [.ref (ha 0 0), .int 4, .int (1 + o38), .int 0, .int 0, .int 0]) (rest := []) (Wr := []) (Wn := fun hd42 => (wT g ha tv ++ wQ g (ha 1) (o40.2.1) ++ wH g (ha 4) hd42 (o40.2.2))) ⟨hx, hb, hml, hown, hts⟩ (c_L_deed l hlt g ha hd tv qv hv 4 (1 + o38) 0 0 0 _ g41) (vx_cwSW 6 hts gL_any_L_deed rfl rfl rfl hd_L_deed ⟨(Nat.le_of_ble_eq_true rfl), (Nat.le_of_ble_eq_true rfl)⟩) hK hZ hT hA hP hD hS hl.1 (wp_of fun f => by simp only [List.countP_append, List.countP_cons, List.countP_nil] <;> omega) (fun _ => (wp_of fun f => by simp only [List.countP_append, List.countP_cons, List.countP_nil] <;> omega)) rfl rfl (Nat.le_of_ble_eq_true rfl) ⟨(Nat.le_of_ble_eq_true rfl), (Nat.le_of_ble_eq_true rfl)⟩ dL_any_152 (fun hd42 H locs _ hP hD hS => ?_)
    cases hf
    subst hQ
    exact rz_i (RT := Nat → Nat → Nat) (PR := fun _ => True) (rv := fun _ => (o40.1)) (W1 := fun z => (wT g ha tv ++ wQ g (ha 1) (o40.2.1) ++ wH g (ha 4) z (o40.2.2))) hd42 trivial rfl hx hb hrt hlk rfl hK hP hD hS (Nat.le_of_ble_eq_true rfl) (Nat.le_of_ble_eq_true rfl) dL_any_155
  have hf := jbF hf hc37
  by_cases hc43 : o5 = 7
  · have hf := jbT hf hc43
    refine lv_tableIn (tgt := 156) hx hb dL_any_27 (by rw [hc43]; decide) (by rw [hc43]; decide) (by rw [hc43]; rfl) (by decide) ?_
    refine lv_aload_n hx hb dL_any_156 rfl (lv_at hl 2 rfl) ?_
    refine lv_iconst (v := 5) hx hb dL_any_157 (by decide) ?_
    refine lv_iload_n hx hb dL_any_158 rfl (lv_at hl 1 rfl) ?_
    refine lv_iload hx hb dL_any_159 (lv_at hl 0 rfl) ?_
    refine lv_iconst (v := 2) hx hb dL_any_161 (by decide) ?_
    refine lv_aload_n hx hb dL_any_162 rfl (lv_at hl 3 rfl) ?_
    refine lv_iload_n hx hb dL_any_163 rfl (lv_at hl 4 rfl) ?_
    refine lv_iconst (v := 3) hx hb dL_any_164 (by decide) ?_
    refine lv_iadd hx hb dL_any_165 ?_
    refine lv_bipush (v := 8) hx hb dL_any_166 (by decide) ?_
    obtain ⟨o44, g45, hf⟩ := jbB_e hf
    refine csn_i (As := [.ref (gS g 5 0), .int (a2 + 3), .int 8]) (rest := [.int 2, .int o3, .int o1, .int 5, .ref (ha 0 0)]) ⟨hx, hb, hml, hown, hts⟩ (c_L_pick l g (a2 + 3) 8 _ g45) (va_cwS 3 hts gL_any_L_pick rfl rfl rfl hd_L_pick ⟨(Nat.le_of_ble_eq_true rfl), (Nat.le_of_ble_eq_true rfl)⟩) hK hZ hT hA hP hD hS hl.1 rfl rfl (Nat.le_of_ble_eq_true rfl) ⟨(Nat.le_of_ble_eq_true rfl), (Nat.le_of_ble_eq_true rfl)⟩ dL_any_168 (fun H locs hP hD hS => ?_)
    refine lv_iadd hx hb dL_any_171 ?_
    refine lv_iconst (v := 1) hx hb dL_any_172 (by decide) ?_
    refine lv_aload_n hx hb dL_any_173 rfl (lv_at hl 3 rfl) ?_
    refine lv_iload_n hx hb dL_any_174 rfl (lv_at hl 4 rfl) ?_
    refine lv_iconst (v := 4) hx hb dL_any_175 (by decide) ?_
    refine lv_iadd hx hb dL_any_176 ?_
    refine lv_bipush (v := 6) hx hb dL_any_177 (by decide) ?_
    obtain ⟨o46, g47, hf⟩ := jbB_e hf
    refine csn_i (As := [.ref (gS g 5 0), .int (a2 + 4), .int 6]) (rest := [.int 1, .int (2 + o44), .int o3, .int o1, .int 5, .ref (ha 0 0)]) ⟨hx, hb, hml, hown, hts⟩ (c_L_pick l g (a2 + 4) 6 _ g47) (va_cwS 3 hts gL_any_L_pick rfl rfl rfl hd_L_pick ⟨(Nat.le_of_ble_eq_true rfl), (Nat.le_of_ble_eq_true rfl)⟩) hK hZ hT hA hP hD hS hl.1 rfl rfl (Nat.le_of_ble_eq_true rfl) ⟨(Nat.le_of_ble_eq_true rfl), (Nat.le_of_ble_eq_true rfl)⟩ dL_any_179 (fun H locs hP hD hS => ?_)
    refine lv_iadd hx hb dL_any_182 ?_
    obtain ⟨o48, g49, hf⟩ := jbB_e hf
    refine czws_i (As := [.ref (ha 0 0), .int 5, .int o1, .int o3, .int (2 + o44), .int (1 + o46)]) (rest := []) (Wr := []) (Wn := fun hd50 => (wT g ha tv ++ wQ g (ha 1) (o48.2.1) ++ wH g (ha 4) hd50 (o48.2.2))) ⟨hx, hb, hml, hown, hts⟩ (c_L_deed l hlt g ha hd tv qv hv 5 o1 o3 (2 + o44) (1 + o46) _ g49) (vx_cwSW 6 hts gL_any_L_deed rfl rfl rfl hd_L_deed ⟨(Nat.le_of_ble_eq_true rfl), (Nat.le_of_ble_eq_true rfl)⟩) hK hZ hT hA hP hD hS hl.1 (wp_of fun f => by simp only [List.countP_append, List.countP_cons, List.countP_nil] <;> omega) (fun _ => (wp_of fun f => by simp only [List.countP_append, List.countP_cons, List.countP_nil] <;> omega)) rfl rfl (Nat.le_of_ble_eq_true rfl) ⟨(Nat.le_of_ble_eq_true rfl), (Nat.le_of_ble_eq_true rfl)⟩ dL_any_183 (fun hd50 H locs _ hP hD hS => ?_)
    cases hf
    subst hQ
    exact rz_i (RT := Nat → Nat → Nat) (PR := fun _ => True) (rv := fun _ => (o48.1)) (W1 := fun z => (wT g ha tv ++ wQ g (ha 1) (o48.2.1) ++ wH g (ha 4) z (o48.2.2))) hd50 trivial rfl hx hb hrt hlk rfl hK hP hD hS (Nat.le_of_ble_eq_true rfl) (Nat.le_of_ble_eq_true rfl) dL_any_186
  have hf := jbF hf hc43
  by_cases hc51 : o5 = 8
  · have hf := jbT hf hc51
    refine lv_tableIn (tgt := 187) hx hb dL_any_27 (by rw [hc51]; decide) (by rw [hc51]; decide) (by rw [hc51]; rfl) (by decide) ?_
    refine lv_aload_n hx hb dL_any_187 rfl (lv_at hl 2 rfl) ?_
    refine lv_bipush (v := 6) hx hb dL_any_188 (by decide) ?_
    refine lv_iload_n hx hb dL_any_190 rfl (lv_at hl 1 rfl) ?_
    refine lv_iload hx hb dL_any_191 (lv_at hl 0 rfl) ?_
    refine lv_aload_n hx hb dL_any_193 rfl (lv_at hl 3 rfl) ?_
    refine lv_iload_n hx hb dL_any_194 rfl (lv_at hl 4 rfl) ?_
    refine lv_iconst (v := 3) hx hb dL_any_195 (by decide) ?_
    refine lv_iadd hx hb dL_any_196 ?_
    refine lv_iconst (v := 1) hx hb dL_any_197 (by decide) ?_
    refine lv_aload_n hx hb dL_any_198 rfl (lv_at hl 2 rfl) ?_
    obtain ⟨o52, g53, hf⟩ := jbB_e hf
    refine cpv_i (As := []) (rest := [.int 1, .int (a2 + 3), .ref (gS g 5 0), .int o3, .int o1, .int 6, .ref (ha 0 0)]) (Wr := (wH g (ha 4) hd hv)) (Wn := (wT g ha tv ++ wQ g (ha 1) qv ++ wH g (ha 4) hd hv)) ⟨hx, hb, hml, hown, hts⟩ (c_X10_winchCount l hlt g ha tv qv _ (show f_X10_winchCount tv qv = some o52 from g53)) (cwV 0 hts gL_any_X10_winchCount rfl rfl rfl hd_X10_winchCount ⟨(Nat.le_of_ble_eq_true rfl), (Nat.le_of_ble_eq_true rfl)⟩) hK hZ hT hA hP hD hS hl.1 (va_recv hK hP (ci := 9) (q0 := 0) rfl rfl) (wp_of fun f => by simp only [List.countP_append, List.countP_cons, List.countP_nil] <;> omega) (wp_of fun f => by simp only [List.countP_append, List.countP_cons, List.countP_nil] <;> omega) rfl rfl (Nat.le_of_ble_eq_true rfl) ⟨(Nat.le_of_ble_eq_true rfl), (Nat.le_of_ble_eq_true rfl)⟩ dL_any_199 (fun H locs hP hD hS => ?_)
    refine va_mmax hx hb (hml.trans hl.1.symm) hown k0 k1 k2 k3 (Nat.le_of_ble_eq_true rfl) (Nat.le_of_ble_eq_true rfl) (Nat.le_of_ble_eq_true rfl) (Nat.le_of_ble_eq_true rfl) dL_any_202 ?_
    obtain ⟨o54, g55, hf⟩ := jbB_e hf
    refine csn_i (As := [.ref (gS g 5 0), .int (a2 + 3), .int (jMax 1 o52)]) (rest := [.int o3, .int o1, .int 6, .ref (ha 0 0)]) ⟨hx, hb, hml, hown, hts⟩ (c_L_pick l g (a2 + 3) (jMax 1 o52) _ g55) (va_cwS 3 hts gL_any_L_pick rfl rfl rfl hd_L_pick ⟨(Nat.le_of_ble_eq_true rfl), (Nat.le_of_ble_eq_true rfl)⟩) hK hZ hT hA hP hD hS hl.1 rfl rfl (Nat.le_of_ble_eq_true rfl) ⟨(Nat.le_of_ble_eq_true rfl), (Nat.le_of_ble_eq_true rfl)⟩ dL_any_205 (fun H locs hP hD hS => ?_)
    refine lv_iconst (v := 0) hx hb dL_any_208 (by decide) ?_
    obtain ⟨o56, g57, hf⟩ := jbB_e hf
    refine czws_i (As := [.ref (ha 0 0), .int 6, .int o1, .int o3, .int o54, .int 0]) (rest := []) (Wr := []) (Wn := fun hd58 => (wT g ha tv ++ wQ g (ha 1) (o56.2.1) ++ wH g (ha 4) hd58 (o56.2.2))) ⟨hx, hb, hml, hown, hts⟩ (c_L_deed l hlt g ha hd tv qv hv 6 o1 o3 o54 0 _ g57) (vx_cwSW 6 hts gL_any_L_deed rfl rfl rfl hd_L_deed ⟨(Nat.le_of_ble_eq_true rfl), (Nat.le_of_ble_eq_true rfl)⟩) hK hZ hT hA hP hD hS hl.1 (wp_of fun f => by simp only [List.countP_append, List.countP_cons, List.countP_nil] <;> omega) (fun _ => (wp_of fun f => by simp only [List.countP_append, List.countP_cons, List.countP_nil] <;> omega)) rfl rfl (Nat.le_of_ble_eq_true rfl) ⟨(Nat.le_of_ble_eq_true rfl), (Nat.le_of_ble_eq_true rfl)⟩ dL_any_209 (fun hd58 H locs _ hP hD hS => ?_)
    cases hf
    subst hQ
    exact rz_i (RT := Nat → Nat → Nat) (PR := fun _ => True) (rv := fun _ => (o56.1)) (W1 := fun z => (wT g ha tv ++ wQ g (ha 1) (o56.2.1) ++ wH g (ha 4) z (o56.2.2))) hd58 trivial rfl hx hb hrt hlk rfl hK hP hD hS (Nat.le_of_ble_eq_true rfl) (Nat.le_of_ble_eq_true rfl) dL_any_212
  have hf := jbF hf hc51
  by_cases hc59 : o5 = 9
  · have hf := jbT hf hc59
    refine lv_tableIn (tgt := 187) hx hb dL_any_27 (by rw [hc59]; decide) (by rw [hc59]; decide) (by rw [hc59]; rfl) (by decide) ?_
    refine lv_aload_n hx hb dL_any_187 rfl (lv_at hl 2 rfl) ?_
    refine lv_bipush (v := 6) hx hb dL_any_188 (by decide) ?_
    refine lv_iload_n hx hb dL_any_190 rfl (lv_at hl 1 rfl) ?_
    refine lv_iload hx hb dL_any_191 (lv_at hl 0 rfl) ?_
    refine lv_aload_n hx hb dL_any_193 rfl (lv_at hl 3 rfl) ?_
    refine lv_iload_n hx hb dL_any_194 rfl (lv_at hl 4 rfl) ?_
    refine lv_iconst (v := 3) hx hb dL_any_195 (by decide) ?_
    refine lv_iadd hx hb dL_any_196 ?_
    refine lv_iconst (v := 1) hx hb dL_any_197 (by decide) ?_
    refine lv_aload_n hx hb dL_any_198 rfl (lv_at hl 2 rfl) ?_
    obtain ⟨o60, g61, hf⟩ := jbB_e hf
    refine cpv_i (As := []) (rest := [.int 1, .int (a2 + 3), .ref (gS g 5 0), .int o3, .int o1, .int 6, .ref (ha 0 0)]) (Wr := (wH g (ha 4) hd hv)) (Wn := (wT g ha tv ++ wQ g (ha 1) qv ++ wH g (ha 4) hd hv)) ⟨hx, hb, hml, hown, hts⟩ (c_X10_winchCount l hlt g ha tv qv _ (show f_X10_winchCount tv qv = some o60 from g61)) (cwV 0 hts gL_any_X10_winchCount rfl rfl rfl hd_X10_winchCount ⟨(Nat.le_of_ble_eq_true rfl), (Nat.le_of_ble_eq_true rfl)⟩) hK hZ hT hA hP hD hS hl.1 (va_recv hK hP (ci := 9) (q0 := 0) rfl rfl) (wp_of fun f => by simp only [List.countP_append, List.countP_cons, List.countP_nil] <;> omega) (wp_of fun f => by simp only [List.countP_append, List.countP_cons, List.countP_nil] <;> omega) rfl rfl (Nat.le_of_ble_eq_true rfl) ⟨(Nat.le_of_ble_eq_true rfl), (Nat.le_of_ble_eq_true rfl)⟩ dL_any_199 (fun H locs hP hD hS => ?_)
    refine va_mmax hx hb (hml.trans hl.1.symm) hown k0 k1 k2 k3 (Nat.le_of_ble_eq_true rfl) (Nat.le_of_ble_eq_true rfl) (Nat.le_of_ble_eq_true rfl) (Nat.le_of_ble_eq_true rfl) dL_any_202 ?_
    obtain ⟨o62, g63, hf⟩ := jbB_e hf
    refine csn_i (As := [.ref (gS g 5 0), .int (a2 + 3), .int (jMax 1 o60)]) (rest := [.int o3, .int o1, .int 6, .ref (ha 0 0)]) ⟨hx, hb, hml, hown, hts⟩ (c_L_pick l g (a2 + 3) (jMax 1 o60) _ g63) (va_cwS 3 hts gL_any_L_pick rfl rfl rfl hd_L_pick ⟨(Nat.le_of_ble_eq_true rfl), (Nat.le_of_ble_eq_true rfl)⟩) hK hZ hT hA hP hD hS hl.1 rfl rfl (Nat.le_of_ble_eq_true rfl) ⟨(Nat.le_of_ble_eq_true rfl), (Nat.le_of_ble_eq_true rfl)⟩ dL_any_205 (fun H locs hP hD hS => ?_)
    refine lv_iconst (v := 0) hx hb dL_any_208 (by decide) ?_
    obtain ⟨o64, g65, hf⟩ := jbB_e hf
    refine czws_i (As := [.ref (ha 0 0), .int 6, .int o1, .int o3, .int o62, .int 0]) (rest := []) (Wr := []) (Wn := fun hd66 => (wT g ha tv ++ wQ g (ha 1) (o64.2.1) ++ wH g (ha 4) hd66 (o64.2.2))) ⟨hx, hb, hml, hown, hts⟩ (c_L_deed l hlt g ha hd tv qv hv 6 o1 o3 o62 0 _ g65) (vx_cwSW 6 hts gL_any_L_deed rfl rfl rfl hd_L_deed ⟨(Nat.le_of_ble_eq_true rfl), (Nat.le_of_ble_eq_true rfl)⟩) hK hZ hT hA hP hD hS hl.1 (wp_of fun f => by simp only [List.countP_append, List.countP_cons, List.countP_nil] <;> omega) (fun _ => (wp_of fun f => by simp only [List.countP_append, List.countP_cons, List.countP_nil] <;> omega)) rfl rfl (Nat.le_of_ble_eq_true rfl) ⟨(Nat.le_of_ble_eq_true rfl), (Nat.le_of_ble_eq_true rfl)⟩ dL_any_209 (fun hd66 H locs _ hP hD hS => ?_)
    cases hf
    subst hQ
    exact rz_i (RT := Nat → Nat → Nat) (PR := fun _ => True) (rv := fun _ => (o64.1)) (W1 := fun z => (wT g ha tv ++ wQ g (ha 1) (o64.2.1) ++ wH g (ha 4) z (o64.2.2))) hd66 trivial rfl hx hb hrt hlk rfl hK hP hD hS (Nat.le_of_ble_eq_true rfl) (Nat.le_of_ble_eq_true rfl) dL_any_212
  have hf := jbF hf hc59
  by_cases hc67 : o5 = 10
  · have hf := jbT hf hc67
    refine lv_tableIn (tgt := 187) hx hb dL_any_27 (by rw [hc67]; decide) (by rw [hc67]; decide) (by rw [hc67]; rfl) (by decide) ?_
    refine lv_aload_n hx hb dL_any_187 rfl (lv_at hl 2 rfl) ?_
    refine lv_bipush (v := 6) hx hb dL_any_188 (by decide) ?_
    refine lv_iload_n hx hb dL_any_190 rfl (lv_at hl 1 rfl) ?_
    refine lv_iload hx hb dL_any_191 (lv_at hl 0 rfl) ?_
    refine lv_aload_n hx hb dL_any_193 rfl (lv_at hl 3 rfl) ?_
    refine lv_iload_n hx hb dL_any_194 rfl (lv_at hl 4 rfl) ?_
    refine lv_iconst (v := 3) hx hb dL_any_195 (by decide) ?_
    refine lv_iadd hx hb dL_any_196 ?_
    refine lv_iconst (v := 1) hx hb dL_any_197 (by decide) ?_
    refine lv_aload_n hx hb dL_any_198 rfl (lv_at hl 2 rfl) ?_
    obtain ⟨o68, g69, hf⟩ := jbB_e hf
    refine cpv_i (As := []) (rest := [.int 1, .int (a2 + 3), .ref (gS g 5 0), .int o3, .int o1, .int 6, .ref (ha 0 0)]) (Wr := (wH g (ha 4) hd hv)) (Wn := (wT g ha tv ++ wQ g (ha 1) qv ++ wH g (ha 4) hd hv)) ⟨hx, hb, hml, hown, hts⟩ (c_X10_winchCount l hlt g ha tv qv _ (show f_X10_winchCount tv qv = some o68 from g69)) (cwV 0 hts gL_any_X10_winchCount rfl rfl rfl hd_X10_winchCount ⟨(Nat.le_of_ble_eq_true rfl), (Nat.le_of_ble_eq_true rfl)⟩) hK hZ hT hA hP hD hS hl.1 (va_recv hK hP (ci := 9) (q0 := 0) rfl rfl) (wp_of fun f => by simp only [List.countP_append, List.countP_cons, List.countP_nil] <;> omega) (wp_of fun f => by simp only [List.countP_append, List.countP_cons, List.countP_nil] <;> omega) rfl rfl (Nat.le_of_ble_eq_true rfl) ⟨(Nat.le_of_ble_eq_true rfl), (Nat.le_of_ble_eq_true rfl)⟩ dL_any_199 (fun H locs hP hD hS => ?_)
    refine va_mmax hx hb (hml.trans hl.1.symm) hown k0 k1 k2 k3 (Nat.le_of_ble_eq_true rfl) (Nat.le_of_ble_eq_true rfl) (Nat.le_of_ble_eq_true rfl) (Nat.le_of_ble_eq_true rfl) dL_any_202 ?_
    obtain ⟨o70, g71, hf⟩ := jbB_e hf
    refine csn_i (As := [.ref (gS g 5 0), .int (a2 + 3), .int (jMax 1 o68)]) (rest := [.int o3, .int o1, .int 6, .ref (ha 0 0)]) ⟨hx, hb, hml, hown, hts⟩ (c_L_pick l g (a2 + 3) (jMax 1 o68) _ g71) (va_cwS 3 hts gL_any_L_pick rfl rfl rfl hd_L_pick ⟨(Nat.le_of_ble_eq_true rfl), (Nat.le_of_ble_eq_true rfl)⟩) hK hZ hT hA hP hD hS hl.1 rfl rfl (Nat.le_of_ble_eq_true rfl) ⟨(Nat.le_of_ble_eq_true rfl), (Nat.le_of_ble_eq_true rfl)⟩ dL_any_205 (fun H locs hP hD hS => ?_)
    refine lv_iconst (v := 0) hx hb dL_any_208 (by decide) ?_
    obtain ⟨o72, g73, hf⟩ := jbB_e hf
    refine czws_i (As := [.ref (ha 0 0), .int 6, .int o1, .int o3, .int o70, .int 0]) (rest := []) (Wr := []) (Wn := fun hd74 => (wT g ha tv ++ wQ g (ha 1) (o72.2.1) ++ wH g (ha 4) hd74 (o72.2.2))) ⟨hx, hb, hml, hown, hts⟩ (c_L_deed l hlt g ha hd tv qv hv 6 o1 o3 o70 0 _ g73) (vx_cwSW 6 hts gL_any_L_deed rfl rfl rfl hd_L_deed ⟨(Nat.le_of_ble_eq_true rfl), (Nat.le_of_ble_eq_true rfl)⟩) hK hZ hT hA hP hD hS hl.1 (wp_of fun f => by simp only [List.countP_append, List.countP_cons, List.countP_nil] <;> omega) (fun _ => (wp_of fun f => by simp only [List.countP_append, List.countP_cons, List.countP_nil] <;> omega)) rfl rfl (Nat.le_of_ble_eq_true rfl) ⟨(Nat.le_of_ble_eq_true rfl), (Nat.le_of_ble_eq_true rfl)⟩ dL_any_209 (fun hd74 H locs _ hP hD hS => ?_)
    cases hf
    subst hQ
    exact rz_i (RT := Nat → Nat → Nat) (PR := fun _ => True) (rv := fun _ => (o72.1)) (W1 := fun z => (wT g ha tv ++ wQ g (ha 1) (o72.2.1) ++ wH g (ha 4) z (o72.2.2))) hd74 trivial rfl hx hb hrt hlk rfl hK hP hD hS (Nat.le_of_ble_eq_true rfl) (Nat.le_of_ble_eq_true rfl) dL_any_212
  have hf := jbF hf hc67
  by_cases hc75 : o5 = 11
  · have hf := jbT hf hc75
    refine lv_tableIn (tgt := 187) hx hb dL_any_27 (by rw [hc75]; decide) (by rw [hc75]; decide) (by rw [hc75]; rfl) (by decide) ?_
    refine lv_aload_n hx hb dL_any_187 rfl (lv_at hl 2 rfl) ?_
    refine lv_bipush (v := 6) hx hb dL_any_188 (by decide) ?_
    refine lv_iload_n hx hb dL_any_190 rfl (lv_at hl 1 rfl) ?_
    refine lv_iload hx hb dL_any_191 (lv_at hl 0 rfl) ?_
    refine lv_aload_n hx hb dL_any_193 rfl (lv_at hl 3 rfl) ?_
    refine lv_iload_n hx hb dL_any_194 rfl (lv_at hl 4 rfl) ?_
    refine lv_iconst (v := 3) hx hb dL_any_195 (by decide) ?_
    refine lv_iadd hx hb dL_any_196 ?_
    refine lv_iconst (v := 1) hx hb dL_any_197 (by decide) ?_
    refine lv_aload_n hx hb dL_any_198 rfl (lv_at hl 2 rfl) ?_
    obtain ⟨o76, g77, hf⟩ := jbB_e hf
    refine cpv_i (As := []) (rest := [.int 1, .int (a2 + 3), .ref (gS g 5 0), .int o3, .int o1, .int 6, .ref (ha 0 0)]) (Wr := (wH g (ha 4) hd hv)) (Wn := (wT g ha tv ++ wQ g (ha 1) qv ++ wH g (ha 4) hd hv)) ⟨hx, hb, hml, hown, hts⟩ (c_X10_winchCount l hlt g ha tv qv _ (show f_X10_winchCount tv qv = some o76 from g77)) (cwV 0 hts gL_any_X10_winchCount rfl rfl rfl hd_X10_winchCount ⟨(Nat.le_of_ble_eq_true rfl), (Nat.le_of_ble_eq_true rfl)⟩) hK hZ hT hA hP hD hS hl.1 (va_recv hK hP (ci := 9) (q0 := 0) rfl rfl) (wp_of fun f => by simp only [List.countP_append, List.countP_cons, List.countP_nil] <;> omega) (wp_of fun f => by simp only [List.countP_append, List.countP_cons, List.countP_nil] <;> omega) rfl rfl (Nat.le_of_ble_eq_true rfl) ⟨(Nat.le_of_ble_eq_true rfl), (Nat.le_of_ble_eq_true rfl)⟩ dL_any_199 (fun H locs hP hD hS => ?_)
    refine va_mmax hx hb (hml.trans hl.1.symm) hown k0 k1 k2 k3 (Nat.le_of_ble_eq_true rfl) (Nat.le_of_ble_eq_true rfl) (Nat.le_of_ble_eq_true rfl) (Nat.le_of_ble_eq_true rfl) dL_any_202 ?_
    obtain ⟨o78, g79, hf⟩ := jbB_e hf
    refine csn_i (As := [.ref (gS g 5 0), .int (a2 + 3), .int (jMax 1 o76)]) (rest := [.int o3, .int o1, .int 6, .ref (ha 0 0)]) ⟨hx, hb, hml, hown, hts⟩ (c_L_pick l g (a2 + 3) (jMax 1 o76) _ g79) (va_cwS 3 hts gL_any_L_pick rfl rfl rfl hd_L_pick ⟨(Nat.le_of_ble_eq_true rfl), (Nat.le_of_ble_eq_true rfl)⟩) hK hZ hT hA hP hD hS hl.1 rfl rfl (Nat.le_of_ble_eq_true rfl) ⟨(Nat.le_of_ble_eq_true rfl), (Nat.le_of_ble_eq_true rfl)⟩ dL_any_205 (fun H locs hP hD hS => ?_)
    refine lv_iconst (v := 0) hx hb dL_any_208 (by decide) ?_
    obtain ⟨o80, g81, hf⟩ := jbB_e hf
    refine czws_i (As := [.ref (ha 0 0), .int 6, .int o1, .int o3, .int o78, .int 0]) (rest := []) (Wr := []) (Wn := fun hd82 => (wT g ha tv ++ wQ g (ha 1) (o80.2.1) ++ wH g (ha 4) hd82 (o80.2.2))) ⟨hx, hb, hml, hown, hts⟩ (c_L_deed l hlt g ha hd tv qv hv 6 o1 o3 o78 0 _ g81) (vx_cwSW 6 hts gL_any_L_deed rfl rfl rfl hd_L_deed ⟨(Nat.le_of_ble_eq_true rfl), (Nat.le_of_ble_eq_true rfl)⟩) hK hZ hT hA hP hD hS hl.1 (wp_of fun f => by simp only [List.countP_append, List.countP_cons, List.countP_nil] <;> omega) (fun _ => (wp_of fun f => by simp only [List.countP_append, List.countP_cons, List.countP_nil] <;> omega)) rfl rfl (Nat.le_of_ble_eq_true rfl) ⟨(Nat.le_of_ble_eq_true rfl), (Nat.le_of_ble_eq_true rfl)⟩ dL_any_209 (fun hd82 H locs _ hP hD hS => ?_)
    cases hf
    subst hQ
    exact rz_i (RT := Nat → Nat → Nat) (PR := fun _ => True) (rv := fun _ => (o80.1)) (W1 := fun z => (wT g ha tv ++ wQ g (ha 1) (o80.2.1) ++ wH g (ha 4) z (o80.2.2))) hd82 trivial rfl hx hb hrt hlk rfl hK hP hD hS (Nat.le_of_ble_eq_true rfl) (Nat.le_of_ble_eq_true rfl) dL_any_212
  have hf := jbF hf hc75
  by_cases hc83 : o5 = 12
  · have hf := jbT hf hc83
    refine lv_tableIn (tgt := 213) hx hb dL_any_27 (by rw [hc83]; decide) (by rw [hc83]; decide) (by rw [hc83]; rfl) (by decide) ?_
    refine lv_aload_n hx hb dL_any_213 rfl (lv_at hl 2 rfl) ?_
    refine lv_bipush (v := 7) hx hb dL_any_214 (by decide) ?_
    refine lv_aload_n hx hb dL_any_216 rfl (lv_at hl 3 rfl) ?_
    refine lv_iload_n hx hb dL_any_217 rfl (lv_at hl 4 rfl) ?_
    refine lv_iconst (v := 3) hx hb dL_any_218 (by decide) ?_
    refine lv_iadd hx hb dL_any_219 ?_
    refine lv_iconst (v := 4) hx hb dL_any_220 (by decide) ?_
    obtain ⟨o84, g85, hf⟩ := jbB_e hf
    refine csn_i (As := [.ref (gS g 5 0), .int (a2 + 3), .int 4]) (rest := [.int 7, .ref (ha 0 0)]) ⟨hx, hb, hml, hown, hts⟩ (c_L_pick l g (a2 + 3) 4 _ g85) (va_cwS 3 hts gL_any_L_pick rfl rfl rfl hd_L_pick ⟨(Nat.le_of_ble_eq_true rfl), (Nat.le_of_ble_eq_true rfl)⟩) hK hZ hT hA hP hD hS hl.1 rfl rfl (Nat.le_of_ble_eq_true rfl) ⟨(Nat.le_of_ble_eq_true rfl), (Nat.le_of_ble_eq_true rfl)⟩ dL_any_221 (fun H locs hP hD hS => ?_)
    refine lv_iconst (v := 1) hx hb dL_any_224 (by decide) ?_
    refine lv_aload_n hx hb dL_any_225 rfl (lv_at hl 3 rfl) ?_
    refine lv_iload_n hx hb dL_any_226 rfl (lv_at hl 4 rfl) ?_
    refine lv_iconst (v := 4) hx hb dL_any_227 (by decide) ?_
    refine lv_iadd hx hb dL_any_228 ?_
    refine lv_iconst (v := 3) hx hb dL_any_229 (by decide) ?_
    obtain ⟨o86, g87, hf⟩ := jbB_e hf
    refine csn_i (As := [.ref (gS g 5 0), .int (a2 + 4), .int 3]) (rest := [.int 1, .int o84, .int 7, .ref (ha 0 0)]) ⟨hx, hb, hml, hown, hts⟩ (c_L_pick l g (a2 + 4) 3 _ g87) (va_cwS 3 hts gL_any_L_pick rfl rfl rfl hd_L_pick ⟨(Nat.le_of_ble_eq_true rfl), (Nat.le_of_ble_eq_true rfl)⟩) hK hZ hT hA hP hD hS hl.1 rfl rfl (Nat.le_of_ble_eq_true rfl) ⟨(Nat.le_of_ble_eq_true rfl), (Nat.le_of_ble_eq_true rfl)⟩ dL_any_230 (fun H locs hP hD hS => ?_)
    refine lv_iadd hx hb dL_any_233 ?_
    refine lv_iconst (v := 0) hx hb dL_any_234 (by decide) ?_
    refine lv_iconst (v := 0) hx hb dL_any_235 (by decide) ?_
    obtain ⟨o88, g89, hf⟩ := jbB_e hf
    refine czws_i (As := [.ref (ha 0 0), .int 7, .int o84, .int (1 + o86), .int 0, .int 0]) (rest := []) (Wr := []) (Wn := fun hd90 => (wT g ha tv ++ wQ g (ha 1) (o88.2.1) ++ wH g (ha 4) hd90 (o88.2.2))) ⟨hx, hb, hml, hown, hts⟩ (c_L_deed l hlt g ha hd tv qv hv 7 o84 (1 + o86) 0 0 _ g89) (vx_cwSW 6 hts gL_any_L_deed rfl rfl rfl hd_L_deed ⟨(Nat.le_of_ble_eq_true rfl), (Nat.le_of_ble_eq_true rfl)⟩) hK hZ hT hA hP hD hS hl.1 (wp_of fun f => by simp only [List.countP_append, List.countP_cons, List.countP_nil] <;> omega) (fun _ => (wp_of fun f => by simp only [List.countP_append, List.countP_cons, List.countP_nil] <;> omega)) rfl rfl (Nat.le_of_ble_eq_true rfl) ⟨(Nat.le_of_ble_eq_true rfl), (Nat.le_of_ble_eq_true rfl)⟩ dL_any_236 (fun hd90 H locs _ hP hD hS => ?_)
    cases hf
    subst hQ
    exact rz_i (RT := Nat → Nat → Nat) (PR := fun _ => True) (rv := fun _ => (o88.1)) (W1 := fun z => (wT g ha tv ++ wQ g (ha 1) (o88.2.1) ++ wH g (ha 4) z (o88.2.2))) hd90 trivial rfl hx hb hrt hlk rfl hK hP hD hS (Nat.le_of_ble_eq_true rfl) (Nat.le_of_ble_eq_true rfl) dL_any_239
  have hf := jbF hf hc83
  by_cases hc91 : o5 = 13
  · have hf := jbT hf hc91
    refine lv_tableIn (tgt := 213) hx hb dL_any_27 (by rw [hc91]; decide) (by rw [hc91]; decide) (by rw [hc91]; rfl) (by decide) ?_
    refine lv_aload_n hx hb dL_any_213 rfl (lv_at hl 2 rfl) ?_
    refine lv_bipush (v := 7) hx hb dL_any_214 (by decide) ?_
    refine lv_aload_n hx hb dL_any_216 rfl (lv_at hl 3 rfl) ?_
    refine lv_iload_n hx hb dL_any_217 rfl (lv_at hl 4 rfl) ?_
    refine lv_iconst (v := 3) hx hb dL_any_218 (by decide) ?_
    refine lv_iadd hx hb dL_any_219 ?_
    refine lv_iconst (v := 4) hx hb dL_any_220 (by decide) ?_
    obtain ⟨o92, g93, hf⟩ := jbB_e hf
    refine csn_i (As := [.ref (gS g 5 0), .int (a2 + 3), .int 4]) (rest := [.int 7, .ref (ha 0 0)]) ⟨hx, hb, hml, hown, hts⟩ (c_L_pick l g (a2 + 3) 4 _ g93) (va_cwS 3 hts gL_any_L_pick rfl rfl rfl hd_L_pick ⟨(Nat.le_of_ble_eq_true rfl), (Nat.le_of_ble_eq_true rfl)⟩) hK hZ hT hA hP hD hS hl.1 rfl rfl (Nat.le_of_ble_eq_true rfl) ⟨(Nat.le_of_ble_eq_true rfl), (Nat.le_of_ble_eq_true rfl)⟩ dL_any_221 (fun H locs hP hD hS => ?_)
    refine lv_iconst (v := 1) hx hb dL_any_224 (by decide) ?_
    refine lv_aload_n hx hb dL_any_225 rfl (lv_at hl 3 rfl) ?_
    refine lv_iload_n hx hb dL_any_226 rfl (lv_at hl 4 rfl) ?_
    refine lv_iconst (v := 4) hx hb dL_any_227 (by decide) ?_
    refine lv_iadd hx hb dL_any_228 ?_
    refine lv_iconst (v := 3) hx hb dL_any_229 (by decide) ?_
    obtain ⟨o94, g95, hf⟩ := jbB_e hf
    refine csn_i (As := [.ref (gS g 5 0), .int (a2 + 4), .int 3]) (rest := [.int 1, .int o92, .int 7, .ref (ha 0 0)]) ⟨hx, hb, hml, hown, hts⟩ (c_L_pick l g (a2 + 4) 3 _ g95) (va_cwS 3 hts gL_any_L_pick rfl rfl rfl hd_L_pick ⟨(Nat.le_of_ble_eq_true rfl), (Nat.le_of_ble_eq_true rfl)⟩) hK hZ hT hA hP hD hS hl.1 rfl rfl (Nat.le_of_ble_eq_true rfl) ⟨(Nat.le_of_ble_eq_true rfl), (Nat.le_of_ble_eq_true rfl)⟩ dL_any_230 (fun H locs hP hD hS => ?_)
    refine lv_iadd hx hb dL_any_233 ?_
    refine lv_iconst (v := 0) hx hb dL_any_234 (by decide) ?_
    refine lv_iconst (v := 0) hx hb dL_any_235 (by decide) ?_
    obtain ⟨o96, g97, hf⟩ := jbB_e hf
    refine czws_i (As := [.ref (ha 0 0), .int 7, .int o92, .int (1 + o94), .int 0, .int 0]) (rest := []) (Wr := []) (Wn := fun hd98 => (wT g ha tv ++ wQ g (ha 1) (o96.2.1) ++ wH g (ha 4) hd98 (o96.2.2))) ⟨hx, hb, hml, hown, hts⟩ (c_L_deed l hlt g ha hd tv qv hv 7 o92 (1 + o94) 0 0 _ g97) (vx_cwSW 6 hts gL_any_L_deed rfl rfl rfl hd_L_deed ⟨(Nat.le_of_ble_eq_true rfl), (Nat.le_of_ble_eq_true rfl)⟩) hK hZ hT hA hP hD hS hl.1 (wp_of fun f => by simp only [List.countP_append, List.countP_cons, List.countP_nil] <;> omega) (fun _ => (wp_of fun f => by simp only [List.countP_append, List.countP_cons, List.countP_nil] <;> omega)) rfl rfl (Nat.le_of_ble_eq_true rfl) ⟨(Nat.le_of_ble_eq_true rfl), (Nat.le_of_ble_eq_true rfl)⟩ dL_any_236 (fun hd98 H locs _ hP hD hS => ?_)
    cases hf
    subst hQ
    exact rz_i (RT := Nat → Nat → Nat) (PR := fun _ => True) (rv := fun _ => (o96.1)) (W1 := fun z => (wT g ha tv ++ wQ g (ha 1) (o96.2.1) ++ wH g (ha 4) z (o96.2.2))) hd98 trivial rfl hx hb hrt hlk rfl hK hP hD hS (Nat.le_of_ble_eq_true rfl) (Nat.le_of_ble_eq_true rfl) dL_any_239
  have hf := jbF hf hc91
  by_cases hc99 : o5 = 14
  · have hf := jbT hf hc99
    refine lv_tableIn (tgt := 240) hx hb dL_any_27 (by rw [hc99]; decide) (by rw [hc99]; decide) (by rw [hc99]; rfl) (by decide) ?_
    refine lv_aload_n hx hb dL_any_240 rfl (lv_at hl 2 rfl) ?_
    refine lv_iconst (v := 2) hx hb dL_any_241 (by decide) ?_
    refine lv_iload_n hx hb dL_any_242 rfl (lv_at hl 1 rfl) ?_
    refine lv_iload hx hb dL_any_243 (lv_at hl 0 rfl) ?_
    refine lv_iconst (v := 0) hx hb dL_any_245 (by decide) ?_
    refine lv_iconst (v := 0) hx hb dL_any_246 (by decide) ?_
    obtain ⟨o100, g101, hf⟩ := jbB_e hf
    refine czws_i (As := [.ref (ha 0 0), .int 2, .int o1, .int o3, .int 0, .int 0]) (rest := []) (Wr := []) (Wn := fun hd102 => (wT g ha tv ++ wQ g (ha 1) (o100.2.1) ++ wH g (ha 4) hd102 (o100.2.2))) ⟨hx, hb, hml, hown, hts⟩ (c_L_deed l hlt g ha hd tv qv hv 2 o1 o3 0 0 _ g101) (vx_cwSW 6 hts gL_any_L_deed rfl rfl rfl hd_L_deed ⟨(Nat.le_of_ble_eq_true rfl), (Nat.le_of_ble_eq_true rfl)⟩) hK hZ hT hA hP hD hS hl.1 (wp_of fun f => by simp only [List.countP_append, List.countP_cons, List.countP_nil] <;> omega) (fun _ => (wp_of fun f => by simp only [List.countP_append, List.countP_cons, List.countP_nil] <;> omega)) rfl rfl (Nat.le_of_ble_eq_true rfl) ⟨(Nat.le_of_ble_eq_true rfl), (Nat.le_of_ble_eq_true rfl)⟩ dL_any_247 (fun hd102 H locs _ hP hD hS => ?_)
    cases hf
    subst hQ
    exact rz_i (RT := Nat → Nat → Nat) (PR := fun _ => True) (rv := fun _ => (o100.1)) (W1 := fun z => (wT g ha tv ++ wQ g (ha 1) (o100.2.1) ++ wH g (ha 4) z (o100.2.2))) hd102 trivial rfl hx hb hrt hlk rfl hK hP hD hS (Nat.le_of_ble_eq_true rfl) (Nat.le_of_ble_eq_true rfl) dL_any_250
  have hf := jbF hf hc99
  by_cases hc103 : o5 = 15
  · have hf := jbT hf hc103
    refine lv_tableIn (tgt := 240) hx hb dL_any_27 (by rw [hc103]; decide) (by rw [hc103]; decide) (by rw [hc103]; rfl) (by decide) ?_
    refine lv_aload_n hx hb dL_any_240 rfl (lv_at hl 2 rfl) ?_
    refine lv_iconst (v := 2) hx hb dL_any_241 (by decide) ?_
    refine lv_iload_n hx hb dL_any_242 rfl (lv_at hl 1 rfl) ?_
    refine lv_iload hx hb dL_any_243 (lv_at hl 0 rfl) ?_
    refine lv_iconst (v := 0) hx hb dL_any_245 (by decide) ?_
    refine lv_iconst (v := 0) hx hb dL_any_246 (by decide) ?_
    obtain ⟨o104, g105, hf⟩ := jbB_e hf
    refine czws_i (As := [.ref (ha 0 0), .int 2, .int o1, .int o3, .int 0, .int 0]) (rest := []) (Wr := []) (Wn := fun hd106 => (wT g ha tv ++ wQ g (ha 1) (o104.2.1) ++ wH g (ha 4) hd106 (o104.2.2))) ⟨hx, hb, hml, hown, hts⟩ (c_L_deed l hlt g ha hd tv qv hv 2 o1 o3 0 0 _ g105) (vx_cwSW 6 hts gL_any_L_deed rfl rfl rfl hd_L_deed ⟨(Nat.le_of_ble_eq_true rfl), (Nat.le_of_ble_eq_true rfl)⟩) hK hZ hT hA hP hD hS hl.1 (wp_of fun f => by simp only [List.countP_append, List.countP_cons, List.countP_nil] <;> omega) (fun _ => (wp_of fun f => by simp only [List.countP_append, List.countP_cons, List.countP_nil] <;> omega)) rfl rfl (Nat.le_of_ble_eq_true rfl) ⟨(Nat.le_of_ble_eq_true rfl), (Nat.le_of_ble_eq_true rfl)⟩ dL_any_247 (fun hd106 H locs _ hP hD hS => ?_)
    cases hf
    subst hQ
    exact rz_i (RT := Nat → Nat → Nat) (PR := fun _ => True) (rv := fun _ => (o104.1)) (W1 := fun z => (wT g ha tv ++ wQ g (ha 1) (o104.2.1) ++ wH g (ha 4) z (o104.2.2))) hd106 trivial rfl hx hb hrt hlk rfl hK hP hD hS (Nat.le_of_ble_eq_true rfl) (Nat.le_of_ble_eq_true rfl) dL_any_250
  have hf := jbF hf hc103
  by_cases hc107 : o5 = 16
  · have hf := jbT hf hc107
    refine lv_tableIn (tgt := 240) hx hb dL_any_27 (by rw [hc107]; decide) (by rw [hc107]; decide) (by rw [hc107]; rfl) (by decide) ?_
    refine lv_aload_n hx hb dL_any_240 rfl (lv_at hl 2 rfl) ?_
    refine lv_iconst (v := 2) hx hb dL_any_241 (by decide) ?_
    refine lv_iload_n hx hb dL_any_242 rfl (lv_at hl 1 rfl) ?_
    refine lv_iload hx hb dL_any_243 (lv_at hl 0 rfl) ?_
    refine lv_iconst (v := 0) hx hb dL_any_245 (by decide) ?_
    refine lv_iconst (v := 0) hx hb dL_any_246 (by decide) ?_
    obtain ⟨o108, g109, hf⟩ := jbB_e hf
    refine czws_i (As := [.ref (ha 0 0), .int 2, .int o1, .int o3, .int 0, .int 0]) (rest := []) (Wr := []) (Wn := fun hd110 => (wT g ha tv ++ wQ g (ha 1) (o108.2.1) ++ wH g (ha 4) hd110 (o108.2.2))) ⟨hx, hb, hml, hown, hts⟩ (c_L_deed l hlt g ha hd tv qv hv 2 o1 o3 0 0 _ g109) (vx_cwSW 6 hts gL_any_L_deed rfl rfl rfl hd_L_deed ⟨(Nat.le_of_ble_eq_true rfl), (Nat.le_of_ble_eq_true rfl)⟩) hK hZ hT hA hP hD hS hl.1 (wp_of fun f => by simp only [List.countP_append, List.countP_cons, List.countP_nil] <;> omega) (fun _ => (wp_of fun f => by simp only [List.countP_append, List.countP_cons, List.countP_nil] <;> omega)) rfl rfl (Nat.le_of_ble_eq_true rfl) ⟨(Nat.le_of_ble_eq_true rfl), (Nat.le_of_ble_eq_true rfl)⟩ dL_any_247 (fun hd110 H locs _ hP hD hS => ?_)
    cases hf
    subst hQ
    exact rz_i (RT := Nat → Nat → Nat) (PR := fun _ => True) (rv := fun _ => (o108.1)) (W1 := fun z => (wT g ha tv ++ wQ g (ha 1) (o108.2.1) ++ wH g (ha 4) z (o108.2.2))) hd110 trivial rfl hx hb hrt hlk rfl hK hP hD hS (Nat.le_of_ble_eq_true rfl) (Nat.le_of_ble_eq_true rfl) dL_any_250
  have hf := jbF hf hc107
  refine lv_tableOut (tgt := 251) hx hb dL_any_27 (by have := lv_neT hc7 (show (0 : Int32).toInt = 0 from by decide); have := lv_neT hc13 (show (1 : Int32).toInt = 1 from by decide); have := lv_neT hc19 (show (2 : Int32).toInt = 2 from by decide); have := lv_neT hc23 (show (3 : Int32).toInt = 3 from by decide); have := lv_neT hc27 (show (4 : Int32).toInt = 4 from by decide); have := lv_neT hc31 (show (5 : Int32).toInt = 5 from by decide); have := lv_neT hc37 (show (6 : Int32).toInt = 6 from by decide); have := lv_neT hc43 (show (7 : Int32).toInt = 7 from by decide); have := lv_neT hc51 (show (8 : Int32).toInt = 8 from by decide); have := lv_neT hc59 (show (9 : Int32).toInt = 9 from by decide); have := lv_neT hc67 (show (10 : Int32).toInt = 10 from by decide); have := lv_neT hc75 (show (11 : Int32).toInt = 11 from by decide); have := lv_neT hc83 (show (12 : Int32).toInt = 12 from by decide); have := lv_neT hc91 (show (13 : Int32).toInt = 13 from by decide); have := lv_neT hc99 (show (14 : Int32).toInt = 14 from by decide); have := lv_neT hc103 (show (15 : Int32).toInt = 15 from by decide); have := lv_neT hc107 (show (16 : Int32).toInt = 16 from by decide); omega) (by decide) ?_
  refine lv_aload_n hx hb dL_any_251 rfl (lv_at hl 2 rfl) ?_
  refine lv_iconst (v := 1) hx hb dL_any_252 (by decide) ?_
  refine lv_iload_n hx hb dL_any_253 rfl (lv_at hl 1 rfl) ?_
  refine lv_iload hx hb dL_any_254 (lv_at hl 0 rfl) ?_
  refine lv_iconst (v := 0) hx hb dL_any_256 (by decide) ?_
  refine lv_iconst (v := 0) hx hb dL_any_257 (by decide) ?_
  obtain ⟨o111, g112, hf⟩ := jbB_e hf
  refine czws_i (As := [.ref (ha 0 0), .int 1, .int o1, .int o3, .int 0, .int 0]) (rest := []) (Wr := []) (Wn := fun hd113 => (wT g ha tv ++ wQ g (ha 1) (o111.2.1) ++ wH g (ha 4) hd113 (o111.2.2))) ⟨hx, hb, hml, hown, hts⟩ (c_L_deed l hlt g ha hd tv qv hv 1 o1 o3 0 0 _ g112) (vx_cwSW 6 hts gL_any_L_deed rfl rfl rfl hd_L_deed ⟨(Nat.le_of_ble_eq_true rfl), (Nat.le_of_ble_eq_true rfl)⟩) hK hZ hT hA hP hD hS hl.1 (wp_of fun f => by simp only [List.countP_append, List.countP_cons, List.countP_nil] <;> omega) (fun _ => (wp_of fun f => by simp only [List.countP_append, List.countP_cons, List.countP_nil] <;> omega)) rfl rfl (Nat.le_of_ble_eq_true rfl) ⟨(Nat.le_of_ble_eq_true rfl), (Nat.le_of_ble_eq_true rfl)⟩ dL_any_258 (fun hd113 H locs _ hP hD hS => ?_)
  cases hf
  subst hQ
  exact rz_i (RT := Nat → Nat → Nat) (PR := fun _ => True) (rv := fun _ => (o111.1)) (W1 := fun z => (wT g ha tv ++ wQ g (ha 1) (o111.2.1) ++ wH g (ha 4) z (o111.2.2))) hd113 trivial rfl hx hb hrt hlk rfl hK hP hD hS (Nat.le_of_ble_eq_true rfl) (Nat.le_of_ble_eq_true rfl) dL_any_261
