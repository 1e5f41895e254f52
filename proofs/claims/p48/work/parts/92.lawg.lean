def rm_L_areSeamsRight : Room := { frames := 10, cells := 1, slots := 30, locals := 162 }
theorem hd_L_areSeamsRight : yL_areSeamsRight.cls ≠ "java/lang/invoke/MethodHandle" ∧ yL_areSeamsRight.cls ≠ "java/lang/invoke/VarHandle" ∧ (parseMethodDescriptor yL_areSeamsRight.desc).map (fun d => d.parameters.length) = some 1 := by decide +kernel
set_option maxHeartbeats 4000000 in
set_option maxRecDepth 100000 in
theorem c_L_areSeamsRight (l : Launch) (hlt : l.stackTraces = false) (g : GG) (ha : Nat → Nat → Nat) (tv : TV) (qv : QV) (sv : SV)  (out : Int32 × SV) (hf : f_L_areSeamsRight qv sv = some out) : MtI l yL_areSeamsRight wsL_areSeamsRight rm_L_areSeamsRight g (wT g ha tv ++ wQ g (ha 1) qv ++ wS g (ha 3) sv) [.ref (ha 0 0)] (out.1) (wT g ha tv ++ wQ g (ha 1) qv ++ wS g (ha 3) (out.2)) 1 30 := by
  refine fun sz => mt_of (cc := cL_areSeamsRight) (maxL := 9) (ret := (some .boolean)) (own := RL) (Qc := fun A => va_Qi (fun r (_ : Unit) => r = (out.1)) (fun _ t => PosM g A (wT g ha tv ++ wQ g (ha 1) qv ++ wS g (ha 3) (out.2)) t) A) (by decide +kernel) rfl rfl (Nat.le_of_ble_eq_true rfl) ?_ sz
  intro p e s mi below meth c A ls hB hnm hrt hlk hP hD hl
  obtain ⟨hx, hb, hml, hown, hts, hK, hZ, hT, hA, -⟩ := hB
  have hS : va_S A s.heap s.heap [] := va_S.rf
  have hl : lv_has ls 9 [(0, .ref (ha 0 0))] := hl
  have k0 := hts (.arrayClass .int) (by decide +kernel)
  have k1 := hts (.methodLink RL 158 Lib.Math.min.name) (by decide +kernel)
  have k2 := hts (.static Lib.Math.min.name) (by decide +kernel)
  have k3 := hts (.initialized "java/lang/Math") (by decide +kernel)
  have k4 := hts (.code Lib.Math.min.name Lib.Math.min.code 2 (some .int)) (by decide +kernel)
  generalize hQ : MQ below _ _ _ _ _ _ = Q
  unfold f_L_areSeamsRight at hf
  have hL180 : ∀ (b1 : Nat) (u1 : (Nat → Int32)) (n180 : Nat) (x2 : Int32) (x3 : Int32) (x4 : Int32) (sv : SV) (H : Heap) (locs : List Loc) (ls : Array Slot) (o180 : Int32 × Int32 × Int32 × SV), jbL (fun s => f_L_areSeamsRight_L180 u1 qv (s.1) (s.2.1) (s.2.2.1) (s.2.2.2)) n180 (x2, x3, x4, sv) = some o180 → va_P (gD g) vwCl (wA g b1 u1 30 ++ wT g ha tv ++ wQ g (ha 1) qv ++ wS g (ha 3) sv) H → va_D A (wA g b1 u1 30 ++ wT g ha tv ++ wQ g (ha 1) qv ++ wS g (ha 3) sv) → va_S A s.heap H locs → lv_has ls 9 [(0, .ref (ha 0 0)), (1, .ref b1), (2, .int x2), (3, .int x3), (4, .int x4)] → (∀ (H : Heap) (locs : List Loc) (ls : Array Slot), va_P (gD g) vwCl (wA g b1 u1 30 ++ wT g ha tv ++ wQ g (ha 1) qv ++ wS g (ha 3) (o180.2.2.2)) H → va_D A (wA g b1 u1 30 ++ wT g ha tv ++ wQ g (ha 1) qv ++ wS g (ha 3) (o180.2.2.2)) → va_S A s.heap H locs → lv_has ls 9 [(0, .ref (ha 0 0)), (2, .int (o180.1)), (3, .int (o180.2.1))] → W p l e rm_L_areSeamsRight s mi [.ref (ha 0 0)].toArray below meth c H locs (1) (30) Q (F0 mi 346 ls [])) → W p l e rm_L_areSeamsRight s mi [.ref (ha 0 0)].toArray below meth c H locs (1) (30) Q (F0 mi 180 ls []) := by
    intro b1 u1 n180
    induction n180 with
    | zero => intro x2 x3 x4 sv H locs ls o180 hf; exact absurd hf (jbL_0 _ _ _)
    | succ n180 ih =>
      intro x2 x3 x4 sv H locs ls o180 hf hP hD hS hl hk
      obtain ⟨r, hf, hr⟩ := jbL_e hf
      have hf : f_L_areSeamsRight_L180 u1 qv x2 x3 x4 sv = some r := hf
      unfold f_L_areSeamsRight_L180 at hf
      have hJ339 : ∀ (sv : SV) (x2 : Int32) (x4 : Int32) (y0 : Int32) (H : Heap) (locs : List Loc) (ls : Array Slot) (r : Sum (Int32 × Int32 × Int32 × SV) (Int32 × Int32 × Int32 × SV)), f_L_areSeamsRight_J339 u1 qv sv x2 x4 y0 = some r → jbR (fun s => f_L_areSeamsRight_L180 u1 qv (s.1) (s.2.1) (s.2.2.1) (s.2.2.2)) n180 o180 r → va_P (gD g) vwCl (wA g b1 u1 30 ++ wT g ha tv ++ wQ g (ha 1) qv ++ wS g (ha 3) sv) H → va_D A (wA g b1 u1 30 ++ wT g ha tv ++ wQ g (ha 1) qv ++ wS g (ha 3) sv) → va_S A s.heap H locs → lv_has ls 9 [(0, .ref (ha 0 0)), (1, .ref b1), (2, .int x2), (4, .int x4)] → W p l e rm_L_areSeamsRight s mi [.ref (ha 0 0)].toArray below meth c H locs (1) (30) Q (F0 mi 339 ls [.int y0]) := by
        intro sv x2 x4 y0 H locs ls r hf hr hP hD hS hl
        unfold f_L_areSeamsRight_J339 at hf
        refine lv_istore_n (lv' := [(3, .int y0), (0, .ref (ha 0 0)), (1, .ref b1), (2, .int x2), (4, .int x4)]) hx hb dL_areSeamsRight_339 rfl hl (by decide) rfl (fun ls hl => ?_)
        refine lv_iinc (v := (x4 + 1)) (lv' := [(4, .int (x4 + 1)), (3, .int y0), (0, .ref (ha 0 0)), (1, .ref b1), (2, .int x2)]) hx hb dL_areSeamsRight_340 hl (k := 4) rfl rfl (by decide) rfl (fun ls hl => ?_)
        refine lv_goto (tgt := 180) hx hb dL_areSeamsRight_343 (by decide) ?_
        cases hf
        exact ih x2 y0 (x4 + 1) sv _ _ _ _ hr hP hD hS (lv_sub hl [2, 3, 4, 1, 0] rfl) hk
      have hJ338 : ∀ (sv : SV) (x2 : Int32) (x4 : Int32) (H : Heap) (locs : List Loc) (ls : Array Slot) (r : Sum (Int32 × Int32 × Int32 × SV) (Int32 × Int32 × Int32 × SV)), f_L_areSeamsRight_J338 u1 qv sv x2 x4 = some r → jbR (fun s => f_L_areSeamsRight_L180 u1 qv (s.1) (s.2.1) (s.2.2.1) (s.2.2.2)) n180 o180 r → va_P (gD g) vwCl (wA g b1 u1 30 ++ wT g ha tv ++ wQ g (ha 1) qv ++ wS g (ha 3) sv) H → va_D A (wA g b1 u1 30 ++ wT g ha tv ++ wQ g (ha 1) qv ++ wS g (ha 3) sv) → va_S A s.heap H locs → lv_has ls 9 [(0, .ref (ha 0 0)), (1, .ref b1), (2, .int x2), (4, .int x4)] → W p l e rm_L_areSeamsRight s mi [.ref (ha 0 0)].toArray below meth c H locs (1) (30) Q (F0 mi 338 ls []) := by
        intro sv x2 x4 H locs ls r hf hr hP hD hS hl
        unfold f_L_areSeamsRight_J338 at hf
        refine lv_iconst (v := 0) hx hb dL_areSeamsRight_338 (by decide) ?_
        exact hJ339 sv x2 x4 0 _ _ _ _ hf hr hP hD hS (lv_sub hl [0, 1, 2, 3] rfl)
      have hJ287 : ∀ (sv : SV) (x3 : Int32) (x4 : Int32) (x5 : Int32) (x6 : Int32) (y0 : Int32) (y1 : Int32) (H : Heap) (locs : List Loc) (ls : Array Slot) (r : Sum (Int32 × Int32 × Int32 × SV) (Int32 × Int32 × Int32 × SV)), f_L_areSeamsRight_J287 u1 qv sv x3 x4 x5 x6 y0 y1 = some r → jbR (fun s => f_L_areSeamsRight_L180 u1 qv (s.1) (s.2.1) (s.2.2.1) (s.2.2.2)) n180 o180 r → va_P (gD g) vwCl (wA g b1 u1 30 ++ wT g ha tv ++ wQ g (ha 1) qv ++ wS g (ha 3) sv) H → va_D A (wA g b1 u1 30 ++ wT g ha tv ++ wQ g (ha 1) qv ++ wS g (ha 3) sv) → va_S A s.heap H locs → lv_has ls 9 [(0, .ref (ha 0 0)), (1, .ref b1), (3, .int x3), (4, .int x4), (5, .int x5), (6, .int x6)] → W p l e rm_L_areSeamsRight s mi [.ref (ha 0 0)].toArray below meth c H locs (1) (30) Q (F0 mi 287 ls [.int y0, .int y1]) := by
        intro sv x3 x4 x5 x6 y0 y1 H locs ls r hf hr hP hD hS hl
        unfold f_L_areSeamsRight_J287 at hf
        obtain ⟨o35, g36, hf⟩ := jbB_e hf
        refine csn_i (As := [.int y0]) (rest := [.int y1]) ⟨hx, hb, hml, hown, hts⟩ (c_L_told l g y0 _ g36) (va_cwS 1 hts gL_areSeamsRight_L_told rfl rfl rfl hd_L_told ⟨(Nat.le_of_ble_eq_true rfl), (Nat.le_of_ble_eq_true rfl)⟩) hK hZ hT hA hP hD hS hl.1 rfl rfl (Nat.le_of_ble_eq_true rfl) ⟨(Nat.le_of_ble_eq_true rfl), (Nat.le_of_ble_eq_true rfl)⟩ dL_areSeamsRight_287 (fun H locs hP hD hS => ?_)
        refine lv_iadd hx hb dL_areSeamsRight_290 ?_
        refine lv_topi (fun z37 ez37 => ?_)
        have hf := jbN_e hf ez37
        refine lv_istore_n (lv' := [(2, .int z37), (0, .ref (ha 0 0)), (1, .ref b1), (3, .int x3), (4, .int x4), (5, .int x5), (6, .int x6)]) hx hb dL_areSeamsRight_291 rfl hl (by decide) rfl (fun ls hl => ?_)
        refine lv_iload_n hx hb dL_areSeamsRight_292 rfl (lv_at hl 3 rfl) ?_
        refine lv_if_eq (tgt := 338) hx hb dL_areSeamsRight_293 (by decide) (fun hc => ?_) (fun hc => ?_)
        · have hf := jbT hf hc
          exact hJ338 sv z37 x4 _ _ _ _ hf hr hP hD hS (lv_sub hl [1, 2, 0, 4] rfl)
        · have hf := jbF hf hc
          refine lv_aload_n hx hb dL_areSeamsRight_296 rfl (lv_at hl 1 rfl) ?_
          refine lv_iload hx hb dL_areSeamsRight_297 (lv_at hl 4 rfl) ?_
          refine lv_bipush (v := 6) hx hb dL_areSeamsRight_299 (by decide) ?_
          refine lv_idiv hx hb dL_areSeamsRight_301 (by decide) ?_
          refine lv_iload hx hb dL_areSeamsRight_302 (lv_at hl 4 rfl) ?_
          refine lv_bipush (v := 6) hx hb dL_areSeamsRight_304 (by decide) ?_
          refine lv_irem hx hb dL_areSeamsRight_306 (by decide) ?_
          obtain ⟨o38, g39, hf⟩ := jbB_e hf
          rcases o38 with x9 | o38
          · have hf := jbM_l hf
            cases hf
          have hf := jbM_r hf
          refine cpv_i (As := [.int (x4 / 6), .int (x4 - x4 / 6 * 6)]) (rest := []) (Wr := (wA g b1 u1 30)) (Wn := (wA g b1 u1 30 ++ wT g ha tv ++ wQ g (ha 1) qv ++ wS g (ha 3) (o38.2))) ⟨hx, hb, hml, hown, hts⟩ (cn_X10_seamSize l hlt g ha tv qv sv (x4 / 6) (x4 - x4 / 6 * 6) _ (show f_X10_seamSize tv qv sv (x4 / 6) (x4 - x4 / 6 * 6) = some (.inr o38) from g39)) (cwV 2 hts gL_areSeamsRight_X10_seamSize rfl rfl rfl hd_X10_seamSize ⟨(Nat.le_of_ble_eq_true rfl), (Nat.le_of_ble_eq_true rfl)⟩) hK hZ hT hA hP hD hS hl.1 (va_recv hK hP (ci := 9) (q0 := 1) rfl rfl) (wp_of fun f => by simp only [List.countP_append, List.countP_cons, List.countP_nil] <;> omega) (wp_of fun f => by simp only [List.countP_append, List.countP_cons, List.countP_nil] <;> omega) rfl rfl (Nat.le_of_ble_eq_true rfl) ⟨(Nat.le_of_ble_eq_true rfl), (Nat.le_of_ble_eq_true rfl)⟩ dL_areSeamsRight_307 (fun H locs hP hD hS => ?_)
          refine lv_iload hx hb dL_areSeamsRight_310 (lv_at hl 5 rfl) ?_
          refine lv_icmp_ne (tgt := 338) hx hb dL_areSeamsRight_312 (by decide) (fun hc => ?_) (fun hc => ?_)
          · have hf := jbF hf hc
            exact hJ338 (o38.2) z37 x4 _ _ _ _ hf hr hP hD hS (lv_sub hl [1, 2, 0, 4] rfl)
          · have hf := jbT hf hc
            refine lv_aload_n hx hb dL_areSeamsRight_315 rfl (lv_at hl 1 rfl) ?_
            refine lv_iload hx hb dL_areSeamsRight_316 (lv_at hl 4 rfl) ?_
            refine lv_bipush (v := 6) hx hb dL_areSeamsRight_318 (by decide) ?_
            refine lv_idiv hx hb dL_areSeamsRight_320 (by decide) ?_
            refine lv_iload hx hb dL_areSeamsRight_321 (lv_at hl 4 rfl) ?_
            refine lv_bipush (v := 6) hx hb dL_areSeamsRight_323 (by decide) ?_
            refine lv_irem hx hb dL_areSeamsRight_325 (by decide) ?_
            obtain ⟨o40, g41, hf⟩ := jbB_e hf
            rcases o40 with x9 | o40
            · have hf := jbM_l hf
              cases hf
            have hf := jbM_r hf
            refine cpv_i (As := [.int (x4 / 6), .int (x4 - x4 / 6 * 6)]) (rest := []) (Wr := (wA g b1 u1 30)) (Wn := (wA g b1 u1 30 ++ wT g ha tv ++ wQ g (ha 1) qv ++ wS g (ha 3) (o40.2))) ⟨hx, hb, hml, hown, hts⟩ (cn_X10_seamVolume l hlt g ha tv qv (o38.2) (x4 / 6) (x4 - x4 / 6 * 6) _ (show f_X10_seamVolume tv qv (o38.2) (x4 / 6) (x4 - x4 / 6 * 6) = some (.inr o40) from g41)) (cwV 2 hts gL_areSeamsRight_X10_seamVolume rfl rfl rfl hd_X10_seamVolume ⟨(Nat.le_of_ble_eq_true rfl), (Nat.le_of_ble_eq_true rfl)⟩) hK hZ hT hA hP hD hS hl.1 (va_recv hK hP (ci := 9) (q0 := 1) rfl rfl) (wp_of fun f => by simp only [List.countP_append, List.countP_cons, List.countP_nil] <;> omega) (wp_of fun f => by simp only [List.countP_append, List.countP_cons, List.countP_nil] <;> omega) rfl rfl (Nat.le_of_ble_eq_true rfl) ⟨(Nat.le_of_ble_eq_true rfl), (Nat.le_of_ble_eq_true rfl)⟩ dL_areSeamsRight_326 (fun H locs hP hD hS => ?_)
            refine lv_iload hx hb dL_areSeamsRight_329 (lv_at hl 6 rfl) ?_
            refine lv_icmp_ne (tgt := 338) hx hb dL_areSeamsRight_331 (by decide) (fun hc => ?_) (fun hc => ?_)
            · have hf := jbF hf hc
              exact hJ338 (o40.2) z37 x4 _ _ _ _ hf hr hP hD hS (lv_sub hl [1, 2, 0, 4] rfl)
            · have hf := jbT hf hc
              refine lv_iconst (v := 1) hx hb dL_areSeamsRight_334 (by decide) ?_
              refine lv_goto (tgt := 339) hx hb dL_areSeamsRight_335 (by decide) ?_
              exact hJ339 (o40.2) z37 x4 1 _ _ _ _ hf hr hP hD hS (lv_sub hl [1, 2, 0, 4] rfl)
      have hL196 : ∀ (b1 : Nat) (u1 : (Nat → Int32)) (sv : SV) (x2 : Int32) (x3 : Int32) (x4 : Int32) (n196 : Nat) (x5 : Int32) (x6 : Int32) (x7 : Int32) (H : Heap) (locs : List Loc) (ls : Array Slot) (o196 : Int32 × Int32 × Int32), jbL (fun s => f_L_areSeamsRight_L196 u1 qv sv x2 x3 x4 (s.1) (s.2.1) (s.2.2)) n196 (x5, x6, x7) = some o196 → va_P (gD g) vwCl (wA g b1 u1 30 ++ wT g ha tv ++ wQ g (ha 1) qv ++ wS g (ha 3) sv) H → va_D A (wA g b1 u1 30 ++ wT g ha tv ++ wQ g (ha 1) qv ++ wS g (ha 3) sv) → va_S A s.heap H locs → lv_has ls 9 [(0, .ref (ha 0 0)), (1, .ref b1), (2, .int x2), (3, .int x3), (4, .int x4), (5, .int x5), (6, .int x6), (7, .int x7)] → (∀ (H : Heap) (locs : List Loc) (ls : Array Slot), va_P (gD g) vwCl (wA g b1 u1 30 ++ wT g ha tv ++ wQ g (ha 1) qv ++ wS g (ha 3) sv) H → va_D A (wA g b1 u1 30 ++ wT g ha tv ++ wQ g (ha 1) qv ++ wS g (ha 3) sv) → va_S A s.heap H locs → lv_has ls 9 [(0, .ref (ha 0 0)), (1, .ref b1), (2, .int x2), (3, .int x3), (4, .int x4), (5, .int (o196.1)), (6, .int (o196.2.1))] → W p l e rm_L_areSeamsRight s mi [.ref (ha 0 0)].toArray below meth c H locs (1) (30) Q (F0 mi 272 ls [])) → W p l e rm_L_areSeamsRight s mi [.ref (ha 0 0)].toArray below meth c H locs (1) (30) Q (F0 mi 196 ls []) := by
        intro b1 u1 sv x2 x3 x4 n196
        induction n196 with
        | zero => intro x5 x6 x7 H locs ls o196 hf; exact absurd hf (jbL_0 _ _ _)
        | succ n196 ih =>
          intro x5 x6 x7 H locs ls o196 hf hP hD hS hl hk
          obtain ⟨r, hf, hr⟩ := jbL_e hf
          have hf : f_L_areSeamsRight_L196 u1 qv sv x2 x3 x4 x5 x6 x7 = some r := hf
          unfold f_L_areSeamsRight_L196 at hf
          have hJ263 : ∀ (x5 : Int32) (x7 : Int32) (y0 : Int32) (y1 : Int32) (H : Heap) (locs : List Loc) (ls : Array Slot) (r : Sum (Int32 × Int32 × Int32) (Int32 × Int32 × Int32)), f_L_areSeamsRight_J263 u1 qv sv x2 x3 x4 x5 x7 y0 y1 = some r → jbR (fun s => f_L_areSeamsRight_L196 u1 qv sv x2 x3 x4 (s.1) (s.2.1) (s.2.2)) n196 o196 r → va_P (gD g) vwCl (wA g b1 u1 30 ++ wT g ha tv ++ wQ g (ha 1) qv ++ wS g (ha 3) sv) H → va_D A (wA g b1 u1 30 ++ wT g ha tv ++ wQ g (ha 1) qv ++ wS g (ha 3) sv) → va_S A s.heap H locs → lv_has ls 9 [(0, .ref (ha 0 0)), (1, .ref b1), (2, .int x2), (3, .int x3), (4, .int x4), (5, .int x5), (7, .int x7)] → W p l e rm_L_areSeamsRight s mi [.ref (ha 0 0)].toArray below meth c H locs (1) (30) Q (F0 mi 263 ls [.int y0, .int y1]) := by
            intro x5 x7 y0 y1 H locs ls r hf hr hP hD hS hl
            unfold f_L_areSeamsRight_J263 at hf
            refine lv_iadd hx hb dL_areSeamsRight_263 ?_
            refine lv_topi (fun z34 ez34 => ?_)
            have hf := jbN_e hf ez34
            refine lv_istore (lv' := [(6, .int z34), (0, .ref (ha 0 0)), (1, .ref b1), (2, .int x2), (3, .int x3), (4, .int x4), (5, .int x5), (7, .int x7)]) hx hb dL_areSeamsRight_264 hl (by decide) rfl (fun ls hl => ?_)
            refine lv_iinc (v := (x7 + 1)) (lv' := [(7, .int (x7 + 1)), (6, .int z34), (0, .ref (ha 0 0)), (1, .ref b1), (2, .int x2), (3, .int x3), (4, .int x4), (5, .int x5)]) hx hb dL_areSeamsRight_266 hl (k := 7) rfl rfl (by decide) rfl (fun ls hl => ?_)
            refine lv_goto (tgt := 196) hx hb dL_areSeamsRight_269 (by decide) ?_
            cases hf
            exact ih x5 z34 (x7 + 1) _ _ _ _ hr hP hD hS (lv_sub hl [2, 3, 4, 5, 6, 7, 1, 0] rfl) hk
          have hJ226 : ∀ (x5 : Int32) (x6 : Int32) (x7 : Int32) (y0 : Int32) (H : Heap) (locs : List Loc) (ls : Array Slot) (r : Sum (Int32 × Int32 × Int32) (Int32 × Int32 × Int32)), f_L_areSeamsRight_J226 u1 qv sv x2 x3 x4 x5 x6 x7 y0 = some r → jbR (fun s => f_L_areSeamsRight_L196 u1 qv sv x2 x3 x4 (s.1) (s.2.1) (s.2.2)) n196 o196 r → va_P (gD g) vwCl (wA g b1 u1 30 ++ wT g ha tv ++ wQ g (ha 1) qv ++ wS g (ha 3) sv) H → va_D A (wA g b1 u1 30 ++ wT g ha tv ++ wQ g (ha 1) qv ++ wS g (ha 3) sv) → va_S A s.heap H locs → lv_has ls 9 [(0, .ref (ha 0 0)), (1, .ref b1), (2, .int x2), (3, .int x3), (4, .int x4), (5, .int x5), (6, .int x6), (7, .int x7)] → W p l e rm_L_areSeamsRight s mi [.ref (ha 0 0)].toArray below meth c H locs (1) (30) Q (F0 mi 226 ls [.int y0]) := by
            intro x5 x6 x7 y0 H locs ls r hf hr hP hD hS hl
            unfold f_L_areSeamsRight_J226 at hf
            refine lv_istore (lv' := [(8, .int y0), (0, .ref (ha 0 0)), (1, .ref b1), (2, .int x2), (3, .int x3), (4, .int x4), (5, .int x5), (6, .int x6), (7, .int x7)]) hx hb dL_areSeamsRight_226 hl (by decide) rfl (fun ls hl => ?_)
            refine lv_iload hx hb dL_areSeamsRight_228 (lv_at hl 6 rfl) ?_
            refine lv_iload hx hb dL_areSeamsRight_230 (lv_at hl 0 rfl) ?_
            obtain ⟨o29, g30, hf⟩ := jbB_e hf
            refine csn_i (As := [.int y0]) (rest := [.int x5]) ⟨hx, hb, hml, hown, hts⟩ (c_L_told l g y0 _ g30) (va_cwS 1 hts gL_areSeamsRight_L_told rfl rfl rfl hd_L_told ⟨(Nat.le_of_ble_eq_true rfl), (Nat.le_of_ble_eq_true rfl)⟩) hK hZ hT hA hP hD hS hl.1 rfl rfl (Nat.le_of_ble_eq_true rfl) ⟨(Nat.le_of_ble_eq_true rfl), (Nat.le_of_ble_eq_true rfl)⟩ dL_areSeamsRight_232 (fun H locs hP hD hS => ?_)
            refine lv_iadd hx hb dL_areSeamsRight_235 ?_
            refine lv_topi (fun z31 ez31 => ?_)
            have hf := jbN_e hf ez31
            refine lv_istore (lv' := [(5, .int z31), (8, .int y0), (0, .ref (ha 0 0)), (1, .ref b1), (2, .int x2), (3, .int x3), (4, .int x4), (6, .int x6), (7, .int x7)]) hx hb dL_areSeamsRight_236 hl (by decide) rfl (fun ls hl => ?_)
            refine lv_iload hx hb dL_areSeamsRight_238 (lv_at hl 7 rfl) ?_
            refine lv_iload hx hb dL_areSeamsRight_240 (lv_at hl 1 rfl) ?_
            refine lv_if_eq (tgt := 262) hx hb dL_areSeamsRight_242 (by decide) (fun hc => ?_) (fun hc => ?_)
            · have hf := jbT hf hc
              refine lv_iconst (v := 0) hx hb dL_areSeamsRight_262 (by decide) ?_
              exact hJ263 z31 x7 0 x6 _ _ _ _ hf hr hP hD hS (lv_sub hl [2, 3, 4, 5, 6, 0, 8] rfl)
            · have hf := jbF hf hc
              refine lv_aload_n hx hb dL_areSeamsRight_245 rfl (lv_at hl 2 rfl) ?_
              refine lv_iload hx hb dL_areSeamsRight_246 (lv_at hl 8 rfl) ?_
              refine lv_bipush (v := 6) hx hb dL_areSeamsRight_248 (by decide) ?_
              refine lv_idiv hx hb dL_areSeamsRight_250 (by decide) ?_
              refine lv_iload hx hb dL_areSeamsRight_251 (lv_at hl 8 rfl) ?_
              refine lv_bipush (v := 6) hx hb dL_areSeamsRight_253 (by decide) ?_
              refine lv_irem hx hb dL_areSeamsRight_255 (by decide) ?_
              obtain ⟨o32, g33, hf⟩ := jbB_e hf
              rcases o32 with x9 | o32
              · have hf := jbM_l hf
                cases hf
              have hf := jbM_r hf
              refine cpv_i (As := [.int (x7 / 6), .int (x7 - x7 / 6 * 6)]) (rest := [.int x6]) (Wr := (wA g b1 u1 30 ++ wS g (ha 3) sv)) (Wn := (wA g b1 u1 30 ++ wT g ha tv ++ wQ g (ha 1) qv ++ wS g (ha 3) sv)) ⟨hx, hb, hml, hown, hts⟩ (cn_X10_height l hlt g ha tv qv (x7 / 6) (x7 - x7 / 6 * 6) _ (show f_X10_height tv qv (x7 / 6) (x7 - x7 / 6 * 6) = some (.inr o32) from g33)) (cwV 2 hts gL_areSeamsRight_X10_height rfl rfl rfl hd_X10_height ⟨(Nat.le_of_ble_eq_true rfl), (Nat.le_of_ble_eq_true rfl)⟩) hK hZ hT hA hP hD hS hl.1 (va_recv hK hP (ci := 9) (q0 := 1) rfl rfl) (wp_of fun f => by simp only [List.countP_append, List.countP_cons, List.countP_nil] <;> omega) (wp_of fun f => by simp only [List.countP_append, List.countP_cons, List.countP_nil] <;> omega) rfl rfl (Nat.le_of_ble_eq_true rfl) ⟨(Nat.le_of_ble_eq_true rfl), (Nat.le_of_ble_eq_true rfl)⟩ dL_areSeamsRight_256 (fun H locs hP hD hS => ?_)
              refine lv_goto (tgt := 263) hx hb dL_areSeamsRight_259 (by decide) ?_
              exact hJ263 z31 x7 o32 x6 _ _ _ _ hf hr hP hD hS (lv_sub hl [2, 3, 4, 5, 6, 0, 8] rfl)
          have hJ225 : ∀ (x5 : Int32) (x6 : Int32) (x7 : Int32) (H : Heap) (locs : List Loc) (ls : Array Slot) (r : Sum (Int32 × Int32 × Int32) (Int32 × Int32 × Int32)), f_L_areSeamsRight_J225 u1 qv sv x2 x3 x4 x5 x6 x7 = some r → jbR (fun s => f_L_areSeamsRight_L196 u1 qv sv x2 x3 x4 (s.1) (s.2.1) (s.2.2)) n196 o196 r → va_P (gD g) vwCl (wA g b1 u1 30 ++ wT g ha tv ++ wQ g (ha 1) qv ++ wS g (ha 3) sv) H → va_D A (wA g b1 u1 30 ++ wT g ha tv ++ wQ g (ha 1) qv ++ wS g (ha 3) sv) → va_S A s.heap H locs → lv_has ls 9 [(0, .ref (ha 0 0)), (1, .ref b1), (2, .int x2), (3, .int x3), (4, .int x4), (5, .int x5), (6, .int x6), (7, .int x7)] → W p l e rm_L_areSeamsRight s mi [.ref (ha 0 0)].toArray below meth c H locs (1) (30) Q (F0 mi 225 ls []) := by
            intro x5 x6 x7 H locs ls r hf hr hP hD hS hl
            unfold f_L_areSeamsRight_J225 at hf
            refine lv_iconst (v := 0) hx hb dL_areSeamsRight_225 (by decide) ?_
            exact hJ226 x5 x6 x7 0 _ _ _ _ hf hr hP hD hS (lv_sub hl [0, 1, 2, 3, 4, 5, 6, 7] rfl)
          refine lv_iload hx hb dL_areSeamsRight_196 (lv_at hl 7 rfl) ?_
          refine lv_bipush (v := 30) hx hb dL_areSeamsRight_198 (by decide) ?_
          refine lv_icmp_ge (tgt := 272) hx hb dL_areSeamsRight_200 (by decide) (fun hc => ?_) (fun hc => ?_)
          · have hf := jbT hf hc
            cases hf
            obtain rfl := jbR_r hr
            exact hk _ _ _ hP hD hS (lv_sub hl [0, 1, 2, 3, 4, 5, 6] rfl)
          · have hf := jbF hf hc
            refine lv_aload_n hx hb dL_areSeamsRight_203 rfl (lv_at hl 1 rfl) ?_
            refine lv_iload hx hb dL_areSeamsRight_204 (lv_at hl 4 rfl) ?_
            obtain ⟨h26, hf⟩ := jbA_e hf
            refine va_iald hx hb hK hP 0 0 rfl rfl h26 dL_areSeamsRight_206 ?_
            refine lv_if_lt (tgt := 225) hx hb dL_areSeamsRight_207 (by decide) (fun hc => ?_) (fun hc => ?_)
            · have hf := jbT hf hc
              exact hJ225 x5 x6 x7 _ _ _ _ hf hr hP hD hS (lv_sub hl [0, 1, 2, 3, 4, 5, 6, 7] rfl)
            · have hf := jbF hf hc
              refine lv_aload_n hx hb dL_areSeamsRight_210 rfl (lv_at hl 1 rfl) ?_
              refine lv_iload hx hb dL_areSeamsRight_211 (lv_at hl 7 rfl) ?_
              obtain ⟨h27, hf⟩ := jbA_e hf
              refine va_iald hx hb hK hP 0 0 rfl rfl h27 dL_areSeamsRight_213 ?_
              refine lv_aload_n hx hb dL_areSeamsRight_214 rfl (lv_at hl 1 rfl) ?_
              refine lv_iload hx hb dL_areSeamsRight_215 (lv_at hl 4 rfl) ?_
              obtain ⟨h28, hf⟩ := jbA_e hf
              refine va_iald hx hb hK hP 0 0 rfl rfl h28 dL_areSeamsRight_217 ?_
              refine lv_icmp_ne (tgt := 225) hx hb dL_areSeamsRight_218 (by decide) (fun hc => ?_) (fun hc => ?_)
              · have hf := jbF hf hc
                exact hJ225 x5 x6 x7 _ _ _ _ hf hr hP hD hS (lv_sub hl [0, 1, 2, 3, 4, 5, 6, 7] rfl)
              · have hf := jbT hf hc
                refine lv_iconst (v := 1) hx hb dL_areSeamsRight_221 (by decide) ?_
                refine lv_goto (tgt := 226) hx hb dL_areSeamsRight_222 (by decide) ?_
                exact hJ226 x5 x6 x7 1 _ _ _ _ hf hr hP hD hS (lv_sub hl [0, 1, 2, 3, 4, 5, 6, 7] rfl)
      refine lv_iload hx hb dL_areSeamsRight_180 (lv_at hl 4 rfl) ?_
      refine lv_bipush (v := 30) hx hb dL_areSeamsRight_182 (by decide) ?_
      refine lv_icmp_ge (tgt := 346) hx hb dL_areSeamsRight_184 (by decide) (fun hc => ?_) (fun hc => ?_)
      · have hf := jbT hf hc
        cases hf
        obtain rfl := jbR_r hr
        exact hk _ _ _ hP hD hS (lv_sub hl [0, 2, 3] rfl)
      · have hf := jbF hf hc
        refine lv_iconst (v := 0) hx hb dL_areSeamsRight_187 (by decide) ?_
        refine lv_istore (lv' := [(5, .int 0), (0, .ref (ha 0 0)), (1, .ref b1), (2, .int x2), (3, .int x3), (4, .int x4)]) hx hb dL_areSeamsRight_188 hl (by decide) rfl (fun ls hl => ?_)
        refine lv_iconst (v := 0) hx hb dL_areSeamsRight_190 (by decide) ?_
        refine lv_istore (lv' := [(6, .int 0), (5, .int 0), (0, .ref (ha 0 0)), (1, .ref b1), (2, .int x2), (3, .int x3), (4, .int x4)]) hx hb dL_areSeamsRight_191 hl (by decide) rfl (fun ls hl => ?_)
        refine lv_iconst (v := 0) hx hb dL_areSeamsRight_193 (by decide) ?_
        refine lv_istore (lv' := [(7, .int 0), (6, .int 0), (5, .int 0), (0, .ref (ha 0 0)), (1, .ref b1), (2, .int x2), (3, .int x3), (4, .int x4)]) hx hb dL_areSeamsRight_194 hl (by decide) rfl (fun ls hl => ?_)
        obtain ⟨o196, hg, hf⟩ := jbB_e hf
        refine hL196 b1 u1 sv x2 x3 x4 _ 0 0 0 _ _ _ _ hg hP hD hS (lv_sub hl [3, 4, 5, 6, 7, 2, 1, 0] rfl) (fun H locs ls hP hD hS hl => ?_)
        refine lv_iload_n hx hb dL_areSeamsRight_272 rfl (lv_at hl 2 rfl) ?_
        refine lv_aload_n hx hb dL_areSeamsRight_273 rfl (lv_at hl 1 rfl) ?_
        refine lv_iload hx hb dL_areSeamsRight_274 (lv_at hl 4 rfl) ?_
        obtain ⟨h25, hf⟩ := jbA_e hf
        refine va_iald hx hb hK hP 0 0 rfl rfl h25 dL_areSeamsRight_276 ?_
        refine lv_iload hx hb dL_areSeamsRight_277 (lv_at hl 4 rfl) ?_
        refine lv_icmp_ne (tgt := 286) hx hb dL_areSeamsRight_279 (by decide) (fun hc => ?_) (fun hc => ?_)
        · have hf := jbF hf hc
          refine lv_iconst (v := 0) hx hb dL_areSeamsRight_286 (by decide) ?_
          exact hJ287 sv x3 x4 (o196.1) (o196.2.1) 0 x2 _ _ _ _ hf hr hP hD hS (lv_sub hl [0, 1, 3, 4, 5, 6] rfl)
        · have hf := jbT hf hc
          refine lv_iconst (v := 1) hx hb dL_areSeamsRight_282 (by decide) ?_
          refine lv_goto (tgt := 287) hx hb dL_areSeamsRight_283 (by decide) ?_
          exact hJ287 sv x3 x4 (o196.1) (o196.2.1) 1 x2 _ _ _ _ hf hr hP hD hS (lv_sub hl [0, 1, 3, 4, 5, 6] rfl)
  have hL44 : ∀ (b1 : Nat) (sv : SV) (n44 : Nat) (x2 : Int32) (u1 : (Nat → Int32)) (H : Heap) (locs : List Loc) (ls : Array Slot) (o44 : Int32 × (Nat → Int32)), jbL (fun s => f_L_areSeamsRight_L44 qv sv (s.1) (s.2)) n44 (x2, u1) = some o44 → va_P (gD g) vwCl (wA g b1 u1 30 ++ wT g ha tv ++ wQ g (ha 1) qv ++ wS g (ha 3) sv) H → va_D A (wA g b1 u1 30 ++ wT g ha tv ++ wQ g (ha 1) qv ++ wS g (ha 3) sv) → va_S A s.heap H locs → lv_has ls 9 [(0, .ref (ha 0 0)), (1, .ref b1), (2, .int x2)] → (∀ (H : Heap) (locs : List Loc) (ls : Array Slot), va_P (gD g) vwCl (wA g b1 (o44.2) 30 ++ wT g ha tv ++ wQ g (ha 1) qv ++ wS g (ha 3) sv) H → va_D A (wA g b1 (o44.2) 30 ++ wT g ha tv ++ wQ g (ha 1) qv ++ wS g (ha 3) sv) → va_S A s.heap H locs → lv_has ls 9 [(0, .ref (ha 0 0)), (1, .ref b1)] → W p l e rm_L_areSeamsRight s mi [.ref (ha 0 0)].toArray below meth c H locs (1) (30) Q (F0 mi 173 ls [])) → W p l e rm_L_areSeamsRight s mi [.ref (ha 0 0)].toArray below meth c H locs (1) (30) Q (F0 mi 44 ls []) := by
    intro b1 sv n44
    induction n44 with
    | zero => intro x2 u1 H locs ls o44 hf; exact absurd hf (jbL_0 _ _ _)
    | succ n44 ih =>
      intro x2 u1 H locs ls o44 hf hP hD hS hl hk
      obtain ⟨r, hf, hr⟩ := jbL_e hf
      have hf : f_L_areSeamsRight_L44 qv sv x2 u1 = some r := hf
      unfold f_L_areSeamsRight_L44 at hf
      have hL52 : ∀ (b1 : Nat) (sv : SV) (x2 : Int32) (n52 : Nat) (x3 : Int32) (u1 : (Nat → Int32)) (H : Heap) (locs : List Loc) (ls : Array Slot) (o52 : Int32 × (Nat → Int32)), jbL (fun s => f_L_areSeamsRight_L52 qv sv x2 (s.1) (s.2)) n52 (x3, u1) = some o52 → va_P (gD g) vwCl (wA g b1 u1 30 ++ wT g ha tv ++ wQ g (ha 1) qv ++ wS g (ha 3) sv) H → va_D A (wA g b1 u1 30 ++ wT g ha tv ++ wQ g (ha 1) qv ++ wS g (ha 3) sv) → va_S A s.heap H locs → lv_has ls 9 [(0, .ref (ha 0 0)), (1, .ref b1), (2, .int x2), (3, .int x3)] → (∀ (H : Heap) (locs : List Loc) (ls : Array Slot), va_P (gD g) vwCl (wA g b1 (o52.2) 30 ++ wT g ha tv ++ wQ g (ha 1) qv ++ wS g (ha 3) sv) H → va_D A (wA g b1 (o52.2) 30 ++ wT g ha tv ++ wQ g (ha 1) qv ++ wS g (ha 3) sv) → va_S A s.heap H locs → lv_has ls 9 [(0, .ref (ha 0 0)), (1, .ref b1), (2, .int x2)] → W p l e rm_L_areSeamsRight s mi [.ref (ha 0 0)].toArray below meth c H locs (1) (30) Q (F0 mi 167 ls [])) → W p l e rm_L_areSeamsRight s mi [.ref (ha 0 0)].toArray below meth c H locs (1) (30) Q (F0 mi 52 ls []) := by
        intro b1 sv x2 n52
        induction n52 with
        | zero => intro x3 u1 H locs ls o52 hf; exact absurd hf (jbL_0 _ _ _)
        | succ n52 ih =>
          intro x3 u1 H locs ls o52 hf hP hD hS hl hk
          obtain ⟨r, hf, hr⟩ := jbL_e hf
          have hf : f_L_areSeamsRight_L52 qv sv x2 x3 u1 = some r := hf
          unfold f_L_areSeamsRight_L52 at hf
          have hJ160 : ∀ (u1 : (Nat → Int32)) (x3 : Int32) (y0 : Int32) (y1 : Int32) (H : Heap) (locs : List Loc) (ls : Array Slot) (r : Sum (Int32 × (Nat → Int32)) (Int32 × (Nat → Int32))), f_L_areSeamsRight_J160 u1 qv sv x2 x3 y0 y1 = some r → jbR (fun s => f_L_areSeamsRight_L52 qv sv x2 (s.1) (s.2)) n52 o52 r → va_P (gD g) vwCl (wA g b1 u1 30 ++ wT g ha tv ++ wQ g (ha 1) qv ++ wS g (ha 3) sv) H → va_D A (wA g b1 u1 30 ++ wT g ha tv ++ wQ g (ha 1) qv ++ wS g (ha 3) sv) → va_S A s.heap H locs → lv_has ls 9 [(0, .ref (ha 0 0)), (1, .ref b1), (2, .int x2), (3, .int x3)] → W p l e rm_L_areSeamsRight s mi [.ref (ha 0 0)].toArray below meth c H locs (1) (30) Q (F0 mi 160 ls [.int y0, .int y1, .ref b1]) := by
            intro u1 x3 y0 y1 H locs ls r hf hr hP hD hS hl
            unfold f_L_areSeamsRight_J160 at hf
            obtain ⟨h23, hf⟩ := jbA_e hf
            refine va_iast hx hb hK hP hD hS 0 0 rfl rfl h23 dL_areSeamsRight_160 (fun H locs hP hD hS => ?_)
            obtain ⟨w24, ew24⟩ : ∃ y, y = (upd u1 y1.toNatClampNeg y0) := ⟨_, rfl⟩
            have hf := jbN_e hf ew24
            have hP : va_P (gD g) vwCl (wA g b1 w24 30 ++ wT g ha tv ++ wQ g (ha 1) qv ++ wS g (ha 3) sv) H := by rw [ew24]; exact hP
            have hD : va_D A (wA g b1 w24 30 ++ wT g ha tv ++ wQ g (ha 1) qv ++ wS g (ha 3) sv) := by rw [ew24]; exact hD
            refine lv_iinc (v := (x3 + 1)) (lv' := [(3, .int (x3 + 1)), (0, .ref (ha 0 0)), (1, .ref b1), (2, .int x2)]) hx hb dL_areSeamsRight_161 hl (k := 3) rfl rfl (by decide) rfl (fun ls hl => ?_)
            refine lv_goto (tgt := 52) hx hb dL_areSeamsRight_164 (by decide) ?_
            cases hf
            exact ih (x3 + 1) w24 _ _ _ _ hr hP hD hS (lv_sub hl [1, 2, 3, 0] rfl) hk
          have hJ132 : ∀ (u1 : (Nat → Int32)) (x3 : Int32) (x4 : Int32) (x5 : Int32) (y0 : Int32) (H : Heap) (locs : List Loc) (ls : Array Slot) (r : Sum (Int32 × (Nat → Int32)) (Int32 × (Nat → Int32))), f_L_areSeamsRight_J132 u1 qv sv x2 x3 x4 x5 y0 = some r → jbR (fun s => f_L_areSeamsRight_L52 qv sv x2 (s.1) (s.2)) n52 o52 r → va_P (gD g) vwCl (wA g b1 u1 30 ++ wT g ha tv ++ wQ g (ha 1) qv ++ wS g (ha 3) sv) H → va_D A (wA g b1 u1 30 ++ wT g ha tv ++ wQ g (ha 1) qv ++ wS g (ha 3) sv) → va_S A s.heap H locs → lv_has ls 9 [(0, .ref (ha 0 0)), (1, .ref b1), (2, .int x2), (3, .int x3), (4, .int x4), (5, .int x5)] → W p l e rm_L_areSeamsRight s mi [.ref (ha 0 0)].toArray below meth c H locs (1) (30) Q (F0 mi 132 ls [.int y0]) := by
            intro u1 x3 x4 x5 y0 H locs ls r hf hr hP hD hS hl
            unfold f_L_areSeamsRight_J132 at hf
            refine lv_istore (lv' := [(6, .int y0), (0, .ref (ha 0 0)), (1, .ref b1), (2, .int x2), (3, .int x3), (4, .int x4), (5, .int x5)]) hx hb dL_areSeamsRight_132 hl (by decide) rfl (fun ls hl => ?_)
            refine lv_aload_n hx hb dL_areSeamsRight_134 rfl (lv_at hl 2 rfl) ?_
            refine lv_iload hx hb dL_areSeamsRight_135 (lv_at hl 5 rfl) ?_
            refine lv_iload hx hb dL_areSeamsRight_137 (lv_at hl 0 rfl) ?_
            refine lv_if_eq (tgt := 156) hx hb dL_areSeamsRight_139 (by decide) (fun hc => ?_) (fun hc => ?_)
            · have hf := jbT hf hc
              refine lv_aload_n hx hb dL_areSeamsRight_156 rfl (lv_at hl 2 rfl) ?_
              refine lv_iload hx hb dL_areSeamsRight_157 (lv_at hl 5 rfl) ?_
              obtain ⟨h20, hf⟩ := jbA_e hf
              refine va_iald hx hb hK hP 0 0 rfl rfl h20 dL_areSeamsRight_159 ?_
              exact hJ160 u1 x3 (u1 x4.toNatClampNeg) x4 _ _ _ _ hf hr hP hD hS (lv_sub hl [1, 2, 3, 4] rfl)
            · have hf := jbF hf hc
              refine lv_aload_n hx hb dL_areSeamsRight_142 rfl (lv_at hl 2 rfl) ?_
              refine lv_iload hx hb dL_areSeamsRight_143 (lv_at hl 5 rfl) ?_
              obtain ⟨h21, hf⟩ := jbA_e hf
              refine va_iald hx hb hK hP 0 0 rfl rfl h21 dL_areSeamsRight_145 ?_
              refine lv_aload_n hx hb dL_areSeamsRight_146 rfl (lv_at hl 2 rfl) ?_
              refine lv_iload hx hb dL_areSeamsRight_147 (lv_at hl 6 rfl) ?_
              obtain ⟨h22, hf⟩ := jbA_e hf
              refine va_iald hx hb hK hP 0 0 rfl rfl h22 dL_areSeamsRight_149 ?_
              refine va_mmin hx hb (hml.trans hl.1.symm) hown k1 k2 k3 k4 (Nat.le_of_ble_eq_true rfl) (Nat.le_of_ble_eq_true rfl) (Nat.le_of_ble_eq_true rfl) (Nat.le_of_ble_eq_true rfl) dL_areSeamsRight_150 ?_
              refine lv_goto (tgt := 160) hx hb dL_areSeamsRight_153 (by decide) ?_
              exact hJ160 u1 x3 (jMin (u1 x4.toNatClampNeg) (u1 x5.toNatClampNeg)) x4 _ _ _ _ hf hr hP hD hS (lv_sub hl [1, 2, 3, 4] rfl)
          have hJ131 : ∀ (u1 : (Nat → Int32)) (x3 : Int32) (x4 : Int32) (x5 : Int32) (H : Heap) (locs : List Loc) (ls : Array Slot) (r : Sum (Int32 × (Nat → Int32)) (Int32 × (Nat → Int32))), f_L_areSeamsRight_J131 u1 qv sv x2 x3 x4 x5 = some r → jbR (fun s => f_L_areSeamsRight_L52 qv sv x2 (s.1) (s.2)) n52 o52 r → va_P (gD g) vwCl (wA g b1 u1 30 ++ wT g ha tv ++ wQ g (ha 1) qv ++ wS g (ha 3) sv) H → va_D A (wA g b1 u1 30 ++ wT g ha tv ++ wQ g (ha 1) qv ++ wS g (ha 3) sv) → va_S A s.heap H locs → lv_has ls 9 [(0, .ref (ha 0 0)), (1, .ref b1), (2, .int x2), (3, .int x3), (4, .int x4), (5, .int x5)] → W p l e rm_L_areSeamsRight s mi [.ref (ha 0 0)].toArray below meth c H locs (1) (30) Q (F0 mi 131 ls []) := by
            intro u1 x3 x4 x5 H locs ls r hf hr hP hD hS hl
            unfold f_L_areSeamsRight_J131 at hf
            refine lv_iconst (v := 0) hx hb dL_areSeamsRight_131 (by decide) ?_
            exact hJ132 u1 x3 x4 x5 0 _ _ _ _ hf hr hP hD hS (lv_sub hl [0, 1, 2, 3, 4, 5] rfl)
          refine lv_iload_n hx hb dL_areSeamsRight_52 rfl (lv_at hl 3 rfl) ?_
          refine lv_sipush (v := 900) hx hb dL_areSeamsRight_53 (by decide) ?_
          refine lv_icmp_ge (tgt := 167) hx hb dL_areSeamsRight_56 (by decide) (fun hc => ?_) (fun hc => ?_)
          · have hf := jbT hf hc
            cases hf
            obtain rfl := jbR_r hr
            exact hk _ _ _ hP hD hS (lv_sub hl [0, 1, 2] rfl)
          · have hf := jbF hf hc
            refine lv_iload_n hx hb dL_areSeamsRight_59 rfl (lv_at hl 3 rfl) ?_
            refine lv_bipush (v := 30) hx hb dL_areSeamsRight_60 (by decide) ?_
            refine lv_idiv hx hb dL_areSeamsRight_62 (by decide) ?_
            refine lv_topi (fun z10 ez10 => ?_)
            have hf := jbN_e hf ez10
            refine lv_istore (lv' := [(4, .int z10), (0, .ref (ha 0 0)), (1, .ref b1), (2, .int x2), (3, .int x3)]) hx hb dL_areSeamsRight_63 hl (by decide) rfl (fun ls hl => ?_)
            refine lv_iload_n hx hb dL_areSeamsRight_65 rfl (lv_at hl 4 rfl) ?_
            refine lv_bipush (v := 30) hx hb dL_areSeamsRight_66 (by decide) ?_
            refine lv_irem hx hb dL_areSeamsRight_68 (by decide) ?_
            refine lv_topi (fun z11 ez11 => ?_)
            have hf := jbN_e hf ez11
            refine lv_istore (lv' := [(5, .int z11), (4, .int z10), (0, .ref (ha 0 0)), (1, .ref b1), (2, .int x2), (3, .int x3)]) hx hb dL_areSeamsRight_69 hl (by decide) rfl (fun ls hl => ?_)
            refine lv_iload hx hb dL_areSeamsRight_71 (lv_at hl 1 rfl) ?_
            refine lv_iload hx hb dL_areSeamsRight_73 (lv_at hl 0 rfl) ?_
            obtain ⟨o12, g13, hf⟩ := jbB_e hf
            refine csn_i (As := [.int z10, .int z11]) (rest := []) ⟨hx, hb, hml, hown, hts⟩ (c_L_far l g z10 z11 _ g13) (va_cwS 2 hts gL_areSeamsRight_L_far rfl rfl rfl hd_L_far ⟨(Nat.le_of_ble_eq_true rfl), (Nat.le_of_ble_eq_true rfl)⟩) hK hZ hT hA hP hD hS hl.1 rfl rfl (Nat.le_of_ble_eq_true rfl) ⟨(Nat.le_of_ble_eq_true rfl), (Nat.le_of_ble_eq_true rfl)⟩ dL_areSeamsRight_75 (fun H locs hP hD hS => ?_)
            refine lv_iconst (v := 1) hx hb dL_areSeamsRight_78 (by decide) ?_
            refine lv_icmp_ne (tgt := 131) hx hb dL_areSeamsRight_79 (by decide) (fun hc => ?_) (fun hc => ?_)
            · have hf := jbF hf hc
              exact hJ131 u1 x3 z10 z11 _ _ _ _ hf hr hP hD hS (lv_sub hl [2, 3, 4, 5, 1, 0] rfl)
            · have hf := jbT hf hc
              refine lv_aload_n hx hb dL_areSeamsRight_82 rfl (lv_at hl 3 rfl) ?_
              refine lv_iload hx hb dL_areSeamsRight_83 (lv_at hl 1 rfl) ?_
              obtain ⟨h14, hf⟩ := jbA_e hf
              refine va_iald hx hb hK hP 0 0 rfl rfl h14 dL_areSeamsRight_85 ?_
              refine lv_if_lt (tgt := 131) hx hb dL_areSeamsRight_86 (by decide) (fun hc => ?_) (fun hc => ?_)
              · have hf := jbT hf hc
                exact hJ131 u1 x3 z10 z11 _ _ _ _ hf hr hP hD hS (lv_sub hl [2, 3, 4, 5, 1, 0] rfl)
              · have hf := jbF hf hc
                refine lv_aload_n hx hb dL_areSeamsRight_89 rfl (lv_at hl 3 rfl) ?_
                refine lv_iload hx hb dL_areSeamsRight_90 (lv_at hl 0 rfl) ?_
                obtain ⟨h15, hf⟩ := jbA_e hf
                refine va_iald hx hb hK hP 0 0 rfl rfl h15 dL_areSeamsRight_92 ?_
                refine lv_if_lt (tgt := 131) hx hb dL_areSeamsRight_93 (by decide) (fun hc => ?_) (fun hc => ?_)
                · have hf := jbT hf hc
                  exact hJ131 u1 x3 z10 z11 _ _ _ _ hf hr hP hD hS (lv_sub hl [2, 3, 4, 5, 1, 0] rfl)
                · have hf := jbF hf hc
                  refine lv_aload_n hx hb dL_areSeamsRight_96 rfl (lv_at hl 2 rfl) ?_
                  refine lv_iload hx hb dL_areSeamsRight_97 (lv_at hl 1 rfl) ?_
                  refine lv_bipush (v := 6) hx hb dL_areSeamsRight_99 (by decide) ?_
                  refine lv_idiv hx hb dL_areSeamsRight_101 (by decide) ?_
                  refine lv_iload hx hb dL_areSeamsRight_102 (lv_at hl 1 rfl) ?_
                  refine lv_bipush (v := 6) hx hb dL_areSeamsRight_104 (by decide) ?_
                  refine lv_irem hx hb dL_areSeamsRight_106 (by decide) ?_
                  obtain ⟨o16, g17, hf⟩ := jbB_e hf
                  rcases o16 with x9 | o16
                  · have hf := jbM_l hf
                    cases hf
                  have hf := jbM_r hf
                  refine cpv_i (As := [.int (z10 / 6), .int (z10 - z10 / 6 * 6)]) (rest := []) (Wr := (wA g b1 u1 30 ++ wS g (ha 3) sv)) (Wn := (wA g b1 u1 30 ++ wT g ha tv ++ wQ g (ha 1) qv ++ wS g (ha 3) sv)) ⟨hx, hb, hml, hown, hts⟩ (cn_X10_stone l hlt g ha tv qv (z10 / 6) (z10 - z10 / 6 * 6) _ (show f_X10_stone tv qv (z10 / 6) (z10 - z10 / 6 * 6) = some (.inr o16) from g17)) (cwV 2 hts gL_areSeamsRight_X10_stone rfl rfl rfl hd_X10_stone ⟨(Nat.le_of_ble_eq_true rfl), (Nat.le_of_ble_eq_true rfl)⟩) hK hZ hT hA hP hD hS hl.1 (va_recv hK hP (ci := 9) (q0 := 1) rfl rfl) (wp_of fun f => by simp only [List.countP_append, List.countP_cons, List.countP_nil] <;> omega) (wp_of fun f => by simp only [List.countP_append, List.countP_cons, List.countP_nil] <;> omega) rfl rfl (Nat.le_of_ble_eq_true rfl) ⟨(Nat.le_of_ble_eq_true rfl), (Nat.le_of_ble_eq_true rfl)⟩ dL_areSeamsRight_107 (fun H locs hP hD hS => ?_)
                  refine lv_aload_n hx hb dL_areSeamsRight_110 rfl (lv_at hl 2 rfl) ?_
                  refine lv_iload hx hb dL_areSeamsRight_111 (lv_at hl 0 rfl) ?_
                  refine lv_bipush (v := 6) hx hb dL_areSeamsRight_113 (by decide) ?_
                  refine lv_idiv hx hb dL_areSeamsRight_115 (by decide) ?_
                  refine lv_iload hx hb dL_areSeamsRight_116 (lv_at hl 0 rfl) ?_
                  refine lv_bipush (v := 6) hx hb dL_areSeamsRight_118 (by decide) ?_
                  refine lv_irem hx hb dL_areSeamsRight_120 (by decide) ?_
                  obtain ⟨o18, g19, hf⟩ := jbB_e hf
                  rcases o18 with x9 | o18
                  · have hf := jbM_l hf
                    cases hf
                  have hf := jbM_r hf
                  refine cpv_i (As := [.int (z11 / 6), .int (z11 - z11 / 6 * 6)]) (rest := [.int o16]) (Wr := (wA g b1 u1 30 ++ wS g (ha 3) sv)) (Wn := (wA g b1 u1 30 ++ wT g ha tv ++ wQ g (ha 1) qv ++ wS g (ha 3) sv)) ⟨hx, hb, hml, hown, hts⟩ (cn_X10_stone l hlt g ha tv qv (z11 / 6) (z11 - z11 / 6 * 6) _ (show f_X10_stone tv qv (z11 / 6) (z11 - z11 / 6 * 6) = some (.inr o18) from g19)) (cwV 2 hts gL_areSeamsRight_X10_stone rfl rfl rfl hd_X10_stone ⟨(Nat.le_of_ble_eq_true rfl), (Nat.le_of_ble_eq_true rfl)⟩) hK hZ hT hA hP hD hS hl.1 (va_recv hK hP (ci := 9) (q0 := 1) rfl rfl) (wp_of fun f => by simp only [List.countP_append, List.countP_cons, List.countP_nil] <;> omega) (wp_of fun f => by simp only [List.countP_append, List.countP_cons, List.countP_nil] <;> omega) rfl rfl (Nat.le_of_ble_eq_true rfl) ⟨(Nat.le_of_ble_eq_true rfl), (Nat.le_of_ble_eq_true rfl)⟩ dL_areSeamsRight_121 (fun H locs hP hD hS => ?_)
                  refine lv_icmp_ne (tgt := 131) hx hb dL_areSeamsRight_124 (by decide) (fun hc => ?_) (fun hc => ?_)
                  · have hf := jbF hf hc
                    exact hJ131 u1 x3 z10 z11 _ _ _ _ hf hr hP hD hS (lv_sub hl [2, 3, 4, 5, 1, 0] rfl)
                  · have hf := jbT hf hc
                    refine lv_iconst (v := 1) hx hb dL_areSeamsRight_127 (by decide) ?_
                    refine lv_goto (tgt := 132) hx hb dL_areSeamsRight_128 (by decide) ?_
                    exact hJ132 u1 x3 z10 z11 1 _ _ _ _ hf hr hP hD hS (lv_sub hl [2, 3, 4, 5, 1, 0] rfl)
      refine lv_iload_n hx hb dL_areSeamsRight_44 rfl (lv_at hl 2 rfl) ?_
      refine lv_bipush (v := 30) hx hb dL_areSeamsRight_45 (by decide) ?_
      refine lv_icmp_ge (tgt := 173) hx hb dL_areSeamsRight_47 (by decide) (fun hc => ?_) (fun hc => ?_)
      · have hf := jbT hf hc
        cases hf
        obtain rfl := jbR_r hr
        exact hk _ _ _ hP hD hS (lv_sub hl [0, 1] rfl)
      · have hf := jbF hf hc
        refine lv_iconst (v := 0) hx hb dL_areSeamsRight_50 (by decide) ?_
        refine lv_istore_n (lv' := [(3, .int 0), (0, .ref (ha 0 0)), (1, .ref b1), (2, .int x2)]) hx hb dL_areSeamsRight_51 rfl hl (by decide) rfl (fun ls hl => ?_)
        obtain ⟨o52, hg, hf⟩ := jbB_e hf
        refine hL52 b1 sv x2 _ 0 u1 _ _ _ _ hg hP hD hS (lv_sub hl [1, 2, 3, 0] rfl) (fun H locs ls hP hD hS hl => ?_)
        refine lv_iinc (v := (x2 + 1)) (lv' := [(2, .int (x2 + 1)), (0, .ref (ha 0 0)), (1, .ref b1)]) hx hb dL_areSeamsRight_167 hl (k := 2) rfl rfl (by decide) rfl (fun ls hl => ?_)
        refine lv_goto (tgt := 44) hx hb dL_areSeamsRight_170 (by decide) ?_
        cases hf
        exact ih (x2 + 1) (o52.2) _ _ _ _ hr hP hD hS (lv_sub hl [1, 2, 0] rfl) hk
  have hL7 : ∀ (b1 : Nat) (sv : SV) (n7 : Nat) (x2 : Int32) (u1 : (Nat → Int32)) (H : Heap) (locs : List Loc) (ls : Array Slot) (o7 : Int32 × (Nat → Int32)), jbL (fun s => f_L_areSeamsRight_L7 qv sv (s.1) (s.2)) n7 (x2, u1) = some o7 → va_P (gD g) vwCl (wA g b1 u1 30 ++ wT g ha tv ++ wQ g (ha 1) qv ++ wS g (ha 3) sv) H → va_D A (wA g b1 u1 30 ++ wT g ha tv ++ wQ g (ha 1) qv ++ wS g (ha 3) sv) → va_S A s.heap H locs → lv_has ls 9 [(0, .ref (ha 0 0)), (1, .ref b1), (2, .int x2)] → (∀ (H : Heap) (locs : List Loc) (ls : Array Slot), va_P (gD g) vwCl (wA g b1 (o7.2) 30 ++ wT g ha tv ++ wQ g (ha 1) qv ++ wS g (ha 3) sv) H → va_D A (wA g b1 (o7.2) 30 ++ wT g ha tv ++ wQ g (ha 1) qv ++ wS g (ha 3) sv) → va_S A s.heap H locs → lv_has ls 9 [(0, .ref (ha 0 0)), (1, .ref b1)] → W p l e rm_L_areSeamsRight s mi [.ref (ha 0 0)].toArray below meth c H locs (1) (30) Q (F0 mi 42 ls [])) → W p l e rm_L_areSeamsRight s mi [.ref (ha 0 0)].toArray below meth c H locs (1) (30) Q (F0 mi 7 ls []) := by
    intro b1 sv n7
    induction n7 with
    | zero => intro x2 u1 H locs ls o7 hf; exact absurd hf (jbL_0 _ _ _)
    | succ n7 ih =>
      intro x2 u1 H locs ls o7 hf hP hD hS hl hk
      obtain ⟨r, hf, hr⟩ := jbL_e hf
      have hf : f_L_areSeamsRight_L7 qv sv x2 u1 = some r := hf
      unfold f_L_areSeamsRight_L7 at hf
      have hJ35 : ∀ (u1 : (Nat → Int32)) (x2 : Int32) (y0 : Int32) (y1 : Int32) (H : Heap) (locs : List Loc) (ls : Array Slot) (r : Sum (Int32 × (Nat → Int32)) (Int32 × (Nat → Int32))), f_L_areSeamsRight_J35 u1 qv sv x2 y0 y1 = some r → jbR (fun s => f_L_areSeamsRight_L7 qv sv (s.1) (s.2)) n7 o7 r → va_P (gD g) vwCl (wA g b1 u1 30 ++ wT g ha tv ++ wQ g (ha 1) qv ++ wS g (ha 3) sv) H → va_D A (wA g b1 u1 30 ++ wT g ha tv ++ wQ g (ha 1) qv ++ wS g (ha 3) sv) → va_S A s.heap H locs → lv_has ls 9 [(0, .ref (ha 0 0)), (1, .ref b1), (2, .int x2)] → W p l e rm_L_areSeamsRight s mi [.ref (ha 0 0)].toArray below meth c H locs (1) (30) Q (F0 mi 35 ls [.int y0, .int y1, .ref b1]) := by
        intro u1 x2 y0 y1 H locs ls r hf hr hP hD hS hl
        unfold f_L_areSeamsRight_J35 at hf
        obtain ⟨h8, hf⟩ := jbA_e hf
        refine va_iast hx hb hK hP hD hS 0 0 rfl rfl h8 dL_areSeamsRight_35 (fun H locs hP hD hS => ?_)
        obtain ⟨w9, ew9⟩ : ∃ y, y = (upd u1 y1.toNatClampNeg y0) := ⟨_, rfl⟩
        have hf := jbN_e hf ew9
        have hP : va_P (gD g) vwCl (wA g b1 w9 30 ++ wT g ha tv ++ wQ g (ha 1) qv ++ wS g (ha 3) sv) H := by rw [ew9]; exact hP
        have hD : va_D A (wA g b1 w9 30 ++ wT g ha tv ++ wQ g (ha 1) qv ++ wS g (ha 3) sv) := by rw [ew9]; exact hD
        refine lv_iinc (v := (x2 + 1)) (lv' := [(2, .int (x2 + 1)), (0, .ref (ha 0 0)), (1, .ref b1)]) hx hb dL_areSeamsRight_36 hl (k := 2) rfl rfl (by decide) rfl (fun ls hl => ?_)
        refine lv_goto (tgt := 7) hx hb dL_areSeamsRight_39 (by decide) ?_
        cases hf
        exact ih (x2 + 1) w9 _ _ _ _ hr hP hD hS (lv_sub hl [1, 2, 0] rfl) hk
      refine lv_iload_n hx hb dL_areSeamsRight_7 rfl (lv_at hl 2 rfl) ?_
      refine lv_bipush (v := 30) hx hb dL_areSeamsRight_8 (by decide) ?_
      refine lv_icmp_ge (tgt := 42) hx hb dL_areSeamsRight_10 (by decide) (fun hc => ?_) (fun hc => ?_)
      · have hf := jbT hf hc
        cases hf
        obtain rfl := jbR_r hr
        exact hk _ _ _ hP hD hS (lv_sub hl [0, 1] rfl)
      · have hf := jbF hf hc
        refine lv_aload_n hx hb dL_areSeamsRight_13 rfl (lv_at hl 1 rfl) ?_
        refine lv_iload_n hx hb dL_areSeamsRight_14 rfl (lv_at hl 2 rfl) ?_
        refine lv_aload_n hx hb dL_areSeamsRight_15 rfl (lv_at hl 0 rfl) ?_
        refine lv_iload_n hx hb dL_areSeamsRight_16 rfl (lv_at hl 2 rfl) ?_
        refine lv_bipush (v := 6) hx hb dL_areSeamsRight_17 (by decide) ?_
        refine lv_idiv hx hb dL_areSeamsRight_19 (by decide) ?_
        refine lv_iload_n hx hb dL_areSeamsRight_20 rfl (lv_at hl 2 rfl) ?_
        refine lv_bipush (v := 6) hx hb dL_areSeamsRight_21 (by decide) ?_
        refine lv_irem hx hb dL_areSeamsRight_23 (by decide) ?_
        obtain ⟨o6, g7, hf⟩ := jbB_e hf
        rcases o6 with x9 | o6
        · have hf := jbM_l hf
          cases hf
        have hf := jbM_r hf
        refine cpv_i (As := [.int (x2 / 6), .int (x2 - x2 / 6 * 6)]) (rest := [.int x2, .ref b1]) (Wr := (wA g b1 u1 30 ++ wS g (ha 3) sv)) (Wn := (wA g b1 u1 30 ++ wT g ha tv ++ wQ g (ha 1) qv ++ wS g (ha 3) sv)) ⟨hx, hb, hml, hown, hts⟩ (cn_X10_height l hlt g ha tv qv (x2 / 6) (x2 - x2 / 6 * 6) _ (show f_X10_height tv qv (x2 / 6) (x2 - x2 / 6 * 6) = some (.inr o6) from g7)) (cwV 2 hts gL_areSeamsRight_X10_height rfl rfl rfl hd_X10_height ⟨(Nat.le_of_ble_eq_true rfl), (Nat.le_of_ble_eq_true rfl)⟩) hK hZ hT hA hP hD hS hl.1 (va_recv hK hP (ci := 9) (q0 := 1) rfl rfl) (wp_of fun f => by simp only [List.countP_append, List.countP_cons, List.countP_nil] <;> omega) (wp_of fun f => by simp only [List.countP_append, List.countP_cons, List.countP_nil] <;> omega) rfl rfl (Nat.le_of_ble_eq_true rfl) ⟨(Nat.le_of_ble_eq_true rfl), (Nat.le_of_ble_eq_true rfl)⟩ dL_areSeamsRight_24 (fun H locs hP hD hS => ?_)
        refine lv_if_le (tgt := 34) hx hb dL_areSeamsRight_27 (by decide) (fun hc => ?_) (fun hc => ?_)
        · have hf := jbT hf hc
          refine lv_iconst (v := (-1)) hx hb dL_areSeamsRight_34 (by decide) ?_
          exact hJ35 u1 x2 (-1) x2 _ _ _ _ hf hr hP hD hS (lv_sub hl [0, 1, 2] rfl)
        · have hf := jbF hf hc
          refine lv_iload_n hx hb dL_areSeamsRight_30 rfl (lv_at hl 2 rfl) ?_
          refine lv_goto (tgt := 35) hx hb dL_areSeamsRight_31 (by decide) ?_
          exact hJ35 u1 x2 x2 x2 _ _ _ _ hf hr hP hD hS (lv_sub hl [0, 1, 2] rfl)
  refine lv_bipush (v := 30) hx hb dL_areSeamsRight_0 (by decide) ?_
  refine va_newa (atype := .int) (a0 := (30, .inl (fun _ => 0))) hx hb k0 rfl hK hP hD hS hA (fun _ => rfl) (by decide) (show (30 : Int32).toNatClampNeg = 30 from by decide) (by decide) (Nat.le_of_ble_eq_true rfl) (Nat.le_of_ble_eq_true rfl) dL_areSeamsRight_2 (fun b1 cA9 H hK9 hP hD hS => ?_)
  have e9 := ar_id hK9 0 rfl
  rw [e9] at hP hD
  have hP : va_P (gD g) vwCl (wA g b1 (fun _ => (0 : Int32)) 30 ++ (wT g ha tv ++ wQ g (ha 1) qv ++ wS g (ha 3) sv)) H := wp_P List.perm_append_comm hP
  have hD : va_D A (wA g b1 (fun _ => (0 : Int32)) 30 ++ (wT g ha tv ++ wQ g (ha 1) qv ++ wS g (ha 3) sv)) := wp_D List.perm_append_comm hD
  obtain ⟨w1, ew1⟩ : ∃ y, y = (fun _ => (0 : Int32)) := ⟨_, rfl⟩
  have hf := jbN_e hf ew1
  rw [← ew1] at hP hD
  have hP : va_P (gD g) vwCl (wA g b1 w1 30 ++ wT g ha tv ++ wQ g (ha 1) qv ++ wS g (ha 3) sv) H := hP
  have hD : va_D A (wA g b1 w1 30 ++ wT g ha tv ++ wQ g (ha 1) qv ++ wS g (ha 3) sv) := hD
  refine lv_astore_n (lv' := [(1, .ref b1), (0, .ref (ha 0 0))]) hx hb dL_areSeamsRight_4 rfl hl (by decide) rfl (fun ls hl => ?_)
  refine lv_iconst (v := 0) hx hb dL_areSeamsRight_5 (by decide) ?_
  refine lv_istore_n (lv' := [(2, .int 0), (1, .ref b1), (0, .ref (ha 0 0))]) hx hb dL_areSeamsRight_6 rfl hl (by decide) rfl (fun ls hl => ?_)
  obtain ⟨o7, hg, hf⟩ := jbB_e hf
  refine hL7 b1 sv _ 0 w1 _ _ _ _ hg hP hD hS (lv_sub hl [2, 1, 0] rfl) (fun H locs ls hP hD hS hl => ?_)
  refine lv_iconst (v := 0) hx hb dL_areSeamsRight_42 (by decide) ?_
  refine lv_istore_n (lv' := [(2, .int 0), (0, .ref (ha 0 0)), (1, .ref b1)]) hx hb dL_areSeamsRight_43 rfl hl (by decide) rfl (fun ls hl => ?_)
  obtain ⟨o44, hg, hf⟩ := jbB_e hf
  refine hL44 b1 sv _ 0 (o7.2) _ _ _ _ hg hP hD hS (lv_sub hl [1, 2, 0] rfl) (fun H locs ls hP hD hS hl => ?_)
  refine lv_iconst (v := 0) hx hb dL_areSeamsRight_173 (by decide) ?_
  refine lv_istore_n (lv' := [(2, .int 0), (0, .ref (ha 0 0)), (1, .ref b1)]) hx hb dL_areSeamsRight_174 rfl hl (by decide) rfl (fun ls hl => ?_)
  refine lv_iconst (v := 1) hx hb dL_areSeamsRight_175 (by decide) ?_
  refine lv_istore_n (lv' := [(3, .int 1), (2, .int 0), (0, .ref (ha 0 0)), (1, .ref b1)]) hx hb dL_areSeamsRight_176 rfl hl (by decide) rfl (fun ls hl => ?_)
  refine lv_iconst (v := 0) hx hb dL_areSeamsRight_177 (by decide) ?_
  refine lv_istore (lv' := [(4, .int 0), (3, .int 1), (2, .int 0), (0, .ref (ha 0 0)), (1, .ref b1)]) hx hb dL_areSeamsRight_178 hl (by decide) rfl (fun ls hl => ?_)
  obtain ⟨o180, hg, hf⟩ := jbB_e hf
  refine hL180 b1 (o44.2) _ 0 1 0 sv _ _ _ _ hg hP hD hS (lv_sub hl [3, 4, 2, 1, 0] rfl) (fun H locs ls hP hD hS hl => ?_)
  refine lv_iload_n hx hb dL_areSeamsRight_346 rfl (lv_at hl 2 rfl) ?_
  refine lv_if_eq (tgt := 370) hx hb dL_areSeamsRight_347 (by decide) (fun hc => ?_) (fun hc => ?_)
  · have hf := jbT hf hc
    refine lv_iconst (v := 0) hx hb dL_areSeamsRight_370 (by decide) ?_
    have hP : va_P (gD g) vwCl (wT g ha tv ++ wQ g (ha 1) qv ++ wS g (ha 3) (o180.2.2.2)) H := wp_Pl (wp_P (wp_of fun f => by simp only [List.countP_append, List.countP_cons, List.countP_nil] <;> omega) hP : va_P (gD g) vwCl ((wT g ha tv ++ wQ g (ha 1) qv ++ wS g (ha 3) (o180.2.2.2)) ++ (wA g b1 (o44.2) 30)) H)
    have hD : va_D A (wT g ha tv ++ wQ g (ha 1) qv ++ wS g (ha 3) (o180.2.2.2)) := wp_Dl (wp_D (wp_of fun f => by simp only [List.countP_append, List.countP_cons, List.countP_nil] <;> omega) hD : va_D A ((wT g ha tv ++ wQ g (ha 1) qv ++ wS g (ha 3) (o180.2.2.2)) ++ (wA g b1 (o44.2) 30)))
    cases hf
    subst hQ
    exact rt_i hx hb hrt hlk nar_0 hK hP hD hS (Nat.le_of_ble_eq_true rfl) (Nat.le_of_ble_eq_true rfl) dL_areSeamsRight_371
  · have hf := jbF hf hc
    refine lv_aload_n hx hb dL_areSeamsRight_350 rfl (lv_at hl 0 rfl) ?_
    obtain ⟨o2, g3, hf⟩ := jbB_e hf
    refine cpv_i (As := []) (rest := []) (Wr := (wA g b1 (o44.2) 30)) (Wn := (wA g b1 (o44.2) 30 ++ wT g ha tv ++ wQ g (ha 1) qv ++ wS g (ha 3) (o2.2))) ⟨hx, hb, hml, hown, hts⟩ (c_X10_seamCount l hlt g ha tv qv (o180.2.2.2) _ (show f_X10_seamCount tv qv (o180.2.2.2) = some o2 from g3)) (cwV 0 hts gL_areSeamsRight_X10_seamCount rfl rfl rfl hd_X10_seamCount ⟨(Nat.le_of_ble_eq_true rfl), (Nat.le_of_ble_eq_true rfl)⟩) hK hZ hT hA hP hD hS hl.1 (va_recv hK hP (ci := 9) (q0 := 1) rfl rfl) (wp_of fun f => by simp only [List.countP_append, List.countP_cons, List.countP_nil] <;> omega) (wp_of fun f => by simp only [List.countP_append, List.countP_cons, List.countP_nil] <;> omega) rfl rfl (Nat.le_of_ble_eq_true rfl) ⟨(Nat.le_of_ble_eq_true rfl), (Nat.le_of_ble_eq_true rfl)⟩ dL_areSeamsRight_351 (fun H locs hP hD hS => ?_)
    refine lv_iload_n hx hb dL_areSeamsRight_354 rfl (lv_at hl 1 rfl) ?_
    refine lv_icmp_ne (tgt := 370) hx hb dL_areSeamsRight_355 (by decide) (fun hc => ?_) (fun hc => ?_)
    · have hf := jbF hf hc
      refine lv_iconst (v := 0) hx hb dL_areSeamsRight_370 (by decide) ?_
      have hP : va_P (gD g) vwCl (wT g ha tv ++ wQ g (ha 1) qv ++ wS g (ha 3) (o2.2)) H := wp_Pl (wp_P (wp_of fun f => by simp only [List.countP_append, List.countP_cons, List.countP_nil] <;> omega) hP : va_P (gD g) vwCl ((wT g ha tv ++ wQ g (ha 1) qv ++ wS g (ha 3) (o2.2)) ++ (wA g b1 (o44.2) 30)) H)
      have hD : va_D A (wT g ha tv ++ wQ g (ha 1) qv ++ wS g (ha 3) (o2.2)) := wp_Dl (wp_D (wp_of fun f => by simp only [List.countP_append, List.countP_cons, List.countP_nil] <;> omega) hD : va_D A ((wT g ha tv ++ wQ g (ha 1) qv ++ wS g (ha 3) (o2.2)) ++ (wA g b1 (o44.2) 30)))
      cases hf
      subst hQ
      exact rt_i hx hb hrt hlk nar_0 hK hP hD hS (Nat.le_of_ble_eq_true rfl) (Nat.le_of_ble_eq_true rfl) dL_areSeamsRight_371
    · have hf := jbT hf hc
      refine lv_aload_n hx hb dL_areSeamsRight_358 rfl (lv_at hl 0 rfl) ?_
      obtain ⟨o4, g5, hf⟩ := jbB_e hf
      refine cpv_i (As := []) (rest := []) (Wr := (wA g b1 (o44.2) 30)) (Wn := (wA g b1 (o44.2) 30 ++ wT g ha tv ++ wQ g (ha 1) qv ++ wS g (ha 3) (o4.2))) ⟨hx, hb, hml, hown, hts⟩ (c_X10_seamCountByMerging l hlt g ha tv qv (o2.2) _ (show f_X10_seamCountByMerging tv qv (o2.2) = some o4 from g5)) (cwV 0 hts gL_areSeamsRight_X10_seamCountByMerging rfl rfl rfl hd_X10_seamCountByMerging ⟨(Nat.le_of_ble_eq_true rfl), (Nat.le_of_ble_eq_true rfl)⟩) hK hZ hT hA hP hD hS hl.1 (va_recv hK hP (ci := 9) (q0 := 1) rfl rfl) (wp_of fun f => by simp only [List.countP_append, List.countP_cons, List.countP_nil] <;> omega) (wp_of fun f => by simp only [List.countP_append, List.countP_cons, List.countP_nil] <;> omega) rfl rfl (Nat.le_of_ble_eq_true rfl) ⟨(Nat.le_of_ble_eq_true rfl), (Nat.le_of_ble_eq_true rfl)⟩ dL_areSeamsRight_359 (fun H locs hP hD hS => ?_)
      refine lv_iload_n hx hb dL_areSeamsRight_362 rfl (lv_at hl 1 rfl) ?_
      refine lv_icmp_ne (tgt := 370) hx hb dL_areSeamsRight_363 (by decide) (fun hc => ?_) (fun hc => ?_)
      · have hf := jbF hf hc
        refine lv_iconst (v := 0) hx hb dL_areSeamsRight_370 (by decide) ?_
        have hP : va_P (gD g) vwCl (wT g ha tv ++ wQ g (ha 1) qv ++ wS g (ha 3) (o4.2)) H := wp_Pl (wp_P (wp_of fun f => by simp only [List.countP_append, List.countP_cons, List.countP_nil] <;> omega) hP : va_P (gD g) vwCl ((wT g ha tv ++ wQ g (ha 1) qv ++ wS g (ha 3) (o4.2)) ++ (wA g b1 (o44.2) 30)) H)
        have hD : va_D A (wT g ha tv ++ wQ g (ha 1) qv ++ wS g (ha 3) (o4.2)) := wp_Dl (wp_D (wp_of fun f => by simp only [List.countP_append, List.countP_cons, List.countP_nil] <;> omega) hD : va_D A ((wT g ha tv ++ wQ g (ha 1) qv ++ wS g (ha 3) (o4.2)) ++ (wA g b1 (o44.2) 30)))
        cases hf
        subst hQ
        exact rt_i hx hb hrt hlk nar_0 hK hP hD hS (Nat.le_of_ble_eq_true rfl) (Nat.le_of_ble_eq_true rfl) dL_areSeamsRight_371
      · have hf := jbT hf hc
        refine lv_iconst (v := 1) hx hb dL_areSeamsRight_366 (by decide) ?_
        refine lv_goto (tgt := 371) hx hb dL_areSeamsRight_367 (by decide) ?_
        have hP : va_P (gD g) vwCl (wT g ha tv ++ wQ g (ha 1) qv ++ wS g (ha 3) (o4.2)) H := wp_Pl (wp_P (wp_of fun f => by simp only [List.countP_append, List.countP_cons, List.countP_nil] <;> omega) hP : va_P (gD g) vwCl ((wT g ha tv ++ wQ g (ha 1) qv ++ wS g (ha 3) (o4.2)) ++ (wA g b1 (o44.2) 30)) H)
        have hD : va_D A (wT g ha tv ++ wQ g (ha 1) qv ++ wS g (ha 3) (o4.2)) := wp_Dl (wp_D (wp_of fun f => by simp only [List.countP_append, List.countP_cons, List.countP_nil] <;> omega) hD : va_D A ((wT g ha tv ++ wQ g (ha 1) qv ++ wS g (ha 3) (o4.2)) ++ (wA g b1 (o44.2) 30)))
        cases hf
        subst hQ
        exact rt_i hx hb hrt hlk nar_1 hK hP hD hS (Nat.le_of_ble_eq_true rfl) (Nat.le_of_ble_eq_true rfl) dL_areSeamsRight_371
