def rn_X10_refuse : Room := { frames := rm_X10_refuse.frames, cells := 0, slots := 0, locals := rm_X10_refuse.locals }
set_option maxHeartbeats 4000000 in
set_option maxRecDepth 100000 in
theorem c0_X10_refuse (l : Launch) (g : GG) (a0 : Nat) (hf : f_X10_refuse a0 = some (.inr ())) : MtV l yX10_refuse wsX10_refuse rn_X10_refuse g [] [.ref (gS g 0 a0)] [] 0 0 := by
  refine fun sz => mt_of (cc := cX10_refuse) (maxL := 1) (ret := none) (own := RX10) (Qc := fun A => va_Qv (fun (_ : Unit) => True) (fun _ t => PosM g A [] t) A) (by decide +kernel) rfl rfl (Nat.le_of_ble_eq_true rfl) ?_ sz
  intro p e s mi below meth c A ls hB hnm hrt hlk hP hD hl
  obtain ⟨hx, hb, hml, hown, hts, hK, hZ, hT, hA, -⟩ := hB
  have hS : va_S A s.heap s.heap [] := va_S.rf
  have hl : lv_has ls 1 [(0, .ref (gS g 0 a0))] := hl
  have k0 := hts (.fieldLink RX10 336 "TerraceQuarry$1" "$SwitchMap$TerraceQuarry$Fault" "[I") (by decide +kernel)
  obtain ⟨h6, hf⟩ := jbA_e hf
  refine va_gets (C := "TerraceQuarry$1") (n := "$SwitchMap$TerraceQuarry$Fault") (d := "[I") (v := .ref (gS g 4 1)) hx hb hZ.2.2.2.2.2.1.1 hS hown k0 (fun _ h9 => h9) dX10_refuse_0 ?_
  refine lv_aload_n hx hb dX10_refuse_3 rfl (lv_at hl 0 rfl) ?_
  refine cun_i (C := "TerraceQuarry$Fault") (As := []) (rest := [.ref (gS g 4 1)]) ⟨hx, hb, hml, hown, hts⟩ (c_ordF l g a0 h6) (va_cwU 0 hts gX10_refuse_Jx29ce0_ordinal_8abf5_u342X2 rfl rfl rfl rfl (by decide +kernel) ⟨Nat.le_of_ble_eq_true rfl, Nat.le_of_ble_eq_true rfl⟩) hK hZ hT hA hP hD hS hl.1 (va_recvE hZ.1 (show a0 < stF.length from h6) hS) rfl rfl (Nat.le_of_ble_eq_true rfl) ⟨Nat.le_of_ble_eq_true rfl, Nat.le_of_ble_eq_true rfl⟩ dX10_refuse_4 (fun H locs hP hD hS => ?_)
  rcases (show a0 = 0 ∨ a0 = 1 ∨ a0 = 2 ∨ a0 = 3 ∨ a0 = 4 ∨ a0 = 5 by omega) with rfl | rfl | rfl | rfl | rfl | rfl
  · refine va_ti (v := .int 0) hx hb hZ.2.2.2.2.2.1.2 hS (show jIn _ 6 from by decide) (by decide +kernel) dX10_refuse_7 ?_
    refine lv_tableOut (tgt := 99) hx hb dX10_refuse_8 (by decide) (by decide) ?_
    exact rt_v hx hb hrt hlk hK hP hD hS (Nat.le_of_ble_eq_true rfl) (Nat.le_of_ble_eq_true rfl) dX10_refuse_99
  · have hf := jbF hf (by decide); cases hf
  · have hf := jbF hf (by decide); cases hf
  · have hf := jbF hf (by decide); cases hf
  · have hf := jbF hf (by decide); cases hf
  · have hf := jbF hf (by decide); cases hf
def rn_X10_height : Room := { frames := 9, cells := 0, slots := 0, locals := 140 }
set_option maxHeartbeats 4000000 in
set_option maxRecDepth 100000 in
theorem cn_X10_height (l : Launch) (hlt : l.stackTraces = false) (g : GG) (ha : Nat → Nat → Nat) (tv : TV) (qv : QV) (a0 : Int32) (a1 : Int32) (out : Int32) (hf : f_X10_height tv qv a0 a1 = some (.inr out)) : MtI l yX10_height wsX10_height rn_X10_height g (wT g ha tv ++ wQ g (ha 1) qv) [.ref (ha 0 0), .int a0, .int a1] out (wT g ha tv ++ wQ g (ha 1) qv) 0 0 := by
  refine fun sz => mt_of (cc := cX10_height) (maxL := 3) (ret := (some .int)) (own := RX10) (Qc := fun A => va_Qi (fun r (_ : Unit) => r = out) (fun _ t => PosM g A (wT g ha tv ++ wQ g (ha 1) qv) t) A) (by decide +kernel) rfl rfl (Nat.le_of_ble_eq_true rfl) ?_ sz
  intro p e s mi below meth c A ls hB hnm hrt hlk hP hD hl
  obtain ⟨hx, hb, hml, hown, hts, hK, hZ, hT, hA, -⟩ := hB
  have hS : va_S A s.heap s.heap [] := va_S.rf
  have hl : lv_has ls 3 [(0, .ref (ha 0 0)), (1, .int a0), (2, .int a1)] := hl
  have hinX10 : ∀ w ∈ wsX100, w ∈ wsX10_height := by decide +kernel
  have k0 := hts (.fieldLink RX10 10 "TerraceQuarry" "quarry" "LTerraceQuarry$Quarry;") (by decide +kernel)
  generalize hQ : MQ below _ _ _ _ _ _ = Q
  unfold f_X10_height at hf
  refine lv_iload_n hx hb dX10_height_0 rfl (lv_at hl 1 rfl) ?_
  refine lv_iload_n hx hb dX10_height_1 rfl (lv_at hl 2 rfl) ?_
  obtain ⟨o1, g2, hf⟩ := jbB_e hf
  refine csn_e (As := [.int a0, .int a1]) (rest := []) ⟨hx, hb, hml, hown, hts⟩ (c_X3_cellFault l g a0 a1 _ g2) (va_cwS 2 hts gX10_height_X3_cellFault rfl rfl rfl hd_X3_cellFault ⟨Nat.le_of_ble_eq_true rfl, Nat.le_of_ble_eq_true rfl⟩) hK hZ hT hA hP hD hS hl.1 rfl rfl (Nat.le_of_ble_eq_true rfl) ⟨Nat.le_of_ble_eq_true rfl, Nat.le_of_ble_eq_true rfl⟩ dX10_height_2 (fun H locs hP hD hS => ?_)
  obtain ⟨o3, g4, hf⟩ := jbB_e hf
  rcases o3 with x9 | x9
  · have hf := jbM_l hf
    cases hf
  have hf := jbM_r hf
  refine csn_v (As := [.ref (gS g 0 o1)]) (rest := []) ⟨hx, hb, hml, hown, hts⟩ (c0_X10_refuse l g o1 g4) (va_cwS 1 hts gX10_height_X10_refuse rfl rfl rfl hd_X10_refuse ⟨(Nat.le_of_ble_eq_true rfl), (Nat.le_of_ble_eq_true rfl)⟩) hK hZ hT hA hP hD hS hl.1 rfl rfl (Nat.le_of_ble_eq_true rfl) ⟨(Nat.le_of_ble_eq_true rfl), (Nat.le_of_ble_eq_true rfl)⟩ dX10_height_5 (fun H locs hP hD hS => ?_)
  refine lv_aload_n hx hb dX10_height_8 rfl (lv_at hl 0 rfl) ?_
  refine va_get (D := gD g) (ci := 9) (v := .ref (ha 1 0)) (C := RX10) (T := TX10) (N := 9) hx hb hts hinX10 hown hK hP 0 rfl rfl 0 (by decide) k0 (fun _ h9 => h9) rfl dX10_height_9 ?_
  refine lv_iload_n hx hb dX10_height_12 rfl (lv_at hl 1 rfl) ?_
  refine lv_iload_n hx hb dX10_height_13 rfl (lv_at hl 2 rfl) ?_
  obtain ⟨o5, g6, hf⟩ := jbB_e hf
  refine csn_i (As := [.int a0, .int a1]) (rest := [.ref (ha 1 0)]) ⟨hx, hb, hml, hown, hts⟩ (c_X3_cellAt l g a0 a1 _ g6) (va_cwS 2 hts gX10_height_X3_cellAt rfl rfl rfl hd_X3_cellAt ⟨Nat.le_of_ble_eq_true rfl, Nat.le_of_ble_eq_true rfl⟩) hK hZ hT hA hP hD hS hl.1 rfl rfl (Nat.le_of_ble_eq_true rfl) ⟨Nat.le_of_ble_eq_true rfl, Nat.le_of_ble_eq_true rfl⟩ dX10_height_14 (fun H locs hP hD hS => ?_)
  obtain ⟨o7, g8, hf⟩ := jbB_e hf
  refine cv_i (As := [.int o5]) (rest := []) (Wr := [0].filterMap (fun i => ((wT g ha tv ++ wQ g (ha 1) qv))[i]?)) ⟨hx, hb, hml, hown, hts⟩ (c_X7_heightAt l g (ha 1) qv o5 _ g8) (cwV 1 hts gX10_height_X7_heightAt rfl rfl rfl hd_X7_heightAt ⟨Nat.le_of_ble_eq_true rfl, Nat.le_of_ble_eq_true rfl⟩) hK hZ hT hA hP hD hS hl.1 (va_recv hK hP (ci := 7) (q0 := 1) rfl rfl) [1, 2, 3, 4, 5, 6, 7, 8, 9, 10] [0] rfl rfl rfl rfl rfl rfl rfl (Nat.le_of_ble_eq_true rfl) ⟨Nat.le_of_ble_eq_true rfl, Nat.le_of_ble_eq_true rfl⟩ dX10_height_17 (fun H locs hP hD hS => ?_)
  have hP : va_P (gD g) vwCl (wT g ha tv ++ wQ g (ha 1) qv) H := hP.sub [0, 1, 2, 3, 4, 5, 6, 7, 8, 9, 10] rfl
  have hD : va_D A (wT g ha tv ++ wQ g (ha 1) qv) := hD.sub [0, 1, 2, 3, 4, 5, 6, 7, 8, 9, 10] rfl rfl
  cases hf
  subst hQ
  exact rt_i hx hb hrt hlk rfl hK hP hD hS (Nat.le_of_ble_eq_true rfl) (Nat.le_of_ble_eq_true rfl) dX10_height_20
def rn_X10_stone : Room := { frames := 9, cells := 0, slots := 0, locals := 140 }
set_option maxHeartbeats 4000000 in
set_option maxRecDepth 100000 in
theorem cn_X10_stone (l : Launch) (hlt : l.stackTraces = false) (g : GG) (ha : Nat → Nat → Nat) (tv : TV) (qv : QV) (a0 : Int32) (a1 : Int32) (out : Int32) (hf : f_X10_stone tv qv a0 a1 = some (.inr out)) : MtI l yX10_stone wsX10_stone rn_X10_stone g (wT g ha tv ++ wQ g (ha 1) qv) [.ref (ha 0 0), .int a0, .int a1] out (wT g ha tv ++ wQ g (ha 1) qv) 0 0 := by
  refine fun sz => mt_of (cc := cX10_stone) (maxL := 3) (ret := (some .int)) (own := RX10) (Qc := fun A => va_Qi (fun r (_ : Unit) => r = out) (fun _ t => PosM g A (wT g ha tv ++ wQ g (ha 1) qv) t) A) (by decide +kernel) rfl rfl (Nat.le_of_ble_eq_true rfl) ?_ sz
  intro p e s mi below meth c A ls hB hnm hrt hlk hP hD hl
  obtain ⟨hx, hb, hml, hown, hts, hK, hZ, hT, hA, -⟩ := hB
  have hS : va_S A s.heap s.heap [] := va_S.rf
  have hl : lv_has ls 3 [(0, .ref (ha 0 0)), (1, .int a0), (2, .int a1)] := hl
  have hinX10 : ∀ w ∈ wsX100, w ∈ wsX10_stone := by decide +kernel
  have k0 := hts (.fieldLink RX10 10 "TerraceQuarry" "quarry" "LTerraceQuarry$Quarry;") (by decide +kernel)
  generalize hQ : MQ below _ _ _ _ _ _ = Q
  unfold f_X10_stone at hf
  refine lv_iload_n hx hb dX10_stone_0 rfl (lv_at hl 1 rfl) ?_
  refine lv_iload_n hx hb dX10_stone_1 rfl (lv_at hl 2 rfl) ?_
  obtain ⟨o1, g2, hf⟩ := jbB_e hf
  refine csn_e (As := [.int a0, .int a1]) (rest := []) ⟨hx, hb, hml, hown, hts⟩ (c_X3_cellFault l g a0 a1 _ g2) (va_cwS 2 hts gX10_stone_X3_cellFault rfl rfl rfl hd_X3_cellFault ⟨Nat.le_of_ble_eq_true rfl, Nat.le_of_ble_eq_true rfl⟩) hK hZ hT hA hP hD hS hl.1 rfl rfl (Nat.le_of_ble_eq_true rfl) ⟨Nat.le_of_ble_eq_true rfl, Nat.le_of_ble_eq_true rfl⟩ dX10_stone_2 (fun H locs hP hD hS => ?_)
  obtain ⟨o3, g4, hf⟩ := jbB_e hf
  rcases o3 with x9 | x9
  · have hf := jbM_l hf
    cases hf
  have hf := jbM_r hf
  refine csn_v (As := [.ref (gS g 0 o1)]) (rest := []) ⟨hx, hb, hml, hown, hts⟩ (c0_X10_refuse l g o1 g4) (va_cwS 1 hts gX10_stone_X10_refuse rfl rfl rfl hd_X10_refuse ⟨(Nat.le_of_ble_eq_true rfl), (Nat.le_of_ble_eq_true rfl)⟩) hK hZ hT hA hP hD hS hl.1 rfl rfl (Nat.le_of_ble_eq_true rfl) ⟨(Nat.le_of_ble_eq_true rfl), (Nat.le_of_ble_eq_true rfl)⟩ dX10_stone_5 (fun H locs hP hD hS => ?_)
  refine lv_aload_n hx hb dX10_stone_8 rfl (lv_at hl 0 rfl) ?_
  refine va_get (D := gD g) (ci := 9) (v := .ref (ha 1 0)) (C := RX10) (T := TX10) (N := 9) hx hb hts hinX10 hown hK hP 0 rfl rfl 0 (by decide) k0 (fun _ h9 => h9) rfl dX10_stone_9 ?_
  refine lv_iload_n hx hb dX10_stone_12 rfl (lv_at hl 1 rfl) ?_
  refine lv_iload_n hx hb dX10_stone_13 rfl (lv_at hl 2 rfl) ?_
  obtain ⟨o5, g6, hf⟩ := jbB_e hf
  refine csn_i (As := [.int a0, .int a1]) (rest := [.ref (ha 1 0)]) ⟨hx, hb, hml, hown, hts⟩ (c_X3_cellAt l g a0 a1 _ g6) (va_cwS 2 hts gX10_stone_X3_cellAt rfl rfl rfl hd_X3_cellAt ⟨Nat.le_of_ble_eq_true rfl, Nat.le_of_ble_eq_true rfl⟩) hK hZ hT hA hP hD hS hl.1 rfl rfl (Nat.le_of_ble_eq_true rfl) ⟨Nat.le_of_ble_eq_true rfl, Nat.le_of_ble_eq_true rfl⟩ dX10_stone_14 (fun H locs hP hD hS => ?_)
  obtain ⟨o7, g8, hf⟩ := jbB_e hf
  refine cv_i (As := [.int o5]) (rest := []) (Wr := [0].filterMap (fun i => ((wT g ha tv ++ wQ g (ha 1) qv))[i]?)) ⟨hx, hb, hml, hown, hts⟩ (c_X7_stoneAt l g (ha 1) qv o5 _ g8) (cwV 1 hts gX10_stone_X7_stoneAt rfl rfl rfl hd_X7_stoneAt ⟨Nat.le_of_ble_eq_true rfl, Nat.le_of_ble_eq_true rfl⟩) hK hZ hT hA hP hD hS hl.1 (va_recv hK hP (ci := 7) (q0 := 1) rfl rfl) [1, 2, 3, 4, 5, 6, 7, 8, 9, 10] [0] rfl rfl rfl rfl rfl rfl rfl (Nat.le_of_ble_eq_true rfl) ⟨Nat.le_of_ble_eq_true rfl, Nat.le_of_ble_eq_true rfl⟩ dX10_stone_17 (fun H locs hP hD hS => ?_)
  have hP : va_P (gD g) vwCl (wT g ha tv ++ wQ g (ha 1) qv) H := hP.sub [0, 1, 2, 3, 4, 5, 6, 7, 8, 9, 10] rfl
  have hD : va_D A (wT g ha tv ++ wQ g (ha 1) qv) := hD.sub [0, 1, 2, 3, 4, 5, 6, 7, 8, 9, 10] rfl rfl
  cases hf
  subst hQ
  exact rt_i hx hb hrt hlk rfl hK hP hD hS (Nat.le_of_ble_eq_true rfl) (Nat.le_of_ble_eq_true rfl) dX10_stone_20
def rn_X10_isLedge : Room := { frames := 9, cells := 0, slots := 0, locals := 140 }
set_option maxHeartbeats 4000000 in
set_option maxRecDepth 100000 in
theorem cn_X10_isLedge (l : Launch) (hlt : l.stackTraces = false) (g : GG) (ha : Nat → Nat → Nat) (tv : TV) (qv : QV) (a0 : Int32) (a1 : Int32) (out : Int32) (hf : f_X10_isLedge tv qv a0 a1 = some (.inr out)) : MtI l yX10_isLedge wsX10_isLedge rn_X10_isLedge g (wT g ha tv ++ wQ g (ha 1) qv) [.ref (ha 0 0), .int a0, .int a1] out (wT g ha tv ++ wQ g (ha 1) qv) 0 0 := by
  refine fun sz => mt_of (cc := cX10_isLedge) (maxL := 3) (ret := (some .boolean)) (own := RX10) (Qc := fun A => va_Qi (fun r (_ : Unit) => r = out) (fun _ t => PosM g A (wT g ha tv ++ wQ g (ha 1) qv) t) A) (by decide +kernel) rfl rfl (Nat.le_of_ble_eq_true rfl) ?_ sz
  intro p e s mi below meth c A ls hB hnm hrt hlk hP hD hl
  obtain ⟨hx, hb, hml, hown, hts, hK, hZ, hT, hA, -⟩ := hB
  have hS : va_S A s.heap s.heap [] := va_S.rf
  have hl : lv_has ls 3 [(0, .ref (ha 0 0)), (1, .int a0), (2, .int a1)] := hl
  have hinX10 : ∀ w ∈ wsX100, w ∈ wsX10_isLedge := by decide +kernel
  have k0 := hts (.fieldLink RX10 10 "TerraceQuarry" "quarry" "LTerraceQuarry$Quarry;") (by decide +kernel)
  generalize hQ : MQ below _ _ _ _ _ _ = Q
  unfold f_X10_isLedge at hf
  refine lv_iload_n hx hb dX10_isLedge_0 rfl (lv_at hl 1 rfl) ?_
  refine lv_iload_n hx hb dX10_isLedge_1 rfl (lv_at hl 2 rfl) ?_
  obtain ⟨o1, g2, hf⟩ := jbB_e hf
  refine csn_e (As := [.int a0, .int a1]) (rest := []) ⟨hx, hb, hml, hown, hts⟩ (c_X3_cellFault l g a0 a1 _ g2) (va_cwS 2 hts gX10_isLedge_X3_cellFault rfl rfl rfl hd_X3_cellFault ⟨Nat.le_of_ble_eq_true rfl, Nat.le_of_ble_eq_true rfl⟩) hK hZ hT hA hP hD hS hl.1 rfl rfl (Nat.le_of_ble_eq_true rfl) ⟨Nat.le_of_ble_eq_true rfl, Nat.le_of_ble_eq_true rfl⟩ dX10_isLedge_2 (fun H locs hP hD hS => ?_)
  obtain ⟨o3, g4, hf⟩ := jbB_e hf
  rcases o3 with x9 | x9
  · have hf := jbM_l hf
    cases hf
  have hf := jbM_r hf
  refine csn_v (As := [.ref (gS g 0 o1)]) (rest := []) ⟨hx, hb, hml, hown, hts⟩ (c0_X10_refuse l g o1 g4) (va_cwS 1 hts gX10_isLedge_X10_refuse rfl rfl rfl hd_X10_refuse ⟨(Nat.le_of_ble_eq_true rfl), (Nat.le_of_ble_eq_true rfl)⟩) hK hZ hT hA hP hD hS hl.1 rfl rfl (Nat.le_of_ble_eq_true rfl) ⟨(Nat.le_of_ble_eq_true rfl), (Nat.le_of_ble_eq_true rfl)⟩ dX10_isLedge_5 (fun H locs hP hD hS => ?_)
  refine lv_aload_n hx hb dX10_isLedge_8 rfl (lv_at hl 0 rfl) ?_
  refine va_get (D := gD g) (ci := 9) (v := .ref (ha 1 0)) (C := RX10) (T := TX10) (N := 9) hx hb hts hinX10 hown hK hP 0 rfl rfl 0 (by decide) k0 (fun _ h9 => h9) rfl dX10_isLedge_9 ?_
  refine lv_iload_n hx hb dX10_isLedge_12 rfl (lv_at hl 1 rfl) ?_
  refine lv_iload_n hx hb dX10_isLedge_13 rfl (lv_at hl 2 rfl) ?_
  obtain ⟨o5, g6, hf⟩ := jbB_e hf
  refine csn_i (As := [.int a0, .int a1]) (rest := [.ref (ha 1 0)]) ⟨hx, hb, hml, hown, hts⟩ (c_X3_cellAt l g a0 a1 _ g6) (va_cwS 2 hts gX10_isLedge_X3_cellAt rfl rfl rfl hd_X3_cellAt ⟨Nat.le_of_ble_eq_true rfl, Nat.le_of_ble_eq_true rfl⟩) hK hZ hT hA hP hD hS hl.1 rfl rfl (Nat.le_of_ble_eq_true rfl) ⟨Nat.le_of_ble_eq_true rfl, Nat.le_of_ble_eq_true rfl⟩ dX10_isLedge_14 (fun H locs hP hD hS => ?_)
  obtain ⟨o7, g8, hf⟩ := jbB_e hf
  refine cv_i (As := [.int o5]) (rest := []) (Wr := [0].filterMap (fun i => ((wT g ha tv ++ wQ g (ha 1) qv))[i]?)) ⟨hx, hb, hml, hown, hts⟩ (c_X7_hasLedgeAt l g (ha 1) qv o5 _ g8) (cwV 1 hts gX10_isLedge_X7_hasLedgeAt rfl rfl rfl hd_X7_hasLedgeAt ⟨Nat.le_of_ble_eq_true rfl, Nat.le_of_ble_eq_true rfl⟩) hK hZ hT hA hP hD hS hl.1 (va_recv hK hP (ci := 7) (q0 := 1) rfl rfl) [1, 2, 3, 4, 5, 6, 7, 8, 9, 10] [0] rfl rfl rfl rfl rfl rfl rfl (Nat.le_of_ble_eq_true rfl) ⟨Nat.le_of_ble_eq_true rfl, Nat.le_of_ble_eq_true rfl⟩ dX10_isLedge_17 (fun H locs hP hD hS => ?_)
  have hP : va_P (gD g) vwCl (wT g ha tv ++ wQ g (ha 1) qv) H := hP.sub [0, 1, 2, 3, 4, 5, 6, 7, 8, 9, 10] rfl
  have hD : va_D A (wT g ha tv ++ wQ g (ha 1) qv) := hD.sub [0, 1, 2, 3, 4, 5, 6, 7, 8, 9, 10] rfl rfl
  obtain ⟨h9, hf⟩ := jbA_e hf
  cases hf
  subst hQ
  exact rt_i hx hb hrt hlk (nar_z h9) hK hP hD hS (Nat.le_of_ble_eq_true rfl) (Nat.le_of_ble_eq_true rfl) dX10_isLedge_20
def rn_X10_looseBlocks : Room := { frames := 9, cells := 0, slots := 0, locals := 140 }
set_option maxHeartbeats 4000000 in
set_option maxRecDepth 100000 in
theorem cn_X10_looseBlocks (l : Launch) (hlt : l.stackTraces = false) (g : GG) (ha : Nat → Nat → Nat) (tv : TV) (qv : QV) (a0 : Int32) (a1 : Int32) (out : Int32) (hf : f_X10_looseBlocks tv qv a0 a1 = some (.inr out)) : MtI l yX10_looseBlocks wsX10_looseBlocks rn_X10_looseBlocks g (wT g ha tv ++ wQ g (ha 1) qv) [.ref (ha 0 0), .int a0, .int a1] out (wT g ha tv ++ wQ g (ha 1) qv) 0 0 := by
  refine fun sz => mt_of (cc := cX10_looseBlocks) (maxL := 3) (ret := (some .int)) (own := RX10) (Qc := fun A => va_Qi (fun r (_ : Unit) => r = out) (fun _ t => PosM g A (wT g ha tv ++ wQ g (ha 1) qv) t) A) (by decide +kernel) rfl rfl (Nat.le_of_ble_eq_true rfl) ?_ sz
  intro p e s mi below meth c A ls hB hnm hrt hlk hP hD hl
  obtain ⟨hx, hb, hml, hown, hts, hK, hZ, hT, hA, -⟩ := hB
  have hS : va_S A s.heap s.heap [] := va_S.rf
  have hl : lv_has ls 3 [(0, .ref (ha 0 0)), (1, .int a0), (2, .int a1)] := hl
  have hinX10 : ∀ w ∈ wsX100, w ∈ wsX10_looseBlocks := by decide +kernel
  have k0 := hts (.fieldLink RX10 10 "TerraceQuarry" "quarry" "LTerraceQuarry$Quarry;") (by decide +kernel)
  generalize hQ : MQ below _ _ _ _ _ _ = Q
  unfold f_X10_looseBlocks at hf
  refine lv_iload_n hx hb dX10_looseBlocks_0 rfl (lv_at hl 1 rfl) ?_
  refine lv_iload_n hx hb dX10_looseBlocks_1 rfl (lv_at hl 2 rfl) ?_
  obtain ⟨o1, g2, hf⟩ := jbB_e hf
  refine csn_e (As := [.int a0, .int a1]) (rest := []) ⟨hx, hb, hml, hown, hts⟩ (c_X3_cellFault l g a0 a1 _ g2) (va_cwS 2 hts gX10_looseBlocks_X3_cellFault rfl rfl rfl hd_X3_cellFault ⟨Nat.le_of_ble_eq_true rfl, Nat.le_of_ble_eq_true rfl⟩) hK hZ hT hA hP hD hS hl.1 rfl rfl (Nat.le_of_ble_eq_true rfl) ⟨Nat.le_of_ble_eq_true rfl, Nat.le_of_ble_eq_true rfl⟩ dX10_looseBlocks_2 (fun H locs hP hD hS => ?_)
  obtain ⟨o3, g4, hf⟩ := jbB_e hf
  rcases o3 with x9 | x9
  · have hf := jbM_l hf
    cases hf
  have hf := jbM_r hf
  refine csn_v (As := [.ref (gS g 0 o1)]) (rest := []) ⟨hx, hb, hml, hown, hts⟩ (c0_X10_refuse l g o1 g4) (va_cwS 1 hts gX10_looseBlocks_X10_refuse rfl rfl rfl hd_X10_refuse ⟨(Nat.le_of_ble_eq_true rfl), (Nat.le_of_ble_eq_true rfl)⟩) hK hZ hT hA hP hD hS hl.1 rfl rfl (Nat.le_of_ble_eq_true rfl) ⟨(Nat.le_of_ble_eq_true rfl), (Nat.le_of_ble_eq_true rfl)⟩ dX10_looseBlocks_5 (fun H locs hP hD hS => ?_)
  refine lv_aload_n hx hb dX10_looseBlocks_8 rfl (lv_at hl 0 rfl) ?_
  refine va_get (D := gD g) (ci := 9) (v := .ref (ha 1 0)) (C := RX10) (T := TX10) (N := 9) hx hb hts hinX10 hown hK hP 0 rfl rfl 0 (by decide) k0 (fun _ h9 => h9) rfl dX10_looseBlocks_9 ?_
  refine lv_iload_n hx hb dX10_looseBlocks_12 rfl (lv_at hl 1 rfl) ?_
  refine lv_iload_n hx hb dX10_looseBlocks_13 rfl (lv_at hl 2 rfl) ?_
  obtain ⟨o5, g6, hf⟩ := jbB_e hf
  refine csn_i (As := [.int a0, .int a1]) (rest := [.ref (ha 1 0)]) ⟨hx, hb, hml, hown, hts⟩ (c_X3_cellAt l g a0 a1 _ g6) (va_cwS 2 hts gX10_looseBlocks_X3_cellAt rfl rfl rfl hd_X3_cellAt ⟨Nat.le_of_ble_eq_true rfl, Nat.le_of_ble_eq_true rfl⟩) hK hZ hT hA hP hD hS hl.1 rfl rfl (Nat.le_of_ble_eq_true rfl) ⟨Nat.le_of_ble_eq_true rfl, Nat.le_of_ble_eq_true rfl⟩ dX10_looseBlocks_14 (fun H locs hP hD hS => ?_)
  obtain ⟨o7, g8, hf⟩ := jbB_e hf
  refine cv_i (As := [.int o5]) (rest := []) (Wr := [0].filterMap (fun i => ((wT g ha tv ++ wQ g (ha 1) qv))[i]?)) ⟨hx, hb, hml, hown, hts⟩ (c_X7_blocksAt l g (ha 1) qv o5 _ g8) (cwV 1 hts gX10_looseBlocks_X7_blocksAt rfl rfl rfl hd_X7_blocksAt ⟨Nat.le_of_ble_eq_true rfl, Nat.le_of_ble_eq_true rfl⟩) hK hZ hT hA hP hD hS hl.1 (va_recv hK hP (ci := 7) (q0 := 1) rfl rfl) [1, 2, 3, 4, 5, 6, 7, 8, 9, 10] [0] rfl rfl rfl rfl rfl rfl rfl (Nat.le_of_ble_eq_true rfl) ⟨Nat.le_of_ble_eq_true rfl, Nat.le_of_ble_eq_true rfl⟩ dX10_looseBlocks_17 (fun H locs hP hD hS => ?_)
  have hP : va_P (gD g) vwCl (wT g ha tv ++ wQ g (ha 1) qv) H := hP.sub [0, 1, 2, 3, 4, 5, 6, 7, 8, 9, 10] rfl
  have hD : va_D A (wT g ha tv ++ wQ g (ha 1) qv) := hD.sub [0, 1, 2, 3, 4, 5, 6, 7, 8, 9, 10] rfl rfl
  cases hf
  subst hQ
  exact rt_i hx hb hrt hlk rfl hK hP hD hS (Nat.le_of_ble_eq_true rfl) (Nat.le_of_ble_eq_true rfl) dX10_looseBlocks_20
def rn_X10_steepestStep : Room := { frames := 9, cells := 0, slots := 0, locals := 140 }
set_option maxHeartbeats 4000000 in
set_option maxRecDepth 100000 in
theorem cn_X10_steepestStep (l : Launch) (hlt : l.stackTraces = false) (g : GG) (ha : Nat → Nat → Nat) (tv : TV) (qv : QV) (a0 : Int32) (a1 : Int32) (out : Int32) (hf : f_X10_steepestStep tv qv a0 a1 = some (.inr out)) : MtI l yX10_steepestStep wsX10_steepestStep rn_X10_steepestStep g (wT g ha tv ++ wQ g (ha 1) qv) [.ref (ha 0 0), .int a0, .int a1] out (wT g ha tv ++ wQ g (ha 1) qv) 0 0 := by
  refine fun sz => mt_of (cc := cX10_steepestStep) (maxL := 3) (ret := (some .int)) (own := RX10) (Qc := fun A => va_Qi (fun r (_ : Unit) => r = out) (fun _ t => PosM g A (wT g ha tv ++ wQ g (ha 1) qv) t) A) (by decide +kernel) rfl rfl (Nat.le_of_ble_eq_true rfl) ?_ sz
  intro p e s mi below meth c A ls hB hnm hrt hlk hP hD hl
  obtain ⟨hx, hb, hml, hown, hts, hK, hZ, hT, hA, -⟩ := hB
  have hS : va_S A s.heap s.heap [] := va_S.rf
  have hl : lv_has ls 3 [(0, .ref (ha 0 0)), (1, .int a0), (2, .int a1)] := hl
  have hinX10 : ∀ w ∈ wsX100, w ∈ wsX10_steepestStep := by decide +kernel
  have k0 := hts (.fieldLink RX10 10 "TerraceQuarry" "quarry" "LTerraceQuarry$Quarry;") (by decide +kernel)
  generalize hQ : MQ below _ _ _ _ _ _ = Q
  unfold f_X10_steepestStep at hf
  refine lv_iload_n hx hb dX10_steepestStep_0 rfl (lv_at hl 1 rfl) ?_
  refine lv_iload_n hx hb dX10_steepestStep_1 rfl (lv_at hl 2 rfl) ?_
  obtain ⟨o1, g2, hf⟩ := jbB_e hf
  refine csn_e (As := [.int a0, .int a1]) (rest := []) ⟨hx, hb, hml, hown, hts⟩ (c_X3_cellFault l g a0 a1 _ g2) (va_cwS 2 hts gX10_steepestStep_X3_cellFault rfl rfl rfl hd_X3_cellFault ⟨Nat.le_of_ble_eq_true rfl, Nat.le_of_ble_eq_true rfl⟩) hK hZ hT hA hP hD hS hl.1 rfl rfl (Nat.le_of_ble_eq_true rfl) ⟨Nat.le_of_ble_eq_true rfl, Nat.le_of_ble_eq_true rfl⟩ dX10_steepestStep_2 (fun H locs hP hD hS => ?_)
  obtain ⟨o3, g4, hf⟩ := jbB_e hf
  rcases o3 with x9 | x9
  · have hf := jbM_l hf
    cases hf
  have hf := jbM_r hf
  refine csn_v (As := [.ref (gS g 0 o1)]) (rest := []) ⟨hx, hb, hml, hown, hts⟩ (c0_X10_refuse l g o1 g4) (va_cwS 1 hts gX10_steepestStep_X10_refuse rfl rfl rfl hd_X10_refuse ⟨(Nat.le_of_ble_eq_true rfl), (Nat.le_of_ble_eq_true rfl)⟩) hK hZ hT hA hP hD hS hl.1 rfl rfl (Nat.le_of_ble_eq_true rfl) ⟨(Nat.le_of_ble_eq_true rfl), (Nat.le_of_ble_eq_true rfl)⟩ dX10_steepestStep_5 (fun H locs hP hD hS => ?_)
  refine lv_aload_n hx hb dX10_steepestStep_8 rfl (lv_at hl 0 rfl) ?_
  refine va_get (D := gD g) (ci := 9) (v := .ref (ha 1 0)) (C := RX10) (T := TX10) (N := 9) hx hb hts hinX10 hown hK hP 0 rfl rfl 0 (by decide) k0 (fun _ h9 => h9) rfl dX10_steepestStep_9 ?_
  refine lv_iload_n hx hb dX10_steepestStep_12 rfl (lv_at hl 1 rfl) ?_
  refine lv_iload_n hx hb dX10_steepestStep_13 rfl (lv_at hl 2 rfl) ?_
  obtain ⟨o5, g6, hf⟩ := jbB_e hf
  refine csn_i (As := [.int a0, .int a1]) (rest := [.ref (ha 1 0)]) ⟨hx, hb, hml, hown, hts⟩ (c_X3_cellAt l g a0 a1 _ g6) (va_cwS 2 hts gX10_steepestStep_X3_cellAt rfl rfl rfl hd_X3_cellAt ⟨Nat.le_of_ble_eq_true rfl, Nat.le_of_ble_eq_true rfl⟩) hK hZ hT hA hP hD hS hl.1 rfl rfl (Nat.le_of_ble_eq_true rfl) ⟨Nat.le_of_ble_eq_true rfl, Nat.le_of_ble_eq_true rfl⟩ dX10_steepestStep_14 (fun H locs hP hD hS => ?_)
  obtain ⟨o7, g8, hf⟩ := jbB_e hf
  refine cv_i (As := [.int o5]) (rest := []) (Wr := [0].filterMap (fun i => ((wT g ha tv ++ wQ g (ha 1) qv))[i]?)) ⟨hx, hb, hml, hown, hts⟩ (c_X7_steepestAt l g (ha 1) qv o5 _ g8) (cwV 1 hts gX10_steepestStep_X7_steepestAt rfl rfl rfl hd_X7_steepestAt ⟨Nat.le_of_ble_eq_true rfl, Nat.le_of_ble_eq_true rfl⟩) hK hZ hT hA hP hD hS hl.1 (va_recv hK hP (ci := 7) (q0 := 1) rfl rfl) [1, 2, 3, 4, 5, 6, 7, 8, 9, 10] [0] rfl rfl rfl rfl rfl rfl rfl (Nat.le_of_ble_eq_true rfl) ⟨Nat.le_of_ble_eq_true rfl, Nat.le_of_ble_eq_true rfl⟩ dX10_steepestStep_17 (fun H locs hP hD hS => ?_)
  have hP : va_P (gD g) vwCl (wT g ha tv ++ wQ g (ha 1) qv) H := hP.sub [0, 1, 2, 3, 4, 5, 6, 7, 8, 9, 10] rfl
  have hD : va_D A (wT g ha tv ++ wQ g (ha 1) qv) := hD.sub [0, 1, 2, 3, 4, 5, 6, 7, 8, 9, 10] rfl rfl
  cases hf
  subst hQ
  exact rt_i hx hb hrt hlk rfl hK hP hD hS (Nat.le_of_ble_eq_true rfl) (Nat.le_of_ble_eq_true rfl) dX10_steepestStep_20
def rn_X10_canCut : Room := { frames := 9, cells := 0, slots := 0, locals := 140 }
set_option maxHeartbeats 4000000 in
set_option maxRecDepth 100000 in
theorem cn_X10_canCut (l : Launch) (hlt : l.stackTraces = false) (g : GG) (ha : Nat → Nat → Nat) (tv : TV) (qv : QV) (a0 : Int32) (a1 : Int32) (out : Int32) (hf : f_X10_canCut tv qv a0 a1 = some (.inr out)) : MtI l yX10_canCut wsX10_canCut rn_X10_canCut g (wT g ha tv ++ wQ g (ha 1) qv) [.ref (ha 0 0), .int a0, .int a1] out (wT g ha tv ++ wQ g (ha 1) qv) 0 0 := by
  refine fun sz => mt_of (cc := cX10_canCut) (maxL := 3) (ret := (some .boolean)) (own := RX10) (Qc := fun A => va_Qi (fun r (_ : Unit) => r = out) (fun _ t => PosM g A (wT g ha tv ++ wQ g (ha 1) qv) t) A) (by decide +kernel) rfl rfl (Nat.le_of_ble_eq_true rfl) ?_ sz
  intro p e s mi below meth c A ls hB hnm hrt hlk hP hD hl
  obtain ⟨hx, hb, hml, hown, hts, hK, hZ, hT, hA, -⟩ := hB
  have hS : va_S A s.heap s.heap [] := va_S.rf
  have hl : lv_has ls 3 [(0, .ref (ha 0 0)), (1, .int a0), (2, .int a1)] := hl
  have hinX10 : ∀ w ∈ wsX100, w ∈ wsX10_canCut := by decide +kernel
  have k0 := hts (.fieldLink RX10 10 "TerraceQuarry" "quarry" "LTerraceQuarry$Quarry;") (by decide +kernel)
  have k1 := hts (.fieldLink RX10 149 "TerraceQuarry$Fault" "NONE" "LTerraceQuarry$Fault;") (by decide +kernel)
  generalize hQ : MQ below _ _ _ _ _ _ = Q
  unfold f_X10_canCut at hf
  refine lv_iload_n hx hb dX10_canCut_0 rfl (lv_at hl 1 rfl) ?_
  refine lv_iload_n hx hb dX10_canCut_1 rfl (lv_at hl 2 rfl) ?_
  obtain ⟨o1, g2, hf⟩ := jbB_e hf
  refine csn_e (As := [.int a0, .int a1]) (rest := []) ⟨hx, hb, hml, hown, hts⟩ (c_X3_cellFault l g a0 a1 _ g2) (va_cwS 2 hts gX10_canCut_X3_cellFault rfl rfl rfl hd_X3_cellFault ⟨Nat.le_of_ble_eq_true rfl, Nat.le_of_ble_eq_true rfl⟩) hK hZ hT hA hP hD hS hl.1 rfl rfl (Nat.le_of_ble_eq_true rfl) ⟨Nat.le_of_ble_eq_true rfl, Nat.le_of_ble_eq_true rfl⟩ dX10_canCut_2 (fun H locs hP hD hS => ?_)
  obtain ⟨o3, g4, hf⟩ := jbB_e hf
  rcases o3 with x9 | x9
  · have hf := jbM_l hf
    cases hf
  have hf := jbM_r hf
  refine csn_v (As := [.ref (gS g 0 o1)]) (rest := []) ⟨hx, hb, hml, hown, hts⟩ (c0_X10_refuse l g o1 g4) (va_cwS 1 hts gX10_canCut_X10_refuse rfl rfl rfl hd_X10_refuse ⟨(Nat.le_of_ble_eq_true rfl), (Nat.le_of_ble_eq_true rfl)⟩) hK hZ hT hA hP hD hS hl.1 rfl rfl (Nat.le_of_ble_eq_true rfl) ⟨(Nat.le_of_ble_eq_true rfl), (Nat.le_of_ble_eq_true rfl)⟩ dX10_canCut_5 (fun H locs hP hD hS => ?_)
  refine lv_aload_n hx hb dX10_canCut_8 rfl (lv_at hl 0 rfl) ?_
  refine va_get (D := gD g) (ci := 9) (v := .ref (ha 1 0)) (C := RX10) (T := TX10) (N := 9) hx hb hts hinX10 hown hK hP 0 rfl rfl 0 (by decide) k0 (fun _ h9 => h9) rfl dX10_canCut_9 ?_
  refine lv_iload_n hx hb dX10_canCut_12 rfl (lv_at hl 1 rfl) ?_
  refine lv_iload_n hx hb dX10_canCut_13 rfl (lv_at hl 2 rfl) ?_
  obtain ⟨o5, g6, hf⟩ := jbB_e hf
  refine cv_e (As := [.int a0, .int a1]) (rest := []) (Wr := [0].filterMap (fun i => ((wT g ha tv ++ wQ g (ha 1) qv))[i]?)) ⟨hx, hb, hml, hown, hts⟩ (c_X7_cutFault l g (ha 1) qv a0 a1 _ g6) (cwV 2 hts gX10_canCut_X7_cutFault rfl rfl rfl hd_X7_cutFault ⟨Nat.le_of_ble_eq_true rfl, Nat.le_of_ble_eq_true rfl⟩) hK hZ hT hA hP hD hS hl.1 (va_recv hK hP (ci := 7) (q0 := 1) rfl rfl) [1, 2, 3, 4, 5, 6, 7, 8, 9, 10] [0] rfl rfl rfl rfl rfl rfl rfl (Nat.le_of_ble_eq_true rfl) ⟨Nat.le_of_ble_eq_true rfl, Nat.le_of_ble_eq_true rfl⟩ dX10_canCut_14 (fun H locs hP hD hS => ?_)
  have hP : va_P (gD g) vwCl (wT g ha tv ++ wQ g (ha 1) qv) H := hP.sub [0, 1, 2, 3, 4, 5, 6, 7, 8, 9, 10] rfl
  have hD : va_D A (wT g ha tv ++ wQ g (ha 1) qv) := hD.sub [0, 1, 2, 3, 4, 5, 6, 7, 8, 9, 10] rfl rfl
  refine va_gets (C := "TerraceQuarry$Fault") (n := "NONE") (d := "LTerraceQuarry$Fault;") (v := .ref (gS g 0 0)) hx hb (hZ.1.1 0 (by decide)).1 hS hown k1 (fun _ h9 => h9) dX10_canCut_17 ?_
  obtain ⟨h7, hf⟩ := jbA_e hf
  refine lv_acmp_ne (rx := some (gS g 0 o5)) (ry := some (gS g 0 0)) (tgt := 27) hx hb dX10_canCut_20 (by decide) (fun hc => ?_) (fun hc => ?_)
  · have hf := jbF hf (enN hc)
    refine lv_iconst (v := 0) hx hb dX10_canCut_27 (by decide) ?_
    cases hf
    subst hQ
    exact rt_i hx hb hrt hlk nar_0 hK hP hD hS (Nat.le_of_ble_eq_true rfl) (Nat.le_of_ble_eq_true rfl) dX10_canCut_28
  · have hf := jbT hf (enF hZ h7 (by decide) hc)
    refine lv_iconst (v := 1) hx hb dX10_canCut_23 (by decide) ?_
    refine lv_goto (tgt := 28) hx hb dX10_canCut_24 (by decide) ?_
    cases hf
    subst hQ
    exact rt_i hx hb hrt hlk nar_1 hK hP hD hS (Nat.le_of_ble_eq_true rfl) (Nat.le_of_ble_eq_true rfl) dX10_canCut_28
def rn_X10_cellsAt : Room := { frames := 9, cells := 0, slots := 0, locals := 140 }
set_option maxHeartbeats 4000000 in
set_option maxRecDepth 100000 in
theorem cn_X10_cellsAt (l : Launch) (hlt : l.stackTraces = false) (g : GG) (ha : Nat → Nat → Nat) (tv : TV) (qv : QV) (a0 : Int32) (out : Int32) (hf : f_X10_cellsAt tv qv a0 = some (.inr out)) : MtI l yX10_cellsAt wsX10_cellsAt rn_X10_cellsAt g (wT g ha tv ++ wQ g (ha 1) qv) [.ref (ha 0 0), .int a0] out (wT g ha tv ++ wQ g (ha 1) qv) 0 0 := by
  refine fun sz => mt_of (cc := cX10_cellsAt) (maxL := 2) (ret := (some .int)) (own := RX10) (Qc := fun A => va_Qi (fun r (_ : Unit) => r = out) (fun _ t => PosM g A (wT g ha tv ++ wQ g (ha 1) qv) t) A) (by decide +kernel) rfl rfl (Nat.le_of_ble_eq_true rfl) ?_ sz
  intro p e s mi below meth c A ls hB hnm hrt hlk hP hD hl
  obtain ⟨hx, hb, hml, hown, hts, hK, hZ, hT, hA, -⟩ := hB
  have hS : va_S A s.heap s.heap [] := va_S.rf
  have hl : lv_has ls 2 [(0, .ref (ha 0 0)), (1, .int a0)] := hl
  have hinX10 : ∀ w ∈ wsX100, w ∈ wsX10_cellsAt := by decide +kernel
  have k0 := hts (.fieldLink RX10 10 "TerraceQuarry" "quarry" "LTerraceQuarry$Quarry;") (by decide +kernel)
  generalize hQ : MQ below _ _ _ _ _ _ = Q
  unfold f_X10_cellsAt at hf
  refine lv_iload_n hx hb dX10_cellsAt_0 rfl (lv_at hl 1 rfl) ?_
  obtain ⟨o1, g2, hf⟩ := jbB_e hf
  refine csn_e (As := [.int a0]) (rest := []) ⟨hx, hb, hml, hown, hts⟩ (c_X7_heightFault l g a0 _ g2) (va_cwS 1 hts gX10_cellsAt_X7_heightFault rfl rfl rfl hd_X7_heightFault ⟨Nat.le_of_ble_eq_true rfl, Nat.le_of_ble_eq_true rfl⟩) hK hZ hT hA hP hD hS hl.1 rfl rfl (Nat.le_of_ble_eq_true rfl) ⟨Nat.le_of_ble_eq_true rfl, Nat.le_of_ble_eq_true rfl⟩ dX10_cellsAt_1 (fun H locs hP hD hS => ?_)
  obtain ⟨o3, g4, hf⟩ := jbB_e hf
  rcases o3 with x9 | x9
  · have hf := jbM_l hf
    cases hf
  have hf := jbM_r hf
  refine csn_v (As := [.ref (gS g 0 o1)]) (rest := []) ⟨hx, hb, hml, hown, hts⟩ (c0_X10_refuse l g o1 g4) (va_cwS 1 hts gX10_cellsAt_X10_refuse rfl rfl rfl hd_X10_refuse ⟨(Nat.le_of_ble_eq_true rfl), (Nat.le_of_ble_eq_true rfl)⟩) hK hZ hT hA hP hD hS hl.1 rfl rfl (Nat.le_of_ble_eq_true rfl) ⟨(Nat.le_of_ble_eq_true rfl), (Nat.le_of_ble_eq_true rfl)⟩ dX10_cellsAt_4 (fun H locs hP hD hS => ?_)
  refine lv_aload_n hx hb dX10_cellsAt_7 rfl (lv_at hl 0 rfl) ?_
  refine va_get (D := gD g) (ci := 9) (v := .ref (ha 1 0)) (C := RX10) (T := TX10) (N := 9) hx hb hts hinX10 hown hK hP 0 rfl rfl 0 (by decide) k0 (fun _ h9 => h9) rfl dX10_cellsAt_8 ?_
  refine lv_iload_n hx hb dX10_cellsAt_11 rfl (lv_at hl 1 rfl) ?_
  obtain ⟨o5, g6, hf⟩ := jbB_e hf
  refine cv_i (As := [.int a0]) (rest := []) (Wr := [0].filterMap (fun i => ((wT g ha tv ++ wQ g (ha 1) qv))[i]?)) ⟨hx, hb, hml, hown, hts⟩ (c_X7_countAt l g (ha 1) qv a0 _ g6) (cwV 1 hts gX10_cellsAt_X7_countAt rfl rfl rfl hd_X7_countAt ⟨Nat.le_of_ble_eq_true rfl, Nat.le_of_ble_eq_true rfl⟩) hK hZ hT hA hP hD hS hl.1 (va_recv hK hP (ci := 7) (q0 := 1) rfl rfl) [1, 2, 3, 4, 5, 6, 7, 8, 9, 10] [0] rfl rfl rfl rfl rfl rfl rfl (Nat.le_of_ble_eq_true rfl) ⟨Nat.le_of_ble_eq_true rfl, Nat.le_of_ble_eq_true rfl⟩ dX10_cellsAt_12 (fun H locs hP hD hS => ?_)
  have hP : va_P (gD g) vwCl (wT g ha tv ++ wQ g (ha 1) qv) H := hP.sub [0, 1, 2, 3, 4, 5, 6, 7, 8, 9, 10] rfl
  have hD : va_D A (wT g ha tv ++ wQ g (ha 1) qv) := hD.sub [0, 1, 2, 3, 4, 5, 6, 7, 8, 9, 10] rfl rfl
  cases hf
  subst hQ
  exact rt_i hx hb hrt hlk rfl hK hP hD hS (Nat.le_of_ble_eq_true rfl) (Nat.le_of_ble_eq_true rfl) dX10_cellsAt_15
def rn_X10_liftedShare : Room := { frames := 1, cells := 0, slots := 0, locals := 20 }
set_option maxHeartbeats 4000000 in
set_option maxRecDepth 100000 in
theorem cn_X10_liftedShare (l : Launch) (hlt : l.stackTraces = false) (g : GG) (ha : Nat → Nat → Nat) (tv : TV) (qv : QV)  (out : UInt32) (hf : f_X10_liftedShare tv qv = some (.inr out)) : MtF l yX10_liftedShare wsX10_liftedShare rn_X10_liftedShare g (wT g ha tv ++ wQ g (ha 1) qv) [.ref (ha 0 0)] out (wT g ha tv ++ wQ g (ha 1) qv) 0 0 := by
  refine fun sz => mt_of (cc := cX10_liftedShare) (maxL := 2) (ret := (some .float)) (own := RX10) (Qc := fun A => va_Qf (fun r (_ : Unit) => r = out) (fun _ t => PosM g A (wT g ha tv ++ wQ g (ha 1) qv) t) A) (by decide +kernel) rfl rfl (Nat.le_of_ble_eq_true rfl) ?_ sz
  intro p e s mi below meth c A ls hB hnm hrt hlk hP hD hl
  obtain ⟨hx, hb, hml, hown, hts, hK, hZ, hT, hA, -⟩ := hB
  have hS : va_S A s.heap s.heap [] := va_S.rf
  have hl : lv_has ls 2 [(0, .ref (ha 0 0))] := hl
  have hinX10 : ∀ w ∈ wsX100, w ∈ wsX10_liftedShare := by decide +kernel
  have k0 := hts (.fieldLink RX10 10 "TerraceQuarry" "quarry" "LTerraceQuarry$Quarry;") (by decide +kernel)
  generalize hQ : MQ below _ _ _ _ _ _ = Q
  unfold f_X10_liftedShare at hf
  refine lv_aload_n hx hb dX10_liftedShare_0 rfl (lv_at hl 0 rfl) ?_
  refine va_get (D := gD g) (ci := 9) (v := .ref (ha 1 0)) (C := RX10) (T := TX10) (N := 9) hx hb hts hinX10 hown hK hP 0 rfl rfl 0 (by decide) k0 (fun _ h9 => h9) rfl dX10_liftedShare_1 ?_
  obtain ⟨o1, g2, hf⟩ := jbB_e hf
  refine cv_i (As := []) (rest := []) (Wr := [0].filterMap (fun i => ((wT g ha tv ++ wQ g (ha 1) qv))[i]?)) ⟨hx, hb, hml, hown, hts⟩ (c_X7_cutsDone l g (ha 1) qv _ g2) (cwV 0 hts gX10_liftedShare_X7_cutsDone rfl rfl rfl hd_X7_cutsDone ⟨Nat.le_of_ble_eq_true rfl, Nat.le_of_ble_eq_true rfl⟩) hK hZ hT hA hP hD hS hl.1 (va_recv hK hP (ci := 7) (q0 := 1) rfl rfl) [1, 2, 3, 4, 5, 6, 7, 8, 9, 10] [0] rfl rfl rfl rfl rfl rfl rfl (Nat.le_of_ble_eq_true rfl) ⟨Nat.le_of_ble_eq_true rfl, Nat.le_of_ble_eq_true rfl⟩ dX10_liftedShare_4 (fun H locs hP hD hS => ?_)
  have hP : va_P (gD g) vwCl (wT g ha tv ++ wQ g (ha 1) qv) H := hP.sub [0, 1, 2, 3, 4, 5, 6, 7, 8, 9, 10] rfl
  have hD : va_D A (wT g ha tv ++ wQ g (ha 1) qv) := hD.sub [0, 1, 2, 3, 4, 5, 6, 7, 8, 9, 10] rfl rfl
  refine lv_istore_n (lv' := [(1, .int o1), (0, .ref (ha 0 0))]) hx hb dX10_liftedShare_7 rfl hl (by decide) rfl (fun ls hl => ?_)
  refine lv_iload_n hx hb dX10_liftedShare_8 rfl (lv_at hl 0 rfl) ?_
  refine lv_if_ne (tgt := 22) hx hb dX10_liftedShare_9 (by decide) (fun hc => ?_) (fun hc => ?_)
  · have hf := jbF hf hc
    refine lv_aload_n hx hb dX10_liftedShare_22 rfl (lv_at hl 1 rfl) ?_
    refine va_get (D := gD g) (ci := 9) (v := .ref (ha 1 0)) (C := RX10) (T := TX10) (N := 9) hx hb hts hinX10 hown hK hP 0 rfl rfl 0 (by decide) k0 (fun _ h9 => h9) rfl dX10_liftedShare_23 ?_
    obtain ⟨o3, g4, hf⟩ := jbB_e hf
    refine cv_i (As := []) (rest := []) (Wr := [0].filterMap (fun i => ((wT g ha tv ++ wQ g (ha 1) qv))[i]?)) ⟨hx, hb, hml, hown, hts⟩ (c_X7_liftsDone l g (ha 1) qv _ g4) (cwV 0 hts gX10_liftedShare_X7_liftsDone rfl rfl rfl hd_X7_liftsDone ⟨Nat.le_of_ble_eq_true rfl, Nat.le_of_ble_eq_true rfl⟩) hK hZ hT hA hP hD hS hl.1 (va_recv hK hP (ci := 7) (q0 := 1) rfl rfl) [1, 2, 3, 4, 5, 6, 7, 8, 9, 10] [0] rfl rfl rfl rfl rfl rfl rfl (Nat.le_of_ble_eq_true rfl) ⟨Nat.le_of_ble_eq_true rfl, Nat.le_of_ble_eq_true rfl⟩ dX10_liftedShare_26 (fun H locs hP hD hS => ?_)
    have hP : va_P (gD g) vwCl (wT g ha tv ++ wQ g (ha 1) qv) H := hP.sub [0, 1, 2, 3, 4, 5, 6, 7, 8, 9, 10] rfl
    have hD : va_D A (wT g ha tv ++ wQ g (ha 1) qv) := hD.sub [0, 1, 2, 3, 4, 5, 6, 7, 8, 9, 10] rfl rfl
    refine lv_i2f hx hb dX10_liftedShare_29 ?_
    refine lv_iload_n hx hb dX10_liftedShare_30 rfl (lv_at hl 0 rfl) ?_
    refine lv_i2f hx hb dX10_liftedShare_31 ?_
    obtain ⟨h5, hf⟩ := jbA_e hf
    refine lv_fdiv hx hb dX10_liftedShare_32 h5 ?_
    cases hf
    subst hQ
    exact rt_f hx hb hrt hlk hK hP hD hS (Nat.le_of_ble_eq_true rfl) (Nat.le_of_ble_eq_true rfl) dX10_liftedShare_33
  · have hf := jbT hf hc
    cases hf
def rn_X10_seamSize : Room := { frames := 9, cells := 0, slots := 0, locals := 140 }
set_option maxHeartbeats 4000000 in
set_option maxRecDepth 100000 in
theorem cn_X10_seamSize (l : Launch) (hlt : l.stackTraces = false) (g : GG) (ha : Nat → Nat → Nat) (tv : TV) (qv : QV) (sv : SV) (a0 : Int32) (a1 : Int32) (out : Int32 × SV) (hf : f_X10_seamSize tv qv sv a0 a1 = some (.inr out)) : MtI l yX10_seamSize wsX10_seamSize rn_X10_seamSize g (wT g ha tv ++ wQ g (ha 1) qv ++ wS g (ha 3) sv) [.ref (ha 0 0), .int a0, .int a1] (out.1) (wT g ha tv ++ wQ g (ha 1) qv ++ wS g (ha 3) (out.2)) 0 0 := by
  refine fun sz => mt_of (cc := cX10_seamSize) (maxL := 3) (ret := (some .int)) (own := RX10) (Qc := fun A => va_Qi (fun r (_ : Unit) => r = (out.1)) (fun _ t => PosM g A (wT g ha tv ++ wQ g (ha 1) qv ++ wS g (ha 3) (out.2)) t) A) (by decide +kernel) rfl rfl (Nat.le_of_ble_eq_true rfl) ?_ sz
  intro p e s mi below meth c A ls hB hnm hrt hlk hP hD hl
  obtain ⟨hx, hb, hml, hown, hts, hK, hZ, hT, hA, -⟩ := hB
  have hS : va_S A s.heap s.heap [] := va_S.rf
  have hl : lv_has ls 3 [(0, .ref (ha 0 0)), (1, .int a0), (2, .int a1)] := hl
  have hinX10 : ∀ w ∈ wsX100, w ∈ wsX10_seamSize := by decide +kernel
  have k0 := hts (.fieldLink RX10 22 "TerraceQuarry" "survey" "LTerraceQuarry$Survey;") (by decide +kernel)
  have k1 := hts (.fieldLink RX10 10 "TerraceQuarry" "quarry" "LTerraceQuarry$Quarry;") (by decide +kernel)
  generalize hQ : MQ below _ _ _ _ _ _ = Q
  unfold f_X10_seamSize at hf
  refine lv_iload_n hx hb dX10_seamSize_0 rfl (lv_at hl 1 rfl) ?_
  refine lv_iload_n hx hb dX10_seamSize_1 rfl (lv_at hl 2 rfl) ?_
  obtain ⟨o1, g2, hf⟩ := jbB_e hf
  refine csn_e (As := [.int a0, .int a1]) (rest := []) ⟨hx, hb, hml, hown, hts⟩ (c_X3_cellFault l g a0 a1 _ g2) (va_cwS 2 hts gX10_seamSize_X3_cellFault rfl rfl rfl hd_X3_cellFault ⟨Nat.le_of_ble_eq_true rfl, Nat.le_of_ble_eq_true rfl⟩) hK hZ hT hA hP hD hS hl.1 rfl rfl (Nat.le_of_ble_eq_true rfl) ⟨Nat.le_of_ble_eq_true rfl, Nat.le_of_ble_eq_true rfl⟩ dX10_seamSize_2 (fun H locs hP hD hS => ?_)
  obtain ⟨o3, g4, hf⟩ := jbB_e hf
  rcases o3 with x9 | x9
  · have hf := jbM_l hf
    cases hf
  have hf := jbM_r hf
  refine csn_v (As := [.ref (gS g 0 o1)]) (rest := []) ⟨hx, hb, hml, hown, hts⟩ (c0_X10_refuse l g o1 g4) (va_cwS 1 hts gX10_seamSize_X10_refuse rfl rfl rfl hd_X10_refuse ⟨(Nat.le_of_ble_eq_true rfl), (Nat.le_of_ble_eq_true rfl)⟩) hK hZ hT hA hP hD hS hl.1 rfl rfl (Nat.le_of_ble_eq_true rfl) ⟨(Nat.le_of_ble_eq_true rfl), (Nat.le_of_ble_eq_true rfl)⟩ dX10_seamSize_5 (fun H locs hP hD hS => ?_)
  refine lv_aload_n hx hb dX10_seamSize_8 rfl (lv_at hl 0 rfl) ?_
  refine va_get (D := gD g) (ci := 9) (v := .ref (ha 3 0)) (C := RX10) (T := TX10) (N := 9) hx hb hts hinX10 hown hK hP 0 rfl rfl 2 (by decide) k0 (fun _ h9 => h9) rfl dX10_seamSize_9 ?_
  refine lv_aload_n hx hb dX10_seamSize_12 rfl (lv_at hl 0 rfl) ?_
  refine va_get (D := gD g) (ci := 9) (v := .ref (ha 1 0)) (C := RX10) (T := TX10) (N := 9) hx hb hts hinX10 hown hK hP 0 rfl rfl 0 (by decide) k1 (fun _ h9 => h9) rfl dX10_seamSize_13 ?_
  refine lv_iload_n hx hb dX10_seamSize_16 rfl (lv_at hl 1 rfl) ?_
  refine lv_iload_n hx hb dX10_seamSize_17 rfl (lv_at hl 2 rfl) ?_
  obtain ⟨o5, g6, hf⟩ := jbB_e hf
  refine csn_i (As := [.int a0, .int a1]) (rest := [.ref (ha 1 0), .ref (ha 3 0)]) ⟨hx, hb, hml, hown, hts⟩ (c_X3_cellAt l g a0 a1 _ g6) (va_cwS 2 hts gX10_seamSize_X3_cellAt rfl rfl rfl hd_X3_cellAt ⟨Nat.le_of_ble_eq_true rfl, Nat.le_of_ble_eq_true rfl⟩) hK hZ hT hA hP hD hS hl.1 rfl rfl (Nat.le_of_ble_eq_true rfl) ⟨Nat.le_of_ble_eq_true rfl, Nat.le_of_ble_eq_true rfl⟩ dX10_seamSize_18 (fun H locs hP hD hS => ?_)
  obtain ⟨o7, g8, hf⟩ := jbB_e hf
  refine cv_i (As := [.ref (ha 1 0), .int o5]) (rest := []) (Wr := [0].filterMap (fun i => ((wT g ha tv ++ wQ g (ha 1) qv ++ wS g (ha 3) sv))[i]?)) ⟨hx, hb, hml, hown, hts⟩ (c_X8_sizeOfSeam l g (ha 3) sv (ha 1) qv o5 _ g8) (cwV 2 hts gX10_seamSize_X8_sizeOfSeam rfl rfl rfl hd_X8_sizeOfSeam ⟨Nat.le_of_ble_eq_true rfl, Nat.le_of_ble_eq_true rfl⟩) hK hZ hT hA hP hD hS hl.1 (va_recv hK hP (ci := 8) (q0 := 11) rfl rfl) [11, 12, 13, 14, 15, 16, 1, 2, 3, 4, 5, 6, 7, 8, 9, 10] [0] rfl rfl rfl rfl rfl rfl rfl (Nat.le_of_ble_eq_true rfl) ⟨Nat.le_of_ble_eq_true rfl, Nat.le_of_ble_eq_true rfl⟩ dX10_seamSize_21 (fun H locs hP hD hS => ?_)
  have hP : va_P (gD g) vwCl (wT g ha tv ++ wQ g (ha 1) qv ++ wS g (ha 3) (o7.2)) H := hP.sub [0, 7, 8, 9, 10, 11, 12, 13, 14, 15, 16, 1, 2, 3, 4, 5, 6] rfl
  have hD : va_D A (wT g ha tv ++ wQ g (ha 1) qv ++ wS g (ha 3) (o7.2)) := hD.sub [0, 7, 8, 9, 10, 11, 12, 13, 14, 15, 16, 1, 2, 3, 4, 5, 6] rfl rfl
  cases hf
  subst hQ
  exact rt_i hx hb hrt hlk rfl hK hP hD hS (Nat.le_of_ble_eq_true rfl) (Nat.le_of_ble_eq_true rfl) dX10_seamSize_24
def rn_X10_seamVolume : Room := { frames := 9, cells := 0, slots := 0, locals := 140 }
set_option maxHeartbeats 4000000 in
set_option maxRecDepth 100000 in
theorem cn_X10_seamVolume (l : Launch) (hlt : l.stackTraces = false) (g : GG) (ha : Nat → Nat → Nat) (tv : TV) (qv : QV) (sv : SV) (a0 : Int32) (a1 : Int32) (out : Int32 × SV) (hf : f_X10_seamVolume tv qv sv a0 a1 = some (.inr out)) : MtI l yX10_seamVolume wsX10_seamVolume rn_X10_seamVolume g (wT g ha tv ++ wQ g (ha 1) qv ++ wS g (ha 3) sv) [.ref (ha 0 0), .int a0, .int a1] (out.1) (wT g ha tv ++ wQ g (ha 1) qv ++ wS g (ha 3) (out.2)) 0 0 := by
  refine fun sz => mt_of (cc := cX10_seamVolume) (maxL := 3) (ret := (some .int)) (own := RX10) (Qc := fun A => va_Qi (fun r (_ : Unit) => r = (out.1)) (fun _ t => PosM g A (wT g ha tv ++ wQ g (ha 1) qv ++ wS g (ha 3) (out.2)) t) A) (by decide +kernel) rfl rfl (Nat.le_of_ble_eq_true rfl) ?_ sz
  intro p e s mi below meth c A ls hB hnm hrt hlk hP hD hl
  obtain ⟨hx, hb, hml, hown, hts, hK, hZ, hT, hA, -⟩ := hB
  have hS : va_S A s.heap s.heap [] := va_S.rf
  have hl : lv_has ls 3 [(0, .ref (ha 0 0)), (1, .int a0), (2, .int a1)] := hl
  have hinX10 : ∀ w ∈ wsX100, w ∈ wsX10_seamVolume := by decide +kernel
  have k0 := hts (.fieldLink RX10 22 "TerraceQuarry" "survey" "LTerraceQuarry$Survey;") (by decide +kernel)
  have k1 := hts (.fieldLink RX10 10 "TerraceQuarry" "quarry" "LTerraceQuarry$Quarry;") (by decide +kernel)
  generalize hQ : MQ below _ _ _ _ _ _ = Q
  unfold f_X10_seamVolume at hf
  refine lv_iload_n hx hb dX10_seamVolume_0 rfl (lv_at hl 1 rfl) ?_
  refine lv_iload_n hx hb dX10_seamVolume_1 rfl (lv_at hl 2 rfl) ?_
  obtain ⟨o1, g2, hf⟩ := jbB_e hf
  refine csn_e (As := [.int a0, .int a1]) (rest := []) ⟨hx, hb, hml, hown, hts⟩ (c_X3_cellFault l g a0 a1 _ g2) (va_cwS 2 hts gX10_seamVolume_X3_cellFault rfl rfl rfl hd_X3_cellFault ⟨Nat.le_of_ble_eq_true rfl, Nat.le_of_ble_eq_true rfl⟩) hK hZ hT hA hP hD hS hl.1 rfl rfl (Nat.le_of_ble_eq_true rfl) ⟨Nat.le_of_ble_eq_true rfl, Nat.le_of_ble_eq_true rfl⟩ dX10_seamVolume_2 (fun H locs hP hD hS => ?_)
  obtain ⟨o3, g4, hf⟩ := jbB_e hf
  rcases o3 with x9 | x9
  · have hf := jbM_l hf
    cases hf
  have hf := jbM_r hf
  refine csn_v (As := [.ref (gS g 0 o1)]) (rest := []) ⟨hx, hb, hml, hown, hts⟩ (c0_X10_refuse l g o1 g4) (va_cwS 1 hts gX10_seamVolume_X10_refuse rfl rfl rfl hd_X10_refuse ⟨(Nat.le_of_ble_eq_true rfl), (Nat.le_of_ble_eq_true rfl)⟩) hK hZ hT hA hP hD hS hl.1 rfl rfl (Nat.le_of_ble_eq_true rfl) ⟨(Nat.le_of_ble_eq_true rfl), (Nat.le_of_ble_eq_true rfl)⟩ dX10_seamVolume_5 (fun H locs hP hD hS => ?_)
  refine lv_aload_n hx hb dX10_seamVolume_8 rfl (lv_at hl 0 rfl) ?_
  refine va_get (D := gD g) (ci := 9) (v := .ref (ha 3 0)) (C := RX10) (T := TX10) (N := 9) hx hb hts hinX10 hown hK hP 0 rfl rfl 2 (by decide) k0 (fun _ h9 => h9) rfl dX10_seamVolume_9 ?_
  refine lv_aload_n hx hb dX10_seamVolume_12 rfl (lv_at hl 0 rfl) ?_
  refine va_get (D := gD g) (ci := 9) (v := .ref (ha 1 0)) (C := RX10) (T := TX10) (N := 9) hx hb hts hinX10 hown hK hP 0 rfl rfl 0 (by decide) k1 (fun _ h9 => h9) rfl dX10_seamVolume_13 ?_
  refine lv_iload_n hx hb dX10_seamVolume_16 rfl (lv_at hl 1 rfl) ?_
  refine lv_iload_n hx hb dX10_seamVolume_17 rfl (lv_at hl 2 rfl) ?_
  obtain ⟨o5, g6, hf⟩ := jbB_e hf
  refine csn_i (As := [.int a0, .int a1]) (rest := [.ref (ha 1 0), .ref (ha 3 0)]) ⟨hx, hb, hml, hown, hts⟩ (c_X3_cellAt l g a0 a1 _ g6) (va_cwS 2 hts gX10_seamVolume_X3_cellAt rfl rfl rfl hd_X3_cellAt ⟨Nat.le_of_ble_eq_true rfl, Nat.le_of_ble_eq_true rfl⟩) hK hZ hT hA hP hD hS hl.1 rfl rfl (Nat.le_of_ble_eq_true rfl) ⟨Nat.le_of_ble_eq_true rfl, Nat.le_of_ble_eq_true rfl⟩ dX10_seamVolume_18 (fun H locs hP hD hS => ?_)
  obtain ⟨o7, g8, hf⟩ := jbB_e hf
  refine cv_i (As := [.ref (ha 1 0), .int o5]) (rest := []) (Wr := [0].filterMap (fun i => ((wT g ha tv ++ wQ g (ha 1) qv ++ wS g (ha 3) sv))[i]?)) ⟨hx, hb, hml, hown, hts⟩ (c_X8_volumeOfSeam l g (ha 3) sv (ha 1) qv o5 _ g8) (cwV 2 hts gX10_seamVolume_X8_volumeOfSeam rfl rfl rfl hd_X8_volumeOfSeam ⟨Nat.le_of_ble_eq_true rfl, Nat.le_of_ble_eq_true rfl⟩) hK hZ hT hA hP hD hS hl.1 (va_recv hK hP (ci := 8) (q0 := 11) rfl rfl) [11, 12, 13, 14, 15, 16, 1, 2, 3, 4, 5, 6, 7, 8, 9, 10] [0] rfl rfl rfl rfl rfl rfl rfl (Nat.le_of_ble_eq_true rfl) ⟨Nat.le_of_ble_eq_true rfl, Nat.le_of_ble_eq_true rfl⟩ dX10_seamVolume_21 (fun H locs hP hD hS => ?_)
  have hP : va_P (gD g) vwCl (wT g ha tv ++ wQ g (ha 1) qv ++ wS g (ha 3) (o7.2)) H := hP.sub [0, 7, 8, 9, 10, 11, 12, 13, 14, 15, 16, 1, 2, 3, 4, 5, 6] rfl
  have hD : va_D A (wT g ha tv ++ wQ g (ha 1) qv ++ wS g (ha 3) (o7.2)) := hD.sub [0, 7, 8, 9, 10, 11, 12, 13, 14, 15, 16, 1, 2, 3, 4, 5, 6] rfl rfl
  cases hf
  subst hQ
  exact rt_i hx hb hrt hlk rfl hK hP hD hS (Nat.le_of_ble_eq_true rfl) (Nat.le_of_ble_eq_true rfl) dX10_seamVolume_24
def rn_X10_liftableCells : Room := { frames := 5, cells := 0, slots := 0, locals := 114 }
set_option maxHeartbeats 4000000 in
set_option maxRecDepth 100000 in
theorem cn_X10_liftableCells (l : Launch) (hlt : l.stackTraces = false) (g : GG) (ha : Nat → Nat → Nat) (tv : TV) (qv : QV) (a0 : Int32) (out : Int32) (hf : f_X10_liftableCells tv qv a0 = some (.inr out)) : MtI l yX10_liftableCells wsX10_liftableCells rn_X10_liftableCells g (wT g ha tv ++ wQ g (ha 1) qv) [.ref (ha 0 0), .int a0] out (wT g ha tv ++ wQ g (ha 1) qv) 0 0 := by
  refine fun sz => mt_of (cc := cX10_liftableCells) (maxL := 2) (ret := (some .int)) (own := RX10) (Qc := fun A => va_Qi (fun r (_ : Unit) => r = out) (fun _ t => PosM g A (wT g ha tv ++ wQ g (ha 1) qv) t) A) (by decide +kernel) rfl rfl (Nat.le_of_ble_eq_true rfl) ?_ sz
  intro p e s mi below meth c A ls hB hnm hrt hlk hP hD hl
  obtain ⟨hx, hb, hml, hown, hts, hK, hZ, hT, hA, -⟩ := hB
  have hS : va_S A s.heap s.heap [] := va_S.rf
  have hl : lv_has ls 2 [(0, .ref (ha 0 0)), (1, .int a0)] := hl
  have hinX10 : ∀ w ∈ wsX100, w ∈ wsX10_liftableCells := by decide +kernel
  have k0 := hts (.fieldLink RX10 10 "TerraceQuarry" "quarry" "LTerraceQuarry$Quarry;") (by decide +kernel)
  generalize hQ : MQ below _ _ _ _ _ _ = Q
  unfold f_X10_liftableCells at hf
  refine lv_aload_n hx hb dX10_liftableCells_0 rfl (lv_at hl 0 rfl) ?_
  refine va_get (D := gD g) (ci := 9) (v := .ref (ha 1 0)) (C := RX10) (T := TX10) (N := 9) hx hb hts hinX10 hown hK hP 0 rfl rfl 0 (by decide) k0 (fun _ h9 => h9) rfl dX10_liftableCells_1 ?_
  refine lv_iload_n hx hb dX10_liftableCells_4 rfl (lv_at hl 1 rfl) ?_
  obtain ⟨o1, g2, hf⟩ := jbB_e hf
  refine cv_i (As := [.int a0]) (rest := []) (Wr := [0].filterMap (fun i => ((wT g ha tv ++ wQ g (ha 1) qv))[i]?)) ⟨hx, hb, hml, hown, hts⟩ (c_X7_hasWinch l g (ha 1) qv a0 _ g2) (cwV 1 hts gX10_liftableCells_X7_hasWinch rfl rfl rfl hd_X7_hasWinch ⟨Nat.le_of_ble_eq_true rfl, Nat.le_of_ble_eq_true rfl⟩) hK hZ hT hA hP hD hS hl.1 (va_recv hK hP (ci := 7) (q0 := 1) rfl rfl) [1, 2, 3, 4, 5, 6, 7, 8, 9, 10] [0] rfl rfl rfl rfl rfl rfl rfl (Nat.le_of_ble_eq_true rfl) ⟨Nat.le_of_ble_eq_true rfl, Nat.le_of_ble_eq_true rfl⟩ dX10_liftableCells_5 (fun H locs hP hD hS => ?_)
  have hP : va_P (gD g) vwCl (wT g ha tv ++ wQ g (ha 1) qv) H := hP.sub [0, 1, 2, 3, 4, 5, 6, 7, 8, 9, 10] rfl
  have hD : va_D A (wT g ha tv ++ wQ g (ha 1) qv) := hD.sub [0, 1, 2, 3, 4, 5, 6, 7, 8, 9, 10] rfl rfl
  refine lv_if_ne (tgt := 21) hx hb dX10_liftableCells_8 (by decide) (fun hc => ?_) (fun hc => ?_)
  · have hf := jbF hf hc
    refine lv_aload_n hx hb dX10_liftableCells_21 rfl (lv_at hl 0 rfl) ?_
    refine va_get (D := gD g) (ci := 9) (v := .ref (ha 1 0)) (C := RX10) (T := TX10) (N := 9) hx hb hts hinX10 hown hK hP 0 rfl rfl 0 (by decide) k0 (fun _ h9 => h9) rfl dX10_liftableCells_22 ?_
    refine lv_iload_n hx hb dX10_liftableCells_25 rfl (lv_at hl 1 rfl) ?_
    obtain ⟨o3, g4, hf⟩ := jbB_e hf
    refine cv_i (As := [.int a0]) (rest := []) (Wr := [0].filterMap (fun i => ((wT g ha tv ++ wQ g (ha 1) qv))[i]?)) ⟨hx, hb, hml, hown, hts⟩ (c_X7_countLiftable l g (ha 1) qv a0 _ g4) (cwV 1 hts gX10_liftableCells_X7_countLiftable rfl rfl rfl hd_X7_countLiftable ⟨Nat.le_of_ble_eq_true rfl, Nat.le_of_ble_eq_true rfl⟩) hK hZ hT hA hP hD hS hl.1 (va_recv hK hP (ci := 7) (q0 := 1) rfl rfl) [1, 2, 3, 4, 5, 6, 7, 8, 9, 10] [0] rfl rfl rfl rfl rfl rfl rfl (Nat.le_of_ble_eq_true rfl) ⟨Nat.le_of_ble_eq_true rfl, Nat.le_of_ble_eq_true rfl⟩ dX10_liftableCells_26 (fun H locs hP hD hS => ?_)
    have hP : va_P (gD g) vwCl (wT g ha tv ++ wQ g (ha 1) qv) H := hP.sub [0, 1, 2, 3, 4, 5, 6, 7, 8, 9, 10] rfl
    have hD : va_D A (wT g ha tv ++ wQ g (ha 1) qv) := hD.sub [0, 1, 2, 3, 4, 5, 6, 7, 8, 9, 10] rfl rfl
    cases hf
    subst hQ
    exact rt_i hx hb hrt hlk rfl hK hP hD hS (Nat.le_of_ble_eq_true rfl) (Nat.le_of_ble_eq_true rfl) dX10_liftableCells_29
  · have hf := jbT hf hc
    cases hf
def rn_X10_inYard : Room := { frames := 1, cells := 0, slots := 0, locals := 21 }
set_option maxHeartbeats 4000000 in
set_option maxRecDepth 100000 in
theorem cn_X10_inYard (l : Launch) (hlt : l.stackTraces = false) (g : GG) (ha : Nat → Nat → Nat) (tv : TV) (qv : QV) (a0 : Int32) (out : Int32) (hf : f_X10_inYard tv qv a0 = some (.inr out)) : MtI l yX10_inYard wsX10_inYard rn_X10_inYard g (wT g ha tv ++ wQ g (ha 1) qv) [.ref (ha 0 0), .int a0] out (wT g ha tv ++ wQ g (ha 1) qv) 0 0 := by
  refine fun sz => mt_of (cc := cX10_inYard) (maxL := 2) (ret := (some .int)) (own := RX10) (Qc := fun A => va_Qi (fun r (_ : Unit) => r = out) (fun _ t => PosM g A (wT g ha tv ++ wQ g (ha 1) qv) t) A) (by decide +kernel) rfl rfl (Nat.le_of_ble_eq_true rfl) ?_ sz
  intro p e s mi below meth c A ls hB hnm hrt hlk hP hD hl
  obtain ⟨hx, hb, hml, hown, hts, hK, hZ, hT, hA, -⟩ := hB
  have hS : va_S A s.heap s.heap [] := va_S.rf
  have hl : lv_has ls 2 [(0, .ref (ha 0 0)), (1, .int a0)] := hl
  have hinX10 : ∀ w ∈ wsX100, w ∈ wsX10_inYard := by decide +kernel
  have k0 := hts (.fieldLink RX10 10 "TerraceQuarry" "quarry" "LTerraceQuarry$Quarry;") (by decide +kernel)
  generalize hQ : MQ below _ _ _ _ _ _ = Q
  unfold f_X10_inYard at hf
  refine lv_iload_n hx hb dX10_inYard_0 rfl (lv_at hl 1 rfl) ?_
  obtain ⟨o1, g2, hf⟩ := jbB_e hf
  refine csn_i (As := [.int a0]) (rest := []) ⟨hx, hb, hml, hown, hts⟩ (c_X7_isStone l g a0 _ g2) (va_cwS 1 hts gX10_inYard_X7_isStone rfl rfl rfl hd_X7_isStone ⟨Nat.le_of_ble_eq_true rfl, Nat.le_of_ble_eq_true rfl⟩) hK hZ hT hA hP hD hS hl.1 rfl rfl (Nat.le_of_ble_eq_true rfl) ⟨Nat.le_of_ble_eq_true rfl, Nat.le_of_ble_eq_true rfl⟩ dX10_inYard_1 (fun H locs hP hD hS => ?_)
  refine lv_if_ne (tgt := 17) hx hb dX10_inYard_4 (by decide) (fun hc => ?_) (fun hc => ?_)
  · have hf := jbF hf hc
    refine lv_aload_n hx hb dX10_inYard_17 rfl (lv_at hl 0 rfl) ?_
    refine va_get (D := gD g) (ci := 9) (v := .ref (ha 1 0)) (C := RX10) (T := TX10) (N := 9) hx hb hts hinX10 hown hK hP 0 rfl rfl 0 (by decide) k0 (fun _ h9 => h9) rfl dX10_inYard_18 ?_
    refine lv_iload_n hx hb dX10_inYard_21 rfl (lv_at hl 1 rfl) ?_
    obtain ⟨o3, g4, hf⟩ := jbB_e hf
    refine cv_i (As := [.int a0]) (rest := []) (Wr := [0].filterMap (fun i => ((wT g ha tv ++ wQ g (ha 1) qv))[i]?)) ⟨hx, hb, hml, hown, hts⟩ (c_X7_yardBlocks l g (ha 1) qv a0 _ g4) (cwV 1 hts gX10_inYard_X7_yardBlocks rfl rfl rfl hd_X7_yardBlocks ⟨Nat.le_of_ble_eq_true rfl, Nat.le_of_ble_eq_true rfl⟩) hK hZ hT hA hP hD hS hl.1 (va_recv hK hP (ci := 7) (q0 := 1) rfl rfl) [1, 2, 3, 4, 5, 6, 7, 8, 9, 10] [0] rfl rfl rfl rfl rfl rfl rfl (Nat.le_of_ble_eq_true rfl) ⟨Nat.le_of_ble_eq_true rfl, Nat.le_of_ble_eq_true rfl⟩ dX10_inYard_22 (fun H locs hP hD hS => ?_)
    have hP : va_P (gD g) vwCl (wT g ha tv ++ wQ g (ha 1) qv) H := hP.sub [0, 1, 2, 3, 4, 5, 6, 7, 8, 9, 10] rfl
    have hD : va_D A (wT g ha tv ++ wQ g (ha 1) qv) := hD.sub [0, 1, 2, 3, 4, 5, 6, 7, 8, 9, 10] rfl rfl
    cases hf
    subst hQ
    exact rt_i hx hb hrt hlk rfl hK hP hD hS (Nat.le_of_ble_eq_true rfl) (Nat.le_of_ble_eq_true rfl) dX10_inYard_25
  · have hf := jbT hf hc
    cases hf
def rn_X10_writeRow : Room := { frames := 3, cells := 0, slots := 0, locals := 68 }
set_option maxHeartbeats 4000000 in
set_option maxRecDepth 100000 in
theorem cn_X10_writeRow (l : Launch) (hlt : l.stackTraces = false) (g : GG) (ha : Nat → Nat → Nat) (tv : TV) (qv : QV) (ov : OV) (a0 : Int32) (out : Int32 × OV) (hf : f_X10_writeRow tv qv ov a0 = some (.inr out)) : MtI l yX10_writeRow wsX10_writeRow rn_X10_writeRow g (wT g ha tv ++ wQ g (ha 1) qv ++ wO g (ha 6) ov) [.ref (ha 0 0), .int a0] (out.1) (wT g ha tv ++ wQ g (ha 1) qv ++ wO g (ha 6) (out.2)) 0 0 := by
  refine fun sz => mt_of (cc := cX10_writeRow) (maxL := 2) (ret := (some .int)) (own := RX10) (Qc := fun A => va_Qi (fun r (_ : Unit) => r = (out.1)) (fun _ t => PosM g A (wT g ha tv ++ wQ g (ha 1) qv ++ wO g (ha 6) (out.2)) t) A) (by decide +kernel) rfl rfl (Nat.le_of_ble_eq_true rfl) ?_ sz
  intro p e s mi below meth c A ls hB hnm hrt hlk hP hD hl
  obtain ⟨hx, hb, hml, hown, hts, hK, hZ, hT, hA, -⟩ := hB
  have hS : va_S A s.heap s.heap [] := va_S.rf
  have hl : lv_has ls 2 [(0, .ref (ha 0 0)), (1, .int a0)] := hl
  have hinX10 : ∀ w ∈ wsX100, w ∈ wsX10_writeRow := by decide +kernel
  have k0 := hts (.fieldLink RX10 43 "TerraceQuarry" "line" "LTerraceQuarry$OutputLine;") (by decide +kernel)
  have k1 := hts (.fieldLink RX10 10 "TerraceQuarry" "quarry" "LTerraceQuarry$Quarry;") (by decide +kernel)
  generalize hQ : MQ below _ _ _ _ _ _ = Q
  unfold f_X10_writeRow at hf
  refine lv_iload_n hx hb dX10_writeRow_0 rfl (lv_at hl 1 rfl) ?_
  obtain ⟨o1, g2, hf⟩ := jbB_e hf
  refine csn_i (As := [.int a0]) (rest := []) ⟨hx, hb, hml, hown, hts⟩ (c_X3_hasRow l g a0 _ g2) (va_cwS 1 hts gX10_writeRow_X3_hasRow rfl rfl rfl hd_X3_hasRow ⟨Nat.le_of_ble_eq_true rfl, Nat.le_of_ble_eq_true rfl⟩) hK hZ hT hA hP hD hS hl.1 rfl rfl (Nat.le_of_ble_eq_true rfl) ⟨Nat.le_of_ble_eq_true rfl, Nat.le_of_ble_eq_true rfl⟩ dX10_writeRow_1 (fun H locs hP hD hS => ?_)
  refine lv_if_ne (tgt := 18) hx hb dX10_writeRow_4 (by decide) (fun hc => ?_) (fun hc => ?_)
  · have hf := jbF hf hc
    refine lv_aload_n hx hb dX10_writeRow_18 rfl (lv_at hl 0 rfl) ?_
    refine va_get (D := gD g) (ci := 9) (v := .ref (ha 6 0)) (C := RX10) (T := TX10) (N := 9) hx hb hts hinX10 hown hK hP 0 rfl rfl 5 (by decide) k0 (fun _ h9 => h9) rfl dX10_writeRow_19 ?_
    refine lv_aload_n hx hb dX10_writeRow_22 rfl (lv_at hl 0 rfl) ?_
    refine va_get (D := gD g) (ci := 9) (v := .ref (ha 1 0)) (C := RX10) (T := TX10) (N := 9) hx hb hts hinX10 hown hK hP 0 rfl rfl 0 (by decide) k1 (fun _ h9 => h9) rfl dX10_writeRow_23 ?_
    refine lv_iload_n hx hb dX10_writeRow_26 rfl (lv_at hl 1 rfl) ?_
    obtain ⟨o3, g4, hf⟩ := jbB_e hf
    refine cv_i (As := [.ref (ha 1 0), .int a0]) (rest := []) (Wr := [0].filterMap (fun i => ((wT g ha tv ++ wQ g (ha 1) qv ++ wO g (ha 6) ov))[i]?)) ⟨hx, hb, hml, hown, hts⟩ (c_X5_write l g (ha 6) ov (ha 1) qv a0 _ g4) (cwV 2 hts gX10_writeRow_X5_write rfl rfl rfl hd_X5_write ⟨Nat.le_of_ble_eq_true rfl, Nat.le_of_ble_eq_true rfl⟩) hK hZ hT hA hP hD hS hl.1 (va_recv hK hP (ci := 5) (q0 := 11) rfl rfl) [11, 12, 1, 2, 3, 4, 5, 6, 7, 8, 9, 10] [0] rfl rfl rfl rfl rfl rfl rfl (Nat.le_of_ble_eq_true rfl) ⟨Nat.le_of_ble_eq_true rfl, Nat.le_of_ble_eq_true rfl⟩ dX10_writeRow_27 (fun H locs hP hD hS => ?_)
    have hP : va_P (gD g) vwCl (wT g ha tv ++ wQ g (ha 1) qv ++ wO g (ha 6) (o3.2)) H := hP.sub [0, 3, 4, 5, 6, 7, 8, 9, 10, 11, 12, 1, 2] rfl
    have hD : va_D A (wT g ha tv ++ wQ g (ha 1) qv ++ wO g (ha 6) (o3.2)) := hD.sub [0, 3, 4, 5, 6, 7, 8, 9, 10, 11, 12, 1, 2] rfl rfl
    cases hf
    subst hQ
    exact rt_i hx hb hrt hlk rfl hK hP hD hS (Nat.le_of_ble_eq_true rfl) (Nat.le_of_ble_eq_true rfl) dX10_writeRow_30
  · have hf := jbT hf hc
    cases hf
def rn_X10_outputAt : Room := { frames := 1, cells := 0, slots := 0, locals := 21 }
set_option maxHeartbeats 4000000 in
set_option maxRecDepth 100000 in
theorem cn_X10_outputAt (l : Launch) (hlt : l.stackTraces = false) (g : GG) (ha : Nat → Nat → Nat) (tv : TV) (ov : OV) (a0 : Int32) (out : Int32) (hf : f_X10_outputAt tv ov a0 = some (.inr out)) : MtI l yX10_outputAt wsX10_outputAt rn_X10_outputAt g (wT g ha tv ++ wO g (ha 6) ov) [.ref (ha 0 0), .int a0] out (wT g ha tv ++ wO g (ha 6) ov) 0 0 := by
  refine fun sz => mt_of (cc := cX10_outputAt) (maxL := 2) (ret := (some .char)) (own := RX10) (Qc := fun A => va_Qi (fun r (_ : Unit) => r = out) (fun _ t => PosM g A (wT g ha tv ++ wO g (ha 6) ov) t) A) (by decide +kernel) rfl rfl (Nat.le_of_ble_eq_true rfl) ?_ sz
  intro p e s mi below meth c A ls hB hnm hrt hlk hP hD hl
  obtain ⟨hx, hb, hml, hown, hts, hK, hZ, hT, hA, -⟩ := hB
  have hS : va_S A s.heap s.heap [] := va_S.rf
  have hl : lv_has ls 2 [(0, .ref (ha 0 0)), (1, .int a0)] := hl
  have hinX10 : ∀ w ∈ wsX100, w ∈ wsX10_outputAt := by decide +kernel
  have k0 := hts (.fieldLink RX10 43 "TerraceQuarry" "line" "LTerraceQuarry$OutputLine;") (by decide +kernel)
  generalize hQ : MQ below _ _ _ _ _ _ = Q
  unfold f_X10_outputAt at hf
  refine lv_aload_n hx hb dX10_outputAt_0 rfl (lv_at hl 0 rfl) ?_
  refine va_get (D := gD g) (ci := 9) (v := .ref (ha 6 0)) (C := RX10) (T := TX10) (N := 9) hx hb hts hinX10 hown hK hP 0 rfl rfl 5 (by decide) k0 (fun _ h9 => h9) rfl dX10_outputAt_1 ?_
  refine lv_iload_n hx hb dX10_outputAt_4 rfl (lv_at hl 1 rfl) ?_
  obtain ⟨o1, g2, hf⟩ := jbB_e hf
  refine cv_i (As := [.int a0]) (rest := []) (Wr := [0].filterMap (fun i => ((wT g ha tv ++ wO g (ha 6) ov))[i]?)) ⟨hx, hb, hml, hown, hts⟩ (c_X5_hasSign l g (ha 6) ov a0 _ g2) (cwV 1 hts gX10_outputAt_X5_hasSign rfl rfl rfl hd_X5_hasSign ⟨Nat.le_of_ble_eq_true rfl, Nat.le_of_ble_eq_true rfl⟩) hK hZ hT hA hP hD hS hl.1 (va_recv hK hP (ci := 5) (q0 := 1) rfl rfl) [1, 2] [0] rfl rfl rfl rfl rfl rfl rfl (Nat.le_of_ble_eq_true rfl) ⟨Nat.le_of_ble_eq_true rfl, Nat.le_of_ble_eq_true rfl⟩ dX10_outputAt_5 (fun H locs hP hD hS => ?_)
  have hP : va_P (gD g) vwCl (wT g ha tv ++ wO g (ha 6) ov) H := hP.sub [0, 1, 2] rfl
  have hD : va_D A (wT g ha tv ++ wO g (ha 6) ov) := hD.sub [0, 1, 2] rfl rfl
  refine lv_if_ne (tgt := 22) hx hb dX10_outputAt_8 (by decide) (fun hc => ?_) (fun hc => ?_)
  · have hf := jbF hf hc
    refine lv_aload_n hx hb dX10_outputAt_22 rfl (lv_at hl 0 rfl) ?_
    refine va_get (D := gD g) (ci := 9) (v := .ref (ha 6 0)) (C := RX10) (T := TX10) (N := 9) hx hb hts hinX10 hown hK hP 0 rfl rfl 5 (by decide) k0 (fun _ h9 => h9) rfl dX10_outputAt_23 ?_
    refine lv_iload_n hx hb dX10_outputAt_26 rfl (lv_at hl 1 rfl) ?_
    obtain ⟨o3, g4, hf⟩ := jbB_e hf
    refine cv_i (As := [.int a0]) (rest := []) (Wr := [0].filterMap (fun i => ((wT g ha tv ++ wO g (ha 6) ov))[i]?)) ⟨hx, hb, hml, hown, hts⟩ (c_X5_signAt l g (ha 6) ov a0 _ g4) (cwV 1 hts gX10_outputAt_X5_signAt rfl rfl rfl hd_X5_signAt ⟨Nat.le_of_ble_eq_true rfl, Nat.le_of_ble_eq_true rfl⟩) hK hZ hT hA hP hD hS hl.1 (va_recv hK hP (ci := 5) (q0 := 1) rfl rfl) [1, 2] [0] rfl rfl rfl rfl rfl rfl rfl (Nat.le_of_ble_eq_true rfl) ⟨Nat.le_of_ble_eq_true rfl, Nat.le_of_ble_eq_true rfl⟩ dX10_outputAt_27 (fun H locs hP hD hS => ?_)
    have hP : va_P (gD g) vwCl (wT g ha tv ++ wO g (ha 6) ov) H := hP.sub [0, 1, 2] rfl
    have hD : va_D A (wT g ha tv ++ wO g (ha 6) ov) := hD.sub [0, 1, 2] rfl rfl
    obtain ⟨h5, hf⟩ := jbA_e hf
    cases hf
    subst hQ
    exact rt_i hx hb hrt hlk (nar_c h5) hK hP hD hS (Nat.le_of_ble_eq_true rfl) (Nat.le_of_ble_eq_true rfl) dX10_outputAt_30
  · have hf := jbT hf hc
    cases hf
