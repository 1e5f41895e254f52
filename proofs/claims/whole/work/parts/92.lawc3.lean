set_option maxHeartbeats 4000000 in
set_option maxRecDepth 100000 in
theorem lwc_16 {p : Program} {e : Env} {s : State} {mi : MethodId} {args : Array Value} {below : List Frame} {meth : Method} {c : Code} {g : GG} {A : Nat → Prop} {b L : Nat} {xs : Nat → Int32} {Q : State → Prop} (l : Launch) (hlt : l.stackTraces = false) (C0 : LwB p s mi args c g A b L xs)
    (ha hd : Nat → Nat → Nat) (hs hm : Nat → Nat) (lq : ListS) (oa ob : Nat) (S : Sys) (ol : Nat → Int64) (od : Nat → UInt64) (hok : lsOK lq) (i : Int32) (h1 : vp_in (i + 1) L) (h2 : vp_in (i + 2) L) (h3 : vp_in (i + 3) L) (h4 : vp_in (i + 4) L) (r : LR)
    (hf : lawOp_16 S (xs (i + 1).toNatClampNeg) (xs (i + 2).toNatClampNeg) (xs (i + 3).toNatClampNeg) (xs (i + 4).toNatClampNeg) ol od = some r) {H : Heap} {locs : List Loc} {ls : Array Slot} {cells slots : Nat} (hc9 : cells + 60 ≤ 603072) (hs9 : slots + 700 ≤ 7190634)
    (hP : va_P (gD g) vwCl (wSys g ha hd hs hm lq oa ob S ol od) H) (hD : va_D A (wSys g ha hd hs hm lq oa ob S ol od)) (hS : va_S A s.heap H locs) (hl : lv_has ls 10 [(5, .int i), (0, .ref b), (1, .ref (ha 0 0)), (2, .ref (hm 0)), (3, .ref oa), (4, .ref ob)])
    (kk : ∀ (hd : Nat → Nat → Nat) (hs : Nat → Nat) (lq : ListS) (H : Heap) (locs : List Loc) (ls : Array Slot), lsOK lq → va_P (gD g) vwCl (wSys g ha hd hs hm lq oa ob r.1 r.2.1 r.2.2) H → va_D A (wSys g ha hd hs hm lq oa ob r.1 r.2.1 r.2.2) → va_S A s.heap H locs → lv_has ls 10 [(5, .int i), (0, .ref b), (1, .ref (ha 0 0)), (2, .ref (hm 0)), (3, .ref oa), (4, .ref ob)] → W p l e room_1 s mi args below meth c H locs (cells + 60) (slots + 700) Q (F0 mi 2560 ls [])) :
    W p l e room_1 s mi args below meth c H locs cells slots Q (F0 mi 1330 ls []) := by
  obtain ⟨hx, hb, hml, hown, hts, hK, hZ, hT, hA, hX, hbl, hbA⟩ := C0
  have hP : va_P (gD g) vwCl (wT g ha (S.svd.map (fun _ => hs 0), S.ep, S.fc) ++ wQ g (ha 1) S.qv ++ wQ g (ha 2) S.bv ++ wS g (ha 3) S.sv ++ wH g (ha 4) hd S.hv ++ wP g (ha 5) S.pv ++ wL g (ha 5 2) lq ++ wO g (ha 6) S.ov ++ wSv g hs S.svd ++ wM g hm S.mv ++ wOut g oa ol ++ wOud g ob od) H := hP
  have hD : va_D A (wT g ha (S.svd.map (fun _ => hs 0), S.ep, S.fc) ++ wQ g (ha 1) S.qv ++ wQ g (ha 2) S.bv ++ wS g (ha 3) S.sv ++ wH g (ha 4) hd S.hv ++ wP g (ha 5) S.pv ++ wL g (ha 5 2) lq ++ wO g (ha 6) S.ov ++ wSv g hs S.svd ++ wM g hm S.mv ++ wOut g oa ol ++ wOud g ob od) := hD
  unfold lawOp_16 at hf
  refine lv_aload_n hx hb dL_law_1330 rfl (lv_at hl 2 rfl) ?_
  refine lv_aload_n hx hb dL_law_1331 rfl (lv_at hl 1 rfl) ?_
  refine lv_iload hx hb dL_law_1332 (lv_at hl 0 rfl) ?_
  refine lv_iconst (v := 1) hx hb dL_law_1334 (by decide) ?_
  refine lv_iadd hx hb dL_law_1335 ?_
  refine va_sld hx hb hX hbl hbA hS h1 dL_law_1336 ?_
  refine lv_aload_n hx hb dL_law_1337 rfl (lv_at hl 4 rfl) ?_
  obtain ⟨k1, hg2, hf⟩ := jbB_e hf
  refine cws_i (As := [.ref (ha 0 0), .int (xs (i + 1).toNatClampNeg), .ref oa]) (rest := []) (Wr := (wQ g (ha 2) S.bv ++ wS g (ha 3) S.sv ++ wH g (ha 4) hd S.hv ++ wP g (ha 5) S.pv ++ wL g (ha 5 2) lq ++ wO g (ha 6) S.ov ++ wSv g hs S.svd ++ wM g hm S.mv ++ wOud g ob od)) (Wn := (wT g ha (S.svd.map (fun _ => hs 0), S.ep, S.fc) ++ wQ g (ha 1) S.qv ++ wQ g (ha 2) S.bv ++ wS g (ha 3) S.sv ++ wH g (ha 4) hd S.hv ++ wP g (ha 5) S.pv ++ wL g (ha 5 2) lq ++ wO g (ha 6) S.ov ++ wSv g hs S.svd ++ wM g hm S.mv ++ wOut g oa (k1.2) ++ wOud g ob od)) ⟨hx, hb, hml, hown, hts⟩ (c_L_cellsAt l hlt g ha (S.svd.map (fun _ => hs 0), S.ep, S.fc) S.qv (xs (i + 1).toNatClampNeg) oa ol _ hg2) (vx_cwSW 3 hts gL_law_L_cellsAt rfl rfl rfl hd_L_cellsAt.2 ⟨(Nat.le_of_ble_eq_true rfl), (Nat.le_of_ble_eq_true rfl)⟩) hK hZ hT hA hP hD hS hl.1 (wp_of fun f => by simp only [wOut, wOud, List.countP_append, List.countP_cons, List.countP_nil] <;> omega) (wp_of fun f => by simp only [wOut, wOud, List.countP_append, List.countP_cons, List.countP_nil] <;> omega) rfl rfl (Nat.le_of_ble_eq_true rfl) ⟨show cells + 1 ≤ 603072 by omega, show slots + 6 ≤ 7190634 by omega⟩ dL_law_1338 (fun H locs hP hD hS => ?_)
  refine lv_istore (lv' := [(6, .int (k1.1)), (5, .int i), (0, .ref b), (1, .ref (ha 0 0)), (2, .ref (hm 0)), (3, .ref oa), (4, .ref ob)]) hx hb dL_law_1341 hl (by decide) rfl (fun ls hl => ?_)
  refine lv_aload_n hx hb dL_law_1343 rfl (lv_at hl 4 rfl) ?_
  refine lv_aload_n hx hb dL_law_1344 rfl (lv_at hl 2 rfl) ?_
  refine lv_iload hx hb dL_law_1345 (lv_at hl 1 rfl) ?_
  refine lv_iconst (v := 1) hx hb dL_law_1347 (by decide) ?_
  refine lv_iadd hx hb dL_law_1348 ?_
  refine va_sld hx hb hX hbl hbA hS h1 dL_law_1349 ?_
  obtain ⟨o3, hg4, hf⟩ := jbB_e hf
  have hPr : va_P (gD g) vwCl ((wM g hm S.mv) ++ (wT g ha (S.svd.map (fun _ => hs 0), S.ep, S.fc) ++ wQ g (ha 1) S.qv ++ wQ g (ha 2) S.bv ++ wS g (ha 3) S.sv ++ wH g (ha 4) hd S.hv ++ wP g (ha 5) S.pv ++ wL g (ha 5 2) lq ++ wO g (ha 6) S.ov ++ wSv g hs S.svd ++ wOut g oa (k1.2) ++ wOud g ob od)) _ := wp_P (wp_of fun f => by simp only [wOut, wOud, List.countP_append, List.countP_cons, List.countP_nil] <;> omega) hP
  refine cpv_i (As := [.int (xs (i + 1).toNatClampNeg)]) (rest := []) (Wr := (wT g ha (S.svd.map (fun _ => hs 0), S.ep, S.fc) ++ wQ g (ha 1) S.qv ++ wQ g (ha 2) S.bv ++ wS g (ha 3) S.sv ++ wH g (ha 4) hd S.hv ++ wP g (ha 5) S.pv ++ wL g (ha 5 2) lq ++ wO g (ha 6) S.ov ++ wSv g hs S.svd ++ wOut g oa (k1.2) ++ wOud g ob od)) (Wn := (wT g ha (S.svd.map (fun _ => hs 0), S.ep, S.fc) ++ wQ g (ha 1) S.qv ++ wQ g (ha 2) S.bv ++ wS g (ha 3) S.sv ++ wH g (ha 4) hd S.hv ++ wP g (ha 5) S.pv ++ wL g (ha 5 2) lq ++ wO g (ha 6) S.ov ++ wSv g hs S.svd ++ wM g hm (o3.2) ++ wOut g oa (k1.2) ++ wOud g ob od)) ⟨hx, hb, hml, hown, hts⟩ (c_X11_cellsAt l g hm S.mv (xs (i + 1).toNatClampNeg) _ hg4) (cwV 1 hts gL_law_X11_cellsAt rfl rfl rfl hd_X11_cellsAt ⟨(Nat.le_of_ble_eq_true rfl), (Nat.le_of_ble_eq_true rfl)⟩) hK hZ hT hA hP hD hS hl.1 (va_recv hK hPr (ci := 10) (q0 := 0) rfl rfl) (wp_of fun f => by simp only [wOut, wOud, List.countP_append, List.countP_cons, List.countP_nil] <;> omega) (wp_of fun f => by simp only [wOut, wOud, List.countP_append, List.countP_cons, List.countP_nil] <;> omega) rfl rfl (Nat.le_of_ble_eq_true rfl) ⟨show cells + 1 + 0 ≤ 603072 by omega, show slots + 6 + 0 ≤ 7190634 by omega⟩ dL_law_1350 (fun H locs hP hD hS => ?_)
  refine lv_istore (lv' := [(7, .int (o3.1)), (6, .int (k1.1)), (5, .int i), (0, .ref b), (1, .ref (ha 0 0)), (2, .ref (hm 0)), (3, .ref oa), (4, .ref ob)]) hx hb dL_law_1353 hl (by decide) rfl (fun ls hl => ?_)
  refine lv_aload_n hx hb dL_law_1355 rfl (lv_at hl 5 rfl) ?_
  obtain ⟨o5, hg6, hf⟩ := jbB_e hf
  have hPr : va_P (gD g) vwCl ((wM g hm (o3.2)) ++ (wT g ha (S.svd.map (fun _ => hs 0), S.ep, S.fc) ++ wQ g (ha 1) S.qv ++ wQ g (ha 2) S.bv ++ wS g (ha 3) S.sv ++ wH g (ha 4) hd S.hv ++ wP g (ha 5) S.pv ++ wL g (ha 5 2) lq ++ wO g (ha 6) S.ov ++ wSv g hs S.svd ++ wOut g oa (k1.2) ++ wOud g ob od)) _ := wp_P (wp_of fun f => by simp only [wOut, wOud, List.countP_append, List.countP_cons, List.countP_nil] <;> omega) hP
  refine cpv_i (As := []) (rest := []) (Wr := (wT g ha (S.svd.map (fun _ => hs 0), S.ep, S.fc) ++ wQ g (ha 1) S.qv ++ wQ g (ha 2) S.bv ++ wS g (ha 3) S.sv ++ wH g (ha 4) hd S.hv ++ wP g (ha 5) S.pv ++ wL g (ha 5 2) lq ++ wO g (ha 6) S.ov ++ wSv g hs S.svd ++ wOut g oa (k1.2) ++ wOud g ob od)) (Wn := (wT g ha (S.svd.map (fun _ => hs 0), S.ep, S.fc) ++ wQ g (ha 1) S.qv ++ wQ g (ha 2) S.bv ++ wS g (ha 3) S.sv ++ wH g (ha 4) hd S.hv ++ wP g (ha 5) S.pv ++ wL g (ha 5 2) lq ++ wO g (ha 6) S.ov ++ wSv g hs S.svd ++ wM g hm (o3.2) ++ wOut g oa (k1.2) ++ wOud g ob od)) ⟨hx, hb, hml, hown, hts⟩ (c_X11_thrown l g hm (o3.2)  _ hg6) (cwV 0 hts gL_law_X11_thrown rfl rfl rfl hd_X11_thrown ⟨(Nat.le_of_ble_eq_true rfl), (Nat.le_of_ble_eq_true rfl)⟩) hK hZ hT hA hP hD hS hl.1 (va_recv hK hPr (ci := 10) (q0 := 0) rfl rfl) (wp_of fun f => by simp only [wOut, wOud, List.countP_append, List.countP_cons, List.countP_nil] <;> omega) (wp_of fun f => by simp only [wOut, wOud, List.countP_append, List.countP_cons, List.countP_nil] <;> omega) rfl rfl (Nat.le_of_ble_eq_true rfl) ⟨show cells + 1 + 0 ≤ 603072 by omega, show slots + 6 + 0 ≤ 7190634 by omega⟩ dL_law_1356 (fun H locs hP hD hS => ?_)
  refine lv_iload hx hb dL_law_1359 (lv_at hl 1 rfl) ?_
  refine lv_icmp_eq (tgt := 1366) hx hb dL_law_1361 (by decide) (fun hc => ?_) (fun hc => ?_)
  · have hf := jbT hf hc
    refine lv_iload hx hb dL_law_1366 (lv_at hl 1 rfl) ?_
    refine lv_if_ne (tgt := 1383) hx hb dL_law_1368 (by decide) (fun hc2 => ?_) (fun hc2 => ?_)
    · have hf := jbF hf hc2
      cases hf
      refine lv_goto (tgt := 2560) hx hb dL_law_1383 (by decide) ?_
      refine W.widen (k := cells + 60) (n := slots + 700) (by omega) (by omega) ?_
      exact kk hd hs lq _ _ _ hok hP hD hS (lv_sub hl [2, 3, 4, 5, 6, 7] rfl)
    · have hf := jbT hf hc2
      refine lv_aload_n hx hb dL_law_1371 rfl (lv_at hl 6 rfl) ?_
      refine lv_iconst (v := 0) hx hb dL_law_1372 (by decide) ?_
      have hP9 : va_P (gD g) vwCl ((wOut g oa (k1.2)) ++ (wT g ha (S.svd.map (fun _ => hs 0), S.ep, S.fc) ++ wQ g (ha 1) S.qv ++ wQ g (ha 2) S.bv ++ wS g (ha 3) S.sv ++ wH g (ha 4) hd S.hv ++ wP g (ha 5) S.pv ++ wL g (ha 5 2) lq ++ wO g (ha 6) S.ov ++ wSv g hs S.svd ++ wM g hm (o3.2) ++ wOud g ob od)) _ := wp_P (wp_of fun f => by simp only [wOut, wOud, List.countP_append, List.countP_cons, List.countP_nil] <;> omega) hP
      refine va_lald hx hb hK hP9 0 3 rfl rfl (i := 0) vp_in01 dL_law_1373 ?_
      refine lv_iload hx hb dL_law_1374 (lv_at hl 0 rfl) ?_
      obtain ⟨he, hf⟩ := jbA_e hf
      cases hf
      refine lv_i2l (v := (o3.1).toInt64) hx hb dL_law_1376 rfl ?_
      refine W.lcmp hx hb dL_law_1377 ?_
      refine lv_if_eq (tgt := 1383) hx hb dL_law_1378 (by decide) (fun hc => ?_) (fun hc => absurd (by rw [he]; exact lg_cmp_self _) hc)
      refine lv_goto (tgt := 2560) hx hb dL_law_1383 (by decide) ?_
      refine W.widen (k := cells + 60) (n := slots + 700) (by omega) (by omega) ?_
      exact kk hd hs lq _ _ _ hok hP hD hS (lv_sub hl [2, 3, 4, 5, 6, 7] rfl)
  · have hf := jbF hf hc
    cases hf
set_option maxHeartbeats 4000000 in
set_option maxRecDepth 100000 in
theorem lwc_17 {p : Program} {e : Env} {s : State} {mi : MethodId} {args : Array Value} {below : List Frame} {meth : Method} {c : Code} {g : GG} {A : Nat → Prop} {b L : Nat} {xs : Nat → Int32} {Q : State → Prop} (l : Launch) (hlt : l.stackTraces = false) (C0 : LwB p s mi args c g A b L xs)
    (ha hd : Nat → Nat → Nat) (hs hm : Nat → Nat) (lq : ListS) (oa ob : Nat) (S : Sys) (ol : Nat → Int64) (od : Nat → UInt64) (hok : lsOK lq) (i : Int32) (h1 : vp_in (i + 1) L) (h2 : vp_in (i + 2) L) (h3 : vp_in (i + 3) L) (h4 : vp_in (i + 4) L) (r : LR)
    (hf : lawOp_17 S (xs (i + 1).toNatClampNeg) (xs (i + 2).toNatClampNeg) (xs (i + 3).toNatClampNeg) (xs (i + 4).toNatClampNeg) ol od = some r) {H : Heap} {locs : List Loc} {ls : Array Slot} {cells slots : Nat} (hc9 : cells + 60 ≤ 603072) (hs9 : slots + 700 ≤ 7190634)
    (hP : va_P (gD g) vwCl (wSys g ha hd hs hm lq oa ob S ol od) H) (hD : va_D A (wSys g ha hd hs hm lq oa ob S ol od)) (hS : va_S A s.heap H locs) (hl : lv_has ls 10 [(5, .int i), (0, .ref b), (1, .ref (ha 0 0)), (2, .ref (hm 0)), (3, .ref oa), (4, .ref ob)])
    (kk : ∀ (hd : Nat → Nat → Nat) (hs : Nat → Nat) (lq : ListS) (H : Heap) (locs : List Loc) (ls : Array Slot), lsOK lq → va_P (gD g) vwCl (wSys g ha hd hs hm lq oa ob r.1 r.2.1 r.2.2) H → va_D A (wSys g ha hd hs hm lq oa ob r.1 r.2.1 r.2.2) → va_S A s.heap H locs → lv_has ls 10 [(5, .int i), (0, .ref b), (1, .ref (ha 0 0)), (2, .ref (hm 0)), (3, .ref oa), (4, .ref ob)] → W p l e room_1 s mi args below meth c H locs (cells + 60) (slots + 700) Q (F0 mi 2560 ls [])) :
    W p l e room_1 s mi args below meth c H locs cells slots Q (F0 mi 1386 ls []) := by
  obtain ⟨hx, hb, hml, hown, hts, hK, hZ, hT, hA, hX, hbl, hbA⟩ := C0
  have hP : va_P (gD g) vwCl (wT g ha (S.svd.map (fun _ => hs 0), S.ep, S.fc) ++ wQ g (ha 1) S.qv ++ wQ g (ha 2) S.bv ++ wS g (ha 3) S.sv ++ wH g (ha 4) hd S.hv ++ wP g (ha 5) S.pv ++ wL g (ha 5 2) lq ++ wO g (ha 6) S.ov ++ wSv g hs S.svd ++ wM g hm S.mv ++ wOut g oa ol ++ wOud g ob od) H := hP
  have hD : va_D A (wT g ha (S.svd.map (fun _ => hs 0), S.ep, S.fc) ++ wQ g (ha 1) S.qv ++ wQ g (ha 2) S.bv ++ wS g (ha 3) S.sv ++ wH g (ha 4) hd S.hv ++ wP g (ha 5) S.pv ++ wL g (ha 5 2) lq ++ wO g (ha 6) S.ov ++ wSv g hs S.svd ++ wM g hm S.mv ++ wOut g oa ol ++ wOud g ob od) := hD
  unfold lawOp_17 at hf
  refine lv_aload_n hx hb dL_law_1386 rfl (lv_at hl 2 rfl) ?_
  refine lv_aload_n hx hb dL_law_1387 rfl (lv_at hl 1 rfl) ?_
  refine lv_iload hx hb dL_law_1388 (lv_at hl 0 rfl) ?_
  refine lv_iconst (v := 1) hx hb dL_law_1390 (by decide) ?_
  refine lv_iadd hx hb dL_law_1391 ?_
  refine va_sld hx hb hX hbl hbA hS h1 dL_law_1392 ?_
  refine lv_aload_n hx hb dL_law_1393 rfl (lv_at hl 1 rfl) ?_
  refine lv_iload hx hb dL_law_1394 (lv_at hl 0 rfl) ?_
  refine lv_iconst (v := 2) hx hb dL_law_1396 (by decide) ?_
  refine lv_iadd hx hb dL_law_1397 ?_
  refine va_sld hx hb hX hbl hbA hS h2 dL_law_1398 ?_
  refine lv_aload_n hx hb dL_law_1399 rfl (lv_at hl 1 rfl) ?_
  refine lv_iload hx hb dL_law_1400 (lv_at hl 0 rfl) ?_
  refine lv_iconst (v := 3) hx hb dL_law_1402 (by decide) ?_
  refine lv_iadd hx hb dL_law_1403 ?_
  refine va_sld hx hb hX hbl hbA hS h3 dL_law_1404 ?_
  refine lv_aload_n hx hb dL_law_1405 rfl (lv_at hl 4 rfl) ?_
  obtain ⟨k1, hg2, hf⟩ := jbB_e hf
  refine cws_i (As := [.ref (ha 0 0), .int (xs (i + 1).toNatClampNeg), .int (xs (i + 2).toNatClampNeg), .int (xs (i + 3).toNatClampNeg), .ref oa]) (rest := []) (Wr := (wQ g (ha 2) S.bv ++ wS g (ha 3) S.sv ++ wH g (ha 4) hd S.hv ++ wP g (ha 5) S.pv ++ wL g (ha 5 2) lq ++ wO g (ha 6) S.ov ++ wSv g hs S.svd ++ wM g hm S.mv ++ wOud g ob od)) (Wn := (wT g ha (S.svd.map (fun _ => hs 0), S.ep, S.fc) ++ wQ g (ha 1) S.qv ++ wQ g (ha 2) S.bv ++ wS g (ha 3) S.sv ++ wH g (ha 4) hd S.hv ++ wP g (ha 5) S.pv ++ wL g (ha 5 2) lq ++ wO g (ha 6) S.ov ++ wSv g hs S.svd ++ wM g hm S.mv ++ wOut g oa (k1.2) ++ wOud g ob od)) ⟨hx, hb, hml, hown, hts⟩ (c_L_cutsToLower l hlt g ha (S.svd.map (fun _ => hs 0), S.ep, S.fc) S.qv (xs (i + 1).toNatClampNeg) (xs (i + 2).toNatClampNeg) (xs (i + 3).toNatClampNeg) oa ol _ hg2) (vx_cwSW 5 hts gL_law_L_cutsToLower rfl rfl rfl hd_L_cutsToLower.2 ⟨(Nat.le_of_ble_eq_true rfl), (Nat.le_of_ble_eq_true rfl)⟩) hK hZ hT hA hP hD hS hl.1 (wp_of fun f => by simp only [wOut, wOud, List.countP_append, List.countP_cons, List.countP_nil] <;> omega) (wp_of fun f => by simp only [wOut, wOud, List.countP_append, List.countP_cons, List.countP_nil] <;> omega) rfl rfl (Nat.le_of_ble_eq_true rfl) ⟨show cells + 1 ≤ 603072 by omega, show slots + 6 ≤ 7190634 by omega⟩ dL_law_1406 (fun H locs hP hD hS => ?_)
  refine lv_istore (lv' := [(6, .int (k1.1)), (5, .int i), (0, .ref b), (1, .ref (ha 0 0)), (2, .ref (hm 0)), (3, .ref oa), (4, .ref ob)]) hx hb dL_law_1409 hl (by decide) rfl (fun ls hl => ?_)
  refine lv_aload_n hx hb dL_law_1411 rfl (lv_at hl 4 rfl) ?_
  refine lv_aload_n hx hb dL_law_1412 rfl (lv_at hl 2 rfl) ?_
  refine lv_iload hx hb dL_law_1413 (lv_at hl 1 rfl) ?_
  refine lv_iconst (v := 1) hx hb dL_law_1415 (by decide) ?_
  refine lv_iadd hx hb dL_law_1416 ?_
  refine va_sld hx hb hX hbl hbA hS h1 dL_law_1417 ?_
  refine lv_aload_n hx hb dL_law_1418 rfl (lv_at hl 2 rfl) ?_
  refine lv_iload hx hb dL_law_1419 (lv_at hl 1 rfl) ?_
  refine lv_iconst (v := 2) hx hb dL_law_1421 (by decide) ?_
  refine lv_iadd hx hb dL_law_1422 ?_
  refine va_sld hx hb hX hbl hbA hS h2 dL_law_1423 ?_
  refine lv_aload_n hx hb dL_law_1424 rfl (lv_at hl 2 rfl) ?_
  refine lv_iload hx hb dL_law_1425 (lv_at hl 1 rfl) ?_
  refine lv_iconst (v := 3) hx hb dL_law_1427 (by decide) ?_
  refine lv_iadd hx hb dL_law_1428 ?_
  refine va_sld hx hb hX hbl hbA hS h3 dL_law_1429 ?_
  obtain ⟨o3, hg4, hf⟩ := jbB_e hf
  have hPr : va_P (gD g) vwCl ((wM g hm S.mv) ++ (wT g ha (S.svd.map (fun _ => hs 0), S.ep, S.fc) ++ wQ g (ha 1) S.qv ++ wQ g (ha 2) S.bv ++ wS g (ha 3) S.sv ++ wH g (ha 4) hd S.hv ++ wP g (ha 5) S.pv ++ wL g (ha 5 2) lq ++ wO g (ha 6) S.ov ++ wSv g hs S.svd ++ wOut g oa (k1.2) ++ wOud g ob od)) _ := wp_P (wp_of fun f => by simp only [wOut, wOud, List.countP_append, List.countP_cons, List.countP_nil] <;> omega) hP
  refine cpv_i (As := [.int (xs (i + 1).toNatClampNeg), .int (xs (i + 2).toNatClampNeg), .int (xs (i + 3).toNatClampNeg)]) (rest := []) (Wr := (wT g ha (S.svd.map (fun _ => hs 0), S.ep, S.fc) ++ wQ g (ha 1) S.qv ++ wQ g (ha 2) S.bv ++ wS g (ha 3) S.sv ++ wH g (ha 4) hd S.hv ++ wP g (ha 5) S.pv ++ wL g (ha 5 2) lq ++ wO g (ha 6) S.ov ++ wSv g hs S.svd ++ wOut g oa (k1.2) ++ wOud g ob od)) (Wn := (wT g ha (S.svd.map (fun _ => hs 0), S.ep, S.fc) ++ wQ g (ha 1) S.qv ++ wQ g (ha 2) S.bv ++ wS g (ha 3) S.sv ++ wH g (ha 4) hd S.hv ++ wP g (ha 5) S.pv ++ wL g (ha 5 2) lq ++ wO g (ha 6) S.ov ++ wSv g hs S.svd ++ wM g hm (o3.2) ++ wOut g oa (k1.2) ++ wOud g ob od)) ⟨hx, hb, hml, hown, hts⟩ (c_X11_cutsToLower l g hm S.mv (xs (i + 1).toNatClampNeg) (xs (i + 2).toNatClampNeg) (xs (i + 3).toNatClampNeg) _ hg4) (cwV 3 hts gL_law_X11_cutsToLower rfl rfl rfl hd_X11_cutsToLower ⟨(Nat.le_of_ble_eq_true rfl), (Nat.le_of_ble_eq_true rfl)⟩) hK hZ hT hA hP hD hS hl.1 (va_recv hK hPr (ci := 10) (q0 := 0) rfl rfl) (wp_of fun f => by simp only [wOut, wOud, List.countP_append, List.countP_cons, List.countP_nil] <;> omega) (wp_of fun f => by simp only [wOut, wOud, List.countP_append, List.countP_cons, List.countP_nil] <;> omega) rfl rfl (Nat.le_of_ble_eq_true rfl) ⟨show cells + 1 + 0 ≤ 603072 by omega, show slots + 6 + 0 ≤ 7190634 by omega⟩ dL_law_1430 (fun H locs hP hD hS => ?_)
  refine lv_istore (lv' := [(7, .int (o3.1)), (6, .int (k1.1)), (5, .int i), (0, .ref b), (1, .ref (ha 0 0)), (2, .ref (hm 0)), (3, .ref oa), (4, .ref ob)]) hx hb dL_law_1433 hl (by decide) rfl (fun ls hl => ?_)
  refine lv_aload_n hx hb dL_law_1435 rfl (lv_at hl 5 rfl) ?_
  obtain ⟨o5, hg6, hf⟩ := jbB_e hf
  have hPr : va_P (gD g) vwCl ((wM g hm (o3.2)) ++ (wT g ha (S.svd.map (fun _ => hs 0), S.ep, S.fc) ++ wQ g (ha 1) S.qv ++ wQ g (ha 2) S.bv ++ wS g (ha 3) S.sv ++ wH g (ha 4) hd S.hv ++ wP g (ha 5) S.pv ++ wL g (ha 5 2) lq ++ wO g (ha 6) S.ov ++ wSv g hs S.svd ++ wOut g oa (k1.2) ++ wOud g ob od)) _ := wp_P (wp_of fun f => by simp only [wOut, wOud, List.countP_append, List.countP_cons, List.countP_nil] <;> omega) hP
  refine cpv_i (As := []) (rest := []) (Wr := (wT g ha (S.svd.map (fun _ => hs 0), S.ep, S.fc) ++ wQ g (ha 1) S.qv ++ wQ g (ha 2) S.bv ++ wS g (ha 3) S.sv ++ wH g (ha 4) hd S.hv ++ wP g (ha 5) S.pv ++ wL g (ha 5 2) lq ++ wO g (ha 6) S.ov ++ wSv g hs S.svd ++ wOut g oa (k1.2) ++ wOud g ob od)) (Wn := (wT g ha (S.svd.map (fun _ => hs 0), S.ep, S.fc) ++ wQ g (ha 1) S.qv ++ wQ g (ha 2) S.bv ++ wS g (ha 3) S.sv ++ wH g (ha 4) hd S.hv ++ wP g (ha 5) S.pv ++ wL g (ha 5 2) lq ++ wO g (ha 6) S.ov ++ wSv g hs S.svd ++ wM g hm (o3.2) ++ wOut g oa (k1.2) ++ wOud g ob od)) ⟨hx, hb, hml, hown, hts⟩ (c_X11_thrown l g hm (o3.2)  _ hg6) (cwV 0 hts gL_law_X11_thrown rfl rfl rfl hd_X11_thrown ⟨(Nat.le_of_ble_eq_true rfl), (Nat.le_of_ble_eq_true rfl)⟩) hK hZ hT hA hP hD hS hl.1 (va_recv hK hPr (ci := 10) (q0 := 0) rfl rfl) (wp_of fun f => by simp only [wOut, wOud, List.countP_append, List.countP_cons, List.countP_nil] <;> omega) (wp_of fun f => by simp only [wOut, wOud, List.countP_append, List.countP_cons, List.countP_nil] <;> omega) rfl rfl (Nat.le_of_ble_eq_true rfl) ⟨show cells + 1 + 0 ≤ 603072 by omega, show slots + 6 + 0 ≤ 7190634 by omega⟩ dL_law_1436 (fun H locs hP hD hS => ?_)
  refine lv_iload hx hb dL_law_1439 (lv_at hl 1 rfl) ?_
  refine lv_icmp_eq (tgt := 1446) hx hb dL_law_1441 (by decide) (fun hc => ?_) (fun hc => ?_)
  · have hf := jbT hf hc
    refine lv_iload hx hb dL_law_1446 (lv_at hl 1 rfl) ?_
    refine lv_if_ne (tgt := 1463) hx hb dL_law_1448 (by decide) (fun hc2 => ?_) (fun hc2 => ?_)
    · have hf := jbF hf hc2
      cases hf
      refine lv_goto (tgt := 2560) hx hb dL_law_1463 (by decide) ?_
      refine W.widen (k := cells + 60) (n := slots + 700) (by omega) (by omega) ?_
      exact kk hd hs lq _ _ _ hok hP hD hS (lv_sub hl [2, 3, 4, 5, 6, 7] rfl)
    · have hf := jbT hf hc2
      refine lv_aload_n hx hb dL_law_1451 rfl (lv_at hl 6 rfl) ?_
      refine lv_iconst (v := 0) hx hb dL_law_1452 (by decide) ?_
      have hP9 : va_P (gD g) vwCl ((wOut g oa (k1.2)) ++ (wT g ha (S.svd.map (fun _ => hs 0), S.ep, S.fc) ++ wQ g (ha 1) S.qv ++ wQ g (ha 2) S.bv ++ wS g (ha 3) S.sv ++ wH g (ha 4) hd S.hv ++ wP g (ha 5) S.pv ++ wL g (ha 5 2) lq ++ wO g (ha 6) S.ov ++ wSv g hs S.svd ++ wM g hm (o3.2) ++ wOud g ob od)) _ := wp_P (wp_of fun f => by simp only [wOut, wOud, List.countP_append, List.countP_cons, List.countP_nil] <;> omega) hP
      refine va_lald hx hb hK hP9 0 3 rfl rfl (i := 0) vp_in01 dL_law_1453 ?_
      refine lv_iload hx hb dL_law_1454 (lv_at hl 0 rfl) ?_
      obtain ⟨he, hf⟩ := jbA_e hf
      cases hf
      refine lv_i2l (v := (o3.1).toInt64) hx hb dL_law_1456 rfl ?_
      refine W.lcmp hx hb dL_law_1457 ?_
      refine lv_if_eq (tgt := 1463) hx hb dL_law_1458 (by decide) (fun hc => ?_) (fun hc => absurd (by rw [he]; exact lg_cmp_self _) hc)
      refine lv_goto (tgt := 2560) hx hb dL_law_1463 (by decide) ?_
      refine W.widen (k := cells + 60) (n := slots + 700) (by omega) (by omega) ?_
      exact kk hd hs lq _ _ _ hok hP hD hS (lv_sub hl [2, 3, 4, 5, 6, 7] rfl)
  · have hf := jbF hf hc
    cases hf
set_option maxHeartbeats 4000000 in
set_option maxRecDepth 100000 in
theorem lwc_18 {p : Program} {e : Env} {s : State} {mi : MethodId} {args : Array Value} {below : List Frame} {meth : Method} {c : Code} {g : GG} {A : Nat → Prop} {b L : Nat} {xs : Nat → Int32} {Q : State → Prop} (l : Launch) (hlt : l.stackTraces = false) (C0 : LwB p s mi args c g A b L xs)
    (ha hd : Nat → Nat → Nat) (hs hm : Nat → Nat) (lq : ListS) (oa ob : Nat) (S : Sys) (ol : Nat → Int64) (od : Nat → UInt64) (hok : lsOK lq) (i : Int32) (h1 : vp_in (i + 1) L) (h2 : vp_in (i + 2) L) (h3 : vp_in (i + 3) L) (h4 : vp_in (i + 4) L) (r : LR)
    (hf : lawOp_18 S (xs (i + 1).toNatClampNeg) (xs (i + 2).toNatClampNeg) (xs (i + 3).toNatClampNeg) (xs (i + 4).toNatClampNeg) ol od = some r) {H : Heap} {locs : List Loc} {ls : Array Slot} {cells slots : Nat} (hc9 : cells + 60 ≤ 603072) (hs9 : slots + 700 ≤ 7190634)
    (hP : va_P (gD g) vwCl (wSys g ha hd hs hm lq oa ob S ol od) H) (hD : va_D A (wSys g ha hd hs hm lq oa ob S ol od)) (hS : va_S A s.heap H locs) (hl : lv_has ls 10 [(5, .int i), (0, .ref b), (1, .ref (ha 0 0)), (2, .ref (hm 0)), (3, .ref oa), (4, .ref ob)])
    (kk : ∀ (hd : Nat → Nat → Nat) (hs : Nat → Nat) (lq : ListS) (H : Heap) (locs : List Loc) (ls : Array Slot), lsOK lq → va_P (gD g) vwCl (wSys g ha hd hs hm lq oa ob r.1 r.2.1 r.2.2) H → va_D A (wSys g ha hd hs hm lq oa ob r.1 r.2.1 r.2.2) → va_S A s.heap H locs → lv_has ls 10 [(5, .int i), (0, .ref b), (1, .ref (ha 0 0)), (2, .ref (hm 0)), (3, .ref oa), (4, .ref ob)] → W p l e room_1 s mi args below meth c H locs (cells + 60) (slots + 700) Q (F0 mi 2560 ls [])) :
    W p l e room_1 s mi args below meth c H locs cells slots Q (F0 mi 1466 ls []) := by
  obtain ⟨hx, hb, hml, hown, hts, hK, hZ, hT, hA, hX, hbl, hbA⟩ := C0
  have hP : va_P (gD g) vwCl (wT g ha (S.svd.map (fun _ => hs 0), S.ep, S.fc) ++ wQ g (ha 1) S.qv ++ wQ g (ha 2) S.bv ++ wS g (ha 3) S.sv ++ wH g (ha 4) hd S.hv ++ wP g (ha 5) S.pv ++ wL g (ha 5 2) lq ++ wO g (ha 6) S.ov ++ wSv g hs S.svd ++ wM g hm S.mv ++ wOut g oa ol ++ wOud g ob od) H := hP
  have hD : va_D A (wT g ha (S.svd.map (fun _ => hs 0), S.ep, S.fc) ++ wQ g (ha 1) S.qv ++ wQ g (ha 2) S.bv ++ wS g (ha 3) S.sv ++ wH g (ha 4) hd S.hv ++ wP g (ha 5) S.pv ++ wL g (ha 5 2) lq ++ wO g (ha 6) S.ov ++ wSv g hs S.svd ++ wM g hm S.mv ++ wOut g oa ol ++ wOud g ob od) := hD
  unfold lawOp_18 at hf
  refine lv_aload_n hx hb dL_law_1466 rfl (lv_at hl 2 rfl) ?_
  refine lv_aload_n hx hb dL_law_1467 rfl (lv_at hl 1 rfl) ?_
  refine lv_iload hx hb dL_law_1468 (lv_at hl 0 rfl) ?_
  refine lv_iconst (v := 1) hx hb dL_law_1470 (by decide) ?_
  refine lv_iadd hx hb dL_law_1471 ?_
  refine va_sld hx hb hX hbl hbA hS h1 dL_law_1472 ?_
  refine lv_aload_n hx hb dL_law_1473 rfl (lv_at hl 1 rfl) ?_
  refine lv_iload hx hb dL_law_1474 (lv_at hl 0 rfl) ?_
  refine lv_iconst (v := 2) hx hb dL_law_1476 (by decide) ?_
  refine lv_iadd hx hb dL_law_1477 ?_
  refine va_sld hx hb hX hbl hbA hS h2 dL_law_1478 ?_
  refine lv_aload_n hx hb dL_law_1479 rfl (lv_at hl 1 rfl) ?_
  refine lv_iload hx hb dL_law_1480 (lv_at hl 0 rfl) ?_
  refine lv_iconst (v := 3) hx hb dL_law_1482 (by decide) ?_
  refine lv_iadd hx hb dL_law_1483 ?_
  refine va_sld hx hb hX hbl hbA hS h3 dL_law_1484 ?_
  refine lv_aload_n hx hb dL_law_1485 rfl (lv_at hl 4 rfl) ?_
  obtain ⟨k1, hg2, hf⟩ := jbB_e hf
  refine cws_i (As := [.ref (ha 0 0), .int (xs (i + 1).toNatClampNeg), .int (xs (i + 2).toNatClampNeg), .int (xs (i + 3).toNatClampNeg), .ref oa]) (rest := []) (Wr := (wQ g (ha 2) S.bv ++ wH g (ha 4) hd S.hv ++ wP g (ha 5) S.pv ++ wL g (ha 5 2) lq ++ wO g (ha 6) S.ov ++ wSv g hs S.svd ++ wM g hm S.mv ++ wOud g ob od)) (Wn := (wT g ha (S.svd.map (fun _ => hs 0), S.ep, S.fc) ++ wQ g (ha 1) S.qv ++ wQ g (ha 2) S.bv ++ wS g (ha 3) (k1.2.2) ++ wH g (ha 4) hd S.hv ++ wP g (ha 5) S.pv ++ wL g (ha 5 2) lq ++ wO g (ha 6) S.ov ++ wSv g hs S.svd ++ wM g hm S.mv ++ wOut g oa (k1.2.1) ++ wOud g ob od)) ⟨hx, hb, hml, hown, hts⟩ (c_L_cutsToLowerBySpreading l hlt g ha (S.svd.map (fun _ => hs 0), S.ep, S.fc) S.qv S.sv (xs (i + 1).toNatClampNeg) (xs (i + 2).toNatClampNeg) (xs (i + 3).toNatClampNeg) oa ol _ hg2) (vx_cwSW 5 hts gL_law_L_cutsToLowerBySpreading rfl rfl rfl hd_L_cutsToLowerBySpreading.2 ⟨(Nat.le_of_ble_eq_true rfl), (Nat.le_of_ble_eq_true rfl)⟩) hK hZ hT hA hP hD hS hl.1 (wp_of fun f => by simp only [wOut, wOud, List.countP_append, List.countP_cons, List.countP_nil] <;> omega) (wp_of fun f => by simp only [wOut, wOud, List.countP_append, List.countP_cons, List.countP_nil] <;> omega) rfl rfl (Nat.le_of_ble_eq_true rfl) ⟨show cells + 1 ≤ 603072 by omega, show slots + 6 ≤ 7190634 by omega⟩ dL_law_1486 (fun H locs hP hD hS => ?_)
  refine lv_istore (lv' := [(6, .int (k1.1)), (5, .int i), (0, .ref b), (1, .ref (ha 0 0)), (2, .ref (hm 0)), (3, .ref oa), (4, .ref ob)]) hx hb dL_law_1489 hl (by decide) rfl (fun ls hl => ?_)
  refine lv_aload_n hx hb dL_law_1491 rfl (lv_at hl 4 rfl) ?_
  refine lv_aload_n hx hb dL_law_1492 rfl (lv_at hl 2 rfl) ?_
  refine lv_iload hx hb dL_law_1493 (lv_at hl 1 rfl) ?_
  refine lv_iconst (v := 1) hx hb dL_law_1495 (by decide) ?_
  refine lv_iadd hx hb dL_law_1496 ?_
  refine va_sld hx hb hX hbl hbA hS h1 dL_law_1497 ?_
  refine lv_aload_n hx hb dL_law_1498 rfl (lv_at hl 2 rfl) ?_
  refine lv_iload hx hb dL_law_1499 (lv_at hl 1 rfl) ?_
  refine lv_iconst (v := 2) hx hb dL_law_1501 (by decide) ?_
  refine lv_iadd hx hb dL_law_1502 ?_
  refine va_sld hx hb hX hbl hbA hS h2 dL_law_1503 ?_
  refine lv_aload_n hx hb dL_law_1504 rfl (lv_at hl 2 rfl) ?_
  refine lv_iload hx hb dL_law_1505 (lv_at hl 1 rfl) ?_
  refine lv_iconst (v := 3) hx hb dL_law_1507 (by decide) ?_
  refine lv_iadd hx hb dL_law_1508 ?_
  refine va_sld hx hb hX hbl hbA hS h3 dL_law_1509 ?_
  obtain ⟨o3, hg4, hf⟩ := jbB_e hf
  have hPr : va_P (gD g) vwCl ((wM g hm S.mv) ++ (wT g ha (S.svd.map (fun _ => hs 0), S.ep, S.fc) ++ wQ g (ha 1) S.qv ++ wQ g (ha 2) S.bv ++ wS g (ha 3) (k1.2.2) ++ wH g (ha 4) hd S.hv ++ wP g (ha 5) S.pv ++ wL g (ha 5 2) lq ++ wO g (ha 6) S.ov ++ wSv g hs S.svd ++ wOut g oa (k1.2.1) ++ wOud g ob od)) _ := wp_P (wp_of fun f => by simp only [wOut, wOud, List.countP_append, List.countP_cons, List.countP_nil] <;> omega) hP
  refine cpv_i (As := [.int (xs (i + 1).toNatClampNeg), .int (xs (i + 2).toNatClampNeg), .int (xs (i + 3).toNatClampNeg)]) (rest := []) (Wr := (wT g ha (S.svd.map (fun _ => hs 0), S.ep, S.fc) ++ wQ g (ha 1) S.qv ++ wQ g (ha 2) S.bv ++ wS g (ha 3) (k1.2.2) ++ wH g (ha 4) hd S.hv ++ wP g (ha 5) S.pv ++ wL g (ha 5 2) lq ++ wO g (ha 6) S.ov ++ wSv g hs S.svd ++ wOut g oa (k1.2.1) ++ wOud g ob od)) (Wn := (wT g ha (S.svd.map (fun _ => hs 0), S.ep, S.fc) ++ wQ g (ha 1) S.qv ++ wQ g (ha 2) S.bv ++ wS g (ha 3) (k1.2.2) ++ wH g (ha 4) hd S.hv ++ wP g (ha 5) S.pv ++ wL g (ha 5 2) lq ++ wO g (ha 6) S.ov ++ wSv g hs S.svd ++ wM g hm (o3.2) ++ wOut g oa (k1.2.1) ++ wOud g ob od)) ⟨hx, hb, hml, hown, hts⟩ (c_X11_cutsToLowerBySpreading l g hm S.mv (xs (i + 1).toNatClampNeg) (xs (i + 2).toNatClampNeg) (xs (i + 3).toNatClampNeg) _ hg4) (cwV 3 hts gL_law_X11_cutsToLowerBySpreading rfl rfl rfl hd_X11_cutsToLowerBySpreading ⟨(Nat.le_of_ble_eq_true rfl), (Nat.le_of_ble_eq_true rfl)⟩) hK hZ hT hA hP hD hS hl.1 (va_recv hK hPr (ci := 10) (q0 := 0) rfl rfl) (wp_of fun f => by simp only [wOut, wOud, List.countP_append, List.countP_cons, List.countP_nil] <;> omega) (wp_of fun f => by simp only [wOut, wOud, List.countP_append, List.countP_cons, List.countP_nil] <;> omega) rfl rfl (Nat.le_of_ble_eq_true rfl) ⟨show cells + 1 + 0 ≤ 603072 by omega, show slots + 6 + 0 ≤ 7190634 by omega⟩ dL_law_1510 (fun H locs hP hD hS => ?_)
  refine lv_istore (lv' := [(7, .int (o3.1)), (6, .int (k1.1)), (5, .int i), (0, .ref b), (1, .ref (ha 0 0)), (2, .ref (hm 0)), (3, .ref oa), (4, .ref ob)]) hx hb dL_law_1513 hl (by decide) rfl (fun ls hl => ?_)
  refine lv_aload_n hx hb dL_law_1515 rfl (lv_at hl 5 rfl) ?_
  obtain ⟨o5, hg6, hf⟩ := jbB_e hf
  have hPr : va_P (gD g) vwCl ((wM g hm (o3.2)) ++ (wT g ha (S.svd.map (fun _ => hs 0), S.ep, S.fc) ++ wQ g (ha 1) S.qv ++ wQ g (ha 2) S.bv ++ wS g (ha 3) (k1.2.2) ++ wH g (ha 4) hd S.hv ++ wP g (ha 5) S.pv ++ wL g (ha 5 2) lq ++ wO g (ha 6) S.ov ++ wSv g hs S.svd ++ wOut g oa (k1.2.1) ++ wOud g ob od)) _ := wp_P (wp_of fun f => by simp only [wOut, wOud, List.countP_append, List.countP_cons, List.countP_nil] <;> omega) hP
  refine cpv_i (As := []) (rest := []) (Wr := (wT g ha (S.svd.map (fun _ => hs 0), S.ep, S.fc) ++ wQ g (ha 1) S.qv ++ wQ g (ha 2) S.bv ++ wS g (ha 3) (k1.2.2) ++ wH g (ha 4) hd S.hv ++ wP g (ha 5) S.pv ++ wL g (ha 5 2) lq ++ wO g (ha 6) S.ov ++ wSv g hs S.svd ++ wOut g oa (k1.2.1) ++ wOud g ob od)) (Wn := (wT g ha (S.svd.map (fun _ => hs 0), S.ep, S.fc) ++ wQ g (ha 1) S.qv ++ wQ g (ha 2) S.bv ++ wS g (ha 3) (k1.2.2) ++ wH g (ha 4) hd S.hv ++ wP g (ha 5) S.pv ++ wL g (ha 5 2) lq ++ wO g (ha 6) S.ov ++ wSv g hs S.svd ++ wM g hm (o3.2) ++ wOut g oa (k1.2.1) ++ wOud g ob od)) ⟨hx, hb, hml, hown, hts⟩ (c_X11_thrown l g hm (o3.2)  _ hg6) (cwV 0 hts gL_law_X11_thrown rfl rfl rfl hd_X11_thrown ⟨(Nat.le_of_ble_eq_true rfl), (Nat.le_of_ble_eq_true rfl)⟩) hK hZ hT hA hP hD hS hl.1 (va_recv hK hPr (ci := 10) (q0 := 0) rfl rfl) (wp_of fun f => by simp only [wOut, wOud, List.countP_append, List.countP_cons, List.countP_nil] <;> omega) (wp_of fun f => by simp only [wOut, wOud, List.countP_append, List.countP_cons, List.countP_nil] <;> omega) rfl rfl (Nat.le_of_ble_eq_true rfl) ⟨show cells + 1 + 0 ≤ 603072 by omega, show slots + 6 + 0 ≤ 7190634 by omega⟩ dL_law_1516 (fun H locs hP hD hS => ?_)
  refine lv_iload hx hb dL_law_1519 (lv_at hl 1 rfl) ?_
  refine lv_icmp_eq (tgt := 1526) hx hb dL_law_1521 (by decide) (fun hc => ?_) (fun hc => ?_)
  · have hf := jbT hf hc
    refine lv_iload hx hb dL_law_1526 (lv_at hl 1 rfl) ?_
    refine lv_if_ne (tgt := 1543) hx hb dL_law_1528 (by decide) (fun hc2 => ?_) (fun hc2 => ?_)
    · have hf := jbF hf hc2
      cases hf
      refine lv_goto (tgt := 2560) hx hb dL_law_1543 (by decide) ?_
      refine W.widen (k := cells + 60) (n := slots + 700) (by omega) (by omega) ?_
      exact kk hd hs lq _ _ _ hok hP hD hS (lv_sub hl [2, 3, 4, 5, 6, 7] rfl)
    · have hf := jbT hf hc2
      refine lv_aload_n hx hb dL_law_1531 rfl (lv_at hl 6 rfl) ?_
      refine lv_iconst (v := 0) hx hb dL_law_1532 (by decide) ?_
      have hP9 : va_P (gD g) vwCl ((wOut g oa (k1.2.1)) ++ (wT g ha (S.svd.map (fun _ => hs 0), S.ep, S.fc) ++ wQ g (ha 1) S.qv ++ wQ g (ha 2) S.bv ++ wS g (ha 3) (k1.2.2) ++ wH g (ha 4) hd S.hv ++ wP g (ha 5) S.pv ++ wL g (ha 5 2) lq ++ wO g (ha 6) S.ov ++ wSv g hs S.svd ++ wM g hm (o3.2) ++ wOud g ob od)) _ := wp_P (wp_of fun f => by simp only [wOut, wOud, List.countP_append, List.countP_cons, List.countP_nil] <;> omega) hP
      refine va_lald hx hb hK hP9 0 3 rfl rfl (i := 0) vp_in01 dL_law_1533 ?_
      refine lv_iload hx hb dL_law_1534 (lv_at hl 0 rfl) ?_
      obtain ⟨he, hf⟩ := jbA_e hf
      cases hf
      refine lv_i2l (v := (o3.1).toInt64) hx hb dL_law_1536 rfl ?_
      refine W.lcmp hx hb dL_law_1537 ?_
      refine lv_if_eq (tgt := 1543) hx hb dL_law_1538 (by decide) (fun hc => ?_) (fun hc => absurd (by rw [he]; exact lg_cmp_self _) hc)
      refine lv_goto (tgt := 2560) hx hb dL_law_1543 (by decide) ?_
      refine W.widen (k := cells + 60) (n := slots + 700) (by omega) (by omega) ?_
      exact kk hd hs lq _ _ _ hok hP hD hS (lv_sub hl [2, 3, 4, 5, 6, 7] rfl)
  · have hf := jbF hf hc
    cases hf
set_option maxHeartbeats 4000000 in
set_option maxRecDepth 100000 in
theorem lwc_19 {p : Program} {e : Env} {s : State} {mi : MethodId} {args : Array Value} {below : List Frame} {meth : Method} {c : Code} {g : GG} {A : Nat → Prop} {b L : Nat} {xs : Nat → Int32} {Q : State → Prop} (l : Launch) (hlt : l.stackTraces = false) (C0 : LwB p s mi args c g A b L xs)
    (ha hd : Nat → Nat → Nat) (hs hm : Nat → Nat) (lq : ListS) (oa ob : Nat) (S : Sys) (ol : Nat → Int64) (od : Nat → UInt64) (hok : lsOK lq) (i : Int32) (h1 : vp_in (i + 1) L) (h2 : vp_in (i + 2) L) (h3 : vp_in (i + 3) L) (h4 : vp_in (i + 4) L) (r : LR)
    (hf : lawOp_19 S (xs (i + 1).toNatClampNeg) (xs (i + 2).toNatClampNeg) (xs (i + 3).toNatClampNeg) (xs (i + 4).toNatClampNeg) ol od = some r) {H : Heap} {locs : List Loc} {ls : Array Slot} {cells slots : Nat} (hc9 : cells + 60 ≤ 603072) (hs9 : slots + 700 ≤ 7190634)
    (hP : va_P (gD g) vwCl (wSys g ha hd hs hm lq oa ob S ol od) H) (hD : va_D A (wSys g ha hd hs hm lq oa ob S ol od)) (hS : va_S A s.heap H locs) (hl : lv_has ls 10 [(5, .int i), (0, .ref b), (1, .ref (ha 0 0)), (2, .ref (hm 0)), (3, .ref oa), (4, .ref ob)])
    (kk : ∀ (hd : Nat → Nat → Nat) (hs : Nat → Nat) (lq : ListS) (H : Heap) (locs : List Loc) (ls : Array Slot), lsOK lq → va_P (gD g) vwCl (wSys g ha hd hs hm lq oa ob r.1 r.2.1 r.2.2) H → va_D A (wSys g ha hd hs hm lq oa ob r.1 r.2.1 r.2.2) → va_S A s.heap H locs → lv_has ls 10 [(5, .int i), (0, .ref b), (1, .ref (ha 0 0)), (2, .ref (hm 0)), (3, .ref oa), (4, .ref ob)] → W p l e room_1 s mi args below meth c H locs (cells + 60) (slots + 700) Q (F0 mi 2560 ls [])) :
    W p l e room_1 s mi args below meth c H locs cells slots Q (F0 mi 1546 ls []) := by
  obtain ⟨hx, hb, hml, hown, hts, hK, hZ, hT, hA, hX, hbl, hbA⟩ := C0
  have hP : va_P (gD g) vwCl (wT g ha (S.svd.map (fun _ => hs 0), S.ep, S.fc) ++ wQ g (ha 1) S.qv ++ wQ g (ha 2) S.bv ++ wS g (ha 3) S.sv ++ wH g (ha 4) hd S.hv ++ wP g (ha 5) S.pv ++ wL g (ha 5 2) lq ++ wO g (ha 6) S.ov ++ wSv g hs S.svd ++ wM g hm S.mv ++ wOut g oa ol ++ wOud g ob od) H := hP
  have hD : va_D A (wT g ha (S.svd.map (fun _ => hs 0), S.ep, S.fc) ++ wQ g (ha 1) S.qv ++ wQ g (ha 2) S.bv ++ wS g (ha 3) S.sv ++ wH g (ha 4) hd S.hv ++ wP g (ha 5) S.pv ++ wL g (ha 5 2) lq ++ wO g (ha 6) S.ov ++ wSv g hs S.svd ++ wM g hm S.mv ++ wOut g oa ol ++ wOud g ob od) := hD
  unfold lawOp_19 at hf
  refine lv_aload_n hx hb dL_law_1546 rfl (lv_at hl 2 rfl) ?_
  refine lv_aload_n hx hb dL_law_1547 rfl (lv_at hl 1 rfl) ?_
  refine lv_iload hx hb dL_law_1548 (lv_at hl 0 rfl) ?_
  refine lv_iconst (v := 1) hx hb dL_law_1550 (by decide) ?_
  refine lv_iadd hx hb dL_law_1551 ?_
  refine va_sld hx hb hX hbl hbA hS h1 dL_law_1552 ?_
  refine lv_aload_n hx hb dL_law_1553 rfl (lv_at hl 1 rfl) ?_
  refine lv_iload hx hb dL_law_1554 (lv_at hl 0 rfl) ?_
  refine lv_iconst (v := 2) hx hb dL_law_1556 (by decide) ?_
  refine lv_iadd hx hb dL_law_1557 ?_
  refine va_sld hx hb hX hbl hbA hS h2 dL_law_1558 ?_
  refine lv_aload_n hx hb dL_law_1559 rfl (lv_at hl 4 rfl) ?_
  obtain ⟨k1, hg2, hf⟩ := jbB_e hf
  refine cws_i (As := [.ref (ha 0 0), .int (xs (i + 1).toNatClampNeg), .int (xs (i + 2).toNatClampNeg), .ref oa]) (rest := []) (Wr := (wQ g (ha 2) S.bv ++ wH g (ha 4) hd S.hv ++ wP g (ha 5) S.pv ++ wL g (ha 5 2) lq ++ wO g (ha 6) S.ov ++ wSv g hs S.svd ++ wM g hm S.mv ++ wOud g ob od)) (Wn := (wT g ha (S.svd.map (fun _ => hs 0), S.ep, S.fc) ++ wQ g (ha 1) S.qv ++ wQ g (ha 2) S.bv ++ wS g (ha 3) (k1.2.2) ++ wH g (ha 4) hd S.hv ++ wP g (ha 5) S.pv ++ wL g (ha 5 2) lq ++ wO g (ha 6) S.ov ++ wSv g hs S.svd ++ wM g hm S.mv ++ wOut g oa (k1.2.1) ++ wOud g ob od)) ⟨hx, hb, hml, hown, hts⟩ (c_L_seamSize l hlt g ha (S.svd.map (fun _ => hs 0), S.ep, S.fc) S.qv S.sv (xs (i + 1).toNatClampNeg) (xs (i + 2).toNatClampNeg) oa ol _ hg2) (vx_cwSW 4 hts gL_law_L_seamSize rfl rfl rfl hd_L_seamSize.2 ⟨(Nat.le_of_ble_eq_true rfl), (Nat.le_of_ble_eq_true rfl)⟩) hK hZ hT hA hP hD hS hl.1 (wp_of fun f => by simp only [wOut, wOud, List.countP_append, List.countP_cons, List.countP_nil] <;> omega) (wp_of fun f => by simp only [wOut, wOud, List.countP_append, List.countP_cons, List.countP_nil] <;> omega) rfl rfl (Nat.le_of_ble_eq_true rfl) ⟨show cells + 1 ≤ 603072 by omega, show slots + 6 ≤ 7190634 by omega⟩ dL_law_1560 (fun H locs hP hD hS => ?_)
  refine lv_istore (lv' := [(6, .int (k1.1)), (5, .int i), (0, .ref b), (1, .ref (ha 0 0)), (2, .ref (hm 0)), (3, .ref oa), (4, .ref ob)]) hx hb dL_law_1563 hl (by decide) rfl (fun ls hl => ?_)
  refine lv_aload_n hx hb dL_law_1565 rfl (lv_at hl 4 rfl) ?_
  refine lv_aload_n hx hb dL_law_1566 rfl (lv_at hl 2 rfl) ?_
  refine lv_iload hx hb dL_law_1567 (lv_at hl 1 rfl) ?_
  refine lv_iconst (v := 1) hx hb dL_law_1569 (by decide) ?_
  refine lv_iadd hx hb dL_law_1570 ?_
  refine va_sld hx hb hX hbl hbA hS h1 dL_law_1571 ?_
  refine lv_aload_n hx hb dL_law_1572 rfl (lv_at hl 2 rfl) ?_
  refine lv_iload hx hb dL_law_1573 (lv_at hl 1 rfl) ?_
  refine lv_iconst (v := 2) hx hb dL_law_1575 (by decide) ?_
  refine lv_iadd hx hb dL_law_1576 ?_
  refine va_sld hx hb hX hbl hbA hS h2 dL_law_1577 ?_
  obtain ⟨o3, hg4, hf⟩ := jbB_e hf
  have hPr : va_P (gD g) vwCl ((wM g hm S.mv) ++ (wT g ha (S.svd.map (fun _ => hs 0), S.ep, S.fc) ++ wQ g (ha 1) S.qv ++ wQ g (ha 2) S.bv ++ wS g (ha 3) (k1.2.2) ++ wH g (ha 4) hd S.hv ++ wP g (ha 5) S.pv ++ wL g (ha 5 2) lq ++ wO g (ha 6) S.ov ++ wSv g hs S.svd ++ wOut g oa (k1.2.1) ++ wOud g ob od)) _ := wp_P (wp_of fun f => by simp only [wOut, wOud, List.countP_append, List.countP_cons, List.countP_nil] <;> omega) hP
  refine cpv_i (As := [.int (xs (i + 1).toNatClampNeg), .int (xs (i + 2).toNatClampNeg)]) (rest := []) (Wr := (wT g ha (S.svd.map (fun _ => hs 0), S.ep, S.fc) ++ wQ g (ha 1) S.qv ++ wQ g (ha 2) S.bv ++ wS g (ha 3) (k1.2.2) ++ wH g (ha 4) hd S.hv ++ wP g (ha 5) S.pv ++ wL g (ha 5 2) lq ++ wO g (ha 6) S.ov ++ wSv g hs S.svd ++ wOut g oa (k1.2.1) ++ wOud g ob od)) (Wn := (wT g ha (S.svd.map (fun _ => hs 0), S.ep, S.fc) ++ wQ g (ha 1) S.qv ++ wQ g (ha 2) S.bv ++ wS g (ha 3) (k1.2.2) ++ wH g (ha 4) hd S.hv ++ wP g (ha 5) S.pv ++ wL g (ha 5 2) lq ++ wO g (ha 6) S.ov ++ wSv g hs S.svd ++ wM g hm (o3.2) ++ wOut g oa (k1.2.1) ++ wOud g ob od)) ⟨hx, hb, hml, hown, hts⟩ (c_X11_seamSize l g hm S.mv (xs (i + 1).toNatClampNeg) (xs (i + 2).toNatClampNeg) _ hg4) (cwV 2 hts gL_law_X11_seamSize rfl rfl rfl hd_X11_seamSize ⟨(Nat.le_of_ble_eq_true rfl), (Nat.le_of_ble_eq_true rfl)⟩) hK hZ hT hA hP hD hS hl.1 (va_recv hK hPr (ci := 10) (q0 := 0) rfl rfl) (wp_of fun f => by simp only [wOut, wOud, List.countP_append, List.countP_cons, List.countP_nil] <;> omega) (wp_of fun f => by simp only [wOut, wOud, List.countP_append, List.countP_cons, List.countP_nil] <;> omega) rfl rfl (Nat.le_of_ble_eq_true rfl) ⟨show cells + 1 + 0 ≤ 603072 by omega, show slots + 6 + 0 ≤ 7190634 by omega⟩ dL_law_1578 (fun H locs hP hD hS => ?_)
  refine lv_istore (lv' := [(7, .int (o3.1)), (6, .int (k1.1)), (5, .int i), (0, .ref b), (1, .ref (ha 0 0)), (2, .ref (hm 0)), (3, .ref oa), (4, .ref ob)]) hx hb dL_law_1581 hl (by decide) rfl (fun ls hl => ?_)
  refine lv_aload_n hx hb dL_law_1583 rfl (lv_at hl 5 rfl) ?_
  obtain ⟨o5, hg6, hf⟩ := jbB_e hf
  have hPr : va_P (gD g) vwCl ((wM g hm (o3.2)) ++ (wT g ha (S.svd.map (fun _ => hs 0), S.ep, S.fc) ++ wQ g (ha 1) S.qv ++ wQ g (ha 2) S.bv ++ wS g (ha 3) (k1.2.2) ++ wH g (ha 4) hd S.hv ++ wP g (ha 5) S.pv ++ wL g (ha 5 2) lq ++ wO g (ha 6) S.ov ++ wSv g hs S.svd ++ wOut g oa (k1.2.1) ++ wOud g ob od)) _ := wp_P (wp_of fun f => by simp only [wOut, wOud, List.countP_append, List.countP_cons, List.countP_nil] <;> omega) hP
  refine cpv_i (As := []) (rest := []) (Wr := (wT g ha (S.svd.map (fun _ => hs 0), S.ep, S.fc) ++ wQ g (ha 1) S.qv ++ wQ g (ha 2) S.bv ++ wS g (ha 3) (k1.2.2) ++ wH g (ha 4) hd S.hv ++ wP g (ha 5) S.pv ++ wL g (ha 5 2) lq ++ wO g (ha 6) S.ov ++ wSv g hs S.svd ++ wOut g oa (k1.2.1) ++ wOud g ob od)) (Wn := (wT g ha (S.svd.map (fun _ => hs 0), S.ep, S.fc) ++ wQ g (ha 1) S.qv ++ wQ g (ha 2) S.bv ++ wS g (ha 3) (k1.2.2) ++ wH g (ha 4) hd S.hv ++ wP g (ha 5) S.pv ++ wL g (ha 5 2) lq ++ wO g (ha 6) S.ov ++ wSv g hs S.svd ++ wM g hm (o3.2) ++ wOut g oa (k1.2.1) ++ wOud g ob od)) ⟨hx, hb, hml, hown, hts⟩ (c_X11_thrown l g hm (o3.2)  _ hg6) (cwV 0 hts gL_law_X11_thrown rfl rfl rfl hd_X11_thrown ⟨(Nat.le_of_ble_eq_true rfl), (Nat.le_of_ble_eq_true rfl)⟩) hK hZ hT hA hP hD hS hl.1 (va_recv hK hPr (ci := 10) (q0 := 0) rfl rfl) (wp_of fun f => by simp only [wOut, wOud, List.countP_append, List.countP_cons, List.countP_nil] <;> omega) (wp_of fun f => by simp only [wOut, wOud, List.countP_append, List.countP_cons, List.countP_nil] <;> omega) rfl rfl (Nat.le_of_ble_eq_true rfl) ⟨show cells + 1 + 0 ≤ 603072 by omega, show slots + 6 + 0 ≤ 7190634 by omega⟩ dL_law_1584 (fun H locs hP hD hS => ?_)
  refine lv_iload hx hb dL_law_1587 (lv_at hl 1 rfl) ?_
  refine lv_icmp_eq (tgt := 1594) hx hb dL_law_1589 (by decide) (fun hc => ?_) (fun hc => ?_)
  · have hf := jbT hf hc
    refine lv_iload hx hb dL_law_1594 (lv_at hl 1 rfl) ?_
    refine lv_if_ne (tgt := 1611) hx hb dL_law_1596 (by decide) (fun hc2 => ?_) (fun hc2 => ?_)
    · have hf := jbF hf hc2
      cases hf
      refine lv_goto (tgt := 2560) hx hb dL_law_1611 (by decide) ?_
      refine W.widen (k := cells + 60) (n := slots + 700) (by omega) (by omega) ?_
      exact kk hd hs lq _ _ _ hok hP hD hS (lv_sub hl [2, 3, 4, 5, 6, 7] rfl)
    · have hf := jbT hf hc2
      refine lv_aload_n hx hb dL_law_1599 rfl (lv_at hl 6 rfl) ?_
      refine lv_iconst (v := 0) hx hb dL_law_1600 (by decide) ?_
      have hP9 : va_P (gD g) vwCl ((wOut g oa (k1.2.1)) ++ (wT g ha (S.svd.map (fun _ => hs 0), S.ep, S.fc) ++ wQ g (ha 1) S.qv ++ wQ g (ha 2) S.bv ++ wS g (ha 3) (k1.2.2) ++ wH g (ha 4) hd S.hv ++ wP g (ha 5) S.pv ++ wL g (ha 5 2) lq ++ wO g (ha 6) S.ov ++ wSv g hs S.svd ++ wM g hm (o3.2) ++ wOud g ob od)) _ := wp_P (wp_of fun f => by simp only [wOut, wOud, List.countP_append, List.countP_cons, List.countP_nil] <;> omega) hP
      refine va_lald hx hb hK hP9 0 3 rfl rfl (i := 0) vp_in01 dL_law_1601 ?_
      refine lv_iload hx hb dL_law_1602 (lv_at hl 0 rfl) ?_
      obtain ⟨he, hf⟩ := jbA_e hf
      cases hf
      refine lv_i2l (v := (o3.1).toInt64) hx hb dL_law_1604 rfl ?_
      refine W.lcmp hx hb dL_law_1605 ?_
      refine lv_if_eq (tgt := 1611) hx hb dL_law_1606 (by decide) (fun hc => ?_) (fun hc => absurd (by rw [he]; exact lg_cmp_self _) hc)
      refine lv_goto (tgt := 2560) hx hb dL_law_1611 (by decide) ?_
      refine W.widen (k := cells + 60) (n := slots + 700) (by omega) (by omega) ?_
      exact kk hd hs lq _ _ _ hok hP hD hS (lv_sub hl [2, 3, 4, 5, 6, 7] rfl)
  · have hf := jbF hf hc
    cases hf
set_option maxHeartbeats 4000000 in
set_option maxRecDepth 100000 in
theorem lwc_20 {p : Program} {e : Env} {s : State} {mi : MethodId} {args : Array Value} {below : List Frame} {meth : Method} {c : Code} {g : GG} {A : Nat → Prop} {b L : Nat} {xs : Nat → Int32} {Q : State → Prop} (l : Launch) (hlt : l.stackTraces = false) (C0 : LwB p s mi args c g A b L xs)
    (ha hd : Nat → Nat → Nat) (hs hm : Nat → Nat) (lq : ListS) (oa ob : Nat) (S : Sys) (ol : Nat → Int64) (od : Nat → UInt64) (hok : lsOK lq) (i : Int32) (h1 : vp_in (i + 1) L) (h2 : vp_in (i + 2) L) (h3 : vp_in (i + 3) L) (h4 : vp_in (i + 4) L) (r : LR)
    (hf : lawOp_20 S (xs (i + 1).toNatClampNeg) (xs (i + 2).toNatClampNeg) (xs (i + 3).toNatClampNeg) (xs (i + 4).toNatClampNeg) ol od = some r) {H : Heap} {locs : List Loc} {ls : Array Slot} {cells slots : Nat} (hc9 : cells + 60 ≤ 603072) (hs9 : slots + 700 ≤ 7190634)
    (hP : va_P (gD g) vwCl (wSys g ha hd hs hm lq oa ob S ol od) H) (hD : va_D A (wSys g ha hd hs hm lq oa ob S ol od)) (hS : va_S A s.heap H locs) (hl : lv_has ls 10 [(5, .int i), (0, .ref b), (1, .ref (ha 0 0)), (2, .ref (hm 0)), (3, .ref oa), (4, .ref ob)])
    (kk : ∀ (hd : Nat → Nat → Nat) (hs : Nat → Nat) (lq : ListS) (H : Heap) (locs : List Loc) (ls : Array Slot), lsOK lq → va_P (gD g) vwCl (wSys g ha hd hs hm lq oa ob r.1 r.2.1 r.2.2) H → va_D A (wSys g ha hd hs hm lq oa ob r.1 r.2.1 r.2.2) → va_S A s.heap H locs → lv_has ls 10 [(5, .int i), (0, .ref b), (1, .ref (ha 0 0)), (2, .ref (hm 0)), (3, .ref oa), (4, .ref ob)] → W p l e room_1 s mi args below meth c H locs (cells + 60) (slots + 700) Q (F0 mi 2560 ls [])) :
    W p l e room_1 s mi args below meth c H locs cells slots Q (F0 mi 1614 ls []) := by
  obtain ⟨hx, hb, hml, hown, hts, hK, hZ, hT, hA, hX, hbl, hbA⟩ := C0
  have hP : va_P (gD g) vwCl (wT g ha (S.svd.map (fun _ => hs 0), S.ep, S.fc) ++ wQ g (ha 1) S.qv ++ wQ g (ha 2) S.bv ++ wS g (ha 3) S.sv ++ wH g (ha 4) hd S.hv ++ wP g (ha 5) S.pv ++ wL g (ha 5 2) lq ++ wO g (ha 6) S.ov ++ wSv g hs S.svd ++ wM g hm S.mv ++ wOut g oa ol ++ wOud g ob od) H := hP
  have hD : va_D A (wT g ha (S.svd.map (fun _ => hs 0), S.ep, S.fc) ++ wQ g (ha 1) S.qv ++ wQ g (ha 2) S.bv ++ wS g (ha 3) S.sv ++ wH g (ha 4) hd S.hv ++ wP g (ha 5) S.pv ++ wL g (ha 5 2) lq ++ wO g (ha 6) S.ov ++ wSv g hs S.svd ++ wM g hm S.mv ++ wOut g oa ol ++ wOud g ob od) := hD
  unfold lawOp_20 at hf
  refine lv_aload_n hx hb dL_law_1614 rfl (lv_at hl 2 rfl) ?_
  refine lv_aload_n hx hb dL_law_1615 rfl (lv_at hl 1 rfl) ?_
  refine lv_iload hx hb dL_law_1616 (lv_at hl 0 rfl) ?_
  refine lv_iconst (v := 1) hx hb dL_law_1618 (by decide) ?_
  refine lv_iadd hx hb dL_law_1619 ?_
  refine va_sld hx hb hX hbl hbA hS h1 dL_law_1620 ?_
  refine lv_aload_n hx hb dL_law_1621 rfl (lv_at hl 1 rfl) ?_
  refine lv_iload hx hb dL_law_1622 (lv_at hl 0 rfl) ?_
  refine lv_iconst (v := 2) hx hb dL_law_1624 (by decide) ?_
  refine lv_iadd hx hb dL_law_1625 ?_
  refine va_sld hx hb hX hbl hbA hS h2 dL_law_1626 ?_
  refine lv_aload_n hx hb dL_law_1627 rfl (lv_at hl 4 rfl) ?_
  obtain ⟨k1, hg2, hf⟩ := jbB_e hf
  refine cws_i (As := [.ref (ha 0 0), .int (xs (i + 1).toNatClampNeg), .int (xs (i + 2).toNatClampNeg), .ref oa]) (rest := []) (Wr := (wQ g (ha 2) S.bv ++ wH g (ha 4) hd S.hv ++ wP g (ha 5) S.pv ++ wL g (ha 5 2) lq ++ wO g (ha 6) S.ov ++ wSv g hs S.svd ++ wM g hm S.mv ++ wOud g ob od)) (Wn := (wT g ha (S.svd.map (fun _ => hs 0), S.ep, S.fc) ++ wQ g (ha 1) S.qv ++ wQ g (ha 2) S.bv ++ wS g (ha 3) (k1.2.2) ++ wH g (ha 4) hd S.hv ++ wP g (ha 5) S.pv ++ wL g (ha 5 2) lq ++ wO g (ha 6) S.ov ++ wSv g hs S.svd ++ wM g hm S.mv ++ wOut g oa (k1.2.1) ++ wOud g ob od)) ⟨hx, hb, hml, hown, hts⟩ (c_L_seamVolume l hlt g ha (S.svd.map (fun _ => hs 0), S.ep, S.fc) S.qv S.sv (xs (i + 1).toNatClampNeg) (xs (i + 2).toNatClampNeg) oa ol _ hg2) (vx_cwSW 4 hts gL_law_L_seamVolume rfl rfl rfl hd_L_seamVolume.2 ⟨(Nat.le_of_ble_eq_true rfl), (Nat.le_of_ble_eq_true rfl)⟩) hK hZ hT hA hP hD hS hl.1 (wp_of fun f => by simp only [wOut, wOud, List.countP_append, List.countP_cons, List.countP_nil] <;> omega) (wp_of fun f => by simp only [wOut, wOud, List.countP_append, List.countP_cons, List.countP_nil] <;> omega) rfl rfl (Nat.le_of_ble_eq_true rfl) ⟨show cells + 1 ≤ 603072 by omega, show slots + 6 ≤ 7190634 by omega⟩ dL_law_1628 (fun H locs hP hD hS => ?_)
  refine lv_istore (lv' := [(6, .int (k1.1)), (5, .int i), (0, .ref b), (1, .ref (ha 0 0)), (2, .ref (hm 0)), (3, .ref oa), (4, .ref ob)]) hx hb dL_law_1631 hl (by decide) rfl (fun ls hl => ?_)
  refine lv_aload_n hx hb dL_law_1633 rfl (lv_at hl 4 rfl) ?_
  refine lv_aload_n hx hb dL_law_1634 rfl (lv_at hl 2 rfl) ?_
  refine lv_iload hx hb dL_law_1635 (lv_at hl 1 rfl) ?_
  refine lv_iconst (v := 1) hx hb dL_law_1637 (by decide) ?_
  refine lv_iadd hx hb dL_law_1638 ?_
  refine va_sld hx hb hX hbl hbA hS h1 dL_law_1639 ?_
  refine lv_aload_n hx hb dL_law_1640 rfl (lv_at hl 2 rfl) ?_
  refine lv_iload hx hb dL_law_1641 (lv_at hl 1 rfl) ?_
  refine lv_iconst (v := 2) hx hb dL_law_1643 (by decide) ?_
  refine lv_iadd hx hb dL_law_1644 ?_
  refine va_sld hx hb hX hbl hbA hS h2 dL_law_1645 ?_
  obtain ⟨o3, hg4, hf⟩ := jbB_e hf
  have hPr : va_P (gD g) vwCl ((wM g hm S.mv) ++ (wT g ha (S.svd.map (fun _ => hs 0), S.ep, S.fc) ++ wQ g (ha 1) S.qv ++ wQ g (ha 2) S.bv ++ wS g (ha 3) (k1.2.2) ++ wH g (ha 4) hd S.hv ++ wP g (ha 5) S.pv ++ wL g (ha 5 2) lq ++ wO g (ha 6) S.ov ++ wSv g hs S.svd ++ wOut g oa (k1.2.1) ++ wOud g ob od)) _ := wp_P (wp_of fun f => by simp only [wOut, wOud, List.countP_append, List.countP_cons, List.countP_nil] <;> omega) hP
  refine cpv_i (As := [.int (xs (i + 1).toNatClampNeg), .int (xs (i + 2).toNatClampNeg)]) (rest := []) (Wr := (wT g ha (S.svd.map (fun _ => hs 0), S.ep, S.fc) ++ wQ g (ha 1) S.qv ++ wQ g (ha 2) S.bv ++ wS g (ha 3) (k1.2.2) ++ wH g (ha 4) hd S.hv ++ wP g (ha 5) S.pv ++ wL g (ha 5 2) lq ++ wO g (ha 6) S.ov ++ wSv g hs S.svd ++ wOut g oa (k1.2.1) ++ wOud g ob od)) (Wn := (wT g ha (S.svd.map (fun _ => hs 0), S.ep, S.fc) ++ wQ g (ha 1) S.qv ++ wQ g (ha 2) S.bv ++ wS g (ha 3) (k1.2.2) ++ wH g (ha 4) hd S.hv ++ wP g (ha 5) S.pv ++ wL g (ha 5 2) lq ++ wO g (ha 6) S.ov ++ wSv g hs S.svd ++ wM g hm (o3.2) ++ wOut g oa (k1.2.1) ++ wOud g ob od)) ⟨hx, hb, hml, hown, hts⟩ (c_X11_seamVolume l g hm S.mv (xs (i + 1).toNatClampNeg) (xs (i + 2).toNatClampNeg) _ hg4) (cwV 2 hts gL_law_X11_seamVolume rfl rfl rfl hd_X11_seamVolume ⟨(Nat.le_of_ble_eq_true rfl), (Nat.le_of_ble_eq_true rfl)⟩) hK hZ hT hA hP hD hS hl.1 (va_recv hK hPr (ci := 10) (q0 := 0) rfl rfl) (wp_of fun f => by simp only [wOut, wOud, List.countP_append, List.countP_cons, List.countP_nil] <;> omega) (wp_of fun f => by simp only [wOut, wOud, List.countP_append, List.countP_cons, List.countP_nil] <;> omega) rfl rfl (Nat.le_of_ble_eq_true rfl) ⟨show cells + 1 + 0 ≤ 603072 by omega, show slots + 6 + 0 ≤ 7190634 by omega⟩ dL_law_1646 (fun H locs hP hD hS => ?_)
  refine lv_istore (lv' := [(7, .int (o3.1)), (6, .int (k1.1)), (5, .int i), (0, .ref b), (1, .ref (ha 0 0)), (2, .ref (hm 0)), (3, .ref oa), (4, .ref ob)]) hx hb dL_law_1649 hl (by decide) rfl (fun ls hl => ?_)
  refine lv_aload_n hx hb dL_law_1651 rfl (lv_at hl 5 rfl) ?_
  obtain ⟨o5, hg6, hf⟩ := jbB_e hf
  have hPr : va_P (gD g) vwCl ((wM g hm (o3.2)) ++ (wT g ha (S.svd.map (fun _ => hs 0), S.ep, S.fc) ++ wQ g (ha 1) S.qv ++ wQ g (ha 2) S.bv ++ wS g (ha 3) (k1.2.2) ++ wH g (ha 4) hd S.hv ++ wP g (ha 5) S.pv ++ wL g (ha 5 2) lq ++ wO g (ha 6) S.ov ++ wSv g hs S.svd ++ wOut g oa (k1.2.1) ++ wOud g ob od)) _ := wp_P (wp_of fun f => by simp only [wOut, wOud, List.countP_append, List.countP_cons, List.countP_nil] <;> omega) hP
  refine cpv_i (As := []) (rest := []) (Wr := (wT g ha (S.svd.map (fun _ => hs 0), S.ep, S.fc) ++ wQ g (ha 1) S.qv ++ wQ g (ha 2) S.bv ++ wS g (ha 3) (k1.2.2) ++ wH g (ha 4) hd S.hv ++ wP g (ha 5) S.pv ++ wL g (ha 5 2) lq ++ wO g (ha 6) S.ov ++ wSv g hs S.svd ++ wOut g oa (k1.2.1) ++ wOud g ob od)) (Wn := (wT g ha (S.svd.map (fun _ => hs 0), S.ep, S.fc) ++ wQ g (ha 1) S.qv ++ wQ g (ha 2) S.bv ++ wS g (ha 3) (k1.2.2) ++ wH g (ha 4) hd S.hv ++ wP g (ha 5) S.pv ++ wL g (ha 5 2) lq ++ wO g (ha 6) S.ov ++ wSv g hs S.svd ++ wM g hm (o3.2) ++ wOut g oa (k1.2.1) ++ wOud g ob od)) ⟨hx, hb, hml, hown, hts⟩ (c_X11_thrown l g hm (o3.2)  _ hg6) (cwV 0 hts gL_law_X11_thrown rfl rfl rfl hd_X11_thrown ⟨(Nat.le_of_ble_eq_true rfl), (Nat.le_of_ble_eq_true rfl)⟩) hK hZ hT hA hP hD hS hl.1 (va_recv hK hPr (ci := 10) (q0 := 0) rfl rfl) (wp_of fun f => by simp only [wOut, wOud, List.countP_append, List.countP_cons, List.countP_nil] <;> omega) (wp_of fun f => by simp only [wOut, wOud, List.countP_append, List.countP_cons, List.countP_nil] <;> omega) rfl rfl (Nat.le_of_ble_eq_true rfl) ⟨show cells + 1 + 0 ≤ 603072 by omega, show slots + 6 + 0 ≤ 7190634 by omega⟩ dL_law_1652 (fun H locs hP hD hS => ?_)
  refine lv_iload hx hb dL_law_1655 (lv_at hl 1 rfl) ?_
  refine lv_icmp_eq (tgt := 1662) hx hb dL_law_1657 (by decide) (fun hc => ?_) (fun hc => ?_)
  · have hf := jbT hf hc
    refine lv_iload hx hb dL_law_1662 (lv_at hl 1 rfl) ?_
    refine lv_if_ne (tgt := 1679) hx hb dL_law_1664 (by decide) (fun hc2 => ?_) (fun hc2 => ?_)
    · have hf := jbF hf hc2
      cases hf
      refine lv_goto (tgt := 2560) hx hb dL_law_1679 (by decide) ?_
      refine W.widen (k := cells + 60) (n := slots + 700) (by omega) (by omega) ?_
      exact kk hd hs lq _ _ _ hok hP hD hS (lv_sub hl [2, 3, 4, 5, 6, 7] rfl)
    · have hf := jbT hf hc2
      refine lv_aload_n hx hb dL_law_1667 rfl (lv_at hl 6 rfl) ?_
      refine lv_iconst (v := 0) hx hb dL_law_1668 (by decide) ?_
      have hP9 : va_P (gD g) vwCl ((wOut g oa (k1.2.1)) ++ (wT g ha (S.svd.map (fun _ => hs 0), S.ep, S.fc) ++ wQ g (ha 1) S.qv ++ wQ g (ha 2) S.bv ++ wS g (ha 3) (k1.2.2) ++ wH g (ha 4) hd S.hv ++ wP g (ha 5) S.pv ++ wL g (ha 5 2) lq ++ wO g (ha 6) S.ov ++ wSv g hs S.svd ++ wM g hm (o3.2) ++ wOud g ob od)) _ := wp_P (wp_of fun f => by simp only [wOut, wOud, List.countP_append, List.countP_cons, List.countP_nil] <;> omega) hP
      refine va_lald hx hb hK hP9 0 3 rfl rfl (i := 0) vp_in01 dL_law_1669 ?_
      refine lv_iload hx hb dL_law_1670 (lv_at hl 0 rfl) ?_
      obtain ⟨he, hf⟩ := jbA_e hf
      cases hf
      refine lv_i2l (v := (o3.1).toInt64) hx hb dL_law_1672 rfl ?_
      refine W.lcmp hx hb dL_law_1673 ?_
      refine lv_if_eq (tgt := 1679) hx hb dL_law_1674 (by decide) (fun hc => ?_) (fun hc => absurd (by rw [he]; exact lg_cmp_self _) hc)
      refine lv_goto (tgt := 2560) hx hb dL_law_1679 (by decide) ?_
      refine W.widen (k := cells + 60) (n := slots + 700) (by omega) (by omega) ?_
      exact kk hd hs lq _ _ _ hok hP hD hS (lv_sub hl [2, 3, 4, 5, 6, 7] rfl)
  · have hf := jbF hf hc
    cases hf
set_option maxHeartbeats 4000000 in
set_option maxRecDepth 100000 in
theorem lwc_21 {p : Program} {e : Env} {s : State} {mi : MethodId} {args : Array Value} {below : List Frame} {meth : Method} {c : Code} {g : GG} {A : Nat → Prop} {b L : Nat} {xs : Nat → Int32} {Q : State → Prop} (l : Launch) (hlt : l.stackTraces = false) (C0 : LwB p s mi args c g A b L xs)
    (ha hd : Nat → Nat → Nat) (hs hm : Nat → Nat) (lq : ListS) (oa ob : Nat) (S : Sys) (ol : Nat → Int64) (od : Nat → UInt64) (hok : lsOK lq) (i : Int32) (h1 : vp_in (i + 1) L) (h2 : vp_in (i + 2) L) (h3 : vp_in (i + 3) L) (h4 : vp_in (i + 4) L) (r : LR)
    (hf : lawOp_21 S (xs (i + 1).toNatClampNeg) (xs (i + 2).toNatClampNeg) (xs (i + 3).toNatClampNeg) (xs (i + 4).toNatClampNeg) ol od = some r) {H : Heap} {locs : List Loc} {ls : Array Slot} {cells slots : Nat} (hc9 : cells + 60 ≤ 603072) (hs9 : slots + 700 ≤ 7190634)
    (hP : va_P (gD g) vwCl (wSys g ha hd hs hm lq oa ob S ol od) H) (hD : va_D A (wSys g ha hd hs hm lq oa ob S ol od)) (hS : va_S A s.heap H locs) (hl : lv_has ls 10 [(5, .int i), (0, .ref b), (1, .ref (ha 0 0)), (2, .ref (hm 0)), (3, .ref oa), (4, .ref ob)])
    (kk : ∀ (hd : Nat → Nat → Nat) (hs : Nat → Nat) (lq : ListS) (H : Heap) (locs : List Loc) (ls : Array Slot), lsOK lq → va_P (gD g) vwCl (wSys g ha hd hs hm lq oa ob r.1 r.2.1 r.2.2) H → va_D A (wSys g ha hd hs hm lq oa ob r.1 r.2.1 r.2.2) → va_S A s.heap H locs → lv_has ls 10 [(5, .int i), (0, .ref b), (1, .ref (ha 0 0)), (2, .ref (hm 0)), (3, .ref oa), (4, .ref ob)] → W p l e room_1 s mi args below meth c H locs (cells + 60) (slots + 700) Q (F0 mi 2560 ls [])) :
    W p l e room_1 s mi args below meth c H locs cells slots Q (F0 mi 1682 ls []) := by
  obtain ⟨hx, hb, hml, hown, hts, hK, hZ, hT, hA, hX, hbl, hbA⟩ := C0
  have hP : va_P (gD g) vwCl (wT g ha (S.svd.map (fun _ => hs 0), S.ep, S.fc) ++ wQ g (ha 1) S.qv ++ wQ g (ha 2) S.bv ++ wS g (ha 3) S.sv ++ wH g (ha 4) hd S.hv ++ wP g (ha 5) S.pv ++ wL g (ha 5 2) lq ++ wO g (ha 6) S.ov ++ wSv g hs S.svd ++ wM g hm S.mv ++ wOut g oa ol ++ wOud g ob od) H := hP
  have hD : va_D A (wT g ha (S.svd.map (fun _ => hs 0), S.ep, S.fc) ++ wQ g (ha 1) S.qv ++ wQ g (ha 2) S.bv ++ wS g (ha 3) S.sv ++ wH g (ha 4) hd S.hv ++ wP g (ha 5) S.pv ++ wL g (ha 5 2) lq ++ wO g (ha 6) S.ov ++ wSv g hs S.svd ++ wM g hm S.mv ++ wOut g oa ol ++ wOud g ob od) := hD
  unfold lawOp_21 at hf
  refine lv_aload_n hx hb dL_law_1682 rfl (lv_at hl 2 rfl) ?_
  obtain ⟨o2, hg3, hf⟩ := jbB_e hf
  have hPr : va_P (gD g) vwCl ((wT g ha (S.svd.map (fun _ => hs 0), S.ep, S.fc) ++ wQ g (ha 1) S.qv ++ wS g (ha 3) S.sv) ++ (wQ g (ha 2) S.bv ++ wH g (ha 4) hd S.hv ++ wP g (ha 5) S.pv ++ wL g (ha 5 2) lq ++ wO g (ha 6) S.ov ++ wSv g hs S.svd ++ wM g hm S.mv ++ wOut g oa ol ++ wOud g ob od)) _ := wp_P (wp_of fun f => by simp only [wOut, wOud, List.countP_append, List.countP_cons, List.countP_nil] <;> omega) hP
  refine cpv_i (As := []) (rest := []) (Wr := (wQ g (ha 2) S.bv ++ wH g (ha 4) hd S.hv ++ wP g (ha 5) S.pv ++ wL g (ha 5 2) lq ++ wO g (ha 6) S.ov ++ wSv g hs S.svd ++ wM g hm S.mv ++ wOut g oa ol ++ wOud g ob od)) (Wn := (wT g ha (S.svd.map (fun _ => hs 0), S.ep, S.fc) ++ wQ g (ha 1) S.qv ++ wQ g (ha 2) S.bv ++ wS g (ha 3) (o2.2) ++ wH g (ha 4) hd S.hv ++ wP g (ha 5) S.pv ++ wL g (ha 5 2) lq ++ wO g (ha 6) S.ov ++ wSv g hs S.svd ++ wM g hm S.mv ++ wOut g oa ol ++ wOud g ob od)) ⟨hx, hb, hml, hown, hts⟩ (c_X10_seamCount l hlt g ha (S.svd.map (fun _ => hs 0), S.ep, S.fc) S.qv S.sv _ hg3) (cwV 0 hts gL_law_X10_seamCount rfl rfl rfl hd_X10_seamCount ⟨(Nat.le_of_ble_eq_true rfl), (Nat.le_of_ble_eq_true rfl)⟩) hK hZ hT hA hP hD hS hl.1 (va_recv hK hPr (ci := 9) (q0 := 0) rfl rfl) (wp_of fun f => by simp only [wOut, wOud, List.countP_append, List.countP_cons, List.countP_nil] <;> omega) (wp_of fun f => by simp only [wOut, wOud, List.countP_append, List.countP_cons, List.countP_nil] <;> omega) rfl rfl (Nat.le_of_ble_eq_true rfl) ⟨show cells + 0 ≤ 603072 by omega, show slots + 0 ≤ 7190634 by omega⟩ dL_law_1683 (fun H locs hP hD hS => ?_)
  refine lv_aload_n hx hb dL_law_1686 rfl (lv_at hl 3 rfl) ?_
  obtain ⟨o4, hg5, hf⟩ := jbB_e hf
  have hPr : va_P (gD g) vwCl ((wM g hm S.mv) ++ (wT g ha (S.svd.map (fun _ => hs 0), S.ep, S.fc) ++ wQ g (ha 1) S.qv ++ wQ g (ha 2) S.bv ++ wS g (ha 3) (o2.2) ++ wH g (ha 4) hd S.hv ++ wP g (ha 5) S.pv ++ wL g (ha 5 2) lq ++ wO g (ha 6) S.ov ++ wSv g hs S.svd ++ wOut g oa ol ++ wOud g ob od)) _ := wp_P (wp_of fun f => by simp only [wOut, wOud, List.countP_append, List.countP_cons, List.countP_nil] <;> omega) hP
  refine cpv_i (As := []) (rest := [.int (o2.1)]) (Wr := (wT g ha (S.svd.map (fun _ => hs 0), S.ep, S.fc) ++ wQ g (ha 1) S.qv ++ wQ g (ha 2) S.bv ++ wS g (ha 3) (o2.2) ++ wH g (ha 4) hd S.hv ++ wP g (ha 5) S.pv ++ wL g (ha 5 2) lq ++ wO g (ha 6) S.ov ++ wSv g hs S.svd ++ wOut g oa ol ++ wOud g ob od)) (Wn := (wT g ha (S.svd.map (fun _ => hs 0), S.ep, S.fc) ++ wQ g (ha 1) S.qv ++ wQ g (ha 2) S.bv ++ wS g (ha 3) (o2.2) ++ wH g (ha 4) hd S.hv ++ wP g (ha 5) S.pv ++ wL g (ha 5 2) lq ++ wO g (ha 6) S.ov ++ wSv g hs S.svd ++ wM g hm (o4.2) ++ wOut g oa ol ++ wOud g ob od)) ⟨hx, hb, hml, hown, hts⟩ (c_X11_seamCount l g hm S.mv  _ hg5) (cwV 0 hts gL_law_X11_seamCount rfl rfl rfl hd_X11_seamCount ⟨(Nat.le_of_ble_eq_true rfl), (Nat.le_of_ble_eq_true rfl)⟩) hK hZ hT hA hP hD hS hl.1 (va_recv hK hPr (ci := 10) (q0 := 0) rfl rfl) (wp_of fun f => by simp only [wOut, wOud, List.countP_append, List.countP_cons, List.countP_nil] <;> omega) (wp_of fun f => by simp only [wOut, wOud, List.countP_append, List.countP_cons, List.countP_nil] <;> omega) rfl rfl (Nat.le_of_ble_eq_true rfl) ⟨show cells + 0 ≤ 603072 by omega, show slots + 0 ≤ 7190634 by omega⟩ dL_law_1687 (fun H locs hP hD hS => ?_)
  refine lv_icmp_eq (tgt := 2560) hx hb dL_law_1690 (by decide) (fun hc => ?_) (fun hc => ?_)
  · have hf := jbT hf hc
    cases hf
    refine W.widen (k := cells + 60) (n := slots + 700) (by omega) (by omega) ?_
    exact kk hd hs lq _ _ _ hok hP hD hS (lv_sub hl [0, 1, 2, 3, 4, 5] rfl)
  · have hf := jbF hf hc
    cases hf
set_option maxHeartbeats 4000000 in
set_option maxRecDepth 100000 in
theorem lwc_22 {p : Program} {e : Env} {s : State} {mi : MethodId} {args : Array Value} {below : List Frame} {meth : Method} {c : Code} {g : GG} {A : Nat → Prop} {b L : Nat} {xs : Nat → Int32} {Q : State → Prop} (l : Launch) (hlt : l.stackTraces = false) (C0 : LwB p s mi args c g A b L xs)
    (ha hd : Nat → Nat → Nat) (hs hm : Nat → Nat) (lq : ListS) (oa ob : Nat) (S : Sys) (ol : Nat → Int64) (od : Nat → UInt64) (hok : lsOK lq) (i : Int32) (h1 : vp_in (i + 1) L) (h2 : vp_in (i + 2) L) (h3 : vp_in (i + 3) L) (h4 : vp_in (i + 4) L) (r : LR)
    (hf : lawOp_22 S (xs (i + 1).toNatClampNeg) (xs (i + 2).toNatClampNeg) (xs (i + 3).toNatClampNeg) (xs (i + 4).toNatClampNeg) ol od = some r) {H : Heap} {locs : List Loc} {ls : Array Slot} {cells slots : Nat} (hc9 : cells + 60 ≤ 603072) (hs9 : slots + 700 ≤ 7190634)
    (hP : va_P (gD g) vwCl (wSys g ha hd hs hm lq oa ob S ol od) H) (hD : va_D A (wSys g ha hd hs hm lq oa ob S ol od)) (hS : va_S A s.heap H locs) (hl : lv_has ls 10 [(5, .int i), (0, .ref b), (1, .ref (ha 0 0)), (2, .ref (hm 0)), (3, .ref oa), (4, .ref ob)])
    (kk : ∀ (hd : Nat → Nat → Nat) (hs : Nat → Nat) (lq : ListS) (H : Heap) (locs : List Loc) (ls : Array Slot), lsOK lq → va_P (gD g) vwCl (wSys g ha hd hs hm lq oa ob r.1 r.2.1 r.2.2) H → va_D A (wSys g ha hd hs hm lq oa ob r.1 r.2.1 r.2.2) → va_S A s.heap H locs → lv_has ls 10 [(5, .int i), (0, .ref b), (1, .ref (ha 0 0)), (2, .ref (hm 0)), (3, .ref oa), (4, .ref ob)] → W p l e room_1 s mi args below meth c H locs (cells + 60) (slots + 700) Q (F0 mi 2560 ls [])) :
    W p l e room_1 s mi args below meth c H locs cells slots Q (F0 mi 1695 ls []) := by
  obtain ⟨hx, hb, hml, hown, hts, hK, hZ, hT, hA, hX, hbl, hbA⟩ := C0
  have hP : va_P (gD g) vwCl (wT g ha (S.svd.map (fun _ => hs 0), S.ep, S.fc) ++ wQ g (ha 1) S.qv ++ wQ g (ha 2) S.bv ++ wS g (ha 3) S.sv ++ wH g (ha 4) hd S.hv ++ wP g (ha 5) S.pv ++ wL g (ha 5 2) lq ++ wO g (ha 6) S.ov ++ wSv g hs S.svd ++ wM g hm S.mv ++ wOut g oa ol ++ wOud g ob od) H := hP
  have hD : va_D A (wT g ha (S.svd.map (fun _ => hs 0), S.ep, S.fc) ++ wQ g (ha 1) S.qv ++ wQ g (ha 2) S.bv ++ wS g (ha 3) S.sv ++ wH g (ha 4) hd S.hv ++ wP g (ha 5) S.pv ++ wL g (ha 5 2) lq ++ wO g (ha 6) S.ov ++ wSv g hs S.svd ++ wM g hm S.mv ++ wOut g oa ol ++ wOud g ob od) := hD
  unfold lawOp_22 at hf
  refine lv_aload_n hx hb dL_law_1695 rfl (lv_at hl 2 rfl) ?_
  obtain ⟨o2, hg3, hf⟩ := jbB_e hf
  have hPr : va_P (gD g) vwCl ((wT g ha (S.svd.map (fun _ => hs 0), S.ep, S.fc) ++ wQ g (ha 1) S.qv ++ wS g (ha 3) S.sv) ++ (wQ g (ha 2) S.bv ++ wH g (ha 4) hd S.hv ++ wP g (ha 5) S.pv ++ wL g (ha 5 2) lq ++ wO g (ha 6) S.ov ++ wSv g hs S.svd ++ wM g hm S.mv ++ wOut g oa ol ++ wOud g ob od)) _ := wp_P (wp_of fun f => by simp only [wOut, wOud, List.countP_append, List.countP_cons, List.countP_nil] <;> omega) hP
  refine cpv_i (As := []) (rest := []) (Wr := (wQ g (ha 2) S.bv ++ wH g (ha 4) hd S.hv ++ wP g (ha 5) S.pv ++ wL g (ha 5 2) lq ++ wO g (ha 6) S.ov ++ wSv g hs S.svd ++ wM g hm S.mv ++ wOut g oa ol ++ wOud g ob od)) (Wn := (wT g ha (S.svd.map (fun _ => hs 0), S.ep, S.fc) ++ wQ g (ha 1) S.qv ++ wQ g (ha 2) S.bv ++ wS g (ha 3) (o2.2) ++ wH g (ha 4) hd S.hv ++ wP g (ha 5) S.pv ++ wL g (ha 5 2) lq ++ wO g (ha 6) S.ov ++ wSv g hs S.svd ++ wM g hm S.mv ++ wOut g oa ol ++ wOud g ob od)) ⟨hx, hb, hml, hown, hts⟩ (c_X10_seamCountByMerging l hlt g ha (S.svd.map (fun _ => hs 0), S.ep, S.fc) S.qv S.sv _ hg3) (cwV 0 hts gL_law_X10_seamCountByMerging rfl rfl rfl hd_X10_seamCountByMerging ⟨(Nat.le_of_ble_eq_true rfl), (Nat.le_of_ble_eq_true rfl)⟩) hK hZ hT hA hP hD hS hl.1 (va_recv hK hPr (ci := 9) (q0 := 0) rfl rfl) (wp_of fun f => by simp only [wOut, wOud, List.countP_append, List.countP_cons, List.countP_nil] <;> omega) (wp_of fun f => by simp only [wOut, wOud, List.countP_append, List.countP_cons, List.countP_nil] <;> omega) rfl rfl (Nat.le_of_ble_eq_true rfl) ⟨show cells + 0 ≤ 603072 by omega, show slots + 0 ≤ 7190634 by omega⟩ dL_law_1696 (fun H locs hP hD hS => ?_)
  refine lv_aload_n hx hb dL_law_1699 rfl (lv_at hl 3 rfl) ?_
  obtain ⟨o4, hg5, hf⟩ := jbB_e hf
  have hPr : va_P (gD g) vwCl ((wM g hm S.mv) ++ (wT g ha (S.svd.map (fun _ => hs 0), S.ep, S.fc) ++ wQ g (ha 1) S.qv ++ wQ g (ha 2) S.bv ++ wS g (ha 3) (o2.2) ++ wH g (ha 4) hd S.hv ++ wP g (ha 5) S.pv ++ wL g (ha 5 2) lq ++ wO g (ha 6) S.ov ++ wSv g hs S.svd ++ wOut g oa ol ++ wOud g ob od)) _ := wp_P (wp_of fun f => by simp only [wOut, wOud, List.countP_append, List.countP_cons, List.countP_nil] <;> omega) hP
  refine cpv_i (As := []) (rest := [.int (o2.1)]) (Wr := (wT g ha (S.svd.map (fun _ => hs 0), S.ep, S.fc) ++ wQ g (ha 1) S.qv ++ wQ g (ha 2) S.bv ++ wS g (ha 3) (o2.2) ++ wH g (ha 4) hd S.hv ++ wP g (ha 5) S.pv ++ wL g (ha 5 2) lq ++ wO g (ha 6) S.ov ++ wSv g hs S.svd ++ wOut g oa ol ++ wOud g ob od)) (Wn := (wT g ha (S.svd.map (fun _ => hs 0), S.ep, S.fc) ++ wQ g (ha 1) S.qv ++ wQ g (ha 2) S.bv ++ wS g (ha 3) (o2.2) ++ wH g (ha 4) hd S.hv ++ wP g (ha 5) S.pv ++ wL g (ha 5 2) lq ++ wO g (ha 6) S.ov ++ wSv g hs S.svd ++ wM g hm (o4.2) ++ wOut g oa ol ++ wOud g ob od)) ⟨hx, hb, hml, hown, hts⟩ (c_X11_seamCountByMerging l g hm S.mv  _ hg5) (cwV 0 hts gL_law_X11_seamCountByMerging rfl rfl rfl hd_X11_seamCountByMerging ⟨(Nat.le_of_ble_eq_true rfl), (Nat.le_of_ble_eq_true rfl)⟩) hK hZ hT hA hP hD hS hl.1 (va_recv hK hPr (ci := 10) (q0 := 0) rfl rfl) (wp_of fun f => by simp only [wOut, wOud, List.countP_append, List.countP_cons, List.countP_nil] <;> omega) (wp_of fun f => by simp only [wOut, wOud, List.countP_append, List.countP_cons, List.countP_nil] <;> omega) rfl rfl (Nat.le_of_ble_eq_true rfl) ⟨show cells + 0 ≤ 603072 by omega, show slots + 0 ≤ 7190634 by omega⟩ dL_law_1700 (fun H locs hP hD hS => ?_)
  refine lv_icmp_eq (tgt := 2560) hx hb dL_law_1703 (by decide) (fun hc => ?_) (fun hc => ?_)
  · have hf := jbT hf hc
    cases hf
    refine W.widen (k := cells + 60) (n := slots + 700) (by omega) (by omega) ?_
    exact kk hd hs lq _ _ _ hok hP hD hS (lv_sub hl [0, 1, 2, 3, 4, 5] rfl)
  · have hf := jbF hf hc
    cases hf
set_option maxHeartbeats 4000000 in
set_option maxRecDepth 100000 in
theorem lwc_23 {p : Program} {e : Env} {s : State} {mi : MethodId} {args : Array Value} {below : List Frame} {meth : Method} {c : Code} {g : GG} {A : Nat → Prop} {b L : Nat} {xs : Nat → Int32} {Q : State → Prop} (l : Launch) (hlt : l.stackTraces = false) (C0 : LwB p s mi args c g A b L xs)
    (ha hd : Nat → Nat → Nat) (hs hm : Nat → Nat) (lq : ListS) (oa ob : Nat) (S : Sys) (ol : Nat → Int64) (od : Nat → UInt64) (hok : lsOK lq) (i : Int32) (h1 : vp_in (i + 1) L) (h2 : vp_in (i + 2) L) (h3 : vp_in (i + 3) L) (h4 : vp_in (i + 4) L) (r : LR)
    (hf : lawOp_23 S (xs (i + 1).toNatClampNeg) (xs (i + 2).toNatClampNeg) (xs (i + 3).toNatClampNeg) (xs (i + 4).toNatClampNeg) ol od = some r) {H : Heap} {locs : List Loc} {ls : Array Slot} {cells slots : Nat} (hc9 : cells + 60 ≤ 603072) (hs9 : slots + 700 ≤ 7190634)
    (hP : va_P (gD g) vwCl (wSys g ha hd hs hm lq oa ob S ol od) H) (hD : va_D A (wSys g ha hd hs hm lq oa ob S ol od)) (hS : va_S A s.heap H locs) (hl : lv_has ls 10 [(5, .int i), (0, .ref b), (1, .ref (ha 0 0)), (2, .ref (hm 0)), (3, .ref oa), (4, .ref ob)])
    (kk : ∀ (hd : Nat → Nat → Nat) (hs : Nat → Nat) (lq : ListS) (H : Heap) (locs : List Loc) (ls : Array Slot), lsOK lq → va_P (gD g) vwCl (wSys g ha hd hs hm lq oa ob r.1 r.2.1 r.2.2) H → va_D A (wSys g ha hd hs hm lq oa ob r.1 r.2.1 r.2.2) → va_S A s.heap H locs → lv_has ls 10 [(5, .int i), (0, .ref b), (1, .ref (ha 0 0)), (2, .ref (hm 0)), (3, .ref oa), (4, .ref ob)] → W p l e room_1 s mi args below meth c H locs (cells + 60) (slots + 700) Q (F0 mi 2560 ls [])) :
    W p l e room_1 s mi args below meth c H locs cells slots Q (F0 mi 1708 ls []) := by
  obtain ⟨hx, hb, hml, hown, hts, hK, hZ, hT, hA, hX, hbl, hbA⟩ := C0
  have hP : va_P (gD g) vwCl (wT g ha (S.svd.map (fun _ => hs 0), S.ep, S.fc) ++ wQ g (ha 1) S.qv ++ wQ g (ha 2) S.bv ++ wS g (ha 3) S.sv ++ wH g (ha 4) hd S.hv ++ wP g (ha 5) S.pv ++ wL g (ha 5 2) lq ++ wO g (ha 6) S.ov ++ wSv g hs S.svd ++ wM g hm S.mv ++ wOut g oa ol ++ wOud g ob od) H := hP
  have hD : va_D A (wT g ha (S.svd.map (fun _ => hs 0), S.ep, S.fc) ++ wQ g (ha 1) S.qv ++ wQ g (ha 2) S.bv ++ wS g (ha 3) S.sv ++ wH g (ha 4) hd S.hv ++ wP g (ha 5) S.pv ++ wL g (ha 5 2) lq ++ wO g (ha 6) S.ov ++ wSv g hs S.svd ++ wM g hm S.mv ++ wOut g oa ol ++ wOud g ob od) := hD
  unfold lawOp_23 at hf
  refine lv_aload_n hx hb dL_law_1708 rfl (lv_at hl 2 rfl) ?_
  refine lv_aload_n hx hb dL_law_1709 rfl (lv_at hl 1 rfl) ?_
  refine lv_iload hx hb dL_law_1710 (lv_at hl 0 rfl) ?_
  refine lv_iconst (v := 1) hx hb dL_law_1712 (by decide) ?_
  refine lv_iadd hx hb dL_law_1713 ?_
  refine va_sld hx hb hX hbl hbA hS h1 dL_law_1714 ?_
  refine lv_aload_n hx hb dL_law_1715 rfl (lv_at hl 1 rfl) ?_
  refine lv_iload hx hb dL_law_1716 (lv_at hl 0 rfl) ?_
  refine lv_iconst (v := 2) hx hb dL_law_1718 (by decide) ?_
  refine lv_iadd hx hb dL_law_1719 ?_
  refine va_sld hx hb hX hbl hbA hS h2 dL_law_1720 ?_
  refine lv_aload_n hx hb dL_law_1721 rfl (lv_at hl 1 rfl) ?_
  refine lv_iload hx hb dL_law_1722 (lv_at hl 0 rfl) ?_
  refine lv_iconst (v := 3) hx hb dL_law_1724 (by decide) ?_
  refine lv_iadd hx hb dL_law_1725 ?_
  refine va_sld hx hb hX hbl hbA hS h3 dL_law_1726 ?_
  refine lv_aload_n hx hb dL_law_1727 rfl (lv_at hl 1 rfl) ?_
  refine lv_iload hx hb dL_law_1728 (lv_at hl 0 rfl) ?_
  refine lv_iconst (v := 4) hx hb dL_law_1730 (by decide) ?_
  refine lv_iadd hx hb dL_law_1731 ?_
  refine va_sld hx hb hX hbl hbA hS h4 dL_law_1732 ?_
  refine lv_aload_n hx hb dL_law_1733 rfl (lv_at hl 4 rfl) ?_
  obtain ⟨k1, hg2, hf⟩ := jbB_e hf
  refine cws_i (As := [.ref (ha 0 0), .int (xs (i + 1).toNatClampNeg), .int (xs (i + 2).toNatClampNeg), .int (xs (i + 3).toNatClampNeg), .int (xs (i + 4).toNatClampNeg), .ref oa]) (rest := []) (Wr := (wQ g (ha 2) S.bv ++ wH g (ha 4) hd S.hv ++ wP g (ha 5) S.pv ++ wL g (ha 5 2) lq ++ wO g (ha 6) S.ov ++ wSv g hs S.svd ++ wM g hm S.mv ++ wOud g ob od)) (Wn := (wT g ha (S.svd.map (fun _ => hs 0), S.ep, S.fc) ++ wQ g (ha 1) S.qv ++ wQ g (ha 2) S.bv ++ wS g (ha 3) (k1.2.2) ++ wH g (ha 4) hd S.hv ++ wP g (ha 5) S.pv ++ wL g (ha 5 2) lq ++ wO g (ha 6) S.ov ++ wSv g hs S.svd ++ wM g hm S.mv ++ wOut g oa (k1.2.1) ++ wOud g ob od)) ⟨hx, hb, hml, hown, hts⟩ (c_L_footpath l hlt g ha (S.svd.map (fun _ => hs 0), S.ep, S.fc) S.qv S.sv (xs (i + 1).toNatClampNeg) (xs (i + 2).toNatClampNeg) (xs (i + 3).toNatClampNeg) (xs (i + 4).toNatClampNeg) oa ol _ hg2) (vx_cwSW 6 hts gL_law_L_footpath rfl rfl rfl hd_L_footpath.2 ⟨(Nat.le_of_ble_eq_true rfl), (Nat.le_of_ble_eq_true rfl)⟩) hK hZ hT hA hP hD hS hl.1 (wp_of fun f => by simp only [wOut, wOud, List.countP_append, List.countP_cons, List.countP_nil] <;> omega) (wp_of fun f => by simp only [wOut, wOud, List.countP_append, List.countP_cons, List.countP_nil] <;> omega) rfl rfl (Nat.le_of_ble_eq_true rfl) ⟨show cells + 3 ≤ 603072 by omega, show slots + 18 ≤ 7190634 by omega⟩ dL_law_1734 (fun H locs hP hD hS => ?_)
  refine lv_istore (lv' := [(6, .int (k1.1)), (5, .int i), (0, .ref b), (1, .ref (ha 0 0)), (2, .ref (hm 0)), (3, .ref oa), (4, .ref ob)]) hx hb dL_law_1737 hl (by decide) rfl (fun ls hl => ?_)
  refine lv_aload_n hx hb dL_law_1739 rfl (lv_at hl 4 rfl) ?_
  refine lv_aload_n hx hb dL_law_1740 rfl (lv_at hl 2 rfl) ?_
  refine lv_iload hx hb dL_law_1741 (lv_at hl 1 rfl) ?_
  refine lv_iconst (v := 1) hx hb dL_law_1743 (by decide) ?_
  refine lv_iadd hx hb dL_law_1744 ?_
  refine va_sld hx hb hX hbl hbA hS h1 dL_law_1745 ?_
  refine lv_aload_n hx hb dL_law_1746 rfl (lv_at hl 2 rfl) ?_
  refine lv_iload hx hb dL_law_1747 (lv_at hl 1 rfl) ?_
  refine lv_iconst (v := 2) hx hb dL_law_1749 (by decide) ?_
  refine lv_iadd hx hb dL_law_1750 ?_
  refine va_sld hx hb hX hbl hbA hS h2 dL_law_1751 ?_
  refine lv_aload_n hx hb dL_law_1752 rfl (lv_at hl 2 rfl) ?_
  refine lv_iload hx hb dL_law_1753 (lv_at hl 1 rfl) ?_
  refine lv_iconst (v := 3) hx hb dL_law_1755 (by decide) ?_
  refine lv_iadd hx hb dL_law_1756 ?_
  refine va_sld hx hb hX hbl hbA hS h3 dL_law_1757 ?_
  refine lv_aload_n hx hb dL_law_1758 rfl (lv_at hl 2 rfl) ?_
  refine lv_iload hx hb dL_law_1759 (lv_at hl 1 rfl) ?_
  refine lv_iconst (v := 4) hx hb dL_law_1761 (by decide) ?_
  refine lv_iadd hx hb dL_law_1762 ?_
  refine va_sld hx hb hX hbl hbA hS h4 dL_law_1763 ?_
  obtain ⟨o3, hg4, hf⟩ := jbB_e hf
  have hPr : va_P (gD g) vwCl ((wM g hm S.mv) ++ (wT g ha (S.svd.map (fun _ => hs 0), S.ep, S.fc) ++ wQ g (ha 1) S.qv ++ wQ g (ha 2) S.bv ++ wS g (ha 3) (k1.2.2) ++ wH g (ha 4) hd S.hv ++ wP g (ha 5) S.pv ++ wL g (ha 5 2) lq ++ wO g (ha 6) S.ov ++ wSv g hs S.svd ++ wOut g oa (k1.2.1) ++ wOud g ob od)) _ := wp_P (wp_of fun f => by simp only [wOut, wOud, List.countP_append, List.countP_cons, List.countP_nil] <;> omega) hP
  refine cpv_i (As := [.int (xs (i + 1).toNatClampNeg), .int (xs (i + 2).toNatClampNeg), .int (xs (i + 3).toNatClampNeg), .int (xs (i + 4).toNatClampNeg)]) (rest := []) (Wr := (wT g ha (S.svd.map (fun _ => hs 0), S.ep, S.fc) ++ wQ g (ha 1) S.qv ++ wQ g (ha 2) S.bv ++ wS g (ha 3) (k1.2.2) ++ wH g (ha 4) hd S.hv ++ wP g (ha 5) S.pv ++ wL g (ha 5 2) lq ++ wO g (ha 6) S.ov ++ wSv g hs S.svd ++ wOut g oa (k1.2.1) ++ wOud g ob od)) (Wn := (wT g ha (S.svd.map (fun _ => hs 0), S.ep, S.fc) ++ wQ g (ha 1) S.qv ++ wQ g (ha 2) S.bv ++ wS g (ha 3) (k1.2.2) ++ wH g (ha 4) hd S.hv ++ wP g (ha 5) S.pv ++ wL g (ha 5 2) lq ++ wO g (ha 6) S.ov ++ wSv g hs S.svd ++ wM g hm (o3.2) ++ wOut g oa (k1.2.1) ++ wOud g ob od)) ⟨hx, hb, hml, hown, hts⟩ (c_X11_footpath l g hm S.mv (xs (i + 1).toNatClampNeg) (xs (i + 2).toNatClampNeg) (xs (i + 3).toNatClampNeg) (xs (i + 4).toNatClampNeg) _ hg4) (cwV 4 hts gL_law_X11_footpath rfl rfl rfl hd_X11_footpath ⟨(Nat.le_of_ble_eq_true rfl), (Nat.le_of_ble_eq_true rfl)⟩) hK hZ hT hA hP hD hS hl.1 (va_recv hK hPr (ci := 10) (q0 := 0) rfl rfl) (wp_of fun f => by simp only [wOut, wOud, List.countP_append, List.countP_cons, List.countP_nil] <;> omega) (wp_of fun f => by simp only [wOut, wOud, List.countP_append, List.countP_cons, List.countP_nil] <;> omega) rfl rfl (Nat.le_of_ble_eq_true rfl) ⟨show cells + 3 + 0 ≤ 603072 by omega, show slots + 18 + 0 ≤ 7190634 by omega⟩ dL_law_1764 (fun H locs hP hD hS => ?_)
  refine lv_istore (lv' := [(7, .int (o3.1)), (6, .int (k1.1)), (5, .int i), (0, .ref b), (1, .ref (ha 0 0)), (2, .ref (hm 0)), (3, .ref oa), (4, .ref ob)]) hx hb dL_law_1767 hl (by decide) rfl (fun ls hl => ?_)
  refine lv_aload_n hx hb dL_law_1769 rfl (lv_at hl 5 rfl) ?_
  obtain ⟨o5, hg6, hf⟩ := jbB_e hf
  have hPr : va_P (gD g) vwCl ((wM g hm (o3.2)) ++ (wT g ha (S.svd.map (fun _ => hs 0), S.ep, S.fc) ++ wQ g (ha 1) S.qv ++ wQ g (ha 2) S.bv ++ wS g (ha 3) (k1.2.2) ++ wH g (ha 4) hd S.hv ++ wP g (ha 5) S.pv ++ wL g (ha 5 2) lq ++ wO g (ha 6) S.ov ++ wSv g hs S.svd ++ wOut g oa (k1.2.1) ++ wOud g ob od)) _ := wp_P (wp_of fun f => by simp only [wOut, wOud, List.countP_append, List.countP_cons, List.countP_nil] <;> omega) hP
  refine cpv_i (As := []) (rest := []) (Wr := (wT g ha (S.svd.map (fun _ => hs 0), S.ep, S.fc) ++ wQ g (ha 1) S.qv ++ wQ g (ha 2) S.bv ++ wS g (ha 3) (k1.2.2) ++ wH g (ha 4) hd S.hv ++ wP g (ha 5) S.pv ++ wL g (ha 5 2) lq ++ wO g (ha 6) S.ov ++ wSv g hs S.svd ++ wOut g oa (k1.2.1) ++ wOud g ob od)) (Wn := (wT g ha (S.svd.map (fun _ => hs 0), S.ep, S.fc) ++ wQ g (ha 1) S.qv ++ wQ g (ha 2) S.bv ++ wS g (ha 3) (k1.2.2) ++ wH g (ha 4) hd S.hv ++ wP g (ha 5) S.pv ++ wL g (ha 5 2) lq ++ wO g (ha 6) S.ov ++ wSv g hs S.svd ++ wM g hm (o3.2) ++ wOut g oa (k1.2.1) ++ wOud g ob od)) ⟨hx, hb, hml, hown, hts⟩ (c_X11_thrown l g hm (o3.2)  _ hg6) (cwV 0 hts gL_law_X11_thrown rfl rfl rfl hd_X11_thrown ⟨(Nat.le_of_ble_eq_true rfl), (Nat.le_of_ble_eq_true rfl)⟩) hK hZ hT hA hP hD hS hl.1 (va_recv hK hPr (ci := 10) (q0 := 0) rfl rfl) (wp_of fun f => by simp only [wOut, wOud, List.countP_append, List.countP_cons, List.countP_nil] <;> omega) (wp_of fun f => by simp only [wOut, wOud, List.countP_append, List.countP_cons, List.countP_nil] <;> omega) rfl rfl (Nat.le_of_ble_eq_true rfl) ⟨show cells + 3 + 0 ≤ 603072 by omega, show slots + 18 + 0 ≤ 7190634 by omega⟩ dL_law_1770 (fun H locs hP hD hS => ?_)
  refine lv_iload hx hb dL_law_1773 (lv_at hl 1 rfl) ?_
  refine lv_icmp_eq (tgt := 1780) hx hb dL_law_1775 (by decide) (fun hc => ?_) (fun hc => ?_)
  · have hf := jbT hf hc
    refine lv_iload hx hb dL_law_1780 (lv_at hl 1 rfl) ?_
    refine lv_if_ne (tgt := 1797) hx hb dL_law_1782 (by decide) (fun hc2 => ?_) (fun hc2 => ?_)
    · have hf := jbF hf hc2
      cases hf
      refine lv_goto (tgt := 2560) hx hb dL_law_1797 (by decide) ?_
      refine W.widen (k := cells + 60) (n := slots + 700) (by omega) (by omega) ?_
      exact kk hd hs lq _ _ _ hok hP hD hS (lv_sub hl [2, 3, 4, 5, 6, 7] rfl)
    · have hf := jbT hf hc2
      refine lv_aload_n hx hb dL_law_1785 rfl (lv_at hl 6 rfl) ?_
      refine lv_iconst (v := 0) hx hb dL_law_1786 (by decide) ?_
      have hP9 : va_P (gD g) vwCl ((wOut g oa (k1.2.1)) ++ (wT g ha (S.svd.map (fun _ => hs 0), S.ep, S.fc) ++ wQ g (ha 1) S.qv ++ wQ g (ha 2) S.bv ++ wS g (ha 3) (k1.2.2) ++ wH g (ha 4) hd S.hv ++ wP g (ha 5) S.pv ++ wL g (ha 5 2) lq ++ wO g (ha 6) S.ov ++ wSv g hs S.svd ++ wM g hm (o3.2) ++ wOud g ob od)) _ := wp_P (wp_of fun f => by simp only [wOut, wOud, List.countP_append, List.countP_cons, List.countP_nil] <;> omega) hP
      refine va_lald hx hb hK hP9 0 3 rfl rfl (i := 0) vp_in01 dL_law_1787 ?_
      refine lv_iload hx hb dL_law_1788 (lv_at hl 0 rfl) ?_
      obtain ⟨he, hf⟩ := jbA_e hf
      cases hf
      refine lv_i2l (v := (o3.1).toInt64) hx hb dL_law_1790 rfl ?_
      refine W.lcmp hx hb dL_law_1791 ?_
      refine lv_if_eq (tgt := 1797) hx hb dL_law_1792 (by decide) (fun hc => ?_) (fun hc => absurd (by rw [he]; exact lg_cmp_self _) hc)
      refine lv_goto (tgt := 2560) hx hb dL_law_1797 (by decide) ?_
      refine W.widen (k := cells + 60) (n := slots + 700) (by omega) (by omega) ?_
      exact kk hd hs lq _ _ _ hok hP hD hS (lv_sub hl [2, 3, 4, 5, 6, 7] rfl)
  · have hf := jbF hf hc
    cases hf
