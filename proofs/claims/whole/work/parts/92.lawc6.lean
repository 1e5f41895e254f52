set_option maxHeartbeats 4000000 in
set_option maxRecDepth 100000 in
theorem lwc_40 {p : Program} {e : Env} {s : State} {mi : MethodId} {args : Array Value} {below : List Frame} {meth : Method} {c : Code} {g : GG} {A : Nat → Prop} {b L : Nat} {xs : Nat → Int32} {Q : State → Prop} (l : Launch) (hlt : l.stackTraces = false) (C0 : LwB p s mi args c g A b L xs)
    (ha hd : Nat → Nat → Nat) (hs hm : Nat → Nat) (lq : ListS) (oa ob : Nat) (S : Sys) (ol : Nat → Int64) (od : Nat → UInt64) (hok : lsOK lq) (i : Int32) (h1 : vp_in (i + 1) L) (h2 : vp_in (i + 2) L) (h3 : vp_in (i + 3) L) (h4 : vp_in (i + 4) L) (r : LR)
    (hf : lawOp_40 S (xs (i + 1).toNatClampNeg) (xs (i + 2).toNatClampNeg) (xs (i + 3).toNatClampNeg) (xs (i + 4).toNatClampNeg) ol od = some r) {H : Heap} {locs : List Loc} {ls : Array Slot} {cells slots : Nat} (hc9 : cells + 60 ≤ 603072) (hs9 : slots + 700 ≤ 7190634)
    (hP : va_P (gD g) vwCl (wSys g ha hd hs hm lq oa ob S ol od) H) (hD : va_D A (wSys g ha hd hs hm lq oa ob S ol od)) (hS : va_S A s.heap H locs) (hl : lv_has ls 10 [(5, .int i), (0, .ref b), (1, .ref (ha 0 0)), (2, .ref (hm 0)), (3, .ref oa), (4, .ref ob)])
    (kk : ∀ (hd : Nat → Nat → Nat) (hs : Nat → Nat) (lq : ListS) (H : Heap) (locs : List Loc) (ls : Array Slot), lsOK lq → va_P (gD g) vwCl (wSys g ha hd hs hm lq oa ob r.1 r.2.1 r.2.2) H → va_D A (wSys g ha hd hs hm lq oa ob r.1 r.2.1 r.2.2) → va_S A s.heap H locs → lv_has ls 10 [(5, .int i), (0, .ref b), (1, .ref (ha 0 0)), (2, .ref (hm 0)), (3, .ref oa), (4, .ref ob)] → W p l e room_1 s mi args below meth c H locs (cells + 60) (slots + 700) Q (F0 mi 2560 ls [])) :
    W p l e room_1 s mi args below meth c H locs cells slots Q (F0 mi 2369 ls []) := by
  obtain ⟨hx, hb, hml, hown, hts, hK, hZ, hT, hA, hX, hbl, hbA⟩ := C0
  have hP : va_P (gD g) vwCl (wT g ha (S.svd.map (fun _ => hs 0), S.ep, S.fc) ++ wQ g (ha 1) S.qv ++ wQ g (ha 2) S.bv ++ wS g (ha 3) S.sv ++ wH g (ha 4) hd S.hv ++ wP g (ha 5) S.pv ++ wL g (ha 5 2) lq ++ wO g (ha 6) S.ov ++ wSv g hs S.svd ++ wM g hm S.mv ++ wOut g oa ol ++ wOud g ob od) H := hP
  have hD : va_D A (wT g ha (S.svd.map (fun _ => hs 0), S.ep, S.fc) ++ wQ g (ha 1) S.qv ++ wQ g (ha 2) S.bv ++ wS g (ha 3) S.sv ++ wH g (ha 4) hd S.hv ++ wP g (ha 5) S.pv ++ wL g (ha 5 2) lq ++ wO g (ha 6) S.ov ++ wSv g hs S.svd ++ wM g hm S.mv ++ wOut g oa ol ++ wOud g ob od) := hD
  unfold lawOp_40 at hf
  refine lv_aload_n hx hb dL_law_2369 rfl (lv_at hl 2 rfl) ?_
  refine lv_aload_n hx hb dL_law_2370 rfl (lv_at hl 1 rfl) ?_
  refine lv_iload hx hb dL_law_2371 (lv_at hl 0 rfl) ?_
  refine lv_iconst (v := 1) hx hb dL_law_2373 (by decide) ?_
  refine lv_iadd hx hb dL_law_2374 ?_
  refine va_sld hx hb hX hbl hbA hS h1 dL_law_2375 ?_
  refine lv_aload_n hx hb dL_law_2376 rfl (lv_at hl 4 rfl) ?_
  obtain ⟨k1, hg2, hf⟩ := jbB_e hf
  refine cws_i (As := [.ref (ha 0 0), .int (xs (i + 1).toNatClampNeg), .ref oa]) (rest := []) (Wr := (wQ g (ha 2) S.bv ++ wS g (ha 3) S.sv ++ wH g (ha 4) hd S.hv ++ wP g (ha 5) S.pv ++ wL g (ha 5 2) lq ++ wSv g hs S.svd ++ wM g hm S.mv ++ wOud g ob od)) (Wn := (wT g ha (S.svd.map (fun _ => hs 0), S.ep, S.fc) ++ wQ g (ha 1) S.qv ++ wQ g (ha 2) S.bv ++ wS g (ha 3) S.sv ++ wH g (ha 4) hd S.hv ++ wP g (ha 5) S.pv ++ wL g (ha 5 2) lq ++ wO g (ha 6) (k1.2.2) ++ wSv g hs S.svd ++ wM g hm S.mv ++ wOut g oa (k1.2.1) ++ wOud g ob od)) ⟨hx, hb, hml, hown, hts⟩ (c_L_writeRow l hlt g ha (S.svd.map (fun _ => hs 0), S.ep, S.fc) S.qv S.ov (xs (i + 1).toNatClampNeg) oa ol _ hg2) (vx_cwSW 3 hts gL_law_L_writeRow rfl rfl rfl hd_L_writeRow.2 ⟨(Nat.le_of_ble_eq_true rfl), (Nat.le_of_ble_eq_true rfl)⟩) hK hZ hT hA hP hD hS hl.1 (wp_of fun f => by simp only [wOut, wOud, List.countP_append, List.countP_cons, List.countP_nil] <;> omega) (wp_of fun f => by simp only [wOut, wOud, List.countP_append, List.countP_cons, List.countP_nil] <;> omega) rfl rfl (Nat.le_of_ble_eq_true rfl) ⟨show cells + 1 ≤ 603072 by omega, show slots + 6 ≤ 7190634 by omega⟩ dL_law_2377 (fun H locs hP hD hS => ?_)
  refine lv_istore (lv' := [(6, .int (k1.1)), (5, .int i), (0, .ref b), (1, .ref (ha 0 0)), (2, .ref (hm 0)), (3, .ref oa), (4, .ref ob)]) hx hb dL_law_2380 hl (by decide) rfl (fun ls hl => ?_)
  refine lv_aload_n hx hb dL_law_2382 rfl (lv_at hl 4 rfl) ?_
  refine lv_aload_n hx hb dL_law_2383 rfl (lv_at hl 2 rfl) ?_
  refine lv_iload hx hb dL_law_2384 (lv_at hl 1 rfl) ?_
  refine lv_iconst (v := 1) hx hb dL_law_2386 (by decide) ?_
  refine lv_iadd hx hb dL_law_2387 ?_
  refine va_sld hx hb hX hbl hbA hS h1 dL_law_2388 ?_
  obtain ⟨o3, hg4, hf⟩ := jbB_e hf
  have hPr : va_P (gD g) vwCl ((wM g hm S.mv) ++ (wT g ha (S.svd.map (fun _ => hs 0), S.ep, S.fc) ++ wQ g (ha 1) S.qv ++ wQ g (ha 2) S.bv ++ wS g (ha 3) S.sv ++ wH g (ha 4) hd S.hv ++ wP g (ha 5) S.pv ++ wL g (ha 5 2) lq ++ wO g (ha 6) (k1.2.2) ++ wSv g hs S.svd ++ wOut g oa (k1.2.1) ++ wOud g ob od)) _ := wp_P (wp_of fun f => by simp only [wOut, wOud, List.countP_append, List.countP_cons, List.countP_nil] <;> omega) hP
  refine cpv_i (As := [.int (xs (i + 1).toNatClampNeg)]) (rest := []) (Wr := (wT g ha (S.svd.map (fun _ => hs 0), S.ep, S.fc) ++ wQ g (ha 1) S.qv ++ wQ g (ha 2) S.bv ++ wS g (ha 3) S.sv ++ wH g (ha 4) hd S.hv ++ wP g (ha 5) S.pv ++ wL g (ha 5 2) lq ++ wO g (ha 6) (k1.2.2) ++ wSv g hs S.svd ++ wOut g oa (k1.2.1) ++ wOud g ob od)) (Wn := (wT g ha (S.svd.map (fun _ => hs 0), S.ep, S.fc) ++ wQ g (ha 1) S.qv ++ wQ g (ha 2) S.bv ++ wS g (ha 3) S.sv ++ wH g (ha 4) hd S.hv ++ wP g (ha 5) S.pv ++ wL g (ha 5 2) lq ++ wO g (ha 6) (k1.2.2) ++ wSv g hs S.svd ++ wM g hm (o3.2) ++ wOut g oa (k1.2.1) ++ wOud g ob od)) ⟨hx, hb, hml, hown, hts⟩ (c_X11_writeRow l g hm S.mv (xs (i + 1).toNatClampNeg) _ hg4) (cwV 1 hts gL_law_X11_writeRow rfl rfl rfl hd_X11_writeRow ⟨(Nat.le_of_ble_eq_true rfl), (Nat.le_of_ble_eq_true rfl)⟩) hK hZ hT hA hP hD hS hl.1 (va_recv hK hPr (ci := 10) (q0 := 0) rfl rfl) (wp_of fun f => by simp only [wOut, wOud, List.countP_append, List.countP_cons, List.countP_nil] <;> omega) (wp_of fun f => by simp only [wOut, wOud, List.countP_append, List.countP_cons, List.countP_nil] <;> omega) rfl rfl (Nat.le_of_ble_eq_true rfl) ⟨show cells + 1 + 0 ≤ 603072 by omega, show slots + 6 + 0 ≤ 7190634 by omega⟩ dL_law_2389 (fun H locs hP hD hS => ?_)
  refine lv_istore (lv' := [(7, .int (o3.1)), (6, .int (k1.1)), (5, .int i), (0, .ref b), (1, .ref (ha 0 0)), (2, .ref (hm 0)), (3, .ref oa), (4, .ref ob)]) hx hb dL_law_2392 hl (by decide) rfl (fun ls hl => ?_)
  refine lv_aload_n hx hb dL_law_2394 rfl (lv_at hl 5 rfl) ?_
  obtain ⟨o5, hg6, hf⟩ := jbB_e hf
  have hPr : va_P (gD g) vwCl ((wM g hm (o3.2)) ++ (wT g ha (S.svd.map (fun _ => hs 0), S.ep, S.fc) ++ wQ g (ha 1) S.qv ++ wQ g (ha 2) S.bv ++ wS g (ha 3) S.sv ++ wH g (ha 4) hd S.hv ++ wP g (ha 5) S.pv ++ wL g (ha 5 2) lq ++ wO g (ha 6) (k1.2.2) ++ wSv g hs S.svd ++ wOut g oa (k1.2.1) ++ wOud g ob od)) _ := wp_P (wp_of fun f => by simp only [wOut, wOud, List.countP_append, List.countP_cons, List.countP_nil] <;> omega) hP
  refine cpv_i (As := []) (rest := []) (Wr := (wT g ha (S.svd.map (fun _ => hs 0), S.ep, S.fc) ++ wQ g (ha 1) S.qv ++ wQ g (ha 2) S.bv ++ wS g (ha 3) S.sv ++ wH g (ha 4) hd S.hv ++ wP g (ha 5) S.pv ++ wL g (ha 5 2) lq ++ wO g (ha 6) (k1.2.2) ++ wSv g hs S.svd ++ wOut g oa (k1.2.1) ++ wOud g ob od)) (Wn := (wT g ha (S.svd.map (fun _ => hs 0), S.ep, S.fc) ++ wQ g (ha 1) S.qv ++ wQ g (ha 2) S.bv ++ wS g (ha 3) S.sv ++ wH g (ha 4) hd S.hv ++ wP g (ha 5) S.pv ++ wL g (ha 5 2) lq ++ wO g (ha 6) (k1.2.2) ++ wSv g hs S.svd ++ wM g hm (o3.2) ++ wOut g oa (k1.2.1) ++ wOud g ob od)) ⟨hx, hb, hml, hown, hts⟩ (c_X11_thrown l g hm (o3.2)  _ hg6) (cwV 0 hts gL_law_X11_thrown rfl rfl rfl hd_X11_thrown ⟨(Nat.le_of_ble_eq_true rfl), (Nat.le_of_ble_eq_true rfl)⟩) hK hZ hT hA hP hD hS hl.1 (va_recv hK hPr (ci := 10) (q0 := 0) rfl rfl) (wp_of fun f => by simp only [wOut, wOud, List.countP_append, List.countP_cons, List.countP_nil] <;> omega) (wp_of fun f => by simp only [wOut, wOud, List.countP_append, List.countP_cons, List.countP_nil] <;> omega) rfl rfl (Nat.le_of_ble_eq_true rfl) ⟨show cells + 1 + 0 ≤ 603072 by omega, show slots + 6 + 0 ≤ 7190634 by omega⟩ dL_law_2395 (fun H locs hP hD hS => ?_)
  refine lv_iload hx hb dL_law_2398 (lv_at hl 1 rfl) ?_
  refine lv_icmp_eq (tgt := 2405) hx hb dL_law_2400 (by decide) (fun hc => ?_) (fun hc => ?_)
  · have hf := jbT hf hc
    refine lv_iload hx hb dL_law_2405 (lv_at hl 1 rfl) ?_
    refine lv_if_ne (tgt := 2422) hx hb dL_law_2407 (by decide) (fun hc2 => ?_) (fun hc2 => ?_)
    · have hf := jbF hf hc2
      cases hf
      refine lv_goto (tgt := 2560) hx hb dL_law_2422 (by decide) ?_
      refine W.widen (k := cells + 60) (n := slots + 700) (by omega) (by omega) ?_
      exact kk hd hs lq _ _ _ hok hP hD hS (lv_sub hl [2, 3, 4, 5, 6, 7] rfl)
    · have hf := jbT hf hc2
      refine lv_aload_n hx hb dL_law_2410 rfl (lv_at hl 6 rfl) ?_
      refine lv_iconst (v := 0) hx hb dL_law_2411 (by decide) ?_
      have hP9 : va_P (gD g) vwCl ((wOut g oa (k1.2.1)) ++ (wT g ha (S.svd.map (fun _ => hs 0), S.ep, S.fc) ++ wQ g (ha 1) S.qv ++ wQ g (ha 2) S.bv ++ wS g (ha 3) S.sv ++ wH g (ha 4) hd S.hv ++ wP g (ha 5) S.pv ++ wL g (ha 5 2) lq ++ wO g (ha 6) (k1.2.2) ++ wSv g hs S.svd ++ wM g hm (o3.2) ++ wOud g ob od)) _ := wp_P (wp_of fun f => by simp only [wOut, wOud, List.countP_append, List.countP_cons, List.countP_nil] <;> omega) hP
      refine va_lald hx hb hK hP9 0 3 rfl rfl (i := 0) vp_in01 dL_law_2412 ?_
      refine lv_iload hx hb dL_law_2413 (lv_at hl 0 rfl) ?_
      obtain ⟨he, hf⟩ := jbA_e hf
      cases hf
      refine lv_i2l (v := (o3.1).toInt64) hx hb dL_law_2415 rfl ?_
      refine W.lcmp hx hb dL_law_2416 ?_
      refine lv_if_eq (tgt := 2422) hx hb dL_law_2417 (by decide) (fun hc => ?_) (fun hc => absurd (by rw [he]; exact lg_cmp_self _) hc)
      refine lv_goto (tgt := 2560) hx hb dL_law_2422 (by decide) ?_
      refine W.widen (k := cells + 60) (n := slots + 700) (by omega) (by omega) ?_
      exact kk hd hs lq _ _ _ hok hP hD hS (lv_sub hl [2, 3, 4, 5, 6, 7] rfl)
  · have hf := jbF hf hc
    cases hf
set_option maxHeartbeats 4000000 in
set_option maxRecDepth 100000 in
theorem lwc_41 {p : Program} {e : Env} {s : State} {mi : MethodId} {args : Array Value} {below : List Frame} {meth : Method} {c : Code} {g : GG} {A : Nat → Prop} {b L : Nat} {xs : Nat → Int32} {Q : State → Prop} (l : Launch) (hlt : l.stackTraces = false) (C0 : LwB p s mi args c g A b L xs)
    (ha hd : Nat → Nat → Nat) (hs hm : Nat → Nat) (lq : ListS) (oa ob : Nat) (S : Sys) (ol : Nat → Int64) (od : Nat → UInt64) (hok : lsOK lq) (i : Int32) (h1 : vp_in (i + 1) L) (h2 : vp_in (i + 2) L) (h3 : vp_in (i + 3) L) (h4 : vp_in (i + 4) L) (r : LR)
    (hf : lawOp_41 S (xs (i + 1).toNatClampNeg) (xs (i + 2).toNatClampNeg) (xs (i + 3).toNatClampNeg) (xs (i + 4).toNatClampNeg) ol od = some r) {H : Heap} {locs : List Loc} {ls : Array Slot} {cells slots : Nat} (hc9 : cells + 60 ≤ 603072) (hs9 : slots + 700 ≤ 7190634)
    (hP : va_P (gD g) vwCl (wSys g ha hd hs hm lq oa ob S ol od) H) (hD : va_D A (wSys g ha hd hs hm lq oa ob S ol od)) (hS : va_S A s.heap H locs) (hl : lv_has ls 10 [(5, .int i), (0, .ref b), (1, .ref (ha 0 0)), (2, .ref (hm 0)), (3, .ref oa), (4, .ref ob)])
    (kk : ∀ (hd : Nat → Nat → Nat) (hs : Nat → Nat) (lq : ListS) (H : Heap) (locs : List Loc) (ls : Array Slot), lsOK lq → va_P (gD g) vwCl (wSys g ha hd hs hm lq oa ob r.1 r.2.1 r.2.2) H → va_D A (wSys g ha hd hs hm lq oa ob r.1 r.2.1 r.2.2) → va_S A s.heap H locs → lv_has ls 10 [(5, .int i), (0, .ref b), (1, .ref (ha 0 0)), (2, .ref (hm 0)), (3, .ref oa), (4, .ref ob)] → W p l e room_1 s mi args below meth c H locs (cells + 60) (slots + 700) Q (F0 mi 2560 ls [])) :
    W p l e room_1 s mi args below meth c H locs cells slots Q (F0 mi 2425 ls []) := by
  obtain ⟨hx, hb, hml, hown, hts, hK, hZ, hT, hA, hX, hbl, hbA⟩ := C0
  have hP : va_P (gD g) vwCl (wT g ha (S.svd.map (fun _ => hs 0), S.ep, S.fc) ++ wQ g (ha 1) S.qv ++ wQ g (ha 2) S.bv ++ wS g (ha 3) S.sv ++ wH g (ha 4) hd S.hv ++ wP g (ha 5) S.pv ++ wL g (ha 5 2) lq ++ wO g (ha 6) S.ov ++ wSv g hs S.svd ++ wM g hm S.mv ++ wOut g oa ol ++ wOud g ob od) H := hP
  have hD : va_D A (wT g ha (S.svd.map (fun _ => hs 0), S.ep, S.fc) ++ wQ g (ha 1) S.qv ++ wQ g (ha 2) S.bv ++ wS g (ha 3) S.sv ++ wH g (ha 4) hd S.hv ++ wP g (ha 5) S.pv ++ wL g (ha 5 2) lq ++ wO g (ha 6) S.ov ++ wSv g hs S.svd ++ wM g hm S.mv ++ wOut g oa ol ++ wOud g ob od) := hD
  unfold lawOp_41 at hf
  refine lv_aload_n hx hb dL_law_2425 rfl (lv_at hl 2 rfl) ?_
  refine lv_aload_n hx hb dL_law_2426 rfl (lv_at hl 1 rfl) ?_
  refine lv_iload hx hb dL_law_2427 (lv_at hl 0 rfl) ?_
  refine lv_iconst (v := 1) hx hb dL_law_2429 (by decide) ?_
  refine lv_iadd hx hb dL_law_2430 ?_
  refine va_sld hx hb hX hbl hbA hS h1 dL_law_2431 ?_
  refine lv_aload_n hx hb dL_law_2432 rfl (lv_at hl 4 rfl) ?_
  obtain ⟨k1, hg2, hf⟩ := jbB_e hf
  refine cws_i (As := [.ref (ha 0 0), .int (xs (i + 1).toNatClampNeg), .ref oa]) (rest := []) (Wr := (wQ g (ha 1) S.qv ++ wQ g (ha 2) S.bv ++ wS g (ha 3) S.sv ++ wH g (ha 4) hd S.hv ++ wP g (ha 5) S.pv ++ wL g (ha 5 2) lq ++ wSv g hs S.svd ++ wM g hm S.mv ++ wOud g ob od)) (Wn := (wT g ha (S.svd.map (fun _ => hs 0), S.ep, S.fc) ++ wQ g (ha 1) S.qv ++ wQ g (ha 2) S.bv ++ wS g (ha 3) S.sv ++ wH g (ha 4) hd S.hv ++ wP g (ha 5) S.pv ++ wL g (ha 5 2) lq ++ wO g (ha 6) S.ov ++ wSv g hs S.svd ++ wM g hm S.mv ++ wOut g oa (k1.2) ++ wOud g ob od)) ⟨hx, hb, hml, hown, hts⟩ (c_L_outputAt l hlt g ha (S.svd.map (fun _ => hs 0), S.ep, S.fc) S.ov (xs (i + 1).toNatClampNeg) oa ol _ hg2) (vx_cwSW 3 hts gL_law_L_outputAt rfl rfl rfl hd_L_outputAt.2 ⟨(Nat.le_of_ble_eq_true rfl), (Nat.le_of_ble_eq_true rfl)⟩) hK hZ hT hA hP hD hS hl.1 (wp_of fun f => by simp only [wOut, wOud, List.countP_append, List.countP_cons, List.countP_nil] <;> omega) (wp_of fun f => by simp only [wOut, wOud, List.countP_append, List.countP_cons, List.countP_nil] <;> omega) rfl rfl (Nat.le_of_ble_eq_true rfl) ⟨show cells + 1 ≤ 603072 by omega, show slots + 6 ≤ 7190634 by omega⟩ dL_law_2433 (fun H locs hP hD hS => ?_)
  refine lv_istore (lv' := [(6, .int (k1.1)), (5, .int i), (0, .ref b), (1, .ref (ha 0 0)), (2, .ref (hm 0)), (3, .ref oa), (4, .ref ob)]) hx hb dL_law_2436 hl (by decide) rfl (fun ls hl => ?_)
  refine lv_aload_n hx hb dL_law_2438 rfl (lv_at hl 4 rfl) ?_
  refine lv_aload_n hx hb dL_law_2439 rfl (lv_at hl 2 rfl) ?_
  refine lv_iload hx hb dL_law_2440 (lv_at hl 1 rfl) ?_
  refine lv_iconst (v := 1) hx hb dL_law_2442 (by decide) ?_
  refine lv_iadd hx hb dL_law_2443 ?_
  refine va_sld hx hb hX hbl hbA hS h1 dL_law_2444 ?_
  obtain ⟨o3, hg4, hf⟩ := jbB_e hf
  have hPr : va_P (gD g) vwCl ((wM g hm S.mv) ++ (wT g ha (S.svd.map (fun _ => hs 0), S.ep, S.fc) ++ wQ g (ha 1) S.qv ++ wQ g (ha 2) S.bv ++ wS g (ha 3) S.sv ++ wH g (ha 4) hd S.hv ++ wP g (ha 5) S.pv ++ wL g (ha 5 2) lq ++ wO g (ha 6) S.ov ++ wSv g hs S.svd ++ wOut g oa (k1.2) ++ wOud g ob od)) _ := wp_P (wp_of fun f => by simp only [wOut, wOud, List.countP_append, List.countP_cons, List.countP_nil] <;> omega) hP
  refine cpv_i (As := [.int (xs (i + 1).toNatClampNeg)]) (rest := []) (Wr := (wT g ha (S.svd.map (fun _ => hs 0), S.ep, S.fc) ++ wQ g (ha 1) S.qv ++ wQ g (ha 2) S.bv ++ wS g (ha 3) S.sv ++ wH g (ha 4) hd S.hv ++ wP g (ha 5) S.pv ++ wL g (ha 5 2) lq ++ wO g (ha 6) S.ov ++ wSv g hs S.svd ++ wOut g oa (k1.2) ++ wOud g ob od)) (Wn := (wT g ha (S.svd.map (fun _ => hs 0), S.ep, S.fc) ++ wQ g (ha 1) S.qv ++ wQ g (ha 2) S.bv ++ wS g (ha 3) S.sv ++ wH g (ha 4) hd S.hv ++ wP g (ha 5) S.pv ++ wL g (ha 5 2) lq ++ wO g (ha 6) S.ov ++ wSv g hs S.svd ++ wM g hm (o3.2) ++ wOut g oa (k1.2) ++ wOud g ob od)) ⟨hx, hb, hml, hown, hts⟩ (c_X11_outputAt l g hm S.mv (xs (i + 1).toNatClampNeg) _ hg4) (cwV 1 hts gL_law_X11_outputAt rfl rfl rfl hd_X11_outputAt ⟨(Nat.le_of_ble_eq_true rfl), (Nat.le_of_ble_eq_true rfl)⟩) hK hZ hT hA hP hD hS hl.1 (va_recv hK hPr (ci := 10) (q0 := 0) rfl rfl) (wp_of fun f => by simp only [wOut, wOud, List.countP_append, List.countP_cons, List.countP_nil] <;> omega) (wp_of fun f => by simp only [wOut, wOud, List.countP_append, List.countP_cons, List.countP_nil] <;> omega) rfl rfl (Nat.le_of_ble_eq_true rfl) ⟨show cells + 1 + 0 ≤ 603072 by omega, show slots + 6 + 0 ≤ 7190634 by omega⟩ dL_law_2445 (fun H locs hP hD hS => ?_)
  refine lv_istore (lv' := [(7, .int (o3.1)), (6, .int (k1.1)), (5, .int i), (0, .ref b), (1, .ref (ha 0 0)), (2, .ref (hm 0)), (3, .ref oa), (4, .ref ob)]) hx hb dL_law_2448 hl (by decide) rfl (fun ls hl => ?_)
  refine lv_aload_n hx hb dL_law_2450 rfl (lv_at hl 5 rfl) ?_
  obtain ⟨o5, hg6, hf⟩ := jbB_e hf
  have hPr : va_P (gD g) vwCl ((wM g hm (o3.2)) ++ (wT g ha (S.svd.map (fun _ => hs 0), S.ep, S.fc) ++ wQ g (ha 1) S.qv ++ wQ g (ha 2) S.bv ++ wS g (ha 3) S.sv ++ wH g (ha 4) hd S.hv ++ wP g (ha 5) S.pv ++ wL g (ha 5 2) lq ++ wO g (ha 6) S.ov ++ wSv g hs S.svd ++ wOut g oa (k1.2) ++ wOud g ob od)) _ := wp_P (wp_of fun f => by simp only [wOut, wOud, List.countP_append, List.countP_cons, List.countP_nil] <;> omega) hP
  refine cpv_i (As := []) (rest := []) (Wr := (wT g ha (S.svd.map (fun _ => hs 0), S.ep, S.fc) ++ wQ g (ha 1) S.qv ++ wQ g (ha 2) S.bv ++ wS g (ha 3) S.sv ++ wH g (ha 4) hd S.hv ++ wP g (ha 5) S.pv ++ wL g (ha 5 2) lq ++ wO g (ha 6) S.ov ++ wSv g hs S.svd ++ wOut g oa (k1.2) ++ wOud g ob od)) (Wn := (wT g ha (S.svd.map (fun _ => hs 0), S.ep, S.fc) ++ wQ g (ha 1) S.qv ++ wQ g (ha 2) S.bv ++ wS g (ha 3) S.sv ++ wH g (ha 4) hd S.hv ++ wP g (ha 5) S.pv ++ wL g (ha 5 2) lq ++ wO g (ha 6) S.ov ++ wSv g hs S.svd ++ wM g hm (o3.2) ++ wOut g oa (k1.2) ++ wOud g ob od)) ⟨hx, hb, hml, hown, hts⟩ (c_X11_thrown l g hm (o3.2)  _ hg6) (cwV 0 hts gL_law_X11_thrown rfl rfl rfl hd_X11_thrown ⟨(Nat.le_of_ble_eq_true rfl), (Nat.le_of_ble_eq_true rfl)⟩) hK hZ hT hA hP hD hS hl.1 (va_recv hK hPr (ci := 10) (q0 := 0) rfl rfl) (wp_of fun f => by simp only [wOut, wOud, List.countP_append, List.countP_cons, List.countP_nil] <;> omega) (wp_of fun f => by simp only [wOut, wOud, List.countP_append, List.countP_cons, List.countP_nil] <;> omega) rfl rfl (Nat.le_of_ble_eq_true rfl) ⟨show cells + 1 + 0 ≤ 603072 by omega, show slots + 6 + 0 ≤ 7190634 by omega⟩ dL_law_2451 (fun H locs hP hD hS => ?_)
  refine lv_iload hx hb dL_law_2454 (lv_at hl 1 rfl) ?_
  refine lv_icmp_eq (tgt := 2461) hx hb dL_law_2456 (by decide) (fun hc => ?_) (fun hc => ?_)
  · have hf := jbT hf hc
    refine lv_iload hx hb dL_law_2461 (lv_at hl 1 rfl) ?_
    refine lv_if_ne (tgt := 2478) hx hb dL_law_2463 (by decide) (fun hc2 => ?_) (fun hc2 => ?_)
    · have hf := jbF hf hc2
      cases hf
      refine lv_goto (tgt := 2560) hx hb dL_law_2478 (by decide) ?_
      refine W.widen (k := cells + 60) (n := slots + 700) (by omega) (by omega) ?_
      exact kk hd hs lq _ _ _ hok hP hD hS (lv_sub hl [2, 3, 4, 5, 6, 7] rfl)
    · have hf := jbT hf hc2
      refine lv_aload_n hx hb dL_law_2466 rfl (lv_at hl 6 rfl) ?_
      refine lv_iconst (v := 0) hx hb dL_law_2467 (by decide) ?_
      have hP9 : va_P (gD g) vwCl ((wOut g oa (k1.2)) ++ (wT g ha (S.svd.map (fun _ => hs 0), S.ep, S.fc) ++ wQ g (ha 1) S.qv ++ wQ g (ha 2) S.bv ++ wS g (ha 3) S.sv ++ wH g (ha 4) hd S.hv ++ wP g (ha 5) S.pv ++ wL g (ha 5 2) lq ++ wO g (ha 6) S.ov ++ wSv g hs S.svd ++ wM g hm (o3.2) ++ wOud g ob od)) _ := wp_P (wp_of fun f => by simp only [wOut, wOud, List.countP_append, List.countP_cons, List.countP_nil] <;> omega) hP
      refine va_lald hx hb hK hP9 0 3 rfl rfl (i := 0) vp_in01 dL_law_2468 ?_
      refine lv_iload hx hb dL_law_2469 (lv_at hl 0 rfl) ?_
      obtain ⟨he, hf⟩ := jbA_e hf
      cases hf
      refine lv_i2l (v := (o3.1).toInt64) hx hb dL_law_2471 rfl ?_
      refine W.lcmp hx hb dL_law_2472 ?_
      refine lv_if_eq (tgt := 2478) hx hb dL_law_2473 (by decide) (fun hc => ?_) (fun hc => absurd (by rw [he]; exact lg_cmp_self _) hc)
      refine lv_goto (tgt := 2560) hx hb dL_law_2478 (by decide) ?_
      refine W.widen (k := cells + 60) (n := slots + 700) (by omega) (by omega) ?_
      exact kk hd hs lq _ _ _ hok hP hD hS (lv_sub hl [2, 3, 4, 5, 6, 7] rfl)
  · have hf := jbF hf hc
    cases hf
set_option maxHeartbeats 4000000 in
set_option maxRecDepth 100000 in
theorem lwc_42 {p : Program} {e : Env} {s : State} {mi : MethodId} {args : Array Value} {below : List Frame} {meth : Method} {c : Code} {g : GG} {A : Nat → Prop} {b L : Nat} {xs : Nat → Int32} {Q : State → Prop} (l : Launch) (hlt : l.stackTraces = false) (C0 : LwB p s mi args c g A b L xs)
    (ha hd : Nat → Nat → Nat) (hs hm : Nat → Nat) (lq : ListS) (oa ob : Nat) (S : Sys) (ol : Nat → Int64) (od : Nat → UInt64) (hok : lsOK lq) (i : Int32) (h1 : vp_in (i + 1) L) (h2 : vp_in (i + 2) L) (h3 : vp_in (i + 3) L) (h4 : vp_in (i + 4) L) (r : LR)
    (hf : lawOp_42 S (xs (i + 1).toNatClampNeg) (xs (i + 2).toNatClampNeg) (xs (i + 3).toNatClampNeg) (xs (i + 4).toNatClampNeg) ol od = some r) {H : Heap} {locs : List Loc} {ls : Array Slot} {cells slots : Nat} (hc9 : cells + 60 ≤ 603072) (hs9 : slots + 700 ≤ 7190634)
    (hP : va_P (gD g) vwCl (wSys g ha hd hs hm lq oa ob S ol od) H) (hD : va_D A (wSys g ha hd hs hm lq oa ob S ol od)) (hS : va_S A s.heap H locs) (hl : lv_has ls 10 [(5, .int i), (0, .ref b), (1, .ref (ha 0 0)), (2, .ref (hm 0)), (3, .ref oa), (4, .ref ob)])
    (kk : ∀ (hd : Nat → Nat → Nat) (hs : Nat → Nat) (lq : ListS) (H : Heap) (locs : List Loc) (ls : Array Slot), lsOK lq → va_P (gD g) vwCl (wSys g ha hd hs hm lq oa ob r.1 r.2.1 r.2.2) H → va_D A (wSys g ha hd hs hm lq oa ob r.1 r.2.1 r.2.2) → va_S A s.heap H locs → lv_has ls 10 [(5, .int i), (0, .ref b), (1, .ref (ha 0 0)), (2, .ref (hm 0)), (3, .ref oa), (4, .ref ob)] → W p l e room_1 s mi args below meth c H locs (cells + 60) (slots + 700) Q (F0 mi 2560 ls [])) :
    W p l e room_1 s mi args below meth c H locs cells slots Q (F0 mi 2481 ls []) := by
  obtain ⟨hx, hb, hml, hown, hts, hK, hZ, hT, hA, hX, hbl, hbA⟩ := C0
  have hP : va_P (gD g) vwCl (wT g ha (S.svd.map (fun _ => hs 0), S.ep, S.fc) ++ wQ g (ha 1) S.qv ++ wQ g (ha 2) S.bv ++ wS g (ha 3) S.sv ++ wH g (ha 4) hd S.hv ++ wP g (ha 5) S.pv ++ wL g (ha 5 2) lq ++ wO g (ha 6) S.ov ++ wSv g hs S.svd ++ wM g hm S.mv ++ wOut g oa ol ++ wOud g ob od) H := hP
  have hD : va_D A (wT g ha (S.svd.map (fun _ => hs 0), S.ep, S.fc) ++ wQ g (ha 1) S.qv ++ wQ g (ha 2) S.bv ++ wS g (ha 3) S.sv ++ wH g (ha 4) hd S.hv ++ wP g (ha 5) S.pv ++ wL g (ha 5 2) lq ++ wO g (ha 6) S.ov ++ wSv g hs S.svd ++ wM g hm S.mv ++ wOut g oa ol ++ wOud g ob od) := hD
  unfold lawOp_42 at hf
  refine lv_aload_n hx hb dL_law_2481 rfl (lv_at hl 2 rfl) ?_
  refine lv_aload_n hx hb dL_law_2482 rfl (lv_at hl 4 rfl) ?_
  obtain ⟨k1, hg2, hf⟩ := jbB_e hf
  refine czws_i (As := [.ref (ha 0 0), .ref oa]) (rest := []) (Wr := (wQ g (ha 2) S.bv ++ wS g (ha 3) S.sv ++ wP g (ha 5) S.pv ++ wL g (ha 5 2) lq ++ wO g (ha 6) S.ov ++ wSv g hs S.svd ++ wM g hm S.mv ++ wOud g ob od)) (Wn := fun hd1 => (wT g ha (S.svd.map (fun _ => hs 0), S.ep, S.fc) ++ wQ g (ha 1) (k1.2.2.1) ++ wQ g (ha 2) S.bv ++ wS g (ha 3) S.sv ++ wH g (ha 4) hd1 (k1.2.2.2) ++ wP g (ha 5) S.pv ++ wL g (ha 5 2) lq ++ wO g (ha 6) S.ov ++ wSv g hs S.svd ++ wM g hm S.mv ++ wOut g oa (k1.2.1) ++ wOud g ob od)) ⟨hx, hb, hml, hown, hts⟩ (c_L_undo l hlt g ha hd (S.svd.map (fun _ => hs 0), S.ep, S.fc) S.qv S.hv  oa ol _ hg2) (vx_cwSW 2 hts gL_law_L_undo rfl rfl rfl hd_L_undo.2 ⟨(Nat.le_of_ble_eq_true rfl), (Nat.le_of_ble_eq_true rfl)⟩) hK hZ hT hA hP hD hS hl.1 (wp_of fun f => by simp only [wOut, wOud, List.countP_append, List.countP_cons, List.countP_nil] <;> omega) (fun _ => (wp_of fun f => by simp only [wOut, wOud, List.countP_append, List.countP_cons, List.countP_nil] <;> omega)) rfl rfl (Nat.le_of_ble_eq_true rfl) ⟨show cells + 1 ≤ 603072 by omega, show slots + 6 ≤ 7190634 by omega⟩ dL_law_2483 (fun hd1 H locs _ hP hD hS => ?_)
  refine lv_istore (lv' := [(6, .int (k1.1)), (5, .int i), (0, .ref b), (1, .ref (ha 0 0)), (2, .ref (hm 0)), (3, .ref oa), (4, .ref ob)]) hx hb dL_law_2486 hl (by decide) rfl (fun ls hl => ?_)
  refine lv_aload_n hx hb dL_law_2488 rfl (lv_at hl 4 rfl) ?_
  obtain ⟨o3, hg4, hf⟩ := jbB_e hf
  have hPr : va_P (gD g) vwCl ((wM g hm S.mv) ++ (wT g ha (S.svd.map (fun _ => hs 0), S.ep, S.fc) ++ wQ g (ha 1) (k1.2.2.1) ++ wQ g (ha 2) S.bv ++ wS g (ha 3) S.sv ++ wH g (ha 4) hd1 (k1.2.2.2) ++ wP g (ha 5) S.pv ++ wL g (ha 5 2) lq ++ wO g (ha 6) S.ov ++ wSv g hs S.svd ++ wOut g oa (k1.2.1) ++ wOud g ob od)) _ := wp_P (wp_of fun f => by simp only [wOut, wOud, List.countP_append, List.countP_cons, List.countP_nil] <;> omega) hP
  refine cpv_i (As := []) (rest := []) (Wr := (wT g ha (S.svd.map (fun _ => hs 0), S.ep, S.fc) ++ wQ g (ha 1) (k1.2.2.1) ++ wQ g (ha 2) S.bv ++ wS g (ha 3) S.sv ++ wH g (ha 4) hd1 (k1.2.2.2) ++ wP g (ha 5) S.pv ++ wL g (ha 5 2) lq ++ wO g (ha 6) S.ov ++ wSv g hs S.svd ++ wOut g oa (k1.2.1) ++ wOud g ob od)) (Wn := (wT g ha (S.svd.map (fun _ => hs 0), S.ep, S.fc) ++ wQ g (ha 1) (k1.2.2.1) ++ wQ g (ha 2) S.bv ++ wS g (ha 3) S.sv ++ wH g (ha 4) hd1 (k1.2.2.2) ++ wP g (ha 5) S.pv ++ wL g (ha 5 2) lq ++ wO g (ha 6) S.ov ++ wSv g hs S.svd ++ wM g hm (o3.2) ++ wOut g oa (k1.2.1) ++ wOud g ob od)) ⟨hx, hb, hml, hown, hts⟩ (c_X11_undo l g hm S.mv  _ hg4) (cwV 0 hts gL_law_X11_undo rfl rfl rfl hd_X11_undo ⟨(Nat.le_of_ble_eq_true rfl), (Nat.le_of_ble_eq_true rfl)⟩) hK hZ hT hA hP hD hS hl.1 (va_recv hK hPr (ci := 10) (q0 := 0) rfl rfl) (wp_of fun f => by simp only [wOut, wOud, List.countP_append, List.countP_cons, List.countP_nil] <;> omega) (wp_of fun f => by simp only [wOut, wOud, List.countP_append, List.countP_cons, List.countP_nil] <;> omega) rfl rfl (Nat.le_of_ble_eq_true rfl) ⟨show cells + 1 + 0 ≤ 603072 by omega, show slots + 6 + 0 ≤ 7190634 by omega⟩ dL_law_2489 (fun H locs hP hD hS => ?_)
  refine lv_istore (lv' := [(7, .int (o3.1)), (6, .int (k1.1)), (5, .int i), (0, .ref b), (1, .ref (ha 0 0)), (2, .ref (hm 0)), (3, .ref oa), (4, .ref ob)]) hx hb dL_law_2492 hl (by decide) rfl (fun ls hl => ?_)
  refine lv_aload_n hx hb dL_law_2494 rfl (lv_at hl 5 rfl) ?_
  obtain ⟨o5, hg6, hf⟩ := jbB_e hf
  have hPr : va_P (gD g) vwCl ((wM g hm (o3.2)) ++ (wT g ha (S.svd.map (fun _ => hs 0), S.ep, S.fc) ++ wQ g (ha 1) (k1.2.2.1) ++ wQ g (ha 2) S.bv ++ wS g (ha 3) S.sv ++ wH g (ha 4) hd1 (k1.2.2.2) ++ wP g (ha 5) S.pv ++ wL g (ha 5 2) lq ++ wO g (ha 6) S.ov ++ wSv g hs S.svd ++ wOut g oa (k1.2.1) ++ wOud g ob od)) _ := wp_P (wp_of fun f => by simp only [wOut, wOud, List.countP_append, List.countP_cons, List.countP_nil] <;> omega) hP
  refine cpv_i (As := []) (rest := []) (Wr := (wT g ha (S.svd.map (fun _ => hs 0), S.ep, S.fc) ++ wQ g (ha 1) (k1.2.2.1) ++ wQ g (ha 2) S.bv ++ wS g (ha 3) S.sv ++ wH g (ha 4) hd1 (k1.2.2.2) ++ wP g (ha 5) S.pv ++ wL g (ha 5 2) lq ++ wO g (ha 6) S.ov ++ wSv g hs S.svd ++ wOut g oa (k1.2.1) ++ wOud g ob od)) (Wn := (wT g ha (S.svd.map (fun _ => hs 0), S.ep, S.fc) ++ wQ g (ha 1) (k1.2.2.1) ++ wQ g (ha 2) S.bv ++ wS g (ha 3) S.sv ++ wH g (ha 4) hd1 (k1.2.2.2) ++ wP g (ha 5) S.pv ++ wL g (ha 5 2) lq ++ wO g (ha 6) S.ov ++ wSv g hs S.svd ++ wM g hm (o3.2) ++ wOut g oa (k1.2.1) ++ wOud g ob od)) ⟨hx, hb, hml, hown, hts⟩ (c_X11_thrown l g hm (o3.2)  _ hg6) (cwV 0 hts gL_law_X11_thrown rfl rfl rfl hd_X11_thrown ⟨(Nat.le_of_ble_eq_true rfl), (Nat.le_of_ble_eq_true rfl)⟩) hK hZ hT hA hP hD hS hl.1 (va_recv hK hPr (ci := 10) (q0 := 0) rfl rfl) (wp_of fun f => by simp only [wOut, wOud, List.countP_append, List.countP_cons, List.countP_nil] <;> omega) (wp_of fun f => by simp only [wOut, wOud, List.countP_append, List.countP_cons, List.countP_nil] <;> omega) rfl rfl (Nat.le_of_ble_eq_true rfl) ⟨show cells + 1 + 0 ≤ 603072 by omega, show slots + 6 + 0 ≤ 7190634 by omega⟩ dL_law_2495 (fun H locs hP hD hS => ?_)
  refine lv_iload hx hb dL_law_2498 (lv_at hl 1 rfl) ?_
  refine lv_icmp_eq (tgt := 2505) hx hb dL_law_2500 (by decide) (fun hc => ?_) (fun hc => ?_)
  · have hf := jbT hf hc
    refine lv_iload hx hb dL_law_2505 (lv_at hl 1 rfl) ?_
    refine lv_if_ne (tgt := 2522) hx hb dL_law_2507 (by decide) (fun hc2 => ?_) (fun hc2 => ?_)
    · have hf := jbF hf hc2
      cases hf
      refine lv_goto (tgt := 2560) hx hb dL_law_2522 (by decide) ?_
      refine W.widen (k := cells + 60) (n := slots + 700) (by omega) (by omega) ?_
      exact kk hd1 hs lq _ _ _ hok hP hD hS (lv_sub hl [2, 3, 4, 5, 6, 7] rfl)
    · have hf := jbT hf hc2
      refine lv_aload_n hx hb dL_law_2510 rfl (lv_at hl 6 rfl) ?_
      refine lv_iconst (v := 0) hx hb dL_law_2511 (by decide) ?_
      have hP9 : va_P (gD g) vwCl ((wOut g oa (k1.2.1)) ++ (wT g ha (S.svd.map (fun _ => hs 0), S.ep, S.fc) ++ wQ g (ha 1) (k1.2.2.1) ++ wQ g (ha 2) S.bv ++ wS g (ha 3) S.sv ++ wH g (ha 4) hd1 (k1.2.2.2) ++ wP g (ha 5) S.pv ++ wL g (ha 5 2) lq ++ wO g (ha 6) S.ov ++ wSv g hs S.svd ++ wM g hm (o3.2) ++ wOud g ob od)) _ := wp_P (wp_of fun f => by simp only [wOut, wOud, List.countP_append, List.countP_cons, List.countP_nil] <;> omega) hP
      refine va_lald hx hb hK hP9 0 3 rfl rfl (i := 0) vp_in01 dL_law_2512 ?_
      refine lv_iload hx hb dL_law_2513 (lv_at hl 0 rfl) ?_
      obtain ⟨he, hf⟩ := jbA_e hf
      cases hf
      refine lv_i2l (v := (o3.1).toInt64) hx hb dL_law_2515 rfl ?_
      refine W.lcmp hx hb dL_law_2516 ?_
      refine lv_if_eq (tgt := 2522) hx hb dL_law_2517 (by decide) (fun hc => ?_) (fun hc => absurd (by rw [he]; exact lg_cmp_self _) hc)
      refine lv_goto (tgt := 2560) hx hb dL_law_2522 (by decide) ?_
      refine W.widen (k := cells + 60) (n := slots + 700) (by omega) (by omega) ?_
      exact kk hd1 hs lq _ _ _ hok hP hD hS (lv_sub hl [2, 3, 4, 5, 6, 7] rfl)
  · have hf := jbF hf hc
    cases hf
set_option maxHeartbeats 4000000 in
set_option maxRecDepth 100000 in
theorem lwc_43 {p : Program} {e : Env} {s : State} {mi : MethodId} {args : Array Value} {below : List Frame} {meth : Method} {c : Code} {g : GG} {A : Nat → Prop} {b L : Nat} {xs : Nat → Int32} {Q : State → Prop} (l : Launch) (hlt : l.stackTraces = false) (C0 : LwB p s mi args c g A b L xs)
    (ha hd : Nat → Nat → Nat) (hs hm : Nat → Nat) (lq : ListS) (oa ob : Nat) (S : Sys) (ol : Nat → Int64) (od : Nat → UInt64) (hok : lsOK lq) (i : Int32) (h1 : vp_in (i + 1) L) (h2 : vp_in (i + 2) L) (h3 : vp_in (i + 3) L) (h4 : vp_in (i + 4) L) (r : LR)
    (hf : lawOp_43 S (xs (i + 1).toNatClampNeg) (xs (i + 2).toNatClampNeg) (xs (i + 3).toNatClampNeg) (xs (i + 4).toNatClampNeg) ol od = some r) {H : Heap} {locs : List Loc} {ls : Array Slot} {cells slots : Nat} (hc9 : cells + 60 ≤ 603072) (hs9 : slots + 700 ≤ 7190634)
    (hP : va_P (gD g) vwCl (wSys g ha hd hs hm lq oa ob S ol od) H) (hD : va_D A (wSys g ha hd hs hm lq oa ob S ol od)) (hS : va_S A s.heap H locs) (hl : lv_has ls 10 [(5, .int i), (0, .ref b), (1, .ref (ha 0 0)), (2, .ref (hm 0)), (3, .ref oa), (4, .ref ob)])
    (kk : ∀ (hd : Nat → Nat → Nat) (hs : Nat → Nat) (lq : ListS) (H : Heap) (locs : List Loc) (ls : Array Slot), lsOK lq → va_P (gD g) vwCl (wSys g ha hd hs hm lq oa ob r.1 r.2.1 r.2.2) H → va_D A (wSys g ha hd hs hm lq oa ob r.1 r.2.1 r.2.2) → va_S A s.heap H locs → lv_has ls 10 [(5, .int i), (0, .ref b), (1, .ref (ha 0 0)), (2, .ref (hm 0)), (3, .ref oa), (4, .ref ob)] → W p l e room_1 s mi args below meth c H locs (cells + 60) (slots + 700) Q (F0 mi 2560 ls [])) :
    W p l e room_1 s mi args below meth c H locs cells slots Q (F0 mi 2525 ls []) := by
  obtain ⟨hx, hb, hml, hown, hts, hK, hZ, hT, hA, hX, hbl, hbA⟩ := C0
  have hP : va_P (gD g) vwCl (wT g ha (S.svd.map (fun _ => hs 0), S.ep, S.fc) ++ wQ g (ha 1) S.qv ++ wQ g (ha 2) S.bv ++ wS g (ha 3) S.sv ++ wH g (ha 4) hd S.hv ++ wP g (ha 5) S.pv ++ wL g (ha 5 2) lq ++ wO g (ha 6) S.ov ++ wSv g hs S.svd ++ wM g hm S.mv ++ wOut g oa ol ++ wOud g ob od) H := hP
  have hD : va_D A (wT g ha (S.svd.map (fun _ => hs 0), S.ep, S.fc) ++ wQ g (ha 1) S.qv ++ wQ g (ha 2) S.bv ++ wS g (ha 3) S.sv ++ wH g (ha 4) hd S.hv ++ wP g (ha 5) S.pv ++ wL g (ha 5 2) lq ++ wO g (ha 6) S.ov ++ wSv g hs S.svd ++ wM g hm S.mv ++ wOut g oa ol ++ wOud g ob od) := hD
  unfold lawOp_43 at hf
  refine lv_aload_n hx hb dL_law_2525 rfl (lv_at hl 2 rfl) ?_
  obtain ⟨o1, hg2, hf⟩ := jbB_e hf
  have hPr : va_P (gD g) vwCl ((wT g ha (S.svd.map (fun _ => hs 0), S.ep, S.fc) ++ wQ g (ha 1) S.qv ++ wSv g hs S.svd) ++ (wQ g (ha 2) S.bv ++ wS g (ha 3) S.sv ++ wH g (ha 4) hd S.hv ++ wP g (ha 5) S.pv ++ wL g (ha 5 2) lq ++ wO g (ha 6) S.ov ++ wM g hm S.mv ++ wOut g oa ol ++ wOud g ob od)) _ := wp_P (wp_of fun f => by simp only [wOut, wOud, List.countP_append, List.countP_cons, List.countP_nil] <;> omega) hP
  refine czv_v (As := []) (rest := []) (Wr := (wQ g (ha 2) S.bv ++ wS g (ha 3) S.sv ++ wH g (ha 4) hd S.hv ++ wP g (ha 5) S.pv ++ wL g (ha 5 2) lq ++ wO g (ha 6) S.ov ++ wM g hm S.mv ++ wOut g oa ol ++ wOud g ob od)) (Wn := fun hs1 => (wT g ha (some (hs1 0), S.ep, S.fc) ++ wQ g (ha 1) S.qv ++ wQ g (ha 2) S.bv ++ wS g (ha 3) S.sv ++ wH g (ha 4) hd S.hv ++ wP g (ha 5) S.pv ++ wL g (ha 5 2) lq ++ wO g (ha 6) S.ov ++ wSv g hs1 (some o1) ++ wM g hm S.mv ++ wOut g oa ol ++ wOud g ob od)) ⟨hx, hb, hml, hown, hts⟩ (c_X10_save l g ha S.ep S.fc S.qv hs S.svd _ hg2) (cwV 0 hts gL_law_X10_save rfl rfl rfl hd_X10_save ⟨(Nat.le_of_ble_eq_true rfl), (Nat.le_of_ble_eq_true rfl)⟩) hK hZ hT hA hP hD hS hl.1 (va_recv hK hPr (ci := 9) (q0 := 0) rfl rfl) (wp_of fun f => by simp only [wOut, wOud, List.countP_append, List.countP_cons, List.countP_nil] <;> omega) (fun hs1 => (by show (_ ++ (_ ++ wSv g hs1 (some o1))).Perm _; exact (wp_of fun f => by simp only [wOut, wOud, List.countP_append, List.countP_cons, List.countP_nil] <;> omega))) rfl rfl (Nat.le_of_ble_eq_true rfl) ⟨show cells + 10 ≤ 603072 by omega, show slots + 238 ≤ 7190634 by omega⟩ dL_law_2526 (fun hs1 H locs _ hP hD hS => ?_)
  refine lv_aload_n hx hb dL_law_2529 rfl (lv_at hl 3 rfl) ?_
  obtain ⟨o3, hg4, hf⟩ := jbB_e hf
  have hPr : va_P (gD g) vwCl ((wM g hm S.mv) ++ (wT g ha (some (hs1 0), S.ep, S.fc) ++ wQ g (ha 1) S.qv ++ wQ g (ha 2) S.bv ++ wS g (ha 3) S.sv ++ wH g (ha 4) hd S.hv ++ wP g (ha 5) S.pv ++ wL g (ha 5 2) lq ++ wO g (ha 6) S.ov ++ wSv g hs1 (some o1) ++ wOut g oa ol ++ wOud g ob od)) _ := wp_P (wp_of fun f => by simp only [wOut, wOud, List.countP_append, List.countP_cons, List.countP_nil] <;> omega) hP
  refine cpv_v (As := []) (rest := []) (Wr := (wT g ha (some (hs1 0), S.ep, S.fc) ++ wQ g (ha 1) S.qv ++ wQ g (ha 2) S.bv ++ wS g (ha 3) S.sv ++ wH g (ha 4) hd S.hv ++ wP g (ha 5) S.pv ++ wL g (ha 5 2) lq ++ wO g (ha 6) S.ov ++ wSv g hs1 (some o1) ++ wOut g oa ol ++ wOud g ob od)) (Wn := (wT g ha (some (hs1 0), S.ep, S.fc) ++ wQ g (ha 1) S.qv ++ wQ g (ha 2) S.bv ++ wS g (ha 3) S.sv ++ wH g (ha 4) hd S.hv ++ wP g (ha 5) S.pv ++ wL g (ha 5 2) lq ++ wO g (ha 6) S.ov ++ wSv g hs1 (some o1) ++ wM g hm o3 ++ wOut g oa ol ++ wOud g ob od)) ⟨hx, hb, hml, hown, hts⟩ (c_X11_save l g hm S.mv  _ hg4) (cwV 0 hts gL_law_X11_save rfl rfl rfl hd_X11_save ⟨(Nat.le_of_ble_eq_true rfl), (Nat.le_of_ble_eq_true rfl)⟩) hK hZ hT hA hP hD hS hl.1 (va_recv hK hPr (ci := 10) (q0 := 0) rfl rfl) (wp_of fun f => by simp only [wOut, wOud, List.countP_append, List.countP_cons, List.countP_nil] <;> omega) (wp_of fun f => by simp only [wOut, wOud, List.countP_append, List.countP_cons, List.countP_nil] <;> omega) rfl rfl (Nat.le_of_ble_eq_true rfl) ⟨show cells + 10 + 0 ≤ 603072 by omega, show slots + 238 + 0 ≤ 7190634 by omega⟩ dL_law_2530 (fun H locs hP hD hS => ?_)
  cases hf
  refine lv_goto (tgt := 2560) hx hb dL_law_2533 (by decide) ?_
  refine W.widen (k := cells + 60) (n := slots + 700) (by omega) (by omega) ?_
  exact kk hd hs1 lq _ _ _ hok hP hD hS (lv_sub hl [0, 1, 2, 3, 4, 5] rfl)
set_option maxHeartbeats 4000000 in
set_option maxRecDepth 100000 in
theorem lwc_44 {p : Program} {e : Env} {s : State} {mi : MethodId} {args : Array Value} {below : List Frame} {meth : Method} {c : Code} {g : GG} {A : Nat → Prop} {b L : Nat} {xs : Nat → Int32} {Q : State → Prop} (l : Launch) (hlt : l.stackTraces = false) (C0 : LwB p s mi args c g A b L xs)
    (ha hd : Nat → Nat → Nat) (hs hm : Nat → Nat) (lq : ListS) (oa ob : Nat) (S : Sys) (ol : Nat → Int64) (od : Nat → UInt64) (hok : lsOK lq) (i : Int32) (h1 : vp_in (i + 1) L) (h2 : vp_in (i + 2) L) (h3 : vp_in (i + 3) L) (h4 : vp_in (i + 4) L) (r : LR)
    (hf : lawOp_44 S (xs (i + 1).toNatClampNeg) (xs (i + 2).toNatClampNeg) (xs (i + 3).toNatClampNeg) (xs (i + 4).toNatClampNeg) ol od = some r) {H : Heap} {locs : List Loc} {ls : Array Slot} {cells slots : Nat} (hc9 : cells + 60 ≤ 603072) (hs9 : slots + 700 ≤ 7190634)
    (hP : va_P (gD g) vwCl (wSys g ha hd hs hm lq oa ob S ol od) H) (hD : va_D A (wSys g ha hd hs hm lq oa ob S ol od)) (hS : va_S A s.heap H locs) (hl : lv_has ls 10 [(5, .int i), (0, .ref b), (1, .ref (ha 0 0)), (2, .ref (hm 0)), (3, .ref oa), (4, .ref ob)])
    (kk : ∀ (hd : Nat → Nat → Nat) (hs : Nat → Nat) (lq : ListS) (H : Heap) (locs : List Loc) (ls : Array Slot), lsOK lq → va_P (gD g) vwCl (wSys g ha hd hs hm lq oa ob r.1 r.2.1 r.2.2) H → va_D A (wSys g ha hd hs hm lq oa ob r.1 r.2.1 r.2.2) → va_S A s.heap H locs → lv_has ls 10 [(5, .int i), (0, .ref b), (1, .ref (ha 0 0)), (2, .ref (hm 0)), (3, .ref oa), (4, .ref ob)] → W p l e room_1 s mi args below meth c H locs (cells + 60) (slots + 700) Q (F0 mi 2560 ls [])) :
    W p l e room_1 s mi args below meth c H locs cells slots Q (F0 mi 2536 ls []) := by
  obtain ⟨hx, hb, hml, hown, hts, hK, hZ, hT, hA, hX, hbl, hbA⟩ := C0
  have hP : va_P (gD g) vwCl (wT g ha (S.svd.map (fun _ => hs 0), S.ep, S.fc) ++ wQ g (ha 1) S.qv ++ wQ g (ha 2) S.bv ++ wS g (ha 3) S.sv ++ wH g (ha 4) hd S.hv ++ wP g (ha 5) S.pv ++ wL g (ha 5 2) lq ++ wO g (ha 6) S.ov ++ wSv g hs S.svd ++ wM g hm S.mv ++ wOut g oa ol ++ wOud g ob od) H := hP
  have hD : va_D A (wT g ha (S.svd.map (fun _ => hs 0), S.ep, S.fc) ++ wQ g (ha 1) S.qv ++ wQ g (ha 2) S.bv ++ wS g (ha 3) S.sv ++ wH g (ha 4) hd S.hv ++ wP g (ha 5) S.pv ++ wL g (ha 5 2) lq ++ wO g (ha 6) S.ov ++ wSv g hs S.svd ++ wM g hm S.mv ++ wOut g oa ol ++ wOud g ob od) := hD
  unfold lawOp_44 at hf
  refine lv_aload_n hx hb dL_law_2536 rfl (lv_at hl 2 rfl) ?_
  obtain ⟨k1, hg2, hf⟩ := jbB_e hf
  refine cws_i (As := [.ref (ha 0 0)]) (rest := []) (Wr := (wQ g (ha 2) S.bv ++ wS g (ha 3) S.sv ++ wP g (ha 5) S.pv ++ wL g (ha 5 2) lq ++ wO g (ha 6) S.ov ++ wM g hm S.mv ++ wOut g oa ol ++ wOud g ob od)) (Wn := (wT g ha (S.svd.map (fun _ => hs 0), S.ep, S.fc) ++ wQ g (ha 1) (k1.2.1) ++ wQ g (ha 2) S.bv ++ wS g (ha 3) S.sv ++ wH g (ha 4) hd (k1.2.2) ++ wP g (ha 5) S.pv ++ wL g (ha 5 2) lq ++ wO g (ha 6) S.ov ++ wSv g hs S.svd ++ wM g hm S.mv ++ wOut g oa ol ++ wOud g ob od)) ⟨hx, hb, hml, hown, hts⟩ (c_L_restore l hlt g ha hd S.ep S.fc S.qv S.hv hs S.svd  _ hg2) (vx_cwSW 1 hts gL_law_L_restore rfl rfl rfl hd_L_restore.2 ⟨(Nat.le_of_ble_eq_true rfl), (Nat.le_of_ble_eq_true rfl)⟩) hK hZ hT hA hP hD hS hl.1 (wp_of fun f => by simp only [wOut, wOud, List.countP_append, List.countP_cons, List.countP_nil] <;> omega) (wp_of fun f => by simp only [wOut, wOud, List.countP_append, List.countP_cons, List.countP_nil] <;> omega) rfl rfl (Nat.le_of_ble_eq_true rfl) ⟨show cells + 1 ≤ 603072 by omega, show slots + 6 ≤ 7190634 by omega⟩ dL_law_2537 (fun H locs hP hD hS => ?_)
  refine lv_istore (lv' := [(6, .int (k1.1)), (5, .int i), (0, .ref b), (1, .ref (ha 0 0)), (2, .ref (hm 0)), (3, .ref oa), (4, .ref ob)]) hx hb dL_law_2540 hl (by decide) rfl (fun ls hl => ?_)
  refine lv_aload_n hx hb dL_law_2542 rfl (lv_at hl 4 rfl) ?_
  obtain ⟨o3, hg4, hf⟩ := jbB_e hf
  have hPr : va_P (gD g) vwCl ((wM g hm S.mv) ++ (wT g ha (S.svd.map (fun _ => hs 0), S.ep, S.fc) ++ wQ g (ha 1) (k1.2.1) ++ wQ g (ha 2) S.bv ++ wS g (ha 3) S.sv ++ wH g (ha 4) hd (k1.2.2) ++ wP g (ha 5) S.pv ++ wL g (ha 5 2) lq ++ wO g (ha 6) S.ov ++ wSv g hs S.svd ++ wOut g oa ol ++ wOud g ob od)) _ := wp_P (wp_of fun f => by simp only [wOut, wOud, List.countP_append, List.countP_cons, List.countP_nil] <;> omega) hP
  refine cpv_v (As := []) (rest := []) (Wr := (wT g ha (S.svd.map (fun _ => hs 0), S.ep, S.fc) ++ wQ g (ha 1) (k1.2.1) ++ wQ g (ha 2) S.bv ++ wS g (ha 3) S.sv ++ wH g (ha 4) hd (k1.2.2) ++ wP g (ha 5) S.pv ++ wL g (ha 5 2) lq ++ wO g (ha 6) S.ov ++ wSv g hs S.svd ++ wOut g oa ol ++ wOud g ob od)) (Wn := (wT g ha (S.svd.map (fun _ => hs 0), S.ep, S.fc) ++ wQ g (ha 1) (k1.2.1) ++ wQ g (ha 2) S.bv ++ wS g (ha 3) S.sv ++ wH g (ha 4) hd (k1.2.2) ++ wP g (ha 5) S.pv ++ wL g (ha 5 2) lq ++ wO g (ha 6) S.ov ++ wSv g hs S.svd ++ wM g hm o3 ++ wOut g oa ol ++ wOud g ob od)) ⟨hx, hb, hml, hown, hts⟩ (c_X11_restore l g hm S.mv  _ hg4) (cwV 0 hts gL_law_X11_restore rfl rfl rfl hd_X11_restore ⟨(Nat.le_of_ble_eq_true rfl), (Nat.le_of_ble_eq_true rfl)⟩) hK hZ hT hA hP hD hS hl.1 (va_recv hK hPr (ci := 10) (q0 := 0) rfl rfl) (wp_of fun f => by simp only [wOut, wOud, List.countP_append, List.countP_cons, List.countP_nil] <;> omega) (wp_of fun f => by simp only [wOut, wOud, List.countP_append, List.countP_cons, List.countP_nil] <;> omega) rfl rfl (Nat.le_of_ble_eq_true rfl) ⟨show cells + 1 + 0 ≤ 603072 by omega, show slots + 6 + 0 ≤ 7190634 by omega⟩ dL_law_2543 (fun H locs hP hD hS => ?_)
  refine lv_aload_n hx hb dL_law_2546 rfl (lv_at hl 4 rfl) ?_
  obtain ⟨o5, hg6, hf⟩ := jbB_e hf
  have hPr : va_P (gD g) vwCl ((wM g hm o3) ++ (wT g ha (S.svd.map (fun _ => hs 0), S.ep, S.fc) ++ wQ g (ha 1) (k1.2.1) ++ wQ g (ha 2) S.bv ++ wS g (ha 3) S.sv ++ wH g (ha 4) hd (k1.2.2) ++ wP g (ha 5) S.pv ++ wL g (ha 5 2) lq ++ wO g (ha 6) S.ov ++ wSv g hs S.svd ++ wOut g oa ol ++ wOud g ob od)) _ := wp_P (wp_of fun f => by simp only [wOut, wOud, List.countP_append, List.countP_cons, List.countP_nil] <;> omega) hP
  refine cpv_i (As := []) (rest := []) (Wr := (wT g ha (S.svd.map (fun _ => hs 0), S.ep, S.fc) ++ wQ g (ha 1) (k1.2.1) ++ wQ g (ha 2) S.bv ++ wS g (ha 3) S.sv ++ wH g (ha 4) hd (k1.2.2) ++ wP g (ha 5) S.pv ++ wL g (ha 5 2) lq ++ wO g (ha 6) S.ov ++ wSv g hs S.svd ++ wOut g oa ol ++ wOud g ob od)) (Wn := (wT g ha (S.svd.map (fun _ => hs 0), S.ep, S.fc) ++ wQ g (ha 1) (k1.2.1) ++ wQ g (ha 2) S.bv ++ wS g (ha 3) S.sv ++ wH g (ha 4) hd (k1.2.2) ++ wP g (ha 5) S.pv ++ wL g (ha 5 2) lq ++ wO g (ha 6) S.ov ++ wSv g hs S.svd ++ wM g hm o3 ++ wOut g oa ol ++ wOud g ob od)) ⟨hx, hb, hml, hown, hts⟩ (c_X11_thrown l g hm o3  _ hg6) (cwV 0 hts gL_law_X11_thrown rfl rfl rfl hd_X11_thrown ⟨(Nat.le_of_ble_eq_true rfl), (Nat.le_of_ble_eq_true rfl)⟩) hK hZ hT hA hP hD hS hl.1 (va_recv hK hPr (ci := 10) (q0 := 0) rfl rfl) (wp_of fun f => by simp only [wOut, wOud, List.countP_append, List.countP_cons, List.countP_nil] <;> omega) (wp_of fun f => by simp only [wOut, wOud, List.countP_append, List.countP_cons, List.countP_nil] <;> omega) rfl rfl (Nat.le_of_ble_eq_true rfl) ⟨show cells + 1 + 0 ≤ 603072 by omega, show slots + 6 + 0 ≤ 7190634 by omega⟩ dL_law_2547 (fun H locs hP hD hS => ?_)
  refine lv_iload hx hb dL_law_2550 (lv_at hl 0 rfl) ?_
  refine lv_icmp_eq (tgt := 2557) hx hb dL_law_2552 (by decide) (fun hc => ?_) (fun hc => ?_)
  · have hf := jbT hf hc
    cases hf
    refine lv_goto (tgt := 2560) hx hb dL_law_2557 (by decide) ?_
    refine W.widen (k := cells + 60) (n := slots + 700) (by omega) (by omega) ?_
    exact kk hd hs lq _ _ _ hok hP hD hS (lv_sub hl [1, 2, 3, 4, 5, 6] rfl)
  · have hf := jbF hf hc
    cases hf
