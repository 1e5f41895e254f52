set_option maxHeartbeats 4000000 in
set_option maxRecDepth 100000 in
theorem lwc_24 {p : Program} {e : Env} {s : State} {mi : MethodId} {args : Array Value} {below : List Frame} {meth : Method} {c : Code} {g : GG} {A : Nat → Prop} {b L : Nat} {xs : Nat → Int32} {Q : State → Prop} (l : Launch) (hlt : l.stackTraces = false) (C0 : LwB p s mi args c g A b L xs)
    (ha hd : Nat → Nat → Nat) (hs hm : Nat → Nat) (lq : ListS) (oa ob : Nat) (S : Sys) (ol : Nat → Int64) (od : Nat → UInt64) (hok : lsOK lq) (i : Int32) (h1 : vp_in (i + 1) L) (h2 : vp_in (i + 2) L) (h3 : vp_in (i + 3) L) (h4 : vp_in (i + 4) L) (r : LR)
    (hf : lawOp_24 S (xs (i + 1).toNatClampNeg) (xs (i + 2).toNatClampNeg) (xs (i + 3).toNatClampNeg) (xs (i + 4).toNatClampNeg) ol od = some r) {H : Heap} {locs : List Loc} {ls : Array Slot} {cells slots : Nat} (hc9 : cells + 60 ≤ 603072) (hs9 : slots + 700 ≤ 7190634)
    (hP : va_P (gD g) vwCl (wSys g ha hd hs hm lq oa ob S ol od) H) (hD : va_D A (wSys g ha hd hs hm lq oa ob S ol od)) (hS : va_S A s.heap H locs) (hl : lv_has ls 10 [(5, .int i), (0, .ref b), (1, .ref (ha 0 0)), (2, .ref (hm 0)), (3, .ref oa), (4, .ref ob)])
    (kk : ∀ (hd : Nat → Nat → Nat) (hs : Nat → Nat) (lq : ListS) (H : Heap) (locs : List Loc) (ls : Array Slot), lsOK lq → va_P (gD g) vwCl (wSys g ha hd hs hm lq oa ob r.1 r.2.1 r.2.2) H → va_D A (wSys g ha hd hs hm lq oa ob r.1 r.2.1 r.2.2) → va_S A s.heap H locs → lv_has ls 10 [(5, .int i), (0, .ref b), (1, .ref (ha 0 0)), (2, .ref (hm 0)), (3, .ref oa), (4, .ref ob)] → W p l e room_1 s mi args below meth c H locs (cells + 60) (slots + 700) Q (F0 mi 2560 ls [])) :
    W p l e room_1 s mi args below meth c H locs cells slots Q (F0 mi 1800 ls []) := by
  obtain ⟨hx, hb, hml, hown, hts, hK, hZ, hT, hA, hX, hbl, hbA⟩ := C0
  have hP : va_P (gD g) vwCl (wT g ha (S.svd.map (fun _ => hs 0), S.ep, S.fc) ++ wQ g (ha 1) S.qv ++ wQ g (ha 2) S.bv ++ wS g (ha 3) S.sv ++ wH g (ha 4) hd S.hv ++ wP g (ha 5) S.pv ++ wL g (ha 5 2) lq ++ wO g (ha 6) S.ov ++ wSv g hs S.svd ++ wM g hm S.mv ++ wOut g oa ol ++ wOud g ob od) H := hP
  have hD : va_D A (wT g ha (S.svd.map (fun _ => hs 0), S.ep, S.fc) ++ wQ g (ha 1) S.qv ++ wQ g (ha 2) S.bv ++ wS g (ha 3) S.sv ++ wH g (ha 4) hd S.hv ++ wP g (ha 5) S.pv ++ wL g (ha 5 2) lq ++ wO g (ha 6) S.ov ++ wSv g hs S.svd ++ wM g hm S.mv ++ wOut g oa ol ++ wOud g ob od) := hD
  unfold lawOp_24 at hf
  refine lv_aload_n hx hb dL_law_1800 rfl (lv_at hl 2 rfl) ?_
  obtain ⟨o2, hg3, hf⟩ := jbB_e hf
  have hPr : va_P (gD g) vwCl ((wT g ha (S.svd.map (fun _ => hs 0), S.ep, S.fc) ++ wQ g (ha 1) S.qv) ++ (wQ g (ha 2) S.bv ++ wS g (ha 3) S.sv ++ wH g (ha 4) hd S.hv ++ wP g (ha 5) S.pv ++ wL g (ha 5 2) lq ++ wO g (ha 6) S.ov ++ wSv g hs S.svd ++ wM g hm S.mv ++ wOut g oa ol ++ wOud g ob od)) _ := wp_P (wp_of fun f => by simp only [wOut, wOud, List.countP_append, List.countP_cons, List.countP_nil] <;> omega) hP
  refine cpv_i (As := []) (rest := []) (Wr := (wQ g (ha 2) S.bv ++ wS g (ha 3) S.sv ++ wH g (ha 4) hd S.hv ++ wP g (ha 5) S.pv ++ wL g (ha 5 2) lq ++ wO g (ha 6) S.ov ++ wSv g hs S.svd ++ wM g hm S.mv ++ wOut g oa ol ++ wOud g ob od)) (Wn := (wT g ha (S.svd.map (fun _ => hs 0), S.ep, S.fc) ++ wQ g (ha 1) S.qv ++ wQ g (ha 2) S.bv ++ wS g (ha 3) S.sv ++ wH g (ha 4) hd S.hv ++ wP g (ha 5) S.pv ++ wL g (ha 5 2) lq ++ wO g (ha 6) S.ov ++ wSv g hs S.svd ++ wM g hm S.mv ++ wOut g oa ol ++ wOud g ob od)) ⟨hx, hb, hml, hown, hts⟩ (c_X10_winchCount l hlt g ha (S.svd.map (fun _ => hs 0), S.ep, S.fc) S.qv _ hg3) (cwV 0 hts gL_law_X10_winchCount rfl rfl rfl hd_X10_winchCount ⟨(Nat.le_of_ble_eq_true rfl), (Nat.le_of_ble_eq_true rfl)⟩) hK hZ hT hA hP hD hS hl.1 (va_recv hK hPr (ci := 9) (q0 := 0) rfl rfl) (wp_of fun f => by simp only [wOut, wOud, List.countP_append, List.countP_cons, List.countP_nil] <;> omega) (wp_of fun f => by simp only [wOut, wOud, List.countP_append, List.countP_cons, List.countP_nil] <;> omega) rfl rfl (Nat.le_of_ble_eq_true rfl) ⟨show cells + 0 ≤ 603072 by omega, show slots + 0 ≤ 7190634 by omega⟩ dL_law_1801 (fun H locs hP hD hS => ?_)
  refine lv_aload_n hx hb dL_law_1804 rfl (lv_at hl 3 rfl) ?_
  obtain ⟨o4, hg5, hf⟩ := jbB_e hf
  have hPr : va_P (gD g) vwCl ((wM g hm S.mv) ++ (wT g ha (S.svd.map (fun _ => hs 0), S.ep, S.fc) ++ wQ g (ha 1) S.qv ++ wQ g (ha 2) S.bv ++ wS g (ha 3) S.sv ++ wH g (ha 4) hd S.hv ++ wP g (ha 5) S.pv ++ wL g (ha 5 2) lq ++ wO g (ha 6) S.ov ++ wSv g hs S.svd ++ wOut g oa ol ++ wOud g ob od)) _ := wp_P (wp_of fun f => by simp only [wOut, wOud, List.countP_append, List.countP_cons, List.countP_nil] <;> omega) hP
  refine cpv_i (As := []) (rest := [.int o2]) (Wr := (wT g ha (S.svd.map (fun _ => hs 0), S.ep, S.fc) ++ wQ g (ha 1) S.qv ++ wQ g (ha 2) S.bv ++ wS g (ha 3) S.sv ++ wH g (ha 4) hd S.hv ++ wP g (ha 5) S.pv ++ wL g (ha 5 2) lq ++ wO g (ha 6) S.ov ++ wSv g hs S.svd ++ wOut g oa ol ++ wOud g ob od)) (Wn := (wT g ha (S.svd.map (fun _ => hs 0), S.ep, S.fc) ++ wQ g (ha 1) S.qv ++ wQ g (ha 2) S.bv ++ wS g (ha 3) S.sv ++ wH g (ha 4) hd S.hv ++ wP g (ha 5) S.pv ++ wL g (ha 5 2) lq ++ wO g (ha 6) S.ov ++ wSv g hs S.svd ++ wM g hm (o4.2) ++ wOut g oa ol ++ wOud g ob od)) ⟨hx, hb, hml, hown, hts⟩ (c_X11_winchCount l g hm S.mv  _ hg5) (cwV 0 hts gL_law_X11_winchCount rfl rfl rfl hd_X11_winchCount ⟨(Nat.le_of_ble_eq_true rfl), (Nat.le_of_ble_eq_true rfl)⟩) hK hZ hT hA hP hD hS hl.1 (va_recv hK hPr (ci := 10) (q0 := 0) rfl rfl) (wp_of fun f => by simp only [wOut, wOud, List.countP_append, List.countP_cons, List.countP_nil] <;> omega) (wp_of fun f => by simp only [wOut, wOud, List.countP_append, List.countP_cons, List.countP_nil] <;> omega) rfl rfl (Nat.le_of_ble_eq_true rfl) ⟨show cells + 0 ≤ 603072 by omega, show slots + 0 ≤ 7190634 by omega⟩ dL_law_1805 (fun H locs hP hD hS => ?_)
  refine lv_icmp_eq (tgt := 2560) hx hb dL_law_1808 (by decide) (fun hc => ?_) (fun hc => ?_)
  · have hf := jbT hf hc
    cases hf
    refine W.widen (k := cells + 60) (n := slots + 700) (by omega) (by omega) ?_
    exact kk hd hs lq _ _ _ hok hP hD hS (lv_sub hl [0, 1, 2, 3, 4, 5] rfl)
  · have hf := jbF hf hc
    cases hf
set_option maxHeartbeats 4000000 in
set_option maxRecDepth 100000 in
theorem lwc_25 {p : Program} {e : Env} {s : State} {mi : MethodId} {args : Array Value} {below : List Frame} {meth : Method} {c : Code} {g : GG} {A : Nat → Prop} {b L : Nat} {xs : Nat → Int32} {Q : State → Prop} (l : Launch) (hlt : l.stackTraces = false) (C0 : LwB p s mi args c g A b L xs)
    (ha hd : Nat → Nat → Nat) (hs hm : Nat → Nat) (lq : ListS) (oa ob : Nat) (S : Sys) (ol : Nat → Int64) (od : Nat → UInt64) (hok : lsOK lq) (i : Int32) (h1 : vp_in (i + 1) L) (h2 : vp_in (i + 2) L) (h3 : vp_in (i + 3) L) (h4 : vp_in (i + 4) L) (r : LR)
    (hf : lawOp_25 S (xs (i + 1).toNatClampNeg) (xs (i + 2).toNatClampNeg) (xs (i + 3).toNatClampNeg) (xs (i + 4).toNatClampNeg) ol od = some r) {H : Heap} {locs : List Loc} {ls : Array Slot} {cells slots : Nat} (hc9 : cells + 60 ≤ 603072) (hs9 : slots + 700 ≤ 7190634)
    (hP : va_P (gD g) vwCl (wSys g ha hd hs hm lq oa ob S ol od) H) (hD : va_D A (wSys g ha hd hs hm lq oa ob S ol od)) (hS : va_S A s.heap H locs) (hl : lv_has ls 10 [(5, .int i), (0, .ref b), (1, .ref (ha 0 0)), (2, .ref (hm 0)), (3, .ref oa), (4, .ref ob)])
    (kk : ∀ (hd : Nat → Nat → Nat) (hs : Nat → Nat) (lq : ListS) (H : Heap) (locs : List Loc) (ls : Array Slot), lsOK lq → va_P (gD g) vwCl (wSys g ha hd hs hm lq oa ob r.1 r.2.1 r.2.2) H → va_D A (wSys g ha hd hs hm lq oa ob r.1 r.2.1 r.2.2) → va_S A s.heap H locs → lv_has ls 10 [(5, .int i), (0, .ref b), (1, .ref (ha 0 0)), (2, .ref (hm 0)), (3, .ref oa), (4, .ref ob)] → W p l e room_1 s mi args below meth c H locs (cells + 60) (slots + 700) Q (F0 mi 2560 ls [])) :
    W p l e room_1 s mi args below meth c H locs cells slots Q (F0 mi 1813 ls []) := by
  obtain ⟨hx, hb, hml, hown, hts, hK, hZ, hT, hA, hX, hbl, hbA⟩ := C0
  have hP : va_P (gD g) vwCl (wT g ha (S.svd.map (fun _ => hs 0), S.ep, S.fc) ++ wQ g (ha 1) S.qv ++ wQ g (ha 2) S.bv ++ wS g (ha 3) S.sv ++ wH g (ha 4) hd S.hv ++ wP g (ha 5) S.pv ++ wL g (ha 5 2) lq ++ wO g (ha 6) S.ov ++ wSv g hs S.svd ++ wM g hm S.mv ++ wOut g oa ol ++ wOud g ob od) H := hP
  have hD : va_D A (wT g ha (S.svd.map (fun _ => hs 0), S.ep, S.fc) ++ wQ g (ha 1) S.qv ++ wQ g (ha 2) S.bv ++ wS g (ha 3) S.sv ++ wH g (ha 4) hd S.hv ++ wP g (ha 5) S.pv ++ wL g (ha 5 2) lq ++ wO g (ha 6) S.ov ++ wSv g hs S.svd ++ wM g hm S.mv ++ wOut g oa ol ++ wOud g ob od) := hD
  unfold lawOp_25 at hf
  refine lv_aload_n hx hb dL_law_1813 rfl (lv_at hl 2 rfl) ?_
  refine lv_aload_n hx hb dL_law_1814 rfl (lv_at hl 1 rfl) ?_
  refine lv_iload hx hb dL_law_1815 (lv_at hl 0 rfl) ?_
  refine lv_iconst (v := 1) hx hb dL_law_1817 (by decide) ?_
  refine lv_iadd hx hb dL_law_1818 ?_
  refine va_sld hx hb hX hbl hbA hS h1 dL_law_1819 ?_
  refine lv_aload_n hx hb dL_law_1820 rfl (lv_at hl 4 rfl) ?_
  obtain ⟨k1, hg2, hf⟩ := jbB_e hf
  refine cws_i (As := [.ref (ha 0 0), .int (xs (i + 1).toNatClampNeg), .ref oa]) (rest := []) (Wr := (wQ g (ha 2) S.bv ++ wS g (ha 3) S.sv ++ wH g (ha 4) hd S.hv ++ wP g (ha 5) S.pv ++ wL g (ha 5 2) lq ++ wO g (ha 6) S.ov ++ wSv g hs S.svd ++ wM g hm S.mv ++ wOud g ob od)) (Wn := (wT g ha (S.svd.map (fun _ => hs 0), S.ep, S.fc) ++ wQ g (ha 1) S.qv ++ wQ g (ha 2) S.bv ++ wS g (ha 3) S.sv ++ wH g (ha 4) hd S.hv ++ wP g (ha 5) S.pv ++ wL g (ha 5 2) lq ++ wO g (ha 6) S.ov ++ wSv g hs S.svd ++ wM g hm S.mv ++ wOut g oa (k1.2) ++ wOud g ob od)) ⟨hx, hb, hml, hown, hts⟩ (c_L_liftableCells l hlt g ha (S.svd.map (fun _ => hs 0), S.ep, S.fc) S.qv (xs (i + 1).toNatClampNeg) oa ol _ hg2) (vx_cwSW 3 hts gL_law_L_liftableCells rfl rfl rfl hd_L_liftableCells.2 ⟨(Nat.le_of_ble_eq_true rfl), (Nat.le_of_ble_eq_true rfl)⟩) hK hZ hT hA hP hD hS hl.1 (wp_of fun f => by simp only [wOut, wOud, List.countP_append, List.countP_cons, List.countP_nil] <;> omega) (wp_of fun f => by simp only [wOut, wOud, List.countP_append, List.countP_cons, List.countP_nil] <;> omega) rfl rfl (Nat.le_of_ble_eq_true rfl) ⟨show cells + 1 ≤ 603072 by omega, show slots + 6 ≤ 7190634 by omega⟩ dL_law_1821 (fun H locs hP hD hS => ?_)
  refine lv_istore (lv' := [(6, .int (k1.1)), (5, .int i), (0, .ref b), (1, .ref (ha 0 0)), (2, .ref (hm 0)), (3, .ref oa), (4, .ref ob)]) hx hb dL_law_1824 hl (by decide) rfl (fun ls hl => ?_)
  refine lv_aload_n hx hb dL_law_1826 rfl (lv_at hl 4 rfl) ?_
  refine lv_aload_n hx hb dL_law_1827 rfl (lv_at hl 2 rfl) ?_
  refine lv_iload hx hb dL_law_1828 (lv_at hl 1 rfl) ?_
  refine lv_iconst (v := 1) hx hb dL_law_1830 (by decide) ?_
  refine lv_iadd hx hb dL_law_1831 ?_
  refine va_sld hx hb hX hbl hbA hS h1 dL_law_1832 ?_
  obtain ⟨o3, hg4, hf⟩ := jbB_e hf
  have hPr : va_P (gD g) vwCl ((wM g hm S.mv) ++ (wT g ha (S.svd.map (fun _ => hs 0), S.ep, S.fc) ++ wQ g (ha 1) S.qv ++ wQ g (ha 2) S.bv ++ wS g (ha 3) S.sv ++ wH g (ha 4) hd S.hv ++ wP g (ha 5) S.pv ++ wL g (ha 5 2) lq ++ wO g (ha 6) S.ov ++ wSv g hs S.svd ++ wOut g oa (k1.2) ++ wOud g ob od)) _ := wp_P (wp_of fun f => by simp only [wOut, wOud, List.countP_append, List.countP_cons, List.countP_nil] <;> omega) hP
  refine cpv_i (As := [.int (xs (i + 1).toNatClampNeg)]) (rest := []) (Wr := (wT g ha (S.svd.map (fun _ => hs 0), S.ep, S.fc) ++ wQ g (ha 1) S.qv ++ wQ g (ha 2) S.bv ++ wS g (ha 3) S.sv ++ wH g (ha 4) hd S.hv ++ wP g (ha 5) S.pv ++ wL g (ha 5 2) lq ++ wO g (ha 6) S.ov ++ wSv g hs S.svd ++ wOut g oa (k1.2) ++ wOud g ob od)) (Wn := (wT g ha (S.svd.map (fun _ => hs 0), S.ep, S.fc) ++ wQ g (ha 1) S.qv ++ wQ g (ha 2) S.bv ++ wS g (ha 3) S.sv ++ wH g (ha 4) hd S.hv ++ wP g (ha 5) S.pv ++ wL g (ha 5 2) lq ++ wO g (ha 6) S.ov ++ wSv g hs S.svd ++ wM g hm (o3.2) ++ wOut g oa (k1.2) ++ wOud g ob od)) ⟨hx, hb, hml, hown, hts⟩ (c_X11_liftableCells l g hm S.mv (xs (i + 1).toNatClampNeg) _ hg4) (cwV 1 hts gL_law_X11_liftableCells rfl rfl rfl hd_X11_liftableCells ⟨(Nat.le_of_ble_eq_true rfl), (Nat.le_of_ble_eq_true rfl)⟩) hK hZ hT hA hP hD hS hl.1 (va_recv hK hPr (ci := 10) (q0 := 0) rfl rfl) (wp_of fun f => by simp only [wOut, wOud, List.countP_append, List.countP_cons, List.countP_nil] <;> omega) (wp_of fun f => by simp only [wOut, wOud, List.countP_append, List.countP_cons, List.countP_nil] <;> omega) rfl rfl (Nat.le_of_ble_eq_true rfl) ⟨show cells + 1 + 0 ≤ 603072 by omega, show slots + 6 + 0 ≤ 7190634 by omega⟩ dL_law_1833 (fun H locs hP hD hS => ?_)
  refine lv_istore (lv' := [(7, .int (o3.1)), (6, .int (k1.1)), (5, .int i), (0, .ref b), (1, .ref (ha 0 0)), (2, .ref (hm 0)), (3, .ref oa), (4, .ref ob)]) hx hb dL_law_1836 hl (by decide) rfl (fun ls hl => ?_)
  refine lv_aload_n hx hb dL_law_1838 rfl (lv_at hl 5 rfl) ?_
  obtain ⟨o5, hg6, hf⟩ := jbB_e hf
  have hPr : va_P (gD g) vwCl ((wM g hm (o3.2)) ++ (wT g ha (S.svd.map (fun _ => hs 0), S.ep, S.fc) ++ wQ g (ha 1) S.qv ++ wQ g (ha 2) S.bv ++ wS g (ha 3) S.sv ++ wH g (ha 4) hd S.hv ++ wP g (ha 5) S.pv ++ wL g (ha 5 2) lq ++ wO g (ha 6) S.ov ++ wSv g hs S.svd ++ wOut g oa (k1.2) ++ wOud g ob od)) _ := wp_P (wp_of fun f => by simp only [wOut, wOud, List.countP_append, List.countP_cons, List.countP_nil] <;> omega) hP
  refine cpv_i (As := []) (rest := []) (Wr := (wT g ha (S.svd.map (fun _ => hs 0), S.ep, S.fc) ++ wQ g (ha 1) S.qv ++ wQ g (ha 2) S.bv ++ wS g (ha 3) S.sv ++ wH g (ha 4) hd S.hv ++ wP g (ha 5) S.pv ++ wL g (ha 5 2) lq ++ wO g (ha 6) S.ov ++ wSv g hs S.svd ++ wOut g oa (k1.2) ++ wOud g ob od)) (Wn := (wT g ha (S.svd.map (fun _ => hs 0), S.ep, S.fc) ++ wQ g (ha 1) S.qv ++ wQ g (ha 2) S.bv ++ wS g (ha 3) S.sv ++ wH g (ha 4) hd S.hv ++ wP g (ha 5) S.pv ++ wL g (ha 5 2) lq ++ wO g (ha 6) S.ov ++ wSv g hs S.svd ++ wM g hm (o3.2) ++ wOut g oa (k1.2) ++ wOud g ob od)) ⟨hx, hb, hml, hown, hts⟩ (c_X11_thrown l g hm (o3.2)  _ hg6) (cwV 0 hts gL_law_X11_thrown rfl rfl rfl hd_X11_thrown ⟨(Nat.le_of_ble_eq_true rfl), (Nat.le_of_ble_eq_true rfl)⟩) hK hZ hT hA hP hD hS hl.1 (va_recv hK hPr (ci := 10) (q0 := 0) rfl rfl) (wp_of fun f => by simp only [wOut, wOud, List.countP_append, List.countP_cons, List.countP_nil] <;> omega) (wp_of fun f => by simp only [wOut, wOud, List.countP_append, List.countP_cons, List.countP_nil] <;> omega) rfl rfl (Nat.le_of_ble_eq_true rfl) ⟨show cells + 1 + 0 ≤ 603072 by omega, show slots + 6 + 0 ≤ 7190634 by omega⟩ dL_law_1839 (fun H locs hP hD hS => ?_)
  refine lv_iload hx hb dL_law_1842 (lv_at hl 1 rfl) ?_
  refine lv_icmp_eq (tgt := 1849) hx hb dL_law_1844 (by decide) (fun hc => ?_) (fun hc => ?_)
  · have hf := jbT hf hc
    refine lv_iload hx hb dL_law_1849 (lv_at hl 1 rfl) ?_
    refine lv_if_ne (tgt := 1866) hx hb dL_law_1851 (by decide) (fun hc2 => ?_) (fun hc2 => ?_)
    · have hf := jbF hf hc2
      cases hf
      refine lv_goto (tgt := 2560) hx hb dL_law_1866 (by decide) ?_
      refine W.widen (k := cells + 60) (n := slots + 700) (by omega) (by omega) ?_
      exact kk hd hs lq _ _ _ hok hP hD hS (lv_sub hl [2, 3, 4, 5, 6, 7] rfl)
    · have hf := jbT hf hc2
      refine lv_aload_n hx hb dL_law_1854 rfl (lv_at hl 6 rfl) ?_
      refine lv_iconst (v := 0) hx hb dL_law_1855 (by decide) ?_
      have hP9 : va_P (gD g) vwCl ((wOut g oa (k1.2)) ++ (wT g ha (S.svd.map (fun _ => hs 0), S.ep, S.fc) ++ wQ g (ha 1) S.qv ++ wQ g (ha 2) S.bv ++ wS g (ha 3) S.sv ++ wH g (ha 4) hd S.hv ++ wP g (ha 5) S.pv ++ wL g (ha 5 2) lq ++ wO g (ha 6) S.ov ++ wSv g hs S.svd ++ wM g hm (o3.2) ++ wOud g ob od)) _ := wp_P (wp_of fun f => by simp only [wOut, wOud, List.countP_append, List.countP_cons, List.countP_nil] <;> omega) hP
      refine va_lald hx hb hK hP9 0 3 rfl rfl (i := 0) vp_in01 dL_law_1856 ?_
      refine lv_iload hx hb dL_law_1857 (lv_at hl 0 rfl) ?_
      obtain ⟨he, hf⟩ := jbA_e hf
      cases hf
      refine lv_i2l (v := (o3.1).toInt64) hx hb dL_law_1859 rfl ?_
      refine W.lcmp hx hb dL_law_1860 ?_
      refine lv_if_eq (tgt := 1866) hx hb dL_law_1861 (by decide) (fun hc => ?_) (fun hc => absurd (by rw [he]; exact lg_cmp_self _) hc)
      refine lv_goto (tgt := 2560) hx hb dL_law_1866 (by decide) ?_
      refine W.widen (k := cells + 60) (n := slots + 700) (by omega) (by omega) ?_
      exact kk hd hs lq _ _ _ hok hP hD hS (lv_sub hl [2, 3, 4, 5, 6, 7] rfl)
  · have hf := jbF hf hc
    cases hf
set_option maxHeartbeats 4000000 in
set_option maxRecDepth 100000 in
theorem lwc_26 {p : Program} {e : Env} {s : State} {mi : MethodId} {args : Array Value} {below : List Frame} {meth : Method} {c : Code} {g : GG} {A : Nat → Prop} {b L : Nat} {xs : Nat → Int32} {Q : State → Prop} (l : Launch) (hlt : l.stackTraces = false) (C0 : LwB p s mi args c g A b L xs)
    (ha hd : Nat → Nat → Nat) (hs hm : Nat → Nat) (lq : ListS) (oa ob : Nat) (S : Sys) (ol : Nat → Int64) (od : Nat → UInt64) (hok : lsOK lq) (i : Int32) (h1 : vp_in (i + 1) L) (h2 : vp_in (i + 2) L) (h3 : vp_in (i + 3) L) (h4 : vp_in (i + 4) L) (r : LR)
    (hf : lawOp_26 S (xs (i + 1).toNatClampNeg) (xs (i + 2).toNatClampNeg) (xs (i + 3).toNatClampNeg) (xs (i + 4).toNatClampNeg) ol od = some r) {H : Heap} {locs : List Loc} {ls : Array Slot} {cells slots : Nat} (hc9 : cells + 60 ≤ 603072) (hs9 : slots + 700 ≤ 7190634)
    (hP : va_P (gD g) vwCl (wSys g ha hd hs hm lq oa ob S ol od) H) (hD : va_D A (wSys g ha hd hs hm lq oa ob S ol od)) (hS : va_S A s.heap H locs) (hl : lv_has ls 10 [(5, .int i), (0, .ref b), (1, .ref (ha 0 0)), (2, .ref (hm 0)), (3, .ref oa), (4, .ref ob)])
    (kk : ∀ (hd : Nat → Nat → Nat) (hs : Nat → Nat) (lq : ListS) (H : Heap) (locs : List Loc) (ls : Array Slot), lsOK lq → va_P (gD g) vwCl (wSys g ha hd hs hm lq oa ob r.1 r.2.1 r.2.2) H → va_D A (wSys g ha hd hs hm lq oa ob r.1 r.2.1 r.2.2) → va_S A s.heap H locs → lv_has ls 10 [(5, .int i), (0, .ref b), (1, .ref (ha 0 0)), (2, .ref (hm 0)), (3, .ref oa), (4, .ref ob)] → W p l e room_1 s mi args below meth c H locs (cells + 60) (slots + 700) Q (F0 mi 2560 ls [])) :
    W p l e room_1 s mi args below meth c H locs cells slots Q (F0 mi 1869 ls []) := by
  obtain ⟨hx, hb, hml, hown, hts, hK, hZ, hT, hA, hX, hbl, hbA⟩ := C0
  have hP : va_P (gD g) vwCl (wT g ha (S.svd.map (fun _ => hs 0), S.ep, S.fc) ++ wQ g (ha 1) S.qv ++ wQ g (ha 2) S.bv ++ wS g (ha 3) S.sv ++ wH g (ha 4) hd S.hv ++ wP g (ha 5) S.pv ++ wL g (ha 5 2) lq ++ wO g (ha 6) S.ov ++ wSv g hs S.svd ++ wM g hm S.mv ++ wOut g oa ol ++ wOud g ob od) H := hP
  have hD : va_D A (wT g ha (S.svd.map (fun _ => hs 0), S.ep, S.fc) ++ wQ g (ha 1) S.qv ++ wQ g (ha 2) S.bv ++ wS g (ha 3) S.sv ++ wH g (ha 4) hd S.hv ++ wP g (ha 5) S.pv ++ wL g (ha 5 2) lq ++ wO g (ha 6) S.ov ++ wSv g hs S.svd ++ wM g hm S.mv ++ wOut g oa ol ++ wOud g ob od) := hD
  unfold lawOp_26 at hf
  refine lv_aload_n hx hb dL_law_1869 rfl (lv_at hl 2 rfl) ?_
  refine lv_aload_n hx hb dL_law_1870 rfl (lv_at hl 1 rfl) ?_
  refine lv_iload hx hb dL_law_1871 (lv_at hl 0 rfl) ?_
  refine lv_iconst (v := 1) hx hb dL_law_1873 (by decide) ?_
  refine lv_iadd hx hb dL_law_1874 ?_
  refine va_sld hx hb hX hbl hbA hS h1 dL_law_1875 ?_
  refine lv_aload_n hx hb dL_law_1876 rfl (lv_at hl 1 rfl) ?_
  refine lv_iload hx hb dL_law_1877 (lv_at hl 0 rfl) ?_
  refine lv_iconst (v := 2) hx hb dL_law_1879 (by decide) ?_
  refine lv_iadd hx hb dL_law_1880 ?_
  refine va_sld hx hb hX hbl hbA hS h2 dL_law_1881 ?_
  refine lv_aload_n hx hb dL_law_1882 rfl (lv_at hl 4 rfl) ?_
  obtain ⟨k1, hg2, hf⟩ := jbB_e hf
  refine cws_i (As := [.ref (ha 0 0), .int (xs (i + 1).toNatClampNeg), .int (xs (i + 2).toNatClampNeg), .ref oa]) (rest := []) (Wr := (wQ g (ha 2) S.bv ++ wS g (ha 3) S.sv ++ wH g (ha 4) hd S.hv ++ wP g (ha 5) S.pv ++ wL g (ha 5 2) lq ++ wO g (ha 6) S.ov ++ wSv g hs S.svd ++ wM g hm S.mv ++ wOud g ob od)) (Wn := (wT g ha (S.svd.map (fun _ => hs 0), S.ep, S.fc) ++ wQ g (ha 1) S.qv ++ wQ g (ha 2) S.bv ++ wS g (ha 3) S.sv ++ wH g (ha 4) hd S.hv ++ wP g (ha 5) S.pv ++ wL g (ha 5 2) lq ++ wO g (ha 6) S.ov ++ wSv g hs S.svd ++ wM g hm S.mv ++ wOut g oa (k1.2) ++ wOud g ob od)) ⟨hx, hb, hml, hown, hts⟩ (c_L_bestWinch l hlt g ha (S.svd.map (fun _ => hs 0), S.ep, S.fc) S.qv (xs (i + 1).toNatClampNeg) (xs (i + 2).toNatClampNeg) oa ol _ hg2) (vx_cwSW 4 hts gL_law_L_bestWinch rfl rfl rfl hd_L_bestWinch.2 ⟨(Nat.le_of_ble_eq_true rfl), (Nat.le_of_ble_eq_true rfl)⟩) hK hZ hT hA hP hD hS hl.1 (wp_of fun f => by simp only [wOut, wOud, List.countP_append, List.countP_cons, List.countP_nil] <;> omega) (wp_of fun f => by simp only [wOut, wOud, List.countP_append, List.countP_cons, List.countP_nil] <;> omega) rfl rfl (Nat.le_of_ble_eq_true rfl) ⟨show cells + 2 ≤ 603072 by omega, show slots + 12 ≤ 7190634 by omega⟩ dL_law_1883 (fun H locs hP hD hS => ?_)
  refine lv_istore (lv' := [(6, .int (k1.1)), (5, .int i), (0, .ref b), (1, .ref (ha 0 0)), (2, .ref (hm 0)), (3, .ref oa), (4, .ref ob)]) hx hb dL_law_1886 hl (by decide) rfl (fun ls hl => ?_)
  refine lv_aload_n hx hb dL_law_1888 rfl (lv_at hl 4 rfl) ?_
  refine lv_aload_n hx hb dL_law_1889 rfl (lv_at hl 2 rfl) ?_
  refine lv_iload hx hb dL_law_1890 (lv_at hl 1 rfl) ?_
  refine lv_iconst (v := 1) hx hb dL_law_1892 (by decide) ?_
  refine lv_iadd hx hb dL_law_1893 ?_
  refine va_sld hx hb hX hbl hbA hS h1 dL_law_1894 ?_
  refine lv_aload_n hx hb dL_law_1895 rfl (lv_at hl 2 rfl) ?_
  refine lv_iload hx hb dL_law_1896 (lv_at hl 1 rfl) ?_
  refine lv_iconst (v := 2) hx hb dL_law_1898 (by decide) ?_
  refine lv_iadd hx hb dL_law_1899 ?_
  refine va_sld hx hb hX hbl hbA hS h2 dL_law_1900 ?_
  obtain ⟨o3, hg4, hf⟩ := jbB_e hf
  have hPr : va_P (gD g) vwCl ((wM g hm S.mv) ++ (wT g ha (S.svd.map (fun _ => hs 0), S.ep, S.fc) ++ wQ g (ha 1) S.qv ++ wQ g (ha 2) S.bv ++ wS g (ha 3) S.sv ++ wH g (ha 4) hd S.hv ++ wP g (ha 5) S.pv ++ wL g (ha 5 2) lq ++ wO g (ha 6) S.ov ++ wSv g hs S.svd ++ wOut g oa (k1.2) ++ wOud g ob od)) _ := wp_P (wp_of fun f => by simp only [wOut, wOud, List.countP_append, List.countP_cons, List.countP_nil] <;> omega) hP
  refine cpv_i (As := [.int (xs (i + 1).toNatClampNeg), .int (xs (i + 2).toNatClampNeg)]) (rest := []) (Wr := (wT g ha (S.svd.map (fun _ => hs 0), S.ep, S.fc) ++ wQ g (ha 1) S.qv ++ wQ g (ha 2) S.bv ++ wS g (ha 3) S.sv ++ wH g (ha 4) hd S.hv ++ wP g (ha 5) S.pv ++ wL g (ha 5 2) lq ++ wO g (ha 6) S.ov ++ wSv g hs S.svd ++ wOut g oa (k1.2) ++ wOud g ob od)) (Wn := (wT g ha (S.svd.map (fun _ => hs 0), S.ep, S.fc) ++ wQ g (ha 1) S.qv ++ wQ g (ha 2) S.bv ++ wS g (ha 3) S.sv ++ wH g (ha 4) hd S.hv ++ wP g (ha 5) S.pv ++ wL g (ha 5 2) lq ++ wO g (ha 6) S.ov ++ wSv g hs S.svd ++ wM g hm (o3.2) ++ wOut g oa (k1.2) ++ wOud g ob od)) ⟨hx, hb, hml, hown, hts⟩ (c_X11_bestWinch l g hm S.mv (xs (i + 1).toNatClampNeg) (xs (i + 2).toNatClampNeg) _ hg4) (cwV 2 hts gL_law_X11_bestWinch rfl rfl rfl hd_X11_bestWinch ⟨(Nat.le_of_ble_eq_true rfl), (Nat.le_of_ble_eq_true rfl)⟩) hK hZ hT hA hP hD hS hl.1 (va_recv hK hPr (ci := 10) (q0 := 0) rfl rfl) (wp_of fun f => by simp only [wOut, wOud, List.countP_append, List.countP_cons, List.countP_nil] <;> omega) (wp_of fun f => by simp only [wOut, wOud, List.countP_append, List.countP_cons, List.countP_nil] <;> omega) rfl rfl (Nat.le_of_ble_eq_true rfl) ⟨show cells + 2 + 0 ≤ 603072 by omega, show slots + 12 + 0 ≤ 7190634 by omega⟩ dL_law_1901 (fun H locs hP hD hS => ?_)
  refine lv_istore (lv' := [(7, .int (o3.1)), (6, .int (k1.1)), (5, .int i), (0, .ref b), (1, .ref (ha 0 0)), (2, .ref (hm 0)), (3, .ref oa), (4, .ref ob)]) hx hb dL_law_1904 hl (by decide) rfl (fun ls hl => ?_)
  refine lv_aload_n hx hb dL_law_1906 rfl (lv_at hl 5 rfl) ?_
  obtain ⟨o5, hg6, hf⟩ := jbB_e hf
  have hPr : va_P (gD g) vwCl ((wM g hm (o3.2)) ++ (wT g ha (S.svd.map (fun _ => hs 0), S.ep, S.fc) ++ wQ g (ha 1) S.qv ++ wQ g (ha 2) S.bv ++ wS g (ha 3) S.sv ++ wH g (ha 4) hd S.hv ++ wP g (ha 5) S.pv ++ wL g (ha 5 2) lq ++ wO g (ha 6) S.ov ++ wSv g hs S.svd ++ wOut g oa (k1.2) ++ wOud g ob od)) _ := wp_P (wp_of fun f => by simp only [wOut, wOud, List.countP_append, List.countP_cons, List.countP_nil] <;> omega) hP
  refine cpv_i (As := []) (rest := []) (Wr := (wT g ha (S.svd.map (fun _ => hs 0), S.ep, S.fc) ++ wQ g (ha 1) S.qv ++ wQ g (ha 2) S.bv ++ wS g (ha 3) S.sv ++ wH g (ha 4) hd S.hv ++ wP g (ha 5) S.pv ++ wL g (ha 5 2) lq ++ wO g (ha 6) S.ov ++ wSv g hs S.svd ++ wOut g oa (k1.2) ++ wOud g ob od)) (Wn := (wT g ha (S.svd.map (fun _ => hs 0), S.ep, S.fc) ++ wQ g (ha 1) S.qv ++ wQ g (ha 2) S.bv ++ wS g (ha 3) S.sv ++ wH g (ha 4) hd S.hv ++ wP g (ha 5) S.pv ++ wL g (ha 5 2) lq ++ wO g (ha 6) S.ov ++ wSv g hs S.svd ++ wM g hm (o3.2) ++ wOut g oa (k1.2) ++ wOud g ob od)) ⟨hx, hb, hml, hown, hts⟩ (c_X11_thrown l g hm (o3.2)  _ hg6) (cwV 0 hts gL_law_X11_thrown rfl rfl rfl hd_X11_thrown ⟨(Nat.le_of_ble_eq_true rfl), (Nat.le_of_ble_eq_true rfl)⟩) hK hZ hT hA hP hD hS hl.1 (va_recv hK hPr (ci := 10) (q0 := 0) rfl rfl) (wp_of fun f => by simp only [wOut, wOud, List.countP_append, List.countP_cons, List.countP_nil] <;> omega) (wp_of fun f => by simp only [wOut, wOud, List.countP_append, List.countP_cons, List.countP_nil] <;> omega) rfl rfl (Nat.le_of_ble_eq_true rfl) ⟨show cells + 2 + 0 ≤ 603072 by omega, show slots + 12 + 0 ≤ 7190634 by omega⟩ dL_law_1907 (fun H locs hP hD hS => ?_)
  refine lv_iload hx hb dL_law_1910 (lv_at hl 1 rfl) ?_
  refine lv_icmp_eq (tgt := 1917) hx hb dL_law_1912 (by decide) (fun hc => ?_) (fun hc => ?_)
  · have hf := jbT hf hc
    refine lv_iload hx hb dL_law_1917 (lv_at hl 1 rfl) ?_
    refine lv_if_ne (tgt := 1934) hx hb dL_law_1919 (by decide) (fun hc2 => ?_) (fun hc2 => ?_)
    · have hf := jbF hf hc2
      cases hf
      refine lv_goto (tgt := 2560) hx hb dL_law_1934 (by decide) ?_
      refine W.widen (k := cells + 60) (n := slots + 700) (by omega) (by omega) ?_
      exact kk hd hs lq _ _ _ hok hP hD hS (lv_sub hl [2, 3, 4, 5, 6, 7] rfl)
    · have hf := jbT hf hc2
      refine lv_aload_n hx hb dL_law_1922 rfl (lv_at hl 6 rfl) ?_
      refine lv_iconst (v := 0) hx hb dL_law_1923 (by decide) ?_
      have hP9 : va_P (gD g) vwCl ((wOut g oa (k1.2)) ++ (wT g ha (S.svd.map (fun _ => hs 0), S.ep, S.fc) ++ wQ g (ha 1) S.qv ++ wQ g (ha 2) S.bv ++ wS g (ha 3) S.sv ++ wH g (ha 4) hd S.hv ++ wP g (ha 5) S.pv ++ wL g (ha 5 2) lq ++ wO g (ha 6) S.ov ++ wSv g hs S.svd ++ wM g hm (o3.2) ++ wOud g ob od)) _ := wp_P (wp_of fun f => by simp only [wOut, wOud, List.countP_append, List.countP_cons, List.countP_nil] <;> omega) hP
      refine va_lald hx hb hK hP9 0 3 rfl rfl (i := 0) vp_in01 dL_law_1924 ?_
      refine lv_iload hx hb dL_law_1925 (lv_at hl 0 rfl) ?_
      obtain ⟨he, hf⟩ := jbA_e hf
      cases hf
      refine lv_i2l (v := (o3.1).toInt64) hx hb dL_law_1927 rfl ?_
      refine W.lcmp hx hb dL_law_1928 ?_
      refine lv_if_eq (tgt := 1934) hx hb dL_law_1929 (by decide) (fun hc => ?_) (fun hc => absurd (by rw [he]; exact lg_cmp_self _) hc)
      refine lv_goto (tgt := 2560) hx hb dL_law_1934 (by decide) ?_
      refine W.widen (k := cells + 60) (n := slots + 700) (by omega) (by omega) ?_
      exact kk hd hs lq _ _ _ hok hP hD hS (lv_sub hl [2, 3, 4, 5, 6, 7] rfl)
  · have hf := jbF hf hc
    cases hf
set_option maxHeartbeats 4000000 in
set_option maxRecDepth 100000 in
theorem lwc_27 {p : Program} {e : Env} {s : State} {mi : MethodId} {args : Array Value} {below : List Frame} {meth : Method} {c : Code} {g : GG} {A : Nat → Prop} {b L : Nat} {xs : Nat → Int32} {Q : State → Prop} (l : Launch) (hlt : l.stackTraces = false) (C0 : LwB p s mi args c g A b L xs)
    (ha hd : Nat → Nat → Nat) (hs hm : Nat → Nat) (lq : ListS) (oa ob : Nat) (S : Sys) (ol : Nat → Int64) (od : Nat → UInt64) (hok : lsOK lq) (i : Int32) (h1 : vp_in (i + 1) L) (h2 : vp_in (i + 2) L) (h3 : vp_in (i + 3) L) (h4 : vp_in (i + 4) L) (r : LR)
    (hf : lawOp_27 S (xs (i + 1).toNatClampNeg) (xs (i + 2).toNatClampNeg) (xs (i + 3).toNatClampNeg) (xs (i + 4).toNatClampNeg) ol od = some r) {H : Heap} {locs : List Loc} {ls : Array Slot} {cells slots : Nat} (hc9 : cells + 60 ≤ 603072) (hs9 : slots + 700 ≤ 7190634)
    (hP : va_P (gD g) vwCl (wSys g ha hd hs hm lq oa ob S ol od) H) (hD : va_D A (wSys g ha hd hs hm lq oa ob S ol od)) (hS : va_S A s.heap H locs) (hl : lv_has ls 10 [(5, .int i), (0, .ref b), (1, .ref (ha 0 0)), (2, .ref (hm 0)), (3, .ref oa), (4, .ref ob)])
    (kk : ∀ (hd : Nat → Nat → Nat) (hs : Nat → Nat) (lq : ListS) (H : Heap) (locs : List Loc) (ls : Array Slot), lsOK lq → va_P (gD g) vwCl (wSys g ha hd hs hm lq oa ob r.1 r.2.1 r.2.2) H → va_D A (wSys g ha hd hs hm lq oa ob r.1 r.2.1 r.2.2) → va_S A s.heap H locs → lv_has ls 10 [(5, .int i), (0, .ref b), (1, .ref (ha 0 0)), (2, .ref (hm 0)), (3, .ref oa), (4, .ref ob)] → W p l e room_1 s mi args below meth c H locs (cells + 60) (slots + 700) Q (F0 mi 2560 ls [])) :
    W p l e room_1 s mi args below meth c H locs cells slots Q (F0 mi 1937 ls []) := by
  obtain ⟨hx, hb, hml, hown, hts, hK, hZ, hT, hA, hX, hbl, hbA⟩ := C0
  have hP : va_P (gD g) vwCl (wT g ha (S.svd.map (fun _ => hs 0), S.ep, S.fc) ++ wQ g (ha 1) S.qv ++ wQ g (ha 2) S.bv ++ wS g (ha 3) S.sv ++ wH g (ha 4) hd S.hv ++ wP g (ha 5) S.pv ++ wL g (ha 5 2) lq ++ wO g (ha 6) S.ov ++ wSv g hs S.svd ++ wM g hm S.mv ++ wOut g oa ol ++ wOud g ob od) H := hP
  have hD : va_D A (wT g ha (S.svd.map (fun _ => hs 0), S.ep, S.fc) ++ wQ g (ha 1) S.qv ++ wQ g (ha 2) S.bv ++ wS g (ha 3) S.sv ++ wH g (ha 4) hd S.hv ++ wP g (ha 5) S.pv ++ wL g (ha 5 2) lq ++ wO g (ha 6) S.ov ++ wSv g hs S.svd ++ wM g hm S.mv ++ wOut g oa ol ++ wOud g ob od) := hD
  unfold lawOp_27 at hf
  refine lv_aload_n hx hb dL_law_1937 rfl (lv_at hl 2 rfl) ?_
  refine lv_aload_n hx hb dL_law_1938 rfl (lv_at hl 1 rfl) ?_
  refine lv_iload hx hb dL_law_1939 (lv_at hl 0 rfl) ?_
  refine lv_iconst (v := 1) hx hb dL_law_1941 (by decide) ?_
  refine lv_iadd hx hb dL_law_1942 ?_
  refine va_sld hx hb hX hbl hbA hS h1 dL_law_1943 ?_
  refine lv_aload_n hx hb dL_law_1944 rfl (lv_at hl 4 rfl) ?_
  obtain ⟨k1, hg2, hf⟩ := jbB_e hf
  refine cws_i (As := [.ref (ha 0 0), .int (xs (i + 1).toNatClampNeg), .ref oa]) (rest := []) (Wr := (wQ g (ha 2) S.bv ++ wS g (ha 3) S.sv ++ wH g (ha 4) hd S.hv ++ wP g (ha 5) S.pv ++ wL g (ha 5 2) lq ++ wO g (ha 6) S.ov ++ wSv g hs S.svd ++ wM g hm S.mv ++ wOud g ob od)) (Wn := (wT g ha (S.svd.map (fun _ => hs 0), S.ep, S.fc) ++ wQ g (ha 1) S.qv ++ wQ g (ha 2) S.bv ++ wS g (ha 3) S.sv ++ wH g (ha 4) hd S.hv ++ wP g (ha 5) S.pv ++ wL g (ha 5 2) lq ++ wO g (ha 6) S.ov ++ wSv g hs S.svd ++ wM g hm S.mv ++ wOut g oa (k1.2) ++ wOud g ob od)) ⟨hx, hb, hml, hown, hts⟩ (c_L_inYard l hlt g ha (S.svd.map (fun _ => hs 0), S.ep, S.fc) S.qv (xs (i + 1).toNatClampNeg) oa ol _ hg2) (vx_cwSW 3 hts gL_law_L_inYard rfl rfl rfl hd_L_inYard.2 ⟨(Nat.le_of_ble_eq_true rfl), (Nat.le_of_ble_eq_true rfl)⟩) hK hZ hT hA hP hD hS hl.1 (wp_of fun f => by simp only [wOut, wOud, List.countP_append, List.countP_cons, List.countP_nil] <;> omega) (wp_of fun f => by simp only [wOut, wOud, List.countP_append, List.countP_cons, List.countP_nil] <;> omega) rfl rfl (Nat.le_of_ble_eq_true rfl) ⟨show cells + 1 ≤ 603072 by omega, show slots + 6 ≤ 7190634 by omega⟩ dL_law_1945 (fun H locs hP hD hS => ?_)
  refine lv_istore (lv' := [(6, .int (k1.1)), (5, .int i), (0, .ref b), (1, .ref (ha 0 0)), (2, .ref (hm 0)), (3, .ref oa), (4, .ref ob)]) hx hb dL_law_1948 hl (by decide) rfl (fun ls hl => ?_)
  refine lv_aload_n hx hb dL_law_1950 rfl (lv_at hl 4 rfl) ?_
  refine lv_aload_n hx hb dL_law_1951 rfl (lv_at hl 2 rfl) ?_
  refine lv_iload hx hb dL_law_1952 (lv_at hl 1 rfl) ?_
  refine lv_iconst (v := 1) hx hb dL_law_1954 (by decide) ?_
  refine lv_iadd hx hb dL_law_1955 ?_
  refine va_sld hx hb hX hbl hbA hS h1 dL_law_1956 ?_
  obtain ⟨o3, hg4, hf⟩ := jbB_e hf
  have hPr : va_P (gD g) vwCl ((wM g hm S.mv) ++ (wT g ha (S.svd.map (fun _ => hs 0), S.ep, S.fc) ++ wQ g (ha 1) S.qv ++ wQ g (ha 2) S.bv ++ wS g (ha 3) S.sv ++ wH g (ha 4) hd S.hv ++ wP g (ha 5) S.pv ++ wL g (ha 5 2) lq ++ wO g (ha 6) S.ov ++ wSv g hs S.svd ++ wOut g oa (k1.2) ++ wOud g ob od)) _ := wp_P (wp_of fun f => by simp only [wOut, wOud, List.countP_append, List.countP_cons, List.countP_nil] <;> omega) hP
  refine cpv_i (As := [.int (xs (i + 1).toNatClampNeg)]) (rest := []) (Wr := (wT g ha (S.svd.map (fun _ => hs 0), S.ep, S.fc) ++ wQ g (ha 1) S.qv ++ wQ g (ha 2) S.bv ++ wS g (ha 3) S.sv ++ wH g (ha 4) hd S.hv ++ wP g (ha 5) S.pv ++ wL g (ha 5 2) lq ++ wO g (ha 6) S.ov ++ wSv g hs S.svd ++ wOut g oa (k1.2) ++ wOud g ob od)) (Wn := (wT g ha (S.svd.map (fun _ => hs 0), S.ep, S.fc) ++ wQ g (ha 1) S.qv ++ wQ g (ha 2) S.bv ++ wS g (ha 3) S.sv ++ wH g (ha 4) hd S.hv ++ wP g (ha 5) S.pv ++ wL g (ha 5 2) lq ++ wO g (ha 6) S.ov ++ wSv g hs S.svd ++ wM g hm (o3.2) ++ wOut g oa (k1.2) ++ wOud g ob od)) ⟨hx, hb, hml, hown, hts⟩ (c_X11_inYard l g hm S.mv (xs (i + 1).toNatClampNeg) _ hg4) (cwV 1 hts gL_law_X11_inYard rfl rfl rfl hd_X11_inYard ⟨(Nat.le_of_ble_eq_true rfl), (Nat.le_of_ble_eq_true rfl)⟩) hK hZ hT hA hP hD hS hl.1 (va_recv hK hPr (ci := 10) (q0 := 0) rfl rfl) (wp_of fun f => by simp only [wOut, wOud, List.countP_append, List.countP_cons, List.countP_nil] <;> omega) (wp_of fun f => by simp only [wOut, wOud, List.countP_append, List.countP_cons, List.countP_nil] <;> omega) rfl rfl (Nat.le_of_ble_eq_true rfl) ⟨show cells + 1 + 0 ≤ 603072 by omega, show slots + 6 + 0 ≤ 7190634 by omega⟩ dL_law_1957 (fun H locs hP hD hS => ?_)
  refine lv_istore (lv' := [(7, .int (o3.1)), (6, .int (k1.1)), (5, .int i), (0, .ref b), (1, .ref (ha 0 0)), (2, .ref (hm 0)), (3, .ref oa), (4, .ref ob)]) hx hb dL_law_1960 hl (by decide) rfl (fun ls hl => ?_)
  refine lv_aload_n hx hb dL_law_1962 rfl (lv_at hl 5 rfl) ?_
  obtain ⟨o5, hg6, hf⟩ := jbB_e hf
  have hPr : va_P (gD g) vwCl ((wM g hm (o3.2)) ++ (wT g ha (S.svd.map (fun _ => hs 0), S.ep, S.fc) ++ wQ g (ha 1) S.qv ++ wQ g (ha 2) S.bv ++ wS g (ha 3) S.sv ++ wH g (ha 4) hd S.hv ++ wP g (ha 5) S.pv ++ wL g (ha 5 2) lq ++ wO g (ha 6) S.ov ++ wSv g hs S.svd ++ wOut g oa (k1.2) ++ wOud g ob od)) _ := wp_P (wp_of fun f => by simp only [wOut, wOud, List.countP_append, List.countP_cons, List.countP_nil] <;> omega) hP
  refine cpv_i (As := []) (rest := []) (Wr := (wT g ha (S.svd.map (fun _ => hs 0), S.ep, S.fc) ++ wQ g (ha 1) S.qv ++ wQ g (ha 2) S.bv ++ wS g (ha 3) S.sv ++ wH g (ha 4) hd S.hv ++ wP g (ha 5) S.pv ++ wL g (ha 5 2) lq ++ wO g (ha 6) S.ov ++ wSv g hs S.svd ++ wOut g oa (k1.2) ++ wOud g ob od)) (Wn := (wT g ha (S.svd.map (fun _ => hs 0), S.ep, S.fc) ++ wQ g (ha 1) S.qv ++ wQ g (ha 2) S.bv ++ wS g (ha 3) S.sv ++ wH g (ha 4) hd S.hv ++ wP g (ha 5) S.pv ++ wL g (ha 5 2) lq ++ wO g (ha 6) S.ov ++ wSv g hs S.svd ++ wM g hm (o3.2) ++ wOut g oa (k1.2) ++ wOud g ob od)) ⟨hx, hb, hml, hown, hts⟩ (c_X11_thrown l g hm (o3.2)  _ hg6) (cwV 0 hts gL_law_X11_thrown rfl rfl rfl hd_X11_thrown ⟨(Nat.le_of_ble_eq_true rfl), (Nat.le_of_ble_eq_true rfl)⟩) hK hZ hT hA hP hD hS hl.1 (va_recv hK hPr (ci := 10) (q0 := 0) rfl rfl) (wp_of fun f => by simp only [wOut, wOud, List.countP_append, List.countP_cons, List.countP_nil] <;> omega) (wp_of fun f => by simp only [wOut, wOud, List.countP_append, List.countP_cons, List.countP_nil] <;> omega) rfl rfl (Nat.le_of_ble_eq_true rfl) ⟨show cells + 1 + 0 ≤ 603072 by omega, show slots + 6 + 0 ≤ 7190634 by omega⟩ dL_law_1963 (fun H locs hP hD hS => ?_)
  refine lv_iload hx hb dL_law_1966 (lv_at hl 1 rfl) ?_
  refine lv_icmp_eq (tgt := 1973) hx hb dL_law_1968 (by decide) (fun hc => ?_) (fun hc => ?_)
  · have hf := jbT hf hc
    refine lv_iload hx hb dL_law_1973 (lv_at hl 1 rfl) ?_
    refine lv_if_ne (tgt := 1990) hx hb dL_law_1975 (by decide) (fun hc2 => ?_) (fun hc2 => ?_)
    · have hf := jbF hf hc2
      cases hf
      refine lv_goto (tgt := 2560) hx hb dL_law_1990 (by decide) ?_
      refine W.widen (k := cells + 60) (n := slots + 700) (by omega) (by omega) ?_
      exact kk hd hs lq _ _ _ hok hP hD hS (lv_sub hl [2, 3, 4, 5, 6, 7] rfl)
    · have hf := jbT hf hc2
      refine lv_aload_n hx hb dL_law_1978 rfl (lv_at hl 6 rfl) ?_
      refine lv_iconst (v := 0) hx hb dL_law_1979 (by decide) ?_
      have hP9 : va_P (gD g) vwCl ((wOut g oa (k1.2)) ++ (wT g ha (S.svd.map (fun _ => hs 0), S.ep, S.fc) ++ wQ g (ha 1) S.qv ++ wQ g (ha 2) S.bv ++ wS g (ha 3) S.sv ++ wH g (ha 4) hd S.hv ++ wP g (ha 5) S.pv ++ wL g (ha 5 2) lq ++ wO g (ha 6) S.ov ++ wSv g hs S.svd ++ wM g hm (o3.2) ++ wOud g ob od)) _ := wp_P (wp_of fun f => by simp only [wOut, wOud, List.countP_append, List.countP_cons, List.countP_nil] <;> omega) hP
      refine va_lald hx hb hK hP9 0 3 rfl rfl (i := 0) vp_in01 dL_law_1980 ?_
      refine lv_iload hx hb dL_law_1981 (lv_at hl 0 rfl) ?_
      obtain ⟨he, hf⟩ := jbA_e hf
      cases hf
      refine lv_i2l (v := (o3.1).toInt64) hx hb dL_law_1983 rfl ?_
      refine W.lcmp hx hb dL_law_1984 ?_
      refine lv_if_eq (tgt := 1990) hx hb dL_law_1985 (by decide) (fun hc => ?_) (fun hc => absurd (by rw [he]; exact lg_cmp_self _) hc)
      refine lv_goto (tgt := 2560) hx hb dL_law_1990 (by decide) ?_
      refine W.widen (k := cells + 60) (n := slots + 700) (by omega) (by omega) ?_
      exact kk hd hs lq _ _ _ hok hP hD hS (lv_sub hl [2, 3, 4, 5, 6, 7] rfl)
  · have hf := jbF hf hc
    cases hf
set_option maxHeartbeats 4000000 in
set_option maxRecDepth 100000 in
theorem lwc_28 {p : Program} {e : Env} {s : State} {mi : MethodId} {args : Array Value} {below : List Frame} {meth : Method} {c : Code} {g : GG} {A : Nat → Prop} {b L : Nat} {xs : Nat → Int32} {Q : State → Prop} (l : Launch) (hlt : l.stackTraces = false) (C0 : LwB p s mi args c g A b L xs)
    (ha hd : Nat → Nat → Nat) (hs hm : Nat → Nat) (lq : ListS) (oa ob : Nat) (S : Sys) (ol : Nat → Int64) (od : Nat → UInt64) (hok : lsOK lq) (i : Int32) (h1 : vp_in (i + 1) L) (h2 : vp_in (i + 2) L) (h3 : vp_in (i + 3) L) (h4 : vp_in (i + 4) L) (r : LR)
    (hf : lawOp_28 S (xs (i + 1).toNatClampNeg) (xs (i + 2).toNatClampNeg) (xs (i + 3).toNatClampNeg) (xs (i + 4).toNatClampNeg) ol od = some r) {H : Heap} {locs : List Loc} {ls : Array Slot} {cells slots : Nat} (hc9 : cells + 60 ≤ 603072) (hs9 : slots + 700 ≤ 7190634)
    (hP : va_P (gD g) vwCl (wSys g ha hd hs hm lq oa ob S ol od) H) (hD : va_D A (wSys g ha hd hs hm lq oa ob S ol od)) (hS : va_S A s.heap H locs) (hl : lv_has ls 10 [(5, .int i), (0, .ref b), (1, .ref (ha 0 0)), (2, .ref (hm 0)), (3, .ref oa), (4, .ref ob)])
    (kk : ∀ (hd : Nat → Nat → Nat) (hs : Nat → Nat) (lq : ListS) (H : Heap) (locs : List Loc) (ls : Array Slot), lsOK lq → va_P (gD g) vwCl (wSys g ha hd hs hm lq oa ob r.1 r.2.1 r.2.2) H → va_D A (wSys g ha hd hs hm lq oa ob r.1 r.2.1 r.2.2) → va_S A s.heap H locs → lv_has ls 10 [(5, .int i), (0, .ref b), (1, .ref (ha 0 0)), (2, .ref (hm 0)), (3, .ref oa), (4, .ref ob)] → W p l e room_1 s mi args below meth c H locs (cells + 60) (slots + 700) Q (F0 mi 2560 ls [])) :
    W p l e room_1 s mi args below meth c H locs cells slots Q (F0 mi 1993 ls []) := by
  obtain ⟨hx, hb, hml, hown, hts, hK, hZ, hT, hA, hX, hbl, hbA⟩ := C0
  have hP : va_P (gD g) vwCl (wT g ha (S.svd.map (fun _ => hs 0), S.ep, S.fc) ++ wQ g (ha 1) S.qv ++ wQ g (ha 2) S.bv ++ wS g (ha 3) S.sv ++ wH g (ha 4) hd S.hv ++ wP g (ha 5) S.pv ++ wL g (ha 5 2) lq ++ wO g (ha 6) S.ov ++ wSv g hs S.svd ++ wM g hm S.mv ++ wOut g oa ol ++ wOud g ob od) H := hP
  have hD : va_D A (wT g ha (S.svd.map (fun _ => hs 0), S.ep, S.fc) ++ wQ g (ha 1) S.qv ++ wQ g (ha 2) S.bv ++ wS g (ha 3) S.sv ++ wH g (ha 4) hd S.hv ++ wP g (ha 5) S.pv ++ wL g (ha 5 2) lq ++ wO g (ha 6) S.ov ++ wSv g hs S.svd ++ wM g hm S.mv ++ wOut g oa ol ++ wOud g ob od) := hD
  unfold lawOp_28 at hf
  refine lv_aload_n hx hb dL_law_1993 rfl (lv_at hl 2 rfl) ?_
  obtain ⟨o2, hg3, hf⟩ := jbB_e hf
  have hPr : va_P (gD g) vwCl ((wT g ha (S.svd.map (fun _ => hs 0), S.ep, S.fc) ++ wQ g (ha 1) S.qv) ++ (wQ g (ha 2) S.bv ++ wS g (ha 3) S.sv ++ wH g (ha 4) hd S.hv ++ wP g (ha 5) S.pv ++ wL g (ha 5 2) lq ++ wO g (ha 6) S.ov ++ wSv g hs S.svd ++ wM g hm S.mv ++ wOut g oa ol ++ wOud g ob od)) _ := wp_P (wp_of fun f => by simp only [wOut, wOud, List.countP_append, List.countP_cons, List.countP_nil] <;> omega) hP
  refine cpv_i (As := []) (rest := []) (Wr := (wQ g (ha 2) S.bv ++ wS g (ha 3) S.sv ++ wH g (ha 4) hd S.hv ++ wP g (ha 5) S.pv ++ wL g (ha 5 2) lq ++ wO g (ha 6) S.ov ++ wSv g hs S.svd ++ wM g hm S.mv ++ wOut g oa ol ++ wOud g ob od)) (Wn := (wT g ha (S.svd.map (fun _ => hs 0), S.ep, S.fc) ++ wQ g (ha 1) S.qv ++ wQ g (ha 2) S.bv ++ wS g (ha 3) S.sv ++ wH g (ha 4) hd S.hv ++ wP g (ha 5) S.pv ++ wL g (ha 5 2) lq ++ wO g (ha 6) S.ov ++ wSv g hs S.svd ++ wM g hm S.mv ++ wOut g oa ol ++ wOud g ob od)) ⟨hx, hb, hml, hown, hts⟩ (c_X10_yardWeight l hlt g ha (S.svd.map (fun _ => hs 0), S.ep, S.fc) S.qv _ hg3) (cwV 0 hts gL_law_X10_yardWeight rfl rfl rfl hd_X10_yardWeight ⟨(Nat.le_of_ble_eq_true rfl), (Nat.le_of_ble_eq_true rfl)⟩) hK hZ hT hA hP hD hS hl.1 (va_recv hK hPr (ci := 9) (q0 := 0) rfl rfl) (wp_of fun f => by simp only [wOut, wOud, List.countP_append, List.countP_cons, List.countP_nil] <;> omega) (wp_of fun f => by simp only [wOut, wOud, List.countP_append, List.countP_cons, List.countP_nil] <;> omega) rfl rfl (Nat.le_of_ble_eq_true rfl) ⟨show cells + 0 ≤ 603072 by omega, show slots + 0 ≤ 7190634 by omega⟩ dL_law_1994 (fun H locs hP hD hS => ?_)
  refine lv_aload_n hx hb dL_law_1997 rfl (lv_at hl 3 rfl) ?_
  obtain ⟨o4, hg5, hf⟩ := jbB_e hf
  have hPr : va_P (gD g) vwCl ((wM g hm S.mv) ++ (wT g ha (S.svd.map (fun _ => hs 0), S.ep, S.fc) ++ wQ g (ha 1) S.qv ++ wQ g (ha 2) S.bv ++ wS g (ha 3) S.sv ++ wH g (ha 4) hd S.hv ++ wP g (ha 5) S.pv ++ wL g (ha 5 2) lq ++ wO g (ha 6) S.ov ++ wSv g hs S.svd ++ wOut g oa ol ++ wOud g ob od)) _ := wp_P (wp_of fun f => by simp only [wOut, wOud, List.countP_append, List.countP_cons, List.countP_nil] <;> omega) hP
  refine cpv_i (As := []) (rest := [.int o2]) (Wr := (wT g ha (S.svd.map (fun _ => hs 0), S.ep, S.fc) ++ wQ g (ha 1) S.qv ++ wQ g (ha 2) S.bv ++ wS g (ha 3) S.sv ++ wH g (ha 4) hd S.hv ++ wP g (ha 5) S.pv ++ wL g (ha 5 2) lq ++ wO g (ha 6) S.ov ++ wSv g hs S.svd ++ wOut g oa ol ++ wOud g ob od)) (Wn := (wT g ha (S.svd.map (fun _ => hs 0), S.ep, S.fc) ++ wQ g (ha 1) S.qv ++ wQ g (ha 2) S.bv ++ wS g (ha 3) S.sv ++ wH g (ha 4) hd S.hv ++ wP g (ha 5) S.pv ++ wL g (ha 5 2) lq ++ wO g (ha 6) S.ov ++ wSv g hs S.svd ++ wM g hm (o4.2) ++ wOut g oa ol ++ wOud g ob od)) ⟨hx, hb, hml, hown, hts⟩ (c_X11_yardWeight l g hm S.mv  _ hg5) (cwV 0 hts gL_law_X11_yardWeight rfl rfl rfl hd_X11_yardWeight ⟨(Nat.le_of_ble_eq_true rfl), (Nat.le_of_ble_eq_true rfl)⟩) hK hZ hT hA hP hD hS hl.1 (va_recv hK hPr (ci := 10) (q0 := 0) rfl rfl) (wp_of fun f => by simp only [wOut, wOud, List.countP_append, List.countP_cons, List.countP_nil] <;> omega) (wp_of fun f => by simp only [wOut, wOud, List.countP_append, List.countP_cons, List.countP_nil] <;> omega) rfl rfl (Nat.le_of_ble_eq_true rfl) ⟨show cells + 0 ≤ 603072 by omega, show slots + 0 ≤ 7190634 by omega⟩ dL_law_1998 (fun H locs hP hD hS => ?_)
  refine lv_icmp_eq (tgt := 2560) hx hb dL_law_2001 (by decide) (fun hc => ?_) (fun hc => ?_)
  · have hf := jbT hf hc
    cases hf
    refine W.widen (k := cells + 60) (n := slots + 700) (by omega) (by omega) ?_
    exact kk hd hs lq _ _ _ hok hP hD hS (lv_sub hl [0, 1, 2, 3, 4, 5] rfl)
  · have hf := jbF hf hc
    cases hf
set_option maxHeartbeats 4000000 in
set_option maxRecDepth 100000 in
theorem lwc_29 {p : Program} {e : Env} {s : State} {mi : MethodId} {args : Array Value} {below : List Frame} {meth : Method} {c : Code} {g : GG} {A : Nat → Prop} {b L : Nat} {xs : Nat → Int32} {Q : State → Prop} (l : Launch) (hlt : l.stackTraces = false) (C0 : LwB p s mi args c g A b L xs)
    (ha hd : Nat → Nat → Nat) (hs hm : Nat → Nat) (lq : ListS) (oa ob : Nat) (S : Sys) (ol : Nat → Int64) (od : Nat → UInt64) (hok : lsOK lq) (i : Int32) (h1 : vp_in (i + 1) L) (h2 : vp_in (i + 2) L) (h3 : vp_in (i + 3) L) (h4 : vp_in (i + 4) L) (r : LR)
    (hf : lawOp_29 S (xs (i + 1).toNatClampNeg) (xs (i + 2).toNatClampNeg) (xs (i + 3).toNatClampNeg) (xs (i + 4).toNatClampNeg) ol od = some r) {H : Heap} {locs : List Loc} {ls : Array Slot} {cells slots : Nat} (hc9 : cells + 60 ≤ 603072) (hs9 : slots + 700 ≤ 7190634)
    (hP : va_P (gD g) vwCl (wSys g ha hd hs hm lq oa ob S ol od) H) (hD : va_D A (wSys g ha hd hs hm lq oa ob S ol od)) (hS : va_S A s.heap H locs) (hl : lv_has ls 10 [(5, .int i), (0, .ref b), (1, .ref (ha 0 0)), (2, .ref (hm 0)), (3, .ref oa), (4, .ref ob)])
    (kk : ∀ (hd : Nat → Nat → Nat) (hs : Nat → Nat) (lq : ListS) (H : Heap) (locs : List Loc) (ls : Array Slot), lsOK lq → va_P (gD g) vwCl (wSys g ha hd hs hm lq oa ob r.1 r.2.1 r.2.2) H → va_D A (wSys g ha hd hs hm lq oa ob r.1 r.2.1 r.2.2) → va_S A s.heap H locs → lv_has ls 10 [(5, .int i), (0, .ref b), (1, .ref (ha 0 0)), (2, .ref (hm 0)), (3, .ref oa), (4, .ref ob)] → W p l e room_1 s mi args below meth c H locs (cells + 60) (slots + 700) Q (F0 mi 2560 ls [])) :
    W p l e room_1 s mi args below meth c H locs cells slots Q (F0 mi 2006 ls []) := by
  obtain ⟨hx, hb, hml, hown, hts, hK, hZ, hT, hA, hX, hbl, hbA⟩ := C0
  have hP : va_P (gD g) vwCl (wT g ha (S.svd.map (fun _ => hs 0), S.ep, S.fc) ++ wQ g (ha 1) S.qv ++ wQ g (ha 2) S.bv ++ wS g (ha 3) S.sv ++ wH g (ha 4) hd S.hv ++ wP g (ha 5) S.pv ++ wL g (ha 5 2) lq ++ wO g (ha 6) S.ov ++ wSv g hs S.svd ++ wM g hm S.mv ++ wOut g oa ol ++ wOud g ob od) H := hP
  have hD : va_D A (wT g ha (S.svd.map (fun _ => hs 0), S.ep, S.fc) ++ wQ g (ha 1) S.qv ++ wQ g (ha 2) S.bv ++ wS g (ha 3) S.sv ++ wH g (ha 4) hd S.hv ++ wP g (ha 5) S.pv ++ wL g (ha 5 2) lq ++ wO g (ha 6) S.ov ++ wSv g hs S.svd ++ wM g hm S.mv ++ wOut g oa ol ++ wOud g ob od) := hD
  unfold lawOp_29 at hf
  refine lv_aload_n hx hb dL_law_2006 rfl (lv_at hl 2 rfl) ?_
  obtain ⟨o2, hg3, hf⟩ := jbB_e hf
  have hPr : va_P (gD g) vwCl ((wT g ha (S.svd.map (fun _ => hs 0), S.ep, S.fc) ++ wQ g (ha 1) S.qv) ++ (wQ g (ha 2) S.bv ++ wS g (ha 3) S.sv ++ wH g (ha 4) hd S.hv ++ wP g (ha 5) S.pv ++ wL g (ha 5 2) lq ++ wO g (ha 6) S.ov ++ wSv g hs S.svd ++ wM g hm S.mv ++ wOut g oa ol ++ wOud g ob od)) _ := wp_P (wp_of fun f => by simp only [wOut, wOud, List.countP_append, List.countP_cons, List.countP_nil] <;> omega) hP
  refine cpv_i (As := []) (rest := []) (Wr := (wQ g (ha 2) S.bv ++ wS g (ha 3) S.sv ++ wH g (ha 4) hd S.hv ++ wP g (ha 5) S.pv ++ wL g (ha 5 2) lq ++ wO g (ha 6) S.ov ++ wSv g hs S.svd ++ wM g hm S.mv ++ wOut g oa ol ++ wOud g ob od)) (Wn := (wT g ha (S.svd.map (fun _ => hs 0), S.ep, S.fc) ++ wQ g (ha 1) S.qv ++ wQ g (ha 2) S.bv ++ wS g (ha 3) S.sv ++ wH g (ha 4) hd S.hv ++ wP g (ha 5) S.pv ++ wL g (ha 5 2) lq ++ wO g (ha 6) S.ov ++ wSv g hs S.svd ++ wM g hm S.mv ++ wOut g oa ol ++ wOud g ob od)) ⟨hx, hb, hml, hown, hts⟩ (c_X10_rubble l hlt g ha (S.svd.map (fun _ => hs 0), S.ep, S.fc) S.qv _ hg3) (cwV 0 hts gL_law_X10_rubble rfl rfl rfl hd_X10_rubble ⟨(Nat.le_of_ble_eq_true rfl), (Nat.le_of_ble_eq_true rfl)⟩) hK hZ hT hA hP hD hS hl.1 (va_recv hK hPr (ci := 9) (q0 := 0) rfl rfl) (wp_of fun f => by simp only [wOut, wOud, List.countP_append, List.countP_cons, List.countP_nil] <;> omega) (wp_of fun f => by simp only [wOut, wOud, List.countP_append, List.countP_cons, List.countP_nil] <;> omega) rfl rfl (Nat.le_of_ble_eq_true rfl) ⟨show cells + 0 ≤ 603072 by omega, show slots + 0 ≤ 7190634 by omega⟩ dL_law_2007 (fun H locs hP hD hS => ?_)
  refine lv_aload_n hx hb dL_law_2010 rfl (lv_at hl 3 rfl) ?_
  obtain ⟨o4, hg5, hf⟩ := jbB_e hf
  have hPr : va_P (gD g) vwCl ((wM g hm S.mv) ++ (wT g ha (S.svd.map (fun _ => hs 0), S.ep, S.fc) ++ wQ g (ha 1) S.qv ++ wQ g (ha 2) S.bv ++ wS g (ha 3) S.sv ++ wH g (ha 4) hd S.hv ++ wP g (ha 5) S.pv ++ wL g (ha 5 2) lq ++ wO g (ha 6) S.ov ++ wSv g hs S.svd ++ wOut g oa ol ++ wOud g ob od)) _ := wp_P (wp_of fun f => by simp only [wOut, wOud, List.countP_append, List.countP_cons, List.countP_nil] <;> omega) hP
  refine cpv_i (As := []) (rest := [.int o2]) (Wr := (wT g ha (S.svd.map (fun _ => hs 0), S.ep, S.fc) ++ wQ g (ha 1) S.qv ++ wQ g (ha 2) S.bv ++ wS g (ha 3) S.sv ++ wH g (ha 4) hd S.hv ++ wP g (ha 5) S.pv ++ wL g (ha 5 2) lq ++ wO g (ha 6) S.ov ++ wSv g hs S.svd ++ wOut g oa ol ++ wOud g ob od)) (Wn := (wT g ha (S.svd.map (fun _ => hs 0), S.ep, S.fc) ++ wQ g (ha 1) S.qv ++ wQ g (ha 2) S.bv ++ wS g (ha 3) S.sv ++ wH g (ha 4) hd S.hv ++ wP g (ha 5) S.pv ++ wL g (ha 5 2) lq ++ wO g (ha 6) S.ov ++ wSv g hs S.svd ++ wM g hm (o4.2) ++ wOut g oa ol ++ wOud g ob od)) ⟨hx, hb, hml, hown, hts⟩ (c_X11_rubble l g hm S.mv  _ hg5) (cwV 0 hts gL_law_X11_rubble rfl rfl rfl hd_X11_rubble ⟨(Nat.le_of_ble_eq_true rfl), (Nat.le_of_ble_eq_true rfl)⟩) hK hZ hT hA hP hD hS hl.1 (va_recv hK hPr (ci := 10) (q0 := 0) rfl rfl) (wp_of fun f => by simp only [wOut, wOud, List.countP_append, List.countP_cons, List.countP_nil] <;> omega) (wp_of fun f => by simp only [wOut, wOud, List.countP_append, List.countP_cons, List.countP_nil] <;> omega) rfl rfl (Nat.le_of_ble_eq_true rfl) ⟨show cells + 0 ≤ 603072 by omega, show slots + 0 ≤ 7190634 by omega⟩ dL_law_2011 (fun H locs hP hD hS => ?_)
  refine lv_icmp_eq (tgt := 2560) hx hb dL_law_2014 (by decide) (fun hc => ?_) (fun hc => ?_)
  · have hf := jbT hf hc
    cases hf
    refine W.widen (k := cells + 60) (n := slots + 700) (by omega) (by omega) ?_
    exact kk hd hs lq _ _ _ hok hP hD hS (lv_sub hl [0, 1, 2, 3, 4, 5] rfl)
  · have hf := jbF hf hc
    cases hf
set_option maxHeartbeats 4000000 in
set_option maxRecDepth 100000 in
theorem lwc_30 {p : Program} {e : Env} {s : State} {mi : MethodId} {args : Array Value} {below : List Frame} {meth : Method} {c : Code} {g : GG} {A : Nat → Prop} {b L : Nat} {xs : Nat → Int32} {Q : State → Prop} (l : Launch) (hlt : l.stackTraces = false) (C0 : LwB p s mi args c g A b L xs)
    (ha hd : Nat → Nat → Nat) (hs hm : Nat → Nat) (lq : ListS) (oa ob : Nat) (S : Sys) (ol : Nat → Int64) (od : Nat → UInt64) (hok : lsOK lq) (i : Int32) (h1 : vp_in (i + 1) L) (h2 : vp_in (i + 2) L) (h3 : vp_in (i + 3) L) (h4 : vp_in (i + 4) L) (r : LR)
    (hf : lawOp_30 S (xs (i + 1).toNatClampNeg) (xs (i + 2).toNatClampNeg) (xs (i + 3).toNatClampNeg) (xs (i + 4).toNatClampNeg) ol od = some r) {H : Heap} {locs : List Loc} {ls : Array Slot} {cells slots : Nat} (hc9 : cells + 60 ≤ 603072) (hs9 : slots + 700 ≤ 7190634)
    (hP : va_P (gD g) vwCl (wSys g ha hd hs hm lq oa ob S ol od) H) (hD : va_D A (wSys g ha hd hs hm lq oa ob S ol od)) (hS : va_S A s.heap H locs) (hl : lv_has ls 10 [(5, .int i), (0, .ref b), (1, .ref (ha 0 0)), (2, .ref (hm 0)), (3, .ref oa), (4, .ref ob)])
    (kk : ∀ (hd : Nat → Nat → Nat) (hs : Nat → Nat) (lq : ListS) (H : Heap) (locs : List Loc) (ls : Array Slot), lsOK lq → va_P (gD g) vwCl (wSys g ha hd hs hm lq oa ob r.1 r.2.1 r.2.2) H → va_D A (wSys g ha hd hs hm lq oa ob r.1 r.2.1 r.2.2) → va_S A s.heap H locs → lv_has ls 10 [(5, .int i), (0, .ref b), (1, .ref (ha 0 0)), (2, .ref (hm 0)), (3, .ref oa), (4, .ref ob)] → W p l e room_1 s mi args below meth c H locs (cells + 60) (slots + 700) Q (F0 mi 2560 ls [])) :
    W p l e room_1 s mi args below meth c H locs cells slots Q (F0 mi 2019 ls []) := by
  obtain ⟨hx, hb, hml, hown, hts, hK, hZ, hT, hA, hX, hbl, hbA⟩ := C0
  have hP : va_P (gD g) vwCl (wT g ha (S.svd.map (fun _ => hs 0), S.ep, S.fc) ++ wQ g (ha 1) S.qv ++ wQ g (ha 2) S.bv ++ wS g (ha 3) S.sv ++ wH g (ha 4) hd S.hv ++ wP g (ha 5) S.pv ++ wL g (ha 5 2) lq ++ wO g (ha 6) S.ov ++ wSv g hs S.svd ++ wM g hm S.mv ++ wOut g oa ol ++ wOud g ob od) H := hP
  have hD : va_D A (wT g ha (S.svd.map (fun _ => hs 0), S.ep, S.fc) ++ wQ g (ha 1) S.qv ++ wQ g (ha 2) S.bv ++ wS g (ha 3) S.sv ++ wH g (ha 4) hd S.hv ++ wP g (ha 5) S.pv ++ wL g (ha 5 2) lq ++ wO g (ha 6) S.ov ++ wSv g hs S.svd ++ wM g hm S.mv ++ wOut g oa ol ++ wOud g ob od) := hD
  unfold lawOp_30 at hf
  refine lv_aload_n hx hb dL_law_2019 rfl (lv_at hl 2 rfl) ?_
  obtain ⟨o2, hg3, hf⟩ := jbB_e hf
  have hPr : va_P (gD g) vwCl ((wT g ha (S.svd.map (fun _ => hs 0), S.ep, S.fc) ++ wQ g (ha 1) S.qv) ++ (wQ g (ha 2) S.bv ++ wS g (ha 3) S.sv ++ wH g (ha 4) hd S.hv ++ wP g (ha 5) S.pv ++ wL g (ha 5 2) lq ++ wO g (ha 6) S.ov ++ wSv g hs S.svd ++ wM g hm S.mv ++ wOut g oa ol ++ wOud g ob od)) _ := wp_P (wp_of fun f => by simp only [wOut, wOud, List.countP_append, List.countP_cons, List.countP_nil] <;> omega) hP
  refine cpv_i (As := []) (rest := []) (Wr := (wQ g (ha 2) S.bv ++ wS g (ha 3) S.sv ++ wH g (ha 4) hd S.hv ++ wP g (ha 5) S.pv ++ wL g (ha 5 2) lq ++ wO g (ha 6) S.ov ++ wSv g hs S.svd ++ wM g hm S.mv ++ wOut g oa ol ++ wOud g ob od)) (Wn := (wT g ha (S.svd.map (fun _ => hs 0), S.ep, S.fc) ++ wQ g (ha 1) S.qv ++ wQ g (ha 2) S.bv ++ wS g (ha 3) S.sv ++ wH g (ha 4) hd S.hv ++ wP g (ha 5) S.pv ++ wL g (ha 5 2) lq ++ wO g (ha 6) S.ov ++ wSv g hs S.svd ++ wM g hm S.mv ++ wOut g oa ol ++ wOud g ob od)) ⟨hx, hb, hml, hown, hts⟩ (c_X10_stepLimit l hlt g ha (S.svd.map (fun _ => hs 0), S.ep, S.fc) S.qv _ hg3) (cwV 0 hts gL_law_X10_stepLimit rfl rfl rfl hd_X10_stepLimit ⟨(Nat.le_of_ble_eq_true rfl), (Nat.le_of_ble_eq_true rfl)⟩) hK hZ hT hA hP hD hS hl.1 (va_recv hK hPr (ci := 9) (q0 := 0) rfl rfl) (wp_of fun f => by simp only [wOut, wOud, List.countP_append, List.countP_cons, List.countP_nil] <;> omega) (wp_of fun f => by simp only [wOut, wOud, List.countP_append, List.countP_cons, List.countP_nil] <;> omega) rfl rfl (Nat.le_of_ble_eq_true rfl) ⟨show cells + 0 ≤ 603072 by omega, show slots + 0 ≤ 7190634 by omega⟩ dL_law_2020 (fun H locs hP hD hS => ?_)
  refine lv_aload_n hx hb dL_law_2023 rfl (lv_at hl 3 rfl) ?_
  obtain ⟨o4, hg5, hf⟩ := jbB_e hf
  have hPr : va_P (gD g) vwCl ((wM g hm S.mv) ++ (wT g ha (S.svd.map (fun _ => hs 0), S.ep, S.fc) ++ wQ g (ha 1) S.qv ++ wQ g (ha 2) S.bv ++ wS g (ha 3) S.sv ++ wH g (ha 4) hd S.hv ++ wP g (ha 5) S.pv ++ wL g (ha 5 2) lq ++ wO g (ha 6) S.ov ++ wSv g hs S.svd ++ wOut g oa ol ++ wOud g ob od)) _ := wp_P (wp_of fun f => by simp only [wOut, wOud, List.countP_append, List.countP_cons, List.countP_nil] <;> omega) hP
  refine cpv_i (As := []) (rest := [.int o2]) (Wr := (wT g ha (S.svd.map (fun _ => hs 0), S.ep, S.fc) ++ wQ g (ha 1) S.qv ++ wQ g (ha 2) S.bv ++ wS g (ha 3) S.sv ++ wH g (ha 4) hd S.hv ++ wP g (ha 5) S.pv ++ wL g (ha 5 2) lq ++ wO g (ha 6) S.ov ++ wSv g hs S.svd ++ wOut g oa ol ++ wOud g ob od)) (Wn := (wT g ha (S.svd.map (fun _ => hs 0), S.ep, S.fc) ++ wQ g (ha 1) S.qv ++ wQ g (ha 2) S.bv ++ wS g (ha 3) S.sv ++ wH g (ha 4) hd S.hv ++ wP g (ha 5) S.pv ++ wL g (ha 5 2) lq ++ wO g (ha 6) S.ov ++ wSv g hs S.svd ++ wM g hm (o4.2) ++ wOut g oa ol ++ wOud g ob od)) ⟨hx, hb, hml, hown, hts⟩ (c_X11_stepLimit l g hm S.mv  _ hg5) (cwV 0 hts gL_law_X11_stepLimit rfl rfl rfl hd_X11_stepLimit ⟨(Nat.le_of_ble_eq_true rfl), (Nat.le_of_ble_eq_true rfl)⟩) hK hZ hT hA hP hD hS hl.1 (va_recv hK hPr (ci := 10) (q0 := 0) rfl rfl) (wp_of fun f => by simp only [wOut, wOud, List.countP_append, List.countP_cons, List.countP_nil] <;> omega) (wp_of fun f => by simp only [wOut, wOud, List.countP_append, List.countP_cons, List.countP_nil] <;> omega) rfl rfl (Nat.le_of_ble_eq_true rfl) ⟨show cells + 0 ≤ 603072 by omega, show slots + 0 ≤ 7190634 by omega⟩ dL_law_2024 (fun H locs hP hD hS => ?_)
  refine lv_icmp_eq (tgt := 2560) hx hb dL_law_2027 (by decide) (fun hc => ?_) (fun hc => ?_)
  · have hf := jbT hf hc
    cases hf
    refine W.widen (k := cells + 60) (n := slots + 700) (by omega) (by omega) ?_
    exact kk hd hs lq _ _ _ hok hP hD hS (lv_sub hl [0, 1, 2, 3, 4, 5] rfl)
  · have hf := jbF hf hc
    cases hf
set_option maxHeartbeats 4000000 in
set_option maxRecDepth 100000 in
theorem lwc_31 {p : Program} {e : Env} {s : State} {mi : MethodId} {args : Array Value} {below : List Frame} {meth : Method} {c : Code} {g : GG} {A : Nat → Prop} {b L : Nat} {xs : Nat → Int32} {Q : State → Prop} (l : Launch) (hlt : l.stackTraces = false) (C0 : LwB p s mi args c g A b L xs)
    (ha hd : Nat → Nat → Nat) (hs hm : Nat → Nat) (lq : ListS) (oa ob : Nat) (S : Sys) (ol : Nat → Int64) (od : Nat → UInt64) (hok : lsOK lq) (i : Int32) (h1 : vp_in (i + 1) L) (h2 : vp_in (i + 2) L) (h3 : vp_in (i + 3) L) (h4 : vp_in (i + 4) L) (r : LR)
    (hf : lawOp_31 S (xs (i + 1).toNatClampNeg) (xs (i + 2).toNatClampNeg) (xs (i + 3).toNatClampNeg) (xs (i + 4).toNatClampNeg) ol od = some r) {H : Heap} {locs : List Loc} {ls : Array Slot} {cells slots : Nat} (hc9 : cells + 60 ≤ 603072) (hs9 : slots + 700 ≤ 7190634)
    (hP : va_P (gD g) vwCl (wSys g ha hd hs hm lq oa ob S ol od) H) (hD : va_D A (wSys g ha hd hs hm lq oa ob S ol od)) (hS : va_S A s.heap H locs) (hl : lv_has ls 10 [(5, .int i), (0, .ref b), (1, .ref (ha 0 0)), (2, .ref (hm 0)), (3, .ref oa), (4, .ref ob)])
    (kk : ∀ (hd : Nat → Nat → Nat) (hs : Nat → Nat) (lq : ListS) (H : Heap) (locs : List Loc) (ls : Array Slot), lsOK lq → va_P (gD g) vwCl (wSys g ha hd hs hm lq oa ob r.1 r.2.1 r.2.2) H → va_D A (wSys g ha hd hs hm lq oa ob r.1 r.2.1 r.2.2) → va_S A s.heap H locs → lv_has ls 10 [(5, .int i), (0, .ref b), (1, .ref (ha 0 0)), (2, .ref (hm 0)), (3, .ref oa), (4, .ref ob)] → W p l e room_1 s mi args below meth c H locs (cells + 60) (slots + 700) Q (F0 mi 2560 ls [])) :
    W p l e room_1 s mi args below meth c H locs cells slots Q (F0 mi 2032 ls []) := by
  obtain ⟨hx, hb, hml, hown, hts, hK, hZ, hT, hA, hX, hbl, hbA⟩ := C0
  have hP : va_P (gD g) vwCl (wT g ha (S.svd.map (fun _ => hs 0), S.ep, S.fc) ++ wQ g (ha 1) S.qv ++ wQ g (ha 2) S.bv ++ wS g (ha 3) S.sv ++ wH g (ha 4) hd S.hv ++ wP g (ha 5) S.pv ++ wL g (ha 5 2) lq ++ wO g (ha 6) S.ov ++ wSv g hs S.svd ++ wM g hm S.mv ++ wOut g oa ol ++ wOud g ob od) H := hP
  have hD : va_D A (wT g ha (S.svd.map (fun _ => hs 0), S.ep, S.fc) ++ wQ g (ha 1) S.qv ++ wQ g (ha 2) S.bv ++ wS g (ha 3) S.sv ++ wH g (ha 4) hd S.hv ++ wP g (ha 5) S.pv ++ wL g (ha 5 2) lq ++ wO g (ha 6) S.ov ++ wSv g hs S.svd ++ wM g hm S.mv ++ wOut g oa ol ++ wOud g ob od) := hD
  unfold lawOp_31 at hf
  refine lv_aload_n hx hb dL_law_2032 rfl (lv_at hl 2 rfl) ?_
  obtain ⟨o2, hg3, hf⟩ := jbB_e hf
  have hPr : va_P (gD g) vwCl ((wT g ha (S.svd.map (fun _ => hs 0), S.ep, S.fc) ++ wQ g (ha 1) S.qv) ++ (wQ g (ha 2) S.bv ++ wS g (ha 3) S.sv ++ wH g (ha 4) hd S.hv ++ wP g (ha 5) S.pv ++ wL g (ha 5 2) lq ++ wO g (ha 6) S.ov ++ wSv g hs S.svd ++ wM g hm S.mv ++ wOut g oa ol ++ wOud g ob od)) _ := wp_P (wp_of fun f => by simp only [wOut, wOud, List.countP_append, List.countP_cons, List.countP_nil] <;> omega) hP
  refine cpv_i (As := []) (rest := []) (Wr := (wQ g (ha 2) S.bv ++ wS g (ha 3) S.sv ++ wH g (ha 4) hd S.hv ++ wP g (ha 5) S.pv ++ wL g (ha 5 2) lq ++ wO g (ha 6) S.ov ++ wSv g hs S.svd ++ wM g hm S.mv ++ wOut g oa ol ++ wOud g ob od)) (Wn := (wT g ha (S.svd.map (fun _ => hs 0), S.ep, S.fc) ++ wQ g (ha 1) S.qv ++ wQ g (ha 2) S.bv ++ wS g (ha 3) S.sv ++ wH g (ha 4) hd S.hv ++ wP g (ha 5) S.pv ++ wL g (ha 5 2) lq ++ wO g (ha 6) S.ov ++ wSv g hs S.svd ++ wM g hm S.mv ++ wOut g oa ol ++ wOud g ob od)) ⟨hx, hb, hml, hown, hts⟩ (c_X10_cutTotal l hlt g ha (S.svd.map (fun _ => hs 0), S.ep, S.fc) S.qv _ hg3) (cwV 0 hts gL_law_X10_cutTotal rfl rfl rfl hd_X10_cutTotal ⟨(Nat.le_of_ble_eq_true rfl), (Nat.le_of_ble_eq_true rfl)⟩) hK hZ hT hA hP hD hS hl.1 (va_recv hK hPr (ci := 9) (q0 := 0) rfl rfl) (wp_of fun f => by simp only [wOut, wOud, List.countP_append, List.countP_cons, List.countP_nil] <;> omega) (wp_of fun f => by simp only [wOut, wOud, List.countP_append, List.countP_cons, List.countP_nil] <;> omega) rfl rfl (Nat.le_of_ble_eq_true rfl) ⟨show cells + 0 ≤ 603072 by omega, show slots + 0 ≤ 7190634 by omega⟩ dL_law_2033 (fun H locs hP hD hS => ?_)
  refine lv_aload_n hx hb dL_law_2036 rfl (lv_at hl 3 rfl) ?_
  obtain ⟨o4, hg5, hf⟩ := jbB_e hf
  have hPr : va_P (gD g) vwCl ((wM g hm S.mv) ++ (wT g ha (S.svd.map (fun _ => hs 0), S.ep, S.fc) ++ wQ g (ha 1) S.qv ++ wQ g (ha 2) S.bv ++ wS g (ha 3) S.sv ++ wH g (ha 4) hd S.hv ++ wP g (ha 5) S.pv ++ wL g (ha 5 2) lq ++ wO g (ha 6) S.ov ++ wSv g hs S.svd ++ wOut g oa ol ++ wOud g ob od)) _ := wp_P (wp_of fun f => by simp only [wOut, wOud, List.countP_append, List.countP_cons, List.countP_nil] <;> omega) hP
  refine cpv_i (As := []) (rest := [.int o2]) (Wr := (wT g ha (S.svd.map (fun _ => hs 0), S.ep, S.fc) ++ wQ g (ha 1) S.qv ++ wQ g (ha 2) S.bv ++ wS g (ha 3) S.sv ++ wH g (ha 4) hd S.hv ++ wP g (ha 5) S.pv ++ wL g (ha 5 2) lq ++ wO g (ha 6) S.ov ++ wSv g hs S.svd ++ wOut g oa ol ++ wOud g ob od)) (Wn := (wT g ha (S.svd.map (fun _ => hs 0), S.ep, S.fc) ++ wQ g (ha 1) S.qv ++ wQ g (ha 2) S.bv ++ wS g (ha 3) S.sv ++ wH g (ha 4) hd S.hv ++ wP g (ha 5) S.pv ++ wL g (ha 5 2) lq ++ wO g (ha 6) S.ov ++ wSv g hs S.svd ++ wM g hm (o4.2) ++ wOut g oa ol ++ wOud g ob od)) ⟨hx, hb, hml, hown, hts⟩ (c_X11_cutTotal l g hm S.mv  _ hg5) (cwV 0 hts gL_law_X11_cutTotal rfl rfl rfl hd_X11_cutTotal ⟨(Nat.le_of_ble_eq_true rfl), (Nat.le_of_ble_eq_true rfl)⟩) hK hZ hT hA hP hD hS hl.1 (va_recv hK hPr (ci := 10) (q0 := 0) rfl rfl) (wp_of fun f => by simp only [wOut, wOud, List.countP_append, List.countP_cons, List.countP_nil] <;> omega) (wp_of fun f => by simp only [wOut, wOud, List.countP_append, List.countP_cons, List.countP_nil] <;> omega) rfl rfl (Nat.le_of_ble_eq_true rfl) ⟨show cells + 0 ≤ 603072 by omega, show slots + 0 ≤ 7190634 by omega⟩ dL_law_2037 (fun H locs hP hD hS => ?_)
  refine lv_icmp_eq (tgt := 2560) hx hb dL_law_2040 (by decide) (fun hc => ?_) (fun hc => ?_)
  · have hf := jbT hf hc
    cases hf
    refine W.widen (k := cells + 60) (n := slots + 700) (by omega) (by omega) ?_
    exact kk hd hs lq _ _ _ hok hP hD hS (lv_sub hl [0, 1, 2, 3, 4, 5] rfl)
  · have hf := jbF hf hc
    cases hf
