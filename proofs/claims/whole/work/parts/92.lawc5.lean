set_option maxHeartbeats 4000000 in
set_option maxRecDepth 100000 in
theorem lwc_32 {p : Program} {e : Env} {s : State} {mi : MethodId} {args : Array Value} {below : List Frame} {meth : Method} {c : Code} {g : GG} {A : Nat → Prop} {b L : Nat} {xs : Nat → Int32} {Q : State → Prop} (l : Launch) (hlt : l.stackTraces = false) (C0 : LwB p s mi args c g A b L xs)
    (ha hd : Nat → Nat → Nat) (hs hm : Nat → Nat) (lq : ListS) (oa ob : Nat) (S : Sys) (ol : Nat → Int64) (od : Nat → UInt64) (hok : lsOK lq) (i : Int32) (h1 : vp_in (i + 1) L) (h2 : vp_in (i + 2) L) (h3 : vp_in (i + 3) L) (h4 : vp_in (i + 4) L) (r : LR)
    (hf : lawOp_32 S (xs (i + 1).toNatClampNeg) (xs (i + 2).toNatClampNeg) (xs (i + 3).toNatClampNeg) (xs (i + 4).toNatClampNeg) ol od = some r) {H : Heap} {locs : List Loc} {ls : Array Slot} {cells slots : Nat} (hc9 : cells + 60 ≤ 603072) (hs9 : slots + 700 ≤ 7190634)
    (hP : va_P (gD g) vwCl (wSys g ha hd hs hm lq oa ob S ol od) H) (hD : va_D A (wSys g ha hd hs hm lq oa ob S ol od)) (hS : va_S A s.heap H locs) (hl : lv_has ls 10 [(5, .int i), (0, .ref b), (1, .ref (ha 0 0)), (2, .ref (hm 0)), (3, .ref oa), (4, .ref ob)])
    (kk : ∀ (hd : Nat → Nat → Nat) (hs : Nat → Nat) (lq : ListS) (H : Heap) (locs : List Loc) (ls : Array Slot), lsOK lq → va_P (gD g) vwCl (wSys g ha hd hs hm lq oa ob r.1 r.2.1 r.2.2) H → va_D A (wSys g ha hd hs hm lq oa ob r.1 r.2.1 r.2.2) → va_S A s.heap H locs → lv_has ls 10 [(5, .int i), (0, .ref b), (1, .ref (ha 0 0)), (2, .ref (hm 0)), (3, .ref oa), (4, .ref ob)] → W p l e room_1 s mi args below meth c H locs (cells + 60) (slots + 700) Q (F0 mi 2560 ls [])) :
    W p l e room_1 s mi args below meth c H locs cells slots Q (F0 mi 2045 ls []) := by
  obtain ⟨hx, hb, hml, hown, hts, hK, hZ, hT, hA, hX, hbl, hbA⟩ := C0
  have hP : va_P (gD g) vwCl (wT g ha (S.svd.map (fun _ => hs 0), S.ep, S.fc) ++ wQ g (ha 1) S.qv ++ wQ g (ha 2) S.bv ++ wS g (ha 3) S.sv ++ wH g (ha 4) hd S.hv ++ wP g (ha 5) S.pv ++ wL g (ha 5 2) lq ++ wO g (ha 6) S.ov ++ wSv g hs S.svd ++ wM g hm S.mv ++ wOut g oa ol ++ wOud g ob od) H := hP
  have hD : va_D A (wT g ha (S.svd.map (fun _ => hs 0), S.ep, S.fc) ++ wQ g (ha 1) S.qv ++ wQ g (ha 2) S.bv ++ wS g (ha 3) S.sv ++ wH g (ha 4) hd S.hv ++ wP g (ha 5) S.pv ++ wL g (ha 5 2) lq ++ wO g (ha 6) S.ov ++ wSv g hs S.svd ++ wM g hm S.mv ++ wOut g oa ol ++ wOud g ob od) := hD
  unfold lawOp_32 at hf
  refine lv_aload_n hx hb dL_law_2045 rfl (lv_at hl 2 rfl) ?_
  obtain ⟨o2, hg3, hf⟩ := jbB_e hf
  have hPr : va_P (gD g) vwCl ((wT g ha (S.svd.map (fun _ => hs 0), S.ep, S.fc) ++ wQ g (ha 1) S.qv) ++ (wQ g (ha 2) S.bv ++ wS g (ha 3) S.sv ++ wH g (ha 4) hd S.hv ++ wP g (ha 5) S.pv ++ wL g (ha 5 2) lq ++ wO g (ha 6) S.ov ++ wSv g hs S.svd ++ wM g hm S.mv ++ wOut g oa ol ++ wOud g ob od)) _ := wp_P (wp_of fun f => by simp only [wOut, wOud, List.countP_append, List.countP_cons, List.countP_nil] <;> omega) hP
  refine cpv_l (As := []) (rest := []) (Wr := (wQ g (ha 2) S.bv ++ wS g (ha 3) S.sv ++ wH g (ha 4) hd S.hv ++ wP g (ha 5) S.pv ++ wL g (ha 5 2) lq ++ wO g (ha 6) S.ov ++ wSv g hs S.svd ++ wM g hm S.mv ++ wOut g oa ol ++ wOud g ob od)) (Wn := (wT g ha (S.svd.map (fun _ => hs 0), S.ep, S.fc) ++ wQ g (ha 1) S.qv ++ wQ g (ha 2) S.bv ++ wS g (ha 3) S.sv ++ wH g (ha 4) hd S.hv ++ wP g (ha 5) S.pv ++ wL g (ha 5 2) lq ++ wO g (ha 6) S.ov ++ wSv g hs S.svd ++ wM g hm S.mv ++ wOut g oa ol ++ wOud g ob od)) ⟨hx, hb, hml, hown, hts⟩ (c_X10_workTotal l hlt g ha (S.svd.map (fun _ => hs 0), S.ep, S.fc) S.qv _ hg3) (cwV 0 hts gL_law_X10_workTotal rfl rfl rfl hd_X10_workTotal ⟨(Nat.le_of_ble_eq_true rfl), (Nat.le_of_ble_eq_true rfl)⟩) hK hZ hT hA hP hD hS hl.1 (va_recv hK hPr (ci := 9) (q0 := 0) rfl rfl) (wp_of fun f => by simp only [wOut, wOud, List.countP_append, List.countP_cons, List.countP_nil] <;> omega) (wp_of fun f => by simp only [wOut, wOud, List.countP_append, List.countP_cons, List.countP_nil] <;> omega) rfl rfl (Nat.le_of_ble_eq_true rfl) ⟨show cells + 0 ≤ 603072 by omega, show slots + 0 ≤ 7190634 by omega⟩ dL_law_2046 (fun H locs hP hD hS => ?_)
  refine lv_aload_n hx hb dL_law_2049 rfl (lv_at hl 3 rfl) ?_
  obtain ⟨o4, hg5, hf⟩ := jbB_e hf
  have hPr : va_P (gD g) vwCl ((wM g hm S.mv) ++ (wT g ha (S.svd.map (fun _ => hs 0), S.ep, S.fc) ++ wQ g (ha 1) S.qv ++ wQ g (ha 2) S.bv ++ wS g (ha 3) S.sv ++ wH g (ha 4) hd S.hv ++ wP g (ha 5) S.pv ++ wL g (ha 5 2) lq ++ wO g (ha 6) S.ov ++ wSv g hs S.svd ++ wOut g oa ol ++ wOud g ob od)) _ := wp_P (wp_of fun f => by simp only [wOut, wOud, List.countP_append, List.countP_cons, List.countP_nil] <;> omega) hP
  refine cpv_l (As := []) (rest := [.long o2]) (Wr := (wT g ha (S.svd.map (fun _ => hs 0), S.ep, S.fc) ++ wQ g (ha 1) S.qv ++ wQ g (ha 2) S.bv ++ wS g (ha 3) S.sv ++ wH g (ha 4) hd S.hv ++ wP g (ha 5) S.pv ++ wL g (ha 5 2) lq ++ wO g (ha 6) S.ov ++ wSv g hs S.svd ++ wOut g oa ol ++ wOud g ob od)) (Wn := (wT g ha (S.svd.map (fun _ => hs 0), S.ep, S.fc) ++ wQ g (ha 1) S.qv ++ wQ g (ha 2) S.bv ++ wS g (ha 3) S.sv ++ wH g (ha 4) hd S.hv ++ wP g (ha 5) S.pv ++ wL g (ha 5 2) lq ++ wO g (ha 6) S.ov ++ wSv g hs S.svd ++ wM g hm (o4.2) ++ wOut g oa ol ++ wOud g ob od)) ⟨hx, hb, hml, hown, hts⟩ (c_X11_workTotal l g hm S.mv  _ hg5) (cwV 0 hts gL_law_X11_workTotal rfl rfl rfl hd_X11_workTotal ⟨(Nat.le_of_ble_eq_true rfl), (Nat.le_of_ble_eq_true rfl)⟩) hK hZ hT hA hP hD hS hl.1 (va_recv hK hPr (ci := 10) (q0 := 0) rfl rfl) (wp_of fun f => by simp only [wOut, wOud, List.countP_append, List.countP_cons, List.countP_nil] <;> omega) (wp_of fun f => by simp only [wOut, wOud, List.countP_append, List.countP_cons, List.countP_nil] <;> omega) rfl rfl (Nat.le_of_ble_eq_true rfl) ⟨show cells + 0 ≤ 603072 by omega, show slots + 0 ≤ 7190634 by omega⟩ dL_law_2050 (fun H locs hP hD hS => ?_)
  obtain ⟨he, hf⟩ := jbA_e hf
  cases hf
  refine W.lcmp hx hb dL_law_2053 ?_
  refine lv_if_eq (tgt := 2560) hx hb dL_law_2054 (by decide) (fun hc => ?_) (fun hc => absurd (by rw [he]; exact lg_cmp_self _) hc)
  refine W.widen (k := cells + 60) (n := slots + 700) (by omega) (by omega) ?_
  exact kk hd hs lq _ _ _ hok hP hD hS (lv_sub hl [0, 1, 2, 3, 4, 5] rfl)
set_option maxHeartbeats 4000000 in
set_option maxRecDepth 100000 in
theorem lwc_33 {p : Program} {e : Env} {s : State} {mi : MethodId} {args : Array Value} {below : List Frame} {meth : Method} {c : Code} {g : GG} {A : Nat → Prop} {b L : Nat} {xs : Nat → Int32} {Q : State → Prop} (l : Launch) (hlt : l.stackTraces = false) (C0 : LwB p s mi args c g A b L xs)
    (ha hd : Nat → Nat → Nat) (hs hm : Nat → Nat) (lq : ListS) (oa ob : Nat) (S : Sys) (ol : Nat → Int64) (od : Nat → UInt64) (hok : lsOK lq) (i : Int32) (h1 : vp_in (i + 1) L) (h2 : vp_in (i + 2) L) (h3 : vp_in (i + 3) L) (h4 : vp_in (i + 4) L) (r : LR)
    (hf : lawOp_33 S (xs (i + 1).toNatClampNeg) (xs (i + 2).toNatClampNeg) (xs (i + 3).toNatClampNeg) (xs (i + 4).toNatClampNeg) ol od = some r) {H : Heap} {locs : List Loc} {ls : Array Slot} {cells slots : Nat} (hc9 : cells + 60 ≤ 603072) (hs9 : slots + 700 ≤ 7190634)
    (hP : va_P (gD g) vwCl (wSys g ha hd hs hm lq oa ob S ol od) H) (hD : va_D A (wSys g ha hd hs hm lq oa ob S ol od)) (hS : va_S A s.heap H locs) (hl : lv_has ls 10 [(5, .int i), (0, .ref b), (1, .ref (ha 0 0)), (2, .ref (hm 0)), (3, .ref oa), (4, .ref ob)])
    (kk : ∀ (hd : Nat → Nat → Nat) (hs : Nat → Nat) (lq : ListS) (H : Heap) (locs : List Loc) (ls : Array Slot), lsOK lq → va_P (gD g) vwCl (wSys g ha hd hs hm lq oa ob r.1 r.2.1 r.2.2) H → va_D A (wSys g ha hd hs hm lq oa ob r.1 r.2.1 r.2.2) → va_S A s.heap H locs → lv_has ls 10 [(5, .int i), (0, .ref b), (1, .ref (ha 0 0)), (2, .ref (hm 0)), (3, .ref oa), (4, .ref ob)] → W p l e room_1 s mi args below meth c H locs (cells + 60) (slots + 700) Q (F0 mi 2560 ls [])) :
    W p l e room_1 s mi args below meth c H locs cells slots Q (F0 mi 2059 ls []) := by
  obtain ⟨hx, hb, hml, hown, hts, hK, hZ, hT, hA, hX, hbl, hbA⟩ := C0
  have hP : va_P (gD g) vwCl (wT g ha (S.svd.map (fun _ => hs 0), S.ep, S.fc) ++ wQ g (ha 1) S.qv ++ wQ g (ha 2) S.bv ++ wS g (ha 3) S.sv ++ wH g (ha 4) hd S.hv ++ wP g (ha 5) S.pv ++ wL g (ha 5 2) lq ++ wO g (ha 6) S.ov ++ wSv g hs S.svd ++ wM g hm S.mv ++ wOut g oa ol ++ wOud g ob od) H := hP
  have hD : va_D A (wT g ha (S.svd.map (fun _ => hs 0), S.ep, S.fc) ++ wQ g (ha 1) S.qv ++ wQ g (ha 2) S.bv ++ wS g (ha 3) S.sv ++ wH g (ha 4) hd S.hv ++ wP g (ha 5) S.pv ++ wL g (ha 5 2) lq ++ wO g (ha 6) S.ov ++ wSv g hs S.svd ++ wM g hm S.mv ++ wOut g oa ol ++ wOud g ob od) := hD
  unfold lawOp_33 at hf
  refine lv_aload_n hx hb dL_law_2059 rfl (lv_at hl 2 rfl) ?_
  obtain ⟨o2, hg3, hf⟩ := jbB_e hf
  have hPr : va_P (gD g) vwCl ((wT g ha (S.svd.map (fun _ => hs 0), S.ep, S.fc) ++ wQ g (ha 1) S.qv) ++ (wQ g (ha 2) S.bv ++ wS g (ha 3) S.sv ++ wH g (ha 4) hd S.hv ++ wP g (ha 5) S.pv ++ wL g (ha 5 2) lq ++ wO g (ha 6) S.ov ++ wSv g hs S.svd ++ wM g hm S.mv ++ wOut g oa ol ++ wOud g ob od)) _ := wp_P (wp_of fun f => by simp only [wOut, wOud, List.countP_append, List.countP_cons, List.countP_nil] <;> omega) hP
  refine cpv_d (As := []) (rest := []) (Wr := (wQ g (ha 2) S.bv ++ wS g (ha 3) S.sv ++ wH g (ha 4) hd S.hv ++ wP g (ha 5) S.pv ++ wL g (ha 5 2) lq ++ wO g (ha 6) S.ov ++ wSv g hs S.svd ++ wM g hm S.mv ++ wOut g oa ol ++ wOud g ob od)) (Wn := (wT g ha (S.svd.map (fun _ => hs 0), S.ep, S.fc) ++ wQ g (ha 1) S.qv ++ wQ g (ha 2) S.bv ++ wS g (ha 3) S.sv ++ wH g (ha 4) hd S.hv ++ wP g (ha 5) S.pv ++ wL g (ha 5 2) lq ++ wO g (ha 6) S.ov ++ wSv g hs S.svd ++ wM g hm S.mv ++ wOut g oa ol ++ wOud g ob od)) ⟨hx, hb, hml, hown, hts⟩ (c_X10_meanHeight l hlt g ha (S.svd.map (fun _ => hs 0), S.ep, S.fc) S.qv _ hg3) (cwV 0 hts gL_law_X10_meanHeight rfl rfl rfl hd_X10_meanHeight ⟨(Nat.le_of_ble_eq_true rfl), (Nat.le_of_ble_eq_true rfl)⟩) hK hZ hT hA hP hD hS hl.1 (va_recv hK hPr (ci := 9) (q0 := 0) rfl rfl) (wp_of fun f => by simp only [wOut, wOud, List.countP_append, List.countP_cons, List.countP_nil] <;> omega) (wp_of fun f => by simp only [wOut, wOud, List.countP_append, List.countP_cons, List.countP_nil] <;> omega) rfl rfl (Nat.le_of_ble_eq_true rfl) ⟨show cells + 0 ≤ 603072 by omega, show slots + 0 ≤ 7190634 by omega⟩ dL_law_2060 (fun H locs hP hD hS => ?_)
  refine lv_dstore (lv' := [(6, .double o2), (5, .int i), (0, .ref b), (1, .ref (ha 0 0)), (2, .ref (hm 0)), (3, .ref oa), (4, .ref ob)]) hx hb dL_law_2063 hl (by decide) rfl (fun ls hl => ?_)
  refine lv_aload_n hx hb dL_law_2065 rfl (lv_at hl 4 rfl) ?_
  obtain ⟨o4, hg5, hf⟩ := jbB_e hf
  have hPr : va_P (gD g) vwCl ((wM g hm S.mv) ++ (wT g ha (S.svd.map (fun _ => hs 0), S.ep, S.fc) ++ wQ g (ha 1) S.qv ++ wQ g (ha 2) S.bv ++ wS g (ha 3) S.sv ++ wH g (ha 4) hd S.hv ++ wP g (ha 5) S.pv ++ wL g (ha 5 2) lq ++ wO g (ha 6) S.ov ++ wSv g hs S.svd ++ wOut g oa ol ++ wOud g ob od)) _ := wp_P (wp_of fun f => by simp only [wOut, wOud, List.countP_append, List.countP_cons, List.countP_nil] <;> omega) hP
  refine cpv_d (As := []) (rest := []) (Wr := (wT g ha (S.svd.map (fun _ => hs 0), S.ep, S.fc) ++ wQ g (ha 1) S.qv ++ wQ g (ha 2) S.bv ++ wS g (ha 3) S.sv ++ wH g (ha 4) hd S.hv ++ wP g (ha 5) S.pv ++ wL g (ha 5 2) lq ++ wO g (ha 6) S.ov ++ wSv g hs S.svd ++ wOut g oa ol ++ wOud g ob od)) (Wn := (wT g ha (S.svd.map (fun _ => hs 0), S.ep, S.fc) ++ wQ g (ha 1) S.qv ++ wQ g (ha 2) S.bv ++ wS g (ha 3) S.sv ++ wH g (ha 4) hd S.hv ++ wP g (ha 5) S.pv ++ wL g (ha 5 2) lq ++ wO g (ha 6) S.ov ++ wSv g hs S.svd ++ wM g hm (o4.2) ++ wOut g oa ol ++ wOud g ob od)) ⟨hx, hb, hml, hown, hts⟩ (c_X11_meanHeight l g hm S.mv  _ hg5) (cwV 0 hts gL_law_X11_meanHeight rfl rfl rfl hd_X11_meanHeight ⟨(Nat.le_of_ble_eq_true rfl), (Nat.le_of_ble_eq_true rfl)⟩) hK hZ hT hA hP hD hS hl.1 (va_recv hK hPr (ci := 10) (q0 := 0) rfl rfl) (wp_of fun f => by simp only [wOut, wOud, List.countP_append, List.countP_cons, List.countP_nil] <;> omega) (wp_of fun f => by simp only [wOut, wOud, List.countP_append, List.countP_cons, List.countP_nil] <;> omega) rfl rfl (Nat.le_of_ble_eq_true rfl) ⟨show cells + 0 ≤ 603072 by omega, show slots + 0 ≤ 7190634 by omega⟩ dL_law_2066 (fun H locs hP hD hS => ?_)
  refine lv_dstore (lv' := [(8, .double (o4.1)), (6, .double o2), (5, .int i), (0, .ref b), (1, .ref (ha 0 0)), (2, .ref (hm 0)), (3, .ref oa), (4, .ref ob)]) hx hb dL_law_2069 hl (by decide) rfl (fun ls hl => ?_)
  refine lv_dload hx hb dL_law_2071 (lv_at hl 1 rfl) ?_
  refine lv_dload hx hb dL_law_2073 (lv_at hl 0 rfl) ?_
  obtain ⟨he, hf⟩ := jbA_e hf
  cases hf
  refine lv_dcmp hx hb dL_law_2075 ?_
  rw [he]
  refine lv_if_eq (tgt := 2097) hx hb dL_law_2076 (by decide) (fun hc => ?_) (fun hc => absurd rfl hc)
  refine lv_goto (tgt := 2560) hx hb dL_law_2097 (by decide) ?_
  refine W.widen (k := cells + 60) (n := slots + 700) (by omega) (by omega) ?_
  exact kk hd hs lq _ _ _ hok hP hD hS (lv_sub hl [2, 3, 4, 5, 6, 7] rfl)
set_option maxHeartbeats 4000000 in
set_option maxRecDepth 100000 in
theorem lwc_34 {p : Program} {e : Env} {s : State} {mi : MethodId} {args : Array Value} {below : List Frame} {meth : Method} {c : Code} {g : GG} {A : Nat → Prop} {b L : Nat} {xs : Nat → Int32} {Q : State → Prop} (l : Launch) (hlt : l.stackTraces = false) (C0 : LwB p s mi args c g A b L xs)
    (ha hd : Nat → Nat → Nat) (hs hm : Nat → Nat) (lq : ListS) (oa ob : Nat) (S : Sys) (ol : Nat → Int64) (od : Nat → UInt64) (hok : lsOK lq) (i : Int32) (h1 : vp_in (i + 1) L) (h2 : vp_in (i + 2) L) (h3 : vp_in (i + 3) L) (h4 : vp_in (i + 4) L) (r : LR)
    (hf : lawOp_34 S (xs (i + 1).toNatClampNeg) (xs (i + 2).toNatClampNeg) (xs (i + 3).toNatClampNeg) (xs (i + 4).toNatClampNeg) ol od = some r) {H : Heap} {locs : List Loc} {ls : Array Slot} {cells slots : Nat} (hc9 : cells + 60 ≤ 603072) (hs9 : slots + 700 ≤ 7190634)
    (hP : va_P (gD g) vwCl (wSys g ha hd hs hm lq oa ob S ol od) H) (hD : va_D A (wSys g ha hd hs hm lq oa ob S ol od)) (hS : va_S A s.heap H locs) (hl : lv_has ls 10 [(5, .int i), (0, .ref b), (1, .ref (ha 0 0)), (2, .ref (hm 0)), (3, .ref oa), (4, .ref ob)])
    (kk : ∀ (hd : Nat → Nat → Nat) (hs : Nat → Nat) (lq : ListS) (H : Heap) (locs : List Loc) (ls : Array Slot), lsOK lq → va_P (gD g) vwCl (wSys g ha hd hs hm lq oa ob r.1 r.2.1 r.2.2) H → va_D A (wSys g ha hd hs hm lq oa ob r.1 r.2.1 r.2.2) → va_S A s.heap H locs → lv_has ls 10 [(5, .int i), (0, .ref b), (1, .ref (ha 0 0)), (2, .ref (hm 0)), (3, .ref oa), (4, .ref ob)] → W p l e room_1 s mi args below meth c H locs (cells + 60) (slots + 700) Q (F0 mi 2560 ls [])) :
    W p l e room_1 s mi args below meth c H locs cells slots Q (F0 mi 2100 ls []) := by
  obtain ⟨hx, hb, hml, hown, hts, hK, hZ, hT, hA, hX, hbl, hbA⟩ := C0
  have hP : va_P (gD g) vwCl (wT g ha (S.svd.map (fun _ => hs 0), S.ep, S.fc) ++ wQ g (ha 1) S.qv ++ wQ g (ha 2) S.bv ++ wS g (ha 3) S.sv ++ wH g (ha 4) hd S.hv ++ wP g (ha 5) S.pv ++ wL g (ha 5 2) lq ++ wO g (ha 6) S.ov ++ wSv g hs S.svd ++ wM g hm S.mv ++ wOut g oa ol ++ wOud g ob od) H := hP
  have hD : va_D A (wT g ha (S.svd.map (fun _ => hs 0), S.ep, S.fc) ++ wQ g (ha 1) S.qv ++ wQ g (ha 2) S.bv ++ wS g (ha 3) S.sv ++ wH g (ha 4) hd S.hv ++ wP g (ha 5) S.pv ++ wL g (ha 5 2) lq ++ wO g (ha 6) S.ov ++ wSv g hs S.svd ++ wM g hm S.mv ++ wOut g oa ol ++ wOud g ob od) := hD
  unfold lawOp_34 at hf
  refine lv_aload_n hx hb dL_law_2100 rfl (lv_at hl 2 rfl) ?_
  refine lv_aload hx hb dL_law_2101 (lv_at hl 5 rfl) ?_
  obtain ⟨k1, hg2, hf⟩ := jbB_e hf
  refine cws_i (As := [.ref (ha 0 0), .ref ob]) (rest := []) (Wr := (wQ g (ha 2) S.bv ++ wS g (ha 3) S.sv ++ wH g (ha 4) hd S.hv ++ wP g (ha 5) S.pv ++ wL g (ha 5 2) lq ++ wO g (ha 6) S.ov ++ wSv g hs S.svd ++ wM g hm S.mv ++ wOut g oa ol)) (Wn := (wT g ha (S.svd.map (fun _ => hs 0), S.ep, S.fc) ++ wQ g (ha 1) S.qv ++ wQ g (ha 2) S.bv ++ wS g (ha 3) S.sv ++ wH g (ha 4) hd S.hv ++ wP g (ha 5) S.pv ++ wL g (ha 5 2) lq ++ wO g (ha 6) S.ov ++ wSv g hs S.svd ++ wM g hm S.mv ++ wOut g oa ol ++ wOud g ob (k1.2))) ⟨hx, hb, hml, hown, hts⟩ (c_L_liftedShare l hlt g ha (S.svd.map (fun _ => hs 0), S.ep, S.fc) S.qv  ob od _ hg2) (vx_cwSW 2 hts gL_law_L_liftedShare rfl rfl rfl hd_L_liftedShare.2 ⟨(Nat.le_of_ble_eq_true rfl), (Nat.le_of_ble_eq_true rfl)⟩) hK hZ hT hA hP hD hS hl.1 (wp_of fun f => by simp only [wOut, wOud, List.countP_append, List.countP_cons, List.countP_nil] <;> omega) (wp_of fun f => by simp only [wOut, wOud, List.countP_append, List.countP_cons, List.countP_nil] <;> omega) rfl rfl (Nat.le_of_ble_eq_true rfl) ⟨show cells + 1 ≤ 603072 by omega, show slots + 6 ≤ 7190634 by omega⟩ dL_law_2103 (fun H locs hP hD hS => ?_)
  refine lv_istore (lv' := [(6, .int (k1.1)), (5, .int i), (0, .ref b), (1, .ref (ha 0 0)), (2, .ref (hm 0)), (3, .ref oa), (4, .ref ob)]) hx hb dL_law_2106 hl (by decide) rfl (fun ls hl => ?_)
  refine lv_aload_n hx hb dL_law_2108 rfl (lv_at hl 4 rfl) ?_
  obtain ⟨o3, hg4, hf⟩ := jbB_e hf
  have hPr : va_P (gD g) vwCl ((wM g hm S.mv) ++ (wT g ha (S.svd.map (fun _ => hs 0), S.ep, S.fc) ++ wQ g (ha 1) S.qv ++ wQ g (ha 2) S.bv ++ wS g (ha 3) S.sv ++ wH g (ha 4) hd S.hv ++ wP g (ha 5) S.pv ++ wL g (ha 5 2) lq ++ wO g (ha 6) S.ov ++ wSv g hs S.svd ++ wOut g oa ol ++ wOud g ob (k1.2))) _ := wp_P (wp_of fun f => by simp only [wOut, wOud, List.countP_append, List.countP_cons, List.countP_nil] <;> omega) hP
  refine cpv_f (As := []) (rest := []) (Wr := (wT g ha (S.svd.map (fun _ => hs 0), S.ep, S.fc) ++ wQ g (ha 1) S.qv ++ wQ g (ha 2) S.bv ++ wS g (ha 3) S.sv ++ wH g (ha 4) hd S.hv ++ wP g (ha 5) S.pv ++ wL g (ha 5 2) lq ++ wO g (ha 6) S.ov ++ wSv g hs S.svd ++ wOut g oa ol ++ wOud g ob (k1.2))) (Wn := (wT g ha (S.svd.map (fun _ => hs 0), S.ep, S.fc) ++ wQ g (ha 1) S.qv ++ wQ g (ha 2) S.bv ++ wS g (ha 3) S.sv ++ wH g (ha 4) hd S.hv ++ wP g (ha 5) S.pv ++ wL g (ha 5 2) lq ++ wO g (ha 6) S.ov ++ wSv g hs S.svd ++ wM g hm (o3.2) ++ wOut g oa ol ++ wOud g ob (k1.2))) ⟨hx, hb, hml, hown, hts⟩ (c_X11_liftedShare l g hm S.mv  _ hg4) (cwV 0 hts gL_law_X11_liftedShare rfl rfl rfl hd_X11_liftedShare ⟨(Nat.le_of_ble_eq_true rfl), (Nat.le_of_ble_eq_true rfl)⟩) hK hZ hT hA hP hD hS hl.1 (va_recv hK hPr (ci := 10) (q0 := 0) rfl rfl) (wp_of fun f => by simp only [wOut, wOud, List.countP_append, List.countP_cons, List.countP_nil] <;> omega) (wp_of fun f => by simp only [wOut, wOud, List.countP_append, List.countP_cons, List.countP_nil] <;> omega) rfl rfl (Nat.le_of_ble_eq_true rfl) ⟨show cells + 1 + 0 ≤ 603072 by omega, show slots + 6 + 0 ≤ 7190634 by omega⟩ dL_law_2109 (fun H locs hP hD hS => ?_)
  refine lv_fstore (lv' := [(7, .float (o3.1)), (6, .int (k1.1)), (5, .int i), (0, .ref b), (1, .ref (ha 0 0)), (2, .ref (hm 0)), (3, .ref oa), (4, .ref ob)]) hx hb dL_law_2112 hl (by decide) rfl (fun ls hl => ?_)
  refine lv_aload_n hx hb dL_law_2114 rfl (lv_at hl 5 rfl) ?_
  obtain ⟨o5, hg6, hf⟩ := jbB_e hf
  have hPr : va_P (gD g) vwCl ((wM g hm (o3.2)) ++ (wT g ha (S.svd.map (fun _ => hs 0), S.ep, S.fc) ++ wQ g (ha 1) S.qv ++ wQ g (ha 2) S.bv ++ wS g (ha 3) S.sv ++ wH g (ha 4) hd S.hv ++ wP g (ha 5) S.pv ++ wL g (ha 5 2) lq ++ wO g (ha 6) S.ov ++ wSv g hs S.svd ++ wOut g oa ol ++ wOud g ob (k1.2))) _ := wp_P (wp_of fun f => by simp only [wOut, wOud, List.countP_append, List.countP_cons, List.countP_nil] <;> omega) hP
  refine cpv_i (As := []) (rest := []) (Wr := (wT g ha (S.svd.map (fun _ => hs 0), S.ep, S.fc) ++ wQ g (ha 1) S.qv ++ wQ g (ha 2) S.bv ++ wS g (ha 3) S.sv ++ wH g (ha 4) hd S.hv ++ wP g (ha 5) S.pv ++ wL g (ha 5 2) lq ++ wO g (ha 6) S.ov ++ wSv g hs S.svd ++ wOut g oa ol ++ wOud g ob (k1.2))) (Wn := (wT g ha (S.svd.map (fun _ => hs 0), S.ep, S.fc) ++ wQ g (ha 1) S.qv ++ wQ g (ha 2) S.bv ++ wS g (ha 3) S.sv ++ wH g (ha 4) hd S.hv ++ wP g (ha 5) S.pv ++ wL g (ha 5 2) lq ++ wO g (ha 6) S.ov ++ wSv g hs S.svd ++ wM g hm (o3.2) ++ wOut g oa ol ++ wOud g ob (k1.2))) ⟨hx, hb, hml, hown, hts⟩ (c_X11_thrown l g hm (o3.2)  _ hg6) (cwV 0 hts gL_law_X11_thrown rfl rfl rfl hd_X11_thrown ⟨(Nat.le_of_ble_eq_true rfl), (Nat.le_of_ble_eq_true rfl)⟩) hK hZ hT hA hP hD hS hl.1 (va_recv hK hPr (ci := 10) (q0 := 0) rfl rfl) (wp_of fun f => by simp only [wOut, wOud, List.countP_append, List.countP_cons, List.countP_nil] <;> omega) (wp_of fun f => by simp only [wOut, wOud, List.countP_append, List.countP_cons, List.countP_nil] <;> omega) rfl rfl (Nat.le_of_ble_eq_true rfl) ⟨show cells + 1 + 0 ≤ 603072 by omega, show slots + 6 + 0 ≤ 7190634 by omega⟩ dL_law_2115 (fun H locs hP hD hS => ?_)
  refine lv_iload hx hb dL_law_2118 (lv_at hl 1 rfl) ?_
  refine lv_icmp_eq (tgt := 2125) hx hb dL_law_2120 (by decide) (fun hc => ?_) (fun hc => ?_)
  · have hf := jbT hf hc
    refine lv_iload hx hb dL_law_2125 (lv_at hl 1 rfl) ?_
    refine lv_if_ne (tgt := 2163) hx hb dL_law_2127 (by decide) (fun hc2 => ?_) (fun hc2 => ?_)
    · have hf := jbF hf hc2
      cases hf
      refine lv_goto (tgt := 2560) hx hb dL_law_2163 (by decide) ?_
      refine W.widen (k := cells + 60) (n := slots + 700) (by omega) (by omega) ?_
      exact kk hd hs lq _ _ _ hok hP hD hS (lv_sub hl [2, 3, 4, 5, 6, 7] rfl)
    · have hf := jbT hf hc2
      obtain ⟨⟨hnn, he⟩, hf⟩ := jbA_e hf
      cases hf
      refine lv_aload hx hb dL_law_2130 (lv_at hl 7 rfl) ?_
      refine lv_iconst (v := 0) hx hb dL_law_2132 (by decide) ?_
      have hP9 : va_P (gD g) vwCl ((wOud g ob (k1.2)) ++ (wT g ha (S.svd.map (fun _ => hs 0), S.ep, S.fc) ++ wQ g (ha 1) S.qv ++ wQ g (ha 2) S.bv ++ wS g (ha 3) S.sv ++ wH g (ha 4) hd S.hv ++ wP g (ha 5) S.pv ++ wL g (ha 5 2) lq ++ wO g (ha 6) S.ov ++ wSv g hs S.svd ++ wM g hm (o3.2) ++ wOut g oa ol)) _ := wp_P (wp_of fun f => by simp only [wOut, wOud, List.countP_append, List.countP_cons, List.countP_nil] <;> omega) hP
      refine va_dald hx hb hK hP9 0 4 rfl rfl (i := 0) vp_in01 dL_law_2133 ?_
      refine lv_fload hx hb dL_law_2134 (lv_at hl 0 rfl) ?_
      refine lv_f2d hx hb dL_law_2136 hnn ?_
      refine lv_dcmp hx hb dL_law_2137 ?_
      rw [he]
      refine lv_if_eq (tgt := 2163) hx hb dL_law_2138 (by decide) (fun hc => ?_) (fun hc => absurd rfl hc)
      refine lv_goto (tgt := 2560) hx hb dL_law_2163 (by decide) ?_
      refine W.widen (k := cells + 60) (n := slots + 700) (by omega) (by omega) ?_
      exact kk hd hs lq _ _ _ hok hP hD hS (lv_sub hl [2, 3, 4, 5, 6, 7] rfl)
  · have hf := jbF hf hc
    cases hf
set_option maxHeartbeats 4000000 in
set_option maxRecDepth 100000 in
theorem lwc_35 {p : Program} {e : Env} {s : State} {mi : MethodId} {args : Array Value} {below : List Frame} {meth : Method} {c : Code} {g : GG} {A : Nat → Prop} {b L : Nat} {xs : Nat → Int32} {Q : State → Prop} (l : Launch) (hlt : l.stackTraces = false) (C0 : LwB p s mi args c g A b L xs)
    (ha hd : Nat → Nat → Nat) (hs hm : Nat → Nat) (lq : ListS) (oa ob : Nat) (S : Sys) (ol : Nat → Int64) (od : Nat → UInt64) (hok : lsOK lq) (i : Int32) (h1 : vp_in (i + 1) L) (h2 : vp_in (i + 2) L) (h3 : vp_in (i + 3) L) (h4 : vp_in (i + 4) L) (r : LR)
    (hf : lawOp_35 S (xs (i + 1).toNatClampNeg) (xs (i + 2).toNatClampNeg) (xs (i + 3).toNatClampNeg) (xs (i + 4).toNatClampNeg) ol od = some r) {H : Heap} {locs : List Loc} {ls : Array Slot} {cells slots : Nat} (hc9 : cells + 60 ≤ 603072) (hs9 : slots + 700 ≤ 7190634)
    (hP : va_P (gD g) vwCl (wSys g ha hd hs hm lq oa ob S ol od) H) (hD : va_D A (wSys g ha hd hs hm lq oa ob S ol od)) (hS : va_S A s.heap H locs) (hl : lv_has ls 10 [(5, .int i), (0, .ref b), (1, .ref (ha 0 0)), (2, .ref (hm 0)), (3, .ref oa), (4, .ref ob)])
    (kk : ∀ (hd : Nat → Nat → Nat) (hs : Nat → Nat) (lq : ListS) (H : Heap) (locs : List Loc) (ls : Array Slot), lsOK lq → va_P (gD g) vwCl (wSys g ha hd hs hm lq oa ob r.1 r.2.1 r.2.2) H → va_D A (wSys g ha hd hs hm lq oa ob r.1 r.2.1 r.2.2) → va_S A s.heap H locs → lv_has ls 10 [(5, .int i), (0, .ref b), (1, .ref (ha 0 0)), (2, .ref (hm 0)), (3, .ref oa), (4, .ref ob)] → W p l e room_1 s mi args below meth c H locs (cells + 60) (slots + 700) Q (F0 mi 2560 ls [])) :
    W p l e room_1 s mi args below meth c H locs cells slots Q (F0 mi 2166 ls []) := by
  obtain ⟨hx, hb, hml, hown, hts, hK, hZ, hT, hA, hX, hbl, hbA⟩ := C0
  have hP : va_P (gD g) vwCl (wT g ha (S.svd.map (fun _ => hs 0), S.ep, S.fc) ++ wQ g (ha 1) S.qv ++ wQ g (ha 2) S.bv ++ wS g (ha 3) S.sv ++ wH g (ha 4) hd S.hv ++ wP g (ha 5) S.pv ++ wL g (ha 5 2) lq ++ wO g (ha 6) S.ov ++ wSv g hs S.svd ++ wM g hm S.mv ++ wOut g oa ol ++ wOud g ob od) H := hP
  have hD : va_D A (wT g ha (S.svd.map (fun _ => hs 0), S.ep, S.fc) ++ wQ g (ha 1) S.qv ++ wQ g (ha 2) S.bv ++ wS g (ha 3) S.sv ++ wH g (ha 4) hd S.hv ++ wP g (ha 5) S.pv ++ wL g (ha 5 2) lq ++ wO g (ha 6) S.ov ++ wSv g hs S.svd ++ wM g hm S.mv ++ wOut g oa ol ++ wOud g ob od) := hD
  unfold lawOp_35 at hf
  refine lv_aload_n hx hb dL_law_2166 rfl (lv_at hl 2 rfl) ?_
  obtain ⟨o2, hg3, hf⟩ := jbB_e hf
  have hPr : va_P (gD g) vwCl ((wT g ha (S.svd.map (fun _ => hs 0), S.ep, S.fc) ++ wQ g (ha 1) S.qv ++ wS g (ha 3) S.sv) ++ (wQ g (ha 2) S.bv ++ wH g (ha 4) hd S.hv ++ wP g (ha 5) S.pv ++ wL g (ha 5 2) lq ++ wO g (ha 6) S.ov ++ wSv g hs S.svd ++ wM g hm S.mv ++ wOut g oa ol ++ wOud g ob od)) _ := wp_P (wp_of fun f => by simp only [wOut, wOud, List.countP_append, List.countP_cons, List.countP_nil] <;> omega) hP
  refine cpv_i (As := []) (rest := []) (Wr := (wQ g (ha 2) S.bv ++ wH g (ha 4) hd S.hv ++ wP g (ha 5) S.pv ++ wL g (ha 5 2) lq ++ wO g (ha 6) S.ov ++ wSv g hs S.svd ++ wM g hm S.mv ++ wOut g oa ol ++ wOud g ob od)) (Wn := (wT g ha (S.svd.map (fun _ => hs 0), S.ep, S.fc) ++ wQ g (ha 1) S.qv ++ wQ g (ha 2) S.bv ++ wS g (ha 3) (o2.2) ++ wH g (ha 4) hd S.hv ++ wP g (ha 5) S.pv ++ wL g (ha 5 2) lq ++ wO g (ha 6) S.ov ++ wSv g hs S.svd ++ wM g hm S.mv ++ wOut g oa ol ++ wOud g ob od)) ⟨hx, hb, hml, hown, hts⟩ (c_X10_isConsistent l hlt g ha (S.svd.map (fun _ => hs 0), S.ep, S.fc) S.qv S.sv _ hg3) (cwV 0 hts gL_law_X10_isConsistent rfl rfl rfl hd_X10_isConsistent ⟨(Nat.le_of_ble_eq_true rfl), (Nat.le_of_ble_eq_true rfl)⟩) hK hZ hT hA hP hD hS hl.1 (va_recv hK hPr (ci := 9) (q0 := 0) rfl rfl) (wp_of fun f => by simp only [wOut, wOud, List.countP_append, List.countP_cons, List.countP_nil] <;> omega) (wp_of fun f => by simp only [wOut, wOud, List.countP_append, List.countP_cons, List.countP_nil] <;> omega) rfl rfl (Nat.le_of_ble_eq_true rfl) ⟨show cells + 0 ≤ 603072 by omega, show slots + 0 ≤ 7190634 by omega⟩ dL_law_2167 (fun H locs hP hD hS => ?_)
  refine lv_aload_n hx hb dL_law_2170 rfl (lv_at hl 3 rfl) ?_
  obtain ⟨o4, hg5, hf⟩ := jbB_e hf
  have hPr : va_P (gD g) vwCl ((wM g hm S.mv) ++ (wT g ha (S.svd.map (fun _ => hs 0), S.ep, S.fc) ++ wQ g (ha 1) S.qv ++ wQ g (ha 2) S.bv ++ wS g (ha 3) (o2.2) ++ wH g (ha 4) hd S.hv ++ wP g (ha 5) S.pv ++ wL g (ha 5 2) lq ++ wO g (ha 6) S.ov ++ wSv g hs S.svd ++ wOut g oa ol ++ wOud g ob od)) _ := wp_P (wp_of fun f => by simp only [wOut, wOud, List.countP_append, List.countP_cons, List.countP_nil] <;> omega) hP
  refine cpv_i (As := []) (rest := [.int (o2.1)]) (Wr := (wT g ha (S.svd.map (fun _ => hs 0), S.ep, S.fc) ++ wQ g (ha 1) S.qv ++ wQ g (ha 2) S.bv ++ wS g (ha 3) (o2.2) ++ wH g (ha 4) hd S.hv ++ wP g (ha 5) S.pv ++ wL g (ha 5 2) lq ++ wO g (ha 6) S.ov ++ wSv g hs S.svd ++ wOut g oa ol ++ wOud g ob od)) (Wn := (wT g ha (S.svd.map (fun _ => hs 0), S.ep, S.fc) ++ wQ g (ha 1) S.qv ++ wQ g (ha 2) S.bv ++ wS g (ha 3) (o2.2) ++ wH g (ha 4) hd S.hv ++ wP g (ha 5) S.pv ++ wL g (ha 5 2) lq ++ wO g (ha 6) S.ov ++ wSv g hs S.svd ++ wM g hm (o4.2) ++ wOut g oa ol ++ wOud g ob od)) ⟨hx, hb, hml, hown, hts⟩ (c_X11_isConsistent l g hm S.mv  _ hg5) (cwV 0 hts gL_law_X11_isConsistent rfl rfl rfl hd_X11_isConsistent ⟨(Nat.le_of_ble_eq_true rfl), (Nat.le_of_ble_eq_true rfl)⟩) hK hZ hT hA hP hD hS hl.1 (va_recv hK hPr (ci := 10) (q0 := 0) rfl rfl) (wp_of fun f => by simp only [wOut, wOud, List.countP_append, List.countP_cons, List.countP_nil] <;> omega) (wp_of fun f => by simp only [wOut, wOud, List.countP_append, List.countP_cons, List.countP_nil] <;> omega) rfl rfl (Nat.le_of_ble_eq_true rfl) ⟨show cells + 0 ≤ 603072 by omega, show slots + 0 ≤ 7190634 by omega⟩ dL_law_2171 (fun H locs hP hD hS => ?_)
  refine lv_icmp_eq (tgt := 2560) hx hb dL_law_2174 (by decide) (fun hc => ?_) (fun hc => ?_)
  · have hf := jbT hf hc
    cases hf
    refine W.widen (k := cells + 60) (n := slots + 700) (by omega) (by omega) ?_
    exact kk hd hs lq _ _ _ hok hP hD hS (lv_sub hl [0, 1, 2, 3, 4, 5] rfl)
  · have hf := jbF hf hc
    cases hf
set_option maxHeartbeats 4000000 in
set_option maxRecDepth 100000 in
theorem lwc_36 {p : Program} {e : Env} {s : State} {mi : MethodId} {args : Array Value} {below : List Frame} {meth : Method} {c : Code} {g : GG} {A : Nat → Prop} {b L : Nat} {xs : Nat → Int32} {Q : State → Prop} (l : Launch) (hlt : l.stackTraces = false) (C0 : LwB p s mi args c g A b L xs)
    (ha hd : Nat → Nat → Nat) (hs hm : Nat → Nat) (lq : ListS) (oa ob : Nat) (S : Sys) (ol : Nat → Int64) (od : Nat → UInt64) (hok : lsOK lq) (i : Int32) (h1 : vp_in (i + 1) L) (h2 : vp_in (i + 2) L) (h3 : vp_in (i + 3) L) (h4 : vp_in (i + 4) L) (r : LR)
    (hf : lawOp_36 S (xs (i + 1).toNatClampNeg) (xs (i + 2).toNatClampNeg) (xs (i + 3).toNatClampNeg) (xs (i + 4).toNatClampNeg) ol od = some r) {H : Heap} {locs : List Loc} {ls : Array Slot} {cells slots : Nat} (hc9 : cells + 60 ≤ 603072) (hs9 : slots + 700 ≤ 7190634)
    (hP : va_P (gD g) vwCl (wSys g ha hd hs hm lq oa ob S ol od) H) (hD : va_D A (wSys g ha hd hs hm lq oa ob S ol od)) (hS : va_S A s.heap H locs) (hl : lv_has ls 10 [(5, .int i), (0, .ref b), (1, .ref (ha 0 0)), (2, .ref (hm 0)), (3, .ref oa), (4, .ref ob)])
    (kk : ∀ (hd : Nat → Nat → Nat) (hs : Nat → Nat) (lq : ListS) (H : Heap) (locs : List Loc) (ls : Array Slot), lsOK lq → va_P (gD g) vwCl (wSys g ha hd hs hm lq oa ob r.1 r.2.1 r.2.2) H → va_D A (wSys g ha hd hs hm lq oa ob r.1 r.2.1 r.2.2) → va_S A s.heap H locs → lv_has ls 10 [(5, .int i), (0, .ref b), (1, .ref (ha 0 0)), (2, .ref (hm 0)), (3, .ref oa), (4, .ref ob)] → W p l e room_1 s mi args below meth c H locs (cells + 60) (slots + 700) Q (F0 mi 2560 ls [])) :
    W p l e room_1 s mi args below meth c H locs cells slots Q (F0 mi 2179 ls []) := by
  obtain ⟨hx, hb, hml, hown, hts, hK, hZ, hT, hA, hX, hbl, hbA⟩ := C0
  have hP : va_P (gD g) vwCl (wT g ha (S.svd.map (fun _ => hs 0), S.ep, S.fc) ++ wQ g (ha 1) S.qv ++ wQ g (ha 2) S.bv ++ wS g (ha 3) S.sv ++ wH g (ha 4) hd S.hv ++ wP g (ha 5) S.pv ++ wL g (ha 5 2) lq ++ wO g (ha 6) S.ov ++ wSv g hs S.svd ++ wM g hm S.mv ++ wOut g oa ol ++ wOud g ob od) H := hP
  have hD : va_D A (wT g ha (S.svd.map (fun _ => hs 0), S.ep, S.fc) ++ wQ g (ha 1) S.qv ++ wQ g (ha 2) S.bv ++ wS g (ha 3) S.sv ++ wH g (ha 4) hd S.hv ++ wP g (ha 5) S.pv ++ wL g (ha 5 2) lq ++ wO g (ha 6) S.ov ++ wSv g hs S.svd ++ wM g hm S.mv ++ wOut g oa ol ++ wOud g ob od) := hD
  unfold lawOp_36 at hf
  refine lv_aload_n hx hb dL_law_2179 rfl (lv_at hl 2 rfl) ?_
  refine lv_aload_n hx hb dL_law_2180 rfl (lv_at hl 1 rfl) ?_
  refine lv_iload hx hb dL_law_2181 (lv_at hl 0 rfl) ?_
  refine lv_iconst (v := 1) hx hb dL_law_2183 (by decide) ?_
  refine lv_iadd hx hb dL_law_2184 ?_
  refine va_sld hx hb hX hbl hbA hS h1 dL_law_2185 ?_
  refine lv_i2c (v := ((xs (i + 1).toNatClampNeg).toUInt32 % 65536).toInt32) hx hb dL_law_2186 rfl ?_
  refine lv_aload_n hx hb dL_law_2187 rfl (lv_at hl 4 rfl) ?_
  obtain ⟨k1, hg2, hf⟩ := jbB_e hf
  refine cws_i (As := [.ref (ha 0 0), .int (((xs (i + 1).toNatClampNeg).toUInt32 % 65536).toInt32), .ref oa]) (rest := []) (Wr := (wQ g (ha 1) S.qv ++ wQ g (ha 2) S.bv ++ wS g (ha 3) S.sv ++ wH g (ha 4) hd S.hv ++ wL g (ha 5 2) lq ++ wO g (ha 6) S.ov ++ wSv g hs S.svd ++ wM g hm S.mv ++ wOud g ob od)) (Wn := (wT g ha (S.svd.map (fun _ => hs 0), S.ep, S.fc) ++ wQ g (ha 1) S.qv ++ wQ g (ha 2) S.bv ++ wS g (ha 3) S.sv ++ wH g (ha 4) hd S.hv ++ wP g (ha 5) (k1.2.2) ++ wL g (ha 5 2) lq ++ wO g (ha 6) S.ov ++ wSv g hs S.svd ++ wM g hm S.mv ++ wOut g oa (k1.2.1) ++ wOud g ob od)) ⟨hx, hb, hml, hown, hts⟩ (c_L_append l hlt g ha (S.svd.map (fun _ => hs 0), S.ep, S.fc) S.pv (((xs (i + 1).toNatClampNeg).toUInt32 % 65536).toInt32) oa ol _ hg2) (vx_cwSW 3 hts gL_law_L_append rfl rfl rfl hd_L_append.2 ⟨(Nat.le_of_ble_eq_true rfl), (Nat.le_of_ble_eq_true rfl)⟩) hK hZ hT hA hP hD hS hl.1 (wp_of fun f => by simp only [wOut, wOud, List.countP_append, List.countP_cons, List.countP_nil] <;> omega) (wp_of fun f => by simp only [wOut, wOud, List.countP_append, List.countP_cons, List.countP_nil] <;> omega) rfl rfl (Nat.le_of_ble_eq_true rfl) ⟨show cells + 1 ≤ 603072 by omega, show slots + 6 ≤ 7190634 by omega⟩ dL_law_2188 (fun H locs hP hD hS => ?_)
  refine lv_istore (lv' := [(6, .int (k1.1)), (5, .int i), (0, .ref b), (1, .ref (ha 0 0)), (2, .ref (hm 0)), (3, .ref oa), (4, .ref ob)]) hx hb dL_law_2191 hl (by decide) rfl (fun ls hl => ?_)
  refine lv_aload_n hx hb dL_law_2193 rfl (lv_at hl 4 rfl) ?_
  refine lv_aload_n hx hb dL_law_2194 rfl (lv_at hl 2 rfl) ?_
  refine lv_iload hx hb dL_law_2195 (lv_at hl 1 rfl) ?_
  refine lv_iconst (v := 1) hx hb dL_law_2197 (by decide) ?_
  refine lv_iadd hx hb dL_law_2198 ?_
  refine va_sld hx hb hX hbl hbA hS h1 dL_law_2199 ?_
  refine lv_i2c (v := ((xs (i + 1).toNatClampNeg).toUInt32 % 65536).toInt32) hx hb dL_law_2200 rfl ?_
  obtain ⟨o3, hg4, hf⟩ := jbB_e hf
  have hPr : va_P (gD g) vwCl ((wM g hm S.mv) ++ (wT g ha (S.svd.map (fun _ => hs 0), S.ep, S.fc) ++ wQ g (ha 1) S.qv ++ wQ g (ha 2) S.bv ++ wS g (ha 3) S.sv ++ wH g (ha 4) hd S.hv ++ wP g (ha 5) (k1.2.2) ++ wL g (ha 5 2) lq ++ wO g (ha 6) S.ov ++ wSv g hs S.svd ++ wOut g oa (k1.2.1) ++ wOud g ob od)) _ := wp_P (wp_of fun f => by simp only [wOut, wOud, List.countP_append, List.countP_cons, List.countP_nil] <;> omega) hP
  refine cpv_i (As := [.int (((xs (i + 1).toNatClampNeg).toUInt32 % 65536).toInt32)]) (rest := []) (Wr := (wT g ha (S.svd.map (fun _ => hs 0), S.ep, S.fc) ++ wQ g (ha 1) S.qv ++ wQ g (ha 2) S.bv ++ wS g (ha 3) S.sv ++ wH g (ha 4) hd S.hv ++ wP g (ha 5) (k1.2.2) ++ wL g (ha 5 2) lq ++ wO g (ha 6) S.ov ++ wSv g hs S.svd ++ wOut g oa (k1.2.1) ++ wOud g ob od)) (Wn := (wT g ha (S.svd.map (fun _ => hs 0), S.ep, S.fc) ++ wQ g (ha 1) S.qv ++ wQ g (ha 2) S.bv ++ wS g (ha 3) S.sv ++ wH g (ha 4) hd S.hv ++ wP g (ha 5) (k1.2.2) ++ wL g (ha 5 2) lq ++ wO g (ha 6) S.ov ++ wSv g hs S.svd ++ wM g hm (o3.2) ++ wOut g oa (k1.2.1) ++ wOud g ob od)) ⟨hx, hb, hml, hown, hts⟩ (c_X11_append l g hm S.mv (((xs (i + 1).toNatClampNeg).toUInt32 % 65536).toInt32) _ hg4) (cwV 1 hts gL_law_X11_append rfl rfl rfl hd_X11_append ⟨(Nat.le_of_ble_eq_true rfl), (Nat.le_of_ble_eq_true rfl)⟩) hK hZ hT hA hP hD hS hl.1 (va_recv hK hPr (ci := 10) (q0 := 0) rfl rfl) (wp_of fun f => by simp only [wOut, wOud, List.countP_append, List.countP_cons, List.countP_nil] <;> omega) (wp_of fun f => by simp only [wOut, wOud, List.countP_append, List.countP_cons, List.countP_nil] <;> omega) rfl rfl (Nat.le_of_ble_eq_true rfl) ⟨show cells + 1 + 0 ≤ 603072 by omega, show slots + 6 + 0 ≤ 7190634 by omega⟩ dL_law_2201 (fun H locs hP hD hS => ?_)
  refine lv_istore (lv' := [(7, .int (o3.1)), (6, .int (k1.1)), (5, .int i), (0, .ref b), (1, .ref (ha 0 0)), (2, .ref (hm 0)), (3, .ref oa), (4, .ref ob)]) hx hb dL_law_2204 hl (by decide) rfl (fun ls hl => ?_)
  refine lv_aload_n hx hb dL_law_2206 rfl (lv_at hl 5 rfl) ?_
  obtain ⟨o5, hg6, hf⟩ := jbB_e hf
  have hPr : va_P (gD g) vwCl ((wM g hm (o3.2)) ++ (wT g ha (S.svd.map (fun _ => hs 0), S.ep, S.fc) ++ wQ g (ha 1) S.qv ++ wQ g (ha 2) S.bv ++ wS g (ha 3) S.sv ++ wH g (ha 4) hd S.hv ++ wP g (ha 5) (k1.2.2) ++ wL g (ha 5 2) lq ++ wO g (ha 6) S.ov ++ wSv g hs S.svd ++ wOut g oa (k1.2.1) ++ wOud g ob od)) _ := wp_P (wp_of fun f => by simp only [wOut, wOud, List.countP_append, List.countP_cons, List.countP_nil] <;> omega) hP
  refine cpv_i (As := []) (rest := []) (Wr := (wT g ha (S.svd.map (fun _ => hs 0), S.ep, S.fc) ++ wQ g (ha 1) S.qv ++ wQ g (ha 2) S.bv ++ wS g (ha 3) S.sv ++ wH g (ha 4) hd S.hv ++ wP g (ha 5) (k1.2.2) ++ wL g (ha 5 2) lq ++ wO g (ha 6) S.ov ++ wSv g hs S.svd ++ wOut g oa (k1.2.1) ++ wOud g ob od)) (Wn := (wT g ha (S.svd.map (fun _ => hs 0), S.ep, S.fc) ++ wQ g (ha 1) S.qv ++ wQ g (ha 2) S.bv ++ wS g (ha 3) S.sv ++ wH g (ha 4) hd S.hv ++ wP g (ha 5) (k1.2.2) ++ wL g (ha 5 2) lq ++ wO g (ha 6) S.ov ++ wSv g hs S.svd ++ wM g hm (o3.2) ++ wOut g oa (k1.2.1) ++ wOud g ob od)) ⟨hx, hb, hml, hown, hts⟩ (c_X11_thrown l g hm (o3.2)  _ hg6) (cwV 0 hts gL_law_X11_thrown rfl rfl rfl hd_X11_thrown ⟨(Nat.le_of_ble_eq_true rfl), (Nat.le_of_ble_eq_true rfl)⟩) hK hZ hT hA hP hD hS hl.1 (va_recv hK hPr (ci := 10) (q0 := 0) rfl rfl) (wp_of fun f => by simp only [wOut, wOud, List.countP_append, List.countP_cons, List.countP_nil] <;> omega) (wp_of fun f => by simp only [wOut, wOud, List.countP_append, List.countP_cons, List.countP_nil] <;> omega) rfl rfl (Nat.le_of_ble_eq_true rfl) ⟨show cells + 1 + 0 ≤ 603072 by omega, show slots + 6 + 0 ≤ 7190634 by omega⟩ dL_law_2207 (fun H locs hP hD hS => ?_)
  refine lv_iload hx hb dL_law_2210 (lv_at hl 1 rfl) ?_
  refine lv_icmp_eq (tgt := 2217) hx hb dL_law_2212 (by decide) (fun hc => ?_) (fun hc => ?_)
  · have hf := jbT hf hc
    refine lv_iload hx hb dL_law_2217 (lv_at hl 1 rfl) ?_
    refine lv_if_ne (tgt := 2234) hx hb dL_law_2219 (by decide) (fun hc2 => ?_) (fun hc2 => ?_)
    · have hf := jbF hf hc2
      cases hf
      refine lv_goto (tgt := 2560) hx hb dL_law_2234 (by decide) ?_
      refine W.widen (k := cells + 60) (n := slots + 700) (by omega) (by omega) ?_
      exact kk hd hs lq _ _ _ hok hP hD hS (lv_sub hl [2, 3, 4, 5, 6, 7] rfl)
    · have hf := jbT hf hc2
      refine lv_aload_n hx hb dL_law_2222 rfl (lv_at hl 6 rfl) ?_
      refine lv_iconst (v := 0) hx hb dL_law_2223 (by decide) ?_
      have hP9 : va_P (gD g) vwCl ((wOut g oa (k1.2.1)) ++ (wT g ha (S.svd.map (fun _ => hs 0), S.ep, S.fc) ++ wQ g (ha 1) S.qv ++ wQ g (ha 2) S.bv ++ wS g (ha 3) S.sv ++ wH g (ha 4) hd S.hv ++ wP g (ha 5) (k1.2.2) ++ wL g (ha 5 2) lq ++ wO g (ha 6) S.ov ++ wSv g hs S.svd ++ wM g hm (o3.2) ++ wOud g ob od)) _ := wp_P (wp_of fun f => by simp only [wOut, wOud, List.countP_append, List.countP_cons, List.countP_nil] <;> omega) hP
      refine va_lald hx hb hK hP9 0 3 rfl rfl (i := 0) vp_in01 dL_law_2224 ?_
      refine lv_iload hx hb dL_law_2225 (lv_at hl 0 rfl) ?_
      obtain ⟨he, hf⟩ := jbA_e hf
      cases hf
      refine lv_i2l (v := (o3.1).toInt64) hx hb dL_law_2227 rfl ?_
      refine W.lcmp hx hb dL_law_2228 ?_
      refine lv_if_eq (tgt := 2234) hx hb dL_law_2229 (by decide) (fun hc => ?_) (fun hc => absurd (by rw [he]; exact lg_cmp_self _) hc)
      refine lv_goto (tgt := 2560) hx hb dL_law_2234 (by decide) ?_
      refine W.widen (k := cells + 60) (n := slots + 700) (by omega) (by omega) ?_
      exact kk hd hs lq _ _ _ hok hP hD hS (lv_sub hl [2, 3, 4, 5, 6, 7] rfl)
  · have hf := jbF hf hc
    cases hf
set_option maxHeartbeats 4000000 in
set_option maxRecDepth 100000 in
theorem lwc_37 {p : Program} {e : Env} {s : State} {mi : MethodId} {args : Array Value} {below : List Frame} {meth : Method} {c : Code} {g : GG} {A : Nat → Prop} {b L : Nat} {xs : Nat → Int32} {Q : State → Prop} (l : Launch) (hlt : l.stackTraces = false) (C0 : LwB p s mi args c g A b L xs)
    (ha hd : Nat → Nat → Nat) (hs hm : Nat → Nat) (lq : ListS) (oa ob : Nat) (S : Sys) (ol : Nat → Int64) (od : Nat → UInt64) (hok : lsOK lq) (i : Int32) (h1 : vp_in (i + 1) L) (h2 : vp_in (i + 2) L) (h3 : vp_in (i + 3) L) (h4 : vp_in (i + 4) L) (r : LR)
    (hf : lawOp_37 S (xs (i + 1).toNatClampNeg) (xs (i + 2).toNatClampNeg) (xs (i + 3).toNatClampNeg) (xs (i + 4).toNatClampNeg) ol od = some r) {H : Heap} {locs : List Loc} {ls : Array Slot} {cells slots : Nat} (hc9 : cells + 60 ≤ 603072) (hs9 : slots + 700 ≤ 7190634)
    (hP : va_P (gD g) vwCl (wSys g ha hd hs hm lq oa ob S ol od) H) (hD : va_D A (wSys g ha hd hs hm lq oa ob S ol od)) (hS : va_S A s.heap H locs) (hl : lv_has ls 10 [(5, .int i), (0, .ref b), (1, .ref (ha 0 0)), (2, .ref (hm 0)), (3, .ref oa), (4, .ref ob)])
    (kk : ∀ (hd : Nat → Nat → Nat) (hs : Nat → Nat) (lq : ListS) (H : Heap) (locs : List Loc) (ls : Array Slot), lsOK lq → va_P (gD g) vwCl (wSys g ha hd hs hm lq oa ob r.1 r.2.1 r.2.2) H → va_D A (wSys g ha hd hs hm lq oa ob r.1 r.2.1 r.2.2) → va_S A s.heap H locs → lv_has ls 10 [(5, .int i), (0, .ref b), (1, .ref (ha 0 0)), (2, .ref (hm 0)), (3, .ref oa), (4, .ref ob)] → W p l e room_1 s mi args below meth c H locs (cells + 60) (slots + 700) Q (F0 mi 2560 ls [])) :
    W p l e room_1 s mi args below meth c H locs cells slots Q (F0 mi 2237 ls []) := by
  obtain ⟨hx, hb, hml, hown, hts, hK, hZ, hT, hA, hX, hbl, hbA⟩ := C0
  have hP : va_P (gD g) vwCl (wT g ha (S.svd.map (fun _ => hs 0), S.ep, S.fc) ++ wQ g (ha 1) S.qv ++ wQ g (ha 2) S.bv ++ wS g (ha 3) S.sv ++ wH g (ha 4) hd S.hv ++ wP g (ha 5) S.pv ++ wL g (ha 5 2) lq ++ wO g (ha 6) S.ov ++ wSv g hs S.svd ++ wM g hm S.mv ++ wOut g oa ol ++ wOud g ob od) H := hP
  have hD : va_D A (wT g ha (S.svd.map (fun _ => hs 0), S.ep, S.fc) ++ wQ g (ha 1) S.qv ++ wQ g (ha 2) S.bv ++ wS g (ha 3) S.sv ++ wH g (ha 4) hd S.hv ++ wP g (ha 5) S.pv ++ wL g (ha 5 2) lq ++ wO g (ha 6) S.ov ++ wSv g hs S.svd ++ wM g hm S.mv ++ wOut g oa ol ++ wOud g ob od) := hD
  unfold lawOp_37 at hf
  refine lv_aload_n hx hb dL_law_2237 rfl (lv_at hl 2 rfl) ?_
  refine lv_aload_n hx hb dL_law_2238 rfl (lv_at hl 4 rfl) ?_
  obtain ⟨k1, hg2, hf⟩ := jbB_e hf
  refine czws_i (As := [.ref (ha 0 0), .ref oa]) (rest := []) (Wr := (wS g (ha 3) S.sv ++ wO g (ha 6) S.ov ++ wSv g hs S.svd ++ wM g hm S.mv ++ wOud g ob od)) (Wn := fun u => (wT g ha (S.svd.map (fun _ => hs 0), (k1.2.2.1), (k1.2.2.2.1)) ++ wQ g (ha 1) (k1.2.2.2.2.1) ++ wQ g (ha 2) (k1.2.2.2.2.2.1) ++ wS g (ha 3) S.sv ++ wH g (ha 4) u.2 (k1.2.2.2.2.2.2.2) ++ wP g (ha 5) (k1.2.2.2.2.2.2.1) ++ wL g (ha 5 2) u.1 ++ wO g (ha 6) S.ov ++ wSv g hs S.svd ++ wM g hm S.mv ++ wOut g oa (k1.2.1) ++ wOud g ob od)) ⟨hx, hb, hml, hown, hts⟩ (c_L_run l hlt g ha hd (S.svd.map (fun _ => hs 0)) S.ep S.fc S.qv S.bv S.pv lq hok S.hv  oa ol _ hg2) (vx_cwSW 2 hts gL_law_L_run rfl rfl rfl hd_L_run.2 ⟨(Nat.le_of_ble_eq_true rfl), (Nat.le_of_ble_eq_true rfl)⟩) hK hZ hT hA hP hD hS hl.1 (wp_of fun f => by simp only [wOut, wOud, List.countP_append, List.countP_cons, List.countP_nil] <;> omega) (fun _ => (wp_of fun f => by simp only [wOut, wOud, List.countP_append, List.countP_cons, List.countP_nil] <;> omega)) rfl rfl (Nat.le_of_ble_eq_true rfl) ⟨show cells + 40 ≤ 603072 by omega, show slots + 408 ≤ 7190634 by omega⟩ dL_law_2239 (fun u H locs hok hP hD hS => ?_)
  obtain ⟨lq1, hd1⟩ := u
  have hok : lsOK lq1 := hok
  have hP : va_P (gD g) vwCl (wT g ha (S.svd.map (fun _ => hs 0), (k1.2.2.1), (k1.2.2.2.1)) ++ wQ g (ha 1) (k1.2.2.2.2.1) ++ wQ g (ha 2) (k1.2.2.2.2.2.1) ++ wS g (ha 3) S.sv ++ wH g (ha 4) hd1 (k1.2.2.2.2.2.2.2) ++ wP g (ha 5) (k1.2.2.2.2.2.2.1) ++ wL g (ha 5 2) lq1 ++ wO g (ha 6) S.ov ++ wSv g hs S.svd ++ wM g hm S.mv ++ wOut g oa (k1.2.1) ++ wOud g ob od) H := hP
  have hD : va_D A (wT g ha (S.svd.map (fun _ => hs 0), (k1.2.2.1), (k1.2.2.2.1)) ++ wQ g (ha 1) (k1.2.2.2.2.1) ++ wQ g (ha 2) (k1.2.2.2.2.2.1) ++ wS g (ha 3) S.sv ++ wH g (ha 4) hd1 (k1.2.2.2.2.2.2.2) ++ wP g (ha 5) (k1.2.2.2.2.2.2.1) ++ wL g (ha 5 2) lq1 ++ wO g (ha 6) S.ov ++ wSv g hs S.svd ++ wM g hm S.mv ++ wOut g oa (k1.2.1) ++ wOud g ob od) := hD
  refine lv_istore (lv' := [(6, .int (k1.1)), (5, .int i), (0, .ref b), (1, .ref (ha 0 0)), (2, .ref (hm 0)), (3, .ref oa), (4, .ref ob)]) hx hb dL_law_2242 hl (by decide) rfl (fun ls hl => ?_)
  refine lv_aload_n hx hb dL_law_2244 rfl (lv_at hl 4 rfl) ?_
  obtain ⟨o3, hg4, hf⟩ := jbB_e hf
  have hPr : va_P (gD g) vwCl ((wM g hm S.mv) ++ (wT g ha (S.svd.map (fun _ => hs 0), (k1.2.2.1), (k1.2.2.2.1)) ++ wQ g (ha 1) (k1.2.2.2.2.1) ++ wQ g (ha 2) (k1.2.2.2.2.2.1) ++ wS g (ha 3) S.sv ++ wH g (ha 4) hd1 (k1.2.2.2.2.2.2.2) ++ wP g (ha 5) (k1.2.2.2.2.2.2.1) ++ wL g (ha 5 2) lq1 ++ wO g (ha 6) S.ov ++ wSv g hs S.svd ++ wOut g oa (k1.2.1) ++ wOud g ob od)) _ := wp_P (wp_of fun f => by simp only [wOut, wOud, List.countP_append, List.countP_cons, List.countP_nil] <;> omega) hP
  refine cpv_i (As := []) (rest := []) (Wr := (wT g ha (S.svd.map (fun _ => hs 0), (k1.2.2.1), (k1.2.2.2.1)) ++ wQ g (ha 1) (k1.2.2.2.2.1) ++ wQ g (ha 2) (k1.2.2.2.2.2.1) ++ wS g (ha 3) S.sv ++ wH g (ha 4) hd1 (k1.2.2.2.2.2.2.2) ++ wP g (ha 5) (k1.2.2.2.2.2.2.1) ++ wL g (ha 5 2) lq1 ++ wO g (ha 6) S.ov ++ wSv g hs S.svd ++ wOut g oa (k1.2.1) ++ wOud g ob od)) (Wn := (wT g ha (S.svd.map (fun _ => hs 0), (k1.2.2.1), (k1.2.2.2.1)) ++ wQ g (ha 1) (k1.2.2.2.2.1) ++ wQ g (ha 2) (k1.2.2.2.2.2.1) ++ wS g (ha 3) S.sv ++ wH g (ha 4) hd1 (k1.2.2.2.2.2.2.2) ++ wP g (ha 5) (k1.2.2.2.2.2.2.1) ++ wL g (ha 5 2) lq1 ++ wO g (ha 6) S.ov ++ wSv g hs S.svd ++ wM g hm (o3.2) ++ wOut g oa (k1.2.1) ++ wOud g ob od)) ⟨hx, hb, hml, hown, hts⟩ (c_X11_run l g hm S.mv  _ hg4) (cwV 0 hts gL_law_X11_run rfl rfl rfl hd_X11_run ⟨(Nat.le_of_ble_eq_true rfl), (Nat.le_of_ble_eq_true rfl)⟩) hK hZ hT hA hP hD hS hl.1 (va_recv hK hPr (ci := 10) (q0 := 0) rfl rfl) (wp_of fun f => by simp only [wOut, wOud, List.countP_append, List.countP_cons, List.countP_nil] <;> omega) (wp_of fun f => by simp only [wOut, wOud, List.countP_append, List.countP_cons, List.countP_nil] <;> omega) rfl rfl (Nat.le_of_ble_eq_true rfl) ⟨show cells + 40 + 0 ≤ 603072 by omega, show slots + 408 + 0 ≤ 7190634 by omega⟩ dL_law_2245 (fun H locs hP hD hS => ?_)
  refine lv_istore (lv' := [(7, .int (o3.1)), (6, .int (k1.1)), (5, .int i), (0, .ref b), (1, .ref (ha 0 0)), (2, .ref (hm 0)), (3, .ref oa), (4, .ref ob)]) hx hb dL_law_2248 hl (by decide) rfl (fun ls hl => ?_)
  refine lv_aload_n hx hb dL_law_2250 rfl (lv_at hl 5 rfl) ?_
  obtain ⟨o5, hg6, hf⟩ := jbB_e hf
  have hPr : va_P (gD g) vwCl ((wM g hm (o3.2)) ++ (wT g ha (S.svd.map (fun _ => hs 0), (k1.2.2.1), (k1.2.2.2.1)) ++ wQ g (ha 1) (k1.2.2.2.2.1) ++ wQ g (ha 2) (k1.2.2.2.2.2.1) ++ wS g (ha 3) S.sv ++ wH g (ha 4) hd1 (k1.2.2.2.2.2.2.2) ++ wP g (ha 5) (k1.2.2.2.2.2.2.1) ++ wL g (ha 5 2) lq1 ++ wO g (ha 6) S.ov ++ wSv g hs S.svd ++ wOut g oa (k1.2.1) ++ wOud g ob od)) _ := wp_P (wp_of fun f => by simp only [wOut, wOud, List.countP_append, List.countP_cons, List.countP_nil] <;> omega) hP
  refine cpv_i (As := []) (rest := []) (Wr := (wT g ha (S.svd.map (fun _ => hs 0), (k1.2.2.1), (k1.2.2.2.1)) ++ wQ g (ha 1) (k1.2.2.2.2.1) ++ wQ g (ha 2) (k1.2.2.2.2.2.1) ++ wS g (ha 3) S.sv ++ wH g (ha 4) hd1 (k1.2.2.2.2.2.2.2) ++ wP g (ha 5) (k1.2.2.2.2.2.2.1) ++ wL g (ha 5 2) lq1 ++ wO g (ha 6) S.ov ++ wSv g hs S.svd ++ wOut g oa (k1.2.1) ++ wOud g ob od)) (Wn := (wT g ha (S.svd.map (fun _ => hs 0), (k1.2.2.1), (k1.2.2.2.1)) ++ wQ g (ha 1) (k1.2.2.2.2.1) ++ wQ g (ha 2) (k1.2.2.2.2.2.1) ++ wS g (ha 3) S.sv ++ wH g (ha 4) hd1 (k1.2.2.2.2.2.2.2) ++ wP g (ha 5) (k1.2.2.2.2.2.2.1) ++ wL g (ha 5 2) lq1 ++ wO g (ha 6) S.ov ++ wSv g hs S.svd ++ wM g hm (o3.2) ++ wOut g oa (k1.2.1) ++ wOud g ob od)) ⟨hx, hb, hml, hown, hts⟩ (c_X11_thrown l g hm (o3.2)  _ hg6) (cwV 0 hts gL_law_X11_thrown rfl rfl rfl hd_X11_thrown ⟨(Nat.le_of_ble_eq_true rfl), (Nat.le_of_ble_eq_true rfl)⟩) hK hZ hT hA hP hD hS hl.1 (va_recv hK hPr (ci := 10) (q0 := 0) rfl rfl) (wp_of fun f => by simp only [wOut, wOud, List.countP_append, List.countP_cons, List.countP_nil] <;> omega) (wp_of fun f => by simp only [wOut, wOud, List.countP_append, List.countP_cons, List.countP_nil] <;> omega) rfl rfl (Nat.le_of_ble_eq_true rfl) ⟨show cells + 40 + 0 ≤ 603072 by omega, show slots + 408 + 0 ≤ 7190634 by omega⟩ dL_law_2251 (fun H locs hP hD hS => ?_)
  refine lv_iload hx hb dL_law_2254 (lv_at hl 1 rfl) ?_
  refine lv_icmp_eq (tgt := 2261) hx hb dL_law_2256 (by decide) (fun hc => ?_) (fun hc => ?_)
  · have hf := jbT hf hc
    refine lv_iload hx hb dL_law_2261 (lv_at hl 1 rfl) ?_
    refine lv_if_ne (tgt := 2278) hx hb dL_law_2263 (by decide) (fun hc2 => ?_) (fun hc2 => ?_)
    · have hf := jbF hf hc2
      cases hf
      refine lv_goto (tgt := 2560) hx hb dL_law_2278 (by decide) ?_
      refine W.widen (k := cells + 60) (n := slots + 700) (by omega) (by omega) ?_
      exact kk hd1 hs lq1 _ _ _ hok hP hD hS (lv_sub hl [2, 3, 4, 5, 6, 7] rfl)
    · have hf := jbT hf hc2
      refine lv_aload_n hx hb dL_law_2266 rfl (lv_at hl 6 rfl) ?_
      refine lv_iconst (v := 0) hx hb dL_law_2267 (by decide) ?_
      have hP9 : va_P (gD g) vwCl ((wOut g oa (k1.2.1)) ++ (wT g ha (S.svd.map (fun _ => hs 0), (k1.2.2.1), (k1.2.2.2.1)) ++ wQ g (ha 1) (k1.2.2.2.2.1) ++ wQ g (ha 2) (k1.2.2.2.2.2.1) ++ wS g (ha 3) S.sv ++ wH g (ha 4) hd1 (k1.2.2.2.2.2.2.2) ++ wP g (ha 5) (k1.2.2.2.2.2.2.1) ++ wL g (ha 5 2) lq1 ++ wO g (ha 6) S.ov ++ wSv g hs S.svd ++ wM g hm (o3.2) ++ wOud g ob od)) _ := wp_P (wp_of fun f => by simp only [wOut, wOud, List.countP_append, List.countP_cons, List.countP_nil] <;> omega) hP
      refine va_lald hx hb hK hP9 0 3 rfl rfl (i := 0) vp_in01 dL_law_2268 ?_
      refine lv_iload hx hb dL_law_2269 (lv_at hl 0 rfl) ?_
      obtain ⟨he, hf⟩ := jbA_e hf
      cases hf
      refine lv_i2l (v := (o3.1).toInt64) hx hb dL_law_2271 rfl ?_
      refine W.lcmp hx hb dL_law_2272 ?_
      refine lv_if_eq (tgt := 2278) hx hb dL_law_2273 (by decide) (fun hc => ?_) (fun hc => absurd (by rw [he]; exact lg_cmp_self _) hc)
      refine lv_goto (tgt := 2560) hx hb dL_law_2278 (by decide) ?_
      refine W.widen (k := cells + 60) (n := slots + 700) (by omega) (by omega) ?_
      exact kk hd1 hs lq1 _ _ _ hok hP hD hS (lv_sub hl [2, 3, 4, 5, 6, 7] rfl)
  · have hf := jbF hf hc
    cases hf
set_option maxHeartbeats 4000000 in
set_option maxRecDepth 100000 in
theorem lwc_38 {p : Program} {e : Env} {s : State} {mi : MethodId} {args : Array Value} {below : List Frame} {meth : Method} {c : Code} {g : GG} {A : Nat → Prop} {b L : Nat} {xs : Nat → Int32} {Q : State → Prop} (l : Launch) (hlt : l.stackTraces = false) (C0 : LwB p s mi args c g A b L xs)
    (ha hd : Nat → Nat → Nat) (hs hm : Nat → Nat) (lq : ListS) (oa ob : Nat) (S : Sys) (ol : Nat → Int64) (od : Nat → UInt64) (hok : lsOK lq) (i : Int32) (h1 : vp_in (i + 1) L) (h2 : vp_in (i + 2) L) (h3 : vp_in (i + 3) L) (h4 : vp_in (i + 4) L) (r : LR)
    (hf : lawOp_38 S (xs (i + 1).toNatClampNeg) (xs (i + 2).toNatClampNeg) (xs (i + 3).toNatClampNeg) (xs (i + 4).toNatClampNeg) ol od = some r) {H : Heap} {locs : List Loc} {ls : Array Slot} {cells slots : Nat} (hc9 : cells + 60 ≤ 603072) (hs9 : slots + 700 ≤ 7190634)
    (hP : va_P (gD g) vwCl (wSys g ha hd hs hm lq oa ob S ol od) H) (hD : va_D A (wSys g ha hd hs hm lq oa ob S ol od)) (hS : va_S A s.heap H locs) (hl : lv_has ls 10 [(5, .int i), (0, .ref b), (1, .ref (ha 0 0)), (2, .ref (hm 0)), (3, .ref oa), (4, .ref ob)])
    (kk : ∀ (hd : Nat → Nat → Nat) (hs : Nat → Nat) (lq : ListS) (H : Heap) (locs : List Loc) (ls : Array Slot), lsOK lq → va_P (gD g) vwCl (wSys g ha hd hs hm lq oa ob r.1 r.2.1 r.2.2) H → va_D A (wSys g ha hd hs hm lq oa ob r.1 r.2.1 r.2.2) → va_S A s.heap H locs → lv_has ls 10 [(5, .int i), (0, .ref b), (1, .ref (ha 0 0)), (2, .ref (hm 0)), (3, .ref oa), (4, .ref ob)] → W p l e room_1 s mi args below meth c H locs (cells + 60) (slots + 700) Q (F0 mi 2560 ls [])) :
    W p l e room_1 s mi args below meth c H locs cells slots Q (F0 mi 2281 ls []) := by
  obtain ⟨hx, hb, hml, hown, hts, hK, hZ, hT, hA, hX, hbl, hbA⟩ := C0
  have hP : va_P (gD g) vwCl (wT g ha (S.svd.map (fun _ => hs 0), S.ep, S.fc) ++ wQ g (ha 1) S.qv ++ wQ g (ha 2) S.bv ++ wS g (ha 3) S.sv ++ wH g (ha 4) hd S.hv ++ wP g (ha 5) S.pv ++ wL g (ha 5 2) lq ++ wO g (ha 6) S.ov ++ wSv g hs S.svd ++ wM g hm S.mv ++ wOut g oa ol ++ wOud g ob od) H := hP
  have hD : va_D A (wT g ha (S.svd.map (fun _ => hs 0), S.ep, S.fc) ++ wQ g (ha 1) S.qv ++ wQ g (ha 2) S.bv ++ wS g (ha 3) S.sv ++ wH g (ha 4) hd S.hv ++ wP g (ha 5) S.pv ++ wL g (ha 5 2) lq ++ wO g (ha 6) S.ov ++ wSv g hs S.svd ++ wM g hm S.mv ++ wOut g oa ol ++ wOud g ob od) := hD
  unfold lawOp_38 at hf
  refine lv_aload_n hx hb dL_law_2281 rfl (lv_at hl 2 rfl) ?_
  refine lv_aload_n hx hb dL_law_2282 rfl (lv_at hl 4 rfl) ?_
  obtain ⟨k1, hg2, hf⟩ := jbB_e hf
  refine cws_i (As := [.ref (ha 0 0), .ref oa]) (rest := []) (Wr := (wQ g (ha 1) S.qv ++ wQ g (ha 2) S.bv ++ wS g (ha 3) S.sv ++ wH g (ha 4) hd S.hv ++ wP g (ha 5) S.pv ++ wL g (ha 5 2) lq ++ wO g (ha 6) S.ov ++ wSv g hs S.svd ++ wM g hm S.mv ++ wOud g ob od)) (Wn := (wT g ha (S.svd.map (fun _ => hs 0), S.ep, S.fc) ++ wQ g (ha 1) S.qv ++ wQ g (ha 2) S.bv ++ wS g (ha 3) S.sv ++ wH g (ha 4) hd S.hv ++ wP g (ha 5) S.pv ++ wL g (ha 5 2) lq ++ wO g (ha 6) S.ov ++ wSv g hs S.svd ++ wM g hm S.mv ++ wOut g oa (k1.2) ++ wOud g ob od)) ⟨hx, hb, hml, hown, hts⟩ (c_L_errorPosition l hlt g ha (S.svd.map (fun _ => hs 0), S.ep, S.fc)  oa ol _ hg2) (vx_cwSW 2 hts gL_law_L_errorPosition rfl rfl rfl hd_L_errorPosition.2 ⟨(Nat.le_of_ble_eq_true rfl), (Nat.le_of_ble_eq_true rfl)⟩) hK hZ hT hA hP hD hS hl.1 (wp_of fun f => by simp only [wOut, wOud, List.countP_append, List.countP_cons, List.countP_nil] <;> omega) (wp_of fun f => by simp only [wOut, wOud, List.countP_append, List.countP_cons, List.countP_nil] <;> omega) rfl rfl (Nat.le_of_ble_eq_true rfl) ⟨show cells + 1 ≤ 603072 by omega, show slots + 6 ≤ 7190634 by omega⟩ dL_law_2283 (fun H locs hP hD hS => ?_)
  refine lv_istore (lv' := [(6, .int (k1.1)), (5, .int i), (0, .ref b), (1, .ref (ha 0 0)), (2, .ref (hm 0)), (3, .ref oa), (4, .ref ob)]) hx hb dL_law_2286 hl (by decide) rfl (fun ls hl => ?_)
  refine lv_aload_n hx hb dL_law_2288 rfl (lv_at hl 4 rfl) ?_
  obtain ⟨o3, hg4, hf⟩ := jbB_e hf
  have hPr : va_P (gD g) vwCl ((wM g hm S.mv) ++ (wT g ha (S.svd.map (fun _ => hs 0), S.ep, S.fc) ++ wQ g (ha 1) S.qv ++ wQ g (ha 2) S.bv ++ wS g (ha 3) S.sv ++ wH g (ha 4) hd S.hv ++ wP g (ha 5) S.pv ++ wL g (ha 5 2) lq ++ wO g (ha 6) S.ov ++ wSv g hs S.svd ++ wOut g oa (k1.2) ++ wOud g ob od)) _ := wp_P (wp_of fun f => by simp only [wOut, wOud, List.countP_append, List.countP_cons, List.countP_nil] <;> omega) hP
  refine cpv_i (As := []) (rest := []) (Wr := (wT g ha (S.svd.map (fun _ => hs 0), S.ep, S.fc) ++ wQ g (ha 1) S.qv ++ wQ g (ha 2) S.bv ++ wS g (ha 3) S.sv ++ wH g (ha 4) hd S.hv ++ wP g (ha 5) S.pv ++ wL g (ha 5 2) lq ++ wO g (ha 6) S.ov ++ wSv g hs S.svd ++ wOut g oa (k1.2) ++ wOud g ob od)) (Wn := (wT g ha (S.svd.map (fun _ => hs 0), S.ep, S.fc) ++ wQ g (ha 1) S.qv ++ wQ g (ha 2) S.bv ++ wS g (ha 3) S.sv ++ wH g (ha 4) hd S.hv ++ wP g (ha 5) S.pv ++ wL g (ha 5 2) lq ++ wO g (ha 6) S.ov ++ wSv g hs S.svd ++ wM g hm (o3.2) ++ wOut g oa (k1.2) ++ wOud g ob od)) ⟨hx, hb, hml, hown, hts⟩ (c_X11_errorPosition l g hm S.mv  _ hg4) (cwV 0 hts gL_law_X11_errorPosition rfl rfl rfl hd_X11_errorPosition ⟨(Nat.le_of_ble_eq_true rfl), (Nat.le_of_ble_eq_true rfl)⟩) hK hZ hT hA hP hD hS hl.1 (va_recv hK hPr (ci := 10) (q0 := 0) rfl rfl) (wp_of fun f => by simp only [wOut, wOud, List.countP_append, List.countP_cons, List.countP_nil] <;> omega) (wp_of fun f => by simp only [wOut, wOud, List.countP_append, List.countP_cons, List.countP_nil] <;> omega) rfl rfl (Nat.le_of_ble_eq_true rfl) ⟨show cells + 1 + 0 ≤ 603072 by omega, show slots + 6 + 0 ≤ 7190634 by omega⟩ dL_law_2289 (fun H locs hP hD hS => ?_)
  refine lv_istore (lv' := [(7, .int (o3.1)), (6, .int (k1.1)), (5, .int i), (0, .ref b), (1, .ref (ha 0 0)), (2, .ref (hm 0)), (3, .ref oa), (4, .ref ob)]) hx hb dL_law_2292 hl (by decide) rfl (fun ls hl => ?_)
  refine lv_aload_n hx hb dL_law_2294 rfl (lv_at hl 5 rfl) ?_
  obtain ⟨o5, hg6, hf⟩ := jbB_e hf
  have hPr : va_P (gD g) vwCl ((wM g hm (o3.2)) ++ (wT g ha (S.svd.map (fun _ => hs 0), S.ep, S.fc) ++ wQ g (ha 1) S.qv ++ wQ g (ha 2) S.bv ++ wS g (ha 3) S.sv ++ wH g (ha 4) hd S.hv ++ wP g (ha 5) S.pv ++ wL g (ha 5 2) lq ++ wO g (ha 6) S.ov ++ wSv g hs S.svd ++ wOut g oa (k1.2) ++ wOud g ob od)) _ := wp_P (wp_of fun f => by simp only [wOut, wOud, List.countP_append, List.countP_cons, List.countP_nil] <;> omega) hP
  refine cpv_i (As := []) (rest := []) (Wr := (wT g ha (S.svd.map (fun _ => hs 0), S.ep, S.fc) ++ wQ g (ha 1) S.qv ++ wQ g (ha 2) S.bv ++ wS g (ha 3) S.sv ++ wH g (ha 4) hd S.hv ++ wP g (ha 5) S.pv ++ wL g (ha 5 2) lq ++ wO g (ha 6) S.ov ++ wSv g hs S.svd ++ wOut g oa (k1.2) ++ wOud g ob od)) (Wn := (wT g ha (S.svd.map (fun _ => hs 0), S.ep, S.fc) ++ wQ g (ha 1) S.qv ++ wQ g (ha 2) S.bv ++ wS g (ha 3) S.sv ++ wH g (ha 4) hd S.hv ++ wP g (ha 5) S.pv ++ wL g (ha 5 2) lq ++ wO g (ha 6) S.ov ++ wSv g hs S.svd ++ wM g hm (o3.2) ++ wOut g oa (k1.2) ++ wOud g ob od)) ⟨hx, hb, hml, hown, hts⟩ (c_X11_thrown l g hm (o3.2)  _ hg6) (cwV 0 hts gL_law_X11_thrown rfl rfl rfl hd_X11_thrown ⟨(Nat.le_of_ble_eq_true rfl), (Nat.le_of_ble_eq_true rfl)⟩) hK hZ hT hA hP hD hS hl.1 (va_recv hK hPr (ci := 10) (q0 := 0) rfl rfl) (wp_of fun f => by simp only [wOut, wOud, List.countP_append, List.countP_cons, List.countP_nil] <;> omega) (wp_of fun f => by simp only [wOut, wOud, List.countP_append, List.countP_cons, List.countP_nil] <;> omega) rfl rfl (Nat.le_of_ble_eq_true rfl) ⟨show cells + 1 + 0 ≤ 603072 by omega, show slots + 6 + 0 ≤ 7190634 by omega⟩ dL_law_2295 (fun H locs hP hD hS => ?_)
  refine lv_iload hx hb dL_law_2298 (lv_at hl 1 rfl) ?_
  refine lv_icmp_eq (tgt := 2305) hx hb dL_law_2300 (by decide) (fun hc => ?_) (fun hc => ?_)
  · have hf := jbT hf hc
    refine lv_iload hx hb dL_law_2305 (lv_at hl 1 rfl) ?_
    refine lv_if_ne (tgt := 2322) hx hb dL_law_2307 (by decide) (fun hc2 => ?_) (fun hc2 => ?_)
    · have hf := jbF hf hc2
      cases hf
      refine lv_goto (tgt := 2560) hx hb dL_law_2322 (by decide) ?_
      refine W.widen (k := cells + 60) (n := slots + 700) (by omega) (by omega) ?_
      exact kk hd hs lq _ _ _ hok hP hD hS (lv_sub hl [2, 3, 4, 5, 6, 7] rfl)
    · have hf := jbT hf hc2
      refine lv_aload_n hx hb dL_law_2310 rfl (lv_at hl 6 rfl) ?_
      refine lv_iconst (v := 0) hx hb dL_law_2311 (by decide) ?_
      have hP9 : va_P (gD g) vwCl ((wOut g oa (k1.2)) ++ (wT g ha (S.svd.map (fun _ => hs 0), S.ep, S.fc) ++ wQ g (ha 1) S.qv ++ wQ g (ha 2) S.bv ++ wS g (ha 3) S.sv ++ wH g (ha 4) hd S.hv ++ wP g (ha 5) S.pv ++ wL g (ha 5 2) lq ++ wO g (ha 6) S.ov ++ wSv g hs S.svd ++ wM g hm (o3.2) ++ wOud g ob od)) _ := wp_P (wp_of fun f => by simp only [wOut, wOud, List.countP_append, List.countP_cons, List.countP_nil] <;> omega) hP
      refine va_lald hx hb hK hP9 0 3 rfl rfl (i := 0) vp_in01 dL_law_2312 ?_
      refine lv_iload hx hb dL_law_2313 (lv_at hl 0 rfl) ?_
      obtain ⟨he, hf⟩ := jbA_e hf
      cases hf
      refine lv_i2l (v := (o3.1).toInt64) hx hb dL_law_2315 rfl ?_
      refine W.lcmp hx hb dL_law_2316 ?_
      refine lv_if_eq (tgt := 2322) hx hb dL_law_2317 (by decide) (fun hc => ?_) (fun hc => absurd (by rw [he]; exact lg_cmp_self _) hc)
      refine lv_goto (tgt := 2560) hx hb dL_law_2322 (by decide) ?_
      refine W.widen (k := cells + 60) (n := slots + 700) (by omega) (by omega) ?_
      exact kk hd hs lq _ _ _ hok hP hD hS (lv_sub hl [2, 3, 4, 5, 6, 7] rfl)
  · have hf := jbF hf hc
    cases hf
set_option maxHeartbeats 4000000 in
set_option maxRecDepth 100000 in
theorem lwc_39 {p : Program} {e : Env} {s : State} {mi : MethodId} {args : Array Value} {below : List Frame} {meth : Method} {c : Code} {g : GG} {A : Nat → Prop} {b L : Nat} {xs : Nat → Int32} {Q : State → Prop} (l : Launch) (hlt : l.stackTraces = false) (C0 : LwB p s mi args c g A b L xs)
    (ha hd : Nat → Nat → Nat) (hs hm : Nat → Nat) (lq : ListS) (oa ob : Nat) (S : Sys) (ol : Nat → Int64) (od : Nat → UInt64) (hok : lsOK lq) (i : Int32) (h1 : vp_in (i + 1) L) (h2 : vp_in (i + 2) L) (h3 : vp_in (i + 3) L) (h4 : vp_in (i + 4) L) (r : LR)
    (hf : lawOp_39 S (xs (i + 1).toNatClampNeg) (xs (i + 2).toNatClampNeg) (xs (i + 3).toNatClampNeg) (xs (i + 4).toNatClampNeg) ol od = some r) {H : Heap} {locs : List Loc} {ls : Array Slot} {cells slots : Nat} (hc9 : cells + 60 ≤ 603072) (hs9 : slots + 700 ≤ 7190634)
    (hP : va_P (gD g) vwCl (wSys g ha hd hs hm lq oa ob S ol od) H) (hD : va_D A (wSys g ha hd hs hm lq oa ob S ol od)) (hS : va_S A s.heap H locs) (hl : lv_has ls 10 [(5, .int i), (0, .ref b), (1, .ref (ha 0 0)), (2, .ref (hm 0)), (3, .ref oa), (4, .ref ob)])
    (kk : ∀ (hd : Nat → Nat → Nat) (hs : Nat → Nat) (lq : ListS) (H : Heap) (locs : List Loc) (ls : Array Slot), lsOK lq → va_P (gD g) vwCl (wSys g ha hd hs hm lq oa ob r.1 r.2.1 r.2.2) H → va_D A (wSys g ha hd hs hm lq oa ob r.1 r.2.1 r.2.2) → va_S A s.heap H locs → lv_has ls 10 [(5, .int i), (0, .ref b), (1, .ref (ha 0 0)), (2, .ref (hm 0)), (3, .ref oa), (4, .ref ob)] → W p l e room_1 s mi args below meth c H locs (cells + 60) (slots + 700) Q (F0 mi 2560 ls [])) :
    W p l e room_1 s mi args below meth c H locs cells slots Q (F0 mi 2325 ls []) := by
  obtain ⟨hx, hb, hml, hown, hts, hK, hZ, hT, hA, hX, hbl, hbA⟩ := C0
  have hP : va_P (gD g) vwCl (wT g ha (S.svd.map (fun _ => hs 0), S.ep, S.fc) ++ wQ g (ha 1) S.qv ++ wQ g (ha 2) S.bv ++ wS g (ha 3) S.sv ++ wH g (ha 4) hd S.hv ++ wP g (ha 5) S.pv ++ wL g (ha 5 2) lq ++ wO g (ha 6) S.ov ++ wSv g hs S.svd ++ wM g hm S.mv ++ wOut g oa ol ++ wOud g ob od) H := hP
  have hD : va_D A (wT g ha (S.svd.map (fun _ => hs 0), S.ep, S.fc) ++ wQ g (ha 1) S.qv ++ wQ g (ha 2) S.bv ++ wS g (ha 3) S.sv ++ wH g (ha 4) hd S.hv ++ wP g (ha 5) S.pv ++ wL g (ha 5 2) lq ++ wO g (ha 6) S.ov ++ wSv g hs S.svd ++ wM g hm S.mv ++ wOut g oa ol ++ wOud g ob od) := hD
  unfold lawOp_39 at hf
  refine lv_aload_n hx hb dL_law_2325 rfl (lv_at hl 2 rfl) ?_
  refine lv_aload_n hx hb dL_law_2326 rfl (lv_at hl 4 rfl) ?_
  obtain ⟨k1, hg2, hf⟩ := jbB_e hf
  refine cws_i (As := [.ref (ha 0 0), .ref oa]) (rest := []) (Wr := (wQ g (ha 1) S.qv ++ wQ g (ha 2) S.bv ++ wS g (ha 3) S.sv ++ wH g (ha 4) hd S.hv ++ wP g (ha 5) S.pv ++ wL g (ha 5 2) lq ++ wO g (ha 6) S.ov ++ wSv g hs S.svd ++ wM g hm S.mv ++ wOud g ob od)) (Wn := (wT g ha (S.svd.map (fun _ => hs 0), S.ep, S.fc) ++ wQ g (ha 1) S.qv ++ wQ g (ha 2) S.bv ++ wS g (ha 3) S.sv ++ wH g (ha 4) hd S.hv ++ wP g (ha 5) S.pv ++ wL g (ha 5 2) lq ++ wO g (ha 6) S.ov ++ wSv g hs S.svd ++ wM g hm S.mv ++ wOut g oa (k1.2) ++ wOud g ob od)) ⟨hx, hb, hml, hown, hts⟩ (c_L_failedCommand l hlt g ha (S.svd.map (fun _ => hs 0), S.ep, S.fc)  oa ol _ hg2) (vx_cwSW 2 hts gL_law_L_failedCommand rfl rfl rfl hd_L_failedCommand.2 ⟨(Nat.le_of_ble_eq_true rfl), (Nat.le_of_ble_eq_true rfl)⟩) hK hZ hT hA hP hD hS hl.1 (wp_of fun f => by simp only [wOut, wOud, List.countP_append, List.countP_cons, List.countP_nil] <;> omega) (wp_of fun f => by simp only [wOut, wOud, List.countP_append, List.countP_cons, List.countP_nil] <;> omega) rfl rfl (Nat.le_of_ble_eq_true rfl) ⟨show cells + 1 ≤ 603072 by omega, show slots + 6 ≤ 7190634 by omega⟩ dL_law_2327 (fun H locs hP hD hS => ?_)
  refine lv_istore (lv' := [(6, .int (k1.1)), (5, .int i), (0, .ref b), (1, .ref (ha 0 0)), (2, .ref (hm 0)), (3, .ref oa), (4, .ref ob)]) hx hb dL_law_2330 hl (by decide) rfl (fun ls hl => ?_)
  refine lv_aload_n hx hb dL_law_2332 rfl (lv_at hl 4 rfl) ?_
  obtain ⟨o3, hg4, hf⟩ := jbB_e hf
  have hPr : va_P (gD g) vwCl ((wM g hm S.mv) ++ (wT g ha (S.svd.map (fun _ => hs 0), S.ep, S.fc) ++ wQ g (ha 1) S.qv ++ wQ g (ha 2) S.bv ++ wS g (ha 3) S.sv ++ wH g (ha 4) hd S.hv ++ wP g (ha 5) S.pv ++ wL g (ha 5 2) lq ++ wO g (ha 6) S.ov ++ wSv g hs S.svd ++ wOut g oa (k1.2) ++ wOud g ob od)) _ := wp_P (wp_of fun f => by simp only [wOut, wOud, List.countP_append, List.countP_cons, List.countP_nil] <;> omega) hP
  refine cpv_i (As := []) (rest := []) (Wr := (wT g ha (S.svd.map (fun _ => hs 0), S.ep, S.fc) ++ wQ g (ha 1) S.qv ++ wQ g (ha 2) S.bv ++ wS g (ha 3) S.sv ++ wH g (ha 4) hd S.hv ++ wP g (ha 5) S.pv ++ wL g (ha 5 2) lq ++ wO g (ha 6) S.ov ++ wSv g hs S.svd ++ wOut g oa (k1.2) ++ wOud g ob od)) (Wn := (wT g ha (S.svd.map (fun _ => hs 0), S.ep, S.fc) ++ wQ g (ha 1) S.qv ++ wQ g (ha 2) S.bv ++ wS g (ha 3) S.sv ++ wH g (ha 4) hd S.hv ++ wP g (ha 5) S.pv ++ wL g (ha 5 2) lq ++ wO g (ha 6) S.ov ++ wSv g hs S.svd ++ wM g hm (o3.2) ++ wOut g oa (k1.2) ++ wOud g ob od)) ⟨hx, hb, hml, hown, hts⟩ (c_X11_failedCommand l g hm S.mv  _ hg4) (cwV 0 hts gL_law_X11_failedCommand rfl rfl rfl hd_X11_failedCommand ⟨(Nat.le_of_ble_eq_true rfl), (Nat.le_of_ble_eq_true rfl)⟩) hK hZ hT hA hP hD hS hl.1 (va_recv hK hPr (ci := 10) (q0 := 0) rfl rfl) (wp_of fun f => by simp only [wOut, wOud, List.countP_append, List.countP_cons, List.countP_nil] <;> omega) (wp_of fun f => by simp only [wOut, wOud, List.countP_append, List.countP_cons, List.countP_nil] <;> omega) rfl rfl (Nat.le_of_ble_eq_true rfl) ⟨show cells + 1 + 0 ≤ 603072 by omega, show slots + 6 + 0 ≤ 7190634 by omega⟩ dL_law_2333 (fun H locs hP hD hS => ?_)
  refine lv_istore (lv' := [(7, .int (o3.1)), (6, .int (k1.1)), (5, .int i), (0, .ref b), (1, .ref (ha 0 0)), (2, .ref (hm 0)), (3, .ref oa), (4, .ref ob)]) hx hb dL_law_2336 hl (by decide) rfl (fun ls hl => ?_)
  refine lv_aload_n hx hb dL_law_2338 rfl (lv_at hl 5 rfl) ?_
  obtain ⟨o5, hg6, hf⟩ := jbB_e hf
  have hPr : va_P (gD g) vwCl ((wM g hm (o3.2)) ++ (wT g ha (S.svd.map (fun _ => hs 0), S.ep, S.fc) ++ wQ g (ha 1) S.qv ++ wQ g (ha 2) S.bv ++ wS g (ha 3) S.sv ++ wH g (ha 4) hd S.hv ++ wP g (ha 5) S.pv ++ wL g (ha 5 2) lq ++ wO g (ha 6) S.ov ++ wSv g hs S.svd ++ wOut g oa (k1.2) ++ wOud g ob od)) _ := wp_P (wp_of fun f => by simp only [wOut, wOud, List.countP_append, List.countP_cons, List.countP_nil] <;> omega) hP
  refine cpv_i (As := []) (rest := []) (Wr := (wT g ha (S.svd.map (fun _ => hs 0), S.ep, S.fc) ++ wQ g (ha 1) S.qv ++ wQ g (ha 2) S.bv ++ wS g (ha 3) S.sv ++ wH g (ha 4) hd S.hv ++ wP g (ha 5) S.pv ++ wL g (ha 5 2) lq ++ wO g (ha 6) S.ov ++ wSv g hs S.svd ++ wOut g oa (k1.2) ++ wOud g ob od)) (Wn := (wT g ha (S.svd.map (fun _ => hs 0), S.ep, S.fc) ++ wQ g (ha 1) S.qv ++ wQ g (ha 2) S.bv ++ wS g (ha 3) S.sv ++ wH g (ha 4) hd S.hv ++ wP g (ha 5) S.pv ++ wL g (ha 5 2) lq ++ wO g (ha 6) S.ov ++ wSv g hs S.svd ++ wM g hm (o3.2) ++ wOut g oa (k1.2) ++ wOud g ob od)) ⟨hx, hb, hml, hown, hts⟩ (c_X11_thrown l g hm (o3.2)  _ hg6) (cwV 0 hts gL_law_X11_thrown rfl rfl rfl hd_X11_thrown ⟨(Nat.le_of_ble_eq_true rfl), (Nat.le_of_ble_eq_true rfl)⟩) hK hZ hT hA hP hD hS hl.1 (va_recv hK hPr (ci := 10) (q0 := 0) rfl rfl) (wp_of fun f => by simp only [wOut, wOud, List.countP_append, List.countP_cons, List.countP_nil] <;> omega) (wp_of fun f => by simp only [wOut, wOud, List.countP_append, List.countP_cons, List.countP_nil] <;> omega) rfl rfl (Nat.le_of_ble_eq_true rfl) ⟨show cells + 1 + 0 ≤ 603072 by omega, show slots + 6 + 0 ≤ 7190634 by omega⟩ dL_law_2339 (fun H locs hP hD hS => ?_)
  refine lv_iload hx hb dL_law_2342 (lv_at hl 1 rfl) ?_
  refine lv_icmp_eq (tgt := 2349) hx hb dL_law_2344 (by decide) (fun hc => ?_) (fun hc => ?_)
  · have hf := jbT hf hc
    refine lv_iload hx hb dL_law_2349 (lv_at hl 1 rfl) ?_
    refine lv_if_ne (tgt := 2366) hx hb dL_law_2351 (by decide) (fun hc2 => ?_) (fun hc2 => ?_)
    · have hf := jbF hf hc2
      cases hf
      refine lv_goto (tgt := 2560) hx hb dL_law_2366 (by decide) ?_
      refine W.widen (k := cells + 60) (n := slots + 700) (by omega) (by omega) ?_
      exact kk hd hs lq _ _ _ hok hP hD hS (lv_sub hl [2, 3, 4, 5, 6, 7] rfl)
    · have hf := jbT hf hc2
      refine lv_aload_n hx hb dL_law_2354 rfl (lv_at hl 6 rfl) ?_
      refine lv_iconst (v := 0) hx hb dL_law_2355 (by decide) ?_
      have hP9 : va_P (gD g) vwCl ((wOut g oa (k1.2)) ++ (wT g ha (S.svd.map (fun _ => hs 0), S.ep, S.fc) ++ wQ g (ha 1) S.qv ++ wQ g (ha 2) S.bv ++ wS g (ha 3) S.sv ++ wH g (ha 4) hd S.hv ++ wP g (ha 5) S.pv ++ wL g (ha 5 2) lq ++ wO g (ha 6) S.ov ++ wSv g hs S.svd ++ wM g hm (o3.2) ++ wOud g ob od)) _ := wp_P (wp_of fun f => by simp only [wOut, wOud, List.countP_append, List.countP_cons, List.countP_nil] <;> omega) hP
      refine va_lald hx hb hK hP9 0 3 rfl rfl (i := 0) vp_in01 dL_law_2356 ?_
      refine lv_iload hx hb dL_law_2357 (lv_at hl 0 rfl) ?_
      obtain ⟨he, hf⟩ := jbA_e hf
      cases hf
      refine lv_i2l (v := (o3.1).toInt64) hx hb dL_law_2359 rfl ?_
      refine W.lcmp hx hb dL_law_2360 ?_
      refine lv_if_eq (tgt := 2366) hx hb dL_law_2361 (by decide) (fun hc => ?_) (fun hc => absurd (by rw [he]; exact lg_cmp_self _) hc)
      refine lv_goto (tgt := 2560) hx hb dL_law_2366 (by decide) ?_
      refine W.widen (k := cells + 60) (n := slots + 700) (by omega) (by omega) ?_
      exact kk hd hs lq _ _ _ hok hP hD hS (lv_sub hl [2, 3, 4, 5, 6, 7] rfl)
  · have hf := jbF hf hc
    cases hf
