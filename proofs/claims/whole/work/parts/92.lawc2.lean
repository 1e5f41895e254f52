set_option maxHeartbeats 4000000 in
set_option maxRecDepth 100000 in
theorem lwc_8 {p : Program} {e : Env} {s : State} {mi : MethodId} {args : Array Value} {below : List Frame} {meth : Method} {c : Code} {g : GG} {A : Nat → Prop} {b L : Nat} {xs : Nat → Int32} {Q : State → Prop} (l : Launch) (hlt : l.stackTraces = false) (C0 : LwB p s mi args c g A b L xs)
    (ha hd : Nat → Nat → Nat) (hs hm : Nat → Nat) (lq : ListS) (oa ob : Nat) (S : Sys) (ol : Nat → Int64) (od : Nat → UInt64) (hok : lsOK lq) (i : Int32) (h1 : vp_in (i + 1) L) (h2 : vp_in (i + 2) L) (h3 : vp_in (i + 3) L) (h4 : vp_in (i + 4) L) (r : LR)
    (hf : lawOp_8 S (xs (i + 1).toNatClampNeg) (xs (i + 2).toNatClampNeg) (xs (i + 3).toNatClampNeg) (xs (i + 4).toNatClampNeg) ol od = some r) {H : Heap} {locs : List Loc} {ls : Array Slot} {cells slots : Nat} (hc9 : cells + 60 ≤ 603072) (hs9 : slots + 700 ≤ 7190634)
    (hP : va_P (gD g) vwCl (wSys g ha hd hs hm lq oa ob S ol od) H) (hD : va_D A (wSys g ha hd hs hm lq oa ob S ol od)) (hS : va_S A s.heap H locs) (hl : lv_has ls 10 [(5, .int i), (0, .ref b), (1, .ref (ha 0 0)), (2, .ref (hm 0)), (3, .ref oa), (4, .ref ob)])
    (kk : ∀ (hd : Nat → Nat → Nat) (hs : Nat → Nat) (lq : ListS) (H : Heap) (locs : List Loc) (ls : Array Slot), lsOK lq → va_P (gD g) vwCl (wSys g ha hd hs hm lq oa ob r.1 r.2.1 r.2.2) H → va_D A (wSys g ha hd hs hm lq oa ob r.1 r.2.1 r.2.2) → va_S A s.heap H locs → lv_has ls 10 [(5, .int i), (0, .ref b), (1, .ref (ha 0 0)), (2, .ref (hm 0)), (3, .ref oa), (4, .ref ob)] → W p l e room_1 s mi args below meth c H locs (cells + 60) (slots + 700) Q (F0 mi 2560 ls [])) :
    W p l e room_1 s mi args below meth c H locs cells slots Q (F0 mi 827 ls []) := by
  obtain ⟨hx, hb, hml, hown, hts, hK, hZ, hT, hA, hX, hbl, hbA⟩ := C0
  have hP : va_P (gD g) vwCl (wT g ha (S.svd.map (fun _ => hs 0), S.ep, S.fc) ++ wQ g (ha 1) S.qv ++ wQ g (ha 2) S.bv ++ wS g (ha 3) S.sv ++ wH g (ha 4) hd S.hv ++ wP g (ha 5) S.pv ++ wL g (ha 5 2) lq ++ wO g (ha 6) S.ov ++ wSv g hs S.svd ++ wM g hm S.mv ++ wOut g oa ol ++ wOud g ob od) H := hP
  have hD : va_D A (wT g ha (S.svd.map (fun _ => hs 0), S.ep, S.fc) ++ wQ g (ha 1) S.qv ++ wQ g (ha 2) S.bv ++ wS g (ha 3) S.sv ++ wH g (ha 4) hd S.hv ++ wP g (ha 5) S.pv ++ wL g (ha 5 2) lq ++ wO g (ha 6) S.ov ++ wSv g hs S.svd ++ wM g hm S.mv ++ wOut g oa ol ++ wOud g ob od) := hD
  unfold lawOp_8 at hf
  refine lv_aload_n hx hb dL_law_827 rfl (lv_at hl 2 rfl) ?_
  refine lv_aload_n hx hb dL_law_828 rfl (lv_at hl 1 rfl) ?_
  refine lv_iload hx hb dL_law_829 (lv_at hl 0 rfl) ?_
  refine lv_iconst (v := 1) hx hb dL_law_831 (by decide) ?_
  refine lv_iadd hx hb dL_law_832 ?_
  refine va_sld hx hb hX hbl hbA hS h1 dL_law_833 ?_
  refine lv_aload_n hx hb dL_law_834 rfl (lv_at hl 1 rfl) ?_
  refine lv_iload hx hb dL_law_835 (lv_at hl 0 rfl) ?_
  refine lv_iconst (v := 2) hx hb dL_law_837 (by decide) ?_
  refine lv_iadd hx hb dL_law_838 ?_
  refine va_sld hx hb hX hbl hbA hS h2 dL_law_839 ?_
  refine lv_aload_n hx hb dL_law_840 rfl (lv_at hl 4 rfl) ?_
  obtain ⟨k1, hg2, hf⟩ := jbB_e hf
  refine cws_i (As := [.ref (ha 0 0), .int (xs (i + 1).toNatClampNeg), .int (xs (i + 2).toNatClampNeg), .ref oa]) (rest := []) (Wr := (wQ g (ha 2) S.bv ++ wS g (ha 3) S.sv ++ wH g (ha 4) hd S.hv ++ wP g (ha 5) S.pv ++ wL g (ha 5 2) lq ++ wO g (ha 6) S.ov ++ wSv g hs S.svd ++ wM g hm S.mv ++ wOud g ob od)) (Wn := (wT g ha (S.svd.map (fun _ => hs 0), S.ep, S.fc) ++ wQ g (ha 1) S.qv ++ wQ g (ha 2) S.bv ++ wS g (ha 3) S.sv ++ wH g (ha 4) hd S.hv ++ wP g (ha 5) S.pv ++ wL g (ha 5 2) lq ++ wO g (ha 6) S.ov ++ wSv g hs S.svd ++ wM g hm S.mv ++ wOut g oa (k1.2) ++ wOud g ob od)) ⟨hx, hb, hml, hown, hts⟩ (c_L_height l hlt g ha (S.svd.map (fun _ => hs 0), S.ep, S.fc) S.qv (xs (i + 1).toNatClampNeg) (xs (i + 2).toNatClampNeg) oa ol _ hg2) (vx_cwSW 4 hts gL_law_L_height rfl rfl rfl hd_L_height.2 ⟨(Nat.le_of_ble_eq_true rfl), (Nat.le_of_ble_eq_true rfl)⟩) hK hZ hT hA hP hD hS hl.1 (wp_of fun f => by simp only [wOut, wOud, List.countP_append, List.countP_cons, List.countP_nil] <;> omega) (wp_of fun f => by simp only [wOut, wOud, List.countP_append, List.countP_cons, List.countP_nil] <;> omega) rfl rfl (Nat.le_of_ble_eq_true rfl) ⟨show cells + 1 ≤ 603072 by omega, show slots + 6 ≤ 7190634 by omega⟩ dL_law_841 (fun H locs hP hD hS => ?_)
  refine lv_istore (lv' := [(6, .int (k1.1)), (5, .int i), (0, .ref b), (1, .ref (ha 0 0)), (2, .ref (hm 0)), (3, .ref oa), (4, .ref ob)]) hx hb dL_law_844 hl (by decide) rfl (fun ls hl => ?_)
  refine lv_aload_n hx hb dL_law_846 rfl (lv_at hl 4 rfl) ?_
  refine lv_aload_n hx hb dL_law_847 rfl (lv_at hl 2 rfl) ?_
  refine lv_iload hx hb dL_law_848 (lv_at hl 1 rfl) ?_
  refine lv_iconst (v := 1) hx hb dL_law_850 (by decide) ?_
  refine lv_iadd hx hb dL_law_851 ?_
  refine va_sld hx hb hX hbl hbA hS h1 dL_law_852 ?_
  refine lv_aload_n hx hb dL_law_853 rfl (lv_at hl 2 rfl) ?_
  refine lv_iload hx hb dL_law_854 (lv_at hl 1 rfl) ?_
  refine lv_iconst (v := 2) hx hb dL_law_856 (by decide) ?_
  refine lv_iadd hx hb dL_law_857 ?_
  refine va_sld hx hb hX hbl hbA hS h2 dL_law_858 ?_
  obtain ⟨o3, hg4, hf⟩ := jbB_e hf
  have hPr : va_P (gD g) vwCl ((wM g hm S.mv) ++ (wT g ha (S.svd.map (fun _ => hs 0), S.ep, S.fc) ++ wQ g (ha 1) S.qv ++ wQ g (ha 2) S.bv ++ wS g (ha 3) S.sv ++ wH g (ha 4) hd S.hv ++ wP g (ha 5) S.pv ++ wL g (ha 5 2) lq ++ wO g (ha 6) S.ov ++ wSv g hs S.svd ++ wOut g oa (k1.2) ++ wOud g ob od)) _ := wp_P (wp_of fun f => by simp only [wOut, wOud, List.countP_append, List.countP_cons, List.countP_nil] <;> omega) hP
  refine cpv_i (As := [.int (xs (i + 1).toNatClampNeg), .int (xs (i + 2).toNatClampNeg)]) (rest := []) (Wr := (wT g ha (S.svd.map (fun _ => hs 0), S.ep, S.fc) ++ wQ g (ha 1) S.qv ++ wQ g (ha 2) S.bv ++ wS g (ha 3) S.sv ++ wH g (ha 4) hd S.hv ++ wP g (ha 5) S.pv ++ wL g (ha 5 2) lq ++ wO g (ha 6) S.ov ++ wSv g hs S.svd ++ wOut g oa (k1.2) ++ wOud g ob od)) (Wn := (wT g ha (S.svd.map (fun _ => hs 0), S.ep, S.fc) ++ wQ g (ha 1) S.qv ++ wQ g (ha 2) S.bv ++ wS g (ha 3) S.sv ++ wH g (ha 4) hd S.hv ++ wP g (ha 5) S.pv ++ wL g (ha 5 2) lq ++ wO g (ha 6) S.ov ++ wSv g hs S.svd ++ wM g hm (o3.2) ++ wOut g oa (k1.2) ++ wOud g ob od)) ⟨hx, hb, hml, hown, hts⟩ (c_X11_height l g hm S.mv (xs (i + 1).toNatClampNeg) (xs (i + 2).toNatClampNeg) _ hg4) (cwV 2 hts gL_law_X11_height rfl rfl rfl hd_X11_height ⟨(Nat.le_of_ble_eq_true rfl), (Nat.le_of_ble_eq_true rfl)⟩) hK hZ hT hA hP hD hS hl.1 (va_recv hK hPr (ci := 10) (q0 := 0) rfl rfl) (wp_of fun f => by simp only [wOut, wOud, List.countP_append, List.countP_cons, List.countP_nil] <;> omega) (wp_of fun f => by simp only [wOut, wOud, List.countP_append, List.countP_cons, List.countP_nil] <;> omega) rfl rfl (Nat.le_of_ble_eq_true rfl) ⟨show cells + 1 + 0 ≤ 603072 by omega, show slots + 6 + 0 ≤ 7190634 by omega⟩ dL_law_859 (fun H locs hP hD hS => ?_)
  refine lv_istore (lv' := [(7, .int (o3.1)), (6, .int (k1.1)), (5, .int i), (0, .ref b), (1, .ref (ha 0 0)), (2, .ref (hm 0)), (3, .ref oa), (4, .ref ob)]) hx hb dL_law_862 hl (by decide) rfl (fun ls hl => ?_)
  refine lv_aload_n hx hb dL_law_864 rfl (lv_at hl 5 rfl) ?_
  obtain ⟨o5, hg6, hf⟩ := jbB_e hf
  have hPr : va_P (gD g) vwCl ((wM g hm (o3.2)) ++ (wT g ha (S.svd.map (fun _ => hs 0), S.ep, S.fc) ++ wQ g (ha 1) S.qv ++ wQ g (ha 2) S.bv ++ wS g (ha 3) S.sv ++ wH g (ha 4) hd S.hv ++ wP g (ha 5) S.pv ++ wL g (ha 5 2) lq ++ wO g (ha 6) S.ov ++ wSv g hs S.svd ++ wOut g oa (k1.2) ++ wOud g ob od)) _ := wp_P (wp_of fun f => by simp only [wOut, wOud, List.countP_append, List.countP_cons, List.countP_nil] <;> omega) hP
  refine cpv_i (As := []) (rest := []) (Wr := (wT g ha (S.svd.map (fun _ => hs 0), S.ep, S.fc) ++ wQ g (ha 1) S.qv ++ wQ g (ha 2) S.bv ++ wS g (ha 3) S.sv ++ wH g (ha 4) hd S.hv ++ wP g (ha 5) S.pv ++ wL g (ha 5 2) lq ++ wO g (ha 6) S.ov ++ wSv g hs S.svd ++ wOut g oa (k1.2) ++ wOud g ob od)) (Wn := (wT g ha (S.svd.map (fun _ => hs 0), S.ep, S.fc) ++ wQ g (ha 1) S.qv ++ wQ g (ha 2) S.bv ++ wS g (ha 3) S.sv ++ wH g (ha 4) hd S.hv ++ wP g (ha 5) S.pv ++ wL g (ha 5 2) lq ++ wO g (ha 6) S.ov ++ wSv g hs S.svd ++ wM g hm (o3.2) ++ wOut g oa (k1.2) ++ wOud g ob od)) ⟨hx, hb, hml, hown, hts⟩ (c_X11_thrown l g hm (o3.2)  _ hg6) (cwV 0 hts gL_law_X11_thrown rfl rfl rfl hd_X11_thrown ⟨(Nat.le_of_ble_eq_true rfl), (Nat.le_of_ble_eq_true rfl)⟩) hK hZ hT hA hP hD hS hl.1 (va_recv hK hPr (ci := 10) (q0 := 0) rfl rfl) (wp_of fun f => by simp only [wOut, wOud, List.countP_append, List.countP_cons, List.countP_nil] <;> omega) (wp_of fun f => by simp only [wOut, wOud, List.countP_append, List.countP_cons, List.countP_nil] <;> omega) rfl rfl (Nat.le_of_ble_eq_true rfl) ⟨show cells + 1 + 0 ≤ 603072 by omega, show slots + 6 + 0 ≤ 7190634 by omega⟩ dL_law_865 (fun H locs hP hD hS => ?_)
  refine lv_iload hx hb dL_law_868 (lv_at hl 1 rfl) ?_
  refine lv_icmp_eq (tgt := 875) hx hb dL_law_870 (by decide) (fun hc => ?_) (fun hc => ?_)
  · have hf := jbT hf hc
    refine lv_iload hx hb dL_law_875 (lv_at hl 1 rfl) ?_
    refine lv_if_ne (tgt := 892) hx hb dL_law_877 (by decide) (fun hc2 => ?_) (fun hc2 => ?_)
    · have hf := jbF hf hc2
      cases hf
      refine lv_goto (tgt := 2560) hx hb dL_law_892 (by decide) ?_
      refine W.widen (k := cells + 60) (n := slots + 700) (by omega) (by omega) ?_
      exact kk hd hs lq _ _ _ hok hP hD hS (lv_sub hl [2, 3, 4, 5, 6, 7] rfl)
    · have hf := jbT hf hc2
      refine lv_aload_n hx hb dL_law_880 rfl (lv_at hl 6 rfl) ?_
      refine lv_iconst (v := 0) hx hb dL_law_881 (by decide) ?_
      have hP9 : va_P (gD g) vwCl ((wOut g oa (k1.2)) ++ (wT g ha (S.svd.map (fun _ => hs 0), S.ep, S.fc) ++ wQ g (ha 1) S.qv ++ wQ g (ha 2) S.bv ++ wS g (ha 3) S.sv ++ wH g (ha 4) hd S.hv ++ wP g (ha 5) S.pv ++ wL g (ha 5 2) lq ++ wO g (ha 6) S.ov ++ wSv g hs S.svd ++ wM g hm (o3.2) ++ wOud g ob od)) _ := wp_P (wp_of fun f => by simp only [wOut, wOud, List.countP_append, List.countP_cons, List.countP_nil] <;> omega) hP
      refine va_lald hx hb hK hP9 0 3 rfl rfl (i := 0) vp_in01 dL_law_882 ?_
      refine lv_iload hx hb dL_law_883 (lv_at hl 0 rfl) ?_
      obtain ⟨he, hf⟩ := jbA_e hf
      cases hf
      refine lv_i2l (v := (o3.1).toInt64) hx hb dL_law_885 rfl ?_
      refine W.lcmp hx hb dL_law_886 ?_
      refine lv_if_eq (tgt := 892) hx hb dL_law_887 (by decide) (fun hc => ?_) (fun hc => absurd (by rw [he]; exact lg_cmp_self _) hc)
      refine lv_goto (tgt := 2560) hx hb dL_law_892 (by decide) ?_
      refine W.widen (k := cells + 60) (n := slots + 700) (by omega) (by omega) ?_
      exact kk hd hs lq _ _ _ hok hP hD hS (lv_sub hl [2, 3, 4, 5, 6, 7] rfl)
  · have hf := jbF hf hc
    cases hf
set_option maxHeartbeats 4000000 in
set_option maxRecDepth 100000 in
theorem lwc_9 {p : Program} {e : Env} {s : State} {mi : MethodId} {args : Array Value} {below : List Frame} {meth : Method} {c : Code} {g : GG} {A : Nat → Prop} {b L : Nat} {xs : Nat → Int32} {Q : State → Prop} (l : Launch) (hlt : l.stackTraces = false) (C0 : LwB p s mi args c g A b L xs)
    (ha hd : Nat → Nat → Nat) (hs hm : Nat → Nat) (lq : ListS) (oa ob : Nat) (S : Sys) (ol : Nat → Int64) (od : Nat → UInt64) (hok : lsOK lq) (i : Int32) (h1 : vp_in (i + 1) L) (h2 : vp_in (i + 2) L) (h3 : vp_in (i + 3) L) (h4 : vp_in (i + 4) L) (r : LR)
    (hf : lawOp_9 S (xs (i + 1).toNatClampNeg) (xs (i + 2).toNatClampNeg) (xs (i + 3).toNatClampNeg) (xs (i + 4).toNatClampNeg) ol od = some r) {H : Heap} {locs : List Loc} {ls : Array Slot} {cells slots : Nat} (hc9 : cells + 60 ≤ 603072) (hs9 : slots + 700 ≤ 7190634)
    (hP : va_P (gD g) vwCl (wSys g ha hd hs hm lq oa ob S ol od) H) (hD : va_D A (wSys g ha hd hs hm lq oa ob S ol od)) (hS : va_S A s.heap H locs) (hl : lv_has ls 10 [(5, .int i), (0, .ref b), (1, .ref (ha 0 0)), (2, .ref (hm 0)), (3, .ref oa), (4, .ref ob)])
    (kk : ∀ (hd : Nat → Nat → Nat) (hs : Nat → Nat) (lq : ListS) (H : Heap) (locs : List Loc) (ls : Array Slot), lsOK lq → va_P (gD g) vwCl (wSys g ha hd hs hm lq oa ob r.1 r.2.1 r.2.2) H → va_D A (wSys g ha hd hs hm lq oa ob r.1 r.2.1 r.2.2) → va_S A s.heap H locs → lv_has ls 10 [(5, .int i), (0, .ref b), (1, .ref (ha 0 0)), (2, .ref (hm 0)), (3, .ref oa), (4, .ref ob)] → W p l e room_1 s mi args below meth c H locs (cells + 60) (slots + 700) Q (F0 mi 2560 ls [])) :
    W p l e room_1 s mi args below meth c H locs cells slots Q (F0 mi 895 ls []) := by
  obtain ⟨hx, hb, hml, hown, hts, hK, hZ, hT, hA, hX, hbl, hbA⟩ := C0
  have hP : va_P (gD g) vwCl (wT g ha (S.svd.map (fun _ => hs 0), S.ep, S.fc) ++ wQ g (ha 1) S.qv ++ wQ g (ha 2) S.bv ++ wS g (ha 3) S.sv ++ wH g (ha 4) hd S.hv ++ wP g (ha 5) S.pv ++ wL g (ha 5 2) lq ++ wO g (ha 6) S.ov ++ wSv g hs S.svd ++ wM g hm S.mv ++ wOut g oa ol ++ wOud g ob od) H := hP
  have hD : va_D A (wT g ha (S.svd.map (fun _ => hs 0), S.ep, S.fc) ++ wQ g (ha 1) S.qv ++ wQ g (ha 2) S.bv ++ wS g (ha 3) S.sv ++ wH g (ha 4) hd S.hv ++ wP g (ha 5) S.pv ++ wL g (ha 5 2) lq ++ wO g (ha 6) S.ov ++ wSv g hs S.svd ++ wM g hm S.mv ++ wOut g oa ol ++ wOud g ob od) := hD
  unfold lawOp_9 at hf
  refine lv_aload_n hx hb dL_law_895 rfl (lv_at hl 2 rfl) ?_
  refine lv_aload_n hx hb dL_law_896 rfl (lv_at hl 1 rfl) ?_
  refine lv_iload hx hb dL_law_897 (lv_at hl 0 rfl) ?_
  refine lv_iconst (v := 1) hx hb dL_law_899 (by decide) ?_
  refine lv_iadd hx hb dL_law_900 ?_
  refine va_sld hx hb hX hbl hbA hS h1 dL_law_901 ?_
  refine lv_aload_n hx hb dL_law_902 rfl (lv_at hl 1 rfl) ?_
  refine lv_iload hx hb dL_law_903 (lv_at hl 0 rfl) ?_
  refine lv_iconst (v := 2) hx hb dL_law_905 (by decide) ?_
  refine lv_iadd hx hb dL_law_906 ?_
  refine va_sld hx hb hX hbl hbA hS h2 dL_law_907 ?_
  refine lv_aload_n hx hb dL_law_908 rfl (lv_at hl 4 rfl) ?_
  obtain ⟨k1, hg2, hf⟩ := jbB_e hf
  refine cws_i (As := [.ref (ha 0 0), .int (xs (i + 1).toNatClampNeg), .int (xs (i + 2).toNatClampNeg), .ref oa]) (rest := []) (Wr := (wQ g (ha 2) S.bv ++ wS g (ha 3) S.sv ++ wH g (ha 4) hd S.hv ++ wP g (ha 5) S.pv ++ wL g (ha 5 2) lq ++ wO g (ha 6) S.ov ++ wSv g hs S.svd ++ wM g hm S.mv ++ wOud g ob od)) (Wn := (wT g ha (S.svd.map (fun _ => hs 0), S.ep, S.fc) ++ wQ g (ha 1) S.qv ++ wQ g (ha 2) S.bv ++ wS g (ha 3) S.sv ++ wH g (ha 4) hd S.hv ++ wP g (ha 5) S.pv ++ wL g (ha 5 2) lq ++ wO g (ha 6) S.ov ++ wSv g hs S.svd ++ wM g hm S.mv ++ wOut g oa (k1.2) ++ wOud g ob od)) ⟨hx, hb, hml, hown, hts⟩ (c_L_stone l hlt g ha (S.svd.map (fun _ => hs 0), S.ep, S.fc) S.qv (xs (i + 1).toNatClampNeg) (xs (i + 2).toNatClampNeg) oa ol _ hg2) (vx_cwSW 4 hts gL_law_L_stone rfl rfl rfl hd_L_stone.2 ⟨(Nat.le_of_ble_eq_true rfl), (Nat.le_of_ble_eq_true rfl)⟩) hK hZ hT hA hP hD hS hl.1 (wp_of fun f => by simp only [wOut, wOud, List.countP_append, List.countP_cons, List.countP_nil] <;> omega) (wp_of fun f => by simp only [wOut, wOud, List.countP_append, List.countP_cons, List.countP_nil] <;> omega) rfl rfl (Nat.le_of_ble_eq_true rfl) ⟨show cells + 1 ≤ 603072 by omega, show slots + 6 ≤ 7190634 by omega⟩ dL_law_909 (fun H locs hP hD hS => ?_)
  refine lv_istore (lv' := [(6, .int (k1.1)), (5, .int i), (0, .ref b), (1, .ref (ha 0 0)), (2, .ref (hm 0)), (3, .ref oa), (4, .ref ob)]) hx hb dL_law_912 hl (by decide) rfl (fun ls hl => ?_)
  refine lv_aload_n hx hb dL_law_914 rfl (lv_at hl 4 rfl) ?_
  refine lv_aload_n hx hb dL_law_915 rfl (lv_at hl 2 rfl) ?_
  refine lv_iload hx hb dL_law_916 (lv_at hl 1 rfl) ?_
  refine lv_iconst (v := 1) hx hb dL_law_918 (by decide) ?_
  refine lv_iadd hx hb dL_law_919 ?_
  refine va_sld hx hb hX hbl hbA hS h1 dL_law_920 ?_
  refine lv_aload_n hx hb dL_law_921 rfl (lv_at hl 2 rfl) ?_
  refine lv_iload hx hb dL_law_922 (lv_at hl 1 rfl) ?_
  refine lv_iconst (v := 2) hx hb dL_law_924 (by decide) ?_
  refine lv_iadd hx hb dL_law_925 ?_
  refine va_sld hx hb hX hbl hbA hS h2 dL_law_926 ?_
  obtain ⟨o3, hg4, hf⟩ := jbB_e hf
  have hPr : va_P (gD g) vwCl ((wM g hm S.mv) ++ (wT g ha (S.svd.map (fun _ => hs 0), S.ep, S.fc) ++ wQ g (ha 1) S.qv ++ wQ g (ha 2) S.bv ++ wS g (ha 3) S.sv ++ wH g (ha 4) hd S.hv ++ wP g (ha 5) S.pv ++ wL g (ha 5 2) lq ++ wO g (ha 6) S.ov ++ wSv g hs S.svd ++ wOut g oa (k1.2) ++ wOud g ob od)) _ := wp_P (wp_of fun f => by simp only [wOut, wOud, List.countP_append, List.countP_cons, List.countP_nil] <;> omega) hP
  refine cpv_i (As := [.int (xs (i + 1).toNatClampNeg), .int (xs (i + 2).toNatClampNeg)]) (rest := []) (Wr := (wT g ha (S.svd.map (fun _ => hs 0), S.ep, S.fc) ++ wQ g (ha 1) S.qv ++ wQ g (ha 2) S.bv ++ wS g (ha 3) S.sv ++ wH g (ha 4) hd S.hv ++ wP g (ha 5) S.pv ++ wL g (ha 5 2) lq ++ wO g (ha 6) S.ov ++ wSv g hs S.svd ++ wOut g oa (k1.2) ++ wOud g ob od)) (Wn := (wT g ha (S.svd.map (fun _ => hs 0), S.ep, S.fc) ++ wQ g (ha 1) S.qv ++ wQ g (ha 2) S.bv ++ wS g (ha 3) S.sv ++ wH g (ha 4) hd S.hv ++ wP g (ha 5) S.pv ++ wL g (ha 5 2) lq ++ wO g (ha 6) S.ov ++ wSv g hs S.svd ++ wM g hm (o3.2) ++ wOut g oa (k1.2) ++ wOud g ob od)) ⟨hx, hb, hml, hown, hts⟩ (c_X11_stone l g hm S.mv (xs (i + 1).toNatClampNeg) (xs (i + 2).toNatClampNeg) _ hg4) (cwV 2 hts gL_law_X11_stone rfl rfl rfl hd_X11_stone ⟨(Nat.le_of_ble_eq_true rfl), (Nat.le_of_ble_eq_true rfl)⟩) hK hZ hT hA hP hD hS hl.1 (va_recv hK hPr (ci := 10) (q0 := 0) rfl rfl) (wp_of fun f => by simp only [wOut, wOud, List.countP_append, List.countP_cons, List.countP_nil] <;> omega) (wp_of fun f => by simp only [wOut, wOud, List.countP_append, List.countP_cons, List.countP_nil] <;> omega) rfl rfl (Nat.le_of_ble_eq_true rfl) ⟨show cells + 1 + 0 ≤ 603072 by omega, show slots + 6 + 0 ≤ 7190634 by omega⟩ dL_law_927 (fun H locs hP hD hS => ?_)
  refine lv_istore (lv' := [(7, .int (o3.1)), (6, .int (k1.1)), (5, .int i), (0, .ref b), (1, .ref (ha 0 0)), (2, .ref (hm 0)), (3, .ref oa), (4, .ref ob)]) hx hb dL_law_930 hl (by decide) rfl (fun ls hl => ?_)
  refine lv_aload_n hx hb dL_law_932 rfl (lv_at hl 5 rfl) ?_
  obtain ⟨o5, hg6, hf⟩ := jbB_e hf
  have hPr : va_P (gD g) vwCl ((wM g hm (o3.2)) ++ (wT g ha (S.svd.map (fun _ => hs 0), S.ep, S.fc) ++ wQ g (ha 1) S.qv ++ wQ g (ha 2) S.bv ++ wS g (ha 3) S.sv ++ wH g (ha 4) hd S.hv ++ wP g (ha 5) S.pv ++ wL g (ha 5 2) lq ++ wO g (ha 6) S.ov ++ wSv g hs S.svd ++ wOut g oa (k1.2) ++ wOud g ob od)) _ := wp_P (wp_of fun f => by simp only [wOut, wOud, List.countP_append, List.countP_cons, List.countP_nil] <;> omega) hP
  refine cpv_i (As := []) (rest := []) (Wr := (wT g ha (S.svd.map (fun _ => hs 0), S.ep, S.fc) ++ wQ g (ha 1) S.qv ++ wQ g (ha 2) S.bv ++ wS g (ha 3) S.sv ++ wH g (ha 4) hd S.hv ++ wP g (ha 5) S.pv ++ wL g (ha 5 2) lq ++ wO g (ha 6) S.ov ++ wSv g hs S.svd ++ wOut g oa (k1.2) ++ wOud g ob od)) (Wn := (wT g ha (S.svd.map (fun _ => hs 0), S.ep, S.fc) ++ wQ g (ha 1) S.qv ++ wQ g (ha 2) S.bv ++ wS g (ha 3) S.sv ++ wH g (ha 4) hd S.hv ++ wP g (ha 5) S.pv ++ wL g (ha 5 2) lq ++ wO g (ha 6) S.ov ++ wSv g hs S.svd ++ wM g hm (o3.2) ++ wOut g oa (k1.2) ++ wOud g ob od)) ⟨hx, hb, hml, hown, hts⟩ (c_X11_thrown l g hm (o3.2)  _ hg6) (cwV 0 hts gL_law_X11_thrown rfl rfl rfl hd_X11_thrown ⟨(Nat.le_of_ble_eq_true rfl), (Nat.le_of_ble_eq_true rfl)⟩) hK hZ hT hA hP hD hS hl.1 (va_recv hK hPr (ci := 10) (q0 := 0) rfl rfl) (wp_of fun f => by simp only [wOut, wOud, List.countP_append, List.countP_cons, List.countP_nil] <;> omega) (wp_of fun f => by simp only [wOut, wOud, List.countP_append, List.countP_cons, List.countP_nil] <;> omega) rfl rfl (Nat.le_of_ble_eq_true rfl) ⟨show cells + 1 + 0 ≤ 603072 by omega, show slots + 6 + 0 ≤ 7190634 by omega⟩ dL_law_933 (fun H locs hP hD hS => ?_)
  refine lv_iload hx hb dL_law_936 (lv_at hl 1 rfl) ?_
  refine lv_icmp_eq (tgt := 943) hx hb dL_law_938 (by decide) (fun hc => ?_) (fun hc => ?_)
  · have hf := jbT hf hc
    refine lv_iload hx hb dL_law_943 (lv_at hl 1 rfl) ?_
    refine lv_if_ne (tgt := 960) hx hb dL_law_945 (by decide) (fun hc2 => ?_) (fun hc2 => ?_)
    · have hf := jbF hf hc2
      cases hf
      refine lv_goto (tgt := 2560) hx hb dL_law_960 (by decide) ?_
      refine W.widen (k := cells + 60) (n := slots + 700) (by omega) (by omega) ?_
      exact kk hd hs lq _ _ _ hok hP hD hS (lv_sub hl [2, 3, 4, 5, 6, 7] rfl)
    · have hf := jbT hf hc2
      refine lv_aload_n hx hb dL_law_948 rfl (lv_at hl 6 rfl) ?_
      refine lv_iconst (v := 0) hx hb dL_law_949 (by decide) ?_
      have hP9 : va_P (gD g) vwCl ((wOut g oa (k1.2)) ++ (wT g ha (S.svd.map (fun _ => hs 0), S.ep, S.fc) ++ wQ g (ha 1) S.qv ++ wQ g (ha 2) S.bv ++ wS g (ha 3) S.sv ++ wH g (ha 4) hd S.hv ++ wP g (ha 5) S.pv ++ wL g (ha 5 2) lq ++ wO g (ha 6) S.ov ++ wSv g hs S.svd ++ wM g hm (o3.2) ++ wOud g ob od)) _ := wp_P (wp_of fun f => by simp only [wOut, wOud, List.countP_append, List.countP_cons, List.countP_nil] <;> omega) hP
      refine va_lald hx hb hK hP9 0 3 rfl rfl (i := 0) vp_in01 dL_law_950 ?_
      refine lv_iload hx hb dL_law_951 (lv_at hl 0 rfl) ?_
      obtain ⟨he, hf⟩ := jbA_e hf
      cases hf
      refine lv_i2l (v := (o3.1).toInt64) hx hb dL_law_953 rfl ?_
      refine W.lcmp hx hb dL_law_954 ?_
      refine lv_if_eq (tgt := 960) hx hb dL_law_955 (by decide) (fun hc => ?_) (fun hc => absurd (by rw [he]; exact lg_cmp_self _) hc)
      refine lv_goto (tgt := 2560) hx hb dL_law_960 (by decide) ?_
      refine W.widen (k := cells + 60) (n := slots + 700) (by omega) (by omega) ?_
      exact kk hd hs lq _ _ _ hok hP hD hS (lv_sub hl [2, 3, 4, 5, 6, 7] rfl)
  · have hf := jbF hf hc
    cases hf
set_option maxHeartbeats 4000000 in
set_option maxRecDepth 100000 in
theorem lwc_10 {p : Program} {e : Env} {s : State} {mi : MethodId} {args : Array Value} {below : List Frame} {meth : Method} {c : Code} {g : GG} {A : Nat → Prop} {b L : Nat} {xs : Nat → Int32} {Q : State → Prop} (l : Launch) (hlt : l.stackTraces = false) (C0 : LwB p s mi args c g A b L xs)
    (ha hd : Nat → Nat → Nat) (hs hm : Nat → Nat) (lq : ListS) (oa ob : Nat) (S : Sys) (ol : Nat → Int64) (od : Nat → UInt64) (hok : lsOK lq) (i : Int32) (h1 : vp_in (i + 1) L) (h2 : vp_in (i + 2) L) (h3 : vp_in (i + 3) L) (h4 : vp_in (i + 4) L) (r : LR)
    (hf : lawOp_10 S (xs (i + 1).toNatClampNeg) (xs (i + 2).toNatClampNeg) (xs (i + 3).toNatClampNeg) (xs (i + 4).toNatClampNeg) ol od = some r) {H : Heap} {locs : List Loc} {ls : Array Slot} {cells slots : Nat} (hc9 : cells + 60 ≤ 603072) (hs9 : slots + 700 ≤ 7190634)
    (hP : va_P (gD g) vwCl (wSys g ha hd hs hm lq oa ob S ol od) H) (hD : va_D A (wSys g ha hd hs hm lq oa ob S ol od)) (hS : va_S A s.heap H locs) (hl : lv_has ls 10 [(5, .int i), (0, .ref b), (1, .ref (ha 0 0)), (2, .ref (hm 0)), (3, .ref oa), (4, .ref ob)])
    (kk : ∀ (hd : Nat → Nat → Nat) (hs : Nat → Nat) (lq : ListS) (H : Heap) (locs : List Loc) (ls : Array Slot), lsOK lq → va_P (gD g) vwCl (wSys g ha hd hs hm lq oa ob r.1 r.2.1 r.2.2) H → va_D A (wSys g ha hd hs hm lq oa ob r.1 r.2.1 r.2.2) → va_S A s.heap H locs → lv_has ls 10 [(5, .int i), (0, .ref b), (1, .ref (ha 0 0)), (2, .ref (hm 0)), (3, .ref oa), (4, .ref ob)] → W p l e room_1 s mi args below meth c H locs (cells + 60) (slots + 700) Q (F0 mi 2560 ls [])) :
    W p l e room_1 s mi args below meth c H locs cells slots Q (F0 mi 963 ls []) := by
  obtain ⟨hx, hb, hml, hown, hts, hK, hZ, hT, hA, hX, hbl, hbA⟩ := C0
  have hP : va_P (gD g) vwCl (wT g ha (S.svd.map (fun _ => hs 0), S.ep, S.fc) ++ wQ g (ha 1) S.qv ++ wQ g (ha 2) S.bv ++ wS g (ha 3) S.sv ++ wH g (ha 4) hd S.hv ++ wP g (ha 5) S.pv ++ wL g (ha 5 2) lq ++ wO g (ha 6) S.ov ++ wSv g hs S.svd ++ wM g hm S.mv ++ wOut g oa ol ++ wOud g ob od) H := hP
  have hD : va_D A (wT g ha (S.svd.map (fun _ => hs 0), S.ep, S.fc) ++ wQ g (ha 1) S.qv ++ wQ g (ha 2) S.bv ++ wS g (ha 3) S.sv ++ wH g (ha 4) hd S.hv ++ wP g (ha 5) S.pv ++ wL g (ha 5 2) lq ++ wO g (ha 6) S.ov ++ wSv g hs S.svd ++ wM g hm S.mv ++ wOut g oa ol ++ wOud g ob od) := hD
  unfold lawOp_10 at hf
  refine lv_aload_n hx hb dL_law_963 rfl (lv_at hl 2 rfl) ?_
  refine lv_aload_n hx hb dL_law_964 rfl (lv_at hl 1 rfl) ?_
  refine lv_iload hx hb dL_law_965 (lv_at hl 0 rfl) ?_
  refine lv_iconst (v := 1) hx hb dL_law_967 (by decide) ?_
  refine lv_iadd hx hb dL_law_968 ?_
  refine va_sld hx hb hX hbl hbA hS h1 dL_law_969 ?_
  refine lv_aload_n hx hb dL_law_970 rfl (lv_at hl 1 rfl) ?_
  refine lv_iload hx hb dL_law_971 (lv_at hl 0 rfl) ?_
  refine lv_iconst (v := 2) hx hb dL_law_973 (by decide) ?_
  refine lv_iadd hx hb dL_law_974 ?_
  refine va_sld hx hb hX hbl hbA hS h2 dL_law_975 ?_
  refine lv_aload_n hx hb dL_law_976 rfl (lv_at hl 4 rfl) ?_
  obtain ⟨k1, hg2, hf⟩ := jbB_e hf
  refine cws_i (As := [.ref (ha 0 0), .int (xs (i + 1).toNatClampNeg), .int (xs (i + 2).toNatClampNeg), .ref oa]) (rest := []) (Wr := (wQ g (ha 2) S.bv ++ wS g (ha 3) S.sv ++ wH g (ha 4) hd S.hv ++ wP g (ha 5) S.pv ++ wL g (ha 5 2) lq ++ wO g (ha 6) S.ov ++ wSv g hs S.svd ++ wM g hm S.mv ++ wOud g ob od)) (Wn := (wT g ha (S.svd.map (fun _ => hs 0), S.ep, S.fc) ++ wQ g (ha 1) S.qv ++ wQ g (ha 2) S.bv ++ wS g (ha 3) S.sv ++ wH g (ha 4) hd S.hv ++ wP g (ha 5) S.pv ++ wL g (ha 5 2) lq ++ wO g (ha 6) S.ov ++ wSv g hs S.svd ++ wM g hm S.mv ++ wOut g oa (k1.2) ++ wOud g ob od)) ⟨hx, hb, hml, hown, hts⟩ (c_L_isLedge l hlt g ha (S.svd.map (fun _ => hs 0), S.ep, S.fc) S.qv (xs (i + 1).toNatClampNeg) (xs (i + 2).toNatClampNeg) oa ol _ hg2) (vx_cwSW 4 hts gL_law_L_isLedge rfl rfl rfl hd_L_isLedge.2 ⟨(Nat.le_of_ble_eq_true rfl), (Nat.le_of_ble_eq_true rfl)⟩) hK hZ hT hA hP hD hS hl.1 (wp_of fun f => by simp only [wOut, wOud, List.countP_append, List.countP_cons, List.countP_nil] <;> omega) (wp_of fun f => by simp only [wOut, wOud, List.countP_append, List.countP_cons, List.countP_nil] <;> omega) rfl rfl (Nat.le_of_ble_eq_true rfl) ⟨show cells + 1 ≤ 603072 by omega, show slots + 6 ≤ 7190634 by omega⟩ dL_law_977 (fun H locs hP hD hS => ?_)
  refine lv_istore (lv' := [(6, .int (k1.1)), (5, .int i), (0, .ref b), (1, .ref (ha 0 0)), (2, .ref (hm 0)), (3, .ref oa), (4, .ref ob)]) hx hb dL_law_980 hl (by decide) rfl (fun ls hl => ?_)
  refine lv_aload_n hx hb dL_law_982 rfl (lv_at hl 4 rfl) ?_
  refine lv_aload_n hx hb dL_law_983 rfl (lv_at hl 2 rfl) ?_
  refine lv_iload hx hb dL_law_984 (lv_at hl 1 rfl) ?_
  refine lv_iconst (v := 1) hx hb dL_law_986 (by decide) ?_
  refine lv_iadd hx hb dL_law_987 ?_
  refine va_sld hx hb hX hbl hbA hS h1 dL_law_988 ?_
  refine lv_aload_n hx hb dL_law_989 rfl (lv_at hl 2 rfl) ?_
  refine lv_iload hx hb dL_law_990 (lv_at hl 1 rfl) ?_
  refine lv_iconst (v := 2) hx hb dL_law_992 (by decide) ?_
  refine lv_iadd hx hb dL_law_993 ?_
  refine va_sld hx hb hX hbl hbA hS h2 dL_law_994 ?_
  obtain ⟨o3, hg4, hf⟩ := jbB_e hf
  have hPr : va_P (gD g) vwCl ((wM g hm S.mv) ++ (wT g ha (S.svd.map (fun _ => hs 0), S.ep, S.fc) ++ wQ g (ha 1) S.qv ++ wQ g (ha 2) S.bv ++ wS g (ha 3) S.sv ++ wH g (ha 4) hd S.hv ++ wP g (ha 5) S.pv ++ wL g (ha 5 2) lq ++ wO g (ha 6) S.ov ++ wSv g hs S.svd ++ wOut g oa (k1.2) ++ wOud g ob od)) _ := wp_P (wp_of fun f => by simp only [wOut, wOud, List.countP_append, List.countP_cons, List.countP_nil] <;> omega) hP
  refine cpv_i (As := [.int (xs (i + 1).toNatClampNeg), .int (xs (i + 2).toNatClampNeg)]) (rest := []) (Wr := (wT g ha (S.svd.map (fun _ => hs 0), S.ep, S.fc) ++ wQ g (ha 1) S.qv ++ wQ g (ha 2) S.bv ++ wS g (ha 3) S.sv ++ wH g (ha 4) hd S.hv ++ wP g (ha 5) S.pv ++ wL g (ha 5 2) lq ++ wO g (ha 6) S.ov ++ wSv g hs S.svd ++ wOut g oa (k1.2) ++ wOud g ob od)) (Wn := (wT g ha (S.svd.map (fun _ => hs 0), S.ep, S.fc) ++ wQ g (ha 1) S.qv ++ wQ g (ha 2) S.bv ++ wS g (ha 3) S.sv ++ wH g (ha 4) hd S.hv ++ wP g (ha 5) S.pv ++ wL g (ha 5 2) lq ++ wO g (ha 6) S.ov ++ wSv g hs S.svd ++ wM g hm (o3.2) ++ wOut g oa (k1.2) ++ wOud g ob od)) ⟨hx, hb, hml, hown, hts⟩ (c_X11_isLedge l g hm S.mv (xs (i + 1).toNatClampNeg) (xs (i + 2).toNatClampNeg) _ hg4) (cwV 2 hts gL_law_X11_isLedge rfl rfl rfl hd_X11_isLedge ⟨(Nat.le_of_ble_eq_true rfl), (Nat.le_of_ble_eq_true rfl)⟩) hK hZ hT hA hP hD hS hl.1 (va_recv hK hPr (ci := 10) (q0 := 0) rfl rfl) (wp_of fun f => by simp only [wOut, wOud, List.countP_append, List.countP_cons, List.countP_nil] <;> omega) (wp_of fun f => by simp only [wOut, wOud, List.countP_append, List.countP_cons, List.countP_nil] <;> omega) rfl rfl (Nat.le_of_ble_eq_true rfl) ⟨show cells + 1 + 0 ≤ 603072 by omega, show slots + 6 + 0 ≤ 7190634 by omega⟩ dL_law_995 (fun H locs hP hD hS => ?_)
  refine lv_istore (lv' := [(7, .int (o3.1)), (6, .int (k1.1)), (5, .int i), (0, .ref b), (1, .ref (ha 0 0)), (2, .ref (hm 0)), (3, .ref oa), (4, .ref ob)]) hx hb dL_law_998 hl (by decide) rfl (fun ls hl => ?_)
  refine lv_aload_n hx hb dL_law_1000 rfl (lv_at hl 5 rfl) ?_
  obtain ⟨o5, hg6, hf⟩ := jbB_e hf
  have hPr : va_P (gD g) vwCl ((wM g hm (o3.2)) ++ (wT g ha (S.svd.map (fun _ => hs 0), S.ep, S.fc) ++ wQ g (ha 1) S.qv ++ wQ g (ha 2) S.bv ++ wS g (ha 3) S.sv ++ wH g (ha 4) hd S.hv ++ wP g (ha 5) S.pv ++ wL g (ha 5 2) lq ++ wO g (ha 6) S.ov ++ wSv g hs S.svd ++ wOut g oa (k1.2) ++ wOud g ob od)) _ := wp_P (wp_of fun f => by simp only [wOut, wOud, List.countP_append, List.countP_cons, List.countP_nil] <;> omega) hP
  refine cpv_i (As := []) (rest := []) (Wr := (wT g ha (S.svd.map (fun _ => hs 0), S.ep, S.fc) ++ wQ g (ha 1) S.qv ++ wQ g (ha 2) S.bv ++ wS g (ha 3) S.sv ++ wH g (ha 4) hd S.hv ++ wP g (ha 5) S.pv ++ wL g (ha 5 2) lq ++ wO g (ha 6) S.ov ++ wSv g hs S.svd ++ wOut g oa (k1.2) ++ wOud g ob od)) (Wn := (wT g ha (S.svd.map (fun _ => hs 0), S.ep, S.fc) ++ wQ g (ha 1) S.qv ++ wQ g (ha 2) S.bv ++ wS g (ha 3) S.sv ++ wH g (ha 4) hd S.hv ++ wP g (ha 5) S.pv ++ wL g (ha 5 2) lq ++ wO g (ha 6) S.ov ++ wSv g hs S.svd ++ wM g hm (o3.2) ++ wOut g oa (k1.2) ++ wOud g ob od)) ⟨hx, hb, hml, hown, hts⟩ (c_X11_thrown l g hm (o3.2)  _ hg6) (cwV 0 hts gL_law_X11_thrown rfl rfl rfl hd_X11_thrown ⟨(Nat.le_of_ble_eq_true rfl), (Nat.le_of_ble_eq_true rfl)⟩) hK hZ hT hA hP hD hS hl.1 (va_recv hK hPr (ci := 10) (q0 := 0) rfl rfl) (wp_of fun f => by simp only [wOut, wOud, List.countP_append, List.countP_cons, List.countP_nil] <;> omega) (wp_of fun f => by simp only [wOut, wOud, List.countP_append, List.countP_cons, List.countP_nil] <;> omega) rfl rfl (Nat.le_of_ble_eq_true rfl) ⟨show cells + 1 + 0 ≤ 603072 by omega, show slots + 6 + 0 ≤ 7190634 by omega⟩ dL_law_1001 (fun H locs hP hD hS => ?_)
  refine lv_iload hx hb dL_law_1004 (lv_at hl 1 rfl) ?_
  refine lv_icmp_eq (tgt := 1011) hx hb dL_law_1006 (by decide) (fun hc => ?_) (fun hc => ?_)
  · have hf := jbT hf hc
    refine lv_iload hx hb dL_law_1011 (lv_at hl 1 rfl) ?_
    refine lv_if_ne (tgt := 1035) hx hb dL_law_1013 (by decide) (fun hc2 => ?_) (fun hc2 => ?_)
    · have hf := jbF hf hc2
      cases hf
      refine lv_goto (tgt := 2560) hx hb dL_law_1035 (by decide) ?_
      refine W.widen (k := cells + 60) (n := slots + 700) (by omega) (by omega) ?_
      exact kk hd hs lq _ _ _ hok hP hD hS (lv_sub hl [2, 3, 4, 5, 6, 7] rfl)
    · have hf := jbT hf hc2
      refine lv_aload_n hx hb dL_law_1016 rfl (lv_at hl 6 rfl) ?_
      refine lv_iconst (v := 0) hx hb dL_law_1017 (by decide) ?_
      have hP9 : va_P (gD g) vwCl ((wOut g oa (k1.2)) ++ (wT g ha (S.svd.map (fun _ => hs 0), S.ep, S.fc) ++ wQ g (ha 1) S.qv ++ wQ g (ha 2) S.bv ++ wS g (ha 3) S.sv ++ wH g (ha 4) hd S.hv ++ wP g (ha 5) S.pv ++ wL g (ha 5 2) lq ++ wO g (ha 6) S.ov ++ wSv g hs S.svd ++ wM g hm (o3.2) ++ wOud g ob od)) _ := wp_P (wp_of fun f => by simp only [wOut, wOud, List.countP_append, List.countP_cons, List.countP_nil] <;> omega) hP
      refine va_lald hx hb hK hP9 0 3 rfl rfl (i := 0) vp_in01 dL_law_1018 ?_
      refine lv_iload hx hb dL_law_1019 (lv_at hl 0 rfl) ?_
      obtain ⟨he, hf⟩ := jbA_e hf
      cases hf
      refine lv_if_eq (tgt := 1028) hx hb dL_law_1021 (by decide) (fun hc3 => ?_) (fun hc3 => ?_)
      · rw [if_pos hc3] at he
        refine lv_lconst (v := 0) hx hb dL_law_1028 (by decide) ?_
        refine W.lcmp hx hb dL_law_1029 ?_
        refine lv_if_eq (tgt := 1035) hx hb dL_law_1030 (by decide) (fun hc => ?_) (fun hc => absurd (by rw [he]; exact lg_cmp_self _) hc)
        refine lv_goto (tgt := 2560) hx hb dL_law_1035 (by decide) ?_
        refine W.widen (k := cells + 60) (n := slots + 700) (by omega) (by omega) ?_
        exact kk hd hs lq _ _ _ hok hP hD hS (lv_sub hl [2, 3, 4, 5, 6, 7] rfl)
      · rw [if_neg hc3] at he
        refine lv_lconst (v := 1) hx hb dL_law_1024 (by decide) ?_
        refine lv_goto (tgt := 1029) hx hb dL_law_1025 (by decide) ?_
        refine W.lcmp hx hb dL_law_1029 ?_
        refine lv_if_eq (tgt := 1035) hx hb dL_law_1030 (by decide) (fun hc => ?_) (fun hc => absurd (by rw [he]; exact lg_cmp_self _) hc)
        refine lv_goto (tgt := 2560) hx hb dL_law_1035 (by decide) ?_
        refine W.widen (k := cells + 60) (n := slots + 700) (by omega) (by omega) ?_
        exact kk hd hs lq _ _ _ hok hP hD hS (lv_sub hl [2, 3, 4, 5, 6, 7] rfl)
  · have hf := jbF hf hc
    cases hf
set_option maxHeartbeats 4000000 in
set_option maxRecDepth 100000 in
theorem lwc_11 {p : Program} {e : Env} {s : State} {mi : MethodId} {args : Array Value} {below : List Frame} {meth : Method} {c : Code} {g : GG} {A : Nat → Prop} {b L : Nat} {xs : Nat → Int32} {Q : State → Prop} (l : Launch) (hlt : l.stackTraces = false) (C0 : LwB p s mi args c g A b L xs)
    (ha hd : Nat → Nat → Nat) (hs hm : Nat → Nat) (lq : ListS) (oa ob : Nat) (S : Sys) (ol : Nat → Int64) (od : Nat → UInt64) (hok : lsOK lq) (i : Int32) (h1 : vp_in (i + 1) L) (h2 : vp_in (i + 2) L) (h3 : vp_in (i + 3) L) (h4 : vp_in (i + 4) L) (r : LR)
    (hf : lawOp_11 S (xs (i + 1).toNatClampNeg) (xs (i + 2).toNatClampNeg) (xs (i + 3).toNatClampNeg) (xs (i + 4).toNatClampNeg) ol od = some r) {H : Heap} {locs : List Loc} {ls : Array Slot} {cells slots : Nat} (hc9 : cells + 60 ≤ 603072) (hs9 : slots + 700 ≤ 7190634)
    (hP : va_P (gD g) vwCl (wSys g ha hd hs hm lq oa ob S ol od) H) (hD : va_D A (wSys g ha hd hs hm lq oa ob S ol od)) (hS : va_S A s.heap H locs) (hl : lv_has ls 10 [(5, .int i), (0, .ref b), (1, .ref (ha 0 0)), (2, .ref (hm 0)), (3, .ref oa), (4, .ref ob)])
    (kk : ∀ (hd : Nat → Nat → Nat) (hs : Nat → Nat) (lq : ListS) (H : Heap) (locs : List Loc) (ls : Array Slot), lsOK lq → va_P (gD g) vwCl (wSys g ha hd hs hm lq oa ob r.1 r.2.1 r.2.2) H → va_D A (wSys g ha hd hs hm lq oa ob r.1 r.2.1 r.2.2) → va_S A s.heap H locs → lv_has ls 10 [(5, .int i), (0, .ref b), (1, .ref (ha 0 0)), (2, .ref (hm 0)), (3, .ref oa), (4, .ref ob)] → W p l e room_1 s mi args below meth c H locs (cells + 60) (slots + 700) Q (F0 mi 2560 ls [])) :
    W p l e room_1 s mi args below meth c H locs cells slots Q (F0 mi 1038 ls []) := by
  obtain ⟨hx, hb, hml, hown, hts, hK, hZ, hT, hA, hX, hbl, hbA⟩ := C0
  have hP : va_P (gD g) vwCl (wT g ha (S.svd.map (fun _ => hs 0), S.ep, S.fc) ++ wQ g (ha 1) S.qv ++ wQ g (ha 2) S.bv ++ wS g (ha 3) S.sv ++ wH g (ha 4) hd S.hv ++ wP g (ha 5) S.pv ++ wL g (ha 5 2) lq ++ wO g (ha 6) S.ov ++ wSv g hs S.svd ++ wM g hm S.mv ++ wOut g oa ol ++ wOud g ob od) H := hP
  have hD : va_D A (wT g ha (S.svd.map (fun _ => hs 0), S.ep, S.fc) ++ wQ g (ha 1) S.qv ++ wQ g (ha 2) S.bv ++ wS g (ha 3) S.sv ++ wH g (ha 4) hd S.hv ++ wP g (ha 5) S.pv ++ wL g (ha 5 2) lq ++ wO g (ha 6) S.ov ++ wSv g hs S.svd ++ wM g hm S.mv ++ wOut g oa ol ++ wOud g ob od) := hD
  unfold lawOp_11 at hf
  refine lv_aload_n hx hb dL_law_1038 rfl (lv_at hl 2 rfl) ?_
  refine lv_aload_n hx hb dL_law_1039 rfl (lv_at hl 1 rfl) ?_
  refine lv_iload hx hb dL_law_1040 (lv_at hl 0 rfl) ?_
  refine lv_iconst (v := 1) hx hb dL_law_1042 (by decide) ?_
  refine lv_iadd hx hb dL_law_1043 ?_
  refine va_sld hx hb hX hbl hbA hS h1 dL_law_1044 ?_
  refine lv_aload_n hx hb dL_law_1045 rfl (lv_at hl 1 rfl) ?_
  refine lv_iload hx hb dL_law_1046 (lv_at hl 0 rfl) ?_
  refine lv_iconst (v := 2) hx hb dL_law_1048 (by decide) ?_
  refine lv_iadd hx hb dL_law_1049 ?_
  refine va_sld hx hb hX hbl hbA hS h2 dL_law_1050 ?_
  refine lv_aload_n hx hb dL_law_1051 rfl (lv_at hl 4 rfl) ?_
  obtain ⟨k1, hg2, hf⟩ := jbB_e hf
  refine cws_i (As := [.ref (ha 0 0), .int (xs (i + 1).toNatClampNeg), .int (xs (i + 2).toNatClampNeg), .ref oa]) (rest := []) (Wr := (wQ g (ha 2) S.bv ++ wS g (ha 3) S.sv ++ wH g (ha 4) hd S.hv ++ wP g (ha 5) S.pv ++ wL g (ha 5 2) lq ++ wO g (ha 6) S.ov ++ wSv g hs S.svd ++ wM g hm S.mv ++ wOud g ob od)) (Wn := (wT g ha (S.svd.map (fun _ => hs 0), S.ep, S.fc) ++ wQ g (ha 1) S.qv ++ wQ g (ha 2) S.bv ++ wS g (ha 3) S.sv ++ wH g (ha 4) hd S.hv ++ wP g (ha 5) S.pv ++ wL g (ha 5 2) lq ++ wO g (ha 6) S.ov ++ wSv g hs S.svd ++ wM g hm S.mv ++ wOut g oa (k1.2) ++ wOud g ob od)) ⟨hx, hb, hml, hown, hts⟩ (c_L_looseBlocks l hlt g ha (S.svd.map (fun _ => hs 0), S.ep, S.fc) S.qv (xs (i + 1).toNatClampNeg) (xs (i + 2).toNatClampNeg) oa ol _ hg2) (vx_cwSW 4 hts gL_law_L_looseBlocks rfl rfl rfl hd_L_looseBlocks.2 ⟨(Nat.le_of_ble_eq_true rfl), (Nat.le_of_ble_eq_true rfl)⟩) hK hZ hT hA hP hD hS hl.1 (wp_of fun f => by simp only [wOut, wOud, List.countP_append, List.countP_cons, List.countP_nil] <;> omega) (wp_of fun f => by simp only [wOut, wOud, List.countP_append, List.countP_cons, List.countP_nil] <;> omega) rfl rfl (Nat.le_of_ble_eq_true rfl) ⟨show cells + 1 ≤ 603072 by omega, show slots + 6 ≤ 7190634 by omega⟩ dL_law_1052 (fun H locs hP hD hS => ?_)
  refine lv_istore (lv' := [(6, .int (k1.1)), (5, .int i), (0, .ref b), (1, .ref (ha 0 0)), (2, .ref (hm 0)), (3, .ref oa), (4, .ref ob)]) hx hb dL_law_1055 hl (by decide) rfl (fun ls hl => ?_)
  refine lv_aload_n hx hb dL_law_1057 rfl (lv_at hl 4 rfl) ?_
  refine lv_aload_n hx hb dL_law_1058 rfl (lv_at hl 2 rfl) ?_
  refine lv_iload hx hb dL_law_1059 (lv_at hl 1 rfl) ?_
  refine lv_iconst (v := 1) hx hb dL_law_1061 (by decide) ?_
  refine lv_iadd hx hb dL_law_1062 ?_
  refine va_sld hx hb hX hbl hbA hS h1 dL_law_1063 ?_
  refine lv_aload_n hx hb dL_law_1064 rfl (lv_at hl 2 rfl) ?_
  refine lv_iload hx hb dL_law_1065 (lv_at hl 1 rfl) ?_
  refine lv_iconst (v := 2) hx hb dL_law_1067 (by decide) ?_
  refine lv_iadd hx hb dL_law_1068 ?_
  refine va_sld hx hb hX hbl hbA hS h2 dL_law_1069 ?_
  obtain ⟨o3, hg4, hf⟩ := jbB_e hf
  have hPr : va_P (gD g) vwCl ((wM g hm S.mv) ++ (wT g ha (S.svd.map (fun _ => hs 0), S.ep, S.fc) ++ wQ g (ha 1) S.qv ++ wQ g (ha 2) S.bv ++ wS g (ha 3) S.sv ++ wH g (ha 4) hd S.hv ++ wP g (ha 5) S.pv ++ wL g (ha 5 2) lq ++ wO g (ha 6) S.ov ++ wSv g hs S.svd ++ wOut g oa (k1.2) ++ wOud g ob od)) _ := wp_P (wp_of fun f => by simp only [wOut, wOud, List.countP_append, List.countP_cons, List.countP_nil] <;> omega) hP
  refine cpv_i (As := [.int (xs (i + 1).toNatClampNeg), .int (xs (i + 2).toNatClampNeg)]) (rest := []) (Wr := (wT g ha (S.svd.map (fun _ => hs 0), S.ep, S.fc) ++ wQ g (ha 1) S.qv ++ wQ g (ha 2) S.bv ++ wS g (ha 3) S.sv ++ wH g (ha 4) hd S.hv ++ wP g (ha 5) S.pv ++ wL g (ha 5 2) lq ++ wO g (ha 6) S.ov ++ wSv g hs S.svd ++ wOut g oa (k1.2) ++ wOud g ob od)) (Wn := (wT g ha (S.svd.map (fun _ => hs 0), S.ep, S.fc) ++ wQ g (ha 1) S.qv ++ wQ g (ha 2) S.bv ++ wS g (ha 3) S.sv ++ wH g (ha 4) hd S.hv ++ wP g (ha 5) S.pv ++ wL g (ha 5 2) lq ++ wO g (ha 6) S.ov ++ wSv g hs S.svd ++ wM g hm (o3.2) ++ wOut g oa (k1.2) ++ wOud g ob od)) ⟨hx, hb, hml, hown, hts⟩ (c_X11_looseBlocks l g hm S.mv (xs (i + 1).toNatClampNeg) (xs (i + 2).toNatClampNeg) _ hg4) (cwV 2 hts gL_law_X11_looseBlocks rfl rfl rfl hd_X11_looseBlocks ⟨(Nat.le_of_ble_eq_true rfl), (Nat.le_of_ble_eq_true rfl)⟩) hK hZ hT hA hP hD hS hl.1 (va_recv hK hPr (ci := 10) (q0 := 0) rfl rfl) (wp_of fun f => by simp only [wOut, wOud, List.countP_append, List.countP_cons, List.countP_nil] <;> omega) (wp_of fun f => by simp only [wOut, wOud, List.countP_append, List.countP_cons, List.countP_nil] <;> omega) rfl rfl (Nat.le_of_ble_eq_true rfl) ⟨show cells + 1 + 0 ≤ 603072 by omega, show slots + 6 + 0 ≤ 7190634 by omega⟩ dL_law_1070 (fun H locs hP hD hS => ?_)
  refine lv_istore (lv' := [(7, .int (o3.1)), (6, .int (k1.1)), (5, .int i), (0, .ref b), (1, .ref (ha 0 0)), (2, .ref (hm 0)), (3, .ref oa), (4, .ref ob)]) hx hb dL_law_1073 hl (by decide) rfl (fun ls hl => ?_)
  refine lv_aload_n hx hb dL_law_1075 rfl (lv_at hl 5 rfl) ?_
  obtain ⟨o5, hg6, hf⟩ := jbB_e hf
  have hPr : va_P (gD g) vwCl ((wM g hm (o3.2)) ++ (wT g ha (S.svd.map (fun _ => hs 0), S.ep, S.fc) ++ wQ g (ha 1) S.qv ++ wQ g (ha 2) S.bv ++ wS g (ha 3) S.sv ++ wH g (ha 4) hd S.hv ++ wP g (ha 5) S.pv ++ wL g (ha 5 2) lq ++ wO g (ha 6) S.ov ++ wSv g hs S.svd ++ wOut g oa (k1.2) ++ wOud g ob od)) _ := wp_P (wp_of fun f => by simp only [wOut, wOud, List.countP_append, List.countP_cons, List.countP_nil] <;> omega) hP
  refine cpv_i (As := []) (rest := []) (Wr := (wT g ha (S.svd.map (fun _ => hs 0), S.ep, S.fc) ++ wQ g (ha 1) S.qv ++ wQ g (ha 2) S.bv ++ wS g (ha 3) S.sv ++ wH g (ha 4) hd S.hv ++ wP g (ha 5) S.pv ++ wL g (ha 5 2) lq ++ wO g (ha 6) S.ov ++ wSv g hs S.svd ++ wOut g oa (k1.2) ++ wOud g ob od)) (Wn := (wT g ha (S.svd.map (fun _ => hs 0), S.ep, S.fc) ++ wQ g (ha 1) S.qv ++ wQ g (ha 2) S.bv ++ wS g (ha 3) S.sv ++ wH g (ha 4) hd S.hv ++ wP g (ha 5) S.pv ++ wL g (ha 5 2) lq ++ wO g (ha 6) S.ov ++ wSv g hs S.svd ++ wM g hm (o3.2) ++ wOut g oa (k1.2) ++ wOud g ob od)) ⟨hx, hb, hml, hown, hts⟩ (c_X11_thrown l g hm (o3.2)  _ hg6) (cwV 0 hts gL_law_X11_thrown rfl rfl rfl hd_X11_thrown ⟨(Nat.le_of_ble_eq_true rfl), (Nat.le_of_ble_eq_true rfl)⟩) hK hZ hT hA hP hD hS hl.1 (va_recv hK hPr (ci := 10) (q0 := 0) rfl rfl) (wp_of fun f => by simp only [wOut, wOud, List.countP_append, List.countP_cons, List.countP_nil] <;> omega) (wp_of fun f => by simp only [wOut, wOud, List.countP_append, List.countP_cons, List.countP_nil] <;> omega) rfl rfl (Nat.le_of_ble_eq_true rfl) ⟨show cells + 1 + 0 ≤ 603072 by omega, show slots + 6 + 0 ≤ 7190634 by omega⟩ dL_law_1076 (fun H locs hP hD hS => ?_)
  refine lv_iload hx hb dL_law_1079 (lv_at hl 1 rfl) ?_
  refine lv_icmp_eq (tgt := 1086) hx hb dL_law_1081 (by decide) (fun hc => ?_) (fun hc => ?_)
  · have hf := jbT hf hc
    refine lv_iload hx hb dL_law_1086 (lv_at hl 1 rfl) ?_
    refine lv_if_ne (tgt := 1103) hx hb dL_law_1088 (by decide) (fun hc2 => ?_) (fun hc2 => ?_)
    · have hf := jbF hf hc2
      cases hf
      refine lv_goto (tgt := 2560) hx hb dL_law_1103 (by decide) ?_
      refine W.widen (k := cells + 60) (n := slots + 700) (by omega) (by omega) ?_
      exact kk hd hs lq _ _ _ hok hP hD hS (lv_sub hl [2, 3, 4, 5, 6, 7] rfl)
    · have hf := jbT hf hc2
      refine lv_aload_n hx hb dL_law_1091 rfl (lv_at hl 6 rfl) ?_
      refine lv_iconst (v := 0) hx hb dL_law_1092 (by decide) ?_
      have hP9 : va_P (gD g) vwCl ((wOut g oa (k1.2)) ++ (wT g ha (S.svd.map (fun _ => hs 0), S.ep, S.fc) ++ wQ g (ha 1) S.qv ++ wQ g (ha 2) S.bv ++ wS g (ha 3) S.sv ++ wH g (ha 4) hd S.hv ++ wP g (ha 5) S.pv ++ wL g (ha 5 2) lq ++ wO g (ha 6) S.ov ++ wSv g hs S.svd ++ wM g hm (o3.2) ++ wOud g ob od)) _ := wp_P (wp_of fun f => by simp only [wOut, wOud, List.countP_append, List.countP_cons, List.countP_nil] <;> omega) hP
      refine va_lald hx hb hK hP9 0 3 rfl rfl (i := 0) vp_in01 dL_law_1093 ?_
      refine lv_iload hx hb dL_law_1094 (lv_at hl 0 rfl) ?_
      obtain ⟨he, hf⟩ := jbA_e hf
      cases hf
      refine lv_i2l (v := (o3.1).toInt64) hx hb dL_law_1096 rfl ?_
      refine W.lcmp hx hb dL_law_1097 ?_
      refine lv_if_eq (tgt := 1103) hx hb dL_law_1098 (by decide) (fun hc => ?_) (fun hc => absurd (by rw [he]; exact lg_cmp_self _) hc)
      refine lv_goto (tgt := 2560) hx hb dL_law_1103 (by decide) ?_
      refine W.widen (k := cells + 60) (n := slots + 700) (by omega) (by omega) ?_
      exact kk hd hs lq _ _ _ hok hP hD hS (lv_sub hl [2, 3, 4, 5, 6, 7] rfl)
  · have hf := jbF hf hc
    cases hf
set_option maxHeartbeats 4000000 in
set_option maxRecDepth 100000 in
theorem lwc_12 {p : Program} {e : Env} {s : State} {mi : MethodId} {args : Array Value} {below : List Frame} {meth : Method} {c : Code} {g : GG} {A : Nat → Prop} {b L : Nat} {xs : Nat → Int32} {Q : State → Prop} (l : Launch) (hlt : l.stackTraces = false) (C0 : LwB p s mi args c g A b L xs)
    (ha hd : Nat → Nat → Nat) (hs hm : Nat → Nat) (lq : ListS) (oa ob : Nat) (S : Sys) (ol : Nat → Int64) (od : Nat → UInt64) (hok : lsOK lq) (i : Int32) (h1 : vp_in (i + 1) L) (h2 : vp_in (i + 2) L) (h3 : vp_in (i + 3) L) (h4 : vp_in (i + 4) L) (r : LR)
    (hf : lawOp_12 S (xs (i + 1).toNatClampNeg) (xs (i + 2).toNatClampNeg) (xs (i + 3).toNatClampNeg) (xs (i + 4).toNatClampNeg) ol od = some r) {H : Heap} {locs : List Loc} {ls : Array Slot} {cells slots : Nat} (hc9 : cells + 60 ≤ 603072) (hs9 : slots + 700 ≤ 7190634)
    (hP : va_P (gD g) vwCl (wSys g ha hd hs hm lq oa ob S ol od) H) (hD : va_D A (wSys g ha hd hs hm lq oa ob S ol od)) (hS : va_S A s.heap H locs) (hl : lv_has ls 10 [(5, .int i), (0, .ref b), (1, .ref (ha 0 0)), (2, .ref (hm 0)), (3, .ref oa), (4, .ref ob)])
    (kk : ∀ (hd : Nat → Nat → Nat) (hs : Nat → Nat) (lq : ListS) (H : Heap) (locs : List Loc) (ls : Array Slot), lsOK lq → va_P (gD g) vwCl (wSys g ha hd hs hm lq oa ob r.1 r.2.1 r.2.2) H → va_D A (wSys g ha hd hs hm lq oa ob r.1 r.2.1 r.2.2) → va_S A s.heap H locs → lv_has ls 10 [(5, .int i), (0, .ref b), (1, .ref (ha 0 0)), (2, .ref (hm 0)), (3, .ref oa), (4, .ref ob)] → W p l e room_1 s mi args below meth c H locs (cells + 60) (slots + 700) Q (F0 mi 2560 ls [])) :
    W p l e room_1 s mi args below meth c H locs cells slots Q (F0 mi 1106 ls []) := by
  obtain ⟨hx, hb, hml, hown, hts, hK, hZ, hT, hA, hX, hbl, hbA⟩ := C0
  have hP : va_P (gD g) vwCl (wT g ha (S.svd.map (fun _ => hs 0), S.ep, S.fc) ++ wQ g (ha 1) S.qv ++ wQ g (ha 2) S.bv ++ wS g (ha 3) S.sv ++ wH g (ha 4) hd S.hv ++ wP g (ha 5) S.pv ++ wL g (ha 5 2) lq ++ wO g (ha 6) S.ov ++ wSv g hs S.svd ++ wM g hm S.mv ++ wOut g oa ol ++ wOud g ob od) H := hP
  have hD : va_D A (wT g ha (S.svd.map (fun _ => hs 0), S.ep, S.fc) ++ wQ g (ha 1) S.qv ++ wQ g (ha 2) S.bv ++ wS g (ha 3) S.sv ++ wH g (ha 4) hd S.hv ++ wP g (ha 5) S.pv ++ wL g (ha 5 2) lq ++ wO g (ha 6) S.ov ++ wSv g hs S.svd ++ wM g hm S.mv ++ wOut g oa ol ++ wOud g ob od) := hD
  unfold lawOp_12 at hf
  refine lv_aload_n hx hb dL_law_1106 rfl (lv_at hl 2 rfl) ?_
  refine lv_aload_n hx hb dL_law_1107 rfl (lv_at hl 1 rfl) ?_
  refine lv_iload hx hb dL_law_1108 (lv_at hl 0 rfl) ?_
  refine lv_iconst (v := 1) hx hb dL_law_1110 (by decide) ?_
  refine lv_iadd hx hb dL_law_1111 ?_
  refine va_sld hx hb hX hbl hbA hS h1 dL_law_1112 ?_
  refine lv_aload_n hx hb dL_law_1113 rfl (lv_at hl 1 rfl) ?_
  refine lv_iload hx hb dL_law_1114 (lv_at hl 0 rfl) ?_
  refine lv_iconst (v := 2) hx hb dL_law_1116 (by decide) ?_
  refine lv_iadd hx hb dL_law_1117 ?_
  refine va_sld hx hb hX hbl hbA hS h2 dL_law_1118 ?_
  refine lv_aload_n hx hb dL_law_1119 rfl (lv_at hl 4 rfl) ?_
  obtain ⟨k1, hg2, hf⟩ := jbB_e hf
  refine cws_i (As := [.ref (ha 0 0), .int (xs (i + 1).toNatClampNeg), .int (xs (i + 2).toNatClampNeg), .ref oa]) (rest := []) (Wr := (wQ g (ha 2) S.bv ++ wS g (ha 3) S.sv ++ wH g (ha 4) hd S.hv ++ wP g (ha 5) S.pv ++ wL g (ha 5 2) lq ++ wO g (ha 6) S.ov ++ wSv g hs S.svd ++ wM g hm S.mv ++ wOud g ob od)) (Wn := (wT g ha (S.svd.map (fun _ => hs 0), S.ep, S.fc) ++ wQ g (ha 1) S.qv ++ wQ g (ha 2) S.bv ++ wS g (ha 3) S.sv ++ wH g (ha 4) hd S.hv ++ wP g (ha 5) S.pv ++ wL g (ha 5 2) lq ++ wO g (ha 6) S.ov ++ wSv g hs S.svd ++ wM g hm S.mv ++ wOut g oa (k1.2) ++ wOud g ob od)) ⟨hx, hb, hml, hown, hts⟩ (c_L_topBlock l hlt g ha (S.svd.map (fun _ => hs 0), S.ep, S.fc) S.qv (xs (i + 1).toNatClampNeg) (xs (i + 2).toNatClampNeg) oa ol _ hg2) (vx_cwSW 4 hts gL_law_L_topBlock rfl rfl rfl hd_L_topBlock.2 ⟨(Nat.le_of_ble_eq_true rfl), (Nat.le_of_ble_eq_true rfl)⟩) hK hZ hT hA hP hD hS hl.1 (wp_of fun f => by simp only [wOut, wOud, List.countP_append, List.countP_cons, List.countP_nil] <;> omega) (wp_of fun f => by simp only [wOut, wOud, List.countP_append, List.countP_cons, List.countP_nil] <;> omega) rfl rfl (Nat.le_of_ble_eq_true rfl) ⟨show cells + 1 ≤ 603072 by omega, show slots + 6 ≤ 7190634 by omega⟩ dL_law_1120 (fun H locs hP hD hS => ?_)
  refine lv_istore (lv' := [(6, .int (k1.1)), (5, .int i), (0, .ref b), (1, .ref (ha 0 0)), (2, .ref (hm 0)), (3, .ref oa), (4, .ref ob)]) hx hb dL_law_1123 hl (by decide) rfl (fun ls hl => ?_)
  refine lv_aload_n hx hb dL_law_1125 rfl (lv_at hl 4 rfl) ?_
  refine lv_aload_n hx hb dL_law_1126 rfl (lv_at hl 2 rfl) ?_
  refine lv_iload hx hb dL_law_1127 (lv_at hl 1 rfl) ?_
  refine lv_iconst (v := 1) hx hb dL_law_1129 (by decide) ?_
  refine lv_iadd hx hb dL_law_1130 ?_
  refine va_sld hx hb hX hbl hbA hS h1 dL_law_1131 ?_
  refine lv_aload_n hx hb dL_law_1132 rfl (lv_at hl 2 rfl) ?_
  refine lv_iload hx hb dL_law_1133 (lv_at hl 1 rfl) ?_
  refine lv_iconst (v := 2) hx hb dL_law_1135 (by decide) ?_
  refine lv_iadd hx hb dL_law_1136 ?_
  refine va_sld hx hb hX hbl hbA hS h2 dL_law_1137 ?_
  obtain ⟨o3, hg4, hf⟩ := jbB_e hf
  have hPr : va_P (gD g) vwCl ((wM g hm S.mv) ++ (wT g ha (S.svd.map (fun _ => hs 0), S.ep, S.fc) ++ wQ g (ha 1) S.qv ++ wQ g (ha 2) S.bv ++ wS g (ha 3) S.sv ++ wH g (ha 4) hd S.hv ++ wP g (ha 5) S.pv ++ wL g (ha 5 2) lq ++ wO g (ha 6) S.ov ++ wSv g hs S.svd ++ wOut g oa (k1.2) ++ wOud g ob od)) _ := wp_P (wp_of fun f => by simp only [wOut, wOud, List.countP_append, List.countP_cons, List.countP_nil] <;> omega) hP
  refine cpv_i (As := [.int (xs (i + 1).toNatClampNeg), .int (xs (i + 2).toNatClampNeg)]) (rest := []) (Wr := (wT g ha (S.svd.map (fun _ => hs 0), S.ep, S.fc) ++ wQ g (ha 1) S.qv ++ wQ g (ha 2) S.bv ++ wS g (ha 3) S.sv ++ wH g (ha 4) hd S.hv ++ wP g (ha 5) S.pv ++ wL g (ha 5 2) lq ++ wO g (ha 6) S.ov ++ wSv g hs S.svd ++ wOut g oa (k1.2) ++ wOud g ob od)) (Wn := (wT g ha (S.svd.map (fun _ => hs 0), S.ep, S.fc) ++ wQ g (ha 1) S.qv ++ wQ g (ha 2) S.bv ++ wS g (ha 3) S.sv ++ wH g (ha 4) hd S.hv ++ wP g (ha 5) S.pv ++ wL g (ha 5 2) lq ++ wO g (ha 6) S.ov ++ wSv g hs S.svd ++ wM g hm (o3.2) ++ wOut g oa (k1.2) ++ wOud g ob od)) ⟨hx, hb, hml, hown, hts⟩ (c_X11_topBlock l g hm S.mv (xs (i + 1).toNatClampNeg) (xs (i + 2).toNatClampNeg) _ hg4) (cwV 2 hts gL_law_X11_topBlock rfl rfl rfl hd_X11_topBlock ⟨(Nat.le_of_ble_eq_true rfl), (Nat.le_of_ble_eq_true rfl)⟩) hK hZ hT hA hP hD hS hl.1 (va_recv hK hPr (ci := 10) (q0 := 0) rfl rfl) (wp_of fun f => by simp only [wOut, wOud, List.countP_append, List.countP_cons, List.countP_nil] <;> omega) (wp_of fun f => by simp only [wOut, wOud, List.countP_append, List.countP_cons, List.countP_nil] <;> omega) rfl rfl (Nat.le_of_ble_eq_true rfl) ⟨show cells + 1 + 0 ≤ 603072 by omega, show slots + 6 + 0 ≤ 7190634 by omega⟩ dL_law_1138 (fun H locs hP hD hS => ?_)
  refine lv_istore (lv' := [(7, .int (o3.1)), (6, .int (k1.1)), (5, .int i), (0, .ref b), (1, .ref (ha 0 0)), (2, .ref (hm 0)), (3, .ref oa), (4, .ref ob)]) hx hb dL_law_1141 hl (by decide) rfl (fun ls hl => ?_)
  refine lv_aload_n hx hb dL_law_1143 rfl (lv_at hl 5 rfl) ?_
  obtain ⟨o5, hg6, hf⟩ := jbB_e hf
  have hPr : va_P (gD g) vwCl ((wM g hm (o3.2)) ++ (wT g ha (S.svd.map (fun _ => hs 0), S.ep, S.fc) ++ wQ g (ha 1) S.qv ++ wQ g (ha 2) S.bv ++ wS g (ha 3) S.sv ++ wH g (ha 4) hd S.hv ++ wP g (ha 5) S.pv ++ wL g (ha 5 2) lq ++ wO g (ha 6) S.ov ++ wSv g hs S.svd ++ wOut g oa (k1.2) ++ wOud g ob od)) _ := wp_P (wp_of fun f => by simp only [wOut, wOud, List.countP_append, List.countP_cons, List.countP_nil] <;> omega) hP
  refine cpv_i (As := []) (rest := []) (Wr := (wT g ha (S.svd.map (fun _ => hs 0), S.ep, S.fc) ++ wQ g (ha 1) S.qv ++ wQ g (ha 2) S.bv ++ wS g (ha 3) S.sv ++ wH g (ha 4) hd S.hv ++ wP g (ha 5) S.pv ++ wL g (ha 5 2) lq ++ wO g (ha 6) S.ov ++ wSv g hs S.svd ++ wOut g oa (k1.2) ++ wOud g ob od)) (Wn := (wT g ha (S.svd.map (fun _ => hs 0), S.ep, S.fc) ++ wQ g (ha 1) S.qv ++ wQ g (ha 2) S.bv ++ wS g (ha 3) S.sv ++ wH g (ha 4) hd S.hv ++ wP g (ha 5) S.pv ++ wL g (ha 5 2) lq ++ wO g (ha 6) S.ov ++ wSv g hs S.svd ++ wM g hm (o3.2) ++ wOut g oa (k1.2) ++ wOud g ob od)) ⟨hx, hb, hml, hown, hts⟩ (c_X11_thrown l g hm (o3.2)  _ hg6) (cwV 0 hts gL_law_X11_thrown rfl rfl rfl hd_X11_thrown ⟨(Nat.le_of_ble_eq_true rfl), (Nat.le_of_ble_eq_true rfl)⟩) hK hZ hT hA hP hD hS hl.1 (va_recv hK hPr (ci := 10) (q0 := 0) rfl rfl) (wp_of fun f => by simp only [wOut, wOud, List.countP_append, List.countP_cons, List.countP_nil] <;> omega) (wp_of fun f => by simp only [wOut, wOud, List.countP_append, List.countP_cons, List.countP_nil] <;> omega) rfl rfl (Nat.le_of_ble_eq_true rfl) ⟨show cells + 1 + 0 ≤ 603072 by omega, show slots + 6 + 0 ≤ 7190634 by omega⟩ dL_law_1144 (fun H locs hP hD hS => ?_)
  refine lv_iload hx hb dL_law_1147 (lv_at hl 1 rfl) ?_
  refine lv_icmp_eq (tgt := 1154) hx hb dL_law_1149 (by decide) (fun hc => ?_) (fun hc => ?_)
  · have hf := jbT hf hc
    refine lv_iload hx hb dL_law_1154 (lv_at hl 1 rfl) ?_
    refine lv_if_ne (tgt := 1171) hx hb dL_law_1156 (by decide) (fun hc2 => ?_) (fun hc2 => ?_)
    · have hf := jbF hf hc2
      cases hf
      refine lv_goto (tgt := 2560) hx hb dL_law_1171 (by decide) ?_
      refine W.widen (k := cells + 60) (n := slots + 700) (by omega) (by omega) ?_
      exact kk hd hs lq _ _ _ hok hP hD hS (lv_sub hl [2, 3, 4, 5, 6, 7] rfl)
    · have hf := jbT hf hc2
      refine lv_aload_n hx hb dL_law_1159 rfl (lv_at hl 6 rfl) ?_
      refine lv_iconst (v := 0) hx hb dL_law_1160 (by decide) ?_
      have hP9 : va_P (gD g) vwCl ((wOut g oa (k1.2)) ++ (wT g ha (S.svd.map (fun _ => hs 0), S.ep, S.fc) ++ wQ g (ha 1) S.qv ++ wQ g (ha 2) S.bv ++ wS g (ha 3) S.sv ++ wH g (ha 4) hd S.hv ++ wP g (ha 5) S.pv ++ wL g (ha 5 2) lq ++ wO g (ha 6) S.ov ++ wSv g hs S.svd ++ wM g hm (o3.2) ++ wOud g ob od)) _ := wp_P (wp_of fun f => by simp only [wOut, wOud, List.countP_append, List.countP_cons, List.countP_nil] <;> omega) hP
      refine va_lald hx hb hK hP9 0 3 rfl rfl (i := 0) vp_in01 dL_law_1161 ?_
      refine lv_iload hx hb dL_law_1162 (lv_at hl 0 rfl) ?_
      obtain ⟨he, hf⟩ := jbA_e hf
      cases hf
      refine lv_i2l (v := (o3.1).toInt64) hx hb dL_law_1164 rfl ?_
      refine W.lcmp hx hb dL_law_1165 ?_
      refine lv_if_eq (tgt := 1171) hx hb dL_law_1166 (by decide) (fun hc => ?_) (fun hc => absurd (by rw [he]; exact lg_cmp_self _) hc)
      refine lv_goto (tgt := 2560) hx hb dL_law_1171 (by decide) ?_
      refine W.widen (k := cells + 60) (n := slots + 700) (by omega) (by omega) ?_
      exact kk hd hs lq _ _ _ hok hP hD hS (lv_sub hl [2, 3, 4, 5, 6, 7] rfl)
  · have hf := jbF hf hc
    cases hf
set_option maxHeartbeats 4000000 in
set_option maxRecDepth 100000 in
theorem lwc_13 {p : Program} {e : Env} {s : State} {mi : MethodId} {args : Array Value} {below : List Frame} {meth : Method} {c : Code} {g : GG} {A : Nat → Prop} {b L : Nat} {xs : Nat → Int32} {Q : State → Prop} (l : Launch) (hlt : l.stackTraces = false) (C0 : LwB p s mi args c g A b L xs)
    (ha hd : Nat → Nat → Nat) (hs hm : Nat → Nat) (lq : ListS) (oa ob : Nat) (S : Sys) (ol : Nat → Int64) (od : Nat → UInt64) (hok : lsOK lq) (i : Int32) (h1 : vp_in (i + 1) L) (h2 : vp_in (i + 2) L) (h3 : vp_in (i + 3) L) (h4 : vp_in (i + 4) L) (r : LR)
    (hf : lawOp_13 S (xs (i + 1).toNatClampNeg) (xs (i + 2).toNatClampNeg) (xs (i + 3).toNatClampNeg) (xs (i + 4).toNatClampNeg) ol od = some r) {H : Heap} {locs : List Loc} {ls : Array Slot} {cells slots : Nat} (hc9 : cells + 60 ≤ 603072) (hs9 : slots + 700 ≤ 7190634)
    (hP : va_P (gD g) vwCl (wSys g ha hd hs hm lq oa ob S ol od) H) (hD : va_D A (wSys g ha hd hs hm lq oa ob S ol od)) (hS : va_S A s.heap H locs) (hl : lv_has ls 10 [(5, .int i), (0, .ref b), (1, .ref (ha 0 0)), (2, .ref (hm 0)), (3, .ref oa), (4, .ref ob)])
    (kk : ∀ (hd : Nat → Nat → Nat) (hs : Nat → Nat) (lq : ListS) (H : Heap) (locs : List Loc) (ls : Array Slot), lsOK lq → va_P (gD g) vwCl (wSys g ha hd hs hm lq oa ob r.1 r.2.1 r.2.2) H → va_D A (wSys g ha hd hs hm lq oa ob r.1 r.2.1 r.2.2) → va_S A s.heap H locs → lv_has ls 10 [(5, .int i), (0, .ref b), (1, .ref (ha 0 0)), (2, .ref (hm 0)), (3, .ref oa), (4, .ref ob)] → W p l e room_1 s mi args below meth c H locs (cells + 60) (slots + 700) Q (F0 mi 2560 ls [])) :
    W p l e room_1 s mi args below meth c H locs cells slots Q (F0 mi 1174 ls []) := by
  obtain ⟨hx, hb, hml, hown, hts, hK, hZ, hT, hA, hX, hbl, hbA⟩ := C0
  have hP : va_P (gD g) vwCl (wT g ha (S.svd.map (fun _ => hs 0), S.ep, S.fc) ++ wQ g (ha 1) S.qv ++ wQ g (ha 2) S.bv ++ wS g (ha 3) S.sv ++ wH g (ha 4) hd S.hv ++ wP g (ha 5) S.pv ++ wL g (ha 5 2) lq ++ wO g (ha 6) S.ov ++ wSv g hs S.svd ++ wM g hm S.mv ++ wOut g oa ol ++ wOud g ob od) H := hP
  have hD : va_D A (wT g ha (S.svd.map (fun _ => hs 0), S.ep, S.fc) ++ wQ g (ha 1) S.qv ++ wQ g (ha 2) S.bv ++ wS g (ha 3) S.sv ++ wH g (ha 4) hd S.hv ++ wP g (ha 5) S.pv ++ wL g (ha 5 2) lq ++ wO g (ha 6) S.ov ++ wSv g hs S.svd ++ wM g hm S.mv ++ wOut g oa ol ++ wOud g ob od) := hD
  unfold lawOp_13 at hf
  refine lv_aload_n hx hb dL_law_1174 rfl (lv_at hl 2 rfl) ?_
  refine lv_aload_n hx hb dL_law_1175 rfl (lv_at hl 1 rfl) ?_
  refine lv_iload hx hb dL_law_1176 (lv_at hl 0 rfl) ?_
  refine lv_iconst (v := 1) hx hb dL_law_1178 (by decide) ?_
  refine lv_iadd hx hb dL_law_1179 ?_
  refine va_sld hx hb hX hbl hbA hS h1 dL_law_1180 ?_
  refine lv_aload_n hx hb dL_law_1181 rfl (lv_at hl 1 rfl) ?_
  refine lv_iload hx hb dL_law_1182 (lv_at hl 0 rfl) ?_
  refine lv_iconst (v := 2) hx hb dL_law_1184 (by decide) ?_
  refine lv_iadd hx hb dL_law_1185 ?_
  refine va_sld hx hb hX hbl hbA hS h2 dL_law_1186 ?_
  refine lv_aload_n hx hb dL_law_1187 rfl (lv_at hl 4 rfl) ?_
  obtain ⟨k1, hg2, hf⟩ := jbB_e hf
  refine cws_i (As := [.ref (ha 0 0), .int (xs (i + 1).toNatClampNeg), .int (xs (i + 2).toNatClampNeg), .ref oa]) (rest := []) (Wr := (wQ g (ha 2) S.bv ++ wS g (ha 3) S.sv ++ wH g (ha 4) hd S.hv ++ wP g (ha 5) S.pv ++ wL g (ha 5 2) lq ++ wO g (ha 6) S.ov ++ wSv g hs S.svd ++ wM g hm S.mv ++ wOud g ob od)) (Wn := (wT g ha (S.svd.map (fun _ => hs 0), S.ep, S.fc) ++ wQ g (ha 1) S.qv ++ wQ g (ha 2) S.bv ++ wS g (ha 3) S.sv ++ wH g (ha 4) hd S.hv ++ wP g (ha 5) S.pv ++ wL g (ha 5 2) lq ++ wO g (ha 6) S.ov ++ wSv g hs S.svd ++ wM g hm S.mv ++ wOut g oa (k1.2) ++ wOud g ob od)) ⟨hx, hb, hml, hown, hts⟩ (c_L_steepestStep l hlt g ha (S.svd.map (fun _ => hs 0), S.ep, S.fc) S.qv (xs (i + 1).toNatClampNeg) (xs (i + 2).toNatClampNeg) oa ol _ hg2) (vx_cwSW 4 hts gL_law_L_steepestStep rfl rfl rfl hd_L_steepestStep.2 ⟨(Nat.le_of_ble_eq_true rfl), (Nat.le_of_ble_eq_true rfl)⟩) hK hZ hT hA hP hD hS hl.1 (wp_of fun f => by simp only [wOut, wOud, List.countP_append, List.countP_cons, List.countP_nil] <;> omega) (wp_of fun f => by simp only [wOut, wOud, List.countP_append, List.countP_cons, List.countP_nil] <;> omega) rfl rfl (Nat.le_of_ble_eq_true rfl) ⟨show cells + 1 ≤ 603072 by omega, show slots + 6 ≤ 7190634 by omega⟩ dL_law_1188 (fun H locs hP hD hS => ?_)
  refine lv_istore (lv' := [(6, .int (k1.1)), (5, .int i), (0, .ref b), (1, .ref (ha 0 0)), (2, .ref (hm 0)), (3, .ref oa), (4, .ref ob)]) hx hb dL_law_1191 hl (by decide) rfl (fun ls hl => ?_)
  refine lv_aload_n hx hb dL_law_1193 rfl (lv_at hl 4 rfl) ?_
  refine lv_aload_n hx hb dL_law_1194 rfl (lv_at hl 2 rfl) ?_
  refine lv_iload hx hb dL_law_1195 (lv_at hl 1 rfl) ?_
  refine lv_iconst (v := 1) hx hb dL_law_1197 (by decide) ?_
  refine lv_iadd hx hb dL_law_1198 ?_
  refine va_sld hx hb hX hbl hbA hS h1 dL_law_1199 ?_
  refine lv_aload_n hx hb dL_law_1200 rfl (lv_at hl 2 rfl) ?_
  refine lv_iload hx hb dL_law_1201 (lv_at hl 1 rfl) ?_
  refine lv_iconst (v := 2) hx hb dL_law_1203 (by decide) ?_
  refine lv_iadd hx hb dL_law_1204 ?_
  refine va_sld hx hb hX hbl hbA hS h2 dL_law_1205 ?_
  obtain ⟨o3, hg4, hf⟩ := jbB_e hf
  have hPr : va_P (gD g) vwCl ((wM g hm S.mv) ++ (wT g ha (S.svd.map (fun _ => hs 0), S.ep, S.fc) ++ wQ g (ha 1) S.qv ++ wQ g (ha 2) S.bv ++ wS g (ha 3) S.sv ++ wH g (ha 4) hd S.hv ++ wP g (ha 5) S.pv ++ wL g (ha 5 2) lq ++ wO g (ha 6) S.ov ++ wSv g hs S.svd ++ wOut g oa (k1.2) ++ wOud g ob od)) _ := wp_P (wp_of fun f => by simp only [wOut, wOud, List.countP_append, List.countP_cons, List.countP_nil] <;> omega) hP
  refine cpv_i (As := [.int (xs (i + 1).toNatClampNeg), .int (xs (i + 2).toNatClampNeg)]) (rest := []) (Wr := (wT g ha (S.svd.map (fun _ => hs 0), S.ep, S.fc) ++ wQ g (ha 1) S.qv ++ wQ g (ha 2) S.bv ++ wS g (ha 3) S.sv ++ wH g (ha 4) hd S.hv ++ wP g (ha 5) S.pv ++ wL g (ha 5 2) lq ++ wO g (ha 6) S.ov ++ wSv g hs S.svd ++ wOut g oa (k1.2) ++ wOud g ob od)) (Wn := (wT g ha (S.svd.map (fun _ => hs 0), S.ep, S.fc) ++ wQ g (ha 1) S.qv ++ wQ g (ha 2) S.bv ++ wS g (ha 3) S.sv ++ wH g (ha 4) hd S.hv ++ wP g (ha 5) S.pv ++ wL g (ha 5 2) lq ++ wO g (ha 6) S.ov ++ wSv g hs S.svd ++ wM g hm (o3.2) ++ wOut g oa (k1.2) ++ wOud g ob od)) ⟨hx, hb, hml, hown, hts⟩ (c_X11_steepestStep l g hm S.mv (xs (i + 1).toNatClampNeg) (xs (i + 2).toNatClampNeg) _ hg4) (cwV 2 hts gL_law_X11_steepestStep rfl rfl rfl hd_X11_steepestStep ⟨(Nat.le_of_ble_eq_true rfl), (Nat.le_of_ble_eq_true rfl)⟩) hK hZ hT hA hP hD hS hl.1 (va_recv hK hPr (ci := 10) (q0 := 0) rfl rfl) (wp_of fun f => by simp only [wOut, wOud, List.countP_append, List.countP_cons, List.countP_nil] <;> omega) (wp_of fun f => by simp only [wOut, wOud, List.countP_append, List.countP_cons, List.countP_nil] <;> omega) rfl rfl (Nat.le_of_ble_eq_true rfl) ⟨show cells + 1 + 0 ≤ 603072 by omega, show slots + 6 + 0 ≤ 7190634 by omega⟩ dL_law_1206 (fun H locs hP hD hS => ?_)
  refine lv_istore (lv' := [(7, .int (o3.1)), (6, .int (k1.1)), (5, .int i), (0, .ref b), (1, .ref (ha 0 0)), (2, .ref (hm 0)), (3, .ref oa), (4, .ref ob)]) hx hb dL_law_1209 hl (by decide) rfl (fun ls hl => ?_)
  refine lv_aload_n hx hb dL_law_1211 rfl (lv_at hl 5 rfl) ?_
  obtain ⟨o5, hg6, hf⟩ := jbB_e hf
  have hPr : va_P (gD g) vwCl ((wM g hm (o3.2)) ++ (wT g ha (S.svd.map (fun _ => hs 0), S.ep, S.fc) ++ wQ g (ha 1) S.qv ++ wQ g (ha 2) S.bv ++ wS g (ha 3) S.sv ++ wH g (ha 4) hd S.hv ++ wP g (ha 5) S.pv ++ wL g (ha 5 2) lq ++ wO g (ha 6) S.ov ++ wSv g hs S.svd ++ wOut g oa (k1.2) ++ wOud g ob od)) _ := wp_P (wp_of fun f => by simp only [wOut, wOud, List.countP_append, List.countP_cons, List.countP_nil] <;> omega) hP
  refine cpv_i (As := []) (rest := []) (Wr := (wT g ha (S.svd.map (fun _ => hs 0), S.ep, S.fc) ++ wQ g (ha 1) S.qv ++ wQ g (ha 2) S.bv ++ wS g (ha 3) S.sv ++ wH g (ha 4) hd S.hv ++ wP g (ha 5) S.pv ++ wL g (ha 5 2) lq ++ wO g (ha 6) S.ov ++ wSv g hs S.svd ++ wOut g oa (k1.2) ++ wOud g ob od)) (Wn := (wT g ha (S.svd.map (fun _ => hs 0), S.ep, S.fc) ++ wQ g (ha 1) S.qv ++ wQ g (ha 2) S.bv ++ wS g (ha 3) S.sv ++ wH g (ha 4) hd S.hv ++ wP g (ha 5) S.pv ++ wL g (ha 5 2) lq ++ wO g (ha 6) S.ov ++ wSv g hs S.svd ++ wM g hm (o3.2) ++ wOut g oa (k1.2) ++ wOud g ob od)) ⟨hx, hb, hml, hown, hts⟩ (c_X11_thrown l g hm (o3.2)  _ hg6) (cwV 0 hts gL_law_X11_thrown rfl rfl rfl hd_X11_thrown ⟨(Nat.le_of_ble_eq_true rfl), (Nat.le_of_ble_eq_true rfl)⟩) hK hZ hT hA hP hD hS hl.1 (va_recv hK hPr (ci := 10) (q0 := 0) rfl rfl) (wp_of fun f => by simp only [wOut, wOud, List.countP_append, List.countP_cons, List.countP_nil] <;> omega) (wp_of fun f => by simp only [wOut, wOud, List.countP_append, List.countP_cons, List.countP_nil] <;> omega) rfl rfl (Nat.le_of_ble_eq_true rfl) ⟨show cells + 1 + 0 ≤ 603072 by omega, show slots + 6 + 0 ≤ 7190634 by omega⟩ dL_law_1212 (fun H locs hP hD hS => ?_)
  refine lv_iload hx hb dL_law_1215 (lv_at hl 1 rfl) ?_
  refine lv_icmp_eq (tgt := 1222) hx hb dL_law_1217 (by decide) (fun hc => ?_) (fun hc => ?_)
  · have hf := jbT hf hc
    refine lv_iload hx hb dL_law_1222 (lv_at hl 1 rfl) ?_
    refine lv_if_ne (tgt := 1239) hx hb dL_law_1224 (by decide) (fun hc2 => ?_) (fun hc2 => ?_)
    · have hf := jbF hf hc2
      cases hf
      refine lv_goto (tgt := 2560) hx hb dL_law_1239 (by decide) ?_
      refine W.widen (k := cells + 60) (n := slots + 700) (by omega) (by omega) ?_
      exact kk hd hs lq _ _ _ hok hP hD hS (lv_sub hl [2, 3, 4, 5, 6, 7] rfl)
    · have hf := jbT hf hc2
      refine lv_aload_n hx hb dL_law_1227 rfl (lv_at hl 6 rfl) ?_
      refine lv_iconst (v := 0) hx hb dL_law_1228 (by decide) ?_
      have hP9 : va_P (gD g) vwCl ((wOut g oa (k1.2)) ++ (wT g ha (S.svd.map (fun _ => hs 0), S.ep, S.fc) ++ wQ g (ha 1) S.qv ++ wQ g (ha 2) S.bv ++ wS g (ha 3) S.sv ++ wH g (ha 4) hd S.hv ++ wP g (ha 5) S.pv ++ wL g (ha 5 2) lq ++ wO g (ha 6) S.ov ++ wSv g hs S.svd ++ wM g hm (o3.2) ++ wOud g ob od)) _ := wp_P (wp_of fun f => by simp only [wOut, wOud, List.countP_append, List.countP_cons, List.countP_nil] <;> omega) hP
      refine va_lald hx hb hK hP9 0 3 rfl rfl (i := 0) vp_in01 dL_law_1229 ?_
      refine lv_iload hx hb dL_law_1230 (lv_at hl 0 rfl) ?_
      obtain ⟨he, hf⟩ := jbA_e hf
      cases hf
      refine lv_i2l (v := (o3.1).toInt64) hx hb dL_law_1232 rfl ?_
      refine W.lcmp hx hb dL_law_1233 ?_
      refine lv_if_eq (tgt := 1239) hx hb dL_law_1234 (by decide) (fun hc => ?_) (fun hc => absurd (by rw [he]; exact lg_cmp_self _) hc)
      refine lv_goto (tgt := 2560) hx hb dL_law_1239 (by decide) ?_
      refine W.widen (k := cells + 60) (n := slots + 700) (by omega) (by omega) ?_
      exact kk hd hs lq _ _ _ hok hP hD hS (lv_sub hl [2, 3, 4, 5, 6, 7] rfl)
  · have hf := jbF hf hc
    cases hf
set_option maxHeartbeats 4000000 in
set_option maxRecDepth 100000 in
theorem lwc_14 {p : Program} {e : Env} {s : State} {mi : MethodId} {args : Array Value} {below : List Frame} {meth : Method} {c : Code} {g : GG} {A : Nat → Prop} {b L : Nat} {xs : Nat → Int32} {Q : State → Prop} (l : Launch) (hlt : l.stackTraces = false) (C0 : LwB p s mi args c g A b L xs)
    (ha hd : Nat → Nat → Nat) (hs hm : Nat → Nat) (lq : ListS) (oa ob : Nat) (S : Sys) (ol : Nat → Int64) (od : Nat → UInt64) (hok : lsOK lq) (i : Int32) (h1 : vp_in (i + 1) L) (h2 : vp_in (i + 2) L) (h3 : vp_in (i + 3) L) (h4 : vp_in (i + 4) L) (r : LR)
    (hf : lawOp_14 S (xs (i + 1).toNatClampNeg) (xs (i + 2).toNatClampNeg) (xs (i + 3).toNatClampNeg) (xs (i + 4).toNatClampNeg) ol od = some r) {H : Heap} {locs : List Loc} {ls : Array Slot} {cells slots : Nat} (hc9 : cells + 60 ≤ 603072) (hs9 : slots + 700 ≤ 7190634)
    (hP : va_P (gD g) vwCl (wSys g ha hd hs hm lq oa ob S ol od) H) (hD : va_D A (wSys g ha hd hs hm lq oa ob S ol od)) (hS : va_S A s.heap H locs) (hl : lv_has ls 10 [(5, .int i), (0, .ref b), (1, .ref (ha 0 0)), (2, .ref (hm 0)), (3, .ref oa), (4, .ref ob)])
    (kk : ∀ (hd : Nat → Nat → Nat) (hs : Nat → Nat) (lq : ListS) (H : Heap) (locs : List Loc) (ls : Array Slot), lsOK lq → va_P (gD g) vwCl (wSys g ha hd hs hm lq oa ob r.1 r.2.1 r.2.2) H → va_D A (wSys g ha hd hs hm lq oa ob r.1 r.2.1 r.2.2) → va_S A s.heap H locs → lv_has ls 10 [(5, .int i), (0, .ref b), (1, .ref (ha 0 0)), (2, .ref (hm 0)), (3, .ref oa), (4, .ref ob)] → W p l e room_1 s mi args below meth c H locs (cells + 60) (slots + 700) Q (F0 mi 2560 ls [])) :
    W p l e room_1 s mi args below meth c H locs cells slots Q (F0 mi 1242 ls []) := by
  obtain ⟨hx, hb, hml, hown, hts, hK, hZ, hT, hA, hX, hbl, hbA⟩ := C0
  have hP : va_P (gD g) vwCl (wT g ha (S.svd.map (fun _ => hs 0), S.ep, S.fc) ++ wQ g (ha 1) S.qv ++ wQ g (ha 2) S.bv ++ wS g (ha 3) S.sv ++ wH g (ha 4) hd S.hv ++ wP g (ha 5) S.pv ++ wL g (ha 5 2) lq ++ wO g (ha 6) S.ov ++ wSv g hs S.svd ++ wM g hm S.mv ++ wOut g oa ol ++ wOud g ob od) H := hP
  have hD : va_D A (wT g ha (S.svd.map (fun _ => hs 0), S.ep, S.fc) ++ wQ g (ha 1) S.qv ++ wQ g (ha 2) S.bv ++ wS g (ha 3) S.sv ++ wH g (ha 4) hd S.hv ++ wP g (ha 5) S.pv ++ wL g (ha 5 2) lq ++ wO g (ha 6) S.ov ++ wSv g hs S.svd ++ wM g hm S.mv ++ wOut g oa ol ++ wOud g ob od) := hD
  unfold lawOp_14 at hf
  refine lv_aload_n hx hb dL_law_1242 rfl (lv_at hl 2 rfl) ?_
  refine lv_aload_n hx hb dL_law_1243 rfl (lv_at hl 1 rfl) ?_
  refine lv_iload hx hb dL_law_1244 (lv_at hl 0 rfl) ?_
  refine lv_iconst (v := 1) hx hb dL_law_1246 (by decide) ?_
  refine lv_iadd hx hb dL_law_1247 ?_
  refine va_sld hx hb hX hbl hbA hS h1 dL_law_1248 ?_
  refine lv_aload_n hx hb dL_law_1249 rfl (lv_at hl 1 rfl) ?_
  refine lv_iload hx hb dL_law_1250 (lv_at hl 0 rfl) ?_
  refine lv_iconst (v := 2) hx hb dL_law_1252 (by decide) ?_
  refine lv_iadd hx hb dL_law_1253 ?_
  refine va_sld hx hb hX hbl hbA hS h2 dL_law_1254 ?_
  refine lv_aload_n hx hb dL_law_1255 rfl (lv_at hl 4 rfl) ?_
  obtain ⟨k1, hg2, hf⟩ := jbB_e hf
  refine cws_i (As := [.ref (ha 0 0), .int (xs (i + 1).toNatClampNeg), .int (xs (i + 2).toNatClampNeg), .ref oa]) (rest := []) (Wr := (wQ g (ha 2) S.bv ++ wS g (ha 3) S.sv ++ wH g (ha 4) hd S.hv ++ wP g (ha 5) S.pv ++ wL g (ha 5 2) lq ++ wO g (ha 6) S.ov ++ wSv g hs S.svd ++ wM g hm S.mv ++ wOud g ob od)) (Wn := (wT g ha (S.svd.map (fun _ => hs 0), S.ep, S.fc) ++ wQ g (ha 1) S.qv ++ wQ g (ha 2) S.bv ++ wS g (ha 3) S.sv ++ wH g (ha 4) hd S.hv ++ wP g (ha 5) S.pv ++ wL g (ha 5 2) lq ++ wO g (ha 6) S.ov ++ wSv g hs S.svd ++ wM g hm S.mv ++ wOut g oa (k1.2) ++ wOud g ob od)) ⟨hx, hb, hml, hown, hts⟩ (c_L_canCut l hlt g ha (S.svd.map (fun _ => hs 0), S.ep, S.fc) S.qv (xs (i + 1).toNatClampNeg) (xs (i + 2).toNatClampNeg) oa ol _ hg2) (vx_cwSW 4 hts gL_law_L_canCut rfl rfl rfl hd_L_canCut.2 ⟨(Nat.le_of_ble_eq_true rfl), (Nat.le_of_ble_eq_true rfl)⟩) hK hZ hT hA hP hD hS hl.1 (wp_of fun f => by simp only [wOut, wOud, List.countP_append, List.countP_cons, List.countP_nil] <;> omega) (wp_of fun f => by simp only [wOut, wOud, List.countP_append, List.countP_cons, List.countP_nil] <;> omega) rfl rfl (Nat.le_of_ble_eq_true rfl) ⟨show cells + 1 ≤ 603072 by omega, show slots + 6 ≤ 7190634 by omega⟩ dL_law_1256 (fun H locs hP hD hS => ?_)
  refine lv_istore (lv' := [(6, .int (k1.1)), (5, .int i), (0, .ref b), (1, .ref (ha 0 0)), (2, .ref (hm 0)), (3, .ref oa), (4, .ref ob)]) hx hb dL_law_1259 hl (by decide) rfl (fun ls hl => ?_)
  refine lv_aload_n hx hb dL_law_1261 rfl (lv_at hl 4 rfl) ?_
  refine lv_aload_n hx hb dL_law_1262 rfl (lv_at hl 2 rfl) ?_
  refine lv_iload hx hb dL_law_1263 (lv_at hl 1 rfl) ?_
  refine lv_iconst (v := 1) hx hb dL_law_1265 (by decide) ?_
  refine lv_iadd hx hb dL_law_1266 ?_
  refine va_sld hx hb hX hbl hbA hS h1 dL_law_1267 ?_
  refine lv_aload_n hx hb dL_law_1268 rfl (lv_at hl 2 rfl) ?_
  refine lv_iload hx hb dL_law_1269 (lv_at hl 1 rfl) ?_
  refine lv_iconst (v := 2) hx hb dL_law_1271 (by decide) ?_
  refine lv_iadd hx hb dL_law_1272 ?_
  refine va_sld hx hb hX hbl hbA hS h2 dL_law_1273 ?_
  obtain ⟨o3, hg4, hf⟩ := jbB_e hf
  have hPr : va_P (gD g) vwCl ((wM g hm S.mv) ++ (wT g ha (S.svd.map (fun _ => hs 0), S.ep, S.fc) ++ wQ g (ha 1) S.qv ++ wQ g (ha 2) S.bv ++ wS g (ha 3) S.sv ++ wH g (ha 4) hd S.hv ++ wP g (ha 5) S.pv ++ wL g (ha 5 2) lq ++ wO g (ha 6) S.ov ++ wSv g hs S.svd ++ wOut g oa (k1.2) ++ wOud g ob od)) _ := wp_P (wp_of fun f => by simp only [wOut, wOud, List.countP_append, List.countP_cons, List.countP_nil] <;> omega) hP
  refine cpv_i (As := [.int (xs (i + 1).toNatClampNeg), .int (xs (i + 2).toNatClampNeg)]) (rest := []) (Wr := (wT g ha (S.svd.map (fun _ => hs 0), S.ep, S.fc) ++ wQ g (ha 1) S.qv ++ wQ g (ha 2) S.bv ++ wS g (ha 3) S.sv ++ wH g (ha 4) hd S.hv ++ wP g (ha 5) S.pv ++ wL g (ha 5 2) lq ++ wO g (ha 6) S.ov ++ wSv g hs S.svd ++ wOut g oa (k1.2) ++ wOud g ob od)) (Wn := (wT g ha (S.svd.map (fun _ => hs 0), S.ep, S.fc) ++ wQ g (ha 1) S.qv ++ wQ g (ha 2) S.bv ++ wS g (ha 3) S.sv ++ wH g (ha 4) hd S.hv ++ wP g (ha 5) S.pv ++ wL g (ha 5 2) lq ++ wO g (ha 6) S.ov ++ wSv g hs S.svd ++ wM g hm (o3.2) ++ wOut g oa (k1.2) ++ wOud g ob od)) ⟨hx, hb, hml, hown, hts⟩ (c_X11_canCut l g hm S.mv (xs (i + 1).toNatClampNeg) (xs (i + 2).toNatClampNeg) _ hg4) (cwV 2 hts gL_law_X11_canCut rfl rfl rfl hd_X11_canCut ⟨(Nat.le_of_ble_eq_true rfl), (Nat.le_of_ble_eq_true rfl)⟩) hK hZ hT hA hP hD hS hl.1 (va_recv hK hPr (ci := 10) (q0 := 0) rfl rfl) (wp_of fun f => by simp only [wOut, wOud, List.countP_append, List.countP_cons, List.countP_nil] <;> omega) (wp_of fun f => by simp only [wOut, wOud, List.countP_append, List.countP_cons, List.countP_nil] <;> omega) rfl rfl (Nat.le_of_ble_eq_true rfl) ⟨show cells + 1 + 0 ≤ 603072 by omega, show slots + 6 + 0 ≤ 7190634 by omega⟩ dL_law_1274 (fun H locs hP hD hS => ?_)
  refine lv_istore (lv' := [(7, .int (o3.1)), (6, .int (k1.1)), (5, .int i), (0, .ref b), (1, .ref (ha 0 0)), (2, .ref (hm 0)), (3, .ref oa), (4, .ref ob)]) hx hb dL_law_1277 hl (by decide) rfl (fun ls hl => ?_)
  refine lv_aload_n hx hb dL_law_1279 rfl (lv_at hl 5 rfl) ?_
  obtain ⟨o5, hg6, hf⟩ := jbB_e hf
  have hPr : va_P (gD g) vwCl ((wM g hm (o3.2)) ++ (wT g ha (S.svd.map (fun _ => hs 0), S.ep, S.fc) ++ wQ g (ha 1) S.qv ++ wQ g (ha 2) S.bv ++ wS g (ha 3) S.sv ++ wH g (ha 4) hd S.hv ++ wP g (ha 5) S.pv ++ wL g (ha 5 2) lq ++ wO g (ha 6) S.ov ++ wSv g hs S.svd ++ wOut g oa (k1.2) ++ wOud g ob od)) _ := wp_P (wp_of fun f => by simp only [wOut, wOud, List.countP_append, List.countP_cons, List.countP_nil] <;> omega) hP
  refine cpv_i (As := []) (rest := []) (Wr := (wT g ha (S.svd.map (fun _ => hs 0), S.ep, S.fc) ++ wQ g (ha 1) S.qv ++ wQ g (ha 2) S.bv ++ wS g (ha 3) S.sv ++ wH g (ha 4) hd S.hv ++ wP g (ha 5) S.pv ++ wL g (ha 5 2) lq ++ wO g (ha 6) S.ov ++ wSv g hs S.svd ++ wOut g oa (k1.2) ++ wOud g ob od)) (Wn := (wT g ha (S.svd.map (fun _ => hs 0), S.ep, S.fc) ++ wQ g (ha 1) S.qv ++ wQ g (ha 2) S.bv ++ wS g (ha 3) S.sv ++ wH g (ha 4) hd S.hv ++ wP g (ha 5) S.pv ++ wL g (ha 5 2) lq ++ wO g (ha 6) S.ov ++ wSv g hs S.svd ++ wM g hm (o3.2) ++ wOut g oa (k1.2) ++ wOud g ob od)) ⟨hx, hb, hml, hown, hts⟩ (c_X11_thrown l g hm (o3.2)  _ hg6) (cwV 0 hts gL_law_X11_thrown rfl rfl rfl hd_X11_thrown ⟨(Nat.le_of_ble_eq_true rfl), (Nat.le_of_ble_eq_true rfl)⟩) hK hZ hT hA hP hD hS hl.1 (va_recv hK hPr (ci := 10) (q0 := 0) rfl rfl) (wp_of fun f => by simp only [wOut, wOud, List.countP_append, List.countP_cons, List.countP_nil] <;> omega) (wp_of fun f => by simp only [wOut, wOud, List.countP_append, List.countP_cons, List.countP_nil] <;> omega) rfl rfl (Nat.le_of_ble_eq_true rfl) ⟨show cells + 1 + 0 ≤ 603072 by omega, show slots + 6 + 0 ≤ 7190634 by omega⟩ dL_law_1280 (fun H locs hP hD hS => ?_)
  refine lv_iload hx hb dL_law_1283 (lv_at hl 1 rfl) ?_
  refine lv_icmp_eq (tgt := 1290) hx hb dL_law_1285 (by decide) (fun hc => ?_) (fun hc => ?_)
  · have hf := jbT hf hc
    refine lv_iload hx hb dL_law_1290 (lv_at hl 1 rfl) ?_
    refine lv_if_ne (tgt := 1314) hx hb dL_law_1292 (by decide) (fun hc2 => ?_) (fun hc2 => ?_)
    · have hf := jbF hf hc2
      cases hf
      refine lv_goto (tgt := 2560) hx hb dL_law_1314 (by decide) ?_
      refine W.widen (k := cells + 60) (n := slots + 700) (by omega) (by omega) ?_
      exact kk hd hs lq _ _ _ hok hP hD hS (lv_sub hl [2, 3, 4, 5, 6, 7] rfl)
    · have hf := jbT hf hc2
      refine lv_aload_n hx hb dL_law_1295 rfl (lv_at hl 6 rfl) ?_
      refine lv_iconst (v := 0) hx hb dL_law_1296 (by decide) ?_
      have hP9 : va_P (gD g) vwCl ((wOut g oa (k1.2)) ++ (wT g ha (S.svd.map (fun _ => hs 0), S.ep, S.fc) ++ wQ g (ha 1) S.qv ++ wQ g (ha 2) S.bv ++ wS g (ha 3) S.sv ++ wH g (ha 4) hd S.hv ++ wP g (ha 5) S.pv ++ wL g (ha 5 2) lq ++ wO g (ha 6) S.ov ++ wSv g hs S.svd ++ wM g hm (o3.2) ++ wOud g ob od)) _ := wp_P (wp_of fun f => by simp only [wOut, wOud, List.countP_append, List.countP_cons, List.countP_nil] <;> omega) hP
      refine va_lald hx hb hK hP9 0 3 rfl rfl (i := 0) vp_in01 dL_law_1297 ?_
      refine lv_iload hx hb dL_law_1298 (lv_at hl 0 rfl) ?_
      obtain ⟨he, hf⟩ := jbA_e hf
      cases hf
      refine lv_if_eq (tgt := 1307) hx hb dL_law_1300 (by decide) (fun hc3 => ?_) (fun hc3 => ?_)
      · rw [if_pos hc3] at he
        refine lv_lconst (v := 0) hx hb dL_law_1307 (by decide) ?_
        refine W.lcmp hx hb dL_law_1308 ?_
        refine lv_if_eq (tgt := 1314) hx hb dL_law_1309 (by decide) (fun hc => ?_) (fun hc => absurd (by rw [he]; exact lg_cmp_self _) hc)
        refine lv_goto (tgt := 2560) hx hb dL_law_1314 (by decide) ?_
        refine W.widen (k := cells + 60) (n := slots + 700) (by omega) (by omega) ?_
        exact kk hd hs lq _ _ _ hok hP hD hS (lv_sub hl [2, 3, 4, 5, 6, 7] rfl)
      · rw [if_neg hc3] at he
        refine lv_lconst (v := 1) hx hb dL_law_1303 (by decide) ?_
        refine lv_goto (tgt := 1308) hx hb dL_law_1304 (by decide) ?_
        refine W.lcmp hx hb dL_law_1308 ?_
        refine lv_if_eq (tgt := 1314) hx hb dL_law_1309 (by decide) (fun hc => ?_) (fun hc => absurd (by rw [he]; exact lg_cmp_self _) hc)
        refine lv_goto (tgt := 2560) hx hb dL_law_1314 (by decide) ?_
        refine W.widen (k := cells + 60) (n := slots + 700) (by omega) (by omega) ?_
        exact kk hd hs lq _ _ _ hok hP hD hS (lv_sub hl [2, 3, 4, 5, 6, 7] rfl)
  · have hf := jbF hf hc
    cases hf
set_option maxHeartbeats 4000000 in
set_option maxRecDepth 100000 in
theorem lwc_15 {p : Program} {e : Env} {s : State} {mi : MethodId} {args : Array Value} {below : List Frame} {meth : Method} {c : Code} {g : GG} {A : Nat → Prop} {b L : Nat} {xs : Nat → Int32} {Q : State → Prop} (l : Launch) (hlt : l.stackTraces = false) (C0 : LwB p s mi args c g A b L xs)
    (ha hd : Nat → Nat → Nat) (hs hm : Nat → Nat) (lq : ListS) (oa ob : Nat) (S : Sys) (ol : Nat → Int64) (od : Nat → UInt64) (hok : lsOK lq) (i : Int32) (h1 : vp_in (i + 1) L) (h2 : vp_in (i + 2) L) (h3 : vp_in (i + 3) L) (h4 : vp_in (i + 4) L) (r : LR)
    (hf : lawOp_15 S (xs (i + 1).toNatClampNeg) (xs (i + 2).toNatClampNeg) (xs (i + 3).toNatClampNeg) (xs (i + 4).toNatClampNeg) ol od = some r) {H : Heap} {locs : List Loc} {ls : Array Slot} {cells slots : Nat} (hc9 : cells + 60 ≤ 603072) (hs9 : slots + 700 ≤ 7190634)
    (hP : va_P (gD g) vwCl (wSys g ha hd hs hm lq oa ob S ol od) H) (hD : va_D A (wSys g ha hd hs hm lq oa ob S ol od)) (hS : va_S A s.heap H locs) (hl : lv_has ls 10 [(5, .int i), (0, .ref b), (1, .ref (ha 0 0)), (2, .ref (hm 0)), (3, .ref oa), (4, .ref ob)])
    (kk : ∀ (hd : Nat → Nat → Nat) (hs : Nat → Nat) (lq : ListS) (H : Heap) (locs : List Loc) (ls : Array Slot), lsOK lq → va_P (gD g) vwCl (wSys g ha hd hs hm lq oa ob r.1 r.2.1 r.2.2) H → va_D A (wSys g ha hd hs hm lq oa ob r.1 r.2.1 r.2.2) → va_S A s.heap H locs → lv_has ls 10 [(5, .int i), (0, .ref b), (1, .ref (ha 0 0)), (2, .ref (hm 0)), (3, .ref oa), (4, .ref ob)] → W p l e room_1 s mi args below meth c H locs (cells + 60) (slots + 700) Q (F0 mi 2560 ls [])) :
    W p l e room_1 s mi args below meth c H locs cells slots Q (F0 mi 1317 ls []) := by
  obtain ⟨hx, hb, hml, hown, hts, hK, hZ, hT, hA, hX, hbl, hbA⟩ := C0
  have hP : va_P (gD g) vwCl (wT g ha (S.svd.map (fun _ => hs 0), S.ep, S.fc) ++ wQ g (ha 1) S.qv ++ wQ g (ha 2) S.bv ++ wS g (ha 3) S.sv ++ wH g (ha 4) hd S.hv ++ wP g (ha 5) S.pv ++ wL g (ha 5 2) lq ++ wO g (ha 6) S.ov ++ wSv g hs S.svd ++ wM g hm S.mv ++ wOut g oa ol ++ wOud g ob od) H := hP
  have hD : va_D A (wT g ha (S.svd.map (fun _ => hs 0), S.ep, S.fc) ++ wQ g (ha 1) S.qv ++ wQ g (ha 2) S.bv ++ wS g (ha 3) S.sv ++ wH g (ha 4) hd S.hv ++ wP g (ha 5) S.pv ++ wL g (ha 5 2) lq ++ wO g (ha 6) S.ov ++ wSv g hs S.svd ++ wM g hm S.mv ++ wOut g oa ol ++ wOud g ob od) := hD
  unfold lawOp_15 at hf
  refine lv_aload_n hx hb dL_law_1317 rfl (lv_at hl 2 rfl) ?_
  obtain ⟨o2, hg3, hf⟩ := jbB_e hf
  have hPr : va_P (gD g) vwCl ((wT g ha (S.svd.map (fun _ => hs 0), S.ep, S.fc) ++ wQ g (ha 1) S.qv) ++ (wQ g (ha 2) S.bv ++ wS g (ha 3) S.sv ++ wH g (ha 4) hd S.hv ++ wP g (ha 5) S.pv ++ wL g (ha 5 2) lq ++ wO g (ha 6) S.ov ++ wSv g hs S.svd ++ wM g hm S.mv ++ wOut g oa ol ++ wOud g ob od)) _ := wp_P (wp_of fun f => by simp only [wOut, wOud, List.countP_append, List.countP_cons, List.countP_nil] <;> omega) hP
  refine cpv_i (As := []) (rest := []) (Wr := (wQ g (ha 2) S.bv ++ wS g (ha 3) S.sv ++ wH g (ha 4) hd S.hv ++ wP g (ha 5) S.pv ++ wL g (ha 5 2) lq ++ wO g (ha 6) S.ov ++ wSv g hs S.svd ++ wM g hm S.mv ++ wOut g oa ol ++ wOud g ob od)) (Wn := (wT g ha (S.svd.map (fun _ => hs 0), S.ep, S.fc) ++ wQ g (ha 1) S.qv ++ wQ g (ha 2) S.bv ++ wS g (ha 3) S.sv ++ wH g (ha 4) hd S.hv ++ wP g (ha 5) S.pv ++ wL g (ha 5 2) lq ++ wO g (ha 6) S.ov ++ wSv g hs S.svd ++ wM g hm S.mv ++ wOut g oa ol ++ wOud g ob od)) ⟨hx, hb, hml, hown, hts⟩ (c_X10_cuttableCells l hlt g ha (S.svd.map (fun _ => hs 0), S.ep, S.fc) S.qv _ hg3) (cwV 0 hts gL_law_X10_cuttableCells rfl rfl rfl hd_X10_cuttableCells ⟨(Nat.le_of_ble_eq_true rfl), (Nat.le_of_ble_eq_true rfl)⟩) hK hZ hT hA hP hD hS hl.1 (va_recv hK hPr (ci := 9) (q0 := 0) rfl rfl) (wp_of fun f => by simp only [wOut, wOud, List.countP_append, List.countP_cons, List.countP_nil] <;> omega) (wp_of fun f => by simp only [wOut, wOud, List.countP_append, List.countP_cons, List.countP_nil] <;> omega) rfl rfl (Nat.le_of_ble_eq_true rfl) ⟨show cells + 0 ≤ 603072 by omega, show slots + 0 ≤ 7190634 by omega⟩ dL_law_1318 (fun H locs hP hD hS => ?_)
  refine lv_aload_n hx hb dL_law_1321 rfl (lv_at hl 3 rfl) ?_
  obtain ⟨o4, hg5, hf⟩ := jbB_e hf
  have hPr : va_P (gD g) vwCl ((wM g hm S.mv) ++ (wT g ha (S.svd.map (fun _ => hs 0), S.ep, S.fc) ++ wQ g (ha 1) S.qv ++ wQ g (ha 2) S.bv ++ wS g (ha 3) S.sv ++ wH g (ha 4) hd S.hv ++ wP g (ha 5) S.pv ++ wL g (ha 5 2) lq ++ wO g (ha 6) S.ov ++ wSv g hs S.svd ++ wOut g oa ol ++ wOud g ob od)) _ := wp_P (wp_of fun f => by simp only [wOut, wOud, List.countP_append, List.countP_cons, List.countP_nil] <;> omega) hP
  refine cpv_i (As := []) (rest := [.int o2]) (Wr := (wT g ha (S.svd.map (fun _ => hs 0), S.ep, S.fc) ++ wQ g (ha 1) S.qv ++ wQ g (ha 2) S.bv ++ wS g (ha 3) S.sv ++ wH g (ha 4) hd S.hv ++ wP g (ha 5) S.pv ++ wL g (ha 5 2) lq ++ wO g (ha 6) S.ov ++ wSv g hs S.svd ++ wOut g oa ol ++ wOud g ob od)) (Wn := (wT g ha (S.svd.map (fun _ => hs 0), S.ep, S.fc) ++ wQ g (ha 1) S.qv ++ wQ g (ha 2) S.bv ++ wS g (ha 3) S.sv ++ wH g (ha 4) hd S.hv ++ wP g (ha 5) S.pv ++ wL g (ha 5 2) lq ++ wO g (ha 6) S.ov ++ wSv g hs S.svd ++ wM g hm (o4.2) ++ wOut g oa ol ++ wOud g ob od)) ⟨hx, hb, hml, hown, hts⟩ (c_X11_cuttableCells l g hm S.mv  _ hg5) (cwV 0 hts gL_law_X11_cuttableCells rfl rfl rfl hd_X11_cuttableCells ⟨(Nat.le_of_ble_eq_true rfl), (Nat.le_of_ble_eq_true rfl)⟩) hK hZ hT hA hP hD hS hl.1 (va_recv hK hPr (ci := 10) (q0 := 0) rfl rfl) (wp_of fun f => by simp only [wOut, wOud, List.countP_append, List.countP_cons, List.countP_nil] <;> omega) (wp_of fun f => by simp only [wOut, wOud, List.countP_append, List.countP_cons, List.countP_nil] <;> omega) rfl rfl (Nat.le_of_ble_eq_true rfl) ⟨show cells + 0 ≤ 603072 by omega, show slots + 0 ≤ 7190634 by omega⟩ dL_law_1322 (fun H locs hP hD hS => ?_)
  refine lv_icmp_eq (tgt := 2560) hx hb dL_law_1325 (by decide) (fun hc => ?_) (fun hc => ?_)
  · have hf := jbT hf hc
    cases hf
    refine W.widen (k := cells + 60) (n := slots + 700) (by omega) (by omega) ?_
    exact kk hd hs lq _ _ _ hok hP hD hS (lv_sub hl [0, 1, 2, 3, 4, 5] rfl)
  · have hf := jbF hf hc
    cases hf
