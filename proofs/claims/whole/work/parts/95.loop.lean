theorem and63 (x : Int32) : ∃ k, k < 64 ∧ x &&& 63 = nI k := by
  refine ⟨(x &&& 63).toBitVec.toNat, ?_, ?_⟩
  · rw [Int32.toBitVec_and, BitVec.toNat_and]
    exact Nat.lt_of_le_of_lt Nat.and_le_right (by decide)
  · apply Int32.toBitVec_inj.mp
    show _ = (Int32.ofNat _).toBitVec
    rw [Int32.toBitVec_ofNat']
    simp
theorem law_five {i L : Nat} (hi : i < 2 ^ 30) (hL : L ≤ 2560) : nI L - 5 < nI i ↔ L < i + 5 := by
  have h5 : (nI L - 5).toInt = (L : Int) - 5 := by
    rw [Int32.toInt_sub, nI_toInt (by omega), show (5 : Int32).toInt = 5 from rfl, Int.bmod_eq_of_le (by omega) (by omega)]
  rw [Int32.lt_iff_toInt_lt, h5, nI_toInt (by omega)]
  omega
set_option maxHeartbeats 8000000 in
set_option maxRecDepth 100000 in
theorem law_loop {p : Program} (l : Launch) (hlt : l.stackTraces = false) {e : Env} {s : State} {mi : MethodId} {below : List Frame} {meth : Method} {c : Code} {b L : Nat} {xs : Nat → Int32} (hL : L ≤ 2560) (hr : meth.sig.returnType = ret) (hlocks : meth.locks = false) {g : GG}
    (C0 : LwB p s mi #[Value.ref b] c g (fun q : Nat => s.heap.size ≤ q) b L xs) (Rel : Nat → Sys → Prop) (hB : ∀ t S, t < 512 → Rel t S → ∀ k, k < 64 → ∀ a1 a2 a3 a4 ol od, ∃ r, lawOp k S a1 a2 a3 a4 ol od = some r ∧ Rel (t + 1) r.1)
    (ha : Nat → Nat → Nat) (hm : Nat → Nat) (oa ob : Nat) : ∀ (n t : Nat), t ≤ 512 → L + 5 ≤ 5 * t + 5 * n → ∀ (x5 : Int32) (hd : Nat → Nat → Nat) (hs : Nat → Nat) (lq : ListS) (S : Sys) (ol : Nat → Int64) (od : Nat → UInt64) (H : Heap) (locs : List Loc) (ls : Array Slot), x5 = nI (5 * t) → lsOK lq → Rel t S →
      va_P (gD g) vwCl (wSys g ha hd hs hm lq oa ob S ol od) H → va_D (fun q : Nat => s.heap.size ≤ q) (wSys g ha hd hs hm lq oa ob S ol od) → va_S (fun q : Nat => s.heap.size ≤ q) s.heap H locs → lv_has ls 10 [(5, .int x5), (0, .ref b), (1, .ref (ha 0 0)), (2, .ref (hm 0)), (3, .ref oa), (4, .ref ob)] →
      W p l e room_1 s mi #[Value.ref b] below meth c H locs (100 + 60 * t) (5000 + 700 * t) (lw_Z below #[Value.ref b] s) (F0 mi 28 ls []) := by
  obtain ⟨hx, hb, hml, hown, hts, hK, hZ, hT, hA, hX, hbl, hbA⟩ := id C0
  intro n
  induction n with
  | zero =>
    intro t ht hin x5 hd hs lq S ol od H locs ls e5 hok hrel hP hD hS hl
    refine lv_iload hx hb dL_law_28 (lv_at hl 0 rfl) ?_
    refine lv_aload_n hx hb dL_law_30 rfl (lv_at hl 1 rfl) ?_
    refine va_slen hx hb hX hbl hbA hS dL_law_31 ?_
    refine lv_iconst (v := 5) hx hb dL_law_32 (by decide) ?_
    refine lv_isub hx hb dL_law_33 ?_
    refine lv_icmp_gt (tgt := 2566) hx hb dL_law_34 (by decide) (fun hc => ?_) (fun hc => absurd (show nI L - 5 < x5 by rw [e5]; exact (law_five (by omega) hL).mpr (by omega)) hc)
    refine lv_iconst (v := 1) hx hb dL_law_2566 (by decide) ?_
    refine va_forget (fun q hq => hS.2.2 q hq) ?_
    refine W.widen (k := 603072) (n := 7190634) (by omega) (by omega) ?_
    exact lw_ret (d0 := s.drawn) (Drawn.sameBut.refl s.drawn lw_cs) hx hb hr hlocks dL_law_2567
  | succ n ih =>
    intro t ht hin x5 hd hs lq S ol od H locs ls e5 hok hrel hP hD hS hl
    refine lv_iload hx hb dL_law_28 (lv_at hl 0 rfl) ?_
    refine lv_aload_n hx hb dL_law_30 rfl (lv_at hl 1 rfl) ?_
    refine va_slen hx hb hX hbl hbA hS dL_law_31 ?_
    refine lv_iconst (v := 5) hx hb dL_law_32 (by decide) ?_
    refine lv_isub hx hb dL_law_33 ?_
    refine lv_icmp_gt (tgt := 2566) hx hb dL_law_34 (by decide) (fun hc => ?_) (fun hc => ?_)
    · refine lv_iconst (v := 1) hx hb dL_law_2566 (by decide) ?_
      refine va_forget (fun q hq => hS.2.2 q hq) ?_
      refine W.widen (k := 603072) (n := 7190634) (by omega) (by omega) ?_
      exact lw_ret (d0 := s.drawn) (Drawn.sameBut.refl s.drawn lw_cs) hx hb hr hlocks dL_law_2567
    have hlt5 : 5 * t + 5 ≤ L := by
      have h9 : ¬ L < 5 * t + 5 := fun h => hc (show nI L - 5 < x5 by rw [e5]; exact (law_five (by omega) hL).mpr h)
      omega
    have ht5 : t < 512 := by omega
    subst e5
    have hin0 : vp_in (nI (5 * t)) L := nI_in (by omega) (by omega)
    have hin1 : vp_in (nI (5 * t) + 1) L := by rw [nI_1]; exact nI_in (by omega) (by omega)
    have hin2 : vp_in (nI (5 * t) + 2) L := by rw [show (2 : Int32) = nI 2 from rfl, nI_add]; exact nI_in (by omega) (by omega)
    have hin3 : vp_in (nI (5 * t) + 3) L := by rw [show (3 : Int32) = nI 3 from rfl, nI_add]; exact nI_in (by omega) (by omega)
    have hin4 : vp_in (nI (5 * t) + 4) L := by rw [show (4 : Int32) = nI 4 from rfl, nI_add]; exact nI_in (by omega) (by omega)
    refine lv_aload_n hx hb dL_law_37 rfl (lv_at hl 1 rfl) ?_
    refine lv_iload hx hb dL_law_38 (lv_at hl 0 rfl) ?_
    refine va_sld hx hb hX hbl hbA hS hin0 dL_law_40 ?_
    refine lv_bipush (v := 63) hx hb dL_law_41 (by decide) ?_
    refine lv_iand hx hb dL_law_43 ?_
    obtain ⟨k, hk, ek⟩ := and63 (xs (nI (5 * t)).toNatClampNeg)
    rw [ek]
    obtain ⟨r, hf, hrel2⟩ := hB t S ht5 hrel k hk (xs (nI (5 * t) + 1).toNatClampNeg) (xs (nI (5 * t) + 2).toNatClampNeg) (xs (nI (5 * t) + 3).toNatClampNeg) (xs (nI (5 * t) + 4).toNatClampNeg) ol od
    have hnext : ∀ (hd : Nat → Nat → Nat) (hs : Nat → Nat) (lq : ListS) (H : Heap) (locs : List Loc) (ls : Array Slot), lsOK lq → va_P (gD g) vwCl (wSys g ha hd hs hm lq oa ob r.1 r.2.1 r.2.2) H → va_D (fun q : Nat => s.heap.size ≤ q) (wSys g ha hd hs hm lq oa ob r.1 r.2.1 r.2.2) → va_S (fun q : Nat => s.heap.size ≤ q) s.heap H locs → lv_has ls 10 [(5, .int (nI (5 * t))), (0, .ref b), (1, .ref (ha 0 0)), (2, .ref (hm 0)), (3, .ref oa), (4, .ref ob)] → W p l e room_1 s mi #[Value.ref b] below meth c H locs (100 + 60 * t + 60) (5000 + 700 * t + 700) (lw_Z below #[Value.ref b] s) (F0 mi 2560 ls []) := by
      intro hd hs lq H locs ls hok hP hD hS hl
      refine lv_iinc (v := nI (5 * (t + 1))) (lv' := [(5, .int (nI (5 * (t + 1)))), (0, .ref b), (1, .ref (ha 0 0)), (2, .ref (hm 0)), (3, .ref oa), (4, .ref ob)]) hx hb dL_law_2560 hl (k := 0) rfl (by rw [show 5 * (t + 1) = 5 * t + 5 by omega, ← nI_add]; rfl) (by decide) rfl (fun ls hl => ?_)
      refine lv_goto (tgt := 28) hx hb dL_law_2563 (by decide) ?_
      refine W.widen (k := 100 + 60 * (t + 1)) (n := 5000 + 700 * (t + 1)) (by omega) (by omega) ?_
      exact ih (t + 1) (by omega) (by omega) _ hd hs lq r.1 r.2.1 r.2.2 H locs ls rfl hok hrel2 hP hD hS hl
    by_cases hk45 : k < 45
    · rcases (show k = 0 ∨ k = 1 ∨ k = 2 ∨ k = 3 ∨ k = 4 ∨ k = 5 ∨ k = 6 ∨ k = 7 ∨ k = 8 ∨ k = 9 ∨ k = 10 ∨ k = 11 ∨ k = 12 ∨ k = 13 ∨ k = 14 ∨ k = 15 ∨ k = 16 ∨ k = 17 ∨ k = 18 ∨ k = 19 ∨ k = 20 ∨ k = 21 ∨ k = 22 ∨ k = 23 ∨ k = 24 ∨ k = 25 ∨ k = 26 ∨ k = 27 ∨ k = 28 ∨ k = 29 ∨ k = 30 ∨ k = 31 ∨ k = 32 ∨ k = 33 ∨ k = 34 ∨ k = 35 ∨ k = 36 ∨ k = 37 ∨ k = 38 ∨ k = 39 ∨ k = 40 ∨ k = 41 ∨ k = 42 ∨ k = 43 ∨ k = 44 by omega) with rfl | rfl | rfl | rfl | rfl | rfl | rfl | rfl | rfl | rfl | rfl | rfl | rfl | rfl | rfl | rfl | rfl | rfl | rfl | rfl | rfl | rfl | rfl | rfl | rfl | rfl | rfl | rfl | rfl | rfl | rfl | rfl | rfl | rfl | rfl | rfl | rfl | rfl | rfl | rfl | rfl | rfl | rfl | rfl | rfl
      · refine lv_tableIn (off := 196) (tgt := 240) hx hb dL_law_44 (by rw [nI_toInt (by decide)]; decide) (by rw [nI_toInt (by decide)]; decide) (by rw [nI_toInt (by decide)]; decide) (by decide) ?_
        exact lwc_0 l hlt C0 ha hd hs hm lq oa ob S ol od hok (nI (5 * t)) hin1 hin2 hin3 hin4 r hf (by omega) (by omega) hP hD hS hl hnext
      · refine lv_tableIn (off := 276) (tgt := 320) hx hb dL_law_44 (by rw [nI_toInt (by decide)]; decide) (by rw [nI_toInt (by decide)]; decide) (by rw [nI_toInt (by decide)]; decide) (by decide) ?_
        exact lwc_1 l hlt C0 ha hd hs hm lq oa ob S ol od hok (nI (5 * t)) hin1 hin2 hin3 hin4 r hf (by omega) (by omega) hP hD hS hl hnext
      · refine lv_tableIn (off := 344) (tgt := 388) hx hb dL_law_44 (by rw [nI_toInt (by decide)]; decide) (by rw [nI_toInt (by decide)]; decide) (by rw [nI_toInt (by decide)]; decide) (by decide) ?_
        exact lwc_2 l hlt C0 ha hd hs hm lq oa ob S ol od hok (nI (5 * t)) hin1 hin2 hin3 hin4 r hf (by omega) (by omega) hP hD hS hl hnext
      · refine lv_tableIn (off := 412) (tgt := 456) hx hb dL_law_44 (by rw [nI_toInt (by decide)]; decide) (by rw [nI_toInt (by decide)]; decide) (by rw [nI_toInt (by decide)]; decide) (by decide) ?_
        exact lwc_3 l hlt C0 ha hd hs hm lq oa ob S ol od hok (nI (5 * t)) hin1 hin2 hin3 hin4 r hf (by omega) (by omega) hP hD hS hl hnext
      · refine lv_tableIn (off := 487) (tgt := 531) hx hb dL_law_44 (by rw [nI_toInt (by decide)]; decide) (by rw [nI_toInt (by decide)]; decide) (by rw [nI_toInt (by decide)]; decide) (by decide) ?_
        exact lwc_4 l hlt C0 ha hd hs hm lq oa ob S ol od hok (nI (5 * t)) hin1 hin2 hin3 hin4 r hf (by omega) (by omega) hP hD hS hl hnext
      · refine lv_tableIn (off := 543) (tgt := 587) hx hb dL_law_44 (by rw [nI_toInt (by decide)]; decide) (by rw [nI_toInt (by decide)]; decide) (by rw [nI_toInt (by decide)]; decide) (by decide) ?_
        exact lwc_5 l hlt C0 ha hd hs hm lq oa ob S ol od hok (nI (5 * t)) hin1 hin2 hin3 hin4 r hf (by omega) (by omega) hP hD hS hl hnext
      · refine lv_tableIn (off := 635) (tgt := 679) hx hb dL_law_44 (by rw [nI_toInt (by decide)]; decide) (by rw [nI_toInt (by decide)]; decide) (by rw [nI_toInt (by decide)]; decide) (by decide) ?_
        exact lwc_6 l hlt C0 ha hd hs hm lq oa ob S ol od hok (nI (5 * t)) hin1 hin2 hin3 hin4 r hf (by omega) (by omega) hP hD hS hl hnext
      · refine lv_tableIn (off := 715) (tgt := 759) hx hb dL_law_44 (by rw [nI_toInt (by decide)]; decide) (by rw [nI_toInt (by decide)]; decide) (by rw [nI_toInt (by decide)]; decide) (by decide) ?_
        exact lwc_7 l hlt C0 ha hd hs hm lq oa ob S ol od hok (nI (5 * t)) hin1 hin2 hin3 hin4 r hf (by omega) (by omega) hP hD hS hl hnext
      · refine lv_tableIn (off := 783) (tgt := 827) hx hb dL_law_44 (by rw [nI_toInt (by decide)]; decide) (by rw [nI_toInt (by decide)]; decide) (by rw [nI_toInt (by decide)]; decide) (by decide) ?_
        exact lwc_8 l hlt C0 ha hd hs hm lq oa ob S ol od hok (nI (5 * t)) hin1 hin2 hin3 hin4 r hf (by omega) (by omega) hP hD hS hl hnext
      · refine lv_tableIn (off := 851) (tgt := 895) hx hb dL_law_44 (by rw [nI_toInt (by decide)]; decide) (by rw [nI_toInt (by decide)]; decide) (by rw [nI_toInt (by decide)]; decide) (by decide) ?_
        exact lwc_9 l hlt C0 ha hd hs hm lq oa ob S ol od hok (nI (5 * t)) hin1 hin2 hin3 hin4 r hf (by omega) (by omega) hP hD hS hl hnext
      · refine lv_tableIn (off := 919) (tgt := 963) hx hb dL_law_44 (by rw [nI_toInt (by decide)]; decide) (by rw [nI_toInt (by decide)]; decide) (by rw [nI_toInt (by decide)]; decide) (by decide) ?_
        exact lwc_10 l hlt C0 ha hd hs hm lq oa ob S ol od hok (nI (5 * t)) hin1 hin2 hin3 hin4 r hf (by omega) (by omega) hP hD hS hl hnext
      · refine lv_tableIn (off := 994) (tgt := 1038) hx hb dL_law_44 (by rw [nI_toInt (by decide)]; decide) (by rw [nI_toInt (by decide)]; decide) (by rw [nI_toInt (by decide)]; decide) (by decide) ?_
        exact lwc_11 l hlt C0 ha hd hs hm lq oa ob S ol od hok (nI (5 * t)) hin1 hin2 hin3 hin4 r hf (by omega) (by omega) hP hD hS hl hnext
      · refine lv_tableIn (off := 1062) (tgt := 1106) hx hb dL_law_44 (by rw [nI_toInt (by decide)]; decide) (by rw [nI_toInt (by decide)]; decide) (by rw [nI_toInt (by decide)]; decide) (by decide) ?_
        exact lwc_12 l hlt C0 ha hd hs hm lq oa ob S ol od hok (nI (5 * t)) hin1 hin2 hin3 hin4 r hf (by omega) (by omega) hP hD hS hl hnext
      · refine lv_tableIn (off := 1130) (tgt := 1174) hx hb dL_law_44 (by rw [nI_toInt (by decide)]; decide) (by rw [nI_toInt (by decide)]; decide) (by rw [nI_toInt (by decide)]; decide) (by decide) ?_
        exact lwc_13 l hlt C0 ha hd hs hm lq oa ob S ol od hok (nI (5 * t)) hin1 hin2 hin3 hin4 r hf (by omega) (by omega) hP hD hS hl hnext
      · refine lv_tableIn (off := 1198) (tgt := 1242) hx hb dL_law_44 (by rw [nI_toInt (by decide)]; decide) (by rw [nI_toInt (by decide)]; decide) (by rw [nI_toInt (by decide)]; decide) (by decide) ?_
        exact lwc_14 l hlt C0 ha hd hs hm lq oa ob S ol od hok (nI (5 * t)) hin1 hin2 hin3 hin4 r hf (by omega) (by omega) hP hD hS hl hnext
      · refine lv_tableIn (off := 1273) (tgt := 1317) hx hb dL_law_44 (by rw [nI_toInt (by decide)]; decide) (by rw [nI_toInt (by decide)]; decide) (by rw [nI_toInt (by decide)]; decide) (by decide) ?_
        exact lwc_15 l hlt C0 ha hd hs hm lq oa ob S ol od hok (nI (5 * t)) hin1 hin2 hin3 hin4 r hf (by omega) (by omega) hP hD hS hl hnext
      · refine lv_tableIn (off := 1286) (tgt := 1330) hx hb dL_law_44 (by rw [nI_toInt (by decide)]; decide) (by rw [nI_toInt (by decide)]; decide) (by rw [nI_toInt (by decide)]; decide) (by decide) ?_
        exact lwc_16 l hlt C0 ha hd hs hm lq oa ob S ol od hok (nI (5 * t)) hin1 hin2 hin3 hin4 r hf (by omega) (by omega) hP hD hS hl hnext
      · refine lv_tableIn (off := 1342) (tgt := 1386) hx hb dL_law_44 (by rw [nI_toInt (by decide)]; decide) (by rw [nI_toInt (by decide)]; decide) (by rw [nI_toInt (by decide)]; decide) (by decide) ?_
        exact lwc_17 l hlt C0 ha hd hs hm lq oa ob S ol od hok (nI (5 * t)) hin1 hin2 hin3 hin4 r hf (by omega) (by omega) hP hD hS hl hnext
      · refine lv_tableIn (off := 1422) (tgt := 1466) hx hb dL_law_44 (by rw [nI_toInt (by decide)]; decide) (by rw [nI_toInt (by decide)]; decide) (by rw [nI_toInt (by decide)]; decide) (by decide) ?_
        exact lwc_18 l hlt C0 ha hd hs hm lq oa ob S ol od hok (nI (5 * t)) hin1 hin2 hin3 hin4 r hf (by omega) (by omega) hP hD hS hl hnext
      · refine lv_tableIn (off := 1502) (tgt := 1546) hx hb dL_law_44 (by rw [nI_toInt (by decide)]; decide) (by rw [nI_toInt (by decide)]; decide) (by rw [nI_toInt (by decide)]; decide) (by decide) ?_
        exact lwc_19 l hlt C0 ha hd hs hm lq oa ob S ol od hok (nI (5 * t)) hin1 hin2 hin3 hin4 r hf (by omega) (by omega) hP hD hS hl hnext
      · refine lv_tableIn (off := 1570) (tgt := 1614) hx hb dL_law_44 (by rw [nI_toInt (by decide)]; decide) (by rw [nI_toInt (by decide)]; decide) (by rw [nI_toInt (by decide)]; decide) (by decide) ?_
        exact lwc_20 l hlt C0 ha hd hs hm lq oa ob S ol od hok (nI (5 * t)) hin1 hin2 hin3 hin4 r hf (by omega) (by omega) hP hD hS hl hnext
      · refine lv_tableIn (off := 1638) (tgt := 1682) hx hb dL_law_44 (by rw [nI_toInt (by decide)]; decide) (by rw [nI_toInt (by decide)]; decide) (by rw [nI_toInt (by decide)]; decide) (by decide) ?_
        exact lwc_21 l hlt C0 ha hd hs hm lq oa ob S ol od hok (nI (5 * t)) hin1 hin2 hin3 hin4 r hf (by omega) (by omega) hP hD hS hl hnext
      · refine lv_tableIn (off := 1651) (tgt := 1695) hx hb dL_law_44 (by rw [nI_toInt (by decide)]; decide) (by rw [nI_toInt (by decide)]; decide) (by rw [nI_toInt (by decide)]; decide) (by decide) ?_
        exact lwc_22 l hlt C0 ha hd hs hm lq oa ob S ol od hok (nI (5 * t)) hin1 hin2 hin3 hin4 r hf (by omega) (by omega) hP hD hS hl hnext
      · refine lv_tableIn (off := 1664) (tgt := 1708) hx hb dL_law_44 (by rw [nI_toInt (by decide)]; decide) (by rw [nI_toInt (by decide)]; decide) (by rw [nI_toInt (by decide)]; decide) (by decide) ?_
        exact lwc_23 l hlt C0 ha hd hs hm lq oa ob S ol od hok (nI (5 * t)) hin1 hin2 hin3 hin4 r hf (by omega) (by omega) hP hD hS hl hnext
      · refine lv_tableIn (off := 1756) (tgt := 1800) hx hb dL_law_44 (by rw [nI_toInt (by decide)]; decide) (by rw [nI_toInt (by decide)]; decide) (by rw [nI_toInt (by decide)]; decide) (by decide) ?_
        exact lwc_24 l hlt C0 ha hd hs hm lq oa ob S ol od hok (nI (5 * t)) hin1 hin2 hin3 hin4 r hf (by omega) (by omega) hP hD hS hl hnext
      · refine lv_tableIn (off := 1769) (tgt := 1813) hx hb dL_law_44 (by rw [nI_toInt (by decide)]; decide) (by rw [nI_toInt (by decide)]; decide) (by rw [nI_toInt (by decide)]; decide) (by decide) ?_
        exact lwc_25 l hlt C0 ha hd hs hm lq oa ob S ol od hok (nI (5 * t)) hin1 hin2 hin3 hin4 r hf (by omega) (by omega) hP hD hS hl hnext
      · refine lv_tableIn (off := 1825) (tgt := 1869) hx hb dL_law_44 (by rw [nI_toInt (by decide)]; decide) (by rw [nI_toInt (by decide)]; decide) (by rw [nI_toInt (by decide)]; decide) (by decide) ?_
        exact lwc_26 l hlt C0 ha hd hs hm lq oa ob S ol od hok (nI (5 * t)) hin1 hin2 hin3 hin4 r hf (by omega) (by omega) hP hD hS hl hnext
      · refine lv_tableIn (off := 1893) (tgt := 1937) hx hb dL_law_44 (by rw [nI_toInt (by decide)]; decide) (by rw [nI_toInt (by decide)]; decide) (by rw [nI_toInt (by decide)]; decide) (by decide) ?_
        exact lwc_27 l hlt C0 ha hd hs hm lq oa ob S ol od hok (nI (5 * t)) hin1 hin2 hin3 hin4 r hf (by omega) (by omega) hP hD hS hl hnext
      · refine lv_tableIn (off := 1949) (tgt := 1993) hx hb dL_law_44 (by rw [nI_toInt (by decide)]; decide) (by rw [nI_toInt (by decide)]; decide) (by rw [nI_toInt (by decide)]; decide) (by decide) ?_
        exact lwc_28 l hlt C0 ha hd hs hm lq oa ob S ol od hok (nI (5 * t)) hin1 hin2 hin3 hin4 r hf (by omega) (by omega) hP hD hS hl hnext
      · refine lv_tableIn (off := 1962) (tgt := 2006) hx hb dL_law_44 (by rw [nI_toInt (by decide)]; decide) (by rw [nI_toInt (by decide)]; decide) (by rw [nI_toInt (by decide)]; decide) (by decide) ?_
        exact lwc_29 l hlt C0 ha hd hs hm lq oa ob S ol od hok (nI (5 * t)) hin1 hin2 hin3 hin4 r hf (by omega) (by omega) hP hD hS hl hnext
      · refine lv_tableIn (off := 1975) (tgt := 2019) hx hb dL_law_44 (by rw [nI_toInt (by decide)]; decide) (by rw [nI_toInt (by decide)]; decide) (by rw [nI_toInt (by decide)]; decide) (by decide) ?_
        exact lwc_30 l hlt C0 ha hd hs hm lq oa ob S ol od hok (nI (5 * t)) hin1 hin2 hin3 hin4 r hf (by omega) (by omega) hP hD hS hl hnext
      · refine lv_tableIn (off := 1988) (tgt := 2032) hx hb dL_law_44 (by rw [nI_toInt (by decide)]; decide) (by rw [nI_toInt (by decide)]; decide) (by rw [nI_toInt (by decide)]; decide) (by decide) ?_
        exact lwc_31 l hlt C0 ha hd hs hm lq oa ob S ol od hok (nI (5 * t)) hin1 hin2 hin3 hin4 r hf (by omega) (by omega) hP hD hS hl hnext
      · refine lv_tableIn (off := 2001) (tgt := 2045) hx hb dL_law_44 (by rw [nI_toInt (by decide)]; decide) (by rw [nI_toInt (by decide)]; decide) (by rw [nI_toInt (by decide)]; decide) (by decide) ?_
        exact lwc_32 l hlt C0 ha hd hs hm lq oa ob S ol od hok (nI (5 * t)) hin1 hin2 hin3 hin4 r hf (by omega) (by omega) hP hD hS hl hnext
      · refine lv_tableIn (off := 2015) (tgt := 2059) hx hb dL_law_44 (by rw [nI_toInt (by decide)]; decide) (by rw [nI_toInt (by decide)]; decide) (by rw [nI_toInt (by decide)]; decide) (by decide) ?_
        exact lwc_33 l hlt C0 ha hd hs hm lq oa ob S ol od hok (nI (5 * t)) hin1 hin2 hin3 hin4 r hf (by omega) (by omega) hP hD hS hl hnext
      · refine lv_tableIn (off := 2056) (tgt := 2100) hx hb dL_law_44 (by rw [nI_toInt (by decide)]; decide) (by rw [nI_toInt (by decide)]; decide) (by rw [nI_toInt (by decide)]; decide) (by decide) ?_
        exact lwc_34 l hlt C0 ha hd hs hm lq oa ob S ol od hok (nI (5 * t)) hin1 hin2 hin3 hin4 r hf (by omega) (by omega) hP hD hS hl hnext
      · refine lv_tableIn (off := 2122) (tgt := 2166) hx hb dL_law_44 (by rw [nI_toInt (by decide)]; decide) (by rw [nI_toInt (by decide)]; decide) (by rw [nI_toInt (by decide)]; decide) (by decide) ?_
        exact lwc_35 l hlt C0 ha hd hs hm lq oa ob S ol od hok (nI (5 * t)) hin1 hin2 hin3 hin4 r hf (by omega) (by omega) hP hD hS hl hnext
      · refine lv_tableIn (off := 2135) (tgt := 2179) hx hb dL_law_44 (by rw [nI_toInt (by decide)]; decide) (by rw [nI_toInt (by decide)]; decide) (by rw [nI_toInt (by decide)]; decide) (by decide) ?_
        exact lwc_36 l hlt C0 ha hd hs hm lq oa ob S ol od hok (nI (5 * t)) hin1 hin2 hin3 hin4 r hf (by omega) (by omega) hP hD hS hl hnext
      · refine lv_tableIn (off := 2193) (tgt := 2237) hx hb dL_law_44 (by rw [nI_toInt (by decide)]; decide) (by rw [nI_toInt (by decide)]; decide) (by rw [nI_toInt (by decide)]; decide) (by decide) ?_
        exact lwc_37 l hlt C0 ha hd hs hm lq oa ob S ol od hok (nI (5 * t)) hin1 hin2 hin3 hin4 r hf (by omega) (by omega) hP hD hS hl hnext
      · refine lv_tableIn (off := 2237) (tgt := 2281) hx hb dL_law_44 (by rw [nI_toInt (by decide)]; decide) (by rw [nI_toInt (by decide)]; decide) (by rw [nI_toInt (by decide)]; decide) (by decide) ?_
        exact lwc_38 l hlt C0 ha hd hs hm lq oa ob S ol od hok (nI (5 * t)) hin1 hin2 hin3 hin4 r hf (by omega) (by omega) hP hD hS hl hnext
      · refine lv_tableIn (off := 2281) (tgt := 2325) hx hb dL_law_44 (by rw [nI_toInt (by decide)]; decide) (by rw [nI_toInt (by decide)]; decide) (by rw [nI_toInt (by decide)]; decide) (by decide) ?_
        exact lwc_39 l hlt C0 ha hd hs hm lq oa ob S ol od hok (nI (5 * t)) hin1 hin2 hin3 hin4 r hf (by omega) (by omega) hP hD hS hl hnext
      · refine lv_tableIn (off := 2325) (tgt := 2369) hx hb dL_law_44 (by rw [nI_toInt (by decide)]; decide) (by rw [nI_toInt (by decide)]; decide) (by rw [nI_toInt (by decide)]; decide) (by decide) ?_
        exact lwc_40 l hlt C0 ha hd hs hm lq oa ob S ol od hok (nI (5 * t)) hin1 hin2 hin3 hin4 r hf (by omega) (by omega) hP hD hS hl hnext
      · refine lv_tableIn (off := 2381) (tgt := 2425) hx hb dL_law_44 (by rw [nI_toInt (by decide)]; decide) (by rw [nI_toInt (by decide)]; decide) (by rw [nI_toInt (by decide)]; decide) (by decide) ?_
        exact lwc_41 l hlt C0 ha hd hs hm lq oa ob S ol od hok (nI (5 * t)) hin1 hin2 hin3 hin4 r hf (by omega) (by omega) hP hD hS hl hnext
      · refine lv_tableIn (off := 2437) (tgt := 2481) hx hb dL_law_44 (by rw [nI_toInt (by decide)]; decide) (by rw [nI_toInt (by decide)]; decide) (by rw [nI_toInt (by decide)]; decide) (by decide) ?_
        exact lwc_42 l hlt C0 ha hd hs hm lq oa ob S ol od hok (nI (5 * t)) hin1 hin2 hin3 hin4 r hf (by omega) (by omega) hP hD hS hl hnext
      · refine lv_tableIn (off := 2481) (tgt := 2525) hx hb dL_law_44 (by rw [nI_toInt (by decide)]; decide) (by rw [nI_toInt (by decide)]; decide) (by rw [nI_toInt (by decide)]; decide) (by decide) ?_
        exact lwc_43 l hlt C0 ha hd hs hm lq oa ob S ol od hok (nI (5 * t)) hin1 hin2 hin3 hin4 r hf (by omega) (by omega) hP hD hS hl hnext
      · refine lv_tableIn (off := 2492) (tgt := 2536) hx hb dL_law_44 (by rw [nI_toInt (by decide)]; decide) (by rw [nI_toInt (by decide)]; decide) (by rw [nI_toInt (by decide)]; decide) (by decide) ?_
        exact lwc_44 l hlt C0 ha hd hs hm lq oa ob S ol od hok (nI (5 * t)) hin1 hin2 hin3 hin4 r hf (by omega) (by omega) hP hD hS hl hnext
    · refine lv_tableOut (tgt := 2560) hx hb dL_law_44 (Or.inr (by rw [nI_toInt (by omega)]; omega)) (by decide) ?_
      have hr9 : r = (S, ol, od) := by
        have h9 : lawOp k S (xs (nI (5 * t) + 1).toNatClampNeg) (xs (nI (5 * t) + 2).toNatClampNeg) (xs (nI (5 * t) + 3).toNatClampNeg) (xs (nI (5 * t) + 4).toNatClampNeg) ol od = some (S, ol, od) := by
          obtain ⟨j, rfl⟩ := Nat.exists_eq_add_of_le (Nat.not_lt.mp hk45)
          rw [Nat.add_comm]; rfl
        rw [h9] at hf; exact (Option.some.inj hf).symm
      subst hr9
      refine W.widen (k := 100 + 60 * t + 60) (n := 5000 + 700 * t + 700) (by omega) (by omega) ?_
      exact hnext hd hs lq H locs ls hok hP hD hS hl
