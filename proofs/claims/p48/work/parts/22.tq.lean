abbrev TV : Type := Option Nat × Int32 × Int32
def tSaved (tv : TV) : Option Nat := tv.1
def tErrorPosition (tv : TV) : Int32 := tv.2.1
def tFailedCommand (tv : TV) : Int32 := tv.2.2
def tSSaved (x : Option Nat) (tv : TV) : TV := (x, tv.2.1, tv.2.2)
def tSErrorPosition (x : Int32) (tv : TV) : TV := (tv.1, x, tv.2.2)
def tSFailedCommand (x : Int32) (tv : TV) : TV := (tv.1, tv.2.1, x)
def wT (g : GG) (ha : Nat → Nat → Nat) (tv : TV) : va_W := [(ha 0 0, .inr (9, [.ref (ha 1 0), .ref (ha 2 0), .ref (ha 3 0), .ref (ha 4 0), .ref (ha 5 0), .ref (ha 6 0), va_rf (tSaved tv), .int (tErrorPosition tv), .int (tFailedCommand tv)]))]
def f_X10_neededCutsAgree_L2 (tv : TV) (qv : QV) (x1 : Int32) (sv : SV) : Option (Sum (Int32 × SV) (Sum (Int32 × SV) (Int32 × SV))) :=
  if 30 ≤ x1 then
  (some (.inr (.inl (x1, sv))))
  else
  ((f_X7_cutsByDistance qv x1 0).bind fun o1 =>
  (f_X8_cutsBySpreading sv qv x1 0).bind fun o3 =>
  if o1 = (o3.1) then
  (some (.inl ((x1 + 1), (o3.2))))
  else
  (some (.inr (.inr (0, (o3.2))))))
def f_X10_neededCutsAgree (tv : TV) (qv : QV) (sv : SV) : Option (Int32 × SV) :=
  (jbL (fun s => f_X10_neededCutsAgree_L2 tv qv (s.1) (s.2)) 5000 (0, sv)).bind fun o2 => jbM o2 (fun oo2 =>
  some (1, (oo2.2))) (fun v => some v)
def rm_X10_neededCutsAgree : Room := { frames := 3, cells := 0, slots := 0, locals := 71 }
theorem hd_X10_neededCutsAgree : yX10_neededCutsAgree.cls = RX10 ∧ yX10_neededCutsAgree.cls ≠ "java/lang/invoke/MethodHandle" ∧ yX10_neededCutsAgree.cls ≠ "java/lang/invoke/VarHandle" ∧ (parseMethodDescriptor yX10_neededCutsAgree.desc).map (fun d => d.parameters.length) = some 0 := by decide +kernel
set_option maxHeartbeats 4000000 in
set_option maxRecDepth 100000 in
theorem c_X10_neededCutsAgree (l : Launch) (hlt : l.stackTraces = false) (g : GG) (ha : Nat → Nat → Nat) (tv : TV) (qv : QV) (sv : SV)  (out : Int32 × SV) (hf : f_X10_neededCutsAgree tv qv sv = some out) : MtI l yX10_neededCutsAgree wsX10_neededCutsAgree rm_X10_neededCutsAgree g (wT g ha tv ++ wQ g (ha 1) qv ++ wS g (ha 3) sv) [.ref (ha 0 0)] (out.1) (wT g ha tv ++ wQ g (ha 1) qv ++ wS g (ha 3) (out.2)) 0 0 := by
  refine fun sz => mt_of (cc := cX10_neededCutsAgree) (maxL := 2) (ret := (some .boolean)) (own := RX10) (Qc := fun A => va_Qi (fun r (_ : Unit) => r = (out.1)) (fun _ t => PosM g A (wT g ha tv ++ wQ g (ha 1) qv ++ wS g (ha 3) (out.2)) t) A) (by decide +kernel) rfl rfl (Nat.le_of_ble_eq_true rfl) ?_ sz
  intro p e s mi below meth c A ls hB hnm hrt hlk hP hD hl
  obtain ⟨hx, hb, hml, hown, hts, hK, hZ, hT, hA, -⟩ := hB
  have hS : va_S A s.heap s.heap [] := va_S.rf
  have hl : lv_has ls 2 [(0, .ref (ha 0 0))] := hl
  have hinX10 : ∀ w ∈ wsX100, w ∈ wsX10_neededCutsAgree := by decide +kernel
  have k0 := hts (.fieldLink RX10 10 "TerraceQuarry" "quarry" "LTerraceQuarry$Quarry;") (by decide +kernel)
  have k1 := hts (.fieldLink RX10 22 "TerraceQuarry" "survey" "LTerraceQuarry$Survey;") (by decide +kernel)
  generalize hQ : MQ below _ _ _ _ _ _ = Q
  unfold f_X10_neededCutsAgree at hf
  have hL2 : ∀ (n : Nat) (x1 : Int32) (sv : SV) (H : Heap) (locs : List Loc) (ls : Array Slot) (o2 : Sum (Int32 × SV) (Int32 × SV)), jbL (fun s => f_X10_neededCutsAgree_L2 tv qv (s.1) (s.2)) n (x1, sv) = some o2 → va_P (gD g) vwCl (wT g ha tv ++ wQ g (ha 1) qv ++ wS g (ha 3) sv) H → va_D A (wT g ha tv ++ wQ g (ha 1) qv ++ wS g (ha 3) sv) → va_S A s.heap H locs → lv_has ls 2 [(0, .ref (ha 0 0)), (1, .int x1)] → (∀ oo : Int32 × SV, o2 = .inl oo → ∀ (H : Heap) (locs : List Loc) (ls : Array Slot), va_P (gD g) vwCl (wT g ha tv ++ wQ g (ha 1) qv ++ wS g (ha 3) (oo.2)) H → va_D A (wT g ha tv ++ wQ g (ha 1) qv ++ wS g (ha 3) (oo.2)) → va_S A s.heap H locs → lv_has ls 2 [] → W p l e rm_X10_neededCutsAgree s mi [.ref (ha 0 0)].toArray below meth c H locs 0 0 Q (F0 mi 41 ls [])) → (∀ v : Int32 × SV, o2 = .inr v → v = out) → W p l e rm_X10_neededCutsAgree s mi [.ref (ha 0 0)].toArray below meth c H locs 0 0 Q (F0 mi 2 ls []) := by
    intro n
    induction n with
    | zero => intro x1 sv H locs ls o2 hf; exact absurd hf (jbL_0 _ _ _)
    | succ n ih =>
      intro x1 sv H locs ls o2 hf hP hD hS hl hk hret
      obtain ⟨r, hf, hr⟩ := jbL_e hf
      have hf : f_X10_neededCutsAgree_L2 tv qv x1 sv = some r := hf
      unfold f_X10_neededCutsAgree_L2 at hf
      refine lv_iload_n hx hb dX10_neededCutsAgree_2 rfl (lv_at hl 1 rfl) ?_
      refine lv_bipush (v := 30) hx hb dX10_neededCutsAgree_3 (by decide) ?_
      refine lv_icmp_ge (tgt := 41) hx hb dX10_neededCutsAgree_5 (by decide) (fun hc => ?_) (fun hc => ?_)
      · have hf := jbT hf hc
        cases hf
        obtain rfl := jbR_r hr
        exact hk _ rfl _ _ _ hP hD hS (lv_sub hl [] rfl)
      · have hf := jbF hf hc
        refine lv_aload_n hx hb dX10_neededCutsAgree_8 rfl (lv_at hl 0 rfl) ?_
        refine va_get (D := gD g) (ci := 9) (v := .ref (ha 1 0)) (C := RX10) (T := TX10) (N := 9) hx hb hts hinX10 hown hK hP 0 rfl rfl 0 (by decide) k0 (fun _ h9 => h9) rfl dX10_neededCutsAgree_9 ?_
        refine lv_iload_n hx hb dX10_neededCutsAgree_12 rfl (lv_at hl 1 rfl) ?_
        refine lv_iconst (v := 0) hx hb dX10_neededCutsAgree_13 (by decide) ?_
        obtain ⟨o1, g2, hf⟩ := jbB_e hf
        refine cv_i (As := [.int x1, .int 0]) (rest := []) (Wr := [0, 11, 12, 13, 14, 15, 16].filterMap (fun i => ((wT g ha tv ++ wQ g (ha 1) qv ++ wS g (ha 3) sv))[i]?)) ⟨hx, hb, hml, hown, hts⟩ (c_X7_cutsByDistance l g (ha 1) qv x1 0 _ g2) (cwV 2 hts gX10_neededCutsAgree_X7_cutsByDistance rfl rfl rfl hd_X7_cutsByDistance ⟨Nat.le_of_ble_eq_true rfl, Nat.le_of_ble_eq_true rfl⟩) hK hZ hT hA hP hD hS hl.1 (va_recv hK hP (ci := 7) (q0 := 1) rfl rfl) [1, 2, 3, 4, 5, 6, 7, 8, 9, 10] [0, 11, 12, 13, 14, 15, 16] rfl rfl rfl rfl rfl rfl rfl (Nat.le_of_ble_eq_true rfl) ⟨Nat.le_of_ble_eq_true rfl, Nat.le_of_ble_eq_true rfl⟩ dX10_neededCutsAgree_14 (fun H locs hP hD hS => ?_)
        have hP : va_P (gD g) vwCl (wT g ha tv ++ wQ g (ha 1) qv ++ wS g (ha 3) sv) H := hP.sub [0, 7, 8, 9, 10, 11, 12, 13, 14, 15, 16, 1, 2, 3, 4, 5, 6] rfl
        have hD : va_D A (wT g ha tv ++ wQ g (ha 1) qv ++ wS g (ha 3) sv) := hD.sub [0, 7, 8, 9, 10, 11, 12, 13, 14, 15, 16, 1, 2, 3, 4, 5, 6] rfl rfl
        refine lv_aload_n hx hb dX10_neededCutsAgree_17 rfl (lv_at hl 0 rfl) ?_
        refine va_get (D := gD g) (ci := 9) (v := .ref (ha 3 0)) (C := RX10) (T := TX10) (N := 9) hx hb hts hinX10 hown hK hP 0 rfl rfl 2 (by decide) k1 (fun _ h9 => h9) rfl dX10_neededCutsAgree_18 ?_
        refine lv_aload_n hx hb dX10_neededCutsAgree_21 rfl (lv_at hl 0 rfl) ?_
        refine va_get (D := gD g) (ci := 9) (v := .ref (ha 1 0)) (C := RX10) (T := TX10) (N := 9) hx hb hts hinX10 hown hK hP 0 rfl rfl 0 (by decide) k0 (fun _ h9 => h9) rfl dX10_neededCutsAgree_22 ?_
        refine lv_iload_n hx hb dX10_neededCutsAgree_25 rfl (lv_at hl 1 rfl) ?_
        refine lv_iconst (v := 0) hx hb dX10_neededCutsAgree_26 (by decide) ?_
        obtain ⟨o3, g4, hf⟩ := jbB_e hf
        refine cv_i (As := [.ref (ha 1 0), .int x1, .int 0]) (rest := [.int o1]) (Wr := [0].filterMap (fun i => ((wT g ha tv ++ wQ g (ha 1) qv ++ wS g (ha 3) sv))[i]?)) ⟨hx, hb, hml, hown, hts⟩ (c_X8_cutsBySpreading l g (ha 3) sv (ha 1) qv x1 0 _ g4) (cwV 3 hts gX10_neededCutsAgree_X8_cutsBySpreading rfl rfl rfl hd_X8_cutsBySpreading ⟨Nat.le_of_ble_eq_true rfl, Nat.le_of_ble_eq_true rfl⟩) hK hZ hT hA hP hD hS hl.1 (va_recv hK hP (ci := 8) (q0 := 11) rfl rfl) [11, 12, 13, 14, 15, 16, 1, 2, 3, 4, 5, 6, 7, 8, 9, 10] [0] rfl rfl rfl rfl rfl rfl rfl (Nat.le_of_ble_eq_true rfl) ⟨Nat.le_of_ble_eq_true rfl, Nat.le_of_ble_eq_true rfl⟩ dX10_neededCutsAgree_27 (fun H locs hP hD hS => ?_)
        have hP : va_P (gD g) vwCl (wT g ha tv ++ wQ g (ha 1) qv ++ wS g (ha 3) (o3.2)) H := hP.sub [0, 7, 8, 9, 10, 11, 12, 13, 14, 15, 16, 1, 2, 3, 4, 5, 6] rfl
        have hD : va_D A (wT g ha tv ++ wQ g (ha 1) qv ++ wS g (ha 3) (o3.2)) := hD.sub [0, 7, 8, 9, 10, 11, 12, 13, 14, 15, 16, 1, 2, 3, 4, 5, 6] rfl rfl
        refine lv_icmp_eq (tgt := 35) hx hb dX10_neededCutsAgree_30 (by decide) (fun hc => ?_) (fun hc => ?_)
        · have hf := jbT hf hc
          refine lv_iinc (v := (x1 + 1)) (lv' := [(1, .int (x1 + 1)), (0, .ref (ha 0 0))]) hx hb dX10_neededCutsAgree_35 hl (k := 1) rfl rfl (by decide) rfl (fun ls hl => ?_)
          refine lv_goto (tgt := 2) hx hb dX10_neededCutsAgree_38 (by decide) ?_
          cases hf
          exact ih (x1 + 1) (o3.2) _ _ _ _ hr hP hD hS (lv_sub hl [1, 0] rfl) hk hret
        · have hf := jbF hf hc
          refine lv_iconst (v := 0) hx hb dX10_neededCutsAgree_33 (by decide) ?_
          cases hf
          obtain rfl := hret _ (jbR_r hr).symm
          subst hQ
          exact rt_i hx hb hrt hlk nar_0 hK hP hD hS (Nat.le_of_ble_eq_true rfl) (Nat.le_of_ble_eq_true rfl) dX10_neededCutsAgree_34
  refine lv_iconst (v := 0) hx hb dX10_neededCutsAgree_0 (by decide) ?_
  refine lv_istore_n (lv' := [(1, .int 0), (0, .ref (ha 0 0))]) hx hb dX10_neededCutsAgree_1 rfl hl (by decide) rfl (fun ls hl => ?_)
  obtain ⟨o2, hg, hf⟩ := jbB_e hf
  refine hL2 _ 0 sv _ _ _ _ hg hP hD hS (lv_sub hl [1, 0] rfl) (fun oo2 ho H locs ls hP hD hS hl => ?_) (fun v hv => by subst hv; exact Option.some.inj hf)
  subst ho
  have hf := jbM_l hf
  refine lv_iconst (v := 1) hx hb dX10_neededCutsAgree_41 (by decide) ?_
  cases hf
  subst hQ
  exact rt_i hx hb hrt hlk nar_1 hK hP hD hS (Nat.le_of_ble_eq_true rfl) (Nat.le_of_ble_eq_true rfl) dX10_neededCutsAgree_42
def f_X10_height (tv : TV) (qv : QV) (a0 : Int32) (a1 : Int32) : Option (Sum Nat Int32) :=
  (f_X3_cellFault a0 a1).bind fun o1 =>
  (f_X10_refuse o1).bind fun o3 => jbM o3 (fun xo3 => some (.inl xo3)) (fun _ =>
  (f_X3_cellAt a0 a1).bind fun o5 =>
  (f_X7_heightAt qv o5).bind fun o7 =>
  some (.inr o7))
def rm_X10_height : Room := { frames := 9, cells := 1, slots := 6, locals := 140 }
theorem hd_X10_height : yX10_height.cls = RX10 ∧ yX10_height.cls ≠ "java/lang/invoke/MethodHandle" ∧ yX10_height.cls ≠ "java/lang/invoke/VarHandle" ∧ (parseMethodDescriptor yX10_height.desc).map (fun d => d.parameters.length) = some 2 := by decide +kernel
set_option maxHeartbeats 4000000 in
set_option maxRecDepth 100000 in
theorem c_X10_height (l : Launch) (hlt : l.stackTraces = false) (g : GG) (ha : Nat → Nat → Nat) (tv : TV) (qv : QV) (a0 : Int32) (a1 : Int32) (out : Sum Nat Int32) (hf : f_X10_height tv qv a0 a1 = some out) : MxI l yX10_height wsX10_height rm_X10_height g (wT g ha tv ++ wQ g (ha 1) qv) [.ref (ha 0 0), .int a0, .int a1] out (fun x : Int32 => x) (fun x : Int32 => (wT g ha tv ++ wQ g (ha 1) qv)) (fun x : Nat => x) (fun x : Nat => (wT g ha tv ++ wQ g (ha 1) qv)) 1 6 := by
  refine fun sz => mx_of (cc := cX10_height) (maxL := 3) (ret := (some .int)) (own := RX10) (Qc := fun A => va_Qi (fun r (x : Int32) => out = .inr x ∧ r = x) (fun x t => PosM g A (wT g ha tv ++ wQ g (ha 1) qv) t) A) (XC := fun A => vx_X (fun (x : Nat) => out = .inl x) (fun E x t => E = exn x ∧ PosM g A (wT g ha tv ++ wQ g (ha 1) qv) t) A) (by decide +kernel) rfl rfl (Nat.le_of_ble_eq_true rfl) ?_ sz
  intro p e s mi below meth c A ls hB htb hrt hlk hP hD hl
  obtain ⟨hx, hb, hml, hown, hts, hK, hZ, hT, hA, -⟩ := hB
  have hS : va_S A s.heap s.heap [] := va_S.rf
  have hl : lv_has ls 3 [(0, .ref (ha 0 0)), (1, .int a0), (2, .int a1)] := hl
  have hinX10 : ∀ w ∈ wsX100, w ∈ wsX10_height := by decide +kernel
  have k0 := hts (.fieldLink RX10 10 "TerraceQuarry" "quarry" "LTerraceQuarry$Quarry;") (by decide +kernel)
  generalize hQ : vx_MQ below _ _ _ _ _ _ _ = Q
  unfold f_X10_height at hf
  refine lv_iload_n hx hb dX10_height_0 rfl (lv_at hl 1 rfl) ?_
  refine lv_iload_n hx hb dX10_height_1 rfl (lv_at hl 2 rfl) ?_
  obtain ⟨o1, g2, hf⟩ := jbB_e hf
  refine csn_e (As := [.int a0, .int a1]) (rest := []) ⟨hx, hb, hml, hown, hts⟩ (c_X3_cellFault l g a0 a1 _ g2) (va_cwS 2 hts gX10_height_X3_cellFault rfl rfl rfl hd_X3_cellFault ⟨Nat.le_of_ble_eq_true rfl, Nat.le_of_ble_eq_true rfl⟩) hK hZ hT hA hP hD hS hl.1 rfl rfl (Nat.le_of_ble_eq_true rfl) ⟨Nat.le_of_ble_eq_true rfl, Nat.le_of_ble_eq_true rfl⟩ dX10_height_2 (fun H locs hP hD hS => ?_)
  obtain ⟨o3, g4, hf⟩ := jbB_e hf
  refine cxn_v (As := [.ref (gS g 0 o1)]) (rest := []) ⟨hx, hb, hml, hown, hts⟩ (c_X10_refuse l hlt g o1 _ g4) (va_cwS 1 hts gX10_height_X10_refuse rfl rfl rfl hd_X10_refuse ⟨Nat.le_of_ble_eq_true rfl, Nat.le_of_ble_eq_true rfl⟩) hK hZ hT hA hP hD hS hl.1 rfl rfl (Nat.le_of_ble_eq_true rfl) ⟨Nat.le_of_ble_eq_true rfl, Nat.le_of_ble_eq_true rfl⟩ dX10_height_5 (fun xo3 ce q9 H locs ho hP hD hS hce hcv hcl => ?_) (fun _ H locs ho hP hD hS => ?_)
  · subst ho
    have hf := jbM_l hf
    cases hf
    subst hQ
    exact rx_x xo3 rfl rfl htb hlk hK hP hD hS hce hcv hcl (Nat.le_of_ble_eq_true rfl) (Nat.le_of_ble_eq_true rfl)
  subst ho
  have hf := jbM_r hf
  refine lv_aload_n hx hb dX10_height_8 rfl (lv_at hl 0 rfl) ?_
  refine va_get (D := gD g) (ci := 9) (v := .ref (ha 1 0)) (C := RX10) (T := TX10) (N := 9) hx hb hts hinX10 hown hK hP 0 rfl rfl 0 (by decide) k0 (fun _ h9 => h9) rfl dX10_height_9 ?_
  refine lv_iload_n hx hb dX10_height_12 rfl (lv_at hl 1 rfl) ?_
  refine lv_iload_n hx hb dX10_height_13 rfl (lv_at hl 2 rfl) ?_
  obtain ⟨o5, g6, hf⟩ := jbB_e hf
  refine csn_i (As := [.int a0, .int a1]) (rest := [.ref (ha 1 0)]) ⟨hx, hb, hml, hown, hts⟩ (c_X3_cellAt l g a0 a1 _ g6) (va_cwS 2 hts gX10_height_X3_cellAt rfl rfl rfl hd_X3_cellAt ⟨Nat.le_of_ble_eq_true rfl, Nat.le_of_ble_eq_true rfl⟩) hK hZ hT hA hP hD hS hl.1 rfl rfl (Nat.le_of_ble_eq_true rfl) ⟨Nat.le_of_ble_eq_true rfl, Nat.le_of_ble_eq_true rfl⟩ dX10_height_14 (fun H locs hP hD hS => ?_)
  obtain ⟨o7, g8, hf⟩ := jbB_e hf
  refine cv_i (As := [.int o5]) (rest := []) (Wr := [0].filterMap (fun i => ((wT g ha tv ++ wQ g (ha 1) qv))[i]?)) ⟨hx, hb, hml, hown, hts⟩ (c_X7_heightAt l g (ha 1) qv o5 _ g8) (cwV 1 hts gX10_height_X7_heightAt rfl rfl rfl hd_X7_heightAt ⟨Nat.le_of_ble_eq_true rfl, Nat.le_of_ble_eq_true rfl⟩) hK hZ hT hA hP hD hS hl.1 (va_recv hK hP (ci := 7) (q0 := 1) rfl rfl) [1, 2, 3, 4, 5, 6, 7, 8, 9, 10] [0] rfl rfl rfl rfl rfl rfl rfl (Nat.le_of_ble_eq_true rfl) ⟨Nat.le_of_ble_eq_true rfl, Nat.le_of_ble_eq_true rfl⟩ dX10_height_17 (fun H locs hP hD hS => ?_)
  have hP : va_P (gD g) vwCl (wT g ha tv ++ wQ g (ha 1) qv) H := hP.sub [0, 1, 2, 3, 4, 5, 6, 7, 8, 9, 10] rfl
  have hD : va_D A (wT g ha tv ++ wQ g (ha 1) qv) := hD.sub [0, 1, 2, 3, 4, 5, 6, 7, 8, 9, 10] rfl rfl
  cases hf
  subst hQ
  exact rx_i o7 rfl rfl hx hb hrt hlk rfl hK hP hD hS (Nat.le_of_ble_eq_true rfl) (Nat.le_of_ble_eq_true rfl) dX10_height_20
def f_X10_stone (tv : TV) (qv : QV) (a0 : Int32) (a1 : Int32) : Option (Sum Nat Int32) :=
  (f_X3_cellFault a0 a1).bind fun o1 =>
  (f_X10_refuse o1).bind fun o3 => jbM o3 (fun xo3 => some (.inl xo3)) (fun _ =>
  (f_X3_cellAt a0 a1).bind fun o5 =>
  (f_X7_stoneAt qv o5).bind fun o7 =>
  some (.inr o7))
def rm_X10_stone : Room := { frames := 9, cells := 1, slots := 6, locals := 140 }
theorem hd_X10_stone : yX10_stone.cls = RX10 ∧ yX10_stone.cls ≠ "java/lang/invoke/MethodHandle" ∧ yX10_stone.cls ≠ "java/lang/invoke/VarHandle" ∧ (parseMethodDescriptor yX10_stone.desc).map (fun d => d.parameters.length) = some 2 := by decide +kernel
set_option maxHeartbeats 4000000 in
set_option maxRecDepth 100000 in
theorem c_X10_stone (l : Launch) (hlt : l.stackTraces = false) (g : GG) (ha : Nat → Nat → Nat) (tv : TV) (qv : QV) (a0 : Int32) (a1 : Int32) (out : Sum Nat Int32) (hf : f_X10_stone tv qv a0 a1 = some out) : MxI l yX10_stone wsX10_stone rm_X10_stone g (wT g ha tv ++ wQ g (ha 1) qv) [.ref (ha 0 0), .int a0, .int a1] out (fun x : Int32 => x) (fun x : Int32 => (wT g ha tv ++ wQ g (ha 1) qv)) (fun x : Nat => x) (fun x : Nat => (wT g ha tv ++ wQ g (ha 1) qv)) 1 6 := by
  refine fun sz => mx_of (cc := cX10_stone) (maxL := 3) (ret := (some .int)) (own := RX10) (Qc := fun A => va_Qi (fun r (x : Int32) => out = .inr x ∧ r = x) (fun x t => PosM g A (wT g ha tv ++ wQ g (ha 1) qv) t) A) (XC := fun A => vx_X (fun (x : Nat) => out = .inl x) (fun E x t => E = exn x ∧ PosM g A (wT g ha tv ++ wQ g (ha 1) qv) t) A) (by decide +kernel) rfl rfl (Nat.le_of_ble_eq_true rfl) ?_ sz
  intro p e s mi below meth c A ls hB htb hrt hlk hP hD hl
  obtain ⟨hx, hb, hml, hown, hts, hK, hZ, hT, hA, -⟩ := hB
  have hS : va_S A s.heap s.heap [] := va_S.rf
  have hl : lv_has ls 3 [(0, .ref (ha 0 0)), (1, .int a0), (2, .int a1)] := hl
  have hinX10 : ∀ w ∈ wsX100, w ∈ wsX10_stone := by decide +kernel
  have k0 := hts (.fieldLink RX10 10 "TerraceQuarry" "quarry" "LTerraceQuarry$Quarry;") (by decide +kernel)
  generalize hQ : vx_MQ below _ _ _ _ _ _ _ = Q
  unfold f_X10_stone at hf
  refine lv_iload_n hx hb dX10_stone_0 rfl (lv_at hl 1 rfl) ?_
  refine lv_iload_n hx hb dX10_stone_1 rfl (lv_at hl 2 rfl) ?_
  obtain ⟨o1, g2, hf⟩ := jbB_e hf
  refine csn_e (As := [.int a0, .int a1]) (rest := []) ⟨hx, hb, hml, hown, hts⟩ (c_X3_cellFault l g a0 a1 _ g2) (va_cwS 2 hts gX10_stone_X3_cellFault rfl rfl rfl hd_X3_cellFault ⟨Nat.le_of_ble_eq_true rfl, Nat.le_of_ble_eq_true rfl⟩) hK hZ hT hA hP hD hS hl.1 rfl rfl (Nat.le_of_ble_eq_true rfl) ⟨Nat.le_of_ble_eq_true rfl, Nat.le_of_ble_eq_true rfl⟩ dX10_stone_2 (fun H locs hP hD hS => ?_)
  obtain ⟨o3, g4, hf⟩ := jbB_e hf
  refine cxn_v (As := [.ref (gS g 0 o1)]) (rest := []) ⟨hx, hb, hml, hown, hts⟩ (c_X10_refuse l hlt g o1 _ g4) (va_cwS 1 hts gX10_stone_X10_refuse rfl rfl rfl hd_X10_refuse ⟨Nat.le_of_ble_eq_true rfl, Nat.le_of_ble_eq_true rfl⟩) hK hZ hT hA hP hD hS hl.1 rfl rfl (Nat.le_of_ble_eq_true rfl) ⟨Nat.le_of_ble_eq_true rfl, Nat.le_of_ble_eq_true rfl⟩ dX10_stone_5 (fun xo3 ce q9 H locs ho hP hD hS hce hcv hcl => ?_) (fun _ H locs ho hP hD hS => ?_)
  · subst ho
    have hf := jbM_l hf
    cases hf
    subst hQ
    exact rx_x xo3 rfl rfl htb hlk hK hP hD hS hce hcv hcl (Nat.le_of_ble_eq_true rfl) (Nat.le_of_ble_eq_true rfl)
  subst ho
  have hf := jbM_r hf
  refine lv_aload_n hx hb dX10_stone_8 rfl (lv_at hl 0 rfl) ?_
  refine va_get (D := gD g) (ci := 9) (v := .ref (ha 1 0)) (C := RX10) (T := TX10) (N := 9) hx hb hts hinX10 hown hK hP 0 rfl rfl 0 (by decide) k0 (fun _ h9 => h9) rfl dX10_stone_9 ?_
  refine lv_iload_n hx hb dX10_stone_12 rfl (lv_at hl 1 rfl) ?_
  refine lv_iload_n hx hb dX10_stone_13 rfl (lv_at hl 2 rfl) ?_
  obtain ⟨o5, g6, hf⟩ := jbB_e hf
  refine csn_i (As := [.int a0, .int a1]) (rest := [.ref (ha 1 0)]) ⟨hx, hb, hml, hown, hts⟩ (c_X3_cellAt l g a0 a1 _ g6) (va_cwS 2 hts gX10_stone_X3_cellAt rfl rfl rfl hd_X3_cellAt ⟨Nat.le_of_ble_eq_true rfl, Nat.le_of_ble_eq_true rfl⟩) hK hZ hT hA hP hD hS hl.1 rfl rfl (Nat.le_of_ble_eq_true rfl) ⟨Nat.le_of_ble_eq_true rfl, Nat.le_of_ble_eq_true rfl⟩ dX10_stone_14 (fun H locs hP hD hS => ?_)
  obtain ⟨o7, g8, hf⟩ := jbB_e hf
  refine cv_i (As := [.int o5]) (rest := []) (Wr := [0].filterMap (fun i => ((wT g ha tv ++ wQ g (ha 1) qv))[i]?)) ⟨hx, hb, hml, hown, hts⟩ (c_X7_stoneAt l g (ha 1) qv o5 _ g8) (cwV 1 hts gX10_stone_X7_stoneAt rfl rfl rfl hd_X7_stoneAt ⟨Nat.le_of_ble_eq_true rfl, Nat.le_of_ble_eq_true rfl⟩) hK hZ hT hA hP hD hS hl.1 (va_recv hK hP (ci := 7) (q0 := 1) rfl rfl) [1, 2, 3, 4, 5, 6, 7, 8, 9, 10] [0] rfl rfl rfl rfl rfl rfl rfl (Nat.le_of_ble_eq_true rfl) ⟨Nat.le_of_ble_eq_true rfl, Nat.le_of_ble_eq_true rfl⟩ dX10_stone_17 (fun H locs hP hD hS => ?_)
  have hP : va_P (gD g) vwCl (wT g ha tv ++ wQ g (ha 1) qv) H := hP.sub [0, 1, 2, 3, 4, 5, 6, 7, 8, 9, 10] rfl
  have hD : va_D A (wT g ha tv ++ wQ g (ha 1) qv) := hD.sub [0, 1, 2, 3, 4, 5, 6, 7, 8, 9, 10] rfl rfl
  cases hf
  subst hQ
  exact rx_i o7 rfl rfl hx hb hrt hlk rfl hK hP hD hS (Nat.le_of_ble_eq_true rfl) (Nat.le_of_ble_eq_true rfl) dX10_stone_20
def f_X10_isLedge (tv : TV) (qv : QV) (a0 : Int32) (a1 : Int32) : Option (Sum Nat Int32) :=
  (f_X3_cellFault a0 a1).bind fun o1 =>
  (f_X10_refuse o1).bind fun o3 => jbM o3 (fun xo3 => some (.inl xo3)) (fun _ =>
  (f_X3_cellAt a0 a1).bind fun o5 =>
  (f_X7_hasLedgeAt qv o5).bind fun o7 =>
  if vp_nar .boolean o7 = o7 then some (.inr o7) else none)
def rm_X10_isLedge : Room := { frames := 9, cells := 1, slots := 6, locals := 140 }
theorem hd_X10_isLedge : yX10_isLedge.cls = RX10 ∧ yX10_isLedge.cls ≠ "java/lang/invoke/MethodHandle" ∧ yX10_isLedge.cls ≠ "java/lang/invoke/VarHandle" ∧ (parseMethodDescriptor yX10_isLedge.desc).map (fun d => d.parameters.length) = some 2 := by decide +kernel
set_option maxHeartbeats 4000000 in
set_option maxRecDepth 100000 in
theorem c_X10_isLedge (l : Launch) (hlt : l.stackTraces = false) (g : GG) (ha : Nat → Nat → Nat) (tv : TV) (qv : QV) (a0 : Int32) (a1 : Int32) (out : Sum Nat Int32) (hf : f_X10_isLedge tv qv a0 a1 = some out) : MxI l yX10_isLedge wsX10_isLedge rm_X10_isLedge g (wT g ha tv ++ wQ g (ha 1) qv) [.ref (ha 0 0), .int a0, .int a1] out (fun x : Int32 => x) (fun x : Int32 => (wT g ha tv ++ wQ g (ha 1) qv)) (fun x : Nat => x) (fun x : Nat => (wT g ha tv ++ wQ g (ha 1) qv)) 1 6 := by
  refine fun sz => mx_of (cc := cX10_isLedge) (maxL := 3) (ret := (some .boolean)) (own := RX10) (Qc := fun A => va_Qi (fun r (x : Int32) => out = .inr x ∧ r = x) (fun x t => PosM g A (wT g ha tv ++ wQ g (ha 1) qv) t) A) (XC := fun A => vx_X (fun (x : Nat) => out = .inl x) (fun E x t => E = exn x ∧ PosM g A (wT g ha tv ++ wQ g (ha 1) qv) t) A) (by decide +kernel) rfl rfl (Nat.le_of_ble_eq_true rfl) ?_ sz
  intro p e s mi below meth c A ls hB htb hrt hlk hP hD hl
  obtain ⟨hx, hb, hml, hown, hts, hK, hZ, hT, hA, -⟩ := hB
  have hS : va_S A s.heap s.heap [] := va_S.rf
  have hl : lv_has ls 3 [(0, .ref (ha 0 0)), (1, .int a0), (2, .int a1)] := hl
  have hinX10 : ∀ w ∈ wsX100, w ∈ wsX10_isLedge := by decide +kernel
  have k0 := hts (.fieldLink RX10 10 "TerraceQuarry" "quarry" "LTerraceQuarry$Quarry;") (by decide +kernel)
  generalize hQ : vx_MQ below _ _ _ _ _ _ _ = Q
  unfold f_X10_isLedge at hf
  refine lv_iload_n hx hb dX10_isLedge_0 rfl (lv_at hl 1 rfl) ?_
  refine lv_iload_n hx hb dX10_isLedge_1 rfl (lv_at hl 2 rfl) ?_
  obtain ⟨o1, g2, hf⟩ := jbB_e hf
  refine csn_e (As := [.int a0, .int a1]) (rest := []) ⟨hx, hb, hml, hown, hts⟩ (c_X3_cellFault l g a0 a1 _ g2) (va_cwS 2 hts gX10_isLedge_X3_cellFault rfl rfl rfl hd_X3_cellFault ⟨Nat.le_of_ble_eq_true rfl, Nat.le_of_ble_eq_true rfl⟩) hK hZ hT hA hP hD hS hl.1 rfl rfl (Nat.le_of_ble_eq_true rfl) ⟨Nat.le_of_ble_eq_true rfl, Nat.le_of_ble_eq_true rfl⟩ dX10_isLedge_2 (fun H locs hP hD hS => ?_)
  obtain ⟨o3, g4, hf⟩ := jbB_e hf
  refine cxn_v (As := [.ref (gS g 0 o1)]) (rest := []) ⟨hx, hb, hml, hown, hts⟩ (c_X10_refuse l hlt g o1 _ g4) (va_cwS 1 hts gX10_isLedge_X10_refuse rfl rfl rfl hd_X10_refuse ⟨Nat.le_of_ble_eq_true rfl, Nat.le_of_ble_eq_true rfl⟩) hK hZ hT hA hP hD hS hl.1 rfl rfl (Nat.le_of_ble_eq_true rfl) ⟨Nat.le_of_ble_eq_true rfl, Nat.le_of_ble_eq_true rfl⟩ dX10_isLedge_5 (fun xo3 ce q9 H locs ho hP hD hS hce hcv hcl => ?_) (fun _ H locs ho hP hD hS => ?_)
  · subst ho
    have hf := jbM_l hf
    cases hf
    subst hQ
    exact rx_x xo3 rfl rfl htb hlk hK hP hD hS hce hcv hcl (Nat.le_of_ble_eq_true rfl) (Nat.le_of_ble_eq_true rfl)
  subst ho
  have hf := jbM_r hf
  refine lv_aload_n hx hb dX10_isLedge_8 rfl (lv_at hl 0 rfl) ?_
  refine va_get (D := gD g) (ci := 9) (v := .ref (ha 1 0)) (C := RX10) (T := TX10) (N := 9) hx hb hts hinX10 hown hK hP 0 rfl rfl 0 (by decide) k0 (fun _ h9 => h9) rfl dX10_isLedge_9 ?_
  refine lv_iload_n hx hb dX10_isLedge_12 rfl (lv_at hl 1 rfl) ?_
  refine lv_iload_n hx hb dX10_isLedge_13 rfl (lv_at hl 2 rfl) ?_
  obtain ⟨o5, g6, hf⟩ := jbB_e hf
  refine csn_i (As := [.int a0, .int a1]) (rest := [.ref (ha 1 0)]) ⟨hx, hb, hml, hown, hts⟩ (c_X3_cellAt l g a0 a1 _ g6) (va_cwS 2 hts gX10_isLedge_X3_cellAt rfl rfl rfl hd_X3_cellAt ⟨Nat.le_of_ble_eq_true rfl, Nat.le_of_ble_eq_true rfl⟩) hK hZ hT hA hP hD hS hl.1 rfl rfl (Nat.le_of_ble_eq_true rfl) ⟨Nat.le_of_ble_eq_true rfl, Nat.le_of_ble_eq_true rfl⟩ dX10_isLedge_14 (fun H locs hP hD hS => ?_)
  obtain ⟨o7, g8, hf⟩ := jbB_e hf
  refine cv_i (As := [.int o5]) (rest := []) (Wr := [0].filterMap (fun i => ((wT g ha tv ++ wQ g (ha 1) qv))[i]?)) ⟨hx, hb, hml, hown, hts⟩ (c_X7_hasLedgeAt l g (ha 1) qv o5 _ g8) (cwV 1 hts gX10_isLedge_X7_hasLedgeAt rfl rfl rfl hd_X7_hasLedgeAt ⟨Nat.le_of_ble_eq_true rfl, Nat.le_of_ble_eq_true rfl⟩) hK hZ hT hA hP hD hS hl.1 (va_recv hK hP (ci := 7) (q0 := 1) rfl rfl) [1, 2, 3, 4, 5, 6, 7, 8, 9, 10] [0] rfl rfl rfl rfl rfl rfl rfl (Nat.le_of_ble_eq_true rfl) ⟨Nat.le_of_ble_eq_true rfl, Nat.le_of_ble_eq_true rfl⟩ dX10_isLedge_17 (fun H locs hP hD hS => ?_)
  have hP : va_P (gD g) vwCl (wT g ha tv ++ wQ g (ha 1) qv) H := hP.sub [0, 1, 2, 3, 4, 5, 6, 7, 8, 9, 10] rfl
  have hD : va_D A (wT g ha tv ++ wQ g (ha 1) qv) := hD.sub [0, 1, 2, 3, 4, 5, 6, 7, 8, 9, 10] rfl rfl
  obtain ⟨h9, hf⟩ := jbA_e hf
  cases hf
  subst hQ
  exact rx_i o7 rfl rfl hx hb hrt hlk (nar_z h9) hK hP hD hS (Nat.le_of_ble_eq_true rfl) (Nat.le_of_ble_eq_true rfl) dX10_isLedge_20
def f_X10_looseBlocks (tv : TV) (qv : QV) (a0 : Int32) (a1 : Int32) : Option (Sum Nat Int32) :=
  (f_X3_cellFault a0 a1).bind fun o1 =>
  (f_X10_refuse o1).bind fun o3 => jbM o3 (fun xo3 => some (.inl xo3)) (fun _ =>
  (f_X3_cellAt a0 a1).bind fun o5 =>
  (f_X7_blocksAt qv o5).bind fun o7 =>
  some (.inr o7))
def rm_X10_looseBlocks : Room := { frames := 9, cells := 1, slots := 6, locals := 140 }
theorem hd_X10_looseBlocks : yX10_looseBlocks.cls = RX10 ∧ yX10_looseBlocks.cls ≠ "java/lang/invoke/MethodHandle" ∧ yX10_looseBlocks.cls ≠ "java/lang/invoke/VarHandle" ∧ (parseMethodDescriptor yX10_looseBlocks.desc).map (fun d => d.parameters.length) = some 2 := by decide +kernel
set_option maxHeartbeats 4000000 in
set_option maxRecDepth 100000 in
theorem c_X10_looseBlocks (l : Launch) (hlt : l.stackTraces = false) (g : GG) (ha : Nat → Nat → Nat) (tv : TV) (qv : QV) (a0 : Int32) (a1 : Int32) (out : Sum Nat Int32) (hf : f_X10_looseBlocks tv qv a0 a1 = some out) : MxI l yX10_looseBlocks wsX10_looseBlocks rm_X10_looseBlocks g (wT g ha tv ++ wQ g (ha 1) qv) [.ref (ha 0 0), .int a0, .int a1] out (fun x : Int32 => x) (fun x : Int32 => (wT g ha tv ++ wQ g (ha 1) qv)) (fun x : Nat => x) (fun x : Nat => (wT g ha tv ++ wQ g (ha 1) qv)) 1 6 := by
  refine fun sz => mx_of (cc := cX10_looseBlocks) (maxL := 3) (ret := (some .int)) (own := RX10) (Qc := fun A => va_Qi (fun r (x : Int32) => out = .inr x ∧ r = x) (fun x t => PosM g A (wT g ha tv ++ wQ g (ha 1) qv) t) A) (XC := fun A => vx_X (fun (x : Nat) => out = .inl x) (fun E x t => E = exn x ∧ PosM g A (wT g ha tv ++ wQ g (ha 1) qv) t) A) (by decide +kernel) rfl rfl (Nat.le_of_ble_eq_true rfl) ?_ sz
  intro p e s mi below meth c A ls hB htb hrt hlk hP hD hl
  obtain ⟨hx, hb, hml, hown, hts, hK, hZ, hT, hA, -⟩ := hB
  have hS : va_S A s.heap s.heap [] := va_S.rf
  have hl : lv_has ls 3 [(0, .ref (ha 0 0)), (1, .int a0), (2, .int a1)] := hl
  have hinX10 : ∀ w ∈ wsX100, w ∈ wsX10_looseBlocks := by decide +kernel
  have k0 := hts (.fieldLink RX10 10 "TerraceQuarry" "quarry" "LTerraceQuarry$Quarry;") (by decide +kernel)
  generalize hQ : vx_MQ below _ _ _ _ _ _ _ = Q
  unfold f_X10_looseBlocks at hf
  refine lv_iload_n hx hb dX10_looseBlocks_0 rfl (lv_at hl 1 rfl) ?_
  refine lv_iload_n hx hb dX10_looseBlocks_1 rfl (lv_at hl 2 rfl) ?_
  obtain ⟨o1, g2, hf⟩ := jbB_e hf
  refine csn_e (As := [.int a0, .int a1]) (rest := []) ⟨hx, hb, hml, hown, hts⟩ (c_X3_cellFault l g a0 a1 _ g2) (va_cwS 2 hts gX10_looseBlocks_X3_cellFault rfl rfl rfl hd_X3_cellFault ⟨Nat.le_of_ble_eq_true rfl, Nat.le_of_ble_eq_true rfl⟩) hK hZ hT hA hP hD hS hl.1 rfl rfl (Nat.le_of_ble_eq_true rfl) ⟨Nat.le_of_ble_eq_true rfl, Nat.le_of_ble_eq_true rfl⟩ dX10_looseBlocks_2 (fun H locs hP hD hS => ?_)
  obtain ⟨o3, g4, hf⟩ := jbB_e hf
  refine cxn_v (As := [.ref (gS g 0 o1)]) (rest := []) ⟨hx, hb, hml, hown, hts⟩ (c_X10_refuse l hlt g o1 _ g4) (va_cwS 1 hts gX10_looseBlocks_X10_refuse rfl rfl rfl hd_X10_refuse ⟨Nat.le_of_ble_eq_true rfl, Nat.le_of_ble_eq_true rfl⟩) hK hZ hT hA hP hD hS hl.1 rfl rfl (Nat.le_of_ble_eq_true rfl) ⟨Nat.le_of_ble_eq_true rfl, Nat.le_of_ble_eq_true rfl⟩ dX10_looseBlocks_5 (fun xo3 ce q9 H locs ho hP hD hS hce hcv hcl => ?_) (fun _ H locs ho hP hD hS => ?_)
  · subst ho
    have hf := jbM_l hf
    cases hf
    subst hQ
    exact rx_x xo3 rfl rfl htb hlk hK hP hD hS hce hcv hcl (Nat.le_of_ble_eq_true rfl) (Nat.le_of_ble_eq_true rfl)
  subst ho
  have hf := jbM_r hf
  refine lv_aload_n hx hb dX10_looseBlocks_8 rfl (lv_at hl 0 rfl) ?_
  refine va_get (D := gD g) (ci := 9) (v := .ref (ha 1 0)) (C := RX10) (T := TX10) (N := 9) hx hb hts hinX10 hown hK hP 0 rfl rfl 0 (by decide) k0 (fun _ h9 => h9) rfl dX10_looseBlocks_9 ?_
  refine lv_iload_n hx hb dX10_looseBlocks_12 rfl (lv_at hl 1 rfl) ?_
  refine lv_iload_n hx hb dX10_looseBlocks_13 rfl (lv_at hl 2 rfl) ?_
  obtain ⟨o5, g6, hf⟩ := jbB_e hf
  refine csn_i (As := [.int a0, .int a1]) (rest := [.ref (ha 1 0)]) ⟨hx, hb, hml, hown, hts⟩ (c_X3_cellAt l g a0 a1 _ g6) (va_cwS 2 hts gX10_looseBlocks_X3_cellAt rfl rfl rfl hd_X3_cellAt ⟨Nat.le_of_ble_eq_true rfl, Nat.le_of_ble_eq_true rfl⟩) hK hZ hT hA hP hD hS hl.1 rfl rfl (Nat.le_of_ble_eq_true rfl) ⟨Nat.le_of_ble_eq_true rfl, Nat.le_of_ble_eq_true rfl⟩ dX10_looseBlocks_14 (fun H locs hP hD hS => ?_)
  obtain ⟨o7, g8, hf⟩ := jbB_e hf
  refine cv_i (As := [.int o5]) (rest := []) (Wr := [0].filterMap (fun i => ((wT g ha tv ++ wQ g (ha 1) qv))[i]?)) ⟨hx, hb, hml, hown, hts⟩ (c_X7_blocksAt l g (ha 1) qv o5 _ g8) (cwV 1 hts gX10_looseBlocks_X7_blocksAt rfl rfl rfl hd_X7_blocksAt ⟨Nat.le_of_ble_eq_true rfl, Nat.le_of_ble_eq_true rfl⟩) hK hZ hT hA hP hD hS hl.1 (va_recv hK hP (ci := 7) (q0 := 1) rfl rfl) [1, 2, 3, 4, 5, 6, 7, 8, 9, 10] [0] rfl rfl rfl rfl rfl rfl rfl (Nat.le_of_ble_eq_true rfl) ⟨Nat.le_of_ble_eq_true rfl, Nat.le_of_ble_eq_true rfl⟩ dX10_looseBlocks_17 (fun H locs hP hD hS => ?_)
  have hP : va_P (gD g) vwCl (wT g ha tv ++ wQ g (ha 1) qv) H := hP.sub [0, 1, 2, 3, 4, 5, 6, 7, 8, 9, 10] rfl
  have hD : va_D A (wT g ha tv ++ wQ g (ha 1) qv) := hD.sub [0, 1, 2, 3, 4, 5, 6, 7, 8, 9, 10] rfl rfl
  cases hf
  subst hQ
  exact rx_i o7 rfl rfl hx hb hrt hlk rfl hK hP hD hS (Nat.le_of_ble_eq_true rfl) (Nat.le_of_ble_eq_true rfl) dX10_looseBlocks_20
def f_X10_topBlock (tv : TV) (qv : QV) (a0 : Int32) (a1 : Int32) : Option (Sum Nat Int32) :=
  (f_X7_topFault qv a0 a1).bind fun o1 =>
  (f_X10_refuse o1).bind fun o3 => jbM o3 (fun xo3 => some (.inl xo3)) (fun _ =>
  (f_X3_cellAt a0 a1).bind fun o5 =>
  (f_X7_topStoneAt qv o5).bind fun o7 =>
  some (.inr o7))
def rm_X10_topBlock : Room := { frames := 9, cells := 1, slots := 6, locals := 140 }
theorem hd_X10_topBlock : yX10_topBlock.cls = RX10 ∧ yX10_topBlock.cls ≠ "java/lang/invoke/MethodHandle" ∧ yX10_topBlock.cls ≠ "java/lang/invoke/VarHandle" ∧ (parseMethodDescriptor yX10_topBlock.desc).map (fun d => d.parameters.length) = some 2 := by decide +kernel
set_option maxHeartbeats 4000000 in
set_option maxRecDepth 100000 in
theorem c_X10_topBlock (l : Launch) (hlt : l.stackTraces = false) (g : GG) (ha : Nat → Nat → Nat) (tv : TV) (qv : QV) (a0 : Int32) (a1 : Int32) (out : Sum Nat Int32) (hf : f_X10_topBlock tv qv a0 a1 = some out) : MxI l yX10_topBlock wsX10_topBlock rm_X10_topBlock g (wT g ha tv ++ wQ g (ha 1) qv) [.ref (ha 0 0), .int a0, .int a1] out (fun x : Int32 => x) (fun x : Int32 => (wT g ha tv ++ wQ g (ha 1) qv)) (fun x : Nat => x) (fun x : Nat => (wT g ha tv ++ wQ g (ha 1) qv)) 1 6 := by
  refine fun sz => mx_of (cc := cX10_topBlock) (maxL := 3) (ret := (some .int)) (own := RX10) (Qc := fun A => va_Qi (fun r (x : Int32) => out = .inr x ∧ r = x) (fun x t => PosM g A (wT g ha tv ++ wQ g (ha 1) qv) t) A) (XC := fun A => vx_X (fun (x : Nat) => out = .inl x) (fun E x t => E = exn x ∧ PosM g A (wT g ha tv ++ wQ g (ha 1) qv) t) A) (by decide +kernel) rfl rfl (Nat.le_of_ble_eq_true rfl) ?_ sz
  intro p e s mi below meth c A ls hB htb hrt hlk hP hD hl
  obtain ⟨hx, hb, hml, hown, hts, hK, hZ, hT, hA, -⟩ := hB
  have hS : va_S A s.heap s.heap [] := va_S.rf
  have hl : lv_has ls 3 [(0, .ref (ha 0 0)), (1, .int a0), (2, .int a1)] := hl
  have hinX10 : ∀ w ∈ wsX100, w ∈ wsX10_topBlock := by decide +kernel
  have k0 := hts (.fieldLink RX10 10 "TerraceQuarry" "quarry" "LTerraceQuarry$Quarry;") (by decide +kernel)
  generalize hQ : vx_MQ below _ _ _ _ _ _ _ = Q
  unfold f_X10_topBlock at hf
  refine lv_aload_n hx hb dX10_topBlock_0 rfl (lv_at hl 0 rfl) ?_
  refine va_get (D := gD g) (ci := 9) (v := .ref (ha 1 0)) (C := RX10) (T := TX10) (N := 9) hx hb hts hinX10 hown hK hP 0 rfl rfl 0 (by decide) k0 (fun _ h9 => h9) rfl dX10_topBlock_1 ?_
  refine lv_iload_n hx hb dX10_topBlock_4 rfl (lv_at hl 1 rfl) ?_
  refine lv_iload_n hx hb dX10_topBlock_5 rfl (lv_at hl 2 rfl) ?_
  obtain ⟨o1, g2, hf⟩ := jbB_e hf
  refine cv_e (As := [.int a0, .int a1]) (rest := []) (Wr := [0].filterMap (fun i => ((wT g ha tv ++ wQ g (ha 1) qv))[i]?)) ⟨hx, hb, hml, hown, hts⟩ (c_X7_topFault l g (ha 1) qv a0 a1 _ g2) (cwV 2 hts gX10_topBlock_X7_topFault rfl rfl rfl hd_X7_topFault ⟨Nat.le_of_ble_eq_true rfl, Nat.le_of_ble_eq_true rfl⟩) hK hZ hT hA hP hD hS hl.1 (va_recv hK hP (ci := 7) (q0 := 1) rfl rfl) [1, 2, 3, 4, 5, 6, 7, 8, 9, 10] [0] rfl rfl rfl rfl rfl rfl rfl (Nat.le_of_ble_eq_true rfl) ⟨Nat.le_of_ble_eq_true rfl, Nat.le_of_ble_eq_true rfl⟩ dX10_topBlock_6 (fun H locs hP hD hS => ?_)
  have hP : va_P (gD g) vwCl (wT g ha tv ++ wQ g (ha 1) qv) H := hP.sub [0, 1, 2, 3, 4, 5, 6, 7, 8, 9, 10] rfl
  have hD : va_D A (wT g ha tv ++ wQ g (ha 1) qv) := hD.sub [0, 1, 2, 3, 4, 5, 6, 7, 8, 9, 10] rfl rfl
  obtain ⟨o3, g4, hf⟩ := jbB_e hf
  refine cxn_v (As := [.ref (gS g 0 o1)]) (rest := []) ⟨hx, hb, hml, hown, hts⟩ (c_X10_refuse l hlt g o1 _ g4) (va_cwS 1 hts gX10_topBlock_X10_refuse rfl rfl rfl hd_X10_refuse ⟨Nat.le_of_ble_eq_true rfl, Nat.le_of_ble_eq_true rfl⟩) hK hZ hT hA hP hD hS hl.1 rfl rfl (Nat.le_of_ble_eq_true rfl) ⟨Nat.le_of_ble_eq_true rfl, Nat.le_of_ble_eq_true rfl⟩ dX10_topBlock_9 (fun xo3 ce q9 H locs ho hP hD hS hce hcv hcl => ?_) (fun _ H locs ho hP hD hS => ?_)
  · subst ho
    have hf := jbM_l hf
    cases hf
    subst hQ
    exact rx_x xo3 rfl rfl htb hlk hK hP hD hS hce hcv hcl (Nat.le_of_ble_eq_true rfl) (Nat.le_of_ble_eq_true rfl)
  subst ho
  have hf := jbM_r hf
  refine lv_aload_n hx hb dX10_topBlock_12 rfl (lv_at hl 0 rfl) ?_
  refine va_get (D := gD g) (ci := 9) (v := .ref (ha 1 0)) (C := RX10) (T := TX10) (N := 9) hx hb hts hinX10 hown hK hP 0 rfl rfl 0 (by decide) k0 (fun _ h9 => h9) rfl dX10_topBlock_13 ?_
  refine lv_iload_n hx hb dX10_topBlock_16 rfl (lv_at hl 1 rfl) ?_
  refine lv_iload_n hx hb dX10_topBlock_17 rfl (lv_at hl 2 rfl) ?_
  obtain ⟨o5, g6, hf⟩ := jbB_e hf
  refine csn_i (As := [.int a0, .int a1]) (rest := [.ref (ha 1 0)]) ⟨hx, hb, hml, hown, hts⟩ (c_X3_cellAt l g a0 a1 _ g6) (va_cwS 2 hts gX10_topBlock_X3_cellAt rfl rfl rfl hd_X3_cellAt ⟨Nat.le_of_ble_eq_true rfl, Nat.le_of_ble_eq_true rfl⟩) hK hZ hT hA hP hD hS hl.1 rfl rfl (Nat.le_of_ble_eq_true rfl) ⟨Nat.le_of_ble_eq_true rfl, Nat.le_of_ble_eq_true rfl⟩ dX10_topBlock_18 (fun H locs hP hD hS => ?_)
  obtain ⟨o7, g8, hf⟩ := jbB_e hf
  refine cv_i (As := [.int o5]) (rest := []) (Wr := [0].filterMap (fun i => ((wT g ha tv ++ wQ g (ha 1) qv))[i]?)) ⟨hx, hb, hml, hown, hts⟩ (c_X7_topStoneAt l g (ha 1) qv o5 _ g8) (cwV 1 hts gX10_topBlock_X7_topStoneAt rfl rfl rfl hd_X7_topStoneAt ⟨Nat.le_of_ble_eq_true rfl, Nat.le_of_ble_eq_true rfl⟩) hK hZ hT hA hP hD hS hl.1 (va_recv hK hP (ci := 7) (q0 := 1) rfl rfl) [1, 2, 3, 4, 5, 6, 7, 8, 9, 10] [0] rfl rfl rfl rfl rfl rfl rfl (Nat.le_of_ble_eq_true rfl) ⟨Nat.le_of_ble_eq_true rfl, Nat.le_of_ble_eq_true rfl⟩ dX10_topBlock_21 (fun H locs hP hD hS => ?_)
  have hP : va_P (gD g) vwCl (wT g ha tv ++ wQ g (ha 1) qv) H := hP.sub [0, 1, 2, 3, 4, 5, 6, 7, 8, 9, 10] rfl
  have hD : va_D A (wT g ha tv ++ wQ g (ha 1) qv) := hD.sub [0, 1, 2, 3, 4, 5, 6, 7, 8, 9, 10] rfl rfl
  cases hf
  subst hQ
  exact rx_i o7 rfl rfl hx hb hrt hlk rfl hK hP hD hS (Nat.le_of_ble_eq_true rfl) (Nat.le_of_ble_eq_true rfl) dX10_topBlock_24
def f_X10_steepestStep (tv : TV) (qv : QV) (a0 : Int32) (a1 : Int32) : Option (Sum Nat Int32) :=
  (f_X3_cellFault a0 a1).bind fun o1 =>
  (f_X10_refuse o1).bind fun o3 => jbM o3 (fun xo3 => some (.inl xo3)) (fun _ =>
  (f_X3_cellAt a0 a1).bind fun o5 =>
  (f_X7_steepestAt qv o5).bind fun o7 =>
  some (.inr o7))
def rm_X10_steepestStep : Room := { frames := 9, cells := 1, slots := 6, locals := 140 }
theorem hd_X10_steepestStep : yX10_steepestStep.cls = RX10 ∧ yX10_steepestStep.cls ≠ "java/lang/invoke/MethodHandle" ∧ yX10_steepestStep.cls ≠ "java/lang/invoke/VarHandle" ∧ (parseMethodDescriptor yX10_steepestStep.desc).map (fun d => d.parameters.length) = some 2 := by decide +kernel
set_option maxHeartbeats 4000000 in
set_option maxRecDepth 100000 in
theorem c_X10_steepestStep (l : Launch) (hlt : l.stackTraces = false) (g : GG) (ha : Nat → Nat → Nat) (tv : TV) (qv : QV) (a0 : Int32) (a1 : Int32) (out : Sum Nat Int32) (hf : f_X10_steepestStep tv qv a0 a1 = some out) : MxI l yX10_steepestStep wsX10_steepestStep rm_X10_steepestStep g (wT g ha tv ++ wQ g (ha 1) qv) [.ref (ha 0 0), .int a0, .int a1] out (fun x : Int32 => x) (fun x : Int32 => (wT g ha tv ++ wQ g (ha 1) qv)) (fun x : Nat => x) (fun x : Nat => (wT g ha tv ++ wQ g (ha 1) qv)) 1 6 := by
  refine fun sz => mx_of (cc := cX10_steepestStep) (maxL := 3) (ret := (some .int)) (own := RX10) (Qc := fun A => va_Qi (fun r (x : Int32) => out = .inr x ∧ r = x) (fun x t => PosM g A (wT g ha tv ++ wQ g (ha 1) qv) t) A) (XC := fun A => vx_X (fun (x : Nat) => out = .inl x) (fun E x t => E = exn x ∧ PosM g A (wT g ha tv ++ wQ g (ha 1) qv) t) A) (by decide +kernel) rfl rfl (Nat.le_of_ble_eq_true rfl) ?_ sz
  intro p e s mi below meth c A ls hB htb hrt hlk hP hD hl
  obtain ⟨hx, hb, hml, hown, hts, hK, hZ, hT, hA, -⟩ := hB
  have hS : va_S A s.heap s.heap [] := va_S.rf
  have hl : lv_has ls 3 [(0, .ref (ha 0 0)), (1, .int a0), (2, .int a1)] := hl
  have hinX10 : ∀ w ∈ wsX100, w ∈ wsX10_steepestStep := by decide +kernel
  have k0 := hts (.fieldLink RX10 10 "TerraceQuarry" "quarry" "LTerraceQuarry$Quarry;") (by decide +kernel)
  generalize hQ : vx_MQ below _ _ _ _ _ _ _ = Q
  unfold f_X10_steepestStep at hf
  refine lv_iload_n hx hb dX10_steepestStep_0 rfl (lv_at hl 1 rfl) ?_
  refine lv_iload_n hx hb dX10_steepestStep_1 rfl (lv_at hl 2 rfl) ?_
  obtain ⟨o1, g2, hf⟩ := jbB_e hf
  refine csn_e (As := [.int a0, .int a1]) (rest := []) ⟨hx, hb, hml, hown, hts⟩ (c_X3_cellFault l g a0 a1 _ g2) (va_cwS 2 hts gX10_steepestStep_X3_cellFault rfl rfl rfl hd_X3_cellFault ⟨Nat.le_of_ble_eq_true rfl, Nat.le_of_ble_eq_true rfl⟩) hK hZ hT hA hP hD hS hl.1 rfl rfl (Nat.le_of_ble_eq_true rfl) ⟨Nat.le_of_ble_eq_true rfl, Nat.le_of_ble_eq_true rfl⟩ dX10_steepestStep_2 (fun H locs hP hD hS => ?_)
  obtain ⟨o3, g4, hf⟩ := jbB_e hf
  refine cxn_v (As := [.ref (gS g 0 o1)]) (rest := []) ⟨hx, hb, hml, hown, hts⟩ (c_X10_refuse l hlt g o1 _ g4) (va_cwS 1 hts gX10_steepestStep_X10_refuse rfl rfl rfl hd_X10_refuse ⟨Nat.le_of_ble_eq_true rfl, Nat.le_of_ble_eq_true rfl⟩) hK hZ hT hA hP hD hS hl.1 rfl rfl (Nat.le_of_ble_eq_true rfl) ⟨Nat.le_of_ble_eq_true rfl, Nat.le_of_ble_eq_true rfl⟩ dX10_steepestStep_5 (fun xo3 ce q9 H locs ho hP hD hS hce hcv hcl => ?_) (fun _ H locs ho hP hD hS => ?_)
  · subst ho
    have hf := jbM_l hf
    cases hf
    subst hQ
    exact rx_x xo3 rfl rfl htb hlk hK hP hD hS hce hcv hcl (Nat.le_of_ble_eq_true rfl) (Nat.le_of_ble_eq_true rfl)
  subst ho
  have hf := jbM_r hf
  refine lv_aload_n hx hb dX10_steepestStep_8 rfl (lv_at hl 0 rfl) ?_
  refine va_get (D := gD g) (ci := 9) (v := .ref (ha 1 0)) (C := RX10) (T := TX10) (N := 9) hx hb hts hinX10 hown hK hP 0 rfl rfl 0 (by decide) k0 (fun _ h9 => h9) rfl dX10_steepestStep_9 ?_
  refine lv_iload_n hx hb dX10_steepestStep_12 rfl (lv_at hl 1 rfl) ?_
  refine lv_iload_n hx hb dX10_steepestStep_13 rfl (lv_at hl 2 rfl) ?_
  obtain ⟨o5, g6, hf⟩ := jbB_e hf
  refine csn_i (As := [.int a0, .int a1]) (rest := [.ref (ha 1 0)]) ⟨hx, hb, hml, hown, hts⟩ (c_X3_cellAt l g a0 a1 _ g6) (va_cwS 2 hts gX10_steepestStep_X3_cellAt rfl rfl rfl hd_X3_cellAt ⟨Nat.le_of_ble_eq_true rfl, Nat.le_of_ble_eq_true rfl⟩) hK hZ hT hA hP hD hS hl.1 rfl rfl (Nat.le_of_ble_eq_true rfl) ⟨Nat.le_of_ble_eq_true rfl, Nat.le_of_ble_eq_true rfl⟩ dX10_steepestStep_14 (fun H locs hP hD hS => ?_)
  obtain ⟨o7, g8, hf⟩ := jbB_e hf
  refine cv_i (As := [.int o5]) (rest := []) (Wr := [0].filterMap (fun i => ((wT g ha tv ++ wQ g (ha 1) qv))[i]?)) ⟨hx, hb, hml, hown, hts⟩ (c_X7_steepestAt l g (ha 1) qv o5 _ g8) (cwV 1 hts gX10_steepestStep_X7_steepestAt rfl rfl rfl hd_X7_steepestAt ⟨Nat.le_of_ble_eq_true rfl, Nat.le_of_ble_eq_true rfl⟩) hK hZ hT hA hP hD hS hl.1 (va_recv hK hP (ci := 7) (q0 := 1) rfl rfl) [1, 2, 3, 4, 5, 6, 7, 8, 9, 10] [0] rfl rfl rfl rfl rfl rfl rfl (Nat.le_of_ble_eq_true rfl) ⟨Nat.le_of_ble_eq_true rfl, Nat.le_of_ble_eq_true rfl⟩ dX10_steepestStep_17 (fun H locs hP hD hS => ?_)
  have hP : va_P (gD g) vwCl (wT g ha tv ++ wQ g (ha 1) qv) H := hP.sub [0, 1, 2, 3, 4, 5, 6, 7, 8, 9, 10] rfl
  have hD : va_D A (wT g ha tv ++ wQ g (ha 1) qv) := hD.sub [0, 1, 2, 3, 4, 5, 6, 7, 8, 9, 10] rfl rfl
  cases hf
  subst hQ
  exact rx_i o7 rfl rfl hx hb hrt hlk rfl hK hP hD hS (Nat.le_of_ble_eq_true rfl) (Nat.le_of_ble_eq_true rfl) dX10_steepestStep_20
def f_X10_canCut (tv : TV) (qv : QV) (a0 : Int32) (a1 : Int32) : Option (Sum Nat Int32) :=
  (f_X3_cellFault a0 a1).bind fun o1 =>
  (f_X10_refuse o1).bind fun o3 => jbM o3 (fun xo3 => some (.inl xo3)) (fun _ =>
  (f_X7_cutFault qv a0 a1).bind fun o5 =>
  if o5 < 6 then
  if o5 = 0 then
  (some (.inr 1))
  else
  (some (.inr 0))
  else none)
def rm_X10_canCut : Room := { frames := 9, cells := 1, slots := 6, locals := 140 }
theorem hd_X10_canCut : yX10_canCut.cls = RX10 ∧ yX10_canCut.cls ≠ "java/lang/invoke/MethodHandle" ∧ yX10_canCut.cls ≠ "java/lang/invoke/VarHandle" ∧ (parseMethodDescriptor yX10_canCut.desc).map (fun d => d.parameters.length) = some 2 := by decide +kernel
set_option maxHeartbeats 4000000 in
set_option maxRecDepth 100000 in
theorem c_X10_canCut (l : Launch) (hlt : l.stackTraces = false) (g : GG) (ha : Nat → Nat → Nat) (tv : TV) (qv : QV) (a0 : Int32) (a1 : Int32) (out : Sum Nat Int32) (hf : f_X10_canCut tv qv a0 a1 = some out) : MxI l yX10_canCut wsX10_canCut rm_X10_canCut g (wT g ha tv ++ wQ g (ha 1) qv) [.ref (ha 0 0), .int a0, .int a1] out (fun x : Int32 => x) (fun x : Int32 => (wT g ha tv ++ wQ g (ha 1) qv)) (fun x : Nat => x) (fun x : Nat => (wT g ha tv ++ wQ g (ha 1) qv)) 1 6 := by
  refine fun sz => mx_of (cc := cX10_canCut) (maxL := 3) (ret := (some .boolean)) (own := RX10) (Qc := fun A => va_Qi (fun r (x : Int32) => out = .inr x ∧ r = x) (fun x t => PosM g A (wT g ha tv ++ wQ g (ha 1) qv) t) A) (XC := fun A => vx_X (fun (x : Nat) => out = .inl x) (fun E x t => E = exn x ∧ PosM g A (wT g ha tv ++ wQ g (ha 1) qv) t) A) (by decide +kernel) rfl rfl (Nat.le_of_ble_eq_true rfl) ?_ sz
  intro p e s mi below meth c A ls hB htb hrt hlk hP hD hl
  obtain ⟨hx, hb, hml, hown, hts, hK, hZ, hT, hA, -⟩ := hB
  have hS : va_S A s.heap s.heap [] := va_S.rf
  have hl : lv_has ls 3 [(0, .ref (ha 0 0)), (1, .int a0), (2, .int a1)] := hl
  have hinX10 : ∀ w ∈ wsX100, w ∈ wsX10_canCut := by decide +kernel
  have k0 := hts (.fieldLink RX10 10 "TerraceQuarry" "quarry" "LTerraceQuarry$Quarry;") (by decide +kernel)
  have k1 := hts (.fieldLink RX10 149 "TerraceQuarry$Fault" "NONE" "LTerraceQuarry$Fault;") (by decide +kernel)
  generalize hQ : vx_MQ below _ _ _ _ _ _ _ = Q
  unfold f_X10_canCut at hf
  refine lv_iload_n hx hb dX10_canCut_0 rfl (lv_at hl 1 rfl) ?_
  refine lv_iload_n hx hb dX10_canCut_1 rfl (lv_at hl 2 rfl) ?_
  obtain ⟨o1, g2, hf⟩ := jbB_e hf
  refine csn_e (As := [.int a0, .int a1]) (rest := []) ⟨hx, hb, hml, hown, hts⟩ (c_X3_cellFault l g a0 a1 _ g2) (va_cwS 2 hts gX10_canCut_X3_cellFault rfl rfl rfl hd_X3_cellFault ⟨Nat.le_of_ble_eq_true rfl, Nat.le_of_ble_eq_true rfl⟩) hK hZ hT hA hP hD hS hl.1 rfl rfl (Nat.le_of_ble_eq_true rfl) ⟨Nat.le_of_ble_eq_true rfl, Nat.le_of_ble_eq_true rfl⟩ dX10_canCut_2 (fun H locs hP hD hS => ?_)
  obtain ⟨o3, g4, hf⟩ := jbB_e hf
  refine cxn_v (As := [.ref (gS g 0 o1)]) (rest := []) ⟨hx, hb, hml, hown, hts⟩ (c_X10_refuse l hlt g o1 _ g4) (va_cwS 1 hts gX10_canCut_X10_refuse rfl rfl rfl hd_X10_refuse ⟨Nat.le_of_ble_eq_true rfl, Nat.le_of_ble_eq_true rfl⟩) hK hZ hT hA hP hD hS hl.1 rfl rfl (Nat.le_of_ble_eq_true rfl) ⟨Nat.le_of_ble_eq_true rfl, Nat.le_of_ble_eq_true rfl⟩ dX10_canCut_5 (fun xo3 ce q9 H locs ho hP hD hS hce hcv hcl => ?_) (fun _ H locs ho hP hD hS => ?_)
  · subst ho
    have hf := jbM_l hf
    cases hf
    subst hQ
    exact rx_x xo3 rfl rfl htb hlk hK hP hD hS hce hcv hcl (Nat.le_of_ble_eq_true rfl) (Nat.le_of_ble_eq_true rfl)
  subst ho
  have hf := jbM_r hf
  refine lv_aload_n hx hb dX10_canCut_8 rfl (lv_at hl 0 rfl) ?_
  refine va_get (D := gD g) (ci := 9) (v := .ref (ha 1 0)) (C := RX10) (T := TX10) (N := 9) hx hb hts hinX10 hown hK hP 0 rfl rfl 0 (by decide) k0 (fun _ h9 => h9) rfl dX10_canCut_9 ?_
  refine lv_iload_n hx hb dX10_canCut_12 rfl (lv_at hl 1 rfl) ?_
  refine lv_iload_n hx hb dX10_canCut_13 rfl (lv_at hl 2 rfl) ?_
  obtain ⟨o5, g6, hf⟩ := jbB_e hf
  refine cv_e (As := [.int a0, .int a1]) (rest := []) (Wr := [0].filterMap (fun i => ((wT g ha tv ++ wQ g (ha 1) qv))[i]?)) ⟨hx, hb, hml, hown, hts⟩ (c_X7_cutFault l g (ha 1) qv a0 a1 _ g6) (cwV 2 hts gX10_canCut_X7_cutFault rfl rfl rfl hd_X7_cutFault ⟨Nat.le_of_ble_eq_true rfl, Nat.le_of_ble_eq_true rfl⟩) hK hZ hT hA hP hD hS hl.1 (va_recv hK hP (ci := 7) (q0 := 1) rfl rfl) [1, 2, 3, 4, 5, 6, 7, 8, 9, 10] [0] rfl rfl rfl rfl rfl rfl rfl (Nat.le_of_ble_eq_true rfl) ⟨Nat.le_of_ble_eq_true rfl, Nat.le_of_ble_eq_true rfl⟩ dX10_canCut_14 (fun H locs hP hD hS => ?_)
  have hP : va_P (gD g) vwCl (wT g ha tv ++ wQ g (ha 1) qv) H := hP.sub [0, 1, 2, 3, 4, 5, 6, 7, 8, 9, 10] rfl
  have hD : va_D A (wT g ha tv ++ wQ g (ha 1) qv) := hD.sub [0, 1, 2, 3, 4, 5, 6, 7, 8, 9, 10] rfl rfl
  refine va_gets (C := "TerraceQuarry$Fault") (n := "NONE") (d := "LTerraceQuarry$Fault;") (v := .ref (gS g 0 0)) hx hb (hZ.1.1 0 (by decide)).1 hS hown k1 (fun _ h9 => h9) dX10_canCut_17 ?_
  obtain ⟨h7, hf⟩ := jbA_e hf
  refine lv_acmp_ne (rx := some (gS g 0 o5)) (ry := some (gS g 0 0)) (tgt := 27) hx hb dX10_canCut_20 (by decide) (fun hc => ?_) (fun hc => ?_)
  · have hf := jbF hf (enN hc)
    refine lv_iconst (v := 0) hx hb dX10_canCut_27 (by decide) ?_
    cases hf
    subst hQ
    exact rx_i 0 rfl rfl hx hb hrt hlk nar_0 hK hP hD hS (Nat.le_of_ble_eq_true rfl) (Nat.le_of_ble_eq_true rfl) dX10_canCut_28
  · have hf := jbT hf (enF hZ h7 (by decide) hc)
    refine lv_iconst (v := 1) hx hb dX10_canCut_23 (by decide) ?_
    refine lv_goto (tgt := 28) hx hb dX10_canCut_24 (by decide) ?_
    cases hf
    subst hQ
    exact rx_i 1 rfl rfl hx hb hrt hlk nar_1 hK hP hD hS (Nat.le_of_ble_eq_true rfl) (Nat.le_of_ble_eq_true rfl) dX10_canCut_28
def f_X10_cuttableCells (tv : TV) (qv : QV) : Option Int32 :=
  (f_X7_countCuttable qv).bind fun o1 =>
  some o1
def rm_X10_cuttableCells : Room := { frames := 4, cells := 0, slots := 0, locals := 95 }
theorem hd_X10_cuttableCells : yX10_cuttableCells.cls = RX10 ∧ yX10_cuttableCells.cls ≠ "java/lang/invoke/MethodHandle" ∧ yX10_cuttableCells.cls ≠ "java/lang/invoke/VarHandle" ∧ (parseMethodDescriptor yX10_cuttableCells.desc).map (fun d => d.parameters.length) = some 0 := by decide +kernel
set_option maxHeartbeats 4000000 in
set_option maxRecDepth 100000 in
theorem c_X10_cuttableCells (l : Launch) (hlt : l.stackTraces = false) (g : GG) (ha : Nat → Nat → Nat) (tv : TV) (qv : QV)  (out : Int32) (hf : f_X10_cuttableCells tv qv = some out) : MtI l yX10_cuttableCells wsX10_cuttableCells rm_X10_cuttableCells g (wT g ha tv ++ wQ g (ha 1) qv) [.ref (ha 0 0)] out (wT g ha tv ++ wQ g (ha 1) qv) 0 0 := by
  refine fun sz => mt_of (cc := cX10_cuttableCells) (maxL := 1) (ret := (some .int)) (own := RX10) (Qc := fun A => va_Qi (fun r (_ : Unit) => r = out) (fun _ t => PosM g A (wT g ha tv ++ wQ g (ha 1) qv) t) A) (by decide +kernel) rfl rfl (Nat.le_of_ble_eq_true rfl) ?_ sz
  intro p e s mi below meth c A ls hB hnm hrt hlk hP hD hl
  obtain ⟨hx, hb, hml, hown, hts, hK, hZ, hT, hA, -⟩ := hB
  have hS : va_S A s.heap s.heap [] := va_S.rf
  have hl : lv_has ls 1 [(0, .ref (ha 0 0))] := hl
  have hinX10 : ∀ w ∈ wsX100, w ∈ wsX10_cuttableCells := by decide +kernel
  have k0 := hts (.fieldLink RX10 10 "TerraceQuarry" "quarry" "LTerraceQuarry$Quarry;") (by decide +kernel)
  generalize hQ : MQ below _ _ _ _ _ _ = Q
  unfold f_X10_cuttableCells at hf
  refine lv_aload_n hx hb dX10_cuttableCells_0 rfl (lv_at hl 0 rfl) ?_
  refine va_get (D := gD g) (ci := 9) (v := .ref (ha 1 0)) (C := RX10) (T := TX10) (N := 9) hx hb hts hinX10 hown hK hP 0 rfl rfl 0 (by decide) k0 (fun _ h9 => h9) rfl dX10_cuttableCells_1 ?_
  obtain ⟨o1, g2, hf⟩ := jbB_e hf
  refine cv_i (As := []) (rest := []) (Wr := [0].filterMap (fun i => ((wT g ha tv ++ wQ g (ha 1) qv))[i]?)) ⟨hx, hb, hml, hown, hts⟩ (c_X7_countCuttable l g (ha 1) qv _ g2) (cwV 0 hts gX10_cuttableCells_X7_countCuttable rfl rfl rfl hd_X7_countCuttable ⟨Nat.le_of_ble_eq_true rfl, Nat.le_of_ble_eq_true rfl⟩) hK hZ hT hA hP hD hS hl.1 (va_recv hK hP (ci := 7) (q0 := 1) rfl rfl) [1, 2, 3, 4, 5, 6, 7, 8, 9, 10] [0] rfl rfl rfl rfl rfl rfl rfl (Nat.le_of_ble_eq_true rfl) ⟨Nat.le_of_ble_eq_true rfl, Nat.le_of_ble_eq_true rfl⟩ dX10_cuttableCells_4 (fun H locs hP hD hS => ?_)
  have hP : va_P (gD g) vwCl (wT g ha tv ++ wQ g (ha 1) qv) H := hP.sub [0, 1, 2, 3, 4, 5, 6, 7, 8, 9, 10] rfl
  have hD : va_D A (wT g ha tv ++ wQ g (ha 1) qv) := hD.sub [0, 1, 2, 3, 4, 5, 6, 7, 8, 9, 10] rfl rfl
  cases hf
  subst hQ
  exact rt_i hx hb hrt hlk rfl hK hP hD hS (Nat.le_of_ble_eq_true rfl) (Nat.le_of_ble_eq_true rfl) dX10_cuttableCells_7
def f_X10_cellsAt (tv : TV) (qv : QV) (a0 : Int32) : Option (Sum Nat Int32) :=
  (f_X7_heightFault a0).bind fun o1 =>
  (f_X10_refuse o1).bind fun o3 => jbM o3 (fun xo3 => some (.inl xo3)) (fun _ =>
  (f_X7_countAt qv a0).bind fun o5 =>
  some (.inr o5))
def rm_X10_cellsAt : Room := { frames := 9, cells := 1, slots := 6, locals := 140 }
theorem hd_X10_cellsAt : yX10_cellsAt.cls = RX10 ∧ yX10_cellsAt.cls ≠ "java/lang/invoke/MethodHandle" ∧ yX10_cellsAt.cls ≠ "java/lang/invoke/VarHandle" ∧ (parseMethodDescriptor yX10_cellsAt.desc).map (fun d => d.parameters.length) = some 1 := by decide +kernel
set_option maxHeartbeats 4000000 in
set_option maxRecDepth 100000 in
theorem c_X10_cellsAt (l : Launch) (hlt : l.stackTraces = false) (g : GG) (ha : Nat → Nat → Nat) (tv : TV) (qv : QV) (a0 : Int32) (out : Sum Nat Int32) (hf : f_X10_cellsAt tv qv a0 = some out) : MxI l yX10_cellsAt wsX10_cellsAt rm_X10_cellsAt g (wT g ha tv ++ wQ g (ha 1) qv) [.ref (ha 0 0), .int a0] out (fun x : Int32 => x) (fun x : Int32 => (wT g ha tv ++ wQ g (ha 1) qv)) (fun x : Nat => x) (fun x : Nat => (wT g ha tv ++ wQ g (ha 1) qv)) 1 6 := by
  refine fun sz => mx_of (cc := cX10_cellsAt) (maxL := 2) (ret := (some .int)) (own := RX10) (Qc := fun A => va_Qi (fun r (x : Int32) => out = .inr x ∧ r = x) (fun x t => PosM g A (wT g ha tv ++ wQ g (ha 1) qv) t) A) (XC := fun A => vx_X (fun (x : Nat) => out = .inl x) (fun E x t => E = exn x ∧ PosM g A (wT g ha tv ++ wQ g (ha 1) qv) t) A) (by decide +kernel) rfl rfl (Nat.le_of_ble_eq_true rfl) ?_ sz
  intro p e s mi below meth c A ls hB htb hrt hlk hP hD hl
  obtain ⟨hx, hb, hml, hown, hts, hK, hZ, hT, hA, -⟩ := hB
  have hS : va_S A s.heap s.heap [] := va_S.rf
  have hl : lv_has ls 2 [(0, .ref (ha 0 0)), (1, .int a0)] := hl
  have hinX10 : ∀ w ∈ wsX100, w ∈ wsX10_cellsAt := by decide +kernel
  have k0 := hts (.fieldLink RX10 10 "TerraceQuarry" "quarry" "LTerraceQuarry$Quarry;") (by decide +kernel)
  generalize hQ : vx_MQ below _ _ _ _ _ _ _ = Q
  unfold f_X10_cellsAt at hf
  refine lv_iload_n hx hb dX10_cellsAt_0 rfl (lv_at hl 1 rfl) ?_
  obtain ⟨o1, g2, hf⟩ := jbB_e hf
  refine csn_e (As := [.int a0]) (rest := []) ⟨hx, hb, hml, hown, hts⟩ (c_X7_heightFault l g a0 _ g2) (va_cwS 1 hts gX10_cellsAt_X7_heightFault rfl rfl rfl hd_X7_heightFault ⟨Nat.le_of_ble_eq_true rfl, Nat.le_of_ble_eq_true rfl⟩) hK hZ hT hA hP hD hS hl.1 rfl rfl (Nat.le_of_ble_eq_true rfl) ⟨Nat.le_of_ble_eq_true rfl, Nat.le_of_ble_eq_true rfl⟩ dX10_cellsAt_1 (fun H locs hP hD hS => ?_)
  obtain ⟨o3, g4, hf⟩ := jbB_e hf
  refine cxn_v (As := [.ref (gS g 0 o1)]) (rest := []) ⟨hx, hb, hml, hown, hts⟩ (c_X10_refuse l hlt g o1 _ g4) (va_cwS 1 hts gX10_cellsAt_X10_refuse rfl rfl rfl hd_X10_refuse ⟨Nat.le_of_ble_eq_true rfl, Nat.le_of_ble_eq_true rfl⟩) hK hZ hT hA hP hD hS hl.1 rfl rfl (Nat.le_of_ble_eq_true rfl) ⟨Nat.le_of_ble_eq_true rfl, Nat.le_of_ble_eq_true rfl⟩ dX10_cellsAt_4 (fun xo3 ce q9 H locs ho hP hD hS hce hcv hcl => ?_) (fun _ H locs ho hP hD hS => ?_)
  · subst ho
    have hf := jbM_l hf
    cases hf
    subst hQ
    exact rx_x xo3 rfl rfl htb hlk hK hP hD hS hce hcv hcl (Nat.le_of_ble_eq_true rfl) (Nat.le_of_ble_eq_true rfl)
  subst ho
  have hf := jbM_r hf
  refine lv_aload_n hx hb dX10_cellsAt_7 rfl (lv_at hl 0 rfl) ?_
  refine va_get (D := gD g) (ci := 9) (v := .ref (ha 1 0)) (C := RX10) (T := TX10) (N := 9) hx hb hts hinX10 hown hK hP 0 rfl rfl 0 (by decide) k0 (fun _ h9 => h9) rfl dX10_cellsAt_8 ?_
  refine lv_iload_n hx hb dX10_cellsAt_11 rfl (lv_at hl 1 rfl) ?_
  obtain ⟨o5, g6, hf⟩ := jbB_e hf
  refine cv_i (As := [.int a0]) (rest := []) (Wr := [0].filterMap (fun i => ((wT g ha tv ++ wQ g (ha 1) qv))[i]?)) ⟨hx, hb, hml, hown, hts⟩ (c_X7_countAt l g (ha 1) qv a0 _ g6) (cwV 1 hts gX10_cellsAt_X7_countAt rfl rfl rfl hd_X7_countAt ⟨Nat.le_of_ble_eq_true rfl, Nat.le_of_ble_eq_true rfl⟩) hK hZ hT hA hP hD hS hl.1 (va_recv hK hP (ci := 7) (q0 := 1) rfl rfl) [1, 2, 3, 4, 5, 6, 7, 8, 9, 10] [0] rfl rfl rfl rfl rfl rfl rfl (Nat.le_of_ble_eq_true rfl) ⟨Nat.le_of_ble_eq_true rfl, Nat.le_of_ble_eq_true rfl⟩ dX10_cellsAt_12 (fun H locs hP hD hS => ?_)
  have hP : va_P (gD g) vwCl (wT g ha tv ++ wQ g (ha 1) qv) H := hP.sub [0, 1, 2, 3, 4, 5, 6, 7, 8, 9, 10] rfl
  have hD : va_D A (wT g ha tv ++ wQ g (ha 1) qv) := hD.sub [0, 1, 2, 3, 4, 5, 6, 7, 8, 9, 10] rfl rfl
  cases hf
  subst hQ
  exact rx_i o5 rfl rfl hx hb hrt hlk rfl hK hP hD hS (Nat.le_of_ble_eq_true rfl) (Nat.le_of_ble_eq_true rfl) dX10_cellsAt_15
def f_X10_cutsToLower (tv : TV) (qv : QV) (a0 : Int32) (a1 : Int32) (a2 : Int32) : Option (Sum Nat Int32) :=
  (f_X7_lowerFault qv a0 a1 a2).bind fun o1 =>
  (f_X10_refuse o1).bind fun o3 => jbM o3 (fun xo3 => some (.inl xo3)) (fun _ =>
  (f_X3_cellAt a0 a1).bind fun o5 =>
  (f_X7_cutsByDistance qv o5 a2).bind fun o7 =>
  some (.inr o7))
def rm_X10_cutsToLower : Room := { frames := 9, cells := 1, slots := 6, locals := 140 }
theorem hd_X10_cutsToLower : yX10_cutsToLower.cls = RX10 ∧ yX10_cutsToLower.cls ≠ "java/lang/invoke/MethodHandle" ∧ yX10_cutsToLower.cls ≠ "java/lang/invoke/VarHandle" ∧ (parseMethodDescriptor yX10_cutsToLower.desc).map (fun d => d.parameters.length) = some 3 := by decide +kernel
set_option maxHeartbeats 4000000 in
set_option maxRecDepth 100000 in
theorem c_X10_cutsToLower (l : Launch) (hlt : l.stackTraces = false) (g : GG) (ha : Nat → Nat → Nat) (tv : TV) (qv : QV) (a0 : Int32) (a1 : Int32) (a2 : Int32) (out : Sum Nat Int32) (hf : f_X10_cutsToLower tv qv a0 a1 a2 = some out) : MxI l yX10_cutsToLower wsX10_cutsToLower rm_X10_cutsToLower g (wT g ha tv ++ wQ g (ha 1) qv) [.ref (ha 0 0), .int a0, .int a1, .int a2] out (fun x : Int32 => x) (fun x : Int32 => (wT g ha tv ++ wQ g (ha 1) qv)) (fun x : Nat => x) (fun x : Nat => (wT g ha tv ++ wQ g (ha 1) qv)) 1 6 := by
  refine fun sz => mx_of (cc := cX10_cutsToLower) (maxL := 4) (ret := (some .int)) (own := RX10) (Qc := fun A => va_Qi (fun r (x : Int32) => out = .inr x ∧ r = x) (fun x t => PosM g A (wT g ha tv ++ wQ g (ha 1) qv) t) A) (XC := fun A => vx_X (fun (x : Nat) => out = .inl x) (fun E x t => E = exn x ∧ PosM g A (wT g ha tv ++ wQ g (ha 1) qv) t) A) (by decide +kernel) rfl rfl (Nat.le_of_ble_eq_true rfl) ?_ sz
  intro p e s mi below meth c A ls hB htb hrt hlk hP hD hl
  obtain ⟨hx, hb, hml, hown, hts, hK, hZ, hT, hA, -⟩ := hB
  have hS : va_S A s.heap s.heap [] := va_S.rf
  have hl : lv_has ls 4 [(0, .ref (ha 0 0)), (1, .int a0), (2, .int a1), (3, .int a2)] := hl
  have hinX10 : ∀ w ∈ wsX100, w ∈ wsX10_cutsToLower := by decide +kernel
  have k0 := hts (.fieldLink RX10 10 "TerraceQuarry" "quarry" "LTerraceQuarry$Quarry;") (by decide +kernel)
  generalize hQ : vx_MQ below _ _ _ _ _ _ _ = Q
  unfold f_X10_cutsToLower at hf
  refine lv_aload_n hx hb dX10_cutsToLower_0 rfl (lv_at hl 0 rfl) ?_
  refine va_get (D := gD g) (ci := 9) (v := .ref (ha 1 0)) (C := RX10) (T := TX10) (N := 9) hx hb hts hinX10 hown hK hP 0 rfl rfl 0 (by decide) k0 (fun _ h9 => h9) rfl dX10_cutsToLower_1 ?_
  refine lv_iload_n hx hb dX10_cutsToLower_4 rfl (lv_at hl 1 rfl) ?_
  refine lv_iload_n hx hb dX10_cutsToLower_5 rfl (lv_at hl 2 rfl) ?_
  refine lv_iload_n hx hb dX10_cutsToLower_6 rfl (lv_at hl 3 rfl) ?_
  obtain ⟨o1, g2, hf⟩ := jbB_e hf
  refine cv_e (As := [.int a0, .int a1, .int a2]) (rest := []) (Wr := [0].filterMap (fun i => ((wT g ha tv ++ wQ g (ha 1) qv))[i]?)) ⟨hx, hb, hml, hown, hts⟩ (c_X7_lowerFault l g (ha 1) qv a0 a1 a2 _ g2) (cwV 3 hts gX10_cutsToLower_X7_lowerFault rfl rfl rfl hd_X7_lowerFault ⟨Nat.le_of_ble_eq_true rfl, Nat.le_of_ble_eq_true rfl⟩) hK hZ hT hA hP hD hS hl.1 (va_recv hK hP (ci := 7) (q0 := 1) rfl rfl) [1, 2, 3, 4, 5, 6, 7, 8, 9, 10] [0] rfl rfl rfl rfl rfl rfl rfl (Nat.le_of_ble_eq_true rfl) ⟨Nat.le_of_ble_eq_true rfl, Nat.le_of_ble_eq_true rfl⟩ dX10_cutsToLower_7 (fun H locs hP hD hS => ?_)
  have hP : va_P (gD g) vwCl (wT g ha tv ++ wQ g (ha 1) qv) H := hP.sub [0, 1, 2, 3, 4, 5, 6, 7, 8, 9, 10] rfl
  have hD : va_D A (wT g ha tv ++ wQ g (ha 1) qv) := hD.sub [0, 1, 2, 3, 4, 5, 6, 7, 8, 9, 10] rfl rfl
  obtain ⟨o3, g4, hf⟩ := jbB_e hf
  refine cxn_v (As := [.ref (gS g 0 o1)]) (rest := []) ⟨hx, hb, hml, hown, hts⟩ (c_X10_refuse l hlt g o1 _ g4) (va_cwS 1 hts gX10_cutsToLower_X10_refuse rfl rfl rfl hd_X10_refuse ⟨Nat.le_of_ble_eq_true rfl, Nat.le_of_ble_eq_true rfl⟩) hK hZ hT hA hP hD hS hl.1 rfl rfl (Nat.le_of_ble_eq_true rfl) ⟨Nat.le_of_ble_eq_true rfl, Nat.le_of_ble_eq_true rfl⟩ dX10_cutsToLower_10 (fun xo3 ce q9 H locs ho hP hD hS hce hcv hcl => ?_) (fun _ H locs ho hP hD hS => ?_)
  · subst ho
    have hf := jbM_l hf
    cases hf
    subst hQ
    exact rx_x xo3 rfl rfl htb hlk hK hP hD hS hce hcv hcl (Nat.le_of_ble_eq_true rfl) (Nat.le_of_ble_eq_true rfl)
  subst ho
  have hf := jbM_r hf
  refine lv_aload_n hx hb dX10_cutsToLower_13 rfl (lv_at hl 0 rfl) ?_
  refine va_get (D := gD g) (ci := 9) (v := .ref (ha 1 0)) (C := RX10) (T := TX10) (N := 9) hx hb hts hinX10 hown hK hP 0 rfl rfl 0 (by decide) k0 (fun _ h9 => h9) rfl dX10_cutsToLower_14 ?_
  refine lv_iload_n hx hb dX10_cutsToLower_17 rfl (lv_at hl 1 rfl) ?_
  refine lv_iload_n hx hb dX10_cutsToLower_18 rfl (lv_at hl 2 rfl) ?_
  obtain ⟨o5, g6, hf⟩ := jbB_e hf
  refine csn_i (As := [.int a0, .int a1]) (rest := [.ref (ha 1 0)]) ⟨hx, hb, hml, hown, hts⟩ (c_X3_cellAt l g a0 a1 _ g6) (va_cwS 2 hts gX10_cutsToLower_X3_cellAt rfl rfl rfl hd_X3_cellAt ⟨Nat.le_of_ble_eq_true rfl, Nat.le_of_ble_eq_true rfl⟩) hK hZ hT hA hP hD hS hl.1 rfl rfl (Nat.le_of_ble_eq_true rfl) ⟨Nat.le_of_ble_eq_true rfl, Nat.le_of_ble_eq_true rfl⟩ dX10_cutsToLower_19 (fun H locs hP hD hS => ?_)
  refine lv_iload_n hx hb dX10_cutsToLower_22 rfl (lv_at hl 3 rfl) ?_
  obtain ⟨o7, g8, hf⟩ := jbB_e hf
  refine cv_i (As := [.int o5, .int a2]) (rest := []) (Wr := [0].filterMap (fun i => ((wT g ha tv ++ wQ g (ha 1) qv))[i]?)) ⟨hx, hb, hml, hown, hts⟩ (c_X7_cutsByDistance l g (ha 1) qv o5 a2 _ g8) (cwV 2 hts gX10_cutsToLower_X7_cutsByDistance rfl rfl rfl hd_X7_cutsByDistance ⟨Nat.le_of_ble_eq_true rfl, Nat.le_of_ble_eq_true rfl⟩) hK hZ hT hA hP hD hS hl.1 (va_recv hK hP (ci := 7) (q0 := 1) rfl rfl) [1, 2, 3, 4, 5, 6, 7, 8, 9, 10] [0] rfl rfl rfl rfl rfl rfl rfl (Nat.le_of_ble_eq_true rfl) ⟨Nat.le_of_ble_eq_true rfl, Nat.le_of_ble_eq_true rfl⟩ dX10_cutsToLower_23 (fun H locs hP hD hS => ?_)
  have hP : va_P (gD g) vwCl (wT g ha tv ++ wQ g (ha 1) qv) H := hP.sub [0, 1, 2, 3, 4, 5, 6, 7, 8, 9, 10] rfl
  have hD : va_D A (wT g ha tv ++ wQ g (ha 1) qv) := hD.sub [0, 1, 2, 3, 4, 5, 6, 7, 8, 9, 10] rfl rfl
  cases hf
  subst hQ
  exact rx_i o7 rfl rfl hx hb hrt hlk rfl hK hP hD hS (Nat.le_of_ble_eq_true rfl) (Nat.le_of_ble_eq_true rfl) dX10_cutsToLower_26
def f_X10_cutsToLowerBySpreading (tv : TV) (qv : QV) (sv : SV) (a0 : Int32) (a1 : Int32) (a2 : Int32) : Option (Sum (Nat × SV) (Int32 × SV)) :=
  (f_X7_lowerFault qv a0 a1 a2).bind fun o1 =>
  (f_X10_refuse o1).bind fun o3 => jbM o3 (fun xo3 => some (.inl (xo3, sv))) (fun _ =>
  (f_X3_cellAt a0 a1).bind fun o5 =>
  (f_X8_cutsBySpreading sv qv o5 a2).bind fun o7 =>
  some (.inr ((o7.1), (o7.2))))
def rm_X10_cutsToLowerBySpreading : Room := { frames := 9, cells := 1, slots := 6, locals := 140 }
theorem hd_X10_cutsToLowerBySpreading : yX10_cutsToLowerBySpreading.cls = RX10 ∧ yX10_cutsToLowerBySpreading.cls ≠ "java/lang/invoke/MethodHandle" ∧ yX10_cutsToLowerBySpreading.cls ≠ "java/lang/invoke/VarHandle" ∧ (parseMethodDescriptor yX10_cutsToLowerBySpreading.desc).map (fun d => d.parameters.length) = some 3 := by decide +kernel
set_option maxHeartbeats 4000000 in
set_option maxRecDepth 100000 in
theorem c_X10_cutsToLowerBySpreading (l : Launch) (hlt : l.stackTraces = false) (g : GG) (ha : Nat → Nat → Nat) (tv : TV) (qv : QV) (sv : SV) (a0 : Int32) (a1 : Int32) (a2 : Int32) (out : Sum (Nat × SV) (Int32 × SV)) (hf : f_X10_cutsToLowerBySpreading tv qv sv a0 a1 a2 = some out) : MxI l yX10_cutsToLowerBySpreading wsX10_cutsToLowerBySpreading rm_X10_cutsToLowerBySpreading g (wT g ha tv ++ wQ g (ha 1) qv ++ wS g (ha 3) sv) [.ref (ha 0 0), .int a0, .int a1, .int a2] out (fun x : Int32 × SV => (x.1)) (fun x : Int32 × SV => (wT g ha tv ++ wQ g (ha 1) qv ++ wS g (ha 3) (x.2))) (fun x : Nat × SV => (x.1)) (fun x : Nat × SV => (wT g ha tv ++ wQ g (ha 1) qv ++ wS g (ha 3) (x.2))) 1 6 := by
  refine fun sz => mx_of (cc := cX10_cutsToLowerBySpreading) (maxL := 4) (ret := (some .int)) (own := RX10) (Qc := fun A => va_Qi (fun r (x : Int32 × SV) => out = .inr x ∧ r = (x.1)) (fun x t => PosM g A (wT g ha tv ++ wQ g (ha 1) qv ++ wS g (ha 3) (x.2)) t) A) (XC := fun A => vx_X (fun (x : Nat × SV) => out = .inl x) (fun E x t => E = exn (x.1) ∧ PosM g A (wT g ha tv ++ wQ g (ha 1) qv ++ wS g (ha 3) (x.2)) t) A) (by decide +kernel) rfl rfl (Nat.le_of_ble_eq_true rfl) ?_ sz
  intro p e s mi below meth c A ls hB htb hrt hlk hP hD hl
  obtain ⟨hx, hb, hml, hown, hts, hK, hZ, hT, hA, -⟩ := hB
  have hS : va_S A s.heap s.heap [] := va_S.rf
  have hl : lv_has ls 4 [(0, .ref (ha 0 0)), (1, .int a0), (2, .int a1), (3, .int a2)] := hl
  have hinX10 : ∀ w ∈ wsX100, w ∈ wsX10_cutsToLowerBySpreading := by decide +kernel
  have k0 := hts (.fieldLink RX10 10 "TerraceQuarry" "quarry" "LTerraceQuarry$Quarry;") (by decide +kernel)
  have k1 := hts (.fieldLink RX10 22 "TerraceQuarry" "survey" "LTerraceQuarry$Survey;") (by decide +kernel)
  generalize hQ : vx_MQ below _ _ _ _ _ _ _ = Q
  unfold f_X10_cutsToLowerBySpreading at hf
  refine lv_aload_n hx hb dX10_cutsToLowerBySpreading_0 rfl (lv_at hl 0 rfl) ?_
  refine va_get (D := gD g) (ci := 9) (v := .ref (ha 1 0)) (C := RX10) (T := TX10) (N := 9) hx hb hts hinX10 hown hK hP 0 rfl rfl 0 (by decide) k0 (fun _ h9 => h9) rfl dX10_cutsToLowerBySpreading_1 ?_
  refine lv_iload_n hx hb dX10_cutsToLowerBySpreading_4 rfl (lv_at hl 1 rfl) ?_
  refine lv_iload_n hx hb dX10_cutsToLowerBySpreading_5 rfl (lv_at hl 2 rfl) ?_
  refine lv_iload_n hx hb dX10_cutsToLowerBySpreading_6 rfl (lv_at hl 3 rfl) ?_
  obtain ⟨o1, g2, hf⟩ := jbB_e hf
  refine cv_e (As := [.int a0, .int a1, .int a2]) (rest := []) (Wr := [0, 11, 12, 13, 14, 15, 16].filterMap (fun i => ((wT g ha tv ++ wQ g (ha 1) qv ++ wS g (ha 3) sv))[i]?)) ⟨hx, hb, hml, hown, hts⟩ (c_X7_lowerFault l g (ha 1) qv a0 a1 a2 _ g2) (cwV 3 hts gX10_cutsToLowerBySpreading_X7_lowerFault rfl rfl rfl hd_X7_lowerFault ⟨Nat.le_of_ble_eq_true rfl, Nat.le_of_ble_eq_true rfl⟩) hK hZ hT hA hP hD hS hl.1 (va_recv hK hP (ci := 7) (q0 := 1) rfl rfl) [1, 2, 3, 4, 5, 6, 7, 8, 9, 10] [0, 11, 12, 13, 14, 15, 16] rfl rfl rfl rfl rfl rfl rfl (Nat.le_of_ble_eq_true rfl) ⟨Nat.le_of_ble_eq_true rfl, Nat.le_of_ble_eq_true rfl⟩ dX10_cutsToLowerBySpreading_7 (fun H locs hP hD hS => ?_)
  have hP : va_P (gD g) vwCl (wT g ha tv ++ wQ g (ha 1) qv ++ wS g (ha 3) sv) H := hP.sub [0, 7, 8, 9, 10, 11, 12, 13, 14, 15, 16, 1, 2, 3, 4, 5, 6] rfl
  have hD : va_D A (wT g ha tv ++ wQ g (ha 1) qv ++ wS g (ha 3) sv) := hD.sub [0, 7, 8, 9, 10, 11, 12, 13, 14, 15, 16, 1, 2, 3, 4, 5, 6] rfl rfl
  obtain ⟨o3, g4, hf⟩ := jbB_e hf
  refine cxn_v (As := [.ref (gS g 0 o1)]) (rest := []) ⟨hx, hb, hml, hown, hts⟩ (c_X10_refuse l hlt g o1 _ g4) (va_cwS 1 hts gX10_cutsToLowerBySpreading_X10_refuse rfl rfl rfl hd_X10_refuse ⟨Nat.le_of_ble_eq_true rfl, Nat.le_of_ble_eq_true rfl⟩) hK hZ hT hA hP hD hS hl.1 rfl rfl (Nat.le_of_ble_eq_true rfl) ⟨Nat.le_of_ble_eq_true rfl, Nat.le_of_ble_eq_true rfl⟩ dX10_cutsToLowerBySpreading_10 (fun xo3 ce q9 H locs ho hP hD hS hce hcv hcl => ?_) (fun _ H locs ho hP hD hS => ?_)
  · subst ho
    have hf := jbM_l hf
    cases hf
    subst hQ
    exact rx_x (xo3, sv) rfl rfl htb hlk hK hP hD hS hce hcv hcl (Nat.le_of_ble_eq_true rfl) (Nat.le_of_ble_eq_true rfl)
  subst ho
  have hf := jbM_r hf
  refine lv_aload_n hx hb dX10_cutsToLowerBySpreading_13 rfl (lv_at hl 0 rfl) ?_
  refine va_get (D := gD g) (ci := 9) (v := .ref (ha 3 0)) (C := RX10) (T := TX10) (N := 9) hx hb hts hinX10 hown hK hP 0 rfl rfl 2 (by decide) k1 (fun _ h9 => h9) rfl dX10_cutsToLowerBySpreading_14 ?_
  refine lv_aload_n hx hb dX10_cutsToLowerBySpreading_17 rfl (lv_at hl 0 rfl) ?_
  refine va_get (D := gD g) (ci := 9) (v := .ref (ha 1 0)) (C := RX10) (T := TX10) (N := 9) hx hb hts hinX10 hown hK hP 0 rfl rfl 0 (by decide) k0 (fun _ h9 => h9) rfl dX10_cutsToLowerBySpreading_18 ?_
  refine lv_iload_n hx hb dX10_cutsToLowerBySpreading_21 rfl (lv_at hl 1 rfl) ?_
  refine lv_iload_n hx hb dX10_cutsToLowerBySpreading_22 rfl (lv_at hl 2 rfl) ?_
  obtain ⟨o5, g6, hf⟩ := jbB_e hf
  refine csn_i (As := [.int a0, .int a1]) (rest := [.ref (ha 1 0), .ref (ha 3 0)]) ⟨hx, hb, hml, hown, hts⟩ (c_X3_cellAt l g a0 a1 _ g6) (va_cwS 2 hts gX10_cutsToLowerBySpreading_X3_cellAt rfl rfl rfl hd_X3_cellAt ⟨Nat.le_of_ble_eq_true rfl, Nat.le_of_ble_eq_true rfl⟩) hK hZ hT hA hP hD hS hl.1 rfl rfl (Nat.le_of_ble_eq_true rfl) ⟨Nat.le_of_ble_eq_true rfl, Nat.le_of_ble_eq_true rfl⟩ dX10_cutsToLowerBySpreading_23 (fun H locs hP hD hS => ?_)
  refine lv_iload_n hx hb dX10_cutsToLowerBySpreading_26 rfl (lv_at hl 3 rfl) ?_
  obtain ⟨o7, g8, hf⟩ := jbB_e hf
  refine cv_i (As := [.ref (ha 1 0), .int o5, .int a2]) (rest := []) (Wr := [0].filterMap (fun i => ((wT g ha tv ++ wQ g (ha 1) qv ++ wS g (ha 3) sv))[i]?)) ⟨hx, hb, hml, hown, hts⟩ (c_X8_cutsBySpreading l g (ha 3) sv (ha 1) qv o5 a2 _ g8) (cwV 3 hts gX10_cutsToLowerBySpreading_X8_cutsBySpreading rfl rfl rfl hd_X8_cutsBySpreading ⟨Nat.le_of_ble_eq_true rfl, Nat.le_of_ble_eq_true rfl⟩) hK hZ hT hA hP hD hS hl.1 (va_recv hK hP (ci := 8) (q0 := 11) rfl rfl) [11, 12, 13, 14, 15, 16, 1, 2, 3, 4, 5, 6, 7, 8, 9, 10] [0] rfl rfl rfl rfl rfl rfl rfl (Nat.le_of_ble_eq_true rfl) ⟨Nat.le_of_ble_eq_true rfl, Nat.le_of_ble_eq_true rfl⟩ dX10_cutsToLowerBySpreading_27 (fun H locs hP hD hS => ?_)
  have hP : va_P (gD g) vwCl (wT g ha tv ++ wQ g (ha 1) qv ++ wS g (ha 3) (o7.2)) H := hP.sub [0, 7, 8, 9, 10, 11, 12, 13, 14, 15, 16, 1, 2, 3, 4, 5, 6] rfl
  have hD : va_D A (wT g ha tv ++ wQ g (ha 1) qv ++ wS g (ha 3) (o7.2)) := hD.sub [0, 7, 8, 9, 10, 11, 12, 13, 14, 15, 16, 1, 2, 3, 4, 5, 6] rfl rfl
  cases hf
  subst hQ
  exact rx_i ((o7.1), (o7.2)) rfl rfl hx hb hrt hlk rfl hK hP hD hS (Nat.le_of_ble_eq_true rfl) (Nat.le_of_ble_eq_true rfl) dX10_cutsToLowerBySpreading_30
def f_X10_seamSize (tv : TV) (qv : QV) (sv : SV) (a0 : Int32) (a1 : Int32) : Option (Sum (Nat × SV) (Int32 × SV)) :=
  (f_X3_cellFault a0 a1).bind fun o1 =>
  (f_X10_refuse o1).bind fun o3 => jbM o3 (fun xo3 => some (.inl (xo3, sv))) (fun _ =>
  (f_X3_cellAt a0 a1).bind fun o5 =>
  (f_X8_sizeOfSeam sv qv o5).bind fun o7 =>
  some (.inr ((o7.1), (o7.2))))
def rm_X10_seamSize : Room := { frames := 9, cells := 1, slots := 6, locals := 140 }
theorem hd_X10_seamSize : yX10_seamSize.cls = RX10 ∧ yX10_seamSize.cls ≠ "java/lang/invoke/MethodHandle" ∧ yX10_seamSize.cls ≠ "java/lang/invoke/VarHandle" ∧ (parseMethodDescriptor yX10_seamSize.desc).map (fun d => d.parameters.length) = some 2 := by decide +kernel
set_option maxHeartbeats 4000000 in
set_option maxRecDepth 100000 in
theorem c_X10_seamSize (l : Launch) (hlt : l.stackTraces = false) (g : GG) (ha : Nat → Nat → Nat) (tv : TV) (qv : QV) (sv : SV) (a0 : Int32) (a1 : Int32) (out : Sum (Nat × SV) (Int32 × SV)) (hf : f_X10_seamSize tv qv sv a0 a1 = some out) : MxI l yX10_seamSize wsX10_seamSize rm_X10_seamSize g (wT g ha tv ++ wQ g (ha 1) qv ++ wS g (ha 3) sv) [.ref (ha 0 0), .int a0, .int a1] out (fun x : Int32 × SV => (x.1)) (fun x : Int32 × SV => (wT g ha tv ++ wQ g (ha 1) qv ++ wS g (ha 3) (x.2))) (fun x : Nat × SV => (x.1)) (fun x : Nat × SV => (wT g ha tv ++ wQ g (ha 1) qv ++ wS g (ha 3) (x.2))) 1 6 := by
  refine fun sz => mx_of (cc := cX10_seamSize) (maxL := 3) (ret := (some .int)) (own := RX10) (Qc := fun A => va_Qi (fun r (x : Int32 × SV) => out = .inr x ∧ r = (x.1)) (fun x t => PosM g A (wT g ha tv ++ wQ g (ha 1) qv ++ wS g (ha 3) (x.2)) t) A) (XC := fun A => vx_X (fun (x : Nat × SV) => out = .inl x) (fun E x t => E = exn (x.1) ∧ PosM g A (wT g ha tv ++ wQ g (ha 1) qv ++ wS g (ha 3) (x.2)) t) A) (by decide +kernel) rfl rfl (Nat.le_of_ble_eq_true rfl) ?_ sz
  intro p e s mi below meth c A ls hB htb hrt hlk hP hD hl
  obtain ⟨hx, hb, hml, hown, hts, hK, hZ, hT, hA, -⟩ := hB
  have hS : va_S A s.heap s.heap [] := va_S.rf
  have hl : lv_has ls 3 [(0, .ref (ha 0 0)), (1, .int a0), (2, .int a1)] := hl
  have hinX10 : ∀ w ∈ wsX100, w ∈ wsX10_seamSize := by decide +kernel
  have k0 := hts (.fieldLink RX10 22 "TerraceQuarry" "survey" "LTerraceQuarry$Survey;") (by decide +kernel)
  have k1 := hts (.fieldLink RX10 10 "TerraceQuarry" "quarry" "LTerraceQuarry$Quarry;") (by decide +kernel)
  generalize hQ : vx_MQ below _ _ _ _ _ _ _ = Q
  unfold f_X10_seamSize at hf
  refine lv_iload_n hx hb dX10_seamSize_0 rfl (lv_at hl 1 rfl) ?_
  refine lv_iload_n hx hb dX10_seamSize_1 rfl (lv_at hl 2 rfl) ?_
  obtain ⟨o1, g2, hf⟩ := jbB_e hf
  refine csn_e (As := [.int a0, .int a1]) (rest := []) ⟨hx, hb, hml, hown, hts⟩ (c_X3_cellFault l g a0 a1 _ g2) (va_cwS 2 hts gX10_seamSize_X3_cellFault rfl rfl rfl hd_X3_cellFault ⟨Nat.le_of_ble_eq_true rfl, Nat.le_of_ble_eq_true rfl⟩) hK hZ hT hA hP hD hS hl.1 rfl rfl (Nat.le_of_ble_eq_true rfl) ⟨Nat.le_of_ble_eq_true rfl, Nat.le_of_ble_eq_true rfl⟩ dX10_seamSize_2 (fun H locs hP hD hS => ?_)
  obtain ⟨o3, g4, hf⟩ := jbB_e hf
  refine cxn_v (As := [.ref (gS g 0 o1)]) (rest := []) ⟨hx, hb, hml, hown, hts⟩ (c_X10_refuse l hlt g o1 _ g4) (va_cwS 1 hts gX10_seamSize_X10_refuse rfl rfl rfl hd_X10_refuse ⟨Nat.le_of_ble_eq_true rfl, Nat.le_of_ble_eq_true rfl⟩) hK hZ hT hA hP hD hS hl.1 rfl rfl (Nat.le_of_ble_eq_true rfl) ⟨Nat.le_of_ble_eq_true rfl, Nat.le_of_ble_eq_true rfl⟩ dX10_seamSize_5 (fun xo3 ce q9 H locs ho hP hD hS hce hcv hcl => ?_) (fun _ H locs ho hP hD hS => ?_)
  · subst ho
    have hf := jbM_l hf
    cases hf
    subst hQ
    exact rx_x (xo3, sv) rfl rfl htb hlk hK hP hD hS hce hcv hcl (Nat.le_of_ble_eq_true rfl) (Nat.le_of_ble_eq_true rfl)
  subst ho
  have hf := jbM_r hf
  refine lv_aload_n hx hb dX10_seamSize_8 rfl (lv_at hl 0 rfl) ?_
  refine va_get (D := gD g) (ci := 9) (v := .ref (ha 3 0)) (C := RX10) (T := TX10) (N := 9) hx hb hts hinX10 hown hK hP 0 rfl rfl 2 (by decide) k0 (fun _ h9 => h9) rfl dX10_seamSize_9 ?_
  refine lv_aload_n hx hb dX10_seamSize_12 rfl (lv_at hl 0 rfl) ?_
  refine va_get (D := gD g) (ci := 9) (v := .ref (ha 1 0)) (C := RX10) (T := TX10) (N := 9) hx hb hts hinX10 hown hK hP 0 rfl rfl 0 (by decide) k1 (fun _ h9 => h9) rfl dX10_seamSize_13 ?_
  refine lv_iload_n hx hb dX10_seamSize_16 rfl (lv_at hl 1 rfl) ?_
  refine lv_iload_n hx hb dX10_seamSize_17 rfl (lv_at hl 2 rfl) ?_
  obtain ⟨o5, g6, hf⟩ := jbB_e hf
  refine csn_i (As := [.int a0, .int a1]) (rest := [.ref (ha 1 0), .ref (ha 3 0)]) ⟨hx, hb, hml, hown, hts⟩ (c_X3_cellAt l g a0 a1 _ g6) (va_cwS 2 hts gX10_seamSize_X3_cellAt rfl rfl rfl hd_X3_cellAt ⟨Nat.le_of_ble_eq_true rfl, Nat.le_of_ble_eq_true rfl⟩) hK hZ hT hA hP hD hS hl.1 rfl rfl (Nat.le_of_ble_eq_true rfl) ⟨Nat.le_of_ble_eq_true rfl, Nat.le_of_ble_eq_true rfl⟩ dX10_seamSize_18 (fun H locs hP hD hS => ?_)
  obtain ⟨o7, g8, hf⟩ := jbB_e hf
  refine cv_i (As := [.ref (ha 1 0), .int o5]) (rest := []) (Wr := [0].filterMap (fun i => ((wT g ha tv ++ wQ g (ha 1) qv ++ wS g (ha 3) sv))[i]?)) ⟨hx, hb, hml, hown, hts⟩ (c_X8_sizeOfSeam l g (ha 3) sv (ha 1) qv o5 _ g8) (cwV 2 hts gX10_seamSize_X8_sizeOfSeam rfl rfl rfl hd_X8_sizeOfSeam ⟨Nat.le_of_ble_eq_true rfl, Nat.le_of_ble_eq_true rfl⟩) hK hZ hT hA hP hD hS hl.1 (va_recv hK hP (ci := 8) (q0 := 11) rfl rfl) [11, 12, 13, 14, 15, 16, 1, 2, 3, 4, 5, 6, 7, 8, 9, 10] [0] rfl rfl rfl rfl rfl rfl rfl (Nat.le_of_ble_eq_true rfl) ⟨Nat.le_of_ble_eq_true rfl, Nat.le_of_ble_eq_true rfl⟩ dX10_seamSize_21 (fun H locs hP hD hS => ?_)
  have hP : va_P (gD g) vwCl (wT g ha tv ++ wQ g (ha 1) qv ++ wS g (ha 3) (o7.2)) H := hP.sub [0, 7, 8, 9, 10, 11, 12, 13, 14, 15, 16, 1, 2, 3, 4, 5, 6] rfl
  have hD : va_D A (wT g ha tv ++ wQ g (ha 1) qv ++ wS g (ha 3) (o7.2)) := hD.sub [0, 7, 8, 9, 10, 11, 12, 13, 14, 15, 16, 1, 2, 3, 4, 5, 6] rfl rfl
  cases hf
  subst hQ
  exact rx_i ((o7.1), (o7.2)) rfl rfl hx hb hrt hlk rfl hK hP hD hS (Nat.le_of_ble_eq_true rfl) (Nat.le_of_ble_eq_true rfl) dX10_seamSize_24
def f_X10_seamVolume (tv : TV) (qv : QV) (sv : SV) (a0 : Int32) (a1 : Int32) : Option (Sum (Nat × SV) (Int32 × SV)) :=
  (f_X3_cellFault a0 a1).bind fun o1 =>
  (f_X10_refuse o1).bind fun o3 => jbM o3 (fun xo3 => some (.inl (xo3, sv))) (fun _ =>
  (f_X3_cellAt a0 a1).bind fun o5 =>
  (f_X8_volumeOfSeam sv qv o5).bind fun o7 =>
  some (.inr ((o7.1), (o7.2))))
def rm_X10_seamVolume : Room := { frames := 9, cells := 1, slots := 6, locals := 140 }
theorem hd_X10_seamVolume : yX10_seamVolume.cls = RX10 ∧ yX10_seamVolume.cls ≠ "java/lang/invoke/MethodHandle" ∧ yX10_seamVolume.cls ≠ "java/lang/invoke/VarHandle" ∧ (parseMethodDescriptor yX10_seamVolume.desc).map (fun d => d.parameters.length) = some 2 := by decide +kernel
set_option maxHeartbeats 4000000 in
set_option maxRecDepth 100000 in
theorem c_X10_seamVolume (l : Launch) (hlt : l.stackTraces = false) (g : GG) (ha : Nat → Nat → Nat) (tv : TV) (qv : QV) (sv : SV) (a0 : Int32) (a1 : Int32) (out : Sum (Nat × SV) (Int32 × SV)) (hf : f_X10_seamVolume tv qv sv a0 a1 = some out) : MxI l yX10_seamVolume wsX10_seamVolume rm_X10_seamVolume g (wT g ha tv ++ wQ g (ha 1) qv ++ wS g (ha 3) sv) [.ref (ha 0 0), .int a0, .int a1] out (fun x : Int32 × SV => (x.1)) (fun x : Int32 × SV => (wT g ha tv ++ wQ g (ha 1) qv ++ wS g (ha 3) (x.2))) (fun x : Nat × SV => (x.1)) (fun x : Nat × SV => (wT g ha tv ++ wQ g (ha 1) qv ++ wS g (ha 3) (x.2))) 1 6 := by
  refine fun sz => mx_of (cc := cX10_seamVolume) (maxL := 3) (ret := (some .int)) (own := RX10) (Qc := fun A => va_Qi (fun r (x : Int32 × SV) => out = .inr x ∧ r = (x.1)) (fun x t => PosM g A (wT g ha tv ++ wQ g (ha 1) qv ++ wS g (ha 3) (x.2)) t) A) (XC := fun A => vx_X (fun (x : Nat × SV) => out = .inl x) (fun E x t => E = exn (x.1) ∧ PosM g A (wT g ha tv ++ wQ g (ha 1) qv ++ wS g (ha 3) (x.2)) t) A) (by decide +kernel) rfl rfl (Nat.le_of_ble_eq_true rfl) ?_ sz
  intro p e s mi below meth c A ls hB htb hrt hlk hP hD hl
  obtain ⟨hx, hb, hml, hown, hts, hK, hZ, hT, hA, -⟩ := hB
  have hS : va_S A s.heap s.heap [] := va_S.rf
  have hl : lv_has ls 3 [(0, .ref (ha 0 0)), (1, .int a0), (2, .int a1)] := hl
  have hinX10 : ∀ w ∈ wsX100, w ∈ wsX10_seamVolume := by decide +kernel
  have k0 := hts (.fieldLink RX10 22 "TerraceQuarry" "survey" "LTerraceQuarry$Survey;") (by decide +kernel)
  have k1 := hts (.fieldLink RX10 10 "TerraceQuarry" "quarry" "LTerraceQuarry$Quarry;") (by decide +kernel)
  generalize hQ : vx_MQ below _ _ _ _ _ _ _ = Q
  unfold f_X10_seamVolume at hf
  refine lv_iload_n hx hb dX10_seamVolume_0 rfl (lv_at hl 1 rfl) ?_
  refine lv_iload_n hx hb dX10_seamVolume_1 rfl (lv_at hl 2 rfl) ?_
  obtain ⟨o1, g2, hf⟩ := jbB_e hf
  refine csn_e (As := [.int a0, .int a1]) (rest := []) ⟨hx, hb, hml, hown, hts⟩ (c_X3_cellFault l g a0 a1 _ g2) (va_cwS 2 hts gX10_seamVolume_X3_cellFault rfl rfl rfl hd_X3_cellFault ⟨Nat.le_of_ble_eq_true rfl, Nat.le_of_ble_eq_true rfl⟩) hK hZ hT hA hP hD hS hl.1 rfl rfl (Nat.le_of_ble_eq_true rfl) ⟨Nat.le_of_ble_eq_true rfl, Nat.le_of_ble_eq_true rfl⟩ dX10_seamVolume_2 (fun H locs hP hD hS => ?_)
  obtain ⟨o3, g4, hf⟩ := jbB_e hf
  refine cxn_v (As := [.ref (gS g 0 o1)]) (rest := []) ⟨hx, hb, hml, hown, hts⟩ (c_X10_refuse l hlt g o1 _ g4) (va_cwS 1 hts gX10_seamVolume_X10_refuse rfl rfl rfl hd_X10_refuse ⟨Nat.le_of_ble_eq_true rfl, Nat.le_of_ble_eq_true rfl⟩) hK hZ hT hA hP hD hS hl.1 rfl rfl (Nat.le_of_ble_eq_true rfl) ⟨Nat.le_of_ble_eq_true rfl, Nat.le_of_ble_eq_true rfl⟩ dX10_seamVolume_5 (fun xo3 ce q9 H locs ho hP hD hS hce hcv hcl => ?_) (fun _ H locs ho hP hD hS => ?_)
  · subst ho
    have hf := jbM_l hf
    cases hf
    subst hQ
    exact rx_x (xo3, sv) rfl rfl htb hlk hK hP hD hS hce hcv hcl (Nat.le_of_ble_eq_true rfl) (Nat.le_of_ble_eq_true rfl)
  subst ho
  have hf := jbM_r hf
  refine lv_aload_n hx hb dX10_seamVolume_8 rfl (lv_at hl 0 rfl) ?_
  refine va_get (D := gD g) (ci := 9) (v := .ref (ha 3 0)) (C := RX10) (T := TX10) (N := 9) hx hb hts hinX10 hown hK hP 0 rfl rfl 2 (by decide) k0 (fun _ h9 => h9) rfl dX10_seamVolume_9 ?_
  refine lv_aload_n hx hb dX10_seamVolume_12 rfl (lv_at hl 0 rfl) ?_
  refine va_get (D := gD g) (ci := 9) (v := .ref (ha 1 0)) (C := RX10) (T := TX10) (N := 9) hx hb hts hinX10 hown hK hP 0 rfl rfl 0 (by decide) k1 (fun _ h9 => h9) rfl dX10_seamVolume_13 ?_
  refine lv_iload_n hx hb dX10_seamVolume_16 rfl (lv_at hl 1 rfl) ?_
  refine lv_iload_n hx hb dX10_seamVolume_17 rfl (lv_at hl 2 rfl) ?_
  obtain ⟨o5, g6, hf⟩ := jbB_e hf
  refine csn_i (As := [.int a0, .int a1]) (rest := [.ref (ha 1 0), .ref (ha 3 0)]) ⟨hx, hb, hml, hown, hts⟩ (c_X3_cellAt l g a0 a1 _ g6) (va_cwS 2 hts gX10_seamVolume_X3_cellAt rfl rfl rfl hd_X3_cellAt ⟨Nat.le_of_ble_eq_true rfl, Nat.le_of_ble_eq_true rfl⟩) hK hZ hT hA hP hD hS hl.1 rfl rfl (Nat.le_of_ble_eq_true rfl) ⟨Nat.le_of_ble_eq_true rfl, Nat.le_of_ble_eq_true rfl⟩ dX10_seamVolume_18 (fun H locs hP hD hS => ?_)
  obtain ⟨o7, g8, hf⟩ := jbB_e hf
  refine cv_i (As := [.ref (ha 1 0), .int o5]) (rest := []) (Wr := [0].filterMap (fun i => ((wT g ha tv ++ wQ g (ha 1) qv ++ wS g (ha 3) sv))[i]?)) ⟨hx, hb, hml, hown, hts⟩ (c_X8_volumeOfSeam l g (ha 3) sv (ha 1) qv o5 _ g8) (cwV 2 hts gX10_seamVolume_X8_volumeOfSeam rfl rfl rfl hd_X8_volumeOfSeam ⟨Nat.le_of_ble_eq_true rfl, Nat.le_of_ble_eq_true rfl⟩) hK hZ hT hA hP hD hS hl.1 (va_recv hK hP (ci := 8) (q0 := 11) rfl rfl) [11, 12, 13, 14, 15, 16, 1, 2, 3, 4, 5, 6, 7, 8, 9, 10] [0] rfl rfl rfl rfl rfl rfl rfl (Nat.le_of_ble_eq_true rfl) ⟨Nat.le_of_ble_eq_true rfl, Nat.le_of_ble_eq_true rfl⟩ dX10_seamVolume_21 (fun H locs hP hD hS => ?_)
  have hP : va_P (gD g) vwCl (wT g ha tv ++ wQ g (ha 1) qv ++ wS g (ha 3) (o7.2)) H := hP.sub [0, 7, 8, 9, 10, 11, 12, 13, 14, 15, 16, 1, 2, 3, 4, 5, 6] rfl
  have hD : va_D A (wT g ha tv ++ wQ g (ha 1) qv ++ wS g (ha 3) (o7.2)) := hD.sub [0, 7, 8, 9, 10, 11, 12, 13, 14, 15, 16, 1, 2, 3, 4, 5, 6] rfl rfl
  cases hf
  subst hQ
  exact rx_i ((o7.1), (o7.2)) rfl rfl hx hb hrt hlk rfl hK hP hD hS (Nat.le_of_ble_eq_true rfl) (Nat.le_of_ble_eq_true rfl) dX10_seamVolume_24
def f_X10_seamCount (tv : TV) (qv : QV) (sv : SV) : Option (Int32 × SV) :=
  (f_X8_seamsBySearch sv qv).bind fun o1 =>
  some ((o1.1), (o1.2))
def rm_X10_seamCount : Room := { frames := 4, cells := 0, slots := 0, locals := 92 }
theorem hd_X10_seamCount : yX10_seamCount.cls = RX10 ∧ yX10_seamCount.cls ≠ "java/lang/invoke/MethodHandle" ∧ yX10_seamCount.cls ≠ "java/lang/invoke/VarHandle" ∧ (parseMethodDescriptor yX10_seamCount.desc).map (fun d => d.parameters.length) = some 0 := by decide +kernel
set_option maxHeartbeats 4000000 in
set_option maxRecDepth 100000 in
theorem c_X10_seamCount (l : Launch) (hlt : l.stackTraces = false) (g : GG) (ha : Nat → Nat → Nat) (tv : TV) (qv : QV) (sv : SV)  (out : Int32 × SV) (hf : f_X10_seamCount tv qv sv = some out) : MtI l yX10_seamCount wsX10_seamCount rm_X10_seamCount g (wT g ha tv ++ wQ g (ha 1) qv ++ wS g (ha 3) sv) [.ref (ha 0 0)] (out.1) (wT g ha tv ++ wQ g (ha 1) qv ++ wS g (ha 3) (out.2)) 0 0 := by
  refine fun sz => mt_of (cc := cX10_seamCount) (maxL := 1) (ret := (some .int)) (own := RX10) (Qc := fun A => va_Qi (fun r (_ : Unit) => r = (out.1)) (fun _ t => PosM g A (wT g ha tv ++ wQ g (ha 1) qv ++ wS g (ha 3) (out.2)) t) A) (by decide +kernel) rfl rfl (Nat.le_of_ble_eq_true rfl) ?_ sz
  intro p e s mi below meth c A ls hB hnm hrt hlk hP hD hl
  obtain ⟨hx, hb, hml, hown, hts, hK, hZ, hT, hA, -⟩ := hB
  have hS : va_S A s.heap s.heap [] := va_S.rf
  have hl : lv_has ls 1 [(0, .ref (ha 0 0))] := hl
  have hinX10 : ∀ w ∈ wsX100, w ∈ wsX10_seamCount := by decide +kernel
  have k0 := hts (.fieldLink RX10 22 "TerraceQuarry" "survey" "LTerraceQuarry$Survey;") (by decide +kernel)
  have k1 := hts (.fieldLink RX10 10 "TerraceQuarry" "quarry" "LTerraceQuarry$Quarry;") (by decide +kernel)
  generalize hQ : MQ below _ _ _ _ _ _ = Q
  unfold f_X10_seamCount at hf
  refine lv_aload_n hx hb dX10_seamCount_0 rfl (lv_at hl 0 rfl) ?_
  refine va_get (D := gD g) (ci := 9) (v := .ref (ha 3 0)) (C := RX10) (T := TX10) (N := 9) hx hb hts hinX10 hown hK hP 0 rfl rfl 2 (by decide) k0 (fun _ h9 => h9) rfl dX10_seamCount_1 ?_
  refine lv_aload_n hx hb dX10_seamCount_4 rfl (lv_at hl 0 rfl) ?_
  refine va_get (D := gD g) (ci := 9) (v := .ref (ha 1 0)) (C := RX10) (T := TX10) (N := 9) hx hb hts hinX10 hown hK hP 0 rfl rfl 0 (by decide) k1 (fun _ h9 => h9) rfl dX10_seamCount_5 ?_
  obtain ⟨o1, g2, hf⟩ := jbB_e hf
  refine cv_i (As := [.ref (ha 1 0)]) (rest := []) (Wr := [0].filterMap (fun i => ((wT g ha tv ++ wQ g (ha 1) qv ++ wS g (ha 3) sv))[i]?)) ⟨hx, hb, hml, hown, hts⟩ (c_X8_seamsBySearch l g (ha 3) sv (ha 1) qv _ g2) (cwV 1 hts gX10_seamCount_X8_seamsBySearch rfl rfl rfl hd_X8_seamsBySearch ⟨Nat.le_of_ble_eq_true rfl, Nat.le_of_ble_eq_true rfl⟩) hK hZ hT hA hP hD hS hl.1 (va_recv hK hP (ci := 8) (q0 := 11) rfl rfl) [11, 12, 13, 14, 15, 16, 1, 2, 3, 4, 5, 6, 7, 8, 9, 10] [0] rfl rfl rfl rfl rfl rfl rfl (Nat.le_of_ble_eq_true rfl) ⟨Nat.le_of_ble_eq_true rfl, Nat.le_of_ble_eq_true rfl⟩ dX10_seamCount_8 (fun H locs hP hD hS => ?_)
  have hP : va_P (gD g) vwCl (wT g ha tv ++ wQ g (ha 1) qv ++ wS g (ha 3) (o1.2)) H := hP.sub [0, 7, 8, 9, 10, 11, 12, 13, 14, 15, 16, 1, 2, 3, 4, 5, 6] rfl
  have hD : va_D A (wT g ha tv ++ wQ g (ha 1) qv ++ wS g (ha 3) (o1.2)) := hD.sub [0, 7, 8, 9, 10, 11, 12, 13, 14, 15, 16, 1, 2, 3, 4, 5, 6] rfl rfl
  cases hf
  subst hQ
  exact rt_i hx hb hrt hlk rfl hK hP hD hS (Nat.le_of_ble_eq_true rfl) (Nat.le_of_ble_eq_true rfl) dX10_seamCount_11
def f_X10_seamCountByMerging (tv : TV) (qv : QV) (sv : SV) : Option (Int32 × SV) :=
  (f_X8_seamsByMerging sv qv).bind fun o1 =>
  some ((o1.1), (o1.2))
def rm_X10_seamCountByMerging : Room := { frames := 3, cells := 0, slots := 0, locals := 68 }
theorem hd_X10_seamCountByMerging : yX10_seamCountByMerging.cls = RX10 ∧ yX10_seamCountByMerging.cls ≠ "java/lang/invoke/MethodHandle" ∧ yX10_seamCountByMerging.cls ≠ "java/lang/invoke/VarHandle" ∧ (parseMethodDescriptor yX10_seamCountByMerging.desc).map (fun d => d.parameters.length) = some 0 := by decide +kernel
set_option maxHeartbeats 4000000 in
set_option maxRecDepth 100000 in
theorem c_X10_seamCountByMerging (l : Launch) (hlt : l.stackTraces = false) (g : GG) (ha : Nat → Nat → Nat) (tv : TV) (qv : QV) (sv : SV)  (out : Int32 × SV) (hf : f_X10_seamCountByMerging tv qv sv = some out) : MtI l yX10_seamCountByMerging wsX10_seamCountByMerging rm_X10_seamCountByMerging g (wT g ha tv ++ wQ g (ha 1) qv ++ wS g (ha 3) sv) [.ref (ha 0 0)] (out.1) (wT g ha tv ++ wQ g (ha 1) qv ++ wS g (ha 3) (out.2)) 0 0 := by
  refine fun sz => mt_of (cc := cX10_seamCountByMerging) (maxL := 1) (ret := (some .int)) (own := RX10) (Qc := fun A => va_Qi (fun r (_ : Unit) => r = (out.1)) (fun _ t => PosM g A (wT g ha tv ++ wQ g (ha 1) qv ++ wS g (ha 3) (out.2)) t) A) (by decide +kernel) rfl rfl (Nat.le_of_ble_eq_true rfl) ?_ sz
  intro p e s mi below meth c A ls hB hnm hrt hlk hP hD hl
  obtain ⟨hx, hb, hml, hown, hts, hK, hZ, hT, hA, -⟩ := hB
  have hS : va_S A s.heap s.heap [] := va_S.rf
  have hl : lv_has ls 1 [(0, .ref (ha 0 0))] := hl
  have hinX10 : ∀ w ∈ wsX100, w ∈ wsX10_seamCountByMerging := by decide +kernel
  have k0 := hts (.fieldLink RX10 22 "TerraceQuarry" "survey" "LTerraceQuarry$Survey;") (by decide +kernel)
  have k1 := hts (.fieldLink RX10 10 "TerraceQuarry" "quarry" "LTerraceQuarry$Quarry;") (by decide +kernel)
  generalize hQ : MQ below _ _ _ _ _ _ = Q
  unfold f_X10_seamCountByMerging at hf
  refine lv_aload_n hx hb dX10_seamCountByMerging_0 rfl (lv_at hl 0 rfl) ?_
  refine va_get (D := gD g) (ci := 9) (v := .ref (ha 3 0)) (C := RX10) (T := TX10) (N := 9) hx hb hts hinX10 hown hK hP 0 rfl rfl 2 (by decide) k0 (fun _ h9 => h9) rfl dX10_seamCountByMerging_1 ?_
  refine lv_aload_n hx hb dX10_seamCountByMerging_4 rfl (lv_at hl 0 rfl) ?_
  refine va_get (D := gD g) (ci := 9) (v := .ref (ha 1 0)) (C := RX10) (T := TX10) (N := 9) hx hb hts hinX10 hown hK hP 0 rfl rfl 0 (by decide) k1 (fun _ h9 => h9) rfl dX10_seamCountByMerging_5 ?_
  obtain ⟨o1, g2, hf⟩ := jbB_e hf
  refine cv_i (As := [.ref (ha 1 0)]) (rest := []) (Wr := [0].filterMap (fun i => ((wT g ha tv ++ wQ g (ha 1) qv ++ wS g (ha 3) sv))[i]?)) ⟨hx, hb, hml, hown, hts⟩ (c_X8_seamsByMerging l g (ha 3) sv (ha 1) qv _ g2) (cwV 1 hts gX10_seamCountByMerging_X8_seamsByMerging rfl rfl rfl hd_X8_seamsByMerging ⟨Nat.le_of_ble_eq_true rfl, Nat.le_of_ble_eq_true rfl⟩) hK hZ hT hA hP hD hS hl.1 (va_recv hK hP (ci := 8) (q0 := 11) rfl rfl) [11, 12, 13, 14, 15, 16, 1, 2, 3, 4, 5, 6, 7, 8, 9, 10] [0] rfl rfl rfl rfl rfl rfl rfl (Nat.le_of_ble_eq_true rfl) ⟨Nat.le_of_ble_eq_true rfl, Nat.le_of_ble_eq_true rfl⟩ dX10_seamCountByMerging_8 (fun H locs hP hD hS => ?_)
  have hP : va_P (gD g) vwCl (wT g ha tv ++ wQ g (ha 1) qv ++ wS g (ha 3) (o1.2)) H := hP.sub [0, 7, 8, 9, 10, 11, 12, 13, 14, 15, 16, 1, 2, 3, 4, 5, 6] rfl
  have hD : va_D A (wT g ha tv ++ wQ g (ha 1) qv ++ wS g (ha 3) (o1.2)) := hD.sub [0, 7, 8, 9, 10, 11, 12, 13, 14, 15, 16, 1, 2, 3, 4, 5, 6] rfl rfl
  cases hf
  subst hQ
  exact rt_i hx hb hrt hlk rfl hK hP hD hS (Nat.le_of_ble_eq_true rfl) (Nat.le_of_ble_eq_true rfl) dX10_seamCountByMerging_11
def f_X10_footpath (tv : TV) (qv : QV) (sv : SV) (a0 : Int32) (a1 : Int32) (a2 : Int32) (a3 : Int32) : Option (Sum (Nat × SV) (Int32 × SV)) :=
  (f_X3_cellFault a0 a1).bind fun o1 =>
  (f_X10_refuse o1).bind fun o3 => jbM o3 (fun xo3 => some (.inl (xo3, sv))) (fun _ =>
  (f_X3_cellFault a2 a3).bind fun o5 =>
  (f_X10_refuse o5).bind fun o7 => jbM o7 (fun xo7 => some (.inl (xo7, sv))) (fun _ =>
  (f_X3_cellAt a0 a1).bind fun o9 =>
  (f_X3_cellAt a2 a3).bind fun o11 =>
  (f_X8_shortestPath sv qv o9 o11).bind fun o13 =>
  jbN (o13.1) fun z15 =>
  if z15 = (-1) then
  (some (.inl (2, (o13.2))))
  else
  (some (.inr (z15, (o13.2))))))
def rm_X10_footpath : Room := { frames := 9, cells := 3, slots := 18, locals := 140 }
theorem hd_X10_footpath : yX10_footpath.cls = RX10 ∧ yX10_footpath.cls ≠ "java/lang/invoke/MethodHandle" ∧ yX10_footpath.cls ≠ "java/lang/invoke/VarHandle" ∧ (parseMethodDescriptor yX10_footpath.desc).map (fun d => d.parameters.length) = some 4 := by decide +kernel
set_option maxHeartbeats 4000000 in
set_option maxRecDepth 100000 in
theorem c_X10_footpath (l : Launch) (hlt : l.stackTraces = false) (g : GG) (ha : Nat → Nat → Nat) (tv : TV) (qv : QV) (sv : SV) (a0 : Int32) (a1 : Int32) (a2 : Int32) (a3 : Int32) (out : Sum (Nat × SV) (Int32 × SV)) (hf : f_X10_footpath tv qv sv a0 a1 a2 a3 = some out) : MxI l yX10_footpath wsX10_footpath rm_X10_footpath g (wT g ha tv ++ wQ g (ha 1) qv ++ wS g (ha 3) sv) [.ref (ha 0 0), .int a0, .int a1, .int a2, .int a3] out (fun x : Int32 × SV => (x.1)) (fun x : Int32 × SV => (wT g ha tv ++ wQ g (ha 1) qv ++ wS g (ha 3) (x.2))) (fun x : Nat × SV => (x.1)) (fun x : Nat × SV => (wT g ha tv ++ wQ g (ha 1) qv ++ wS g (ha 3) (x.2))) 3 18 := by
  refine fun sz => mx_of (cc := cX10_footpath) (maxL := 6) (ret := (some .int)) (own := RX10) (Qc := fun A => va_Qi (fun r (x : Int32 × SV) => out = .inr x ∧ r = (x.1)) (fun x t => PosM g A (wT g ha tv ++ wQ g (ha 1) qv ++ wS g (ha 3) (x.2)) t) A) (XC := fun A => vx_X (fun (x : Nat × SV) => out = .inl x) (fun E x t => E = exn (x.1) ∧ PosM g A (wT g ha tv ++ wQ g (ha 1) qv ++ wS g (ha 3) (x.2)) t) A) (by decide +kernel) rfl rfl (Nat.le_of_ble_eq_true rfl) ?_ sz
  intro p e s mi below meth c A ls hB htb hrt hlk hP hD hl
  obtain ⟨hx, hb, hml, hown, hts, hK, hZ, hT, hA, -⟩ := hB
  have hS : va_S A s.heap s.heap [] := va_S.rf
  have hl : lv_has ls 6 [(0, .ref (ha 0 0)), (1, .int a0), (2, .int a1), (3, .int a2), (4, .int a3)] := hl
  have hinX10 : ∀ w ∈ wsX100, w ∈ wsX10_footpath := by decide +kernel
  have k0 := hts (.fieldLink RX10 22 "TerraceQuarry" "survey" "LTerraceQuarry$Survey;") (by decide +kernel)
  have k1 := hts (.fieldLink RX10 10 "TerraceQuarry" "quarry" "LTerraceQuarry$Quarry;") (by decide +kernel)
  generalize hQ : vx_MQ below _ _ _ _ _ _ _ = Q
  unfold f_X10_footpath at hf
  refine lv_iload_n hx hb dX10_footpath_0 rfl (lv_at hl 1 rfl) ?_
  refine lv_iload_n hx hb dX10_footpath_1 rfl (lv_at hl 2 rfl) ?_
  obtain ⟨o1, g2, hf⟩ := jbB_e hf
  refine csn_e (As := [.int a0, .int a1]) (rest := []) ⟨hx, hb, hml, hown, hts⟩ (c_X3_cellFault l g a0 a1 _ g2) (va_cwS 2 hts gX10_footpath_X3_cellFault rfl rfl rfl hd_X3_cellFault ⟨Nat.le_of_ble_eq_true rfl, Nat.le_of_ble_eq_true rfl⟩) hK hZ hT hA hP hD hS hl.1 rfl rfl (Nat.le_of_ble_eq_true rfl) ⟨Nat.le_of_ble_eq_true rfl, Nat.le_of_ble_eq_true rfl⟩ dX10_footpath_2 (fun H locs hP hD hS => ?_)
  obtain ⟨o3, g4, hf⟩ := jbB_e hf
  refine cxn_v (As := [.ref (gS g 0 o1)]) (rest := []) ⟨hx, hb, hml, hown, hts⟩ (c_X10_refuse l hlt g o1 _ g4) (va_cwS 1 hts gX10_footpath_X10_refuse rfl rfl rfl hd_X10_refuse ⟨Nat.le_of_ble_eq_true rfl, Nat.le_of_ble_eq_true rfl⟩) hK hZ hT hA hP hD hS hl.1 rfl rfl (Nat.le_of_ble_eq_true rfl) ⟨Nat.le_of_ble_eq_true rfl, Nat.le_of_ble_eq_true rfl⟩ dX10_footpath_5 (fun xo3 ce q9 H locs ho hP hD hS hce hcv hcl => ?_) (fun _ H locs ho hP hD hS => ?_)
  · subst ho
    have hf := jbM_l hf
    cases hf
    subst hQ
    exact rx_x (xo3, sv) rfl rfl htb hlk hK hP hD hS hce hcv hcl (Nat.le_of_ble_eq_true rfl) (Nat.le_of_ble_eq_true rfl)
  subst ho
  have hf := jbM_r hf
  refine lv_iload_n hx hb dX10_footpath_8 rfl (lv_at hl 3 rfl) ?_
  refine lv_iload hx hb dX10_footpath_9 (lv_at hl 4 rfl) ?_
  obtain ⟨o5, g6, hf⟩ := jbB_e hf
  refine csn_e (As := [.int a2, .int a3]) (rest := []) ⟨hx, hb, hml, hown, hts⟩ (c_X3_cellFault l g a2 a3 _ g6) (va_cwS 2 hts gX10_footpath_X3_cellFault rfl rfl rfl hd_X3_cellFault ⟨Nat.le_of_ble_eq_true rfl, Nat.le_of_ble_eq_true rfl⟩) hK hZ hT hA hP hD hS hl.1 rfl rfl (Nat.le_of_ble_eq_true rfl) ⟨Nat.le_of_ble_eq_true rfl, Nat.le_of_ble_eq_true rfl⟩ dX10_footpath_11 (fun H locs hP hD hS => ?_)
  obtain ⟨o7, g8, hf⟩ := jbB_e hf
  refine cxn_v (As := [.ref (gS g 0 o5)]) (rest := []) ⟨hx, hb, hml, hown, hts⟩ (c_X10_refuse l hlt g o5 _ g8) (va_cwS 1 hts gX10_footpath_X10_refuse rfl rfl rfl hd_X10_refuse ⟨Nat.le_of_ble_eq_true rfl, Nat.le_of_ble_eq_true rfl⟩) hK hZ hT hA hP hD hS hl.1 rfl rfl (Nat.le_of_ble_eq_true rfl) ⟨Nat.le_of_ble_eq_true rfl, Nat.le_of_ble_eq_true rfl⟩ dX10_footpath_14 (fun xo7 ce q9 H locs ho hP hD hS hce hcv hcl => ?_) (fun _ H locs ho hP hD hS => ?_)
  · subst ho
    have hf := jbM_l hf
    cases hf
    subst hQ
    exact rx_x (xo7, sv) rfl rfl htb hlk hK hP hD hS hce hcv hcl (Nat.le_of_ble_eq_true rfl) (Nat.le_of_ble_eq_true rfl)
  subst ho
  have hf := jbM_r hf
  refine lv_aload_n hx hb dX10_footpath_17 rfl (lv_at hl 0 rfl) ?_
  refine va_get (D := gD g) (ci := 9) (v := .ref (ha 3 0)) (C := RX10) (T := TX10) (N := 9) hx hb hts hinX10 hown hK hP 0 rfl rfl 2 (by decide) k0 (fun _ h9 => h9) rfl dX10_footpath_18 ?_
  refine lv_aload_n hx hb dX10_footpath_21 rfl (lv_at hl 0 rfl) ?_
  refine va_get (D := gD g) (ci := 9) (v := .ref (ha 1 0)) (C := RX10) (T := TX10) (N := 9) hx hb hts hinX10 hown hK hP 0 rfl rfl 0 (by decide) k1 (fun _ h9 => h9) rfl dX10_footpath_22 ?_
  refine lv_iload_n hx hb dX10_footpath_25 rfl (lv_at hl 1 rfl) ?_
  refine lv_iload_n hx hb dX10_footpath_26 rfl (lv_at hl 2 rfl) ?_
  obtain ⟨o9, g10, hf⟩ := jbB_e hf
  refine csn_i (As := [.int a0, .int a1]) (rest := [.ref (ha 1 0), .ref (ha 3 0)]) ⟨hx, hb, hml, hown, hts⟩ (c_X3_cellAt l g a0 a1 _ g10) (va_cwS 2 hts gX10_footpath_X3_cellAt rfl rfl rfl hd_X3_cellAt ⟨Nat.le_of_ble_eq_true rfl, Nat.le_of_ble_eq_true rfl⟩) hK hZ hT hA hP hD hS hl.1 rfl rfl (Nat.le_of_ble_eq_true rfl) ⟨Nat.le_of_ble_eq_true rfl, Nat.le_of_ble_eq_true rfl⟩ dX10_footpath_27 (fun H locs hP hD hS => ?_)
  refine lv_iload_n hx hb dX10_footpath_30 rfl (lv_at hl 3 rfl) ?_
  refine lv_iload hx hb dX10_footpath_31 (lv_at hl 4 rfl) ?_
  obtain ⟨o11, g12, hf⟩ := jbB_e hf
  refine csn_i (As := [.int a2, .int a3]) (rest := [.int o9, .ref (ha 1 0), .ref (ha 3 0)]) ⟨hx, hb, hml, hown, hts⟩ (c_X3_cellAt l g a2 a3 _ g12) (va_cwS 2 hts gX10_footpath_X3_cellAt rfl rfl rfl hd_X3_cellAt ⟨Nat.le_of_ble_eq_true rfl, Nat.le_of_ble_eq_true rfl⟩) hK hZ hT hA hP hD hS hl.1 rfl rfl (Nat.le_of_ble_eq_true rfl) ⟨Nat.le_of_ble_eq_true rfl, Nat.le_of_ble_eq_true rfl⟩ dX10_footpath_33 (fun H locs hP hD hS => ?_)
  obtain ⟨o13, g14, hf⟩ := jbB_e hf
  refine cv_i (As := [.ref (ha 1 0), .int o9, .int o11]) (rest := []) (Wr := [0].filterMap (fun i => ((wT g ha tv ++ wQ g (ha 1) qv ++ wS g (ha 3) sv))[i]?)) ⟨hx, hb, hml, hown, hts⟩ (c_X8_shortestPath l g (ha 3) sv (ha 1) qv o9 o11 _ g14) (cwV 3 hts gX10_footpath_X8_shortestPath rfl rfl rfl hd_X8_shortestPath ⟨Nat.le_of_ble_eq_true rfl, Nat.le_of_ble_eq_true rfl⟩) hK hZ hT hA hP hD hS hl.1 (va_recv hK hP (ci := 8) (q0 := 11) rfl rfl) [11, 12, 13, 14, 15, 16, 1, 2, 3, 4, 5, 6, 7, 8, 9, 10] [0] rfl rfl rfl rfl rfl rfl rfl (Nat.le_of_ble_eq_true rfl) ⟨Nat.le_of_ble_eq_true rfl, Nat.le_of_ble_eq_true rfl⟩ dX10_footpath_36 (fun H locs hP hD hS => ?_)
  have hP : va_P (gD g) vwCl (wT g ha tv ++ wQ g (ha 1) qv ++ wS g (ha 3) (o13.2)) H := hP.sub [0, 7, 8, 9, 10, 11, 12, 13, 14, 15, 16, 1, 2, 3, 4, 5, 6] rfl
  have hD : va_D A (wT g ha tv ++ wQ g (ha 1) qv ++ wS g (ha 3) (o13.2)) := hD.sub [0, 7, 8, 9, 10, 11, 12, 13, 14, 15, 16, 1, 2, 3, 4, 5, 6] rfl rfl
  refine lv_topi (fun z15 ez15 => ?_)
  have hf := jbN_e hf ez15
  refine lv_istore (lv' := [(5, .int z15), (0, .ref (ha 0 0)), (1, .int a0), (2, .int a1), (3, .int a2), (4, .int a3)]) hx hb dX10_footpath_39 hl (by decide) rfl (fun ls hl => ?_)
  refine lv_iload hx hb dX10_footpath_41 (lv_at hl 0 rfl) ?_
  refine lv_iconst (v := (-1)) hx hb dX10_footpath_43 (by decide) ?_
  refine lv_icmp_ne (tgt := 57) hx hb dX10_footpath_44 (by decide) (fun hc => ?_) (fun hc => ?_)
  · have hf := jbF hf hc
    refine lv_iload hx hb dX10_footpath_57 (lv_at hl 0 rfl) ?_
    cases hf
    subst hQ
    exact rx_i (z15, (o13.2)) rfl rfl hx hb hrt hlk rfl hK hP hD hS (Nat.le_of_ble_eq_true rfl) (Nat.le_of_ble_eq_true rfl) dX10_footpath_59
  · have hf := jbT hf hc
    cases hf
    subst hQ
    exact nx_throwS (cls := "java/util/NoSuchElementException") (Y9 := "java/lang/RuntimeException") (names := ["java/lang/Exception"]) (ix := 13) (rx := prog_42_method_4_code) hx hb hlt nse_0 nse_1 nse_2 nse_5 (by decide +kernel) hown (by decide +kernel) (by decide +kernel) (hts (.classLink RX10 192 "java/util/NoSuchElementException") (by decide +kernel)) (hts (.initialized "java/util/NoSuchElementException") (by decide +kernel)) (hT.1 8 ("TerraceQuarry", 194, "there is no footpath") rfl) (ox_2 (fun _ h => List.mem_cons_of_mem _ (List.mem_append_left _ (List.mem_append_left _ (List.mem_append_left _ (List.mem_append_left _ (List.mem_append_left _ (List.mem_append_right _ h))))))) hts hT) og_2 (rx_tt hZ).1 (rx_tt hZ).2 hS (hl.1.trans hml.symm) dX10_footpath_47 dX10_footpath_50 dX10_footpath_51 dX10_footpath_53 dX10_footpath_56 (fun x h => (htb x h).elim) (by decide) (Nat.le_of_ble_eq_true rfl) (Nat.le_of_ble_eq_true rfl) (Nat.le_of_ble_eq_true rfl) hlk (fun t h1 h2 h3 => rx_xc (2, (o13.2)) rfl rfl hK hP hD hS t h1 h2 h3) hS.2.2 (Nat.le_of_ble_eq_true rfl) (Nat.le_of_ble_eq_true rfl)
def f_X10_winchCount (tv : TV) (qv : QV) : Option Int32 :=
  (f_X7_countWinches qv).bind fun o1 =>
  some o1
def rm_X10_winchCount : Room := { frames := 1, cells := 0, slots := 0, locals := 20 }
theorem hd_X10_winchCount : yX10_winchCount.cls = RX10 ∧ yX10_winchCount.cls ≠ "java/lang/invoke/MethodHandle" ∧ yX10_winchCount.cls ≠ "java/lang/invoke/VarHandle" ∧ (parseMethodDescriptor yX10_winchCount.desc).map (fun d => d.parameters.length) = some 0 := by decide +kernel
set_option maxHeartbeats 4000000 in
set_option maxRecDepth 100000 in
theorem c_X10_winchCount (l : Launch) (hlt : l.stackTraces = false) (g : GG) (ha : Nat → Nat → Nat) (tv : TV) (qv : QV)  (out : Int32) (hf : f_X10_winchCount tv qv = some out) : MtI l yX10_winchCount wsX10_winchCount rm_X10_winchCount g (wT g ha tv ++ wQ g (ha 1) qv) [.ref (ha 0 0)] out (wT g ha tv ++ wQ g (ha 1) qv) 0 0 := by
  refine fun sz => mt_of (cc := cX10_winchCount) (maxL := 1) (ret := (some .int)) (own := RX10) (Qc := fun A => va_Qi (fun r (_ : Unit) => r = out) (fun _ t => PosM g A (wT g ha tv ++ wQ g (ha 1) qv) t) A) (by decide +kernel) rfl rfl (Nat.le_of_ble_eq_true rfl) ?_ sz
  intro p e s mi below meth c A ls hB hnm hrt hlk hP hD hl
  obtain ⟨hx, hb, hml, hown, hts, hK, hZ, hT, hA, -⟩ := hB
  have hS : va_S A s.heap s.heap [] := va_S.rf
  have hl : lv_has ls 1 [(0, .ref (ha 0 0))] := hl
  have hinX10 : ∀ w ∈ wsX100, w ∈ wsX10_winchCount := by decide +kernel
  have k0 := hts (.fieldLink RX10 10 "TerraceQuarry" "quarry" "LTerraceQuarry$Quarry;") (by decide +kernel)
  generalize hQ : MQ below _ _ _ _ _ _ = Q
  unfold f_X10_winchCount at hf
  refine lv_aload_n hx hb dX10_winchCount_0 rfl (lv_at hl 0 rfl) ?_
  refine va_get (D := gD g) (ci := 9) (v := .ref (ha 1 0)) (C := RX10) (T := TX10) (N := 9) hx hb hts hinX10 hown hK hP 0 rfl rfl 0 (by decide) k0 (fun _ h9 => h9) rfl dX10_winchCount_1 ?_
  obtain ⟨o1, g2, hf⟩ := jbB_e hf
  refine cv_i (As := []) (rest := []) (Wr := [0].filterMap (fun i => ((wT g ha tv ++ wQ g (ha 1) qv))[i]?)) ⟨hx, hb, hml, hown, hts⟩ (c_X7_countWinches l g (ha 1) qv _ g2) (cwV 0 hts gX10_winchCount_X7_countWinches rfl rfl rfl hd_X7_countWinches ⟨Nat.le_of_ble_eq_true rfl, Nat.le_of_ble_eq_true rfl⟩) hK hZ hT hA hP hD hS hl.1 (va_recv hK hP (ci := 7) (q0 := 1) rfl rfl) [1, 2, 3, 4, 5, 6, 7, 8, 9, 10] [0] rfl rfl rfl rfl rfl rfl rfl (Nat.le_of_ble_eq_true rfl) ⟨Nat.le_of_ble_eq_true rfl, Nat.le_of_ble_eq_true rfl⟩ dX10_winchCount_4 (fun H locs hP hD hS => ?_)
  have hP : va_P (gD g) vwCl (wT g ha tv ++ wQ g (ha 1) qv) H := hP.sub [0, 1, 2, 3, 4, 5, 6, 7, 8, 9, 10] rfl
  have hD : va_D A (wT g ha tv ++ wQ g (ha 1) qv) := hD.sub [0, 1, 2, 3, 4, 5, 6, 7, 8, 9, 10] rfl rfl
  cases hf
  subst hQ
  exact rt_i hx hb hrt hlk rfl hK hP hD hS (Nat.le_of_ble_eq_true rfl) (Nat.le_of_ble_eq_true rfl) dX10_winchCount_7
def f_X10_liftableCells (tv : TV) (qv : QV) (a0 : Int32) : Option (Sum Nat Int32) :=
  (f_X7_hasWinch qv a0).bind fun o1 =>
  if o1 = 0 then
  (some (.inl 0))
  else
  ((f_X7_countLiftable qv a0).bind fun o3 =>
  some (.inr o3))
def rm_X10_liftableCells : Room := { frames := 7, cells := 1, slots := 6, locals := 120 }
theorem hd_X10_liftableCells : yX10_liftableCells.cls = RX10 ∧ yX10_liftableCells.cls ≠ "java/lang/invoke/MethodHandle" ∧ yX10_liftableCells.cls ≠ "java/lang/invoke/VarHandle" ∧ (parseMethodDescriptor yX10_liftableCells.desc).map (fun d => d.parameters.length) = some 1 := by decide +kernel
set_option maxHeartbeats 4000000 in
set_option maxRecDepth 100000 in
theorem c_X10_liftableCells (l : Launch) (hlt : l.stackTraces = false) (g : GG) (ha : Nat → Nat → Nat) (tv : TV) (qv : QV) (a0 : Int32) (out : Sum Nat Int32) (hf : f_X10_liftableCells tv qv a0 = some out) : MxI l yX10_liftableCells wsX10_liftableCells rm_X10_liftableCells g (wT g ha tv ++ wQ g (ha 1) qv) [.ref (ha 0 0), .int a0] out (fun x : Int32 => x) (fun x : Int32 => (wT g ha tv ++ wQ g (ha 1) qv)) (fun x : Nat => x) (fun x : Nat => (wT g ha tv ++ wQ g (ha 1) qv)) 1 6 := by
  refine fun sz => mx_of (cc := cX10_liftableCells) (maxL := 2) (ret := (some .int)) (own := RX10) (Qc := fun A => va_Qi (fun r (x : Int32) => out = .inr x ∧ r = x) (fun x t => PosM g A (wT g ha tv ++ wQ g (ha 1) qv) t) A) (XC := fun A => vx_X (fun (x : Nat) => out = .inl x) (fun E x t => E = exn x ∧ PosM g A (wT g ha tv ++ wQ g (ha 1) qv) t) A) (by decide +kernel) rfl rfl (Nat.le_of_ble_eq_true rfl) ?_ sz
  intro p e s mi below meth c A ls hB htb hrt hlk hP hD hl
  obtain ⟨hx, hb, hml, hown, hts, hK, hZ, hT, hA, -⟩ := hB
  have hS : va_S A s.heap s.heap [] := va_S.rf
  have hl : lv_has ls 2 [(0, .ref (ha 0 0)), (1, .int a0)] := hl
  have hinX10 : ∀ w ∈ wsX100, w ∈ wsX10_liftableCells := by decide +kernel
  have k0 := hts (.fieldLink RX10 10 "TerraceQuarry" "quarry" "LTerraceQuarry$Quarry;") (by decide +kernel)
  generalize hQ : vx_MQ below _ _ _ _ _ _ _ = Q
  unfold f_X10_liftableCells at hf
  refine lv_aload_n hx hb dX10_liftableCells_0 rfl (lv_at hl 0 rfl) ?_
  refine va_get (D := gD g) (ci := 9) (v := .ref (ha 1 0)) (C := RX10) (T := TX10) (N := 9) hx hb hts hinX10 hown hK hP 0 rfl rfl 0 (by decide) k0 (fun _ h9 => h9) rfl dX10_liftableCells_1 ?_
  refine lv_iload_n hx hb dX10_liftableCells_4 rfl (lv_at hl 1 rfl) ?_
  obtain ⟨o1, g2, hf⟩ := jbB_e hf
  refine cv_i (As := [.int a0]) (rest := []) (Wr := [0].filterMap (fun i => ((wT g ha tv ++ wQ g (ha 1) qv))[i]?)) ⟨hx, hb, hml, hown, hts⟩ (c_X7_hasWinch l g (ha 1) qv a0 _ g2) (cwV 1 hts gX10_liftableCells_X7_hasWinch rfl rfl rfl hd_X7_hasWinch ⟨Nat.le_of_ble_eq_true rfl, Nat.le_of_ble_eq_true rfl⟩) hK hZ hT hA hP hD hS hl.1 (va_recv hK hP (ci := 7) (q0 := 1) rfl rfl) [1, 2, 3, 4, 5, 6, 7, 8, 9, 10] [0] rfl rfl rfl rfl rfl rfl rfl (Nat.le_of_ble_eq_true rfl) ⟨Nat.le_of_ble_eq_true rfl, Nat.le_of_ble_eq_true rfl⟩ dX10_liftableCells_5 (fun H locs hP hD hS => ?_)
  have hP : va_P (gD g) vwCl (wT g ha tv ++ wQ g (ha 1) qv) H := hP.sub [0, 1, 2, 3, 4, 5, 6, 7, 8, 9, 10] rfl
  have hD : va_D A (wT g ha tv ++ wQ g (ha 1) qv) := hD.sub [0, 1, 2, 3, 4, 5, 6, 7, 8, 9, 10] rfl rfl
  refine lv_if_ne (tgt := 21) hx hb dX10_liftableCells_8 (by decide) (fun hc => ?_) (fun hc => ?_)
  · have hf := jbF hf hc
    refine lv_aload_n hx hb dX10_liftableCells_21 rfl (lv_at hl 0 rfl) ?_
    refine va_get (D := gD g) (ci := 9) (v := .ref (ha 1 0)) (C := RX10) (T := TX10) (N := 9) hx hb hts hinX10 hown hK hP 0 rfl rfl 0 (by decide) k0 (fun _ h9 => h9) rfl dX10_liftableCells_22 ?_
    refine lv_iload_n hx hb dX10_liftableCells_25 rfl (lv_at hl 1 rfl) ?_
    obtain ⟨o3, g4, hf⟩ := jbB_e hf
    refine cv_i (As := [.int a0]) (rest := []) (Wr := [0].filterMap (fun i => ((wT g ha tv ++ wQ g (ha 1) qv))[i]?)) ⟨hx, hb, hml, hown, hts⟩ (c_X7_countLiftable l g (ha 1) qv a0 _ g4) (cwV 1 hts gX10_liftableCells_X7_countLiftable rfl rfl rfl hd_X7_countLiftable ⟨Nat.le_of_ble_eq_true rfl, Nat.le_of_ble_eq_true rfl⟩) hK hZ hT hA hP hD hS hl.1 (va_recv hK hP (ci := 7) (q0 := 1) rfl rfl) [1, 2, 3, 4, 5, 6, 7, 8, 9, 10] [0] rfl rfl rfl rfl rfl rfl rfl (Nat.le_of_ble_eq_true rfl) ⟨Nat.le_of_ble_eq_true rfl, Nat.le_of_ble_eq_true rfl⟩ dX10_liftableCells_26 (fun H locs hP hD hS => ?_)
    have hP : va_P (gD g) vwCl (wT g ha tv ++ wQ g (ha 1) qv) H := hP.sub [0, 1, 2, 3, 4, 5, 6, 7, 8, 9, 10] rfl
    have hD : va_D A (wT g ha tv ++ wQ g (ha 1) qv) := hD.sub [0, 1, 2, 3, 4, 5, 6, 7, 8, 9, 10] rfl rfl
    cases hf
    subst hQ
    exact rx_i o3 rfl rfl hx hb hrt hlk rfl hK hP hD hS (Nat.le_of_ble_eq_true rfl) (Nat.le_of_ble_eq_true rfl) dX10_liftableCells_29
  · have hf := jbT hf hc
    cases hf
    subst hQ
    exact vx_throwS (cls := "java/lang/IndexOutOfBoundsException") (names := ["java/lang/RuntimeException", "java/lang/Exception"]) hx hb hlt hown (by decide +kernel) (by decide +kernel) (hts (.classLink RX10 205 "java/lang/IndexOutOfBoundsException") (by decide +kernel)) (hts (.initialized "java/lang/IndexOutOfBoundsException") (by decide +kernel)) (hT.1 9 ("TerraceQuarry", 207, "there is no such winch") rfl) (ox_0 (fun _ h => List.mem_cons_of_mem _ (List.mem_append_left _ (List.mem_append_right _ h))) hts hT) og_0 (rx_tt hZ).1 (rx_tt hZ).2 hS (hl.1.trans hml.symm) dX10_liftableCells_11 dX10_liftableCells_14 dX10_liftableCells_15 dX10_liftableCells_17 dX10_liftableCells_20 (fun x h => (htb x h).elim) (by decide) (Nat.le_of_ble_eq_true rfl) (Nat.le_of_ble_eq_true rfl) (Nat.le_of_ble_eq_true rfl) hlk (fun t h1 h2 h3 => rx_xc 0 rfl rfl hK hP hD hS t h1 h2 h3) hS.2.2 (Nat.le_of_ble_eq_true rfl) (Nat.le_of_ble_eq_true rfl)
def f_X10_bestWinch (tv : TV) (qv : QV) (a0 : Int32) (a1 : Int32) : Option (Sum Nat Int32) :=
  (f_X3_cellFault a0 a1).bind fun o1 =>
  (f_X10_refuse o1).bind fun o3 => jbM o3 (fun xo3 => some (.inl xo3)) (fun _ =>
  (f_X7_leastAbleWinch qv a0 a1).bind fun o5 =>
  if o5 = (-1) then
  (some (.inl 2))
  else
  (some (.inr o5)))
def rm_X10_bestWinch : Room := { frames := 9, cells := 2, slots := 12, locals := 140 }
theorem hd_X10_bestWinch : yX10_bestWinch.cls = RX10 ∧ yX10_bestWinch.cls ≠ "java/lang/invoke/MethodHandle" ∧ yX10_bestWinch.cls ≠ "java/lang/invoke/VarHandle" ∧ (parseMethodDescriptor yX10_bestWinch.desc).map (fun d => d.parameters.length) = some 2 := by decide +kernel
set_option maxHeartbeats 4000000 in
set_option maxRecDepth 100000 in
theorem c_X10_bestWinch (l : Launch) (hlt : l.stackTraces = false) (g : GG) (ha : Nat → Nat → Nat) (tv : TV) (qv : QV) (a0 : Int32) (a1 : Int32) (out : Sum Nat Int32) (hf : f_X10_bestWinch tv qv a0 a1 = some out) : MxI l yX10_bestWinch wsX10_bestWinch rm_X10_bestWinch g (wT g ha tv ++ wQ g (ha 1) qv) [.ref (ha 0 0), .int a0, .int a1] out (fun x : Int32 => x) (fun x : Int32 => (wT g ha tv ++ wQ g (ha 1) qv)) (fun x : Nat => x) (fun x : Nat => (wT g ha tv ++ wQ g (ha 1) qv)) 2 12 := by
  refine fun sz => mx_of (cc := cX10_bestWinch) (maxL := 4) (ret := (some .int)) (own := RX10) (Qc := fun A => va_Qi (fun r (x : Int32) => out = .inr x ∧ r = x) (fun x t => PosM g A (wT g ha tv ++ wQ g (ha 1) qv) t) A) (XC := fun A => vx_X (fun (x : Nat) => out = .inl x) (fun E x t => E = exn x ∧ PosM g A (wT g ha tv ++ wQ g (ha 1) qv) t) A) (by decide +kernel) rfl rfl (Nat.le_of_ble_eq_true rfl) ?_ sz
  intro p e s mi below meth c A ls hB htb hrt hlk hP hD hl
  obtain ⟨hx, hb, hml, hown, hts, hK, hZ, hT, hA, -⟩ := hB
  have hS : va_S A s.heap s.heap [] := va_S.rf
  have hl : lv_has ls 4 [(0, .ref (ha 0 0)), (1, .int a0), (2, .int a1)] := hl
  have hinX10 : ∀ w ∈ wsX100, w ∈ wsX10_bestWinch := by decide +kernel
  have k0 := hts (.fieldLink RX10 10 "TerraceQuarry" "quarry" "LTerraceQuarry$Quarry;") (by decide +kernel)
  generalize hQ : vx_MQ below _ _ _ _ _ _ _ = Q
  unfold f_X10_bestWinch at hf
  refine lv_iload_n hx hb dX10_bestWinch_0 rfl (lv_at hl 1 rfl) ?_
  refine lv_iload_n hx hb dX10_bestWinch_1 rfl (lv_at hl 2 rfl) ?_
  obtain ⟨o1, g2, hf⟩ := jbB_e hf
  refine csn_e (As := [.int a0, .int a1]) (rest := []) ⟨hx, hb, hml, hown, hts⟩ (c_X3_cellFault l g a0 a1 _ g2) (va_cwS 2 hts gX10_bestWinch_X3_cellFault rfl rfl rfl hd_X3_cellFault ⟨Nat.le_of_ble_eq_true rfl, Nat.le_of_ble_eq_true rfl⟩) hK hZ hT hA hP hD hS hl.1 rfl rfl (Nat.le_of_ble_eq_true rfl) ⟨Nat.le_of_ble_eq_true rfl, Nat.le_of_ble_eq_true rfl⟩ dX10_bestWinch_2 (fun H locs hP hD hS => ?_)
  obtain ⟨o3, g4, hf⟩ := jbB_e hf
  refine cxn_v (As := [.ref (gS g 0 o1)]) (rest := []) ⟨hx, hb, hml, hown, hts⟩ (c_X10_refuse l hlt g o1 _ g4) (va_cwS 1 hts gX10_bestWinch_X10_refuse rfl rfl rfl hd_X10_refuse ⟨Nat.le_of_ble_eq_true rfl, Nat.le_of_ble_eq_true rfl⟩) hK hZ hT hA hP hD hS hl.1 rfl rfl (Nat.le_of_ble_eq_true rfl) ⟨Nat.le_of_ble_eq_true rfl, Nat.le_of_ble_eq_true rfl⟩ dX10_bestWinch_5 (fun xo3 ce q9 H locs ho hP hD hS hce hcv hcl => ?_) (fun _ H locs ho hP hD hS => ?_)
  · subst ho
    have hf := jbM_l hf
    cases hf
    subst hQ
    exact rx_x xo3 rfl rfl htb hlk hK hP hD hS hce hcv hcl (Nat.le_of_ble_eq_true rfl) (Nat.le_of_ble_eq_true rfl)
  subst ho
  have hf := jbM_r hf
  refine lv_aload_n hx hb dX10_bestWinch_8 rfl (lv_at hl 0 rfl) ?_
  refine va_get (D := gD g) (ci := 9) (v := .ref (ha 1 0)) (C := RX10) (T := TX10) (N := 9) hx hb hts hinX10 hown hK hP 0 rfl rfl 0 (by decide) k0 (fun _ h9 => h9) rfl dX10_bestWinch_9 ?_
  refine lv_iload_n hx hb dX10_bestWinch_12 rfl (lv_at hl 1 rfl) ?_
  refine lv_iload_n hx hb dX10_bestWinch_13 rfl (lv_at hl 2 rfl) ?_
  obtain ⟨o5, g6, hf⟩ := jbB_e hf
  refine cv_i (As := [.int a0, .int a1]) (rest := []) (Wr := [0].filterMap (fun i => ((wT g ha tv ++ wQ g (ha 1) qv))[i]?)) ⟨hx, hb, hml, hown, hts⟩ (c_X7_leastAbleWinch l g (ha 1) qv a0 a1 _ g6) (cwV 2 hts gX10_bestWinch_X7_leastAbleWinch rfl rfl rfl hd_X7_leastAbleWinch ⟨Nat.le_of_ble_eq_true rfl, Nat.le_of_ble_eq_true rfl⟩) hK hZ hT hA hP hD hS hl.1 (va_recv hK hP (ci := 7) (q0 := 1) rfl rfl) [1, 2, 3, 4, 5, 6, 7, 8, 9, 10] [0] rfl rfl rfl rfl rfl rfl rfl (Nat.le_of_ble_eq_true rfl) ⟨Nat.le_of_ble_eq_true rfl, Nat.le_of_ble_eq_true rfl⟩ dX10_bestWinch_14 (fun H locs hP hD hS => ?_)
  have hP : va_P (gD g) vwCl (wT g ha tv ++ wQ g (ha 1) qv) H := hP.sub [0, 1, 2, 3, 4, 5, 6, 7, 8, 9, 10] rfl
  have hD : va_D A (wT g ha tv ++ wQ g (ha 1) qv) := hD.sub [0, 1, 2, 3, 4, 5, 6, 7, 8, 9, 10] rfl rfl
  refine lv_istore_n (lv' := [(3, .int o5), (0, .ref (ha 0 0)), (1, .int a0), (2, .int a1)]) hx hb dX10_bestWinch_17 rfl hl (by decide) rfl (fun ls hl => ?_)
  refine lv_iload_n hx hb dX10_bestWinch_18 rfl (lv_at hl 0 rfl) ?_
  refine lv_iconst (v := (-1)) hx hb dX10_bestWinch_19 (by decide) ?_
  refine lv_icmp_ne (tgt := 33) hx hb dX10_bestWinch_20 (by decide) (fun hc => ?_) (fun hc => ?_)
  · have hf := jbF hf hc
    refine lv_iload_n hx hb dX10_bestWinch_33 rfl (lv_at hl 0 rfl) ?_
    cases hf
    subst hQ
    exact rx_i o5 rfl rfl hx hb hrt hlk rfl hK hP hD hS (Nat.le_of_ble_eq_true rfl) (Nat.le_of_ble_eq_true rfl) dX10_bestWinch_34
  · have hf := jbT hf hc
    cases hf
    subst hQ
    exact nx_throwS (cls := "java/util/NoSuchElementException") (Y9 := "java/lang/RuntimeException") (names := ["java/lang/Exception"]) (ix := 13) (rx := prog_42_method_4_code) hx hb hlt nse_0 nse_1 nse_2 nse_5 (by decide +kernel) hown (by decide +kernel) (by decide +kernel) (hts (.classLink RX10 192 "java/util/NoSuchElementException") (by decide +kernel)) (hts (.initialized "java/util/NoSuchElementException") (by decide +kernel)) (hT.1 10 ("TerraceQuarry", 216, "no winch could lift a block from the cell") rfl) (ox_2 (fun _ h => List.mem_cons_of_mem _ (List.mem_append_left _ (List.mem_append_left _ (List.mem_append_left _ (List.mem_append_left _ (List.mem_append_left _ (List.mem_append_right _ h))))))) hts hT) og_2 (rx_tt hZ).1 (rx_tt hZ).2 hS (hl.1.trans hml.symm) dX10_bestWinch_23 dX10_bestWinch_26 dX10_bestWinch_27 dX10_bestWinch_29 dX10_bestWinch_32 (fun x h => (htb x h).elim) (by decide) (Nat.le_of_ble_eq_true rfl) (Nat.le_of_ble_eq_true rfl) (Nat.le_of_ble_eq_true rfl) hlk (fun t h1 h2 h3 => rx_xc 2 rfl rfl hK hP hD hS t h1 h2 h3) hS.2.2 (Nat.le_of_ble_eq_true rfl) (Nat.le_of_ble_eq_true rfl)
def f_X10_inYard (tv : TV) (qv : QV) (a0 : Int32) : Option (Sum Nat Int32) :=
  (f_X7_isStone a0).bind fun o1 =>
  if o1 = 0 then
  (some (.inl 1))
  else
  ((f_X7_yardBlocks qv a0).bind fun o3 =>
  some (.inr o3))
def rm_X10_inYard : Room := { frames := 7, cells := 1, slots := 6, locals := 120 }
theorem hd_X10_inYard : yX10_inYard.cls = RX10 ∧ yX10_inYard.cls ≠ "java/lang/invoke/MethodHandle" ∧ yX10_inYard.cls ≠ "java/lang/invoke/VarHandle" ∧ (parseMethodDescriptor yX10_inYard.desc).map (fun d => d.parameters.length) = some 1 := by decide +kernel
set_option maxHeartbeats 4000000 in
set_option maxRecDepth 100000 in
theorem c_X10_inYard (l : Launch) (hlt : l.stackTraces = false) (g : GG) (ha : Nat → Nat → Nat) (tv : TV) (qv : QV) (a0 : Int32) (out : Sum Nat Int32) (hf : f_X10_inYard tv qv a0 = some out) : MxI l yX10_inYard wsX10_inYard rm_X10_inYard g (wT g ha tv ++ wQ g (ha 1) qv) [.ref (ha 0 0), .int a0] out (fun x : Int32 => x) (fun x : Int32 => (wT g ha tv ++ wQ g (ha 1) qv)) (fun x : Nat => x) (fun x : Nat => (wT g ha tv ++ wQ g (ha 1) qv)) 1 6 := by
  refine fun sz => mx_of (cc := cX10_inYard) (maxL := 2) (ret := (some .int)) (own := RX10) (Qc := fun A => va_Qi (fun r (x : Int32) => out = .inr x ∧ r = x) (fun x t => PosM g A (wT g ha tv ++ wQ g (ha 1) qv) t) A) (XC := fun A => vx_X (fun (x : Nat) => out = .inl x) (fun E x t => E = exn x ∧ PosM g A (wT g ha tv ++ wQ g (ha 1) qv) t) A) (by decide +kernel) rfl rfl (Nat.le_of_ble_eq_true rfl) ?_ sz
  intro p e s mi below meth c A ls hB htb hrt hlk hP hD hl
  obtain ⟨hx, hb, hml, hown, hts, hK, hZ, hT, hA, -⟩ := hB
  have hS : va_S A s.heap s.heap [] := va_S.rf
  have hl : lv_has ls 2 [(0, .ref (ha 0 0)), (1, .int a0)] := hl
  have hinX10 : ∀ w ∈ wsX100, w ∈ wsX10_inYard := by decide +kernel
  have k0 := hts (.fieldLink RX10 10 "TerraceQuarry" "quarry" "LTerraceQuarry$Quarry;") (by decide +kernel)
  generalize hQ : vx_MQ below _ _ _ _ _ _ _ = Q
  unfold f_X10_inYard at hf
  refine lv_iload_n hx hb dX10_inYard_0 rfl (lv_at hl 1 rfl) ?_
  obtain ⟨o1, g2, hf⟩ := jbB_e hf
  refine csn_i (As := [.int a0]) (rest := []) ⟨hx, hb, hml, hown, hts⟩ (c_X7_isStone l g a0 _ g2) (va_cwS 1 hts gX10_inYard_X7_isStone rfl rfl rfl hd_X7_isStone ⟨Nat.le_of_ble_eq_true rfl, Nat.le_of_ble_eq_true rfl⟩) hK hZ hT hA hP hD hS hl.1 rfl rfl (Nat.le_of_ble_eq_true rfl) ⟨Nat.le_of_ble_eq_true rfl, Nat.le_of_ble_eq_true rfl⟩ dX10_inYard_1 (fun H locs hP hD hS => ?_)
  refine lv_if_ne (tgt := 17) hx hb dX10_inYard_4 (by decide) (fun hc => ?_) (fun hc => ?_)
  · have hf := jbF hf hc
    refine lv_aload_n hx hb dX10_inYard_17 rfl (lv_at hl 0 rfl) ?_
    refine va_get (D := gD g) (ci := 9) (v := .ref (ha 1 0)) (C := RX10) (T := TX10) (N := 9) hx hb hts hinX10 hown hK hP 0 rfl rfl 0 (by decide) k0 (fun _ h9 => h9) rfl dX10_inYard_18 ?_
    refine lv_iload_n hx hb dX10_inYard_21 rfl (lv_at hl 1 rfl) ?_
    obtain ⟨o3, g4, hf⟩ := jbB_e hf
    refine cv_i (As := [.int a0]) (rest := []) (Wr := [0].filterMap (fun i => ((wT g ha tv ++ wQ g (ha 1) qv))[i]?)) ⟨hx, hb, hml, hown, hts⟩ (c_X7_yardBlocks l g (ha 1) qv a0 _ g4) (cwV 1 hts gX10_inYard_X7_yardBlocks rfl rfl rfl hd_X7_yardBlocks ⟨Nat.le_of_ble_eq_true rfl, Nat.le_of_ble_eq_true rfl⟩) hK hZ hT hA hP hD hS hl.1 (va_recv hK hP (ci := 7) (q0 := 1) rfl rfl) [1, 2, 3, 4, 5, 6, 7, 8, 9, 10] [0] rfl rfl rfl rfl rfl rfl rfl (Nat.le_of_ble_eq_true rfl) ⟨Nat.le_of_ble_eq_true rfl, Nat.le_of_ble_eq_true rfl⟩ dX10_inYard_22 (fun H locs hP hD hS => ?_)
    have hP : va_P (gD g) vwCl (wT g ha tv ++ wQ g (ha 1) qv) H := hP.sub [0, 1, 2, 3, 4, 5, 6, 7, 8, 9, 10] rfl
    have hD : va_D A (wT g ha tv ++ wQ g (ha 1) qv) := hD.sub [0, 1, 2, 3, 4, 5, 6, 7, 8, 9, 10] rfl rfl
    cases hf
    subst hQ
    exact rx_i o3 rfl rfl hx hb hrt hlk rfl hK hP hD hS (Nat.le_of_ble_eq_true rfl) (Nat.le_of_ble_eq_true rfl) dX10_inYard_25
  · have hf := jbT hf hc
    cases hf
    subst hQ
    exact vx_throwS (cls := "java/lang/IllegalArgumentException") (names := ["java/lang/RuntimeException", "java/lang/Exception"]) hx hb hlt hown (by decide +kernel) (by decide +kernel) (hts (.classLink RX10 221 "java/lang/IllegalArgumentException") (by decide +kernel)) (hts (.initialized "java/lang/IllegalArgumentException") (by decide +kernel)) (hT.1 11 ("TerraceQuarry", 223, "the stone is out of range") rfl) (ox_1 (fun _ h => List.mem_cons_of_mem _ (List.mem_append_left _ (List.mem_append_right _ h))) hts hT) og_1 (rx_tt hZ).1 (rx_tt hZ).2 hS (hl.1.trans hml.symm) dX10_inYard_7 dX10_inYard_10 dX10_inYard_11 dX10_inYard_13 dX10_inYard_16 (fun x h => (htb x h).elim) (by decide) (Nat.le_of_ble_eq_true rfl) (Nat.le_of_ble_eq_true rfl) (Nat.le_of_ble_eq_true rfl) hlk (fun t h1 h2 h3 => rx_xc 1 rfl rfl hK hP hD hS t h1 h2 h3) hS.2.2 (Nat.le_of_ble_eq_true rfl) (Nat.le_of_ble_eq_true rfl)
def f_X10_yardWeight (tv : TV) (qv : QV) : Option Int32 :=
  (f_X7_weightOfYard qv).bind fun o1 =>
  some o1
def rm_X10_yardWeight : Room := { frames := 2, cells := 0, slots := 0, locals := 42 }
theorem hd_X10_yardWeight : yX10_yardWeight.cls = RX10 ∧ yX10_yardWeight.cls ≠ "java/lang/invoke/MethodHandle" ∧ yX10_yardWeight.cls ≠ "java/lang/invoke/VarHandle" ∧ (parseMethodDescriptor yX10_yardWeight.desc).map (fun d => d.parameters.length) = some 0 := by decide +kernel
set_option maxHeartbeats 4000000 in
set_option maxRecDepth 100000 in
theorem c_X10_yardWeight (l : Launch) (hlt : l.stackTraces = false) (g : GG) (ha : Nat → Nat → Nat) (tv : TV) (qv : QV)  (out : Int32) (hf : f_X10_yardWeight tv qv = some out) : MtI l yX10_yardWeight wsX10_yardWeight rm_X10_yardWeight g (wT g ha tv ++ wQ g (ha 1) qv) [.ref (ha 0 0)] out (wT g ha tv ++ wQ g (ha 1) qv) 0 0 := by
  refine fun sz => mt_of (cc := cX10_yardWeight) (maxL := 1) (ret := (some .int)) (own := RX10) (Qc := fun A => va_Qi (fun r (_ : Unit) => r = out) (fun _ t => PosM g A (wT g ha tv ++ wQ g (ha 1) qv) t) A) (by decide +kernel) rfl rfl (Nat.le_of_ble_eq_true rfl) ?_ sz
  intro p e s mi below meth c A ls hB hnm hrt hlk hP hD hl
  obtain ⟨hx, hb, hml, hown, hts, hK, hZ, hT, hA, -⟩ := hB
  have hS : va_S A s.heap s.heap [] := va_S.rf
  have hl : lv_has ls 1 [(0, .ref (ha 0 0))] := hl
  have hinX10 : ∀ w ∈ wsX100, w ∈ wsX10_yardWeight := by decide +kernel
  have k0 := hts (.fieldLink RX10 10 "TerraceQuarry" "quarry" "LTerraceQuarry$Quarry;") (by decide +kernel)
  generalize hQ : MQ below _ _ _ _ _ _ = Q
  unfold f_X10_yardWeight at hf
  refine lv_aload_n hx hb dX10_yardWeight_0 rfl (lv_at hl 0 rfl) ?_
  refine va_get (D := gD g) (ci := 9) (v := .ref (ha 1 0)) (C := RX10) (T := TX10) (N := 9) hx hb hts hinX10 hown hK hP 0 rfl rfl 0 (by decide) k0 (fun _ h9 => h9) rfl dX10_yardWeight_1 ?_
  obtain ⟨o1, g2, hf⟩ := jbB_e hf
  refine cv_i (As := []) (rest := []) (Wr := [0].filterMap (fun i => ((wT g ha tv ++ wQ g (ha 1) qv))[i]?)) ⟨hx, hb, hml, hown, hts⟩ (c_X7_weightOfYard l g (ha 1) qv _ g2) (cwV 0 hts gX10_yardWeight_X7_weightOfYard rfl rfl rfl hd_X7_weightOfYard ⟨Nat.le_of_ble_eq_true rfl, Nat.le_of_ble_eq_true rfl⟩) hK hZ hT hA hP hD hS hl.1 (va_recv hK hP (ci := 7) (q0 := 1) rfl rfl) [1, 2, 3, 4, 5, 6, 7, 8, 9, 10] [0] rfl rfl rfl rfl rfl rfl rfl (Nat.le_of_ble_eq_true rfl) ⟨Nat.le_of_ble_eq_true rfl, Nat.le_of_ble_eq_true rfl⟩ dX10_yardWeight_4 (fun H locs hP hD hS => ?_)
  have hP : va_P (gD g) vwCl (wT g ha tv ++ wQ g (ha 1) qv) H := hP.sub [0, 1, 2, 3, 4, 5, 6, 7, 8, 9, 10] rfl
  have hD : va_D A (wT g ha tv ++ wQ g (ha 1) qv) := hD.sub [0, 1, 2, 3, 4, 5, 6, 7, 8, 9, 10] rfl rfl
  cases hf
  subst hQ
  exact rt_i hx hb hrt hlk rfl hK hP hD hS (Nat.le_of_ble_eq_true rfl) (Nat.le_of_ble_eq_true rfl) dX10_yardWeight_7
def f_X10_rubble (tv : TV) (qv : QV) : Option Int32 :=
  (f_X7_loads qv).bind fun o1 =>
  some o1
def rm_X10_rubble : Room := { frames := 1, cells := 0, slots := 0, locals := 20 }
theorem hd_X10_rubble : yX10_rubble.cls = RX10 ∧ yX10_rubble.cls ≠ "java/lang/invoke/MethodHandle" ∧ yX10_rubble.cls ≠ "java/lang/invoke/VarHandle" ∧ (parseMethodDescriptor yX10_rubble.desc).map (fun d => d.parameters.length) = some 0 := by decide +kernel
set_option maxHeartbeats 4000000 in
set_option maxRecDepth 100000 in
theorem c_X10_rubble (l : Launch) (hlt : l.stackTraces = false) (g : GG) (ha : Nat → Nat → Nat) (tv : TV) (qv : QV)  (out : Int32) (hf : f_X10_rubble tv qv = some out) : MtI l yX10_rubble wsX10_rubble rm_X10_rubble g (wT g ha tv ++ wQ g (ha 1) qv) [.ref (ha 0 0)] out (wT g ha tv ++ wQ g (ha 1) qv) 0 0 := by
  refine fun sz => mt_of (cc := cX10_rubble) (maxL := 1) (ret := (some .int)) (own := RX10) (Qc := fun A => va_Qi (fun r (_ : Unit) => r = out) (fun _ t => PosM g A (wT g ha tv ++ wQ g (ha 1) qv) t) A) (by decide +kernel) rfl rfl (Nat.le_of_ble_eq_true rfl) ?_ sz
  intro p e s mi below meth c A ls hB hnm hrt hlk hP hD hl
  obtain ⟨hx, hb, hml, hown, hts, hK, hZ, hT, hA, -⟩ := hB
  have hS : va_S A s.heap s.heap [] := va_S.rf
  have hl : lv_has ls 1 [(0, .ref (ha 0 0))] := hl
  have hinX10 : ∀ w ∈ wsX100, w ∈ wsX10_rubble := by decide +kernel
  have k0 := hts (.fieldLink RX10 10 "TerraceQuarry" "quarry" "LTerraceQuarry$Quarry;") (by decide +kernel)
  generalize hQ : MQ below _ _ _ _ _ _ = Q
  unfold f_X10_rubble at hf
  refine lv_aload_n hx hb dX10_rubble_0 rfl (lv_at hl 0 rfl) ?_
  refine va_get (D := gD g) (ci := 9) (v := .ref (ha 1 0)) (C := RX10) (T := TX10) (N := 9) hx hb hts hinX10 hown hK hP 0 rfl rfl 0 (by decide) k0 (fun _ h9 => h9) rfl dX10_rubble_1 ?_
  obtain ⟨o1, g2, hf⟩ := jbB_e hf
  refine cv_i (As := []) (rest := []) (Wr := [0].filterMap (fun i => ((wT g ha tv ++ wQ g (ha 1) qv))[i]?)) ⟨hx, hb, hml, hown, hts⟩ (c_X7_loads l g (ha 1) qv _ g2) (cwV 0 hts gX10_rubble_X7_loads rfl rfl rfl hd_X7_loads ⟨Nat.le_of_ble_eq_true rfl, Nat.le_of_ble_eq_true rfl⟩) hK hZ hT hA hP hD hS hl.1 (va_recv hK hP (ci := 7) (q0 := 1) rfl rfl) [1, 2, 3, 4, 5, 6, 7, 8, 9, 10] [0] rfl rfl rfl rfl rfl rfl rfl (Nat.le_of_ble_eq_true rfl) ⟨Nat.le_of_ble_eq_true rfl, Nat.le_of_ble_eq_true rfl⟩ dX10_rubble_4 (fun H locs hP hD hS => ?_)
  have hP : va_P (gD g) vwCl (wT g ha tv ++ wQ g (ha 1) qv) H := hP.sub [0, 1, 2, 3, 4, 5, 6, 7, 8, 9, 10] rfl
  have hD : va_D A (wT g ha tv ++ wQ g (ha 1) qv) := hD.sub [0, 1, 2, 3, 4, 5, 6, 7, 8, 9, 10] rfl rfl
  cases hf
  subst hQ
  exact rt_i hx hb hrt hlk rfl hK hP hD hS (Nat.le_of_ble_eq_true rfl) (Nat.le_of_ble_eq_true rfl) dX10_rubble_7
def f_X10_stepLimit (tv : TV) (qv : QV) : Option Int32 :=
  (f_X7_limit qv).bind fun o1 =>
  some o1
def rm_X10_stepLimit : Room := { frames := 1, cells := 0, slots := 0, locals := 20 }
theorem hd_X10_stepLimit : yX10_stepLimit.cls = RX10 ∧ yX10_stepLimit.cls ≠ "java/lang/invoke/MethodHandle" ∧ yX10_stepLimit.cls ≠ "java/lang/invoke/VarHandle" ∧ (parseMethodDescriptor yX10_stepLimit.desc).map (fun d => d.parameters.length) = some 0 := by decide +kernel
set_option maxHeartbeats 4000000 in
set_option maxRecDepth 100000 in
theorem c_X10_stepLimit (l : Launch) (hlt : l.stackTraces = false) (g : GG) (ha : Nat → Nat → Nat) (tv : TV) (qv : QV)  (out : Int32) (hf : f_X10_stepLimit tv qv = some out) : MtI l yX10_stepLimit wsX10_stepLimit rm_X10_stepLimit g (wT g ha tv ++ wQ g (ha 1) qv) [.ref (ha 0 0)] out (wT g ha tv ++ wQ g (ha 1) qv) 0 0 := by
  refine fun sz => mt_of (cc := cX10_stepLimit) (maxL := 1) (ret := (some .int)) (own := RX10) (Qc := fun A => va_Qi (fun r (_ : Unit) => r = out) (fun _ t => PosM g A (wT g ha tv ++ wQ g (ha 1) qv) t) A) (by decide +kernel) rfl rfl (Nat.le_of_ble_eq_true rfl) ?_ sz
  intro p e s mi below meth c A ls hB hnm hrt hlk hP hD hl
  obtain ⟨hx, hb, hml, hown, hts, hK, hZ, hT, hA, -⟩ := hB
  have hS : va_S A s.heap s.heap [] := va_S.rf
  have hl : lv_has ls 1 [(0, .ref (ha 0 0))] := hl
  have hinX10 : ∀ w ∈ wsX100, w ∈ wsX10_stepLimit := by decide +kernel
  have k0 := hts (.fieldLink RX10 10 "TerraceQuarry" "quarry" "LTerraceQuarry$Quarry;") (by decide +kernel)
  generalize hQ : MQ below _ _ _ _ _ _ = Q
  unfold f_X10_stepLimit at hf
  refine lv_aload_n hx hb dX10_stepLimit_0 rfl (lv_at hl 0 rfl) ?_
  refine va_get (D := gD g) (ci := 9) (v := .ref (ha 1 0)) (C := RX10) (T := TX10) (N := 9) hx hb hts hinX10 hown hK hP 0 rfl rfl 0 (by decide) k0 (fun _ h9 => h9) rfl dX10_stepLimit_1 ?_
  obtain ⟨o1, g2, hf⟩ := jbB_e hf
  refine cv_i (As := []) (rest := []) (Wr := [0].filterMap (fun i => ((wT g ha tv ++ wQ g (ha 1) qv))[i]?)) ⟨hx, hb, hml, hown, hts⟩ (c_X7_limit l g (ha 1) qv _ g2) (cwV 0 hts gX10_stepLimit_X7_limit rfl rfl rfl hd_X7_limit ⟨Nat.le_of_ble_eq_true rfl, Nat.le_of_ble_eq_true rfl⟩) hK hZ hT hA hP hD hS hl.1 (va_recv hK hP (ci := 7) (q0 := 1) rfl rfl) [1, 2, 3, 4, 5, 6, 7, 8, 9, 10] [0] rfl rfl rfl rfl rfl rfl rfl (Nat.le_of_ble_eq_true rfl) ⟨Nat.le_of_ble_eq_true rfl, Nat.le_of_ble_eq_true rfl⟩ dX10_stepLimit_4 (fun H locs hP hD hS => ?_)
  have hP : va_P (gD g) vwCl (wT g ha tv ++ wQ g (ha 1) qv) H := hP.sub [0, 1, 2, 3, 4, 5, 6, 7, 8, 9, 10] rfl
  have hD : va_D A (wT g ha tv ++ wQ g (ha 1) qv) := hD.sub [0, 1, 2, 3, 4, 5, 6, 7, 8, 9, 10] rfl rfl
  cases hf
  subst hQ
  exact rt_i hx hb hrt hlk rfl hK hP hD hS (Nat.le_of_ble_eq_true rfl) (Nat.le_of_ble_eq_true rfl) dX10_stepLimit_7
def f_X10_cutTotal (tv : TV) (qv : QV) : Option Int32 :=
  (f_X7_cutsDone qv).bind fun o1 =>
  some o1
def rm_X10_cutTotal : Room := { frames := 1, cells := 0, slots := 0, locals := 20 }
theorem hd_X10_cutTotal : yX10_cutTotal.cls = RX10 ∧ yX10_cutTotal.cls ≠ "java/lang/invoke/MethodHandle" ∧ yX10_cutTotal.cls ≠ "java/lang/invoke/VarHandle" ∧ (parseMethodDescriptor yX10_cutTotal.desc).map (fun d => d.parameters.length) = some 0 := by decide +kernel
set_option maxHeartbeats 4000000 in
set_option maxRecDepth 100000 in
theorem c_X10_cutTotal (l : Launch) (hlt : l.stackTraces = false) (g : GG) (ha : Nat → Nat → Nat) (tv : TV) (qv : QV)  (out : Int32) (hf : f_X10_cutTotal tv qv = some out) : MtI l yX10_cutTotal wsX10_cutTotal rm_X10_cutTotal g (wT g ha tv ++ wQ g (ha 1) qv) [.ref (ha 0 0)] out (wT g ha tv ++ wQ g (ha 1) qv) 0 0 := by
  refine fun sz => mt_of (cc := cX10_cutTotal) (maxL := 1) (ret := (some .int)) (own := RX10) (Qc := fun A => va_Qi (fun r (_ : Unit) => r = out) (fun _ t => PosM g A (wT g ha tv ++ wQ g (ha 1) qv) t) A) (by decide +kernel) rfl rfl (Nat.le_of_ble_eq_true rfl) ?_ sz
  intro p e s mi below meth c A ls hB hnm hrt hlk hP hD hl
  obtain ⟨hx, hb, hml, hown, hts, hK, hZ, hT, hA, -⟩ := hB
  have hS : va_S A s.heap s.heap [] := va_S.rf
  have hl : lv_has ls 1 [(0, .ref (ha 0 0))] := hl
  have hinX10 : ∀ w ∈ wsX100, w ∈ wsX10_cutTotal := by decide +kernel
  have k0 := hts (.fieldLink RX10 10 "TerraceQuarry" "quarry" "LTerraceQuarry$Quarry;") (by decide +kernel)
  generalize hQ : MQ below _ _ _ _ _ _ = Q
  unfold f_X10_cutTotal at hf
  refine lv_aload_n hx hb dX10_cutTotal_0 rfl (lv_at hl 0 rfl) ?_
  refine va_get (D := gD g) (ci := 9) (v := .ref (ha 1 0)) (C := RX10) (T := TX10) (N := 9) hx hb hts hinX10 hown hK hP 0 rfl rfl 0 (by decide) k0 (fun _ h9 => h9) rfl dX10_cutTotal_1 ?_
  obtain ⟨o1, g2, hf⟩ := jbB_e hf
  refine cv_i (As := []) (rest := []) (Wr := [0].filterMap (fun i => ((wT g ha tv ++ wQ g (ha 1) qv))[i]?)) ⟨hx, hb, hml, hown, hts⟩ (c_X7_cutsDone l g (ha 1) qv _ g2) (cwV 0 hts gX10_cutTotal_X7_cutsDone rfl rfl rfl hd_X7_cutsDone ⟨Nat.le_of_ble_eq_true rfl, Nat.le_of_ble_eq_true rfl⟩) hK hZ hT hA hP hD hS hl.1 (va_recv hK hP (ci := 7) (q0 := 1) rfl rfl) [1, 2, 3, 4, 5, 6, 7, 8, 9, 10] [0] rfl rfl rfl rfl rfl rfl rfl (Nat.le_of_ble_eq_true rfl) ⟨Nat.le_of_ble_eq_true rfl, Nat.le_of_ble_eq_true rfl⟩ dX10_cutTotal_4 (fun H locs hP hD hS => ?_)
  have hP : va_P (gD g) vwCl (wT g ha tv ++ wQ g (ha 1) qv) H := hP.sub [0, 1, 2, 3, 4, 5, 6, 7, 8, 9, 10] rfl
  have hD : va_D A (wT g ha tv ++ wQ g (ha 1) qv) := hD.sub [0, 1, 2, 3, 4, 5, 6, 7, 8, 9, 10] rfl rfl
  cases hf
  subst hQ
  exact rt_i hx hb hrt hlk rfl hK hP hD hS (Nat.le_of_ble_eq_true rfl) (Nat.le_of_ble_eq_true rfl) dX10_cutTotal_7
def f_X10_workTotal (tv : TV) (qv : QV) : Option Int64 :=
  (f_X7_workDone qv).bind fun o1 =>
  some o1
def rm_X10_workTotal : Room := { frames := 1, cells := 0, slots := 0, locals := 20 }
theorem hd_X10_workTotal : yX10_workTotal.cls = RX10 ∧ yX10_workTotal.cls ≠ "java/lang/invoke/MethodHandle" ∧ yX10_workTotal.cls ≠ "java/lang/invoke/VarHandle" ∧ (parseMethodDescriptor yX10_workTotal.desc).map (fun d => d.parameters.length) = some 0 := by decide +kernel
set_option maxHeartbeats 4000000 in
set_option maxRecDepth 100000 in
theorem c_X10_workTotal (l : Launch) (hlt : l.stackTraces = false) (g : GG) (ha : Nat → Nat → Nat) (tv : TV) (qv : QV)  (out : Int64) (hf : f_X10_workTotal tv qv = some out) : MtL l yX10_workTotal wsX10_workTotal rm_X10_workTotal g (wT g ha tv ++ wQ g (ha 1) qv) [.ref (ha 0 0)] out (wT g ha tv ++ wQ g (ha 1) qv) 0 0 := by
  refine fun sz => mt_of (cc := cX10_workTotal) (maxL := 1) (ret := (some .long)) (own := RX10) (Qc := fun A => va_Ql (fun r (_ : Unit) => r = out) (fun _ t => PosM g A (wT g ha tv ++ wQ g (ha 1) qv) t) A) (by decide +kernel) rfl rfl (Nat.le_of_ble_eq_true rfl) ?_ sz
  intro p e s mi below meth c A ls hB hnm hrt hlk hP hD hl
  obtain ⟨hx, hb, hml, hown, hts, hK, hZ, hT, hA, -⟩ := hB
  have hS : va_S A s.heap s.heap [] := va_S.rf
  have hl : lv_has ls 1 [(0, .ref (ha 0 0))] := hl
  have hinX10 : ∀ w ∈ wsX100, w ∈ wsX10_workTotal := by decide +kernel
  have k0 := hts (.fieldLink RX10 10 "TerraceQuarry" "quarry" "LTerraceQuarry$Quarry;") (by decide +kernel)
  generalize hQ : MQ below _ _ _ _ _ _ = Q
  unfold f_X10_workTotal at hf
  refine lv_aload_n hx hb dX10_workTotal_0 rfl (lv_at hl 0 rfl) ?_
  refine va_get (D := gD g) (ci := 9) (v := .ref (ha 1 0)) (C := RX10) (T := TX10) (N := 9) hx hb hts hinX10 hown hK hP 0 rfl rfl 0 (by decide) k0 (fun _ h9 => h9) rfl dX10_workTotal_1 ?_
  obtain ⟨o1, g2, hf⟩ := jbB_e hf
  refine cv_l (As := []) (rest := []) (Wr := [0].filterMap (fun i => ((wT g ha tv ++ wQ g (ha 1) qv))[i]?)) ⟨hx, hb, hml, hown, hts⟩ (c_X7_workDone l g (ha 1) qv _ g2) (cwV 0 hts gX10_workTotal_X7_workDone rfl rfl rfl hd_X7_workDone ⟨Nat.le_of_ble_eq_true rfl, Nat.le_of_ble_eq_true rfl⟩) hK hZ hT hA hP hD hS hl.1 (va_recv hK hP (ci := 7) (q0 := 1) rfl rfl) [1, 2, 3, 4, 5, 6, 7, 8, 9, 10] [0] rfl rfl rfl rfl rfl rfl rfl (Nat.le_of_ble_eq_true rfl) ⟨Nat.le_of_ble_eq_true rfl, Nat.le_of_ble_eq_true rfl⟩ dX10_workTotal_4 (fun H locs hP hD hS => ?_)
  have hP : va_P (gD g) vwCl (wT g ha tv ++ wQ g (ha 1) qv) H := hP.sub [0, 1, 2, 3, 4, 5, 6, 7, 8, 9, 10] rfl
  have hD : va_D A (wT g ha tv ++ wQ g (ha 1) qv) := hD.sub [0, 1, 2, 3, 4, 5, 6, 7, 8, 9, 10] rfl rfl
  cases hf
  subst hQ
  exact rt_l hx hb hrt hlk hK hP hD hS (Nat.le_of_ble_eq_true rfl) (Nat.le_of_ble_eq_true rfl) dX10_workTotal_7
def f_X10_meanHeight (tv : TV) (qv : QV) : Option UInt64 :=
  (f_X7_heightSum qv).bind fun o1 =>
  if (FP.ddiv (FP.i2d o1) (4629137466983448576 : UInt64)) &&& 0x7fffffffffffffff ≤ 0x7ff0000000000000 then
  some (FP.ddiv (FP.i2d o1) (4629137466983448576 : UInt64))
  else none
def rm_X10_meanHeight : Room := { frames := 1, cells := 0, slots := 0, locals := 22 }
theorem hd_X10_meanHeight : yX10_meanHeight.cls = RX10 ∧ yX10_meanHeight.cls ≠ "java/lang/invoke/MethodHandle" ∧ yX10_meanHeight.cls ≠ "java/lang/invoke/VarHandle" ∧ (parseMethodDescriptor yX10_meanHeight.desc).map (fun d => d.parameters.length) = some 0 := by decide +kernel
set_option maxHeartbeats 4000000 in
set_option maxRecDepth 100000 in
theorem c_X10_meanHeight (l : Launch) (hlt : l.stackTraces = false) (g : GG) (ha : Nat → Nat → Nat) (tv : TV) (qv : QV)  (out : UInt64) (hf : f_X10_meanHeight tv qv = some out) : MtD l yX10_meanHeight wsX10_meanHeight rm_X10_meanHeight g (wT g ha tv ++ wQ g (ha 1) qv) [.ref (ha 0 0)] out (wT g ha tv ++ wQ g (ha 1) qv) 0 0 := by
  refine fun sz => mt_of (cc := cX10_meanHeight) (maxL := 1) (ret := (some .double)) (own := RX10) (Qc := fun A => va_Qd (fun r (_ : Unit) => r = out) (fun _ t => PosM g A (wT g ha tv ++ wQ g (ha 1) qv) t) A) (by decide +kernel) rfl rfl (Nat.le_of_ble_eq_true rfl) ?_ sz
  intro p e s mi below meth c A ls hB hnm hrt hlk hP hD hl
  obtain ⟨hx, hb, hml, hown, hts, hK, hZ, hT, hA, -⟩ := hB
  have hS : va_S A s.heap s.heap [] := va_S.rf
  have hl : lv_has ls 1 [(0, .ref (ha 0 0))] := hl
  have hinX10 : ∀ w ∈ wsX100, w ∈ wsX10_meanHeight := by decide +kernel
  have k0 := hts (.fieldLink RX10 10 "TerraceQuarry" "quarry" "LTerraceQuarry$Quarry;") (by decide +kernel)
  have k1 := hts (.constantDouble RX10 248 4629137466983448576) (by decide +kernel)
  generalize hQ : MQ below _ _ _ _ _ _ = Q
  unfold f_X10_meanHeight at hf
  refine lv_aload_n hx hb dX10_meanHeight_0 rfl (lv_at hl 0 rfl) ?_
  refine va_get (D := gD g) (ci := 9) (v := .ref (ha 1 0)) (C := RX10) (T := TX10) (N := 9) hx hb hts hinX10 hown hK hP 0 rfl rfl 0 (by decide) k0 (fun _ h9 => h9) rfl dX10_meanHeight_1 ?_
  obtain ⟨o1, g2, hf⟩ := jbB_e hf
  refine cv_i (As := []) (rest := []) (Wr := [0].filterMap (fun i => ((wT g ha tv ++ wQ g (ha 1) qv))[i]?)) ⟨hx, hb, hml, hown, hts⟩ (c_X7_heightSum l g (ha 1) qv _ g2) (cwV 0 hts gX10_meanHeight_X7_heightSum rfl rfl rfl hd_X7_heightSum ⟨Nat.le_of_ble_eq_true rfl, Nat.le_of_ble_eq_true rfl⟩) hK hZ hT hA hP hD hS hl.1 (va_recv hK hP (ci := 7) (q0 := 1) rfl rfl) [1, 2, 3, 4, 5, 6, 7, 8, 9, 10] [0] rfl rfl rfl rfl rfl rfl rfl (Nat.le_of_ble_eq_true rfl) ⟨Nat.le_of_ble_eq_true rfl, Nat.le_of_ble_eq_true rfl⟩ dX10_meanHeight_4 (fun H locs hP hD hS => ?_)
  have hP : va_P (gD g) vwCl (wT g ha tv ++ wQ g (ha 1) qv) H := hP.sub [0, 1, 2, 3, 4, 5, 6, 7, 8, 9, 10] rfl
  have hD : va_D A (wT g ha tv ++ wQ g (ha 1) qv) := hD.sub [0, 1, 2, 3, 4, 5, 6, 7, 8, 9, 10] rfl rfl
  refine lv_i2d hx hb dX10_meanHeight_7 ?_
  refine lv_ldc2d (v := 4629137466983448576) hx hb hown k1 dX10_meanHeight_8 ?_
  obtain ⟨h3, hf⟩ := jbA_e hf
  refine lv_ddiv hx hb dX10_meanHeight_11 h3 ?_
  cases hf
  subst hQ
  exact rt_d hx hb hrt hlk hK hP hD hS (Nat.le_of_ble_eq_true rfl) (Nat.le_of_ble_eq_true rfl) dX10_meanHeight_12
def f_X10_liftedShare (tv : TV) (qv : QV) : Option (Sum Nat UInt32) :=
  (f_X7_cutsDone qv).bind fun o1 =>
  if o1 = 0 then
  (some (.inl 5))
  else
  ((f_X7_liftsDone qv).bind fun o3 =>
  if (FP.fdiv (FP.i2f o3) (FP.i2f o1)) &&& 0x7fffffff ≤ 0x7f800000 then
  some (.inr (FP.fdiv (FP.i2f o3) (FP.i2f o1)))
  else none)
def rm_X10_liftedShare : Room := { frames := 7, cells := 1, slots := 6, locals := 120 }
theorem hd_X10_liftedShare : yX10_liftedShare.cls = RX10 ∧ yX10_liftedShare.cls ≠ "java/lang/invoke/MethodHandle" ∧ yX10_liftedShare.cls ≠ "java/lang/invoke/VarHandle" ∧ (parseMethodDescriptor yX10_liftedShare.desc).map (fun d => d.parameters.length) = some 0 := by decide +kernel
set_option maxHeartbeats 4000000 in
set_option maxRecDepth 100000 in
theorem c_X10_liftedShare (l : Launch) (hlt : l.stackTraces = false) (g : GG) (ha : Nat → Nat → Nat) (tv : TV) (qv : QV)  (out : Sum Nat UInt32) (hf : f_X10_liftedShare tv qv = some out) : MxF l yX10_liftedShare wsX10_liftedShare rm_X10_liftedShare g (wT g ha tv ++ wQ g (ha 1) qv) [.ref (ha 0 0)] out (fun x : UInt32 => x) (fun x : UInt32 => (wT g ha tv ++ wQ g (ha 1) qv)) (fun x : Nat => x) (fun x : Nat => (wT g ha tv ++ wQ g (ha 1) qv)) 1 6 := by
  refine fun sz => mx_of (cc := cX10_liftedShare) (maxL := 2) (ret := (some .float)) (own := RX10) (Qc := fun A => va_Qf (fun r (x : UInt32) => out = .inr x ∧ r = x) (fun x t => PosM g A (wT g ha tv ++ wQ g (ha 1) qv) t) A) (XC := fun A => vx_X (fun (x : Nat) => out = .inl x) (fun E x t => E = exn x ∧ PosM g A (wT g ha tv ++ wQ g (ha 1) qv) t) A) (by decide +kernel) rfl rfl (Nat.le_of_ble_eq_true rfl) ?_ sz
  intro p e s mi below meth c A ls hB htb hrt hlk hP hD hl
  obtain ⟨hx, hb, hml, hown, hts, hK, hZ, hT, hA, -⟩ := hB
  have hS : va_S A s.heap s.heap [] := va_S.rf
  have hl : lv_has ls 2 [(0, .ref (ha 0 0))] := hl
  have hinX10 : ∀ w ∈ wsX100, w ∈ wsX10_liftedShare := by decide +kernel
  have k0 := hts (.fieldLink RX10 10 "TerraceQuarry" "quarry" "LTerraceQuarry$Quarry;") (by decide +kernel)
  generalize hQ : vx_MQ below _ _ _ _ _ _ _ = Q
  unfold f_X10_liftedShare at hf
  refine lv_aload_n hx hb dX10_liftedShare_0 rfl (lv_at hl 0 rfl) ?_
  refine va_get (D := gD g) (ci := 9) (v := .ref (ha 1 0)) (C := RX10) (T := TX10) (N := 9) hx hb hts hinX10 hown hK hP 0 rfl rfl 0 (by decide) k0 (fun _ h9 => h9) rfl dX10_liftedShare_1 ?_
  obtain ⟨o1, g2, hf⟩ := jbB_e hf
  refine cv_i (As := []) (rest := []) (Wr := [0].filterMap (fun i => ((wT g ha tv ++ wQ g (ha 1) qv))[i]?)) ⟨hx, hb, hml, hown, hts⟩ (c_X7_cutsDone l g (ha 1) qv _ g2) (cwV 0 hts gX10_liftedShare_X7_cutsDone rfl rfl rfl hd_X7_cutsDone ⟨Nat.le_of_ble_eq_true rfl, Nat.le_of_ble_eq_true rfl⟩) hK hZ hT hA hP hD hS hl.1 (va_recv hK hP (ci := 7) (q0 := 1) rfl rfl) [1, 2, 3, 4, 5, 6, 7, 8, 9, 10] [0] rfl rfl rfl rfl rfl rfl rfl (Nat.le_of_ble_eq_true rfl) ⟨Nat.le_of_ble_eq_true rfl, Nat.le_of_ble_eq_true rfl⟩ dX10_liftedShare_4 (fun H locs hP hD hS => ?_)
  have hP : va_P (gD g) vwCl (wT g ha tv ++ wQ g (ha 1) qv) H := hP.sub [0, 1, 2, 3, 4, 5, 6, 7, 8, 9, 10] rfl
  have hD : va_D A (wT g ha tv ++ wQ g (ha 1) qv) := hD.sub [0, 1, 2, 3, 4, 5, 6, 7, 8, 9, 10] rfl rfl
  refine lv_istore_n (lv' := [(1, .int o1), (0, .ref (ha 0 0))]) hx hb dX10_liftedShare_7 rfl hl (by decide) rfl (fun ls hl => ?_)
  refine lv_iload_n hx hb dX10_liftedShare_8 rfl (lv_at hl 0 rfl) ?_
  refine lv_if_ne (tgt := 22) hx hb dX10_liftedShare_9 (by decide) (fun hc => ?_) (fun hc => ?_)
  · have hf := jbF hf hc
    refine lv_aload_n hx hb dX10_liftedShare_22 rfl (lv_at hl 1 rfl) ?_
    refine va_get (D := gD g) (ci := 9) (v := .ref (ha 1 0)) (C := RX10) (T := TX10) (N := 9) hx hb hts hinX10 hown hK hP 0 rfl rfl 0 (by decide) k0 (fun _ h9 => h9) rfl dX10_liftedShare_23 ?_
    obtain ⟨o3, g4, hf⟩ := jbB_e hf
    refine cv_i (As := []) (rest := []) (Wr := [0].filterMap (fun i => ((wT g ha tv ++ wQ g (ha 1) qv))[i]?)) ⟨hx, hb, hml, hown, hts⟩ (c_X7_liftsDone l g (ha 1) qv _ g4) (cwV 0 hts gX10_liftedShare_X7_liftsDone rfl rfl rfl hd_X7_liftsDone ⟨Nat.le_of_ble_eq_true rfl, Nat.le_of_ble_eq_true rfl⟩) hK hZ hT hA hP hD hS hl.1 (va_recv hK hP (ci := 7) (q0 := 1) rfl rfl) [1, 2, 3, 4, 5, 6, 7, 8, 9, 10] [0] rfl rfl rfl rfl rfl rfl rfl (Nat.le_of_ble_eq_true rfl) ⟨Nat.le_of_ble_eq_true rfl, Nat.le_of_ble_eq_true rfl⟩ dX10_liftedShare_26 (fun H locs hP hD hS => ?_)
    have hP : va_P (gD g) vwCl (wT g ha tv ++ wQ g (ha 1) qv) H := hP.sub [0, 1, 2, 3, 4, 5, 6, 7, 8, 9, 10] rfl
    have hD : va_D A (wT g ha tv ++ wQ g (ha 1) qv) := hD.sub [0, 1, 2, 3, 4, 5, 6, 7, 8, 9, 10] rfl rfl
    refine lv_i2f hx hb dX10_liftedShare_29 ?_
    refine lv_iload_n hx hb dX10_liftedShare_30 rfl (lv_at hl 0 rfl) ?_
    refine lv_i2f hx hb dX10_liftedShare_31 ?_
    obtain ⟨h5, hf⟩ := jbA_e hf
    refine lv_fdiv hx hb dX10_liftedShare_32 h5 ?_
    cases hf
    subst hQ
    exact rx_f (FP.fdiv (FP.i2f o3) (FP.i2f o1)) rfl rfl hx hb hrt hlk hK hP hD hS (Nat.le_of_ble_eq_true rfl) (Nat.le_of_ble_eq_true rfl) dX10_liftedShare_33
  · have hf := jbT hf hc
    cases hf
    subst hQ
    exact vx_throwS (cls := "java/lang/ArithmeticException") (names := ["java/lang/RuntimeException", "java/lang/Exception"]) hx hb hlt hown (by decide +kernel) (by decide +kernel) (hts (.classLink RX10 250 "java/lang/ArithmeticException") (by decide +kernel)) (hts (.initialized "java/lang/ArithmeticException") (by decide +kernel)) (hT.1 12 ("TerraceQuarry", 252, "there were no cuts") rfl) (ox_5 (fun _ h => List.mem_cons_of_mem _ (List.mem_append_right _ h)) hts hT) og_5 (rx_tt hZ).1 (rx_tt hZ).2 hS (hl.1.trans hml.symm) dX10_liftedShare_12 dX10_liftedShare_15 dX10_liftedShare_16 dX10_liftedShare_18 dX10_liftedShare_21 (fun x h => (htb x h).elim) (by decide) (Nat.le_of_ble_eq_true rfl) (Nat.le_of_ble_eq_true rfl) (Nat.le_of_ble_eq_true rfl) hlk (fun t h1 h2 h3 => rx_xc 5 rfl rfl hK hP hD hS t h1 h2 h3) hS.2.2 (Nat.le_of_ble_eq_true rfl) (Nat.le_of_ble_eq_true rfl)
def f_X10_isConsistent (tv : TV) (qv : QV) (sv : SV) : Option (Int32 × SV) :=
  (f_X7_limit qv).bind fun o1 =>
  (f_X7_stepsWithin qv o1).bind fun o3 =>
  if o3 = 0 then
  (some (0, sv))
  else
  ((f_X8_seamsBySearch sv qv).bind fun o5 =>
  (f_X8_seamsByMerging (o5.2) qv).bind fun o7 =>
  if (o5.1) = (o7.1) then
  ((f_X10_neededCutsAgree tv qv (o7.2)).bind fun o9 =>
  if (o9.1) = 0 then
  (some (0, (o9.2)))
  else
  ((f_X7_cutsDone qv).bind fun o11 =>
  (f_X7_liftsDone qv).bind fun o13 =>
  (f_X7_blockSum qv).bind fun o15 =>
  if o11 = (o13 + o15) then
  (some (1, (o9.2)))
  else
  (some (0, (o9.2)))))
  else
  (some (0, (o7.2))))
def rm_X10_isConsistent : Room := { frames := 4, cells := 0, slots := 0, locals := 92 }
theorem hd_X10_isConsistent : yX10_isConsistent.cls = RX10 ∧ yX10_isConsistent.cls ≠ "java/lang/invoke/MethodHandle" ∧ yX10_isConsistent.cls ≠ "java/lang/invoke/VarHandle" ∧ (parseMethodDescriptor yX10_isConsistent.desc).map (fun d => d.parameters.length) = some 0 := by decide +kernel
set_option maxHeartbeats 4000000 in
set_option maxRecDepth 100000 in
theorem c_X10_isConsistent (l : Launch) (hlt : l.stackTraces = false) (g : GG) (ha : Nat → Nat → Nat) (tv : TV) (qv : QV) (sv : SV)  (out : Int32 × SV) (hf : f_X10_isConsistent tv qv sv = some out) : MtI l yX10_isConsistent wsX10_isConsistent rm_X10_isConsistent g (wT g ha tv ++ wQ g (ha 1) qv ++ wS g (ha 3) sv) [.ref (ha 0 0)] (out.1) (wT g ha tv ++ wQ g (ha 1) qv ++ wS g (ha 3) (out.2)) 0 0 := by
  refine fun sz => mt_of (cc := cX10_isConsistent) (maxL := 1) (ret := (some .boolean)) (own := RX10) (Qc := fun A => va_Qi (fun r (_ : Unit) => r = (out.1)) (fun _ t => PosM g A (wT g ha tv ++ wQ g (ha 1) qv ++ wS g (ha 3) (out.2)) t) A) (by decide +kernel) rfl rfl (Nat.le_of_ble_eq_true rfl) ?_ sz
  intro p e s mi below meth c A ls hB hnm hrt hlk hP hD hl
  obtain ⟨hx, hb, hml, hown, hts, hK, hZ, hT, hA, -⟩ := hB
  have hS : va_S A s.heap s.heap [] := va_S.rf
  have hl : lv_has ls 1 [(0, .ref (ha 0 0))] := hl
  have hinX10 : ∀ w ∈ wsX100, w ∈ wsX10_isConsistent := by decide +kernel
  have k0 := hts (.fieldLink RX10 10 "TerraceQuarry" "quarry" "LTerraceQuarry$Quarry;") (by decide +kernel)
  have k1 := hts (.fieldLink RX10 22 "TerraceQuarry" "survey" "LTerraceQuarry$Survey;") (by decide +kernel)
  generalize hQ : MQ below _ _ _ _ _ _ = Q
  unfold f_X10_isConsistent at hf
  refine lv_aload_n hx hb dX10_isConsistent_0 rfl (lv_at hl 0 rfl) ?_
  refine va_get (D := gD g) (ci := 9) (v := .ref (ha 1 0)) (C := RX10) (T := TX10) (N := 9) hx hb hts hinX10 hown hK hP 0 rfl rfl 0 (by decide) k0 (fun _ h9 => h9) rfl dX10_isConsistent_1 ?_
  refine lv_aload_n hx hb dX10_isConsistent_4 rfl (lv_at hl 0 rfl) ?_
  refine va_get (D := gD g) (ci := 9) (v := .ref (ha 1 0)) (C := RX10) (T := TX10) (N := 9) hx hb hts hinX10 hown hK hP 0 rfl rfl 0 (by decide) k0 (fun _ h9 => h9) rfl dX10_isConsistent_5 ?_
  obtain ⟨o1, g2, hf⟩ := jbB_e hf
  refine cv_i (As := []) (rest := [.ref (ha 1 0)]) (Wr := [0, 11, 12, 13, 14, 15, 16].filterMap (fun i => ((wT g ha tv ++ wQ g (ha 1) qv ++ wS g (ha 3) sv))[i]?)) ⟨hx, hb, hml, hown, hts⟩ (c_X7_limit l g (ha 1) qv _ g2) (cwV 0 hts gX10_isConsistent_X7_limit rfl rfl rfl hd_X7_limit ⟨Nat.le_of_ble_eq_true rfl, Nat.le_of_ble_eq_true rfl⟩) hK hZ hT hA hP hD hS hl.1 (va_recv hK hP (ci := 7) (q0 := 1) rfl rfl) [1, 2, 3, 4, 5, 6, 7, 8, 9, 10] [0, 11, 12, 13, 14, 15, 16] rfl rfl rfl rfl rfl rfl rfl (Nat.le_of_ble_eq_true rfl) ⟨Nat.le_of_ble_eq_true rfl, Nat.le_of_ble_eq_true rfl⟩ dX10_isConsistent_8 (fun H locs hP hD hS => ?_)
  have hP : va_P (gD g) vwCl (wT g ha tv ++ wQ g (ha 1) qv ++ wS g (ha 3) sv) H := hP.sub [0, 7, 8, 9, 10, 11, 12, 13, 14, 15, 16, 1, 2, 3, 4, 5, 6] rfl
  have hD : va_D A (wT g ha tv ++ wQ g (ha 1) qv ++ wS g (ha 3) sv) := hD.sub [0, 7, 8, 9, 10, 11, 12, 13, 14, 15, 16, 1, 2, 3, 4, 5, 6] rfl rfl
  obtain ⟨o3, g4, hf⟩ := jbB_e hf
  refine cv_i (As := [.int o1]) (rest := []) (Wr := [0, 11, 12, 13, 14, 15, 16].filterMap (fun i => ((wT g ha tv ++ wQ g (ha 1) qv ++ wS g (ha 3) sv))[i]?)) ⟨hx, hb, hml, hown, hts⟩ (c_X7_stepsWithin l g (ha 1) qv o1 _ g4) (cwV 1 hts gX10_isConsistent_X7_stepsWithin rfl rfl rfl hd_X7_stepsWithin ⟨Nat.le_of_ble_eq_true rfl, Nat.le_of_ble_eq_true rfl⟩) hK hZ hT hA hP hD hS hl.1 (va_recv hK hP (ci := 7) (q0 := 1) rfl rfl) [1, 2, 3, 4, 5, 6, 7, 8, 9, 10] [0, 11, 12, 13, 14, 15, 16] rfl rfl rfl rfl rfl rfl rfl (Nat.le_of_ble_eq_true rfl) ⟨Nat.le_of_ble_eq_true rfl, Nat.le_of_ble_eq_true rfl⟩ dX10_isConsistent_11 (fun H locs hP hD hS => ?_)
  have hP : va_P (gD g) vwCl (wT g ha tv ++ wQ g (ha 1) qv ++ wS g (ha 3) sv) H := hP.sub [0, 7, 8, 9, 10, 11, 12, 13, 14, 15, 16, 1, 2, 3, 4, 5, 6] rfl
  have hD : va_D A (wT g ha tv ++ wQ g (ha 1) qv ++ wS g (ha 3) sv) := hD.sub [0, 7, 8, 9, 10, 11, 12, 13, 14, 15, 16, 1, 2, 3, 4, 5, 6] rfl rfl
  refine lv_if_eq (tgt := 78) hx hb dX10_isConsistent_14 (by decide) (fun hc => ?_) (fun hc => ?_)
  · have hf := jbT hf hc
    refine lv_iconst (v := 0) hx hb dX10_isConsistent_78 (by decide) ?_
    cases hf
    subst hQ
    exact rt_i hx hb hrt hlk nar_0 hK hP hD hS (Nat.le_of_ble_eq_true rfl) (Nat.le_of_ble_eq_true rfl) dX10_isConsistent_79
  · have hf := jbF hf hc
    refine lv_aload_n hx hb dX10_isConsistent_17 rfl (lv_at hl 0 rfl) ?_
    refine va_get (D := gD g) (ci := 9) (v := .ref (ha 3 0)) (C := RX10) (T := TX10) (N := 9) hx hb hts hinX10 hown hK hP 0 rfl rfl 2 (by decide) k1 (fun _ h9 => h9) rfl dX10_isConsistent_18 ?_
    refine lv_aload_n hx hb dX10_isConsistent_21 rfl (lv_at hl 0 rfl) ?_
    refine va_get (D := gD g) (ci := 9) (v := .ref (ha 1 0)) (C := RX10) (T := TX10) (N := 9) hx hb hts hinX10 hown hK hP 0 rfl rfl 0 (by decide) k0 (fun _ h9 => h9) rfl dX10_isConsistent_22 ?_
    obtain ⟨o5, g6, hf⟩ := jbB_e hf
    refine cv_i (As := [.ref (ha 1 0)]) (rest := []) (Wr := [0].filterMap (fun i => ((wT g ha tv ++ wQ g (ha 1) qv ++ wS g (ha 3) sv))[i]?)) ⟨hx, hb, hml, hown, hts⟩ (c_X8_seamsBySearch l g (ha 3) sv (ha 1) qv _ g6) (cwV 1 hts gX10_isConsistent_X8_seamsBySearch rfl rfl rfl hd_X8_seamsBySearch ⟨Nat.le_of_ble_eq_true rfl, Nat.le_of_ble_eq_true rfl⟩) hK hZ hT hA hP hD hS hl.1 (va_recv hK hP (ci := 8) (q0 := 11) rfl rfl) [11, 12, 13, 14, 15, 16, 1, 2, 3, 4, 5, 6, 7, 8, 9, 10] [0] rfl rfl rfl rfl rfl rfl rfl (Nat.le_of_ble_eq_true rfl) ⟨Nat.le_of_ble_eq_true rfl, Nat.le_of_ble_eq_true rfl⟩ dX10_isConsistent_25 (fun H locs hP hD hS => ?_)
    have hP : va_P (gD g) vwCl (wT g ha tv ++ wQ g (ha 1) qv ++ wS g (ha 3) (o5.2)) H := hP.sub [0, 7, 8, 9, 10, 11, 12, 13, 14, 15, 16, 1, 2, 3, 4, 5, 6] rfl
    have hD : va_D A (wT g ha tv ++ wQ g (ha 1) qv ++ wS g (ha 3) (o5.2)) := hD.sub [0, 7, 8, 9, 10, 11, 12, 13, 14, 15, 16, 1, 2, 3, 4, 5, 6] rfl rfl
    refine lv_aload_n hx hb dX10_isConsistent_28 rfl (lv_at hl 0 rfl) ?_
    refine va_get (D := gD g) (ci := 9) (v := .ref (ha 3 0)) (C := RX10) (T := TX10) (N := 9) hx hb hts hinX10 hown hK hP 0 rfl rfl 2 (by decide) k1 (fun _ h9 => h9) rfl dX10_isConsistent_29 ?_
    refine lv_aload_n hx hb dX10_isConsistent_32 rfl (lv_at hl 0 rfl) ?_
    refine va_get (D := gD g) (ci := 9) (v := .ref (ha 1 0)) (C := RX10) (T := TX10) (N := 9) hx hb hts hinX10 hown hK hP 0 rfl rfl 0 (by decide) k0 (fun _ h9 => h9) rfl dX10_isConsistent_33 ?_
    obtain ⟨o7, g8, hf⟩ := jbB_e hf
    refine cv_i (As := [.ref (ha 1 0)]) (rest := [.int (o5.1)]) (Wr := [0].filterMap (fun i => ((wT g ha tv ++ wQ g (ha 1) qv ++ wS g (ha 3) (o5.2)))[i]?)) ⟨hx, hb, hml, hown, hts⟩ (c_X8_seamsByMerging l g (ha 3) (o5.2) (ha 1) qv _ g8) (cwV 1 hts gX10_isConsistent_X8_seamsByMerging rfl rfl rfl hd_X8_seamsByMerging ⟨Nat.le_of_ble_eq_true rfl, Nat.le_of_ble_eq_true rfl⟩) hK hZ hT hA hP hD hS hl.1 (va_recv hK hP (ci := 8) (q0 := 11) rfl rfl) [11, 12, 13, 14, 15, 16, 1, 2, 3, 4, 5, 6, 7, 8, 9, 10] [0] rfl rfl rfl rfl rfl rfl rfl (Nat.le_of_ble_eq_true rfl) ⟨Nat.le_of_ble_eq_true rfl, Nat.le_of_ble_eq_true rfl⟩ dX10_isConsistent_36 (fun H locs hP hD hS => ?_)
    have hP : va_P (gD g) vwCl (wT g ha tv ++ wQ g (ha 1) qv ++ wS g (ha 3) (o7.2)) H := hP.sub [0, 7, 8, 9, 10, 11, 12, 13, 14, 15, 16, 1, 2, 3, 4, 5, 6] rfl
    have hD : va_D A (wT g ha tv ++ wQ g (ha 1) qv ++ wS g (ha 3) (o7.2)) := hD.sub [0, 7, 8, 9, 10, 11, 12, 13, 14, 15, 16, 1, 2, 3, 4, 5, 6] rfl rfl
    refine lv_icmp_ne (tgt := 78) hx hb dX10_isConsistent_39 (by decide) (fun hc => ?_) (fun hc => ?_)
    · have hf := jbF hf hc
      refine lv_iconst (v := 0) hx hb dX10_isConsistent_78 (by decide) ?_
      cases hf
      subst hQ
      exact rt_i hx hb hrt hlk nar_0 hK hP hD hS (Nat.le_of_ble_eq_true rfl) (Nat.le_of_ble_eq_true rfl) dX10_isConsistent_79
    · have hf := jbT hf hc
      refine lv_aload_n hx hb dX10_isConsistent_42 rfl (lv_at hl 0 rfl) ?_
      obtain ⟨o9, g10, hf⟩ := jbB_e hf
      refine cva_i (As := []) (rest := []) ⟨hx, hb, hml, hown, hts⟩ (c_X10_neededCutsAgree l hlt g ha tv qv (o7.2) _ g10) (cwV 0 hts gX10_isConsistent_X10_neededCutsAgree rfl rfl rfl hd_X10_neededCutsAgree ⟨Nat.le_of_ble_eq_true rfl, Nat.le_of_ble_eq_true rfl⟩) hK hZ hT hA hP hD hS hl.1 (va_recv hK hP (ci := 9) (q0 := 0) rfl rfl) rfl rfl (Nat.le_of_ble_eq_true rfl) ⟨Nat.le_of_ble_eq_true rfl, Nat.le_of_ble_eq_true rfl⟩ dX10_isConsistent_43 (fun H locs hP hD hS => ?_)
      refine lv_if_eq (tgt := 78) hx hb dX10_isConsistent_46 (by decide) (fun hc => ?_) (fun hc => ?_)
      · have hf := jbT hf hc
        refine lv_iconst (v := 0) hx hb dX10_isConsistent_78 (by decide) ?_
        cases hf
        subst hQ
        exact rt_i hx hb hrt hlk nar_0 hK hP hD hS (Nat.le_of_ble_eq_true rfl) (Nat.le_of_ble_eq_true rfl) dX10_isConsistent_79
      · have hf := jbF hf hc
        refine lv_aload_n hx hb dX10_isConsistent_49 rfl (lv_at hl 0 rfl) ?_
        refine va_get (D := gD g) (ci := 9) (v := .ref (ha 1 0)) (C := RX10) (T := TX10) (N := 9) hx hb hts hinX10 hown hK hP 0 rfl rfl 0 (by decide) k0 (fun _ h9 => h9) rfl dX10_isConsistent_50 ?_
        obtain ⟨o11, g12, hf⟩ := jbB_e hf
        refine cv_i (As := []) (rest := []) (Wr := [0, 11, 12, 13, 14, 15, 16].filterMap (fun i => ((wT g ha tv ++ wQ g (ha 1) qv ++ wS g (ha 3) (o9.2)))[i]?)) ⟨hx, hb, hml, hown, hts⟩ (c_X7_cutsDone l g (ha 1) qv _ g12) (cwV 0 hts gX10_isConsistent_X7_cutsDone rfl rfl rfl hd_X7_cutsDone ⟨Nat.le_of_ble_eq_true rfl, Nat.le_of_ble_eq_true rfl⟩) hK hZ hT hA hP hD hS hl.1 (va_recv hK hP (ci := 7) (q0 := 1) rfl rfl) [1, 2, 3, 4, 5, 6, 7, 8, 9, 10] [0, 11, 12, 13, 14, 15, 16] rfl rfl rfl rfl rfl rfl rfl (Nat.le_of_ble_eq_true rfl) ⟨Nat.le_of_ble_eq_true rfl, Nat.le_of_ble_eq_true rfl⟩ dX10_isConsistent_53 (fun H locs hP hD hS => ?_)
        have hP : va_P (gD g) vwCl (wT g ha tv ++ wQ g (ha 1) qv ++ wS g (ha 3) (o9.2)) H := hP.sub [0, 7, 8, 9, 10, 11, 12, 13, 14, 15, 16, 1, 2, 3, 4, 5, 6] rfl
        have hD : va_D A (wT g ha tv ++ wQ g (ha 1) qv ++ wS g (ha 3) (o9.2)) := hD.sub [0, 7, 8, 9, 10, 11, 12, 13, 14, 15, 16, 1, 2, 3, 4, 5, 6] rfl rfl
        refine lv_aload_n hx hb dX10_isConsistent_56 rfl (lv_at hl 0 rfl) ?_
        refine va_get (D := gD g) (ci := 9) (v := .ref (ha 1 0)) (C := RX10) (T := TX10) (N := 9) hx hb hts hinX10 hown hK hP 0 rfl rfl 0 (by decide) k0 (fun _ h9 => h9) rfl dX10_isConsistent_57 ?_
        obtain ⟨o13, g14, hf⟩ := jbB_e hf
        refine cv_i (As := []) (rest := [.int o11]) (Wr := [0, 11, 12, 13, 14, 15, 16].filterMap (fun i => ((wT g ha tv ++ wQ g (ha 1) qv ++ wS g (ha 3) (o9.2)))[i]?)) ⟨hx, hb, hml, hown, hts⟩ (c_X7_liftsDone l g (ha 1) qv _ g14) (cwV 0 hts gX10_isConsistent_X7_liftsDone rfl rfl rfl hd_X7_liftsDone ⟨Nat.le_of_ble_eq_true rfl, Nat.le_of_ble_eq_true rfl⟩) hK hZ hT hA hP hD hS hl.1 (va_recv hK hP (ci := 7) (q0 := 1) rfl rfl) [1, 2, 3, 4, 5, 6, 7, 8, 9, 10] [0, 11, 12, 13, 14, 15, 16] rfl rfl rfl rfl rfl rfl rfl (Nat.le_of_ble_eq_true rfl) ⟨Nat.le_of_ble_eq_true rfl, Nat.le_of_ble_eq_true rfl⟩ dX10_isConsistent_60 (fun H locs hP hD hS => ?_)
        have hP : va_P (gD g) vwCl (wT g ha tv ++ wQ g (ha 1) qv ++ wS g (ha 3) (o9.2)) H := hP.sub [0, 7, 8, 9, 10, 11, 12, 13, 14, 15, 16, 1, 2, 3, 4, 5, 6] rfl
        have hD : va_D A (wT g ha tv ++ wQ g (ha 1) qv ++ wS g (ha 3) (o9.2)) := hD.sub [0, 7, 8, 9, 10, 11, 12, 13, 14, 15, 16, 1, 2, 3, 4, 5, 6] rfl rfl
        refine lv_aload_n hx hb dX10_isConsistent_63 rfl (lv_at hl 0 rfl) ?_
        refine va_get (D := gD g) (ci := 9) (v := .ref (ha 1 0)) (C := RX10) (T := TX10) (N := 9) hx hb hts hinX10 hown hK hP 0 rfl rfl 0 (by decide) k0 (fun _ h9 => h9) rfl dX10_isConsistent_64 ?_
        obtain ⟨o15, g16, hf⟩ := jbB_e hf
        refine cv_i (As := []) (rest := [.int o13, .int o11]) (Wr := [0, 11, 12, 13, 14, 15, 16].filterMap (fun i => ((wT g ha tv ++ wQ g (ha 1) qv ++ wS g (ha 3) (o9.2)))[i]?)) ⟨hx, hb, hml, hown, hts⟩ (c_X7_blockSum l g (ha 1) qv _ g16) (cwV 0 hts gX10_isConsistent_X7_blockSum rfl rfl rfl hd_X7_blockSum ⟨Nat.le_of_ble_eq_true rfl, Nat.le_of_ble_eq_true rfl⟩) hK hZ hT hA hP hD hS hl.1 (va_recv hK hP (ci := 7) (q0 := 1) rfl rfl) [1, 2, 3, 4, 5, 6, 7, 8, 9, 10] [0, 11, 12, 13, 14, 15, 16] rfl rfl rfl rfl rfl rfl rfl (Nat.le_of_ble_eq_true rfl) ⟨Nat.le_of_ble_eq_true rfl, Nat.le_of_ble_eq_true rfl⟩ dX10_isConsistent_67 (fun H locs hP hD hS => ?_)
        have hP : va_P (gD g) vwCl (wT g ha tv ++ wQ g (ha 1) qv ++ wS g (ha 3) (o9.2)) H := hP.sub [0, 7, 8, 9, 10, 11, 12, 13, 14, 15, 16, 1, 2, 3, 4, 5, 6] rfl
        have hD : va_D A (wT g ha tv ++ wQ g (ha 1) qv ++ wS g (ha 3) (o9.2)) := hD.sub [0, 7, 8, 9, 10, 11, 12, 13, 14, 15, 16, 1, 2, 3, 4, 5, 6] rfl rfl
        refine lv_iadd hx hb dX10_isConsistent_70 ?_
        refine lv_icmp_ne (tgt := 78) hx hb dX10_isConsistent_71 (by decide) (fun hc => ?_) (fun hc => ?_)
        · have hf := jbF hf hc
          refine lv_iconst (v := 0) hx hb dX10_isConsistent_78 (by decide) ?_
          cases hf
          subst hQ
          exact rt_i hx hb hrt hlk nar_0 hK hP hD hS (Nat.le_of_ble_eq_true rfl) (Nat.le_of_ble_eq_true rfl) dX10_isConsistent_79
        · have hf := jbT hf hc
          refine lv_iconst (v := 1) hx hb dX10_isConsistent_74 (by decide) ?_
          refine lv_goto (tgt := 79) hx hb dX10_isConsistent_75 (by decide) ?_
          cases hf
          subst hQ
          exact rt_i hx hb hrt hlk nar_1 hK hP hD hS (Nat.le_of_ble_eq_true rfl) (Nat.le_of_ble_eq_true rfl) dX10_isConsistent_79
def f_X10_errorPosition (tv : TV) : Option (Sum Nat Int32) :=
  if (tErrorPosition tv) = (-1) then
  (some (.inl 2))
  else
  (some (.inr (tErrorPosition tv)))
def rm_X10_errorPosition : Room := { frames := 7, cells := 1, slots := 6, locals := 120 }
theorem hd_X10_errorPosition : yX10_errorPosition.cls = RX10 ∧ yX10_errorPosition.cls ≠ "java/lang/invoke/MethodHandle" ∧ yX10_errorPosition.cls ≠ "java/lang/invoke/VarHandle" ∧ (parseMethodDescriptor yX10_errorPosition.desc).map (fun d => d.parameters.length) = some 0 := by decide +kernel
set_option maxHeartbeats 4000000 in
set_option maxRecDepth 100000 in
theorem c_X10_errorPosition (l : Launch) (hlt : l.stackTraces = false) (g : GG) (ha : Nat → Nat → Nat) (tv : TV)  (out : Sum Nat Int32) (hf : f_X10_errorPosition tv = some out) : MxI l yX10_errorPosition wsX10_errorPosition rm_X10_errorPosition g (wT g ha tv) [.ref (ha 0 0)] out (fun x : Int32 => x) (fun x : Int32 => (wT g ha tv)) (fun x : Nat => x) (fun x : Nat => (wT g ha tv)) 1 6 := by
  refine fun sz => mx_of (cc := cX10_errorPosition) (maxL := 1) (ret := (some .int)) (own := RX10) (Qc := fun A => va_Qi (fun r (x : Int32) => out = .inr x ∧ r = x) (fun x t => PosM g A (wT g ha tv) t) A) (XC := fun A => vx_X (fun (x : Nat) => out = .inl x) (fun E x t => E = exn x ∧ PosM g A (wT g ha tv) t) A) (by decide +kernel) rfl rfl (Nat.le_of_ble_eq_true rfl) ?_ sz
  intro p e s mi below meth c A ls hB htb hrt hlk hP hD hl
  obtain ⟨hx, hb, hml, hown, hts, hK, hZ, hT, hA, -⟩ := hB
  have hS : va_S A s.heap s.heap [] := va_S.rf
  have hl : lv_has ls 1 [(0, .ref (ha 0 0))] := hl
  have hinX10 : ∀ w ∈ wsX100, w ∈ wsX10_errorPosition := by decide +kernel
  have k0 := hts (.fieldLink RX10 50 "TerraceQuarry" "errorPosition" "I") (by decide +kernel)
  generalize hQ : vx_MQ below _ _ _ _ _ _ _ = Q
  unfold f_X10_errorPosition at hf
  refine lv_aload_n hx hb dX10_errorPosition_0 rfl (lv_at hl 0 rfl) ?_
  refine va_get (D := gD g) (ci := 9) (v := .int (tErrorPosition tv)) (C := RX10) (T := TX10) (N := 9) hx hb hts hinX10 hown hK hP 0 rfl rfl 7 (by decide) k0 (fun _ h9 => h9) rfl dX10_errorPosition_1 ?_
  refine lv_iconst (v := (-1)) hx hb dX10_errorPosition_4 (by decide) ?_
  refine lv_icmp_ne (tgt := 19) hx hb dX10_errorPosition_5 (by decide) (fun hc => ?_) (fun hc => ?_)
  · have hf := jbF hf hc
    refine lv_aload_n hx hb dX10_errorPosition_19 rfl (lv_at hl 0 rfl) ?_
    refine va_get (D := gD g) (ci := 9) (v := .int (tErrorPosition tv)) (C := RX10) (T := TX10) (N := 9) hx hb hts hinX10 hown hK hP 0 rfl rfl 7 (by decide) k0 (fun _ h9 => h9) rfl dX10_errorPosition_20 ?_
    cases hf
    subst hQ
    exact rx_i (tErrorPosition tv) rfl rfl hx hb hrt hlk rfl hK hP hD hS (Nat.le_of_ble_eq_true rfl) (Nat.le_of_ble_eq_true rfl) dX10_errorPosition_23
  · have hf := jbT hf hc
    cases hf
    subst hQ
    exact nx_throwSW (cls := "java/util/NoSuchElementException") (Y9 := "java/lang/RuntimeException") (names := ["java/lang/Exception"]) (ix := 13) (rx := prog_42_method_4_code) hx hb hlt nse_0 nse_1 nse_2 nse_5 (by decide +kernel) hown (by decide +kernel) (by decide +kernel) (hts (.classLink RX10 192 "java/util/NoSuchElementException") (by decide +kernel)) (hts (.initialized "java/util/NoSuchElementException") (by decide +kernel)) (hT.1 15 ("TerraceQuarry", 302, "no error position was stored") rfl) (ox_2 (fun _ h => List.mem_cons_of_mem _ (List.mem_append_right _ h)) hts hT) og_2 (rx_tt hZ).1 (rx_tt hZ).2 hS (hl.1.trans hml.symm) dX10_errorPosition_8 dX10_errorPosition_11 dX10_errorPosition_12 dX10_errorPosition_15 dX10_errorPosition_18 (fun x h => (htb x h).elim) (by decide) (Nat.le_of_ble_eq_true rfl) (Nat.le_of_ble_eq_true rfl) (Nat.le_of_ble_eq_true rfl) hlk (fun t h1 h2 h3 => rx_xc 2 rfl rfl hK hP hD hS t h1 h2 h3) hS.2.2 (Nat.le_of_ble_eq_true rfl) (Nat.le_of_ble_eq_true rfl)
def f_X10_failedCommand (tv : TV) : Option (Sum Nat Int32) :=
  if (tFailedCommand tv) = (-1) then
  (some (.inl 2))
  else
  (some (.inr (tFailedCommand tv)))
def rm_X10_failedCommand : Room := { frames := 7, cells := 1, slots := 6, locals := 120 }
theorem hd_X10_failedCommand : yX10_failedCommand.cls = RX10 ∧ yX10_failedCommand.cls ≠ "java/lang/invoke/MethodHandle" ∧ yX10_failedCommand.cls ≠ "java/lang/invoke/VarHandle" ∧ (parseMethodDescriptor yX10_failedCommand.desc).map (fun d => d.parameters.length) = some 0 := by decide +kernel
set_option maxHeartbeats 4000000 in
set_option maxRecDepth 100000 in
theorem c_X10_failedCommand (l : Launch) (hlt : l.stackTraces = false) (g : GG) (ha : Nat → Nat → Nat) (tv : TV)  (out : Sum Nat Int32) (hf : f_X10_failedCommand tv = some out) : MxI l yX10_failedCommand wsX10_failedCommand rm_X10_failedCommand g (wT g ha tv) [.ref (ha 0 0)] out (fun x : Int32 => x) (fun x : Int32 => (wT g ha tv)) (fun x : Nat => x) (fun x : Nat => (wT g ha tv)) 1 6 := by
  refine fun sz => mx_of (cc := cX10_failedCommand) (maxL := 1) (ret := (some .int)) (own := RX10) (Qc := fun A => va_Qi (fun r (x : Int32) => out = .inr x ∧ r = x) (fun x t => PosM g A (wT g ha tv) t) A) (XC := fun A => vx_X (fun (x : Nat) => out = .inl x) (fun E x t => E = exn x ∧ PosM g A (wT g ha tv) t) A) (by decide +kernel) rfl rfl (Nat.le_of_ble_eq_true rfl) ?_ sz
  intro p e s mi below meth c A ls hB htb hrt hlk hP hD hl
  obtain ⟨hx, hb, hml, hown, hts, hK, hZ, hT, hA, -⟩ := hB
  have hS : va_S A s.heap s.heap [] := va_S.rf
  have hl : lv_has ls 1 [(0, .ref (ha 0 0))] := hl
  have hinX10 : ∀ w ∈ wsX100, w ∈ wsX10_failedCommand := by decide +kernel
  have k0 := hts (.fieldLink RX10 54 "TerraceQuarry" "failedCommand" "I") (by decide +kernel)
  generalize hQ : vx_MQ below _ _ _ _ _ _ _ = Q
  unfold f_X10_failedCommand at hf
  refine lv_aload_n hx hb dX10_failedCommand_0 rfl (lv_at hl 0 rfl) ?_
  refine va_get (D := gD g) (ci := 9) (v := .int (tFailedCommand tv)) (C := RX10) (T := TX10) (N := 9) hx hb hts hinX10 hown hK hP 0 rfl rfl 8 (by decide) k0 (fun _ h9 => h9) rfl dX10_failedCommand_1 ?_
  refine lv_iconst (v := (-1)) hx hb dX10_failedCommand_4 (by decide) ?_
  refine lv_icmp_ne (tgt := 19) hx hb dX10_failedCommand_5 (by decide) (fun hc => ?_) (fun hc => ?_)
  · have hf := jbF hf hc
    refine lv_aload_n hx hb dX10_failedCommand_19 rfl (lv_at hl 0 rfl) ?_
    refine va_get (D := gD g) (ci := 9) (v := .int (tFailedCommand tv)) (C := RX10) (T := TX10) (N := 9) hx hb hts hinX10 hown hK hP 0 rfl rfl 8 (by decide) k0 (fun _ h9 => h9) rfl dX10_failedCommand_20 ?_
    cases hf
    subst hQ
    exact rx_i (tFailedCommand tv) rfl rfl hx hb hrt hlk rfl hK hP hD hS (Nat.le_of_ble_eq_true rfl) (Nat.le_of_ble_eq_true rfl) dX10_failedCommand_23
  · have hf := jbT hf hc
    cases hf
    subst hQ
    exact nx_throwSW (cls := "java/util/NoSuchElementException") (Y9 := "java/lang/RuntimeException") (names := ["java/lang/Exception"]) (ix := 13) (rx := prog_42_method_4_code) hx hb hlt nse_0 nse_1 nse_2 nse_5 (by decide +kernel) hown (by decide +kernel) (by decide +kernel) (hts (.classLink RX10 192 "java/util/NoSuchElementException") (by decide +kernel)) (hts (.initialized "java/util/NoSuchElementException") (by decide +kernel)) (hT.1 16 ("TerraceQuarry", 304, "no failed command was stored") rfl) (ox_2 (fun _ h => List.mem_cons_of_mem _ (List.mem_append_right _ h)) hts hT) og_2 (rx_tt hZ).1 (rx_tt hZ).2 hS (hl.1.trans hml.symm) dX10_failedCommand_8 dX10_failedCommand_11 dX10_failedCommand_12 dX10_failedCommand_15 dX10_failedCommand_18 (fun x h => (htb x h).elim) (by decide) (Nat.le_of_ble_eq_true rfl) (Nat.le_of_ble_eq_true rfl) (Nat.le_of_ble_eq_true rfl) hlk (fun t h1 h2 h3 => rx_xc 2 rfl rfl hK hP hD hS t h1 h2 h3) hS.2.2 (Nat.le_of_ble_eq_true rfl) (Nat.le_of_ble_eq_true rfl)
def f_X10_writeRow (tv : TV) (qv : QV) (ov : OV) (a0 : Int32) : Option (Sum (Nat × OV) (Int32 × OV)) :=
  (f_X3_hasRow a0).bind fun o1 =>
  if o1 = 0 then
  (some (.inl (0, ov)))
  else
  ((f_X5_write ov qv a0).bind fun o3 =>
  some (.inr ((o3.1), (o3.2))))
def rm_X10_writeRow : Room := { frames := 7, cells := 1, slots := 6, locals := 120 }
theorem hd_X10_writeRow : yX10_writeRow.cls = RX10 ∧ yX10_writeRow.cls ≠ "java/lang/invoke/MethodHandle" ∧ yX10_writeRow.cls ≠ "java/lang/invoke/VarHandle" ∧ (parseMethodDescriptor yX10_writeRow.desc).map (fun d => d.parameters.length) = some 1 := by decide +kernel
set_option maxHeartbeats 4000000 in
set_option maxRecDepth 100000 in
theorem c_X10_writeRow (l : Launch) (hlt : l.stackTraces = false) (g : GG) (ha : Nat → Nat → Nat) (tv : TV) (qv : QV) (ov : OV) (a0 : Int32) (out : Sum (Nat × OV) (Int32 × OV)) (hf : f_X10_writeRow tv qv ov a0 = some out) : MxI l yX10_writeRow wsX10_writeRow rm_X10_writeRow g (wT g ha tv ++ wQ g (ha 1) qv ++ wO g (ha 6) ov) [.ref (ha 0 0), .int a0] out (fun x : Int32 × OV => (x.1)) (fun x : Int32 × OV => (wT g ha tv ++ wQ g (ha 1) qv ++ wO g (ha 6) (x.2))) (fun x : Nat × OV => (x.1)) (fun x : Nat × OV => (wT g ha tv ++ wQ g (ha 1) qv ++ wO g (ha 6) (x.2))) 1 6 := by
  refine fun sz => mx_of (cc := cX10_writeRow) (maxL := 2) (ret := (some .int)) (own := RX10) (Qc := fun A => va_Qi (fun r (x : Int32 × OV) => out = .inr x ∧ r = (x.1)) (fun x t => PosM g A (wT g ha tv ++ wQ g (ha 1) qv ++ wO g (ha 6) (x.2)) t) A) (XC := fun A => vx_X (fun (x : Nat × OV) => out = .inl x) (fun E x t => E = exn (x.1) ∧ PosM g A (wT g ha tv ++ wQ g (ha 1) qv ++ wO g (ha 6) (x.2)) t) A) (by decide +kernel) rfl rfl (Nat.le_of_ble_eq_true rfl) ?_ sz
  intro p e s mi below meth c A ls hB htb hrt hlk hP hD hl
  obtain ⟨hx, hb, hml, hown, hts, hK, hZ, hT, hA, -⟩ := hB
  have hS : va_S A s.heap s.heap [] := va_S.rf
  have hl : lv_has ls 2 [(0, .ref (ha 0 0)), (1, .int a0)] := hl
  have hinX10 : ∀ w ∈ wsX100, w ∈ wsX10_writeRow := by decide +kernel
  have k0 := hts (.fieldLink RX10 43 "TerraceQuarry" "line" "LTerraceQuarry$OutputLine;") (by decide +kernel)
  have k1 := hts (.fieldLink RX10 10 "TerraceQuarry" "quarry" "LTerraceQuarry$Quarry;") (by decide +kernel)
  generalize hQ : vx_MQ below _ _ _ _ _ _ _ = Q
  unfold f_X10_writeRow at hf
  refine lv_iload_n hx hb dX10_writeRow_0 rfl (lv_at hl 1 rfl) ?_
  obtain ⟨o1, g2, hf⟩ := jbB_e hf
  refine csn_i (As := [.int a0]) (rest := []) ⟨hx, hb, hml, hown, hts⟩ (c_X3_hasRow l g a0 _ g2) (va_cwS 1 hts gX10_writeRow_X3_hasRow rfl rfl rfl hd_X3_hasRow ⟨Nat.le_of_ble_eq_true rfl, Nat.le_of_ble_eq_true rfl⟩) hK hZ hT hA hP hD hS hl.1 rfl rfl (Nat.le_of_ble_eq_true rfl) ⟨Nat.le_of_ble_eq_true rfl, Nat.le_of_ble_eq_true rfl⟩ dX10_writeRow_1 (fun H locs hP hD hS => ?_)
  refine lv_if_ne (tgt := 18) hx hb dX10_writeRow_4 (by decide) (fun hc => ?_) (fun hc => ?_)
  · have hf := jbF hf hc
    refine lv_aload_n hx hb dX10_writeRow_18 rfl (lv_at hl 0 rfl) ?_
    refine va_get (D := gD g) (ci := 9) (v := .ref (ha 6 0)) (C := RX10) (T := TX10) (N := 9) hx hb hts hinX10 hown hK hP 0 rfl rfl 5 (by decide) k0 (fun _ h9 => h9) rfl dX10_writeRow_19 ?_
    refine lv_aload_n hx hb dX10_writeRow_22 rfl (lv_at hl 0 rfl) ?_
    refine va_get (D := gD g) (ci := 9) (v := .ref (ha 1 0)) (C := RX10) (T := TX10) (N := 9) hx hb hts hinX10 hown hK hP 0 rfl rfl 0 (by decide) k1 (fun _ h9 => h9) rfl dX10_writeRow_23 ?_
    refine lv_iload_n hx hb dX10_writeRow_26 rfl (lv_at hl 1 rfl) ?_
    obtain ⟨o3, g4, hf⟩ := jbB_e hf
    refine cv_i (As := [.ref (ha 1 0), .int a0]) (rest := []) (Wr := [0].filterMap (fun i => ((wT g ha tv ++ wQ g (ha 1) qv ++ wO g (ha 6) ov))[i]?)) ⟨hx, hb, hml, hown, hts⟩ (c_X5_write l g (ha 6) ov (ha 1) qv a0 _ g4) (cwV 2 hts gX10_writeRow_X5_write rfl rfl rfl hd_X5_write ⟨Nat.le_of_ble_eq_true rfl, Nat.le_of_ble_eq_true rfl⟩) hK hZ hT hA hP hD hS hl.1 (va_recv hK hP (ci := 5) (q0 := 11) rfl rfl) [11, 12, 1, 2, 3, 4, 5, 6, 7, 8, 9, 10] [0] rfl rfl rfl rfl rfl rfl rfl (Nat.le_of_ble_eq_true rfl) ⟨Nat.le_of_ble_eq_true rfl, Nat.le_of_ble_eq_true rfl⟩ dX10_writeRow_27 (fun H locs hP hD hS => ?_)
    have hP : va_P (gD g) vwCl (wT g ha tv ++ wQ g (ha 1) qv ++ wO g (ha 6) (o3.2)) H := hP.sub [0, 3, 4, 5, 6, 7, 8, 9, 10, 11, 12, 1, 2] rfl
    have hD : va_D A (wT g ha tv ++ wQ g (ha 1) qv ++ wO g (ha 6) (o3.2)) := hD.sub [0, 3, 4, 5, 6, 7, 8, 9, 10, 11, 12, 1, 2] rfl rfl
    cases hf
    subst hQ
    exact rx_i ((o3.1), (o3.2)) rfl rfl hx hb hrt hlk rfl hK hP hD hS (Nat.le_of_ble_eq_true rfl) (Nat.le_of_ble_eq_true rfl) dX10_writeRow_30
  · have hf := jbT hf hc
    cases hf
    subst hQ
    exact vx_throwSW (cls := "java/lang/IndexOutOfBoundsException") (names := ["java/lang/RuntimeException", "java/lang/Exception"]) hx hb hlt hown (by decide +kernel) (by decide +kernel) (hts (.classLink RX10 205 "java/lang/IndexOutOfBoundsException") (by decide +kernel)) (hts (.initialized "java/lang/IndexOutOfBoundsException") (by decide +kernel)) (hT.1 17 ("TerraceQuarry", 309, "there is no such row") rfl) (ox_0 (fun _ h => List.mem_cons_of_mem _ (List.mem_append_left _ (List.mem_append_right _ h))) hts hT) og_0 (rx_tt hZ).1 (rx_tt hZ).2 hS (hl.1.trans hml.symm) dX10_writeRow_7 dX10_writeRow_10 dX10_writeRow_11 dX10_writeRow_14 dX10_writeRow_17 (fun x h => (htb x h).elim) (by decide) (Nat.le_of_ble_eq_true rfl) (Nat.le_of_ble_eq_true rfl) (Nat.le_of_ble_eq_true rfl) hlk (fun t h1 h2 h3 => rx_xc (0, ov) rfl rfl hK hP hD hS t h1 h2 h3) hS.2.2 (Nat.le_of_ble_eq_true rfl) (Nat.le_of_ble_eq_true rfl)
def f_X10_outputAt (tv : TV) (ov : OV) (a0 : Int32) : Option (Sum Nat Int32) :=
  (f_X5_hasSign ov a0).bind fun o1 =>
  if o1 = 0 then
  (some (.inl 0))
  else
  ((f_X5_signAt ov a0).bind fun o3 =>
  if vp_nar .char o3 = o3 then some (.inr o3) else none)
def rm_X10_outputAt : Room := { frames := 7, cells := 1, slots := 6, locals := 120 }
theorem hd_X10_outputAt : yX10_outputAt.cls = RX10 ∧ yX10_outputAt.cls ≠ "java/lang/invoke/MethodHandle" ∧ yX10_outputAt.cls ≠ "java/lang/invoke/VarHandle" ∧ (parseMethodDescriptor yX10_outputAt.desc).map (fun d => d.parameters.length) = some 1 := by decide +kernel
set_option maxHeartbeats 4000000 in
set_option maxRecDepth 100000 in
theorem c_X10_outputAt (l : Launch) (hlt : l.stackTraces = false) (g : GG) (ha : Nat → Nat → Nat) (tv : TV) (ov : OV) (a0 : Int32) (out : Sum Nat Int32) (hf : f_X10_outputAt tv ov a0 = some out) : MxI l yX10_outputAt wsX10_outputAt rm_X10_outputAt g (wT g ha tv ++ wO g (ha 6) ov) [.ref (ha 0 0), .int a0] out (fun x : Int32 => x) (fun x : Int32 => (wT g ha tv ++ wO g (ha 6) ov)) (fun x : Nat => x) (fun x : Nat => (wT g ha tv ++ wO g (ha 6) ov)) 1 6 := by
  refine fun sz => mx_of (cc := cX10_outputAt) (maxL := 2) (ret := (some .char)) (own := RX10) (Qc := fun A => va_Qi (fun r (x : Int32) => out = .inr x ∧ r = x) (fun x t => PosM g A (wT g ha tv ++ wO g (ha 6) ov) t) A) (XC := fun A => vx_X (fun (x : Nat) => out = .inl x) (fun E x t => E = exn x ∧ PosM g A (wT g ha tv ++ wO g (ha 6) ov) t) A) (by decide +kernel) rfl rfl (Nat.le_of_ble_eq_true rfl) ?_ sz
  intro p e s mi below meth c A ls hB htb hrt hlk hP hD hl
  obtain ⟨hx, hb, hml, hown, hts, hK, hZ, hT, hA, -⟩ := hB
  have hS : va_S A s.heap s.heap [] := va_S.rf
  have hl : lv_has ls 2 [(0, .ref (ha 0 0)), (1, .int a0)] := hl
  have hinX10 : ∀ w ∈ wsX100, w ∈ wsX10_outputAt := by decide +kernel
  have k0 := hts (.fieldLink RX10 43 "TerraceQuarry" "line" "LTerraceQuarry$OutputLine;") (by decide +kernel)
  generalize hQ : vx_MQ below _ _ _ _ _ _ _ = Q
  unfold f_X10_outputAt at hf
  refine lv_aload_n hx hb dX10_outputAt_0 rfl (lv_at hl 0 rfl) ?_
  refine va_get (D := gD g) (ci := 9) (v := .ref (ha 6 0)) (C := RX10) (T := TX10) (N := 9) hx hb hts hinX10 hown hK hP 0 rfl rfl 5 (by decide) k0 (fun _ h9 => h9) rfl dX10_outputAt_1 ?_
  refine lv_iload_n hx hb dX10_outputAt_4 rfl (lv_at hl 1 rfl) ?_
  obtain ⟨o1, g2, hf⟩ := jbB_e hf
  refine cv_i (As := [.int a0]) (rest := []) (Wr := [0].filterMap (fun i => ((wT g ha tv ++ wO g (ha 6) ov))[i]?)) ⟨hx, hb, hml, hown, hts⟩ (c_X5_hasSign l g (ha 6) ov a0 _ g2) (cwV 1 hts gX10_outputAt_X5_hasSign rfl rfl rfl hd_X5_hasSign ⟨Nat.le_of_ble_eq_true rfl, Nat.le_of_ble_eq_true rfl⟩) hK hZ hT hA hP hD hS hl.1 (va_recv hK hP (ci := 5) (q0 := 1) rfl rfl) [1, 2] [0] rfl rfl rfl rfl rfl rfl rfl (Nat.le_of_ble_eq_true rfl) ⟨Nat.le_of_ble_eq_true rfl, Nat.le_of_ble_eq_true rfl⟩ dX10_outputAt_5 (fun H locs hP hD hS => ?_)
  have hP : va_P (gD g) vwCl (wT g ha tv ++ wO g (ha 6) ov) H := hP.sub [0, 1, 2] rfl
  have hD : va_D A (wT g ha tv ++ wO g (ha 6) ov) := hD.sub [0, 1, 2] rfl rfl
  refine lv_if_ne (tgt := 22) hx hb dX10_outputAt_8 (by decide) (fun hc => ?_) (fun hc => ?_)
  · have hf := jbF hf hc
    refine lv_aload_n hx hb dX10_outputAt_22 rfl (lv_at hl 0 rfl) ?_
    refine va_get (D := gD g) (ci := 9) (v := .ref (ha 6 0)) (C := RX10) (T := TX10) (N := 9) hx hb hts hinX10 hown hK hP 0 rfl rfl 5 (by decide) k0 (fun _ h9 => h9) rfl dX10_outputAt_23 ?_
    refine lv_iload_n hx hb dX10_outputAt_26 rfl (lv_at hl 1 rfl) ?_
    obtain ⟨o3, g4, hf⟩ := jbB_e hf
    refine cv_i (As := [.int a0]) (rest := []) (Wr := [0].filterMap (fun i => ((wT g ha tv ++ wO g (ha 6) ov))[i]?)) ⟨hx, hb, hml, hown, hts⟩ (c_X5_signAt l g (ha 6) ov a0 _ g4) (cwV 1 hts gX10_outputAt_X5_signAt rfl rfl rfl hd_X5_signAt ⟨Nat.le_of_ble_eq_true rfl, Nat.le_of_ble_eq_true rfl⟩) hK hZ hT hA hP hD hS hl.1 (va_recv hK hP (ci := 5) (q0 := 1) rfl rfl) [1, 2] [0] rfl rfl rfl rfl rfl rfl rfl (Nat.le_of_ble_eq_true rfl) ⟨Nat.le_of_ble_eq_true rfl, Nat.le_of_ble_eq_true rfl⟩ dX10_outputAt_27 (fun H locs hP hD hS => ?_)
    have hP : va_P (gD g) vwCl (wT g ha tv ++ wO g (ha 6) ov) H := hP.sub [0, 1, 2] rfl
    have hD : va_D A (wT g ha tv ++ wO g (ha 6) ov) := hD.sub [0, 1, 2] rfl rfl
    obtain ⟨h5, hf⟩ := jbA_e hf
    cases hf
    subst hQ
    exact rx_i o3 rfl rfl hx hb hrt hlk (nar_c h5) hK hP hD hS (Nat.le_of_ble_eq_true rfl) (Nat.le_of_ble_eq_true rfl) dX10_outputAt_30
  · have hf := jbT hf hc
    cases hf
    subst hQ
    exact vx_throwSW (cls := "java/lang/IndexOutOfBoundsException") (names := ["java/lang/RuntimeException", "java/lang/Exception"]) hx hb hlt hown (by decide +kernel) (by decide +kernel) (hts (.classLink RX10 205 "java/lang/IndexOutOfBoundsException") (by decide +kernel)) (hts (.initialized "java/lang/IndexOutOfBoundsException") (by decide +kernel)) (hT.1 18 ("TerraceQuarry", 317, "the output line has no such index") rfl) (ox_0 (fun _ h => List.mem_cons_of_mem _ (List.mem_append_left _ (List.mem_append_right _ h))) hts hT) og_0 (rx_tt hZ).1 (rx_tt hZ).2 hS (hl.1.trans hml.symm) dX10_outputAt_11 dX10_outputAt_14 dX10_outputAt_15 dX10_outputAt_18 dX10_outputAt_21 (fun x h => (htb x h).elim) (by decide) (Nat.le_of_ble_eq_true rfl) (Nat.le_of_ble_eq_true rfl) (Nat.le_of_ble_eq_true rfl) hlk (fun t h1 h2 h3 => rx_xc 0 rfl rfl hK hP hD hS t h1 h2 h3) hS.2.2 (Nat.le_of_ble_eq_true rfl) (Nat.le_of_ble_eq_true rfl)
